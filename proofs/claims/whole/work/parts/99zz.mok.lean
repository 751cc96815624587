/-! ===== every method matches its bytes; the classes; what the soundness asks for (by wip/whole/mk_mok.py) ===== -/
theorem pg_getD {α : Type} {L : List α} {k : Nat} {x : α} (h : L.length ≤ k) : L.getD k x = x := by
  rw [List.getD_eq_getElem?_getD, List.getElem?_eq_none h]
  rfl
theorem pg_hn {k : Nat} (h : pg_hd k 0 = none) : ∀ g, pg_hd k g = none := by
  intro g
  unfold pg_hd at h ⊢
  split at h
  · first | rfl | (rename_i q; rw [q])
  · cases h
  · cases h
noncomputable def pg_one (code : List Instr) (ic : Nat) : Bool := (List.range code.length).all (fun i => !(fx_isCall (code.getD i .nop)) || decide (i = ic))
theorem pg_one_ok {code : List Instr} {ic : Nat} (h : pg_one code ic = true) {i : Nat} {ci : Instr} (hi : code[i]? = some ci) (hc : fx_isCall ci = true) : i = ic := by
  have h1 := List.all_eq_true.mp h i (List.mem_range.mpr (List.getElem?_eq_some_iff.mp hi).1)
  simpa [hi, hc] using h1
noncomputable def pg_oneJ (code : List Instr) (ic : Nat) (t : Int) : Bool := (List.range code.length).all (fun i => match code.getD i .nop with
  | .jsr u => decide (i = ic) && decide (u = t)
  | _ => true)
theorem pg_oneJ_ok {code : List Instr} {ic : Nat} {t : Int} (h : pg_oneJ code ic t = true) {i : Nat} {u : Int} (hi : code[i]? = some (.jsr u)) : i = ic ∧ u = t := by
  have h1 := List.all_eq_true.mp h i (List.mem_range.mpr (List.getElem?_eq_some_iff.mp hi).1)
  simpa [hi] using h1
theorem pg_mOkH {cdm : Nat → List Instr} {k own : Nat} {ini : Bool} {rt : Option FieldType} {bytes : ByteArray} {pl : List Nat} {code : List Instr} (h : pg_chk own ini rt bytes pl 0 code pl = true) (h0 : pl.getD 0 0 = 0) (e1 : cdm k = code) (e2 : pg_pl k = pl) (e3 : pg_bb k = bytes) (e4 : pg_own k = own) (e5 : ((pg_nd k).1 == "<init>") = ini) (e6 : pg_rr k = rt) (e7 : pg_hh k ≠ []) (e8 : ∀ g, pg_hd k g ≠ none) (e9 : code.all (fun c => !pg_isJ c) = true)
    (hht : ∀ i ci, code[i]? = some ci → fx_isCall ci = true → ∀ g tg lo, pg_hd k g = some (tg, lo) → code.drop tg = [] ∨ fx_ht pg_TB pg_NB (pg_R own) bytes (pg_nl k) (tableOf (pg_hh k)) (pl.getD i 0) (pg_xn g) (pl.getD tg 0) lo) : fx_mOk vwCl pg_fty pg_TB pg_NB pg_SL pg_yy pg_bb pg_nl pg_rr pg_na pg_hh pg_xn cdm pg_hd pg_pc k := by
  subst e2; subst e3; subst e4; subst e5; subst e6; subst e1
  refine ⟨h0, fun i ci hi => ?_, fun q => absurd q e7, fun _ => e8⟩
  obtain ⟨o, len, a1, a2, a3⟩ := pg_chk_ok (cdm k) 0 (pg_pl k) h rfl i ci hi
  rw [Nat.zero_add] at a1 a2 a3
  refine ⟨o, len, a1, a2, a3, fun t y q1 q2 => ?_, fun _ hc => hht i ci hi hc⟩
  have := List.all_eq_true.mp e9 _ (List.mem_of_getElem? hi)
  rw [q1] at this
  simp [pg_isJ] at this
set_option maxRecDepth 100000 in
theorem pg_cast13 : ∀ w ∈ [Cond.castable (pg_R 13) (pg_R 13), Cond.castable (pg_R 14) (pg_R 14)], w ∈ pg_NB := pg_inN _ [1053, 637] (by decide +kernel) (by decide +kernel)
set_option maxRecDepth 100000 in
theorem ph_313 : ∀ i ci, cb_313_0[i]? = some ci → fx_isCall ci = true → ∀ g tg lo, pg_hd 313 g = some (tg, lo) → cb_313_0.drop tg = [] ∨ fx_ht pg_TB pg_NB (pg_R 15) method_3_code (pg_nl 313) (tableOf (pg_hh 313)) (pp_313.getD i 0) (pg_xn g) (pp_313.getD tg 0) lo := by
  intro i ci hi hc g tg lo hq
  have hic : i = 4 := pg_one_ok (by decide +kernel) hi hc
  subst hic
  have hq : (if g = 13 then some (9999, 0) else if g = 14 then some (9, 3) else some (9999, 0)) = some (tg, lo) := hq
  by_cases h13 : g = 13
  · subst h13
    rw [if_pos rfl] at hq
    cases hq
    exact Or.inl (by decide +kernel)
  rw [if_neg h13] at hq
  by_cases h14 : g = 14
  · subst h14
    rw [if_pos rfl] at hq
    cases hq
    exact Or.inr ⟨[], ⟨0, 9, 12, 13⟩, [], pg_R 14, rfl, (fun z hz => absurd hz List.not_mem_nil), by decide +kernel, by decide, pg_CLm (by decide +kernel), pg_cast13 _ (by simp [pg_xn]), by decide +kernel, Or.inr ⟨3, by decide +kernel, rfl, by decide +kernel⟩⟩
  rw [if_neg h14] at hq
  cases hq
  exact Or.inl (by decide +kernel)
theorem pm_313 : fx_mOk vwCl pg_fty pg_TB pg_NB pg_SL pg_yy pg_bb pg_nl pg_rr pg_na pg_hh pg_xn pg_cd pg_hd pg_pc 313 := pg_mOkH pk_313 rfl rfl rfl rfl rfl (by decide +kernel) rfl (by decide +kernel) (fun g q => by have q : (if g = 13 then some (9999, 0) else if g = 14 then some (9, 3) else some (9999, 0)) = none := q; split at q; cases q; split at q; cases q; cases q) (by decide +kernel) ph_313
set_option maxRecDepth 100000 in
theorem ph_314 : ∀ i ci, cb_314_0[i]? = some ci → fx_isCall ci = true → ∀ g tg lo, pg_hd 314 g = some (tg, lo) → cb_314_0.drop tg = [] ∨ fx_ht pg_TB pg_NB (pg_R 15) method_4_code (pg_nl 314) (tableOf (pg_hh 314)) (pp_314.getD i 0) (pg_xn g) (pp_314.getD tg 0) lo := by
  intro i ci hi hc g tg lo hq
  have hic : i = 4 := pg_one_ok (by decide +kernel) hi hc
  subst hic
  have hq : (if g = 13 then some (9999, 0) else if g = 14 then some (9, 3) else some (9999, 0)) = some (tg, lo) := hq
  by_cases h13 : g = 13
  · subst h13
    rw [if_pos rfl] at hq
    cases hq
    exact Or.inl (by decide +kernel)
  rw [if_neg h13] at hq
  by_cases h14 : g = 14
  · subst h14
    rw [if_pos rfl] at hq
    cases hq
    exact Or.inr ⟨[], ⟨0, 9, 12, 13⟩, [], pg_R 14, rfl, (fun z hz => absurd hz List.not_mem_nil), by decide +kernel, by decide, pg_CLm (by decide +kernel), pg_cast13 _ (by simp [pg_xn]), by decide +kernel, Or.inr ⟨3, by decide +kernel, rfl, by decide +kernel⟩⟩
  rw [if_neg h14] at hq
  cases hq
  exact Or.inl (by decide +kernel)
theorem pm_314 : fx_mOk vwCl pg_fty pg_TB pg_NB pg_SL pg_yy pg_bb pg_nl pg_rr pg_na pg_hh pg_xn pg_cd pg_hd pg_pc 314 := pg_mOkH pk_314 rfl rfl rfl rfl rfl (by decide +kernel) rfl (by decide +kernel) (fun g q => by have q : (if g = 13 then some (9999, 0) else if g = 14 then some (9, 3) else some (9999, 0)) = none := q; split at q; cases q; split at q; cases q; cases q) (by decide +kernel) ph_314
set_option maxRecDepth 100000 in
theorem ph_315 : ∀ i ci, cb_315_0[i]? = some ci → fx_isCall ci = true → ∀ g tg lo, pg_hd 315 g = some (tg, lo) → cb_315_0.drop tg = [] ∨ fx_ht pg_TB pg_NB (pg_R 15) method_5_code (pg_nl 315) (tableOf (pg_hh 315)) (pp_315.getD i 0) (pg_xn g) (pp_315.getD tg 0) lo := by
  intro i ci hi hc g tg lo hq
  have hic : i = 4 := pg_one_ok (by decide +kernel) hi hc
  subst hic
  have hq : (if g = 13 then some (9999, 0) else if g = 14 then some (9, 3) else some (9999, 0)) = some (tg, lo) := hq
  by_cases h13 : g = 13
  · subst h13
    rw [if_pos rfl] at hq
    cases hq
    exact Or.inl (by decide +kernel)
  rw [if_neg h13] at hq
  by_cases h14 : g = 14
  · subst h14
    rw [if_pos rfl] at hq
    cases hq
    exact Or.inr ⟨[], ⟨0, 9, 12, 13⟩, [], pg_R 14, rfl, (fun z hz => absurd hz List.not_mem_nil), by decide +kernel, by decide, pg_CLm (by decide +kernel), pg_cast13 _ (by simp [pg_xn]), by decide +kernel, Or.inr ⟨3, by decide +kernel, rfl, by decide +kernel⟩⟩
  rw [if_neg h14] at hq
  cases hq
  exact Or.inl (by decide +kernel)
theorem pm_315 : fx_mOk vwCl pg_fty pg_TB pg_NB pg_SL pg_yy pg_bb pg_nl pg_rr pg_na pg_hh pg_xn pg_cd pg_hd pg_pc 315 := pg_mOkH pk_315 rfl rfl rfl rfl rfl (by decide +kernel) rfl (by decide +kernel) (fun g q => by have q : (if g = 13 then some (9999, 0) else if g = 14 then some (9, 3) else some (9999, 0)) = none := q; split at q; cases q; split at q; cases q; cases q) (by decide +kernel) ph_315
set_option maxRecDepth 100000 in
theorem ph_316 : ∀ i ci, cb_316_0[i]? = some ci → fx_isCall ci = true → ∀ g tg lo, pg_hd 316 g = some (tg, lo) → cb_316_0.drop tg = [] ∨ fx_ht pg_TB pg_NB (pg_R 15) method_6_code (pg_nl 316) (tableOf (pg_hh 316)) (pp_316.getD i 0) (pg_xn g) (pp_316.getD tg 0) lo := by
  intro i ci hi hc g tg lo hq
  have hic : i = 4 := pg_one_ok (by decide +kernel) hi hc
  subst hic
  have hq : (if g = 13 then some (9999, 0) else if g = 14 then some (9, 3) else some (9999, 0)) = some (tg, lo) := hq
  by_cases h13 : g = 13
  · subst h13
    rw [if_pos rfl] at hq
    cases hq
    exact Or.inl (by decide +kernel)
  rw [if_neg h13] at hq
  by_cases h14 : g = 14
  · subst h14
    rw [if_pos rfl] at hq
    cases hq
    exact Or.inr ⟨[], ⟨0, 9, 12, 13⟩, [], pg_R 14, rfl, (fun z hz => absurd hz List.not_mem_nil), by decide +kernel, by decide, pg_CLm (by decide +kernel), pg_cast13 _ (by simp [pg_xn]), by decide +kernel, Or.inr ⟨3, by decide +kernel, rfl, by decide +kernel⟩⟩
  rw [if_neg h14] at hq
  cases hq
  exact Or.inl (by decide +kernel)
theorem pm_316 : fx_mOk vwCl pg_fty pg_TB pg_NB pg_SL pg_yy pg_bb pg_nl pg_rr pg_na pg_hh pg_xn pg_cd pg_hd pg_pc 316 := pg_mOkH pk_316 rfl rfl rfl rfl rfl (by decide +kernel) rfl (by decide +kernel) (fun g q => by have q : (if g = 13 then some (9999, 0) else if g = 14 then some (9, 3) else some (9999, 0)) = none := q; split at q; cases q; split at q; cases q; cases q) (by decide +kernel) ph_316
set_option maxRecDepth 100000 in
theorem ph_317 : ∀ i ci, cb_317_0[i]? = some ci → fx_isCall ci = true → ∀ g tg lo, pg_hd 317 g = some (tg, lo) → cb_317_0.drop tg = [] ∨ fx_ht pg_TB pg_NB (pg_R 15) method_7_code (pg_nl 317) (tableOf (pg_hh 317)) (pp_317.getD i 0) (pg_xn g) (pp_317.getD tg 0) lo := by
  intro i ci hi hc g tg lo hq
  have hic : i = 4 := pg_one_ok (by decide +kernel) hi hc
  subst hic
  have hq : (if g = 13 then some (9999, 0) else if g = 14 then some (9, 3) else some (9999, 0)) = some (tg, lo) := hq
  by_cases h13 : g = 13
  · subst h13
    rw [if_pos rfl] at hq
    cases hq
    exact Or.inl (by decide +kernel)
  rw [if_neg h13] at hq
  by_cases h14 : g = 14
  · subst h14
    rw [if_pos rfl] at hq
    cases hq
    exact Or.inr ⟨[], ⟨0, 9, 12, 13⟩, [], pg_R 14, rfl, (fun z hz => absurd hz List.not_mem_nil), by decide +kernel, by decide, pg_CLm (by decide +kernel), pg_cast13 _ (by simp [pg_xn]), by decide +kernel, Or.inr ⟨3, by decide +kernel, rfl, by decide +kernel⟩⟩
  rw [if_neg h14] at hq
  cases hq
  exact Or.inl (by decide +kernel)
theorem pm_317 : fx_mOk vwCl pg_fty pg_TB pg_NB pg_SL pg_yy pg_bb pg_nl pg_rr pg_na pg_hh pg_xn pg_cd pg_hd pg_pc 317 := pg_mOkH pk_317 rfl rfl rfl rfl rfl (by decide +kernel) rfl (by decide +kernel) (fun g q => by have q : (if g = 13 then some (9999, 0) else if g = 14 then some (9, 3) else some (9999, 0)) = none := q; split at q; cases q; split at q; cases q; cases q) (by decide +kernel) ph_317
set_option maxRecDepth 100000 in
theorem ph_318 : ∀ i ci, cb_318_0[i]? = some ci → fx_isCall ci = true → ∀ g tg lo, pg_hd 318 g = some (tg, lo) → cb_318_0.drop tg = [] ∨ fx_ht pg_TB pg_NB (pg_R 15) method_8_code (pg_nl 318) (tableOf (pg_hh 318)) (pp_318.getD i 0) (pg_xn g) (pp_318.getD tg 0) lo := by
  intro i ci hi hc g tg lo hq
  have hic : i = 4 := pg_one_ok (by decide +kernel) hi hc
  subst hic
  have hq : (if g = 13 then some (9999, 0) else if g = 14 then some (9, 3) else some (9999, 0)) = some (tg, lo) := hq
  by_cases h13 : g = 13
  · subst h13
    rw [if_pos rfl] at hq
    cases hq
    exact Or.inl (by decide +kernel)
  rw [if_neg h13] at hq
  by_cases h14 : g = 14
  · subst h14
    rw [if_pos rfl] at hq
    cases hq
    exact Or.inr ⟨[], ⟨0, 9, 12, 13⟩, [], pg_R 14, rfl, (fun z hz => absurd hz List.not_mem_nil), by decide +kernel, by decide, pg_CLm (by decide +kernel), pg_cast13 _ (by simp [pg_xn]), by decide +kernel, Or.inr ⟨3, by decide +kernel, rfl, by decide +kernel⟩⟩
  rw [if_neg h14] at hq
  cases hq
  exact Or.inl (by decide +kernel)
theorem pm_318 : fx_mOk vwCl pg_fty pg_TB pg_NB pg_SL pg_yy pg_bb pg_nl pg_rr pg_na pg_hh pg_xn pg_cd pg_hd pg_pc 318 := pg_mOkH pk_318 rfl rfl rfl rfl rfl (by decide +kernel) rfl (by decide +kernel) (fun g q => by have q : (if g = 13 then some (9999, 0) else if g = 14 then some (9, 3) else some (9999, 0)) = none := q; split at q; cases q; split at q; cases q; cases q) (by decide +kernel) ph_318
set_option maxRecDepth 100000 in
theorem ph_319 : ∀ i ci, cb_319_0[i]? = some ci → fx_isCall ci = true → ∀ g tg lo, pg_hd 319 g = some (tg, lo) → cb_319_0.drop tg = [] ∨ fx_ht pg_TB pg_NB (pg_R 15) method_9_code (pg_nl 319) (tableOf (pg_hh 319)) (pp_319.getD i 0) (pg_xn g) (pp_319.getD tg 0) lo := by
  intro i ci hi hc g tg lo hq
  have hic : i = 5 := pg_one_ok (by decide +kernel) hi hc
  subst hic
  have hq : (if g = 13 then some (10, 4) else if g = 14 then some (13, 4) else some (9999, 0)) = some (tg, lo) := hq
  by_cases h13 : g = 13
  · subst h13
    rw [if_pos rfl] at hq
    cases hq
    exact Or.inr ⟨[], ⟨0, 10, 13, 34⟩, [⟨0, 10, 17, 13⟩], pg_R 13, rfl, (fun z hz => absurd hz List.not_mem_nil), by decide +kernel, by decide, pg_CLm (by decide +kernel), pg_cast13 _ (by simp [pg_xn]), by decide +kernel, Or.inl ⟨by decide +kernel, by decide +kernel⟩⟩
  rw [if_neg h13] at hq
  by_cases h14 : g = 14
  · subst h14
    rw [if_pos rfl] at hq
    cases hq
    exact Or.inr ⟨[⟨0, 10, 13, 34⟩], ⟨0, 10, 17, 13⟩, [], pg_R 14, rfl, (fun z hz => by simp only [List.mem_cons, List.not_mem_nil, or_false] at hz; subst hz; exact Or.inr ⟨by decide, pg_CLm (z := 13) (by decide +kernel), rfl⟩), by decide +kernel, by decide, pg_CLm (by decide +kernel), pg_cast13 _ (by simp [pg_xn]), by decide +kernel, Or.inl ⟨by decide +kernel, by decide +kernel⟩⟩
  rw [if_neg h14] at hq
  cases hq
  exact Or.inl (by decide +kernel)
theorem pm_319 : fx_mOk vwCl pg_fty pg_TB pg_NB pg_SL pg_yy pg_bb pg_nl pg_rr pg_na pg_hh pg_xn pg_cd pg_hd pg_pc 319 := pg_mOkH pk_319 rfl rfl rfl rfl rfl (by decide +kernel) rfl (by decide +kernel) (fun g q => by have q : (if g = 13 then some (10, 4) else if g = 14 then some (13, 4) else some (9999, 0)) = none := q; split at q; cases q; split at q; cases q; cases q) (by decide +kernel) ph_319
set_option maxRecDepth 100000 in
theorem ph_320 : ∀ i ci, cb_320_0[i]? = some ci → fx_isCall ci = true → ∀ g tg lo, pg_hd 320 g = some (tg, lo) → cb_320_0.drop tg = [] ∨ fx_ht pg_TB pg_NB (pg_R 15) method_10_code (pg_nl 320) (tableOf (pg_hh 320)) (pp_320.getD i 0) (pg_xn g) (pp_320.getD tg 0) lo := by
  intro i ci hi hc g tg lo hq
  have hic : i = 5 := pg_one_ok (by decide +kernel) hi hc
  subst hic
  have hq : (if g = 13 then some (10, 4) else if g = 14 then some (13, 4) else some (9999, 0)) = some (tg, lo) := hq
  by_cases h13 : g = 13
  · subst h13
    rw [if_pos rfl] at hq
    cases hq
    exact Or.inr ⟨[], ⟨0, 10, 13, 34⟩, [⟨0, 10, 17, 13⟩], pg_R 13, rfl, (fun z hz => absurd hz List.not_mem_nil), by decide +kernel, by decide, pg_CLm (by decide +kernel), pg_cast13 _ (by simp [pg_xn]), by decide +kernel, Or.inl ⟨by decide +kernel, by decide +kernel⟩⟩
  rw [if_neg h13] at hq
  by_cases h14 : g = 14
  · subst h14
    rw [if_pos rfl] at hq
    cases hq
    exact Or.inr ⟨[⟨0, 10, 13, 34⟩], ⟨0, 10, 17, 13⟩, [], pg_R 14, rfl, (fun z hz => by simp only [List.mem_cons, List.not_mem_nil, or_false] at hz; subst hz; exact Or.inr ⟨by decide, pg_CLm (z := 13) (by decide +kernel), rfl⟩), by decide +kernel, by decide, pg_CLm (by decide +kernel), pg_cast13 _ (by simp [pg_xn]), by decide +kernel, Or.inl ⟨by decide +kernel, by decide +kernel⟩⟩
  rw [if_neg h14] at hq
  cases hq
  exact Or.inl (by decide +kernel)
theorem pm_320 : fx_mOk vwCl pg_fty pg_TB pg_NB pg_SL pg_yy pg_bb pg_nl pg_rr pg_na pg_hh pg_xn pg_cd pg_hd pg_pc 320 := pg_mOkH pk_320 rfl rfl rfl rfl rfl (by decide +kernel) rfl (by decide +kernel) (fun g q => by have q : (if g = 13 then some (10, 4) else if g = 14 then some (13, 4) else some (9999, 0)) = none := q; split at q; cases q; split at q; cases q; cases q) (by decide +kernel) ph_320
set_option maxRecDepth 100000 in
theorem ph_321 : ∀ i ci, cb_321_0[i]? = some ci → fx_isCall ci = true → ∀ g tg lo, pg_hd 321 g = some (tg, lo) → cb_321_0.drop tg = [] ∨ fx_ht pg_TB pg_NB (pg_R 15) method_11_code (pg_nl 321) (tableOf (pg_hh 321)) (pp_321.getD i 0) (pg_xn g) (pp_321.getD tg 0) lo := by
  intro i ci hi hc g tg lo hq
  have hic : i = 5 := pg_one_ok (by decide +kernel) hi hc
  subst hic
  have hq : (if g = 13 then some (10, 4) else if g = 14 then some (13, 4) else some (9999, 0)) = some (tg, lo) := hq
  by_cases h13 : g = 13
  · subst h13
    rw [if_pos rfl] at hq
    cases hq
    exact Or.inr ⟨[], ⟨0, 10, 13, 34⟩, [⟨0, 10, 17, 13⟩], pg_R 13, rfl, (fun z hz => absurd hz List.not_mem_nil), by decide +kernel, by decide, pg_CLm (by decide +kernel), pg_cast13 _ (by simp [pg_xn]), by decide +kernel, Or.inl ⟨by decide +kernel, by decide +kernel⟩⟩
  rw [if_neg h13] at hq
  by_cases h14 : g = 14
  · subst h14
    rw [if_pos rfl] at hq
    cases hq
    exact Or.inr ⟨[⟨0, 10, 13, 34⟩], ⟨0, 10, 17, 13⟩, [], pg_R 14, rfl, (fun z hz => by simp only [List.mem_cons, List.not_mem_nil, or_false] at hz; subst hz; exact Or.inr ⟨by decide, pg_CLm (z := 13) (by decide +kernel), rfl⟩), by decide +kernel, by decide, pg_CLm (by decide +kernel), pg_cast13 _ (by simp [pg_xn]), by decide +kernel, Or.inl ⟨by decide +kernel, by decide +kernel⟩⟩
  rw [if_neg h14] at hq
  cases hq
  exact Or.inl (by decide +kernel)
theorem pm_321 : fx_mOk vwCl pg_fty pg_TB pg_NB pg_SL pg_yy pg_bb pg_nl pg_rr pg_na pg_hh pg_xn pg_cd pg_hd pg_pc 321 := pg_mOkH pk_321 rfl rfl rfl rfl rfl (by decide +kernel) rfl (by decide +kernel) (fun g q => by have q : (if g = 13 then some (10, 4) else if g = 14 then some (13, 4) else some (9999, 0)) = none := q; split at q; cases q; split at q; cases q; cases q) (by decide +kernel) ph_321
set_option maxRecDepth 100000 in
theorem ph_322 : ∀ i ci, cb_322_0[i]? = some ci → fx_isCall ci = true → ∀ g tg lo, pg_hd 322 g = some (tg, lo) → cb_322_0.drop tg = [] ∨ fx_ht pg_TB pg_NB (pg_R 15) method_12_code (pg_nl 322) (tableOf (pg_hh 322)) (pp_322.getD i 0) (pg_xn g) (pp_322.getD tg 0) lo := by
  intro i ci hi hc g tg lo hq
  have hic : i = 4 := pg_one_ok (by decide +kernel) hi hc
  subst hic
  have hq : (if g = 13 then some (9999, 0) else if g = 14 then some (9, 3) else some (9999, 0)) = some (tg, lo) := hq
  by_cases h13 : g = 13
  · subst h13
    rw [if_pos rfl] at hq
    cases hq
    exact Or.inl (by decide +kernel)
  rw [if_neg h13] at hq
  by_cases h14 : g = 14
  · subst h14
    rw [if_pos rfl] at hq
    cases hq
    exact Or.inr ⟨[], ⟨0, 9, 12, 13⟩, [], pg_R 14, rfl, (fun z hz => absurd hz List.not_mem_nil), by decide +kernel, by decide, pg_CLm (by decide +kernel), pg_cast13 _ (by simp [pg_xn]), by decide +kernel, Or.inr ⟨3, by decide +kernel, rfl, by decide +kernel⟩⟩
  rw [if_neg h14] at hq
  cases hq
  exact Or.inl (by decide +kernel)
theorem pm_322 : fx_mOk vwCl pg_fty pg_TB pg_NB pg_SL pg_yy pg_bb pg_nl pg_rr pg_na pg_hh pg_xn pg_cd pg_hd pg_pc 322 := pg_mOkH pk_322 rfl rfl rfl rfl rfl (by decide +kernel) rfl (by decide +kernel) (fun g q => by have q : (if g = 13 then some (9999, 0) else if g = 14 then some (9, 3) else some (9999, 0)) = none := q; split at q; cases q; split at q; cases q; cases q) (by decide +kernel) ph_322
set_option maxRecDepth 100000 in
theorem ph_323 : ∀ i ci, cb_323_0[i]? = some ci → fx_isCall ci = true → ∀ g tg lo, pg_hd 323 g = some (tg, lo) → cb_323_0.drop tg = [] ∨ fx_ht pg_TB pg_NB (pg_R 15) method_13_code (pg_nl 323) (tableOf (pg_hh 323)) (pp_323.getD i 0) (pg_xn g) (pp_323.getD tg 0) lo := by
  intro i ci hi hc g tg lo hq
  have hic : i = 10 := pg_one_ok (by decide +kernel) hi hc
  subst hic
  have hq : (if g = 13 then some (9999, 0) else if g = 14 then some (15, 9) else some (9999, 0)) = some (tg, lo) := hq
  by_cases h13 : g = 13
  · subst h13
    rw [if_pos rfl] at hq
    cases hq
    exact Or.inl (by decide +kernel)
  rw [if_neg h13] at hq
  by_cases h14 : g = 14
  · subst h14
    rw [if_pos rfl] at hq
    cases hq
    exact Or.inr ⟨[], ⟨0, 20, 23, 13⟩, [], pg_R 14, rfl, (fun z hz => absurd hz List.not_mem_nil), by decide +kernel, by decide, pg_CLm (by decide +kernel), pg_cast13 _ (by simp [pg_xn]), by decide +kernel, Or.inl ⟨by decide +kernel, by decide +kernel⟩⟩
  rw [if_neg h14] at hq
  cases hq
  exact Or.inl (by decide +kernel)
theorem pm_323 : fx_mOk vwCl pg_fty pg_TB pg_NB pg_SL pg_yy pg_bb pg_nl pg_rr pg_na pg_hh pg_xn pg_cd pg_hd pg_pc 323 := pg_mOkH pk_323 rfl rfl rfl rfl rfl (by decide +kernel) rfl (by decide +kernel) (fun g q => by have q : (if g = 13 then some (9999, 0) else if g = 14 then some (15, 9) else some (9999, 0)) = none := q; split at q; cases q; split at q; cases q; cases q) (by decide +kernel) ph_323
set_option maxRecDepth 100000 in
theorem ph_324 : ∀ i ci, cb_324_0[i]? = some ci → fx_isCall ci = true → ∀ g tg lo, pg_hd 324 g = some (tg, lo) → cb_324_0.drop tg = [] ∨ fx_ht pg_TB pg_NB (pg_R 15) method_14_code (pg_nl 324) (tableOf (pg_hh 324)) (pp_324.getD i 0) (pg_xn g) (pp_324.getD tg 0) lo := by
  intro i ci hi hc g tg lo hq
  have hic : i = 5 := pg_one_ok (by decide +kernel) hi hc
  subst hic
  have hq : (if g = 13 then some (9999, 0) else if g = 14 then some (10, 4) else some (9999, 0)) = some (tg, lo) := hq
  by_cases h13 : g = 13
  · subst h13
    rw [if_pos rfl] at hq
    cases hq
    exact Or.inl (by decide +kernel)
  rw [if_neg h13] at hq
  by_cases h14 : g = 14
  · subst h14
    rw [if_pos rfl] at hq
    cases hq
    exact Or.inr ⟨[], ⟨0, 10, 13, 13⟩, [], pg_R 14, rfl, (fun z hz => absurd hz List.not_mem_nil), by decide +kernel, by decide, pg_CLm (by decide +kernel), pg_cast13 _ (by simp [pg_xn]), by decide +kernel, Or.inl ⟨by decide +kernel, by decide +kernel⟩⟩
  rw [if_neg h14] at hq
  cases hq
  exact Or.inl (by decide +kernel)
theorem pm_324 : fx_mOk vwCl pg_fty pg_TB pg_NB pg_SL pg_yy pg_bb pg_nl pg_rr pg_na pg_hh pg_xn pg_cd pg_hd pg_pc 324 := pg_mOkH pk_324 rfl rfl rfl rfl rfl (by decide +kernel) rfl (by decide +kernel) (fun g q => by have q : (if g = 13 then some (9999, 0) else if g = 14 then some (10, 4) else some (9999, 0)) = none := q; split at q; cases q; split at q; cases q; cases q) (by decide +kernel) ph_324
set_option maxRecDepth 100000 in
theorem ph_325 : ∀ i ci, cb_325_0[i]? = some ci → fx_isCall ci = true → ∀ g tg lo, pg_hd 325 g = some (tg, lo) → cb_325_0.drop tg = [] ∨ fx_ht pg_TB pg_NB (pg_R 15) method_15_code (pg_nl 325) (tableOf (pg_hh 325)) (pp_325.getD i 0) (pg_xn g) (pp_325.getD tg 0) lo := by
  intro i ci hi hc g tg lo hq
  have hic : i = 4 := pg_one_ok (by decide +kernel) hi hc
  subst hic
  have hq : (if g = 13 then some (9999, 0) else if g = 14 then some (9, 3) else some (9999, 0)) = some (tg, lo) := hq
  by_cases h13 : g = 13
  · subst h13
    rw [if_pos rfl] at hq
    cases hq
    exact Or.inl (by decide +kernel)
  rw [if_neg h13] at hq
  by_cases h14 : g = 14
  · subst h14
    rw [if_pos rfl] at hq
    cases hq
    exact Or.inr ⟨[], ⟨0, 9, 12, 13⟩, [], pg_R 14, rfl, (fun z hz => absurd hz List.not_mem_nil), by decide +kernel, by decide, pg_CLm (by decide +kernel), pg_cast13 _ (by simp [pg_xn]), by decide +kernel, Or.inr ⟨3, by decide +kernel, rfl, by decide +kernel⟩⟩
  rw [if_neg h14] at hq
  cases hq
  exact Or.inl (by decide +kernel)
theorem pm_325 : fx_mOk vwCl pg_fty pg_TB pg_NB pg_SL pg_yy pg_bb pg_nl pg_rr pg_na pg_hh pg_xn pg_cd pg_hd pg_pc 325 := pg_mOkH pk_325 rfl rfl rfl rfl rfl (by decide +kernel) rfl (by decide +kernel) (fun g q => by have q : (if g = 13 then some (9999, 0) else if g = 14 then some (9, 3) else some (9999, 0)) = none := q; split at q; cases q; split at q; cases q; cases q) (by decide +kernel) ph_325
set_option maxRecDepth 100000 in
theorem ph_326 : ∀ i ci, cb_326_0[i]? = some ci → fx_isCall ci = true → ∀ g tg lo, pg_hd 326 g = some (tg, lo) → cb_326_0.drop tg = [] ∨ fx_ht pg_TB pg_NB (pg_R 15) method_16_code (pg_nl 326) (tableOf (pg_hh 326)) (pp_326.getD i 0) (pg_xn g) (pp_326.getD tg 0) lo := by
  intro i ci hi hc g tg lo hq
  have hic : i = 5 := pg_one_ok (by decide +kernel) hi hc
  subst hic
  have hq : (if g = 13 then some (9999, 0) else if g = 14 then some (10, 4) else some (9999, 0)) = some (tg, lo) := hq
  by_cases h13 : g = 13
  · subst h13
    rw [if_pos rfl] at hq
    cases hq
    exact Or.inl (by decide +kernel)
  rw [if_neg h13] at hq
  by_cases h14 : g = 14
  · subst h14
    rw [if_pos rfl] at hq
    cases hq
    exact Or.inr ⟨[], ⟨0, 10, 13, 13⟩, [], pg_R 14, rfl, (fun z hz => absurd hz List.not_mem_nil), by decide +kernel, by decide, pg_CLm (by decide +kernel), pg_cast13 _ (by simp [pg_xn]), by decide +kernel, Or.inl ⟨by decide +kernel, by decide +kernel⟩⟩
  rw [if_neg h14] at hq
  cases hq
  exact Or.inl (by decide +kernel)
theorem pm_326 : fx_mOk vwCl pg_fty pg_TB pg_NB pg_SL pg_yy pg_bb pg_nl pg_rr pg_na pg_hh pg_xn pg_cd pg_hd pg_pc 326 := pg_mOkH pk_326 rfl rfl rfl rfl rfl (by decide +kernel) rfl (by decide +kernel) (fun g q => by have q : (if g = 13 then some (9999, 0) else if g = 14 then some (10, 4) else some (9999, 0)) = none := q; split at q; cases q; split at q; cases q; cases q) (by decide +kernel) ph_326
set_option maxRecDepth 100000 in
theorem ph_327 : ∀ i ci, cb_327_0[i]? = some ci → fx_isCall ci = true → ∀ g tg lo, pg_hd 327 g = some (tg, lo) → cb_327_0.drop tg = [] ∨ fx_ht pg_TB pg_NB (pg_R 15) method_17_code (pg_nl 327) (tableOf (pg_hh 327)) (pp_327.getD i 0) (pg_xn g) (pp_327.getD tg 0) lo := by
  intro i ci hi hc g tg lo hq
  have hic : i = 5 := pg_one_ok (by decide +kernel) hi hc
  subst hic
  have hq : (if g = 13 then some (9999, 0) else if g = 14 then some (10, 4) else some (9999, 0)) = some (tg, lo) := hq
  by_cases h13 : g = 13
  · subst h13
    rw [if_pos rfl] at hq
    cases hq
    exact Or.inl (by decide +kernel)
  rw [if_neg h13] at hq
  by_cases h14 : g = 14
  · subst h14
    rw [if_pos rfl] at hq
    cases hq
    exact Or.inr ⟨[], ⟨0, 10, 13, 13⟩, [], pg_R 14, rfl, (fun z hz => absurd hz List.not_mem_nil), by decide +kernel, by decide, pg_CLm (by decide +kernel), pg_cast13 _ (by simp [pg_xn]), by decide +kernel, Or.inl ⟨by decide +kernel, by decide +kernel⟩⟩
  rw [if_neg h14] at hq
  cases hq
  exact Or.inl (by decide +kernel)
theorem pm_327 : fx_mOk vwCl pg_fty pg_TB pg_NB pg_SL pg_yy pg_bb pg_nl pg_rr pg_na pg_hh pg_xn pg_cd pg_hd pg_pc 327 := pg_mOkH pk_327 rfl rfl rfl rfl rfl (by decide +kernel) rfl (by decide +kernel) (fun g q => by have q : (if g = 13 then some (9999, 0) else if g = 14 then some (10, 4) else some (9999, 0)) = none := q; split at q; cases q; split at q; cases q; cases q) (by decide +kernel) ph_327
set_option maxRecDepth 100000 in
theorem ph_328 : ∀ i ci, cb_328_0[i]? = some ci → fx_isCall ci = true → ∀ g tg lo, pg_hd 328 g = some (tg, lo) → cb_328_0.drop tg = [] ∨ fx_ht pg_TB pg_NB (pg_R 15) method_18_code (pg_nl 328) (tableOf (pg_hh 328)) (pp_328.getD i 0) (pg_xn g) (pp_328.getD tg 0) lo := by
  intro i ci hi hc g tg lo hq
  have hic : i = 5 := pg_one_ok (by decide +kernel) hi hc
  subst hic
  have hq : (if g = 13 then some (10, 4) else if g = 14 then some (13, 4) else some (9999, 0)) = some (tg, lo) := hq
  by_cases h13 : g = 13
  · subst h13
    rw [if_pos rfl] at hq
    cases hq
    exact Or.inr ⟨[], ⟨0, 10, 13, 34⟩, [⟨0, 10, 17, 13⟩], pg_R 13, rfl, (fun z hz => absurd hz List.not_mem_nil), by decide +kernel, by decide, pg_CLm (by decide +kernel), pg_cast13 _ (by simp [pg_xn]), by decide +kernel, Or.inl ⟨by decide +kernel, by decide +kernel⟩⟩
  rw [if_neg h13] at hq
  by_cases h14 : g = 14
  · subst h14
    rw [if_pos rfl] at hq
    cases hq
    exact Or.inr ⟨[⟨0, 10, 13, 34⟩], ⟨0, 10, 17, 13⟩, [], pg_R 14, rfl, (fun z hz => by simp only [List.mem_cons, List.not_mem_nil, or_false] at hz; subst hz; exact Or.inr ⟨by decide, pg_CLm (z := 13) (by decide +kernel), rfl⟩), by decide +kernel, by decide, pg_CLm (by decide +kernel), pg_cast13 _ (by simp [pg_xn]), by decide +kernel, Or.inl ⟨by decide +kernel, by decide +kernel⟩⟩
  rw [if_neg h14] at hq
  cases hq
  exact Or.inl (by decide +kernel)
theorem pm_328 : fx_mOk vwCl pg_fty pg_TB pg_NB pg_SL pg_yy pg_bb pg_nl pg_rr pg_na pg_hh pg_xn pg_cd pg_hd pg_pc 328 := pg_mOkH pk_328 rfl rfl rfl rfl rfl (by decide +kernel) rfl (by decide +kernel) (fun g q => by have q : (if g = 13 then some (10, 4) else if g = 14 then some (13, 4) else some (9999, 0)) = none := q; split at q; cases q; split at q; cases q; cases q) (by decide +kernel) ph_328
set_option maxRecDepth 100000 in
theorem ph_329 : ∀ i ci, cb_329_0[i]? = some ci → fx_isCall ci = true → ∀ g tg lo, pg_hd 329 g = some (tg, lo) → cb_329_0.drop tg = [] ∨ fx_ht pg_TB pg_NB (pg_R 15) method_19_code (pg_nl 329) (tableOf (pg_hh 329)) (pp_329.getD i 0) (pg_xn g) (pp_329.getD tg 0) lo := by
  intro i ci hi hc g tg lo hq
  have hic : i = 4 := pg_one_ok (by decide +kernel) hi hc
  subst hic
  have hq : (if g = 13 then some (9999, 0) else if g = 14 then some (9, 3) else some (9999, 0)) = some (tg, lo) := hq
  by_cases h13 : g = 13
  · subst h13
    rw [if_pos rfl] at hq
    cases hq
    exact Or.inl (by decide +kernel)
  rw [if_neg h13] at hq
  by_cases h14 : g = 14
  · subst h14
    rw [if_pos rfl] at hq
    cases hq
    exact Or.inr ⟨[], ⟨0, 9, 12, 13⟩, [], pg_R 14, rfl, (fun z hz => absurd hz List.not_mem_nil), by decide +kernel, by decide, pg_CLm (by decide +kernel), pg_cast13 _ (by simp [pg_xn]), by decide +kernel, Or.inr ⟨3, by decide +kernel, rfl, by decide +kernel⟩⟩
  rw [if_neg h14] at hq
  cases hq
  exact Or.inl (by decide +kernel)
theorem pm_329 : fx_mOk vwCl pg_fty pg_TB pg_NB pg_SL pg_yy pg_bb pg_nl pg_rr pg_na pg_hh pg_xn pg_cd pg_hd pg_pc 329 := pg_mOkH pk_329 rfl rfl rfl rfl rfl (by decide +kernel) rfl (by decide +kernel) (fun g q => by have q : (if g = 13 then some (9999, 0) else if g = 14 then some (9, 3) else some (9999, 0)) = none := q; split at q; cases q; split at q; cases q; cases q) (by decide +kernel) ph_329
set_option maxRecDepth 100000 in
theorem ph_330 : ∀ i ci, cb_330_0[i]? = some ci → fx_isCall ci = true → ∀ g tg lo, pg_hd 330 g = some (tg, lo) → cb_330_0.drop tg = [] ∨ fx_ht pg_TB pg_NB (pg_R 15) method_20_code (pg_nl 330) (tableOf (pg_hh 330)) (pp_330.getD i 0) (pg_xn g) (pp_330.getD tg 0) lo := by
  intro i ci hi hc g tg lo hq
  have hic : i = 5 := pg_one_ok (by decide +kernel) hi hc
  subst hic
  have hq : (if g = 13 then some (10, 4) else if g = 14 then some (9999, 0) else some (9999, 0)) = some (tg, lo) := hq
  by_cases h13 : g = 13
  · subst h13
    rw [if_pos rfl] at hq
    cases hq
    exact Or.inr ⟨[], ⟨0, 10, 13, 34⟩, [], pg_R 13, rfl, (fun z hz => absurd hz List.not_mem_nil), by decide +kernel, by decide, pg_CLm (by decide +kernel), pg_cast13 _ (by simp [pg_xn]), by decide +kernel, Or.inl ⟨by decide +kernel, by decide +kernel⟩⟩
  rw [if_neg h13] at hq
  by_cases h14 : g = 14
  · subst h14
    rw [if_pos rfl] at hq
    cases hq
    exact Or.inl (by decide +kernel)
  rw [if_neg h14] at hq
  cases hq
  exact Or.inl (by decide +kernel)
theorem pm_330 : fx_mOk vwCl pg_fty pg_TB pg_NB pg_SL pg_yy pg_bb pg_nl pg_rr pg_na pg_hh pg_xn pg_cd pg_hd pg_pc 330 := pg_mOkH pk_330 rfl rfl rfl rfl rfl (by decide +kernel) rfl (by decide +kernel) (fun g q => by have q : (if g = 13 then some (10, 4) else if g = 14 then some (9999, 0) else some (9999, 0)) = none := q; split at q; cases q; split at q; cases q; cases q) (by decide +kernel) ph_330
set_option maxRecDepth 100000 in
theorem ph_331 : ∀ i ci, cb_331_0[i]? = some ci → fx_isCall ci = true → ∀ g tg lo, pg_hd 331 g = some (tg, lo) → cb_331_0.drop tg = [] ∨ fx_ht pg_TB pg_NB (pg_R 15) method_21_code (pg_nl 331) (tableOf (pg_hh 331)) (pp_331.getD i 0) (pg_xn g) (pp_331.getD tg 0) lo := by
  intro i ci hi hc g tg lo hq
  have hic : i = 4 := pg_one_ok (by decide +kernel) hi hc
  subst hic
  have hq : (if g = 13 then some (9, 3) else if g = 14 then some (9999, 0) else some (9999, 0)) = some (tg, lo) := hq
  by_cases h13 : g = 13
  · subst h13
    rw [if_pos rfl] at hq
    cases hq
    exact Or.inr ⟨[], ⟨0, 9, 12, 34⟩, [], pg_R 13, rfl, (fun z hz => absurd hz List.not_mem_nil), by decide +kernel, by decide, pg_CLm (by decide +kernel), pg_cast13 _ (by simp [pg_xn]), by decide +kernel, Or.inr ⟨3, by decide +kernel, rfl, by decide +kernel⟩⟩
  rw [if_neg h13] at hq
  by_cases h14 : g = 14
  · subst h14
    rw [if_pos rfl] at hq
    cases hq
    exact Or.inl (by decide +kernel)
  rw [if_neg h14] at hq
  cases hq
  exact Or.inl (by decide +kernel)
theorem pm_331 : fx_mOk vwCl pg_fty pg_TB pg_NB pg_SL pg_yy pg_bb pg_nl pg_rr pg_na pg_hh pg_xn pg_cd pg_hd pg_pc 331 := pg_mOkH pk_331 rfl rfl rfl rfl rfl (by decide +kernel) rfl (by decide +kernel) (fun g q => by have q : (if g = 13 then some (9, 3) else if g = 14 then some (9999, 0) else some (9999, 0)) = none := q; split at q; cases q; split at q; cases q; cases q) (by decide +kernel) ph_331
set_option maxRecDepth 100000 in
theorem ph_332 : ∀ i ci, cb_332_0[i]? = some ci → fx_isCall ci = true → ∀ g tg lo, pg_hd 332 g = some (tg, lo) → cb_332_0.drop tg = [] ∨ fx_ht pg_TB pg_NB (pg_R 15) method_22_code (pg_nl 332) (tableOf (pg_hh 332)) (pp_332.getD i 0) (pg_xn g) (pp_332.getD tg 0) lo := by
  intro i ci hi hc g tg lo hq
  have hic : i = 6 := pg_one_ok (by decide +kernel) hi hc
  subst hic
  have hq : (if g = 13 then some (10, 5) else if g = 14 then some (13, 5) else some (9999, 0)) = some (tg, lo) := hq
  by_cases h13 : g = 13
  · subst h13
    rw [if_pos rfl] at hq
    cases hq
    exact Or.inr ⟨[], ⟨0, 11, 14, 34⟩, [⟨0, 11, 18, 13⟩], pg_R 13, rfl, (fun z hz => absurd hz List.not_mem_nil), by decide +kernel, by decide, pg_CLm (by decide +kernel), pg_cast13 _ (by simp [pg_xn]), by decide +kernel, Or.inl ⟨by decide +kernel, by decide +kernel⟩⟩
  rw [if_neg h13] at hq
  by_cases h14 : g = 14
  · subst h14
    rw [if_pos rfl] at hq
    cases hq
    exact Or.inr ⟨[⟨0, 11, 14, 34⟩], ⟨0, 11, 18, 13⟩, [], pg_R 14, rfl, (fun z hz => by simp only [List.mem_cons, List.not_mem_nil, or_false] at hz; subst hz; exact Or.inr ⟨by decide, pg_CLm (z := 13) (by decide +kernel), rfl⟩), by decide +kernel, by decide, pg_CLm (by decide +kernel), pg_cast13 _ (by simp [pg_xn]), by decide +kernel, Or.inl ⟨by decide +kernel, by decide +kernel⟩⟩
  rw [if_neg h14] at hq
  cases hq
  exact Or.inl (by decide +kernel)
theorem pm_332 : fx_mOk vwCl pg_fty pg_TB pg_NB pg_SL pg_yy pg_bb pg_nl pg_rr pg_na pg_hh pg_xn pg_cd pg_hd pg_pc 332 := pg_mOkH pk_332 rfl rfl rfl rfl rfl (by decide +kernel) rfl (by decide +kernel) (fun g q => by have q : (if g = 13 then some (10, 5) else if g = 14 then some (13, 5) else some (9999, 0)) = none := q; split at q; cases q; split at q; cases q; cases q) (by decide +kernel) ph_332
set_option maxRecDepth 100000 in
theorem ph_333 : ∀ i ci, cb_333_0[i]? = some ci → fx_isCall ci = true → ∀ g tg lo, pg_hd 333 g = some (tg, lo) → cb_333_0.drop tg = [] ∨ fx_ht pg_TB pg_NB (pg_R 15) method_23_code (pg_nl 333) (tableOf (pg_hh 333)) (pp_333.getD i 0) (pg_xn g) (pp_333.getD tg 0) lo := by
  intro i ci hi hc g tg lo hq
  have hic : i = 5 := pg_one_ok (by decide +kernel) hi hc
  subst hic
  have hq : (if g = 13 then some (10, 4) else if g = 14 then some (13, 4) else some (9999, 0)) = some (tg, lo) := hq
  by_cases h13 : g = 13
  · subst h13
    rw [if_pos rfl] at hq
    cases hq
    exact Or.inr ⟨[], ⟨0, 10, 13, 34⟩, [⟨0, 10, 17, 13⟩], pg_R 13, rfl, (fun z hz => absurd hz List.not_mem_nil), by decide +kernel, by decide, pg_CLm (by decide +kernel), pg_cast13 _ (by simp [pg_xn]), by decide +kernel, Or.inl ⟨by decide +kernel, by decide +kernel⟩⟩
  rw [if_neg h13] at hq
  by_cases h14 : g = 14
  · subst h14
    rw [if_pos rfl] at hq
    cases hq
    exact Or.inr ⟨[⟨0, 10, 13, 34⟩], ⟨0, 10, 17, 13⟩, [], pg_R 14, rfl, (fun z hz => by simp only [List.mem_cons, List.not_mem_nil, or_false] at hz; subst hz; exact Or.inr ⟨by decide, pg_CLm (z := 13) (by decide +kernel), rfl⟩), by decide +kernel, by decide, pg_CLm (by decide +kernel), pg_cast13 _ (by simp [pg_xn]), by decide +kernel, Or.inl ⟨by decide +kernel, by decide +kernel⟩⟩
  rw [if_neg h14] at hq
  cases hq
  exact Or.inl (by decide +kernel)
theorem pm_333 : fx_mOk vwCl pg_fty pg_TB pg_NB pg_SL pg_yy pg_bb pg_nl pg_rr pg_na pg_hh pg_xn pg_cd pg_hd pg_pc 333 := pg_mOkH pk_333 rfl rfl rfl rfl rfl (by decide +kernel) rfl (by decide +kernel) (fun g q => by have q : (if g = 13 then some (10, 4) else if g = 14 then some (13, 4) else some (9999, 0)) = none := q; split at q; cases q; split at q; cases q; cases q) (by decide +kernel) ph_333
set_option maxRecDepth 100000 in
theorem ph_334 : ∀ i ci, cb_334_0[i]? = some ci → fx_isCall ci = true → ∀ g tg lo, pg_hd 334 g = some (tg, lo) → cb_334_0.drop tg = [] ∨ fx_ht pg_TB pg_NB (pg_R 15) method_24_code (pg_nl 334) (tableOf (pg_hh 334)) (pp_334.getD i 0) (pg_xn g) (pp_334.getD tg 0) lo := by
  intro i ci hi hc g tg lo hq
  have hic : i = 4 := pg_one_ok (by decide +kernel) hi hc
  subst hic
  have hq : (if g = 13 then some (9999, 0) else if g = 14 then some (9, 3) else some (9999, 0)) = some (tg, lo) := hq
  by_cases h13 : g = 13
  · subst h13
    rw [if_pos rfl] at hq
    cases hq
    exact Or.inl (by decide +kernel)
  rw [if_neg h13] at hq
  by_cases h14 : g = 14
  · subst h14
    rw [if_pos rfl] at hq
    cases hq
    exact Or.inr ⟨[], ⟨0, 9, 12, 13⟩, [], pg_R 14, rfl, (fun z hz => absurd hz List.not_mem_nil), by decide +kernel, by decide, pg_CLm (by decide +kernel), pg_cast13 _ (by simp [pg_xn]), by decide +kernel, Or.inr ⟨3, by decide +kernel, rfl, by decide +kernel⟩⟩
  rw [if_neg h14] at hq
  cases hq
  exact Or.inl (by decide +kernel)
theorem pm_334 : fx_mOk vwCl pg_fty pg_TB pg_NB pg_SL pg_yy pg_bb pg_nl pg_rr pg_na pg_hh pg_xn pg_cd pg_hd pg_pc 334 := pg_mOkH pk_334 rfl rfl rfl rfl rfl (by decide +kernel) rfl (by decide +kernel) (fun g q => by have q : (if g = 13 then some (9999, 0) else if g = 14 then some (9, 3) else some (9999, 0)) = none := q; split at q; cases q; split at q; cases q; cases q) (by decide +kernel) ph_334
set_option maxRecDepth 100000 in
theorem ph_335 : ∀ i ci, cb_335_0[i]? = some ci → fx_isCall ci = true → ∀ g tg lo, pg_hd 335 g = some (tg, lo) → cb_335_0.drop tg = [] ∨ fx_ht pg_TB pg_NB (pg_R 15) method_25_code (pg_nl 335) (tableOf (pg_hh 335)) (pp_335.getD i 0) (pg_xn g) (pp_335.getD tg 0) lo := by
  intro i ci hi hc g tg lo hq
  have hic : i = 8 := pg_one_ok (by decide +kernel) hi hc
  subst hic
  have hq : (if g = 13 then some (12, 7) else if g = 14 then some (15, 7) else some (9999, 0)) = some (tg, lo) := hq
  by_cases h13 : g = 13
  · subst h13
    rw [if_pos rfl] at hq
    cases hq
    exact Or.inr ⟨[], ⟨0, 15, 18, 34⟩, [⟨0, 15, 22, 13⟩], pg_R 13, rfl, (fun z hz => absurd hz List.not_mem_nil), by decide +kernel, by decide, pg_CLm (by decide +kernel), pg_cast13 _ (by simp [pg_xn]), by decide +kernel, Or.inl ⟨by decide +kernel, by decide +kernel⟩⟩
  rw [if_neg h13] at hq
  by_cases h14 : g = 14
  · subst h14
    rw [if_pos rfl] at hq
    cases hq
    exact Or.inr ⟨[⟨0, 15, 18, 34⟩], ⟨0, 15, 22, 13⟩, [], pg_R 14, rfl, (fun z hz => by simp only [List.mem_cons, List.not_mem_nil, or_false] at hz; subst hz; exact Or.inr ⟨by decide, pg_CLm (z := 13) (by decide +kernel), rfl⟩), by decide +kernel, by decide, pg_CLm (by decide +kernel), pg_cast13 _ (by simp [pg_xn]), by decide +kernel, Or.inl ⟨by decide +kernel, by decide +kernel⟩⟩
  rw [if_neg h14] at hq
  cases hq
  exact Or.inl (by decide +kernel)
theorem pm_335 : fx_mOk vwCl pg_fty pg_TB pg_NB pg_SL pg_yy pg_bb pg_nl pg_rr pg_na pg_hh pg_xn pg_cd pg_hd pg_pc 335 := pg_mOkH pk_335 rfl rfl rfl rfl rfl (by decide +kernel) rfl (by decide +kernel) (fun g q => by have q : (if g = 13 then some (12, 7) else if g = 14 then some (15, 7) else some (9999, 0)) = none := q; split at q; cases q; split at q; cases q; cases q) (by decide +kernel) ph_335
set_option maxRecDepth 100000 in
theorem ph_336 : ∀ i ci, cb_336_0[i]? = some ci → fx_isCall ci = true → ∀ g tg lo, pg_hd 336 g = some (tg, lo) → cb_336_0.drop tg = [] ∨ fx_ht pg_TB pg_NB (pg_R 15) method_26_code (pg_nl 336) (tableOf (pg_hh 336)) (pp_336.getD i 0) (pg_xn g) (pp_336.getD tg 0) lo := by
  intro i ci hi hc g tg lo hq
  have hic : i = 5 := pg_one_ok (by decide +kernel) hi hc
  subst hic
  have hq : (if g = 13 then some (10, 4) else if g = 14 then some (9999, 0) else some (9999, 0)) = some (tg, lo) := hq
  by_cases h13 : g = 13
  · subst h13
    rw [if_pos rfl] at hq
    cases hq
    exact Or.inr ⟨[], ⟨0, 10, 13, 34⟩, [], pg_R 13, rfl, (fun z hz => absurd hz List.not_mem_nil), by decide +kernel, by decide, pg_CLm (by decide +kernel), pg_cast13 _ (by simp [pg_xn]), by decide +kernel, Or.inl ⟨by decide +kernel, by decide +kernel⟩⟩
  rw [if_neg h13] at hq
  by_cases h14 : g = 14
  · subst h14
    rw [if_pos rfl] at hq
    cases hq
    exact Or.inl (by decide +kernel)
  rw [if_neg h14] at hq
  cases hq
  exact Or.inl (by decide +kernel)
theorem pm_336 : fx_mOk vwCl pg_fty pg_TB pg_NB pg_SL pg_yy pg_bb pg_nl pg_rr pg_na pg_hh pg_xn pg_cd pg_hd pg_pc 336 := pg_mOkH pk_336 rfl rfl rfl rfl rfl (by decide +kernel) rfl (by decide +kernel) (fun g q => by have q : (if g = 13 then some (10, 4) else if g = 14 then some (9999, 0) else some (9999, 0)) = none := q; split at q; cases q; split at q; cases q; cases q) (by decide +kernel) ph_336
set_option maxRecDepth 100000 in
theorem ph_337 : ∀ i ci, cb_337_0[i]? = some ci → fx_isCall ci = true → ∀ g tg lo, pg_hd 337 g = some (tg, lo) → cb_337_0.drop tg = [] ∨ fx_ht pg_TB pg_NB (pg_R 15) method_27_code (pg_nl 337) (tableOf (pg_hh 337)) (pp_337.getD i 0) (pg_xn g) (pp_337.getD tg 0) lo := by
  intro i ci hi hc g tg lo hq
  have hic : i = 4 := pg_one_ok (by decide +kernel) hi hc
  subst hic
  have hq : (if g = 13 then some (9, 3) else if g = 14 then some (9999, 0) else some (9999, 0)) = some (tg, lo) := hq
  by_cases h13 : g = 13
  · subst h13
    rw [if_pos rfl] at hq
    cases hq
    exact Or.inr ⟨[], ⟨0, 9, 12, 34⟩, [], pg_R 13, rfl, (fun z hz => absurd hz List.not_mem_nil), by decide +kernel, by decide, pg_CLm (by decide +kernel), pg_cast13 _ (by simp [pg_xn]), by decide +kernel, Or.inr ⟨3, by decide +kernel, rfl, by decide +kernel⟩⟩
  rw [if_neg h13] at hq
  by_cases h14 : g = 14
  · subst h14
    rw [if_pos rfl] at hq
    cases hq
    exact Or.inl (by decide +kernel)
  rw [if_neg h14] at hq
  cases hq
  exact Or.inl (by decide +kernel)
theorem pm_337 : fx_mOk vwCl pg_fty pg_TB pg_NB pg_SL pg_yy pg_bb pg_nl pg_rr pg_na pg_hh pg_xn pg_cd pg_hd pg_pc 337 := pg_mOkH pk_337 rfl rfl rfl rfl rfl (by decide +kernel) rfl (by decide +kernel) (fun g q => by have q : (if g = 13 then some (9, 3) else if g = 14 then some (9999, 0) else some (9999, 0)) = none := q; split at q; cases q; split at q; cases q; cases q) (by decide +kernel) ph_337
set_option maxRecDepth 100000 in
theorem ph_338 : ∀ i ci, cb_338_0[i]? = some ci → fx_isCall ci = true → ∀ g tg lo, pg_hd 338 g = some (tg, lo) → cb_338_0.drop tg = [] ∨ fx_ht pg_TB pg_NB (pg_R 15) method_28_code (pg_nl 338) (tableOf (pg_hh 338)) (pp_338.getD i 0) (pg_xn g) (pp_338.getD tg 0) lo := by
  intro i ci hi hc g tg lo hq
  have hic : i = 5 := pg_one_ok (by decide +kernel) hi hc
  subst hic
  have hq : (if g = 13 then some (10, 4) else if g = 14 then some (13, 4) else some (9999, 0)) = some (tg, lo) := hq
  by_cases h13 : g = 13
  · subst h13
    rw [if_pos rfl] at hq
    cases hq
    exact Or.inr ⟨[], ⟨0, 10, 13, 34⟩, [⟨0, 10, 17, 13⟩], pg_R 13, rfl, (fun z hz => absurd hz List.not_mem_nil), by decide +kernel, by decide, pg_CLm (by decide +kernel), pg_cast13 _ (by simp [pg_xn]), by decide +kernel, Or.inl ⟨by decide +kernel, by decide +kernel⟩⟩
  rw [if_neg h13] at hq
  by_cases h14 : g = 14
  · subst h14
    rw [if_pos rfl] at hq
    cases hq
    exact Or.inr ⟨[⟨0, 10, 13, 34⟩], ⟨0, 10, 17, 13⟩, [], pg_R 14, rfl, (fun z hz => by simp only [List.mem_cons, List.not_mem_nil, or_false] at hz; subst hz; exact Or.inr ⟨by decide, pg_CLm (z := 13) (by decide +kernel), rfl⟩), by decide +kernel, by decide, pg_CLm (by decide +kernel), pg_cast13 _ (by simp [pg_xn]), by decide +kernel, Or.inl ⟨by decide +kernel, by decide +kernel⟩⟩
  rw [if_neg h14] at hq
  cases hq
  exact Or.inl (by decide +kernel)
theorem pm_338 : fx_mOk vwCl pg_fty pg_TB pg_NB pg_SL pg_yy pg_bb pg_nl pg_rr pg_na pg_hh pg_xn pg_cd pg_hd pg_pc 338 := pg_mOkH pk_338 rfl rfl rfl rfl rfl (by decide +kernel) rfl (by decide +kernel) (fun g q => by have q : (if g = 13 then some (10, 4) else if g = 14 then some (13, 4) else some (9999, 0)) = none := q; split at q; cases q; split at q; cases q; cases q) (by decide +kernel) ph_338
set_option maxRecDepth 100000 in
theorem ph_339 : ∀ i ci, cb_339_0[i]? = some ci → fx_isCall ci = true → ∀ g tg lo, pg_hd 339 g = some (tg, lo) → cb_339_0.drop tg = [] ∨ fx_ht pg_TB pg_NB (pg_R 15) method_29_code (pg_nl 339) (tableOf (pg_hh 339)) (pp_339.getD i 0) (pg_xn g) (pp_339.getD tg 0) lo := by
  intro i ci hi hc g tg lo hq
  have hic : i = 7 := pg_one_ok (by decide +kernel) hi hc
  subst hic
  have hq : (if g = 13 then some (9999, 0) else if g = 14 then some (12, 6) else some (9999, 0)) = some (tg, lo) := hq
  by_cases h13 : g = 13
  · subst h13
    rw [if_pos rfl] at hq
    cases hq
    exact Or.inl (by decide +kernel)
  rw [if_neg h13] at hq
  by_cases h14 : g = 14
  · subst h14
    rw [if_pos rfl] at hq
    cases hq
    exact Or.inr ⟨[], ⟨0, 14, 17, 13⟩, [], pg_R 14, rfl, (fun z hz => absurd hz List.not_mem_nil), by decide +kernel, by decide, pg_CLm (by decide +kernel), pg_cast13 _ (by simp [pg_xn]), by decide +kernel, Or.inl ⟨by decide +kernel, by decide +kernel⟩⟩
  rw [if_neg h14] at hq
  cases hq
  exact Or.inl (by decide +kernel)
theorem pm_339 : fx_mOk vwCl pg_fty pg_TB pg_NB pg_SL pg_yy pg_bb pg_nl pg_rr pg_na pg_hh pg_xn pg_cd pg_hd pg_pc 339 := pg_mOkH pk_339 rfl rfl rfl rfl rfl (by decide +kernel) rfl (by decide +kernel) (fun g q => by have q : (if g = 13 then some (9999, 0) else if g = 14 then some (12, 6) else some (9999, 0)) = none := q; split at q; cases q; split at q; cases q; cases q) (by decide +kernel) ph_339
set_option maxRecDepth 100000 in
theorem ph_340 : ∀ i ci, cb_340_0[i]? = some ci → fx_isCall ci = true → ∀ g tg lo, pg_hd 340 g = some (tg, lo) → cb_340_0.drop tg = [] ∨ fx_ht pg_TB pg_NB (pg_R 15) method_30_code (pg_nl 340) (tableOf (pg_hh 340)) (pp_340.getD i 0) (pg_xn g) (pp_340.getD tg 0) lo := by
  intro i ci hi hc g tg lo hq
  have hic : i = 9 := pg_one_ok (by decide +kernel) hi hc
  subst hic
  have hq : (if g = 13 then some (9999, 0) else if g = 14 then some (14, 8) else some (9999, 0)) = some (tg, lo) := hq
  by_cases h13 : g = 13
  · subst h13
    rw [if_pos rfl] at hq
    cases hq
    exact Or.inl (by decide +kernel)
  rw [if_neg h13] at hq
  by_cases h14 : g = 14
  · subst h14
    rw [if_pos rfl] at hq
    cases hq
    exact Or.inr ⟨[], ⟨0, 18, 21, 13⟩, [], pg_R 14, rfl, (fun z hz => absurd hz List.not_mem_nil), by decide +kernel, by decide, pg_CLm (by decide +kernel), pg_cast13 _ (by simp [pg_xn]), by decide +kernel, Or.inl ⟨by decide +kernel, by decide +kernel⟩⟩
  rw [if_neg h14] at hq
  cases hq
  exact Or.inl (by decide +kernel)
theorem pm_340 : fx_mOk vwCl pg_fty pg_TB pg_NB pg_SL pg_yy pg_bb pg_nl pg_rr pg_na pg_hh pg_xn pg_cd pg_hd pg_pc 340 := pg_mOkH pk_340 rfl rfl rfl rfl rfl (by decide +kernel) rfl (by decide +kernel) (fun g q => by have q : (if g = 13 then some (9999, 0) else if g = 14 then some (14, 8) else some (9999, 0)) = none := q; split at q; cases q; split at q; cases q; cases q) (by decide +kernel) ph_340
theorem pg_lw {w : Cond} (h : w ∈ lw_tbl) (hg : goodWord w = true ∨ fx_nw w = true) : w ∈ pg_TB ∨ w ∈ pg_NB := by
  rcases hg with hg | hg
  · exact Or.inl (List.mem_filter.mpr ⟨h, hg⟩)
  · right
    refine List.mem_filter.mpr ⟨?_, hg⟩
    rcases List.mem_append.mp h with q | q
    · obtain ⟨x, -, hx⟩ := List.mem_map.mp q
      subst hx
      cases hg
    · exact q
noncomputable def pg_exn : List String := ["java/lang/RuntimeException", "java/lang/Exception"]
set_option maxRecDepth 100000 in
set_option maxHeartbeats 4000000 in
theorem pa_182 : ((fx_atX (pg_R 11) 361 (pg_R 13) "java/lang/RuntimeException" 13 prog_30_method_4_code ["java/lang/Exception"]).filter vx_no).all (fun w => decide (w ∈ lw_tbl)) = true := by decide +kernel
set_option maxRecDepth 100000 in
theorem pa2_182 : ((fx_atX (pg_R 11) 361 (pg_R 13) "java/lang/RuntimeException" 13 prog_30_method_4_code ["java/lang/Exception"]).filter vx_no).all (fun w => goodWord w || fx_nw w) = true := by decide +kernel
set_option maxRecDepth 100000 in
theorem pa3_182 : (Cond.classLink (pg_R 11) 357 (pg_R 13) :: Cond.initialized (pg_R 13) :: (fx_atX (pg_R 11) 361 (pg_R 13) "java/lang/RuntimeException" 13 prog_30_method_4_code ["java/lang/Exception"]).filter vx_no).all vx_ot = true := by decide +kernel
set_option maxRecDepth 100000 in
theorem pj_182 : ∀ i t o len, cb_182_0[i]? = some (.jsr t) → decode prog_1_method_42_code (pp_182.getD i 0) = .ok (o, len) → ∀ y, o = .new y → fx_jt pg_TB pg_NB pg_SL (pg_R 11) prog_1_method_42_code (pp_182.getD i 0) y (pg_xn t.toNat) := by
  intro i t o len hi hd y hy
  obtain ⟨rfl, rfl⟩ := pg_oneJ_ok (ic := 6) (t := 13) (by decide +kernel) hi
  subst hy
  have hd2 : decode prog_1_method_42_code (pp_182.getD 6 0) = .ok (.new 357, 3) := by decide +kernel
  rw [hd2] at hd
  cases hd
  refine ⟨359, 361, 17, pg_txt 17, ["java/lang/Exception"], by decide +kernel, by decide +kernel, by decide +kernel, by decide +kernel, pg_STm (by decide +kernel), by decide +kernel, by decide +kernel, by decide, Or.inr ⟨"java/lang/RuntimeException", 13, prog_30_method_4_code, by decide +kernel, by decide +kernel, by decide +kernel, by decide +kernel, by decide +kernel, ?_, List.all_eq_true.mp pa3_182⟩⟩
  intro w hw
  refine pg_lw (of_decide_eq_true (List.all_eq_true.mp pa_182 w hw)) ?_
  have := List.all_eq_true.mp pa2_182 w hw
  simpa using this
theorem pm_182 : fx_mOk vwCl pg_fty pg_TB pg_NB pg_SL pg_yy pg_bb pg_nl pg_rr pg_na pg_hh pg_xn pg_cd pg_hd pg_pc 182 := pg_mOk pk_182 rfl rfl rfl rfl rfl (by decide +kernel) rfl rfl (pg_hn rfl) pj_182
set_option maxRecDepth 100000 in
set_option maxHeartbeats 4000000 in
theorem pa_184 : (vx_atS (pg_R 11) 368 (pg_R 14) pg_exn).all (fun w => decide (w ∈ lw_tbl)) = true := by decide +kernel
set_option maxRecDepth 100000 in
theorem pa2_184 : (vx_atS (pg_R 11) 368 (pg_R 14) pg_exn).all (fun w => goodWord w || fx_nw w) = true := by decide +kernel
set_option maxRecDepth 100000 in
theorem pa3_184 : (Cond.classLink (pg_R 11) 364 (pg_R 14) :: Cond.initialized (pg_R 14) :: vx_atS (pg_R 11) 368 (pg_R 14) pg_exn).all vx_ot = true := by decide +kernel
set_option maxRecDepth 100000 in
theorem pj_184 : ∀ i t o len, cb_184_0[i]? = some (.jsr t) → decode prog_1_method_44_code (pp_184.getD i 0) = .ok (o, len) → ∀ y, o = .new y → fx_jt pg_TB pg_NB pg_SL (pg_R 11) prog_1_method_44_code (pp_184.getD i 0) y (pg_xn t.toNat) := by
  intro i t o len hi hd y hy
  obtain ⟨rfl, rfl⟩ := pg_oneJ_ok (ic := 12) (t := 14) (by decide +kernel) hi
  subst hy
  have hd2 : decode prog_1_method_44_code (pp_184.getD 12 0) = .ok (.new 364, 3) := by decide +kernel
  rw [hd2] at hd
  cases hd
  refine ⟨366, 368, 0, pg_txt 0, pg_exn, by decide +kernel, by decide +kernel, by decide +kernel, by decide +kernel, pg_STm (by decide +kernel), by decide +kernel, by decide +kernel, by decide, Or.inl ⟨?_, List.all_eq_true.mp pa3_184⟩⟩
  intro w hw
  refine pg_lw (of_decide_eq_true (List.all_eq_true.mp pa_184 w hw)) ?_
  have := List.all_eq_true.mp pa2_184 w hw
  simpa using this
theorem pm_184 : fx_mOk vwCl pg_fty pg_TB pg_NB pg_SL pg_yy pg_bb pg_nl pg_rr pg_na pg_hh pg_xn pg_cd pg_hd pg_pc 184 := pg_mOk pk_184 rfl rfl rfl rfl rfl (by decide +kernel) rfl rfl (pg_hn rfl) pj_184
theorem pm_0 : fx_mOk vwCl pg_fty pg_TB pg_NB pg_SL pg_yy pg_bb pg_nl pg_rr pg_na pg_hh pg_xn pg_cd pg_hd pg_pc 0 := pg_mOk pk_0 rfl rfl rfl rfl rfl (by decide +kernel) rfl rfl (pg_hn rfl) (pg_noJ (by decide +kernel))
theorem pm_1 : fx_mOk vwCl pg_fty pg_TB pg_NB pg_SL pg_yy pg_bb pg_nl pg_rr pg_na pg_hh pg_xn pg_cd pg_hd pg_pc 1 := pg_mOk pk_1 rfl rfl rfl rfl rfl (by decide +kernel) rfl rfl (pg_hn rfl) (pg_noJ (by decide +kernel))
theorem pm_2 : fx_mOk vwCl pg_fty pg_TB pg_NB pg_SL pg_yy pg_bb pg_nl pg_rr pg_na pg_hh pg_xn pg_cd pg_hd pg_pc 2 := pg_mOk pk_2 rfl rfl rfl rfl rfl (by decide +kernel) rfl rfl (pg_hn rfl) (pg_noJ (by decide +kernel))
theorem pm_3 : fx_mOk vwCl pg_fty pg_TB pg_NB pg_SL pg_yy pg_bb pg_nl pg_rr pg_na pg_hh pg_xn pg_cd pg_hd pg_pc 3 := pg_mOk pk_3 rfl rfl rfl rfl rfl (by decide +kernel) rfl rfl (pg_hn rfl) (pg_noJ (by decide +kernel))
theorem pm_4 : fx_mOk vwCl pg_fty pg_TB pg_NB pg_SL pg_yy pg_bb pg_nl pg_rr pg_na pg_hh pg_xn pg_cd pg_hd pg_pc 4 := pg_mOk pk_4 rfl rfl rfl rfl rfl (by decide +kernel) rfl rfl (pg_hn rfl) (pg_noJ (by decide +kernel))
theorem pm_5 : fx_mOk vwCl pg_fty pg_TB pg_NB pg_SL pg_yy pg_bb pg_nl pg_rr pg_na pg_hh pg_xn pg_cd pg_hd pg_pc 5 := pg_mOk pk_5 rfl rfl rfl rfl rfl (by decide +kernel) rfl rfl (pg_hn rfl) (pg_noJ (by decide +kernel))
theorem pm_6 : fx_mOk vwCl pg_fty pg_TB pg_NB pg_SL pg_yy pg_bb pg_nl pg_rr pg_na pg_hh pg_xn pg_cd pg_hd pg_pc 6 := pg_mOk pk_6 rfl rfl rfl rfl rfl (by decide +kernel) rfl rfl (pg_hn rfl) (pg_noJ (by decide +kernel))
theorem pm_7 : fx_mOk vwCl pg_fty pg_TB pg_NB pg_SL pg_yy pg_bb pg_nl pg_rr pg_na pg_hh pg_xn pg_cd pg_hd pg_pc 7 := pg_mOk pk_7 rfl rfl rfl rfl rfl (by decide +kernel) rfl rfl (pg_hn rfl) (pg_noJ (by decide +kernel))
theorem pm_8 : fx_mOk vwCl pg_fty pg_TB pg_NB pg_SL pg_yy pg_bb pg_nl pg_rr pg_na pg_hh pg_xn pg_cd pg_hd pg_pc 8 := pg_mOk pk_8 rfl rfl rfl rfl rfl (by decide +kernel) rfl rfl (pg_hn rfl) (pg_noJ (by decide +kernel))
theorem pm_9 : fx_mOk vwCl pg_fty pg_TB pg_NB pg_SL pg_yy pg_bb pg_nl pg_rr pg_na pg_hh pg_xn pg_cd pg_hd pg_pc 9 := pg_mOk pk_9 rfl rfl rfl rfl rfl (by decide +kernel) rfl rfl (pg_hn rfl) (pg_noJ (by decide +kernel))
theorem pm_10 : fx_mOk vwCl pg_fty pg_TB pg_NB pg_SL pg_yy pg_bb pg_nl pg_rr pg_na pg_hh pg_xn pg_cd pg_hd pg_pc 10 := pg_mOk pk_10 rfl rfl rfl rfl rfl (by decide +kernel) rfl rfl (pg_hn rfl) (pg_noJ (by decide +kernel))
theorem pm_11 : fx_mOk vwCl pg_fty pg_TB pg_NB pg_SL pg_yy pg_bb pg_nl pg_rr pg_na pg_hh pg_xn pg_cd pg_hd pg_pc 11 := pg_mOk pk_11 rfl rfl rfl rfl rfl (by decide +kernel) rfl rfl (pg_hn rfl) (pg_noJ (by decide +kernel))
theorem pm_12 : fx_mOk vwCl pg_fty pg_TB pg_NB pg_SL pg_yy pg_bb pg_nl pg_rr pg_na pg_hh pg_xn pg_cd pg_hd pg_pc 12 := pg_mOk pk_12 rfl rfl rfl rfl rfl (by decide +kernel) rfl rfl (pg_hn rfl) (pg_noJ (by decide +kernel))
theorem pm_13 : fx_mOk vwCl pg_fty pg_TB pg_NB pg_SL pg_yy pg_bb pg_nl pg_rr pg_na pg_hh pg_xn pg_cd pg_hd pg_pc 13 := pg_mOk pk_13 rfl rfl rfl rfl rfl (by decide +kernel) rfl rfl (pg_hn rfl) (pg_noJ (by decide +kernel))
theorem pm_14 : fx_mOk vwCl pg_fty pg_TB pg_NB pg_SL pg_yy pg_bb pg_nl pg_rr pg_na pg_hh pg_xn pg_cd pg_hd pg_pc 14 := pg_mOk pk_14 rfl rfl rfl rfl rfl (by decide +kernel) rfl rfl (pg_hn rfl) (pg_noJ (by decide +kernel))
theorem pm_15 : fx_mOk vwCl pg_fty pg_TB pg_NB pg_SL pg_yy pg_bb pg_nl pg_rr pg_na pg_hh pg_xn pg_cd pg_hd pg_pc 15 := pg_mOk pk_15 rfl rfl rfl rfl rfl (by decide +kernel) rfl rfl (pg_hn rfl) (pg_noJ (by decide +kernel))
theorem pm_16 : fx_mOk vwCl pg_fty pg_TB pg_NB pg_SL pg_yy pg_bb pg_nl pg_rr pg_na pg_hh pg_xn pg_cd pg_hd pg_pc 16 := pg_mOk pk_16 rfl rfl rfl rfl rfl (by decide +kernel) rfl rfl (pg_hn rfl) (pg_noJ (by decide +kernel))
theorem pm_17 : fx_mOk vwCl pg_fty pg_TB pg_NB pg_SL pg_yy pg_bb pg_nl pg_rr pg_na pg_hh pg_xn pg_cd pg_hd pg_pc 17 := pg_mOk pk_17 rfl rfl rfl rfl rfl (by decide +kernel) rfl rfl (pg_hn rfl) (pg_noJ (by decide +kernel))
theorem pm_18 : fx_mOk vwCl pg_fty pg_TB pg_NB pg_SL pg_yy pg_bb pg_nl pg_rr pg_na pg_hh pg_xn pg_cd pg_hd pg_pc 18 := pg_mOk pk_18 rfl rfl rfl rfl rfl (by decide +kernel) rfl rfl (pg_hn rfl) (pg_noJ (by decide +kernel))
theorem pm_19 : fx_mOk vwCl pg_fty pg_TB pg_NB pg_SL pg_yy pg_bb pg_nl pg_rr pg_na pg_hh pg_xn pg_cd pg_hd pg_pc 19 := pg_mOk pk_19 rfl rfl rfl rfl rfl (by decide +kernel) rfl rfl (pg_hn rfl) (pg_noJ (by decide +kernel))
theorem pm_20 : fx_mOk vwCl pg_fty pg_TB pg_NB pg_SL pg_yy pg_bb pg_nl pg_rr pg_na pg_hh pg_xn pg_cd pg_hd pg_pc 20 := pg_mOk pk_20 rfl rfl rfl rfl rfl (by decide +kernel) rfl rfl (pg_hn rfl) (pg_noJ (by decide +kernel))
theorem pm_21 : fx_mOk vwCl pg_fty pg_TB pg_NB pg_SL pg_yy pg_bb pg_nl pg_rr pg_na pg_hh pg_xn pg_cd pg_hd pg_pc 21 := pg_mOk pk_21 rfl rfl rfl rfl rfl (by decide +kernel) rfl rfl (pg_hn rfl) (pg_noJ (by decide +kernel))
theorem pm_22 : fx_mOk vwCl pg_fty pg_TB pg_NB pg_SL pg_yy pg_bb pg_nl pg_rr pg_na pg_hh pg_xn pg_cd pg_hd pg_pc 22 := pg_mOk pk_22 rfl rfl rfl rfl rfl (by decide +kernel) rfl rfl (pg_hn rfl) (pg_noJ (by decide +kernel))
theorem pm_23 : fx_mOk vwCl pg_fty pg_TB pg_NB pg_SL pg_yy pg_bb pg_nl pg_rr pg_na pg_hh pg_xn pg_cd pg_hd pg_pc 23 := pg_mOk pk_23 rfl rfl rfl rfl rfl (by decide +kernel) rfl rfl (pg_hn rfl) (pg_noJ (by decide +kernel))
theorem pm_24 : fx_mOk vwCl pg_fty pg_TB pg_NB pg_SL pg_yy pg_bb pg_nl pg_rr pg_na pg_hh pg_xn pg_cd pg_hd pg_pc 24 := pg_mOk pk_24 rfl rfl rfl rfl rfl (by decide +kernel) rfl rfl (pg_hn rfl) (pg_noJ (by decide +kernel))
theorem pm_25 : fx_mOk vwCl pg_fty pg_TB pg_NB pg_SL pg_yy pg_bb pg_nl pg_rr pg_na pg_hh pg_xn pg_cd pg_hd pg_pc 25 := pg_mOk pk_25 rfl rfl rfl rfl rfl (by decide +kernel) rfl rfl (pg_hn rfl) (pg_noJ (by decide +kernel))
theorem pm_26 : fx_mOk vwCl pg_fty pg_TB pg_NB pg_SL pg_yy pg_bb pg_nl pg_rr pg_na pg_hh pg_xn pg_cd pg_hd pg_pc 26 := pg_mOk pk_26 rfl rfl rfl rfl rfl (by decide +kernel) rfl rfl (pg_hn rfl) (pg_noJ (by decide +kernel))
theorem pm_27 : fx_mOk vwCl pg_fty pg_TB pg_NB pg_SL pg_yy pg_bb pg_nl pg_rr pg_na pg_hh pg_xn pg_cd pg_hd pg_pc 27 := pg_mOk pk_27 rfl rfl rfl rfl rfl (by decide +kernel) rfl rfl (pg_hn rfl) (pg_noJ (by decide +kernel))
theorem pm_28 : fx_mOk vwCl pg_fty pg_TB pg_NB pg_SL pg_yy pg_bb pg_nl pg_rr pg_na pg_hh pg_xn pg_cd pg_hd pg_pc 28 := pg_mOk pk_28 rfl rfl rfl rfl rfl (by decide +kernel) rfl rfl (pg_hn rfl) (pg_noJ (by decide +kernel))
theorem pm_29 : fx_mOk vwCl pg_fty pg_TB pg_NB pg_SL pg_yy pg_bb pg_nl pg_rr pg_na pg_hh pg_xn pg_cd pg_hd pg_pc 29 := pg_mOk pk_29 rfl rfl rfl rfl rfl (by decide +kernel) rfl rfl (pg_hn rfl) (pg_noJ (by decide +kernel))
theorem pm_30 : fx_mOk vwCl pg_fty pg_TB pg_NB pg_SL pg_yy pg_bb pg_nl pg_rr pg_na pg_hh pg_xn pg_cd pg_hd pg_pc 30 := pg_mOk pk_30 rfl rfl rfl rfl rfl (by decide +kernel) rfl rfl (pg_hn rfl) (pg_noJ (by decide +kernel))
theorem pm_31 : fx_mOk vwCl pg_fty pg_TB pg_NB pg_SL pg_yy pg_bb pg_nl pg_rr pg_na pg_hh pg_xn pg_cd pg_hd pg_pc 31 := pg_mOk pk_31 rfl rfl rfl rfl rfl (by decide +kernel) rfl rfl (pg_hn rfl) (pg_noJ (by decide +kernel))
theorem pm_32 : fx_mOk vwCl pg_fty pg_TB pg_NB pg_SL pg_yy pg_bb pg_nl pg_rr pg_na pg_hh pg_xn pg_cd pg_hd pg_pc 32 := pg_mOk pk_32 rfl rfl rfl rfl rfl (by decide +kernel) rfl rfl (pg_hn rfl) (pg_noJ (by decide +kernel))
theorem pm_33 : fx_mOk vwCl pg_fty pg_TB pg_NB pg_SL pg_yy pg_bb pg_nl pg_rr pg_na pg_hh pg_xn pg_cd pg_hd pg_pc 33 := pg_mOk pk_33 rfl rfl rfl rfl rfl (by decide +kernel) rfl rfl (pg_hn rfl) (pg_noJ (by decide +kernel))
theorem pm_34 : fx_mOk vwCl pg_fty pg_TB pg_NB pg_SL pg_yy pg_bb pg_nl pg_rr pg_na pg_hh pg_xn pg_cd pg_hd pg_pc 34 := pg_mOk pk_34 rfl rfl rfl rfl rfl (by decide +kernel) rfl rfl (pg_hn rfl) (pg_noJ (by decide +kernel))
theorem pm_35 : fx_mOk vwCl pg_fty pg_TB pg_NB pg_SL pg_yy pg_bb pg_nl pg_rr pg_na pg_hh pg_xn pg_cd pg_hd pg_pc 35 := pg_mOk pk_35 rfl rfl rfl rfl rfl (by decide +kernel) rfl rfl (pg_hn rfl) (pg_noJ (by decide +kernel))
theorem pm_36 : fx_mOk vwCl pg_fty pg_TB pg_NB pg_SL pg_yy pg_bb pg_nl pg_rr pg_na pg_hh pg_xn pg_cd pg_hd pg_pc 36 := pg_mOk pk_36 rfl rfl rfl rfl rfl (by decide +kernel) rfl rfl (pg_hn rfl) (pg_noJ (by decide +kernel))
theorem pm_37 : fx_mOk vwCl pg_fty pg_TB pg_NB pg_SL pg_yy pg_bb pg_nl pg_rr pg_na pg_hh pg_xn pg_cd pg_hd pg_pc 37 := pg_mOk pk_37 rfl rfl rfl rfl rfl (by decide +kernel) rfl rfl (pg_hn rfl) (pg_noJ (by decide +kernel))
theorem pm_38 : fx_mOk vwCl pg_fty pg_TB pg_NB pg_SL pg_yy pg_bb pg_nl pg_rr pg_na pg_hh pg_xn pg_cd pg_hd pg_pc 38 := pg_mOk pk_38 rfl rfl rfl rfl rfl (by decide +kernel) rfl rfl (pg_hn rfl) (pg_noJ (by decide +kernel))
theorem pm_39 : fx_mOk vwCl pg_fty pg_TB pg_NB pg_SL pg_yy pg_bb pg_nl pg_rr pg_na pg_hh pg_xn pg_cd pg_hd pg_pc 39 := pg_mOk pk_39 rfl rfl rfl rfl rfl (by decide +kernel) rfl rfl (pg_hn rfl) (pg_noJ (by decide +kernel))
theorem pm_40 : fx_mOk vwCl pg_fty pg_TB pg_NB pg_SL pg_yy pg_bb pg_nl pg_rr pg_na pg_hh pg_xn pg_cd pg_hd pg_pc 40 := pg_mOk pk_40 rfl rfl rfl rfl rfl (by decide +kernel) rfl rfl (pg_hn rfl) (pg_noJ (by decide +kernel))
theorem pm_41 : fx_mOk vwCl pg_fty pg_TB pg_NB pg_SL pg_yy pg_bb pg_nl pg_rr pg_na pg_hh pg_xn pg_cd pg_hd pg_pc 41 := pg_mOk pk_41 rfl rfl rfl rfl rfl (by decide +kernel) rfl rfl (pg_hn rfl) (pg_noJ (by decide +kernel))
theorem pm_42 : fx_mOk vwCl pg_fty pg_TB pg_NB pg_SL pg_yy pg_bb pg_nl pg_rr pg_na pg_hh pg_xn pg_cd pg_hd pg_pc 42 := pg_mOk pk_42 rfl rfl rfl rfl rfl (by decide +kernel) rfl rfl (pg_hn rfl) (pg_noJ (by decide +kernel))
theorem pm_43 : fx_mOk vwCl pg_fty pg_TB pg_NB pg_SL pg_yy pg_bb pg_nl pg_rr pg_na pg_hh pg_xn pg_cd pg_hd pg_pc 43 := pg_mOk pk_43 rfl rfl rfl rfl rfl (by decide +kernel) rfl rfl (pg_hn rfl) (pg_noJ (by decide +kernel))
theorem pm_44 : fx_mOk vwCl pg_fty pg_TB pg_NB pg_SL pg_yy pg_bb pg_nl pg_rr pg_na pg_hh pg_xn pg_cd pg_hd pg_pc 44 := pg_mOk pk_44 rfl rfl rfl rfl rfl (by decide +kernel) rfl rfl (pg_hn rfl) (pg_noJ (by decide +kernel))
theorem pm_45 : fx_mOk vwCl pg_fty pg_TB pg_NB pg_SL pg_yy pg_bb pg_nl pg_rr pg_na pg_hh pg_xn pg_cd pg_hd pg_pc 45 := pg_mOk pk_45 rfl rfl rfl rfl rfl (by decide +kernel) rfl rfl (pg_hn rfl) (pg_noJ (by decide +kernel))
theorem pm_46 : fx_mOk vwCl pg_fty pg_TB pg_NB pg_SL pg_yy pg_bb pg_nl pg_rr pg_na pg_hh pg_xn pg_cd pg_hd pg_pc 46 := pg_mOk pk_46 rfl rfl rfl rfl rfl (by decide +kernel) rfl rfl (pg_hn rfl) (pg_noJ (by decide +kernel))
theorem pm_47 : fx_mOk vwCl pg_fty pg_TB pg_NB pg_SL pg_yy pg_bb pg_nl pg_rr pg_na pg_hh pg_xn pg_cd pg_hd pg_pc 47 := pg_mOk pk_47 rfl rfl rfl rfl rfl (by decide +kernel) rfl rfl (pg_hn rfl) (pg_noJ (by decide +kernel))
theorem pm_48 : fx_mOk vwCl pg_fty pg_TB pg_NB pg_SL pg_yy pg_bb pg_nl pg_rr pg_na pg_hh pg_xn pg_cd pg_hd pg_pc 48 := pg_mOk pk_48 rfl rfl rfl rfl rfl (by decide +kernel) rfl rfl (pg_hn rfl) (pg_noJ (by decide +kernel))
theorem pm_49 : fx_mOk vwCl pg_fty pg_TB pg_NB pg_SL pg_yy pg_bb pg_nl pg_rr pg_na pg_hh pg_xn pg_cd pg_hd pg_pc 49 := pg_mOk pk_49 rfl rfl rfl rfl rfl (by decide +kernel) rfl rfl (pg_hn rfl) (pg_noJ (by decide +kernel))
theorem pm_50 : fx_mOk vwCl pg_fty pg_TB pg_NB pg_SL pg_yy pg_bb pg_nl pg_rr pg_na pg_hh pg_xn pg_cd pg_hd pg_pc 50 := pg_mOk pk_50 rfl rfl rfl rfl rfl (by decide +kernel) rfl rfl (pg_hn rfl) (pg_noJ (by decide +kernel))
theorem pm_51 : fx_mOk vwCl pg_fty pg_TB pg_NB pg_SL pg_yy pg_bb pg_nl pg_rr pg_na pg_hh pg_xn pg_cd pg_hd pg_pc 51 := pg_mOk pk_51 rfl rfl rfl rfl rfl (by decide +kernel) rfl rfl (pg_hn rfl) (pg_noJ (by decide +kernel))
theorem pm_52 : fx_mOk vwCl pg_fty pg_TB pg_NB pg_SL pg_yy pg_bb pg_nl pg_rr pg_na pg_hh pg_xn pg_cd pg_hd pg_pc 52 := pg_mOk pk_52 rfl rfl rfl rfl rfl (by decide +kernel) rfl rfl (pg_hn rfl) (pg_noJ (by decide +kernel))
theorem pm_53 : fx_mOk vwCl pg_fty pg_TB pg_NB pg_SL pg_yy pg_bb pg_nl pg_rr pg_na pg_hh pg_xn pg_cd pg_hd pg_pc 53 := pg_mOk pk_53 rfl rfl rfl rfl rfl (by decide +kernel) rfl rfl (pg_hn rfl) (pg_noJ (by decide +kernel))
theorem pm_54 : fx_mOk vwCl pg_fty pg_TB pg_NB pg_SL pg_yy pg_bb pg_nl pg_rr pg_na pg_hh pg_xn pg_cd pg_hd pg_pc 54 := pg_mOk pk_54 rfl rfl rfl rfl rfl (by decide +kernel) rfl rfl (pg_hn rfl) (pg_noJ (by decide +kernel))
theorem pm_55 : fx_mOk vwCl pg_fty pg_TB pg_NB pg_SL pg_yy pg_bb pg_nl pg_rr pg_na pg_hh pg_xn pg_cd pg_hd pg_pc 55 := pg_mOk pk_55 rfl rfl rfl rfl rfl (by decide +kernel) rfl rfl (pg_hn rfl) (pg_noJ (by decide +kernel))
theorem pm_56 : fx_mOk vwCl pg_fty pg_TB pg_NB pg_SL pg_yy pg_bb pg_nl pg_rr pg_na pg_hh pg_xn pg_cd pg_hd pg_pc 56 := pg_mOk pk_56 rfl rfl rfl rfl rfl (by decide +kernel) rfl rfl (pg_hn rfl) (pg_noJ (by decide +kernel))
theorem pm_57 : fx_mOk vwCl pg_fty pg_TB pg_NB pg_SL pg_yy pg_bb pg_nl pg_rr pg_na pg_hh pg_xn pg_cd pg_hd pg_pc 57 := pg_mOk pk_57 rfl rfl rfl rfl rfl (by decide +kernel) rfl rfl (pg_hn rfl) (pg_noJ (by decide +kernel))
theorem pm_58 : fx_mOk vwCl pg_fty pg_TB pg_NB pg_SL pg_yy pg_bb pg_nl pg_rr pg_na pg_hh pg_xn pg_cd pg_hd pg_pc 58 := pg_mOk pk_58 rfl rfl rfl rfl rfl (by decide +kernel) rfl rfl (pg_hn rfl) (pg_noJ (by decide +kernel))
theorem pm_59 : fx_mOk vwCl pg_fty pg_TB pg_NB pg_SL pg_yy pg_bb pg_nl pg_rr pg_na pg_hh pg_xn pg_cd pg_hd pg_pc 59 := pg_mOk pk_59 rfl rfl rfl rfl rfl (by decide +kernel) rfl rfl (pg_hn rfl) (pg_noJ (by decide +kernel))
theorem pm_60 : fx_mOk vwCl pg_fty pg_TB pg_NB pg_SL pg_yy pg_bb pg_nl pg_rr pg_na pg_hh pg_xn pg_cd pg_hd pg_pc 60 := pg_mOk pk_60 rfl rfl rfl rfl rfl (by decide +kernel) rfl rfl (pg_hn rfl) (pg_noJ (by decide +kernel))
theorem pm_61 : fx_mOk vwCl pg_fty pg_TB pg_NB pg_SL pg_yy pg_bb pg_nl pg_rr pg_na pg_hh pg_xn pg_cd pg_hd pg_pc 61 := pg_mOk pk_61 rfl rfl rfl rfl rfl (by decide +kernel) rfl rfl (pg_hn rfl) (pg_noJ (by decide +kernel))
theorem pm_62 : fx_mOk vwCl pg_fty pg_TB pg_NB pg_SL pg_yy pg_bb pg_nl pg_rr pg_na pg_hh pg_xn pg_cd pg_hd pg_pc 62 := pg_mOk pk_62 rfl rfl rfl rfl rfl (by decide +kernel) rfl rfl (pg_hn rfl) (pg_noJ (by decide +kernel))
theorem pm_63 : fx_mOk vwCl pg_fty pg_TB pg_NB pg_SL pg_yy pg_bb pg_nl pg_rr pg_na pg_hh pg_xn pg_cd pg_hd pg_pc 63 := pg_mOk pk_63 rfl rfl rfl rfl rfl (by decide +kernel) rfl rfl (pg_hn rfl) (pg_noJ (by decide +kernel))
theorem pm_64 : fx_mOk vwCl pg_fty pg_TB pg_NB pg_SL pg_yy pg_bb pg_nl pg_rr pg_na pg_hh pg_xn pg_cd pg_hd pg_pc 64 := pg_mOk pk_64 rfl rfl rfl rfl rfl (by decide +kernel) rfl rfl (pg_hn rfl) (pg_noJ (by decide +kernel))
theorem pm_65 : fx_mOk vwCl pg_fty pg_TB pg_NB pg_SL pg_yy pg_bb pg_nl pg_rr pg_na pg_hh pg_xn pg_cd pg_hd pg_pc 65 := pg_mOk pk_65 rfl rfl rfl rfl rfl (by decide +kernel) rfl rfl (pg_hn rfl) (pg_noJ (by decide +kernel))
theorem pm_66 : fx_mOk vwCl pg_fty pg_TB pg_NB pg_SL pg_yy pg_bb pg_nl pg_rr pg_na pg_hh pg_xn pg_cd pg_hd pg_pc 66 := pg_mOk pk_66 rfl rfl rfl rfl rfl (by decide +kernel) rfl rfl (pg_hn rfl) (pg_noJ (by decide +kernel))
theorem pm_67 : fx_mOk vwCl pg_fty pg_TB pg_NB pg_SL pg_yy pg_bb pg_nl pg_rr pg_na pg_hh pg_xn pg_cd pg_hd pg_pc 67 := pg_mOk pk_67 rfl rfl rfl rfl rfl (by decide +kernel) rfl rfl (pg_hn rfl) (pg_noJ (by decide +kernel))
theorem pm_68 : fx_mOk vwCl pg_fty pg_TB pg_NB pg_SL pg_yy pg_bb pg_nl pg_rr pg_na pg_hh pg_xn pg_cd pg_hd pg_pc 68 := pg_mOk pk_68 rfl rfl rfl rfl rfl (by decide +kernel) rfl rfl (pg_hn rfl) (pg_noJ (by decide +kernel))
theorem pm_69 : fx_mOk vwCl pg_fty pg_TB pg_NB pg_SL pg_yy pg_bb pg_nl pg_rr pg_na pg_hh pg_xn pg_cd pg_hd pg_pc 69 := pg_mOk pk_69 rfl rfl rfl rfl rfl (by decide +kernel) rfl rfl (pg_hn rfl) (pg_noJ (by decide +kernel))
theorem pm_70 : fx_mOk vwCl pg_fty pg_TB pg_NB pg_SL pg_yy pg_bb pg_nl pg_rr pg_na pg_hh pg_xn pg_cd pg_hd pg_pc 70 := pg_mOk pk_70 rfl rfl rfl rfl rfl (by decide +kernel) rfl rfl (pg_hn rfl) (pg_noJ (by decide +kernel))
theorem pm_71 : fx_mOk vwCl pg_fty pg_TB pg_NB pg_SL pg_yy pg_bb pg_nl pg_rr pg_na pg_hh pg_xn pg_cd pg_hd pg_pc 71 := pg_mOk pk_71 rfl rfl rfl rfl rfl (by decide +kernel) rfl rfl (pg_hn rfl) (pg_noJ (by decide +kernel))
theorem pm_72 : fx_mOk vwCl pg_fty pg_TB pg_NB pg_SL pg_yy pg_bb pg_nl pg_rr pg_na pg_hh pg_xn pg_cd pg_hd pg_pc 72 := pg_mOk pk_72 rfl rfl rfl rfl rfl (by decide +kernel) rfl rfl (pg_hn rfl) (pg_noJ (by decide +kernel))
theorem pm_73 : fx_mOk vwCl pg_fty pg_TB pg_NB pg_SL pg_yy pg_bb pg_nl pg_rr pg_na pg_hh pg_xn pg_cd pg_hd pg_pc 73 := pg_mOk pk_73 rfl rfl rfl rfl rfl (by decide +kernel) rfl rfl (pg_hn rfl) (pg_noJ (by decide +kernel))
theorem pm_74 : fx_mOk vwCl pg_fty pg_TB pg_NB pg_SL pg_yy pg_bb pg_nl pg_rr pg_na pg_hh pg_xn pg_cd pg_hd pg_pc 74 := pg_mOk pk_74 rfl rfl rfl rfl rfl (by decide +kernel) rfl rfl (pg_hn rfl) (pg_noJ (by decide +kernel))
theorem pm_75 : fx_mOk vwCl pg_fty pg_TB pg_NB pg_SL pg_yy pg_bb pg_nl pg_rr pg_na pg_hh pg_xn pg_cd pg_hd pg_pc 75 := pg_mOk pk_75 rfl rfl rfl rfl rfl (by decide +kernel) rfl rfl (pg_hn rfl) (pg_noJ (by decide +kernel))
theorem pm_76 : fx_mOk vwCl pg_fty pg_TB pg_NB pg_SL pg_yy pg_bb pg_nl pg_rr pg_na pg_hh pg_xn pg_cd pg_hd pg_pc 76 := pg_mOk pk_76 rfl rfl rfl rfl rfl (by decide +kernel) rfl rfl (pg_hn rfl) (pg_noJ (by decide +kernel))
theorem pm_77 : fx_mOk vwCl pg_fty pg_TB pg_NB pg_SL pg_yy pg_bb pg_nl pg_rr pg_na pg_hh pg_xn pg_cd pg_hd pg_pc 77 := pg_mOk pk_77 rfl rfl rfl rfl rfl (by decide +kernel) rfl rfl (pg_hn rfl) (pg_noJ (by decide +kernel))
theorem pm_78 : fx_mOk vwCl pg_fty pg_TB pg_NB pg_SL pg_yy pg_bb pg_nl pg_rr pg_na pg_hh pg_xn pg_cd pg_hd pg_pc 78 := pg_mOk pk_78 rfl rfl rfl rfl rfl (by decide +kernel) rfl rfl (pg_hn rfl) (pg_noJ (by decide +kernel))
theorem pm_79 : fx_mOk vwCl pg_fty pg_TB pg_NB pg_SL pg_yy pg_bb pg_nl pg_rr pg_na pg_hh pg_xn pg_cd pg_hd pg_pc 79 := pg_mOk pk_79 rfl rfl rfl rfl rfl (by decide +kernel) rfl rfl (pg_hn rfl) (pg_noJ (by decide +kernel))
theorem pm_80 : fx_mOk vwCl pg_fty pg_TB pg_NB pg_SL pg_yy pg_bb pg_nl pg_rr pg_na pg_hh pg_xn pg_cd pg_hd pg_pc 80 := pg_mOk pk_80 rfl rfl rfl rfl rfl (by decide +kernel) rfl rfl (pg_hn rfl) (pg_noJ (by decide +kernel))
theorem pm_81 : fx_mOk vwCl pg_fty pg_TB pg_NB pg_SL pg_yy pg_bb pg_nl pg_rr pg_na pg_hh pg_xn pg_cd pg_hd pg_pc 81 := pg_mOk pk_81 rfl rfl rfl rfl rfl (by decide +kernel) rfl rfl (pg_hn rfl) (pg_noJ (by decide +kernel))
theorem pm_82 : fx_mOk vwCl pg_fty pg_TB pg_NB pg_SL pg_yy pg_bb pg_nl pg_rr pg_na pg_hh pg_xn pg_cd pg_hd pg_pc 82 := pg_mOk pk_82 rfl rfl rfl rfl rfl (by decide +kernel) rfl rfl (pg_hn rfl) (pg_noJ (by decide +kernel))
theorem pm_83 : fx_mOk vwCl pg_fty pg_TB pg_NB pg_SL pg_yy pg_bb pg_nl pg_rr pg_na pg_hh pg_xn pg_cd pg_hd pg_pc 83 := pg_mOk pk_83 rfl rfl rfl rfl rfl (by decide +kernel) rfl rfl (pg_hn rfl) (pg_noJ (by decide +kernel))
theorem pm_84 : fx_mOk vwCl pg_fty pg_TB pg_NB pg_SL pg_yy pg_bb pg_nl pg_rr pg_na pg_hh pg_xn pg_cd pg_hd pg_pc 84 := pg_mOk pk_84 rfl rfl rfl rfl rfl (by decide +kernel) rfl rfl (pg_hn rfl) (pg_noJ (by decide +kernel))
theorem pm_85 : fx_mOk vwCl pg_fty pg_TB pg_NB pg_SL pg_yy pg_bb pg_nl pg_rr pg_na pg_hh pg_xn pg_cd pg_hd pg_pc 85 := pg_mOk pk_85 rfl rfl rfl rfl rfl (by decide +kernel) rfl rfl (pg_hn rfl) (pg_noJ (by decide +kernel))
theorem pm_86 : fx_mOk vwCl pg_fty pg_TB pg_NB pg_SL pg_yy pg_bb pg_nl pg_rr pg_na pg_hh pg_xn pg_cd pg_hd pg_pc 86 := pg_mOk pk_86 rfl rfl rfl rfl rfl (by decide +kernel) rfl rfl (pg_hn rfl) (pg_noJ (by decide +kernel))
theorem pm_87 : fx_mOk vwCl pg_fty pg_TB pg_NB pg_SL pg_yy pg_bb pg_nl pg_rr pg_na pg_hh pg_xn pg_cd pg_hd pg_pc 87 := pg_mOk pk_87 rfl rfl rfl rfl rfl (by decide +kernel) rfl rfl (pg_hn rfl) (pg_noJ (by decide +kernel))
theorem pm_88 : fx_mOk vwCl pg_fty pg_TB pg_NB pg_SL pg_yy pg_bb pg_nl pg_rr pg_na pg_hh pg_xn pg_cd pg_hd pg_pc 88 := pg_mOk pk_88 rfl rfl rfl rfl rfl (by decide +kernel) rfl rfl (pg_hn rfl) (pg_noJ (by decide +kernel))
theorem pm_89 : fx_mOk vwCl pg_fty pg_TB pg_NB pg_SL pg_yy pg_bb pg_nl pg_rr pg_na pg_hh pg_xn pg_cd pg_hd pg_pc 89 := pg_mOk pk_89 rfl rfl rfl rfl rfl (by decide +kernel) rfl rfl (pg_hn rfl) (pg_noJ (by decide +kernel))
theorem pm_90 : fx_mOk vwCl pg_fty pg_TB pg_NB pg_SL pg_yy pg_bb pg_nl pg_rr pg_na pg_hh pg_xn pg_cd pg_hd pg_pc 90 := pg_mOk pk_90 rfl rfl rfl rfl rfl (by decide +kernel) rfl rfl (pg_hn rfl) (pg_noJ (by decide +kernel))
theorem pm_91 : fx_mOk vwCl pg_fty pg_TB pg_NB pg_SL pg_yy pg_bb pg_nl pg_rr pg_na pg_hh pg_xn pg_cd pg_hd pg_pc 91 := pg_mOk pk_91 rfl rfl rfl rfl rfl (by decide +kernel) rfl rfl (pg_hn rfl) (pg_noJ (by decide +kernel))
theorem pm_92 : fx_mOk vwCl pg_fty pg_TB pg_NB pg_SL pg_yy pg_bb pg_nl pg_rr pg_na pg_hh pg_xn pg_cd pg_hd pg_pc 92 := pg_mOk pk_92 rfl rfl rfl rfl rfl (by decide +kernel) rfl rfl (pg_hn rfl) (pg_noJ (by decide +kernel))
theorem pm_93 : fx_mOk vwCl pg_fty pg_TB pg_NB pg_SL pg_yy pg_bb pg_nl pg_rr pg_na pg_hh pg_xn pg_cd pg_hd pg_pc 93 := pg_mOk pk_93 rfl rfl rfl rfl rfl (by decide +kernel) rfl rfl (pg_hn rfl) (pg_noJ (by decide +kernel))
theorem pm_94 : fx_mOk vwCl pg_fty pg_TB pg_NB pg_SL pg_yy pg_bb pg_nl pg_rr pg_na pg_hh pg_xn pg_cd pg_hd pg_pc 94 := pg_mOk pk_94 rfl rfl rfl rfl rfl (by decide +kernel) rfl rfl (pg_hn rfl) (pg_noJ (by decide +kernel))
theorem pm_95 : fx_mOk vwCl pg_fty pg_TB pg_NB pg_SL pg_yy pg_bb pg_nl pg_rr pg_na pg_hh pg_xn pg_cd pg_hd pg_pc 95 := pg_mOk pk_95 rfl rfl rfl rfl rfl (by decide +kernel) rfl rfl (pg_hn rfl) (pg_noJ (by decide +kernel))
theorem pm_96 : fx_mOk vwCl pg_fty pg_TB pg_NB pg_SL pg_yy pg_bb pg_nl pg_rr pg_na pg_hh pg_xn pg_cd pg_hd pg_pc 96 := pg_mOk pk_96 rfl rfl rfl rfl rfl (by decide +kernel) rfl rfl (pg_hn rfl) (pg_noJ (by decide +kernel))
theorem pm_97 : fx_mOk vwCl pg_fty pg_TB pg_NB pg_SL pg_yy pg_bb pg_nl pg_rr pg_na pg_hh pg_xn pg_cd pg_hd pg_pc 97 := pg_mOk pk_97 rfl rfl rfl rfl rfl (by decide +kernel) rfl rfl (pg_hn rfl) (pg_noJ (by decide +kernel))
theorem pm_98 : fx_mOk vwCl pg_fty pg_TB pg_NB pg_SL pg_yy pg_bb pg_nl pg_rr pg_na pg_hh pg_xn pg_cd pg_hd pg_pc 98 := pg_mOk pk_98 rfl rfl rfl rfl rfl (by decide +kernel) rfl rfl (pg_hn rfl) (pg_noJ (by decide +kernel))
theorem pm_99 : fx_mOk vwCl pg_fty pg_TB pg_NB pg_SL pg_yy pg_bb pg_nl pg_rr pg_na pg_hh pg_xn pg_cd pg_hd pg_pc 99 := pg_mOk pk_99 rfl rfl rfl rfl rfl (by decide +kernel) rfl rfl (pg_hn rfl) (pg_noJ (by decide +kernel))
theorem pm_100 : fx_mOk vwCl pg_fty pg_TB pg_NB pg_SL pg_yy pg_bb pg_nl pg_rr pg_na pg_hh pg_xn pg_cd pg_hd pg_pc 100 := pg_mOk pk_100 rfl rfl rfl rfl rfl (by decide +kernel) rfl rfl (pg_hn rfl) (pg_noJ (by decide +kernel))
theorem pm_101 : fx_mOk vwCl pg_fty pg_TB pg_NB pg_SL pg_yy pg_bb pg_nl pg_rr pg_na pg_hh pg_xn pg_cd pg_hd pg_pc 101 := pg_mOk pk_101 rfl rfl rfl rfl rfl (by decide +kernel) rfl rfl (pg_hn rfl) (pg_noJ (by decide +kernel))
theorem pm_102 : fx_mOk vwCl pg_fty pg_TB pg_NB pg_SL pg_yy pg_bb pg_nl pg_rr pg_na pg_hh pg_xn pg_cd pg_hd pg_pc 102 := pg_mOk pk_102 rfl rfl rfl rfl rfl (by decide +kernel) rfl rfl (pg_hn rfl) (pg_noJ (by decide +kernel))
theorem pm_103 : fx_mOk vwCl pg_fty pg_TB pg_NB pg_SL pg_yy pg_bb pg_nl pg_rr pg_na pg_hh pg_xn pg_cd pg_hd pg_pc 103 := pg_mOk pk_103 rfl rfl rfl rfl rfl (by decide +kernel) rfl rfl (pg_hn rfl) (pg_noJ (by decide +kernel))
theorem pm_104 : fx_mOk vwCl pg_fty pg_TB pg_NB pg_SL pg_yy pg_bb pg_nl pg_rr pg_na pg_hh pg_xn pg_cd pg_hd pg_pc 104 := pg_mOk pk_104 rfl rfl rfl rfl rfl (by decide +kernel) rfl rfl (pg_hn rfl) (pg_noJ (by decide +kernel))
theorem pm_105 : fx_mOk vwCl pg_fty pg_TB pg_NB pg_SL pg_yy pg_bb pg_nl pg_rr pg_na pg_hh pg_xn pg_cd pg_hd pg_pc 105 := pg_mOk pk_105 rfl rfl rfl rfl rfl (by decide +kernel) rfl rfl (pg_hn rfl) (pg_noJ (by decide +kernel))
theorem pm_106 : fx_mOk vwCl pg_fty pg_TB pg_NB pg_SL pg_yy pg_bb pg_nl pg_rr pg_na pg_hh pg_xn pg_cd pg_hd pg_pc 106 := pg_mOk pk_106 rfl rfl rfl rfl rfl (by decide +kernel) rfl rfl (pg_hn rfl) (pg_noJ (by decide +kernel))
theorem pm_107 : fx_mOk vwCl pg_fty pg_TB pg_NB pg_SL pg_yy pg_bb pg_nl pg_rr pg_na pg_hh pg_xn pg_cd pg_hd pg_pc 107 := pg_mOk pk_107 rfl rfl rfl rfl rfl (by decide +kernel) rfl rfl (pg_hn rfl) (pg_noJ (by decide +kernel))
theorem pm_108 : fx_mOk vwCl pg_fty pg_TB pg_NB pg_SL pg_yy pg_bb pg_nl pg_rr pg_na pg_hh pg_xn pg_cd pg_hd pg_pc 108 := pg_mOk pk_108 rfl rfl rfl rfl rfl (by decide +kernel) rfl rfl (pg_hn rfl) (pg_noJ (by decide +kernel))
theorem pm_109 : fx_mOk vwCl pg_fty pg_TB pg_NB pg_SL pg_yy pg_bb pg_nl pg_rr pg_na pg_hh pg_xn pg_cd pg_hd pg_pc 109 := pg_mOk pk_109 rfl rfl rfl rfl rfl (by decide +kernel) rfl rfl (pg_hn rfl) (pg_noJ (by decide +kernel))
theorem pm_110 : fx_mOk vwCl pg_fty pg_TB pg_NB pg_SL pg_yy pg_bb pg_nl pg_rr pg_na pg_hh pg_xn pg_cd pg_hd pg_pc 110 := pg_mOk pk_110 rfl rfl rfl rfl rfl (by decide +kernel) rfl rfl (pg_hn rfl) (pg_noJ (by decide +kernel))
theorem pm_111 : fx_mOk vwCl pg_fty pg_TB pg_NB pg_SL pg_yy pg_bb pg_nl pg_rr pg_na pg_hh pg_xn pg_cd pg_hd pg_pc 111 := pg_mOk pk_111 rfl rfl rfl rfl rfl (by decide +kernel) rfl rfl (pg_hn rfl) (pg_noJ (by decide +kernel))
theorem pm_112 : fx_mOk vwCl pg_fty pg_TB pg_NB pg_SL pg_yy pg_bb pg_nl pg_rr pg_na pg_hh pg_xn pg_cd pg_hd pg_pc 112 := pg_mOk pk_112 rfl rfl rfl rfl rfl (by decide +kernel) rfl rfl (pg_hn rfl) (pg_noJ (by decide +kernel))
theorem pm_113 : fx_mOk vwCl pg_fty pg_TB pg_NB pg_SL pg_yy pg_bb pg_nl pg_rr pg_na pg_hh pg_xn pg_cd pg_hd pg_pc 113 := pg_mOk pk_113 rfl rfl rfl rfl rfl (by decide +kernel) rfl rfl (pg_hn rfl) (pg_noJ (by decide +kernel))
theorem pm_114 : fx_mOk vwCl pg_fty pg_TB pg_NB pg_SL pg_yy pg_bb pg_nl pg_rr pg_na pg_hh pg_xn pg_cd pg_hd pg_pc 114 := pg_mOk pk_114 rfl rfl rfl rfl rfl (by decide +kernel) rfl rfl (pg_hn rfl) (pg_noJ (by decide +kernel))
theorem pm_115 : fx_mOk vwCl pg_fty pg_TB pg_NB pg_SL pg_yy pg_bb pg_nl pg_rr pg_na pg_hh pg_xn pg_cd pg_hd pg_pc 115 := pg_mOk pk_115 rfl rfl rfl rfl rfl (by decide +kernel) rfl rfl (pg_hn rfl) (pg_noJ (by decide +kernel))
theorem pm_116 : fx_mOk vwCl pg_fty pg_TB pg_NB pg_SL pg_yy pg_bb pg_nl pg_rr pg_na pg_hh pg_xn pg_cd pg_hd pg_pc 116 := pg_mOk pk_116 rfl rfl rfl rfl rfl (by decide +kernel) rfl rfl (pg_hn rfl) (pg_noJ (by decide +kernel))
theorem pm_117 : fx_mOk vwCl pg_fty pg_TB pg_NB pg_SL pg_yy pg_bb pg_nl pg_rr pg_na pg_hh pg_xn pg_cd pg_hd pg_pc 117 := pg_mOk pk_117 rfl rfl rfl rfl rfl (by decide +kernel) rfl rfl (pg_hn rfl) (pg_noJ (by decide +kernel))
theorem pm_118 : fx_mOk vwCl pg_fty pg_TB pg_NB pg_SL pg_yy pg_bb pg_nl pg_rr pg_na pg_hh pg_xn pg_cd pg_hd pg_pc 118 := pg_mOk pk_118 rfl rfl rfl rfl rfl (by decide +kernel) rfl rfl (pg_hn rfl) (pg_noJ (by decide +kernel))
theorem pm_119 : fx_mOk vwCl pg_fty pg_TB pg_NB pg_SL pg_yy pg_bb pg_nl pg_rr pg_na pg_hh pg_xn pg_cd pg_hd pg_pc 119 := pg_mOk pk_119 rfl rfl rfl rfl rfl (by decide +kernel) rfl rfl (pg_hn rfl) (pg_noJ (by decide +kernel))
theorem pm_120 : fx_mOk vwCl pg_fty pg_TB pg_NB pg_SL pg_yy pg_bb pg_nl pg_rr pg_na pg_hh pg_xn pg_cd pg_hd pg_pc 120 := pg_mOk pk_120 rfl rfl rfl rfl rfl (by decide +kernel) rfl rfl (pg_hn rfl) (pg_noJ (by decide +kernel))
theorem pm_121 : fx_mOk vwCl pg_fty pg_TB pg_NB pg_SL pg_yy pg_bb pg_nl pg_rr pg_na pg_hh pg_xn pg_cd pg_hd pg_pc 121 := pg_mOk pk_121 rfl rfl rfl rfl rfl (by decide +kernel) rfl rfl (pg_hn rfl) (pg_noJ (by decide +kernel))
theorem pm_122 : fx_mOk vwCl pg_fty pg_TB pg_NB pg_SL pg_yy pg_bb pg_nl pg_rr pg_na pg_hh pg_xn pg_cd pg_hd pg_pc 122 := pg_mOk pk_122 rfl rfl rfl rfl rfl (by decide +kernel) rfl rfl (pg_hn rfl) (pg_noJ (by decide +kernel))
theorem pm_123 : fx_mOk vwCl pg_fty pg_TB pg_NB pg_SL pg_yy pg_bb pg_nl pg_rr pg_na pg_hh pg_xn pg_cd pg_hd pg_pc 123 := pg_mOk pk_123 rfl rfl rfl rfl rfl (by decide +kernel) rfl rfl (pg_hn rfl) (pg_noJ (by decide +kernel))
theorem pm_124 : fx_mOk vwCl pg_fty pg_TB pg_NB pg_SL pg_yy pg_bb pg_nl pg_rr pg_na pg_hh pg_xn pg_cd pg_hd pg_pc 124 := pg_mOk pk_124 rfl rfl rfl rfl rfl (by decide +kernel) rfl rfl (pg_hn rfl) (pg_noJ (by decide +kernel))
theorem pm_125 : fx_mOk vwCl pg_fty pg_TB pg_NB pg_SL pg_yy pg_bb pg_nl pg_rr pg_na pg_hh pg_xn pg_cd pg_hd pg_pc 125 := pg_mOk pk_125 rfl rfl rfl rfl rfl (by decide +kernel) rfl rfl (pg_hn rfl) (pg_noJ (by decide +kernel))
theorem pm_126 : fx_mOk vwCl pg_fty pg_TB pg_NB pg_SL pg_yy pg_bb pg_nl pg_rr pg_na pg_hh pg_xn pg_cd pg_hd pg_pc 126 := pg_mOk pk_126 rfl rfl rfl rfl rfl (by decide +kernel) rfl rfl (pg_hn rfl) (pg_noJ (by decide +kernel))
theorem pm_127 : fx_mOk vwCl pg_fty pg_TB pg_NB pg_SL pg_yy pg_bb pg_nl pg_rr pg_na pg_hh pg_xn pg_cd pg_hd pg_pc 127 := pg_mOk pk_127 rfl rfl rfl rfl rfl (by decide +kernel) rfl rfl (pg_hn rfl) (pg_noJ (by decide +kernel))
theorem pm_128 : fx_mOk vwCl pg_fty pg_TB pg_NB pg_SL pg_yy pg_bb pg_nl pg_rr pg_na pg_hh pg_xn pg_cd pg_hd pg_pc 128 := pg_mOk pk_128 rfl rfl rfl rfl rfl (by decide +kernel) rfl rfl (pg_hn rfl) (pg_noJ (by decide +kernel))
theorem pm_129 : fx_mOk vwCl pg_fty pg_TB pg_NB pg_SL pg_yy pg_bb pg_nl pg_rr pg_na pg_hh pg_xn pg_cd pg_hd pg_pc 129 := pg_mOk pk_129 rfl rfl rfl rfl rfl (by decide +kernel) rfl rfl (pg_hn rfl) (pg_noJ (by decide +kernel))
theorem pm_130 : fx_mOk vwCl pg_fty pg_TB pg_NB pg_SL pg_yy pg_bb pg_nl pg_rr pg_na pg_hh pg_xn pg_cd pg_hd pg_pc 130 := pg_mOk pk_130 rfl rfl rfl rfl rfl (by decide +kernel) rfl rfl (pg_hn rfl) (pg_noJ (by decide +kernel))
theorem pm_131 : fx_mOk vwCl pg_fty pg_TB pg_NB pg_SL pg_yy pg_bb pg_nl pg_rr pg_na pg_hh pg_xn pg_cd pg_hd pg_pc 131 := pg_mOk pk_131 rfl rfl rfl rfl rfl (by decide +kernel) rfl rfl (pg_hn rfl) (pg_noJ (by decide +kernel))
theorem pm_132 : fx_mOk vwCl pg_fty pg_TB pg_NB pg_SL pg_yy pg_bb pg_nl pg_rr pg_na pg_hh pg_xn pg_cd pg_hd pg_pc 132 := pg_mOk pk_132 rfl rfl rfl rfl rfl (by decide +kernel) rfl rfl (pg_hn rfl) (pg_noJ (by decide +kernel))
theorem pm_133 : fx_mOk vwCl pg_fty pg_TB pg_NB pg_SL pg_yy pg_bb pg_nl pg_rr pg_na pg_hh pg_xn pg_cd pg_hd pg_pc 133 := pg_mOk pk_133 rfl rfl rfl rfl rfl (by decide +kernel) rfl rfl (pg_hn rfl) (pg_noJ (by decide +kernel))
theorem pm_134 : fx_mOk vwCl pg_fty pg_TB pg_NB pg_SL pg_yy pg_bb pg_nl pg_rr pg_na pg_hh pg_xn pg_cd pg_hd pg_pc 134 := pg_mOk pk_134 rfl rfl rfl rfl rfl (by decide +kernel) rfl rfl (pg_hn rfl) (pg_noJ (by decide +kernel))
theorem pm_135 : fx_mOk vwCl pg_fty pg_TB pg_NB pg_SL pg_yy pg_bb pg_nl pg_rr pg_na pg_hh pg_xn pg_cd pg_hd pg_pc 135 := pg_mOk pk_135 rfl rfl rfl rfl rfl (by decide +kernel) rfl rfl (pg_hn rfl) (pg_noJ (by decide +kernel))
theorem pm_136 : fx_mOk vwCl pg_fty pg_TB pg_NB pg_SL pg_yy pg_bb pg_nl pg_rr pg_na pg_hh pg_xn pg_cd pg_hd pg_pc 136 := pg_mOk pk_136 rfl rfl rfl rfl rfl (by decide +kernel) rfl rfl (pg_hn rfl) (pg_noJ (by decide +kernel))
theorem pm_137 : fx_mOk vwCl pg_fty pg_TB pg_NB pg_SL pg_yy pg_bb pg_nl pg_rr pg_na pg_hh pg_xn pg_cd pg_hd pg_pc 137 := pg_mOk pk_137 rfl rfl rfl rfl rfl (by decide +kernel) rfl rfl (pg_hn rfl) (pg_noJ (by decide +kernel))
theorem pm_138 : fx_mOk vwCl pg_fty pg_TB pg_NB pg_SL pg_yy pg_bb pg_nl pg_rr pg_na pg_hh pg_xn pg_cd pg_hd pg_pc 138 := pg_mOk pk_138 rfl rfl rfl rfl rfl (by decide +kernel) rfl rfl (pg_hn rfl) (pg_noJ (by decide +kernel))
theorem pm_139 : fx_mOk vwCl pg_fty pg_TB pg_NB pg_SL pg_yy pg_bb pg_nl pg_rr pg_na pg_hh pg_xn pg_cd pg_hd pg_pc 139 := pg_mOk pk_139 rfl rfl rfl rfl rfl (by decide +kernel) rfl rfl (pg_hn rfl) (pg_noJ (by decide +kernel))
theorem pm_140 : fx_mOk vwCl pg_fty pg_TB pg_NB pg_SL pg_yy pg_bb pg_nl pg_rr pg_na pg_hh pg_xn pg_cd pg_hd pg_pc 140 := pg_mOk pk_140 rfl rfl rfl rfl rfl (by decide +kernel) rfl rfl (pg_hn rfl) (pg_noJ (by decide +kernel))
theorem pm_141 : fx_mOk vwCl pg_fty pg_TB pg_NB pg_SL pg_yy pg_bb pg_nl pg_rr pg_na pg_hh pg_xn pg_cd pg_hd pg_pc 141 := pg_mOk pk_141 rfl rfl rfl rfl rfl (by decide +kernel) rfl rfl (pg_hn rfl) (pg_noJ (by decide +kernel))
theorem pm_142 : fx_mOk vwCl pg_fty pg_TB pg_NB pg_SL pg_yy pg_bb pg_nl pg_rr pg_na pg_hh pg_xn pg_cd pg_hd pg_pc 142 := pg_mOk pk_142 rfl rfl rfl rfl rfl (by decide +kernel) rfl rfl (pg_hn rfl) (pg_noJ (by decide +kernel))
theorem pm_143 : fx_mOk vwCl pg_fty pg_TB pg_NB pg_SL pg_yy pg_bb pg_nl pg_rr pg_na pg_hh pg_xn pg_cd pg_hd pg_pc 143 := pg_mOk pk_143 rfl rfl rfl rfl rfl (by decide +kernel) rfl rfl (pg_hn rfl) (pg_noJ (by decide +kernel))
theorem pm_144 : fx_mOk vwCl pg_fty pg_TB pg_NB pg_SL pg_yy pg_bb pg_nl pg_rr pg_na pg_hh pg_xn pg_cd pg_hd pg_pc 144 := pg_mOk pk_144 rfl rfl rfl rfl rfl (by decide +kernel) rfl rfl (pg_hn rfl) (pg_noJ (by decide +kernel))
theorem pm_145 : fx_mOk vwCl pg_fty pg_TB pg_NB pg_SL pg_yy pg_bb pg_nl pg_rr pg_na pg_hh pg_xn pg_cd pg_hd pg_pc 145 := pg_mOk pk_145 rfl rfl rfl rfl rfl (by decide +kernel) rfl rfl (pg_hn rfl) (pg_noJ (by decide +kernel))
theorem pm_146 : fx_mOk vwCl pg_fty pg_TB pg_NB pg_SL pg_yy pg_bb pg_nl pg_rr pg_na pg_hh pg_xn pg_cd pg_hd pg_pc 146 := pg_mOk pk_146 rfl rfl rfl rfl rfl (by decide +kernel) rfl rfl (pg_hn rfl) (pg_noJ (by decide +kernel))
theorem pm_147 : fx_mOk vwCl pg_fty pg_TB pg_NB pg_SL pg_yy pg_bb pg_nl pg_rr pg_na pg_hh pg_xn pg_cd pg_hd pg_pc 147 := pg_mOk pk_147 rfl rfl rfl rfl rfl (by decide +kernel) rfl rfl (pg_hn rfl) (pg_noJ (by decide +kernel))
theorem pm_148 : fx_mOk vwCl pg_fty pg_TB pg_NB pg_SL pg_yy pg_bb pg_nl pg_rr pg_na pg_hh pg_xn pg_cd pg_hd pg_pc 148 := pg_mOk pk_148 rfl rfl rfl rfl rfl (by decide +kernel) rfl rfl (pg_hn rfl) (pg_noJ (by decide +kernel))
theorem pm_149 : fx_mOk vwCl pg_fty pg_TB pg_NB pg_SL pg_yy pg_bb pg_nl pg_rr pg_na pg_hh pg_xn pg_cd pg_hd pg_pc 149 := pg_mOk pk_149 rfl rfl rfl rfl rfl (by decide +kernel) rfl rfl (pg_hn rfl) (pg_noJ (by decide +kernel))
theorem pm_150 : fx_mOk vwCl pg_fty pg_TB pg_NB pg_SL pg_yy pg_bb pg_nl pg_rr pg_na pg_hh pg_xn pg_cd pg_hd pg_pc 150 := pg_mOk pk_150 rfl rfl rfl rfl rfl (by decide +kernel) rfl rfl (pg_hn rfl) (pg_noJ (by decide +kernel))
theorem pm_151 : fx_mOk vwCl pg_fty pg_TB pg_NB pg_SL pg_yy pg_bb pg_nl pg_rr pg_na pg_hh pg_xn pg_cd pg_hd pg_pc 151 := pg_mOk pk_151 rfl rfl rfl rfl rfl (by decide +kernel) rfl rfl (pg_hn rfl) (pg_noJ (by decide +kernel))
theorem pm_152 : fx_mOk vwCl pg_fty pg_TB pg_NB pg_SL pg_yy pg_bb pg_nl pg_rr pg_na pg_hh pg_xn pg_cd pg_hd pg_pc 152 := pg_mOk pk_152 rfl rfl rfl rfl rfl (by decide +kernel) rfl rfl (pg_hn rfl) (pg_noJ (by decide +kernel))
theorem pm_153 : fx_mOk vwCl pg_fty pg_TB pg_NB pg_SL pg_yy pg_bb pg_nl pg_rr pg_na pg_hh pg_xn pg_cd pg_hd pg_pc 153 := pg_mOk pk_153 rfl rfl rfl rfl rfl (by decide +kernel) rfl rfl (pg_hn rfl) (pg_noJ (by decide +kernel))
theorem pm_154 : fx_mOk vwCl pg_fty pg_TB pg_NB pg_SL pg_yy pg_bb pg_nl pg_rr pg_na pg_hh pg_xn pg_cd pg_hd pg_pc 154 := pg_mOk pk_154 rfl rfl rfl rfl rfl (by decide +kernel) rfl rfl (pg_hn rfl) (pg_noJ (by decide +kernel))
theorem pm_155 : fx_mOk vwCl pg_fty pg_TB pg_NB pg_SL pg_yy pg_bb pg_nl pg_rr pg_na pg_hh pg_xn pg_cd pg_hd pg_pc 155 := pg_mOk pk_155 rfl rfl rfl rfl rfl (by decide +kernel) rfl rfl (pg_hn rfl) (pg_noJ (by decide +kernel))
theorem pm_156 : fx_mOk vwCl pg_fty pg_TB pg_NB pg_SL pg_yy pg_bb pg_nl pg_rr pg_na pg_hh pg_xn pg_cd pg_hd pg_pc 156 := pg_mOk pk_156 rfl rfl rfl rfl rfl (by decide +kernel) rfl rfl (pg_hn rfl) (pg_noJ (by decide +kernel))
theorem pm_157 : fx_mOk vwCl pg_fty pg_TB pg_NB pg_SL pg_yy pg_bb pg_nl pg_rr pg_na pg_hh pg_xn pg_cd pg_hd pg_pc 157 := pg_mOk pk_157 rfl rfl rfl rfl rfl (by decide +kernel) rfl rfl (pg_hn rfl) (pg_noJ (by decide +kernel))
theorem pm_158 : fx_mOk vwCl pg_fty pg_TB pg_NB pg_SL pg_yy pg_bb pg_nl pg_rr pg_na pg_hh pg_xn pg_cd pg_hd pg_pc 158 := pg_mOk pk_158 rfl rfl rfl rfl rfl (by decide +kernel) rfl rfl (pg_hn rfl) (pg_noJ (by decide +kernel))
theorem pm_159 : fx_mOk vwCl pg_fty pg_TB pg_NB pg_SL pg_yy pg_bb pg_nl pg_rr pg_na pg_hh pg_xn pg_cd pg_hd pg_pc 159 := pg_mOk pk_159 rfl rfl rfl rfl rfl (by decide +kernel) rfl rfl (pg_hn rfl) (pg_noJ (by decide +kernel))
theorem pm_160 : fx_mOk vwCl pg_fty pg_TB pg_NB pg_SL pg_yy pg_bb pg_nl pg_rr pg_na pg_hh pg_xn pg_cd pg_hd pg_pc 160 := pg_mOk pk_160 rfl rfl rfl rfl rfl (by decide +kernel) rfl rfl (pg_hn rfl) (pg_noJ (by decide +kernel))
theorem pm_161 : fx_mOk vwCl pg_fty pg_TB pg_NB pg_SL pg_yy pg_bb pg_nl pg_rr pg_na pg_hh pg_xn pg_cd pg_hd pg_pc 161 := pg_mOk pk_161 rfl rfl rfl rfl rfl (by decide +kernel) rfl rfl (pg_hn rfl) (pg_noJ (by decide +kernel))
theorem pm_162 : fx_mOk vwCl pg_fty pg_TB pg_NB pg_SL pg_yy pg_bb pg_nl pg_rr pg_na pg_hh pg_xn pg_cd pg_hd pg_pc 162 := pg_mOk pk_162 rfl rfl rfl rfl rfl (by decide +kernel) rfl rfl (pg_hn rfl) (pg_noJ (by decide +kernel))
theorem pm_163 : fx_mOk vwCl pg_fty pg_TB pg_NB pg_SL pg_yy pg_bb pg_nl pg_rr pg_na pg_hh pg_xn pg_cd pg_hd pg_pc 163 := pg_mOk pk_163 rfl rfl rfl rfl rfl (by decide +kernel) rfl rfl (pg_hn rfl) (pg_noJ (by decide +kernel))
theorem pm_164 : fx_mOk vwCl pg_fty pg_TB pg_NB pg_SL pg_yy pg_bb pg_nl pg_rr pg_na pg_hh pg_xn pg_cd pg_hd pg_pc 164 := pg_mOk pk_164 rfl rfl rfl rfl rfl (by decide +kernel) rfl rfl (pg_hn rfl) (pg_noJ (by decide +kernel))
theorem pm_165 : fx_mOk vwCl pg_fty pg_TB pg_NB pg_SL pg_yy pg_bb pg_nl pg_rr pg_na pg_hh pg_xn pg_cd pg_hd pg_pc 165 := pg_mOk pk_165 rfl rfl rfl rfl rfl (by decide +kernel) rfl rfl (pg_hn rfl) (pg_noJ (by decide +kernel))
theorem pm_166 : fx_mOk vwCl pg_fty pg_TB pg_NB pg_SL pg_yy pg_bb pg_nl pg_rr pg_na pg_hh pg_xn pg_cd pg_hd pg_pc 166 := pg_mOk pk_166 rfl rfl rfl rfl rfl (by decide +kernel) rfl rfl (pg_hn rfl) (pg_noJ (by decide +kernel))
theorem pm_167 : fx_mOk vwCl pg_fty pg_TB pg_NB pg_SL pg_yy pg_bb pg_nl pg_rr pg_na pg_hh pg_xn pg_cd pg_hd pg_pc 167 := pg_mOk pk_167 rfl rfl rfl rfl rfl (by decide +kernel) rfl rfl (pg_hn rfl) (pg_noJ (by decide +kernel))
theorem pm_168 : fx_mOk vwCl pg_fty pg_TB pg_NB pg_SL pg_yy pg_bb pg_nl pg_rr pg_na pg_hh pg_xn pg_cd pg_hd pg_pc 168 := pg_mOk pk_168 rfl rfl rfl rfl rfl (by decide +kernel) rfl rfl (pg_hn rfl) (pg_noJ (by decide +kernel))
theorem pm_169 : fx_mOk vwCl pg_fty pg_TB pg_NB pg_SL pg_yy pg_bb pg_nl pg_rr pg_na pg_hh pg_xn pg_cd pg_hd pg_pc 169 := pg_mOk pk_169 rfl rfl rfl rfl rfl (by decide +kernel) rfl rfl (pg_hn rfl) (pg_noJ (by decide +kernel))
theorem pm_170 : fx_mOk vwCl pg_fty pg_TB pg_NB pg_SL pg_yy pg_bb pg_nl pg_rr pg_na pg_hh pg_xn pg_cd pg_hd pg_pc 170 := pg_mOk pk_170 rfl rfl rfl rfl rfl (by decide +kernel) rfl rfl (pg_hn rfl) (pg_noJ (by decide +kernel))
theorem pm_171 : fx_mOk vwCl pg_fty pg_TB pg_NB pg_SL pg_yy pg_bb pg_nl pg_rr pg_na pg_hh pg_xn pg_cd pg_hd pg_pc 171 := pg_mOk pk_171 rfl rfl rfl rfl rfl (by decide +kernel) rfl rfl (pg_hn rfl) (pg_noJ (by decide +kernel))
theorem pm_172 : fx_mOk vwCl pg_fty pg_TB pg_NB pg_SL pg_yy pg_bb pg_nl pg_rr pg_na pg_hh pg_xn pg_cd pg_hd pg_pc 172 := pg_mOk pk_172 rfl rfl rfl rfl rfl (by decide +kernel) rfl rfl (pg_hn rfl) (pg_noJ (by decide +kernel))
theorem pm_173 : fx_mOk vwCl pg_fty pg_TB pg_NB pg_SL pg_yy pg_bb pg_nl pg_rr pg_na pg_hh pg_xn pg_cd pg_hd pg_pc 173 := pg_mOk pk_173 rfl rfl rfl rfl rfl (by decide +kernel) rfl rfl (pg_hn rfl) (pg_noJ (by decide +kernel))
theorem pm_174 : fx_mOk vwCl pg_fty pg_TB pg_NB pg_SL pg_yy pg_bb pg_nl pg_rr pg_na pg_hh pg_xn pg_cd pg_hd pg_pc 174 := pg_mOk pk_174 rfl rfl rfl rfl rfl (by decide +kernel) rfl rfl (pg_hn rfl) (pg_noJ (by decide +kernel))
theorem pm_175 : fx_mOk vwCl pg_fty pg_TB pg_NB pg_SL pg_yy pg_bb pg_nl pg_rr pg_na pg_hh pg_xn pg_cd pg_hd pg_pc 175 := pg_mOk pk_175 rfl rfl rfl rfl rfl (by decide +kernel) rfl rfl (pg_hn rfl) (pg_noJ (by decide +kernel))
theorem pm_176 : fx_mOk vwCl pg_fty pg_TB pg_NB pg_SL pg_yy pg_bb pg_nl pg_rr pg_na pg_hh pg_xn pg_cd pg_hd pg_pc 176 := pg_mOk pk_176 rfl rfl rfl rfl rfl (by decide +kernel) rfl rfl (pg_hn rfl) (pg_noJ (by decide +kernel))
theorem pm_177 : fx_mOk vwCl pg_fty pg_TB pg_NB pg_SL pg_yy pg_bb pg_nl pg_rr pg_na pg_hh pg_xn pg_cd pg_hd pg_pc 177 := pg_mOk pk_177 rfl rfl rfl rfl rfl (by decide +kernel) rfl rfl (pg_hn rfl) (pg_noJ (by decide +kernel))
theorem pm_178 : fx_mOk vwCl pg_fty pg_TB pg_NB pg_SL pg_yy pg_bb pg_nl pg_rr pg_na pg_hh pg_xn pg_cd pg_hd pg_pc 178 := pg_mOk pk_178 rfl rfl rfl rfl rfl (by decide +kernel) rfl rfl (pg_hn rfl) (pg_noJ (by decide +kernel))
theorem pm_179 : fx_mOk vwCl pg_fty pg_TB pg_NB pg_SL pg_yy pg_bb pg_nl pg_rr pg_na pg_hh pg_xn pg_cd pg_hd pg_pc 179 := pg_mOk pk_179 rfl rfl rfl rfl rfl (by decide +kernel) rfl rfl (pg_hn rfl) (pg_noJ (by decide +kernel))
theorem pm_180 : fx_mOk vwCl pg_fty pg_TB pg_NB pg_SL pg_yy pg_bb pg_nl pg_rr pg_na pg_hh pg_xn pg_cd pg_hd pg_pc 180 := pg_mOk pk_180 rfl rfl rfl rfl rfl (by decide +kernel) rfl rfl (pg_hn rfl) (pg_noJ (by decide +kernel))
theorem pm_181 : fx_mOk vwCl pg_fty pg_TB pg_NB pg_SL pg_yy pg_bb pg_nl pg_rr pg_na pg_hh pg_xn pg_cd pg_hd pg_pc 181 := pg_mOk pk_181 rfl rfl rfl rfl rfl (by decide +kernel) rfl rfl (pg_hn rfl) (pg_noJ (by decide +kernel))
theorem pm_183 : fx_mOk vwCl pg_fty pg_TB pg_NB pg_SL pg_yy pg_bb pg_nl pg_rr pg_na pg_hh pg_xn pg_cd pg_hd pg_pc 183 := pg_mOk pk_183 rfl rfl rfl rfl rfl (by decide +kernel) rfl rfl (pg_hn rfl) (pg_noJ (by decide +kernel))
theorem pm_185 : fx_mOk vwCl pg_fty pg_TB pg_NB pg_SL pg_yy pg_bb pg_nl pg_rr pg_na pg_hh pg_xn pg_cd pg_hd pg_pc 185 := pg_mOk pk_185 rfl rfl rfl rfl rfl (by decide +kernel) rfl rfl (pg_hn rfl) (pg_noJ (by decide +kernel))
theorem pm_186 : fx_mOk vwCl pg_fty pg_TB pg_NB pg_SL pg_yy pg_bb pg_nl pg_rr pg_na pg_hh pg_xn pg_cd pg_hd pg_pc 186 := pg_mOk pk_186 rfl rfl rfl rfl rfl (by decide +kernel) rfl rfl (pg_hn rfl) (pg_noJ (by decide +kernel))
theorem pm_187 : fx_mOk vwCl pg_fty pg_TB pg_NB pg_SL pg_yy pg_bb pg_nl pg_rr pg_na pg_hh pg_xn pg_cd pg_hd pg_pc 187 := pg_mOk pk_187 rfl rfl rfl rfl rfl (by decide +kernel) rfl rfl (pg_hn rfl) (pg_noJ (by decide +kernel))
theorem pm_188 : fx_mOk vwCl pg_fty pg_TB pg_NB pg_SL pg_yy pg_bb pg_nl pg_rr pg_na pg_hh pg_xn pg_cd pg_hd pg_pc 188 := pg_mOk pk_188 rfl rfl rfl rfl rfl (by decide +kernel) rfl rfl (pg_hn rfl) (pg_noJ (by decide +kernel))
theorem pm_189 : fx_mOk vwCl pg_fty pg_TB pg_NB pg_SL pg_yy pg_bb pg_nl pg_rr pg_na pg_hh pg_xn pg_cd pg_hd pg_pc 189 := pg_mOk pk_189 rfl rfl rfl rfl rfl (by decide +kernel) rfl rfl (pg_hn rfl) (pg_noJ (by decide +kernel))
theorem pm_190 : fx_mOk vwCl pg_fty pg_TB pg_NB pg_SL pg_yy pg_bb pg_nl pg_rr pg_na pg_hh pg_xn pg_cd pg_hd pg_pc 190 := pg_mOk pk_190 rfl rfl rfl rfl rfl (by decide +kernel) rfl rfl (pg_hn rfl) (pg_noJ (by decide +kernel))
theorem pm_191 : fx_mOk vwCl pg_fty pg_TB pg_NB pg_SL pg_yy pg_bb pg_nl pg_rr pg_na pg_hh pg_xn pg_cd pg_hd pg_pc 191 := pg_mOk pk_191 rfl rfl rfl rfl rfl (by decide +kernel) rfl rfl (pg_hn rfl) (pg_noJ (by decide +kernel))
theorem pm_192 : fx_mOk vwCl pg_fty pg_TB pg_NB pg_SL pg_yy pg_bb pg_nl pg_rr pg_na pg_hh pg_xn pg_cd pg_hd pg_pc 192 := pg_mOk pk_192 rfl rfl rfl rfl rfl (by decide +kernel) rfl rfl (pg_hn rfl) (pg_noJ (by decide +kernel))
theorem pm_193 : fx_mOk vwCl pg_fty pg_TB pg_NB pg_SL pg_yy pg_bb pg_nl pg_rr pg_na pg_hh pg_xn pg_cd pg_hd pg_pc 193 := pg_mOk pk_193 rfl rfl rfl rfl rfl (by decide +kernel) rfl rfl (pg_hn rfl) (pg_noJ (by decide +kernel))
theorem pm_194 : fx_mOk vwCl pg_fty pg_TB pg_NB pg_SL pg_yy pg_bb pg_nl pg_rr pg_na pg_hh pg_xn pg_cd pg_hd pg_pc 194 := pg_mOk pk_194 rfl rfl rfl rfl rfl (by decide +kernel) rfl rfl (pg_hn rfl) (pg_noJ (by decide +kernel))
theorem pm_195 : fx_mOk vwCl pg_fty pg_TB pg_NB pg_SL pg_yy pg_bb pg_nl pg_rr pg_na pg_hh pg_xn pg_cd pg_hd pg_pc 195 := pg_mOk pk_195 rfl rfl rfl rfl rfl (by decide +kernel) rfl rfl (pg_hn rfl) (pg_noJ (by decide +kernel))
theorem pm_196 : fx_mOk vwCl pg_fty pg_TB pg_NB pg_SL pg_yy pg_bb pg_nl pg_rr pg_na pg_hh pg_xn pg_cd pg_hd pg_pc 196 := pg_mOk pk_196 rfl rfl rfl rfl rfl (by decide +kernel) rfl rfl (pg_hn rfl) (pg_noJ (by decide +kernel))
theorem pm_197 : fx_mOk vwCl pg_fty pg_TB pg_NB pg_SL pg_yy pg_bb pg_nl pg_rr pg_na pg_hh pg_xn pg_cd pg_hd pg_pc 197 := pg_mOk pk_197 rfl rfl rfl rfl rfl (by decide +kernel) rfl rfl (pg_hn rfl) (pg_noJ (by decide +kernel))
theorem pm_198 : fx_mOk vwCl pg_fty pg_TB pg_NB pg_SL pg_yy pg_bb pg_nl pg_rr pg_na pg_hh pg_xn pg_cd pg_hd pg_pc 198 := pg_mOk pk_198 rfl rfl rfl rfl rfl (by decide +kernel) rfl rfl (pg_hn rfl) (pg_noJ (by decide +kernel))
theorem pm_199 : fx_mOk vwCl pg_fty pg_TB pg_NB pg_SL pg_yy pg_bb pg_nl pg_rr pg_na pg_hh pg_xn pg_cd pg_hd pg_pc 199 := pg_mOk pk_199 rfl rfl rfl rfl rfl (by decide +kernel) rfl rfl (pg_hn rfl) (pg_noJ (by decide +kernel))
theorem pm_200 : fx_mOk vwCl pg_fty pg_TB pg_NB pg_SL pg_yy pg_bb pg_nl pg_rr pg_na pg_hh pg_xn pg_cd pg_hd pg_pc 200 := pg_mOk pk_200 rfl rfl rfl rfl rfl (by decide +kernel) rfl rfl (pg_hn rfl) (pg_noJ (by decide +kernel))
theorem pm_201 : fx_mOk vwCl pg_fty pg_TB pg_NB pg_SL pg_yy pg_bb pg_nl pg_rr pg_na pg_hh pg_xn pg_cd pg_hd pg_pc 201 := pg_mOk pk_201 rfl rfl rfl rfl rfl (by decide +kernel) rfl rfl (pg_hn rfl) (pg_noJ (by decide +kernel))
theorem pm_202 : fx_mOk vwCl pg_fty pg_TB pg_NB pg_SL pg_yy pg_bb pg_nl pg_rr pg_na pg_hh pg_xn pg_cd pg_hd pg_pc 202 := pg_mOk pk_202 rfl rfl rfl rfl rfl (by decide +kernel) rfl rfl (pg_hn rfl) (pg_noJ (by decide +kernel))
theorem pm_203 : fx_mOk vwCl pg_fty pg_TB pg_NB pg_SL pg_yy pg_bb pg_nl pg_rr pg_na pg_hh pg_xn pg_cd pg_hd pg_pc 203 := pg_mOk pk_203 rfl rfl rfl rfl rfl (by decide +kernel) rfl rfl (pg_hn rfl) (pg_noJ (by decide +kernel))
theorem pm_204 : fx_mOk vwCl pg_fty pg_TB pg_NB pg_SL pg_yy pg_bb pg_nl pg_rr pg_na pg_hh pg_xn pg_cd pg_hd pg_pc 204 := pg_mOk pk_204 rfl rfl rfl rfl rfl (by decide +kernel) rfl rfl (pg_hn rfl) (pg_noJ (by decide +kernel))
theorem pm_205 : fx_mOk vwCl pg_fty pg_TB pg_NB pg_SL pg_yy pg_bb pg_nl pg_rr pg_na pg_hh pg_xn pg_cd pg_hd pg_pc 205 := pg_mOk pk_205 rfl rfl rfl rfl rfl (by decide +kernel) rfl rfl (pg_hn rfl) (pg_noJ (by decide +kernel))
theorem pm_206 : fx_mOk vwCl pg_fty pg_TB pg_NB pg_SL pg_yy pg_bb pg_nl pg_rr pg_na pg_hh pg_xn pg_cd pg_hd pg_pc 206 := pg_mOk pk_206 rfl rfl rfl rfl rfl (by decide +kernel) rfl rfl (pg_hn rfl) (pg_noJ (by decide +kernel))
theorem pm_207 : fx_mOk vwCl pg_fty pg_TB pg_NB pg_SL pg_yy pg_bb pg_nl pg_rr pg_na pg_hh pg_xn pg_cd pg_hd pg_pc 207 := pg_mOk pk_207 rfl rfl rfl rfl rfl (by decide +kernel) rfl rfl (pg_hn rfl) (pg_noJ (by decide +kernel))
theorem pm_208 : fx_mOk vwCl pg_fty pg_TB pg_NB pg_SL pg_yy pg_bb pg_nl pg_rr pg_na pg_hh pg_xn pg_cd pg_hd pg_pc 208 := pg_mOk pk_208 rfl rfl rfl rfl rfl (by decide +kernel) rfl rfl (pg_hn rfl) (pg_noJ (by decide +kernel))
theorem pm_209 : fx_mOk vwCl pg_fty pg_TB pg_NB pg_SL pg_yy pg_bb pg_nl pg_rr pg_na pg_hh pg_xn pg_cd pg_hd pg_pc 209 := pg_mOk pk_209 rfl rfl rfl rfl rfl (by decide +kernel) rfl rfl (pg_hn rfl) (pg_noJ (by decide +kernel))
theorem pm_210 : fx_mOk vwCl pg_fty pg_TB pg_NB pg_SL pg_yy pg_bb pg_nl pg_rr pg_na pg_hh pg_xn pg_cd pg_hd pg_pc 210 := pg_mOk pk_210 rfl rfl rfl rfl rfl (by decide +kernel) rfl rfl (pg_hn rfl) (pg_noJ (by decide +kernel))
theorem pm_211 : fx_mOk vwCl pg_fty pg_TB pg_NB pg_SL pg_yy pg_bb pg_nl pg_rr pg_na pg_hh pg_xn pg_cd pg_hd pg_pc 211 := pg_mOk pk_211 rfl rfl rfl rfl rfl (by decide +kernel) rfl rfl (pg_hn rfl) (pg_noJ (by decide +kernel))
theorem pm_212 : fx_mOk vwCl pg_fty pg_TB pg_NB pg_SL pg_yy pg_bb pg_nl pg_rr pg_na pg_hh pg_xn pg_cd pg_hd pg_pc 212 := pg_mOk pk_212 rfl rfl rfl rfl rfl (by decide +kernel) rfl rfl (pg_hn rfl) (pg_noJ (by decide +kernel))
theorem pm_213 : fx_mOk vwCl pg_fty pg_TB pg_NB pg_SL pg_yy pg_bb pg_nl pg_rr pg_na pg_hh pg_xn pg_cd pg_hd pg_pc 213 := pg_mOk pk_213 rfl rfl rfl rfl rfl (by decide +kernel) rfl rfl (pg_hn rfl) (pg_noJ (by decide +kernel))
theorem pm_214 : fx_mOk vwCl pg_fty pg_TB pg_NB pg_SL pg_yy pg_bb pg_nl pg_rr pg_na pg_hh pg_xn pg_cd pg_hd pg_pc 214 := pg_mOk pk_214 rfl rfl rfl rfl rfl (by decide +kernel) rfl rfl (pg_hn rfl) (pg_noJ (by decide +kernel))
theorem pm_215 : fx_mOk vwCl pg_fty pg_TB pg_NB pg_SL pg_yy pg_bb pg_nl pg_rr pg_na pg_hh pg_xn pg_cd pg_hd pg_pc 215 := pg_mOk pk_215 rfl rfl rfl rfl rfl (by decide +kernel) rfl rfl (pg_hn rfl) (pg_noJ (by decide +kernel))
theorem pm_216 : fx_mOk vwCl pg_fty pg_TB pg_NB pg_SL pg_yy pg_bb pg_nl pg_rr pg_na pg_hh pg_xn pg_cd pg_hd pg_pc 216 := pg_mOk pk_216 rfl rfl rfl rfl rfl (by decide +kernel) rfl rfl (pg_hn rfl) (pg_noJ (by decide +kernel))
theorem pm_217 : fx_mOk vwCl pg_fty pg_TB pg_NB pg_SL pg_yy pg_bb pg_nl pg_rr pg_na pg_hh pg_xn pg_cd pg_hd pg_pc 217 := pg_mOk pk_217 rfl rfl rfl rfl rfl (by decide +kernel) rfl rfl (pg_hn rfl) (pg_noJ (by decide +kernel))
theorem pm_218 : fx_mOk vwCl pg_fty pg_TB pg_NB pg_SL pg_yy pg_bb pg_nl pg_rr pg_na pg_hh pg_xn pg_cd pg_hd pg_pc 218 := pg_mOk pk_218 rfl rfl rfl rfl rfl (by decide +kernel) rfl rfl (pg_hn rfl) (pg_noJ (by decide +kernel))
theorem pm_219 : fx_mOk vwCl pg_fty pg_TB pg_NB pg_SL pg_yy pg_bb pg_nl pg_rr pg_na pg_hh pg_xn pg_cd pg_hd pg_pc 219 := pg_mOk pk_219 rfl rfl rfl rfl rfl (by decide +kernel) rfl rfl (pg_hn rfl) (pg_noJ (by decide +kernel))
theorem pm_220 : fx_mOk vwCl pg_fty pg_TB pg_NB pg_SL pg_yy pg_bb pg_nl pg_rr pg_na pg_hh pg_xn pg_cd pg_hd pg_pc 220 := pg_mOk pk_220 rfl rfl rfl rfl rfl (by decide +kernel) rfl rfl (pg_hn rfl) (pg_noJ (by decide +kernel))
theorem pm_221 : fx_mOk vwCl pg_fty pg_TB pg_NB pg_SL pg_yy pg_bb pg_nl pg_rr pg_na pg_hh pg_xn pg_cd pg_hd pg_pc 221 := pg_mOk pk_221 rfl rfl rfl rfl rfl (by decide +kernel) rfl rfl (pg_hn rfl) (pg_noJ (by decide +kernel))
theorem pm_222 : fx_mOk vwCl pg_fty pg_TB pg_NB pg_SL pg_yy pg_bb pg_nl pg_rr pg_na pg_hh pg_xn pg_cd pg_hd pg_pc 222 := pg_mOk pk_222 rfl rfl rfl rfl rfl (by decide +kernel) rfl rfl (pg_hn rfl) (pg_noJ (by decide +kernel))
theorem pm_223 : fx_mOk vwCl pg_fty pg_TB pg_NB pg_SL pg_yy pg_bb pg_nl pg_rr pg_na pg_hh pg_xn pg_cd pg_hd pg_pc 223 := pg_mOk pk_223 rfl rfl rfl rfl rfl (by decide +kernel) rfl rfl (pg_hn rfl) (pg_noJ (by decide +kernel))
theorem pm_224 : fx_mOk vwCl pg_fty pg_TB pg_NB pg_SL pg_yy pg_bb pg_nl pg_rr pg_na pg_hh pg_xn pg_cd pg_hd pg_pc 224 := pg_mOk pk_224 rfl rfl rfl rfl rfl (by decide +kernel) rfl rfl (pg_hn rfl) (pg_noJ (by decide +kernel))
theorem pm_225 : fx_mOk vwCl pg_fty pg_TB pg_NB pg_SL pg_yy pg_bb pg_nl pg_rr pg_na pg_hh pg_xn pg_cd pg_hd pg_pc 225 := pg_mOk pk_225 rfl rfl rfl rfl rfl (by decide +kernel) rfl rfl (pg_hn rfl) (pg_noJ (by decide +kernel))
theorem pm_226 : fx_mOk vwCl pg_fty pg_TB pg_NB pg_SL pg_yy pg_bb pg_nl pg_rr pg_na pg_hh pg_xn pg_cd pg_hd pg_pc 226 := pg_mOk pk_226 rfl rfl rfl rfl rfl (by decide +kernel) rfl rfl (pg_hn rfl) (pg_noJ (by decide +kernel))
theorem pm_227 : fx_mOk vwCl pg_fty pg_TB pg_NB pg_SL pg_yy pg_bb pg_nl pg_rr pg_na pg_hh pg_xn pg_cd pg_hd pg_pc 227 := pg_mOk pk_227 rfl rfl rfl rfl rfl (by decide +kernel) rfl rfl (pg_hn rfl) (pg_noJ (by decide +kernel))
theorem pm_228 : fx_mOk vwCl pg_fty pg_TB pg_NB pg_SL pg_yy pg_bb pg_nl pg_rr pg_na pg_hh pg_xn pg_cd pg_hd pg_pc 228 := pg_mOk pk_228 rfl rfl rfl rfl rfl (by decide +kernel) rfl rfl (pg_hn rfl) (pg_noJ (by decide +kernel))
theorem pm_229 : fx_mOk vwCl pg_fty pg_TB pg_NB pg_SL pg_yy pg_bb pg_nl pg_rr pg_na pg_hh pg_xn pg_cd pg_hd pg_pc 229 := pg_mOk pk_229 rfl rfl rfl rfl rfl (by decide +kernel) rfl rfl (pg_hn rfl) (pg_noJ (by decide +kernel))
theorem pm_230 : fx_mOk vwCl pg_fty pg_TB pg_NB pg_SL pg_yy pg_bb pg_nl pg_rr pg_na pg_hh pg_xn pg_cd pg_hd pg_pc 230 := pg_mOk pk_230 rfl rfl rfl rfl rfl (by decide +kernel) rfl rfl (pg_hn rfl) (pg_noJ (by decide +kernel))
theorem pm_231 : fx_mOk vwCl pg_fty pg_TB pg_NB pg_SL pg_yy pg_bb pg_nl pg_rr pg_na pg_hh pg_xn pg_cd pg_hd pg_pc 231 := pg_mOk pk_231 rfl rfl rfl rfl rfl (by decide +kernel) rfl rfl (pg_hn rfl) (pg_noJ (by decide +kernel))
theorem pm_232 : fx_mOk vwCl pg_fty pg_TB pg_NB pg_SL pg_yy pg_bb pg_nl pg_rr pg_na pg_hh pg_xn pg_cd pg_hd pg_pc 232 := pg_mOk pk_232 rfl rfl rfl rfl rfl (by decide +kernel) rfl rfl (pg_hn rfl) (pg_noJ (by decide +kernel))
theorem pm_233 : fx_mOk vwCl pg_fty pg_TB pg_NB pg_SL pg_yy pg_bb pg_nl pg_rr pg_na pg_hh pg_xn pg_cd pg_hd pg_pc 233 := pg_mOk pk_233 rfl rfl rfl rfl rfl (by decide +kernel) rfl rfl (pg_hn rfl) (pg_noJ (by decide +kernel))
theorem pm_234 : fx_mOk vwCl pg_fty pg_TB pg_NB pg_SL pg_yy pg_bb pg_nl pg_rr pg_na pg_hh pg_xn pg_cd pg_hd pg_pc 234 := pg_mOk pk_234 rfl rfl rfl rfl rfl (by decide +kernel) rfl rfl (pg_hn rfl) (pg_noJ (by decide +kernel))
theorem pm_235 : fx_mOk vwCl pg_fty pg_TB pg_NB pg_SL pg_yy pg_bb pg_nl pg_rr pg_na pg_hh pg_xn pg_cd pg_hd pg_pc 235 := pg_mOk pk_235 rfl rfl rfl rfl rfl (by decide +kernel) rfl rfl (pg_hn rfl) (pg_noJ (by decide +kernel))
theorem pm_236 : fx_mOk vwCl pg_fty pg_TB pg_NB pg_SL pg_yy pg_bb pg_nl pg_rr pg_na pg_hh pg_xn pg_cd pg_hd pg_pc 236 := pg_mOk pk_236 rfl rfl rfl rfl rfl (by decide +kernel) rfl rfl (pg_hn rfl) (pg_noJ (by decide +kernel))
theorem pm_237 : fx_mOk vwCl pg_fty pg_TB pg_NB pg_SL pg_yy pg_bb pg_nl pg_rr pg_na pg_hh pg_xn pg_cd pg_hd pg_pc 237 := pg_mOk pk_237 rfl rfl rfl rfl rfl (by decide +kernel) rfl rfl (pg_hn rfl) (pg_noJ (by decide +kernel))
theorem pm_238 : fx_mOk vwCl pg_fty pg_TB pg_NB pg_SL pg_yy pg_bb pg_nl pg_rr pg_na pg_hh pg_xn pg_cd pg_hd pg_pc 238 := pg_mOk pk_238 rfl rfl rfl rfl rfl (by decide +kernel) rfl rfl (pg_hn rfl) (pg_noJ (by decide +kernel))
theorem pm_239 : fx_mOk vwCl pg_fty pg_TB pg_NB pg_SL pg_yy pg_bb pg_nl pg_rr pg_na pg_hh pg_xn pg_cd pg_hd pg_pc 239 := pg_mOk pk_239 rfl rfl rfl rfl rfl (by decide +kernel) rfl rfl (pg_hn rfl) (pg_noJ (by decide +kernel))
theorem pm_240 : fx_mOk vwCl pg_fty pg_TB pg_NB pg_SL pg_yy pg_bb pg_nl pg_rr pg_na pg_hh pg_xn pg_cd pg_hd pg_pc 240 := pg_mOk pk_240 rfl rfl rfl rfl rfl (by decide +kernel) rfl rfl (pg_hn rfl) (pg_noJ (by decide +kernel))
theorem pm_241 : fx_mOk vwCl pg_fty pg_TB pg_NB pg_SL pg_yy pg_bb pg_nl pg_rr pg_na pg_hh pg_xn pg_cd pg_hd pg_pc 241 := pg_mOk pk_241 rfl rfl rfl rfl rfl (by decide +kernel) rfl rfl (pg_hn rfl) (pg_noJ (by decide +kernel))
theorem pm_242 : fx_mOk vwCl pg_fty pg_TB pg_NB pg_SL pg_yy pg_bb pg_nl pg_rr pg_na pg_hh pg_xn pg_cd pg_hd pg_pc 242 := pg_mOk pk_242 rfl rfl rfl rfl rfl (by decide +kernel) rfl rfl (pg_hn rfl) (pg_noJ (by decide +kernel))
theorem pm_243 : fx_mOk vwCl pg_fty pg_TB pg_NB pg_SL pg_yy pg_bb pg_nl pg_rr pg_na pg_hh pg_xn pg_cd pg_hd pg_pc 243 := pg_mOk pk_243 rfl rfl rfl rfl rfl (by decide +kernel) rfl rfl (pg_hn rfl) (pg_noJ (by decide +kernel))
theorem pm_244 : fx_mOk vwCl pg_fty pg_TB pg_NB pg_SL pg_yy pg_bb pg_nl pg_rr pg_na pg_hh pg_xn pg_cd pg_hd pg_pc 244 := pg_mOk pk_244 rfl rfl rfl rfl rfl (by decide +kernel) rfl rfl (pg_hn rfl) (pg_noJ (by decide +kernel))
theorem pm_245 : fx_mOk vwCl pg_fty pg_TB pg_NB pg_SL pg_yy pg_bb pg_nl pg_rr pg_na pg_hh pg_xn pg_cd pg_hd pg_pc 245 := pg_mOk pk_245 rfl rfl rfl rfl rfl (by decide +kernel) rfl rfl (pg_hn rfl) (pg_noJ (by decide +kernel))
theorem pm_246 : fx_mOk vwCl pg_fty pg_TB pg_NB pg_SL pg_yy pg_bb pg_nl pg_rr pg_na pg_hh pg_xn pg_cd pg_hd pg_pc 246 := pg_mOk pk_246 rfl rfl rfl rfl rfl (by decide +kernel) rfl rfl (pg_hn rfl) (pg_noJ (by decide +kernel))
theorem pm_247 : fx_mOk vwCl pg_fty pg_TB pg_NB pg_SL pg_yy pg_bb pg_nl pg_rr pg_na pg_hh pg_xn pg_cd pg_hd pg_pc 247 := pg_mOk pk_247 rfl rfl rfl rfl rfl (by decide +kernel) rfl rfl (pg_hn rfl) (pg_noJ (by decide +kernel))
theorem pm_248 : fx_mOk vwCl pg_fty pg_TB pg_NB pg_SL pg_yy pg_bb pg_nl pg_rr pg_na pg_hh pg_xn pg_cd pg_hd pg_pc 248 := pg_mOk pk_248 rfl rfl rfl rfl rfl (by decide +kernel) rfl rfl (pg_hn rfl) (pg_noJ (by decide +kernel))
theorem pm_249 : fx_mOk vwCl pg_fty pg_TB pg_NB pg_SL pg_yy pg_bb pg_nl pg_rr pg_na pg_hh pg_xn pg_cd pg_hd pg_pc 249 := pg_mOk pk_249 rfl rfl rfl rfl rfl (by decide +kernel) rfl rfl (pg_hn rfl) (pg_noJ (by decide +kernel))
theorem pm_250 : fx_mOk vwCl pg_fty pg_TB pg_NB pg_SL pg_yy pg_bb pg_nl pg_rr pg_na pg_hh pg_xn pg_cd pg_hd pg_pc 250 := pg_mOk pk_250 rfl rfl rfl rfl rfl (by decide +kernel) rfl rfl (pg_hn rfl) (pg_noJ (by decide +kernel))
theorem pm_251 : fx_mOk vwCl pg_fty pg_TB pg_NB pg_SL pg_yy pg_bb pg_nl pg_rr pg_na pg_hh pg_xn pg_cd pg_hd pg_pc 251 := pg_mOk pk_251 rfl rfl rfl rfl rfl (by decide +kernel) rfl rfl (pg_hn rfl) (pg_noJ (by decide +kernel))
theorem pm_252 : fx_mOk vwCl pg_fty pg_TB pg_NB pg_SL pg_yy pg_bb pg_nl pg_rr pg_na pg_hh pg_xn pg_cd pg_hd pg_pc 252 := pg_mOk pk_252 rfl rfl rfl rfl rfl (by decide +kernel) rfl rfl (pg_hn rfl) (pg_noJ (by decide +kernel))
theorem pm_253 : fx_mOk vwCl pg_fty pg_TB pg_NB pg_SL pg_yy pg_bb pg_nl pg_rr pg_na pg_hh pg_xn pg_cd pg_hd pg_pc 253 := pg_mOk pk_253 rfl rfl rfl rfl rfl (by decide +kernel) rfl rfl (pg_hn rfl) (pg_noJ (by decide +kernel))
theorem pm_254 : fx_mOk vwCl pg_fty pg_TB pg_NB pg_SL pg_yy pg_bb pg_nl pg_rr pg_na pg_hh pg_xn pg_cd pg_hd pg_pc 254 := pg_mOk pk_254 rfl rfl rfl rfl rfl (by decide +kernel) rfl rfl (pg_hn rfl) (pg_noJ (by decide +kernel))
theorem pm_255 : fx_mOk vwCl pg_fty pg_TB pg_NB pg_SL pg_yy pg_bb pg_nl pg_rr pg_na pg_hh pg_xn pg_cd pg_hd pg_pc 255 := pg_mOk pk_255 rfl rfl rfl rfl rfl (by decide +kernel) rfl rfl (pg_hn rfl) (pg_noJ (by decide +kernel))
theorem pm_256 : fx_mOk vwCl pg_fty pg_TB pg_NB pg_SL pg_yy pg_bb pg_nl pg_rr pg_na pg_hh pg_xn pg_cd pg_hd pg_pc 256 := pg_mOk pk_256 rfl rfl rfl rfl rfl (by decide +kernel) rfl rfl (pg_hn rfl) (pg_noJ (by decide +kernel))
theorem pm_257 : fx_mOk vwCl pg_fty pg_TB pg_NB pg_SL pg_yy pg_bb pg_nl pg_rr pg_na pg_hh pg_xn pg_cd pg_hd pg_pc 257 := pg_mOk pk_257 rfl rfl rfl rfl rfl (by decide +kernel) rfl rfl (pg_hn rfl) (pg_noJ (by decide +kernel))
theorem pm_258 : fx_mOk vwCl pg_fty pg_TB pg_NB pg_SL pg_yy pg_bb pg_nl pg_rr pg_na pg_hh pg_xn pg_cd pg_hd pg_pc 258 := pg_mOk pk_258 rfl rfl rfl rfl rfl (by decide +kernel) rfl rfl (pg_hn rfl) (pg_noJ (by decide +kernel))
theorem pm_259 : fx_mOk vwCl pg_fty pg_TB pg_NB pg_SL pg_yy pg_bb pg_nl pg_rr pg_na pg_hh pg_xn pg_cd pg_hd pg_pc 259 := pg_mOk pk_259 rfl rfl rfl rfl rfl (by decide +kernel) rfl rfl (pg_hn rfl) (pg_noJ (by decide +kernel))
theorem pm_260 : fx_mOk vwCl pg_fty pg_TB pg_NB pg_SL pg_yy pg_bb pg_nl pg_rr pg_na pg_hh pg_xn pg_cd pg_hd pg_pc 260 := pg_mOk pk_260 rfl rfl rfl rfl rfl (by decide +kernel) rfl rfl (pg_hn rfl) (pg_noJ (by decide +kernel))
theorem pm_261 : fx_mOk vwCl pg_fty pg_TB pg_NB pg_SL pg_yy pg_bb pg_nl pg_rr pg_na pg_hh pg_xn pg_cd pg_hd pg_pc 261 := pg_mOk pk_261 rfl rfl rfl rfl rfl (by decide +kernel) rfl rfl (pg_hn rfl) (pg_noJ (by decide +kernel))
theorem pm_262 : fx_mOk vwCl pg_fty pg_TB pg_NB pg_SL pg_yy pg_bb pg_nl pg_rr pg_na pg_hh pg_xn pg_cd pg_hd pg_pc 262 := pg_mOk pk_262 rfl rfl rfl rfl rfl (by decide +kernel) rfl rfl (pg_hn rfl) (pg_noJ (by decide +kernel))
theorem pm_263 : fx_mOk vwCl pg_fty pg_TB pg_NB pg_SL pg_yy pg_bb pg_nl pg_rr pg_na pg_hh pg_xn pg_cd pg_hd pg_pc 263 := pg_mOk pk_263 rfl rfl rfl rfl rfl (by decide +kernel) rfl rfl (pg_hn rfl) (pg_noJ (by decide +kernel))
theorem pm_264 : fx_mOk vwCl pg_fty pg_TB pg_NB pg_SL pg_yy pg_bb pg_nl pg_rr pg_na pg_hh pg_xn pg_cd pg_hd pg_pc 264 := pg_mOk pk_264 rfl rfl rfl rfl rfl (by decide +kernel) rfl rfl (pg_hn rfl) (pg_noJ (by decide +kernel))
theorem pm_265 : fx_mOk vwCl pg_fty pg_TB pg_NB pg_SL pg_yy pg_bb pg_nl pg_rr pg_na pg_hh pg_xn pg_cd pg_hd pg_pc 265 := pg_mOk pk_265 rfl rfl rfl rfl rfl (by decide +kernel) rfl rfl (pg_hn rfl) (pg_noJ (by decide +kernel))
theorem pm_266 : fx_mOk vwCl pg_fty pg_TB pg_NB pg_SL pg_yy pg_bb pg_nl pg_rr pg_na pg_hh pg_xn pg_cd pg_hd pg_pc 266 := pg_mOk pk_266 rfl rfl rfl rfl rfl (by decide +kernel) rfl rfl (pg_hn rfl) (pg_noJ (by decide +kernel))
theorem pm_267 : fx_mOk vwCl pg_fty pg_TB pg_NB pg_SL pg_yy pg_bb pg_nl pg_rr pg_na pg_hh pg_xn pg_cd pg_hd pg_pc 267 := pg_mOk pk_267 rfl rfl rfl rfl rfl (by decide +kernel) rfl rfl (pg_hn rfl) (pg_noJ (by decide +kernel))
theorem pm_268 : fx_mOk vwCl pg_fty pg_TB pg_NB pg_SL pg_yy pg_bb pg_nl pg_rr pg_na pg_hh pg_xn pg_cd pg_hd pg_pc 268 := pg_mOk pk_268 rfl rfl rfl rfl rfl (by decide +kernel) rfl rfl (pg_hn rfl) (pg_noJ (by decide +kernel))
theorem pm_269 : fx_mOk vwCl pg_fty pg_TB pg_NB pg_SL pg_yy pg_bb pg_nl pg_rr pg_na pg_hh pg_xn pg_cd pg_hd pg_pc 269 := pg_mOk pk_269 rfl rfl rfl rfl rfl (by decide +kernel) rfl rfl (pg_hn rfl) (pg_noJ (by decide +kernel))
theorem pm_270 : fx_mOk vwCl pg_fty pg_TB pg_NB pg_SL pg_yy pg_bb pg_nl pg_rr pg_na pg_hh pg_xn pg_cd pg_hd pg_pc 270 := pg_mOk pk_270 rfl rfl rfl rfl rfl (by decide +kernel) rfl rfl (pg_hn rfl) (pg_noJ (by decide +kernel))
theorem pm_271 : fx_mOk vwCl pg_fty pg_TB pg_NB pg_SL pg_yy pg_bb pg_nl pg_rr pg_na pg_hh pg_xn pg_cd pg_hd pg_pc 271 := pg_mOk pk_271 rfl rfl rfl rfl rfl (by decide +kernel) rfl rfl (pg_hn rfl) (pg_noJ (by decide +kernel))
theorem pm_272 : fx_mOk vwCl pg_fty pg_TB pg_NB pg_SL pg_yy pg_bb pg_nl pg_rr pg_na pg_hh pg_xn pg_cd pg_hd pg_pc 272 := pg_mOk pk_272 rfl rfl rfl rfl rfl (by decide +kernel) rfl rfl (pg_hn rfl) (pg_noJ (by decide +kernel))
theorem pm_273 : fx_mOk vwCl pg_fty pg_TB pg_NB pg_SL pg_yy pg_bb pg_nl pg_rr pg_na pg_hh pg_xn pg_cd pg_hd pg_pc 273 := pg_mOk pk_273 rfl rfl rfl rfl rfl (by decide +kernel) rfl rfl (pg_hn rfl) (pg_noJ (by decide +kernel))
theorem pm_274 : fx_mOk vwCl pg_fty pg_TB pg_NB pg_SL pg_yy pg_bb pg_nl pg_rr pg_na pg_hh pg_xn pg_cd pg_hd pg_pc 274 := pg_mOk pk_274 rfl rfl rfl rfl rfl (by decide +kernel) rfl rfl (pg_hn rfl) (pg_noJ (by decide +kernel))
theorem pm_275 : fx_mOk vwCl pg_fty pg_TB pg_NB pg_SL pg_yy pg_bb pg_nl pg_rr pg_na pg_hh pg_xn pg_cd pg_hd pg_pc 275 := pg_mOk pk_275 rfl rfl rfl rfl rfl (by decide +kernel) rfl rfl (pg_hn rfl) (pg_noJ (by decide +kernel))
theorem pm_276 : fx_mOk vwCl pg_fty pg_TB pg_NB pg_SL pg_yy pg_bb pg_nl pg_rr pg_na pg_hh pg_xn pg_cd pg_hd pg_pc 276 := pg_mOk pk_276 rfl rfl rfl rfl rfl (by decide +kernel) rfl rfl (pg_hn rfl) (pg_noJ (by decide +kernel))
theorem pm_277 : fx_mOk vwCl pg_fty pg_TB pg_NB pg_SL pg_yy pg_bb pg_nl pg_rr pg_na pg_hh pg_xn pg_cd pg_hd pg_pc 277 := pg_mOk pk_277 rfl rfl rfl rfl rfl (by decide +kernel) rfl rfl (pg_hn rfl) (pg_noJ (by decide +kernel))
theorem pm_278 : fx_mOk vwCl pg_fty pg_TB pg_NB pg_SL pg_yy pg_bb pg_nl pg_rr pg_na pg_hh pg_xn pg_cd pg_hd pg_pc 278 := pg_mOk pk_278 rfl rfl rfl rfl rfl (by decide +kernel) rfl rfl (pg_hn rfl) (pg_noJ (by decide +kernel))
theorem pm_279 : fx_mOk vwCl pg_fty pg_TB pg_NB pg_SL pg_yy pg_bb pg_nl pg_rr pg_na pg_hh pg_xn pg_cd pg_hd pg_pc 279 := pg_mOk pk_279 rfl rfl rfl rfl rfl (by decide +kernel) rfl rfl (pg_hn rfl) (pg_noJ (by decide +kernel))
theorem pm_280 : fx_mOk vwCl pg_fty pg_TB pg_NB pg_SL pg_yy pg_bb pg_nl pg_rr pg_na pg_hh pg_xn pg_cd pg_hd pg_pc 280 := pg_mOk pk_280 rfl rfl rfl rfl rfl (by decide +kernel) rfl rfl (pg_hn rfl) (pg_noJ (by decide +kernel))
theorem pm_281 : fx_mOk vwCl pg_fty pg_TB pg_NB pg_SL pg_yy pg_bb pg_nl pg_rr pg_na pg_hh pg_xn pg_cd pg_hd pg_pc 281 := pg_mOk pk_281 rfl rfl rfl rfl rfl (by decide +kernel) rfl rfl (pg_hn rfl) (pg_noJ (by decide +kernel))
theorem pm_282 : fx_mOk vwCl pg_fty pg_TB pg_NB pg_SL pg_yy pg_bb pg_nl pg_rr pg_na pg_hh pg_xn pg_cd pg_hd pg_pc 282 := pg_mOk pk_282 rfl rfl rfl rfl rfl (by decide +kernel) rfl rfl (pg_hn rfl) (pg_noJ (by decide +kernel))
theorem pm_283 : fx_mOk vwCl pg_fty pg_TB pg_NB pg_SL pg_yy pg_bb pg_nl pg_rr pg_na pg_hh pg_xn pg_cd pg_hd pg_pc 283 := pg_mOk pk_283 rfl rfl rfl rfl rfl (by decide +kernel) rfl rfl (pg_hn rfl) (pg_noJ (by decide +kernel))
theorem pm_284 : fx_mOk vwCl pg_fty pg_TB pg_NB pg_SL pg_yy pg_bb pg_nl pg_rr pg_na pg_hh pg_xn pg_cd pg_hd pg_pc 284 := pg_mOk pk_284 rfl rfl rfl rfl rfl (by decide +kernel) rfl rfl (pg_hn rfl) (pg_noJ (by decide +kernel))
theorem pm_285 : fx_mOk vwCl pg_fty pg_TB pg_NB pg_SL pg_yy pg_bb pg_nl pg_rr pg_na pg_hh pg_xn pg_cd pg_hd pg_pc 285 := pg_mOk pk_285 rfl rfl rfl rfl rfl (by decide +kernel) rfl rfl (pg_hn rfl) (pg_noJ (by decide +kernel))
theorem pm_286 : fx_mOk vwCl pg_fty pg_TB pg_NB pg_SL pg_yy pg_bb pg_nl pg_rr pg_na pg_hh pg_xn pg_cd pg_hd pg_pc 286 := pg_mOk pk_286 rfl rfl rfl rfl rfl (by decide +kernel) rfl rfl (pg_hn rfl) (pg_noJ (by decide +kernel))
theorem pm_287 : fx_mOk vwCl pg_fty pg_TB pg_NB pg_SL pg_yy pg_bb pg_nl pg_rr pg_na pg_hh pg_xn pg_cd pg_hd pg_pc 287 := pg_mOk pk_287 rfl rfl rfl rfl rfl (by decide +kernel) rfl rfl (pg_hn rfl) (pg_noJ (by decide +kernel))
theorem pm_288 : fx_mOk vwCl pg_fty pg_TB pg_NB pg_SL pg_yy pg_bb pg_nl pg_rr pg_na pg_hh pg_xn pg_cd pg_hd pg_pc 288 := pg_mOk pk_288 rfl rfl rfl rfl rfl (by decide +kernel) rfl rfl (pg_hn rfl) (pg_noJ (by decide +kernel))
theorem pm_289 : fx_mOk vwCl pg_fty pg_TB pg_NB pg_SL pg_yy pg_bb pg_nl pg_rr pg_na pg_hh pg_xn pg_cd pg_hd pg_pc 289 := pg_mOk pk_289 rfl rfl rfl rfl rfl (by decide +kernel) rfl rfl (pg_hn rfl) (pg_noJ (by decide +kernel))
theorem pm_290 : fx_mOk vwCl pg_fty pg_TB pg_NB pg_SL pg_yy pg_bb pg_nl pg_rr pg_na pg_hh pg_xn pg_cd pg_hd pg_pc 290 := pg_mOk pk_290 rfl rfl rfl rfl rfl (by decide +kernel) rfl rfl (pg_hn rfl) (pg_noJ (by decide +kernel))
theorem pm_291 : fx_mOk vwCl pg_fty pg_TB pg_NB pg_SL pg_yy pg_bb pg_nl pg_rr pg_na pg_hh pg_xn pg_cd pg_hd pg_pc 291 := pg_mOk pk_291 rfl rfl rfl rfl rfl (by decide +kernel) rfl rfl (pg_hn rfl) (pg_noJ (by decide +kernel))
theorem pm_292 : fx_mOk vwCl pg_fty pg_TB pg_NB pg_SL pg_yy pg_bb pg_nl pg_rr pg_na pg_hh pg_xn pg_cd pg_hd pg_pc 292 := pg_mOk pk_292 rfl rfl rfl rfl rfl (by decide +kernel) rfl rfl (pg_hn rfl) (pg_noJ (by decide +kernel))
theorem pm_293 : fx_mOk vwCl pg_fty pg_TB pg_NB pg_SL pg_yy pg_bb pg_nl pg_rr pg_na pg_hh pg_xn pg_cd pg_hd pg_pc 293 := pg_mOk pk_293 rfl rfl rfl rfl rfl (by decide +kernel) rfl rfl (pg_hn rfl) (pg_noJ (by decide +kernel))
theorem pm_294 : fx_mOk vwCl pg_fty pg_TB pg_NB pg_SL pg_yy pg_bb pg_nl pg_rr pg_na pg_hh pg_xn pg_cd pg_hd pg_pc 294 := pg_mOk pk_294 rfl rfl rfl rfl rfl (by decide +kernel) rfl rfl (pg_hn rfl) (pg_noJ (by decide +kernel))
theorem pm_295 : fx_mOk vwCl pg_fty pg_TB pg_NB pg_SL pg_yy pg_bb pg_nl pg_rr pg_na pg_hh pg_xn pg_cd pg_hd pg_pc 295 := pg_mOk pk_295 rfl rfl rfl rfl rfl (by decide +kernel) rfl rfl (pg_hn rfl) (pg_noJ (by decide +kernel))
theorem pm_296 : fx_mOk vwCl pg_fty pg_TB pg_NB pg_SL pg_yy pg_bb pg_nl pg_rr pg_na pg_hh pg_xn pg_cd pg_hd pg_pc 296 := pg_mOk pk_296 rfl rfl rfl rfl rfl (by decide +kernel) rfl rfl (pg_hn rfl) (pg_noJ (by decide +kernel))
theorem pm_297 : fx_mOk vwCl pg_fty pg_TB pg_NB pg_SL pg_yy pg_bb pg_nl pg_rr pg_na pg_hh pg_xn pg_cd pg_hd pg_pc 297 := pg_mOk pk_297 rfl rfl rfl rfl rfl (by decide +kernel) rfl rfl (pg_hn rfl) (pg_noJ (by decide +kernel))
theorem pm_298 : fx_mOk vwCl pg_fty pg_TB pg_NB pg_SL pg_yy pg_bb pg_nl pg_rr pg_na pg_hh pg_xn pg_cd pg_hd pg_pc 298 := pg_mOk pk_298 rfl rfl rfl rfl rfl (by decide +kernel) rfl rfl (pg_hn rfl) (pg_noJ (by decide +kernel))
theorem pm_299 : fx_mOk vwCl pg_fty pg_TB pg_NB pg_SL pg_yy pg_bb pg_nl pg_rr pg_na pg_hh pg_xn pg_cd pg_hd pg_pc 299 := pg_mOk pk_299 rfl rfl rfl rfl rfl (by decide +kernel) rfl rfl (pg_hn rfl) (pg_noJ (by decide +kernel))
theorem pm_300 : fx_mOk vwCl pg_fty pg_TB pg_NB pg_SL pg_yy pg_bb pg_nl pg_rr pg_na pg_hh pg_xn pg_cd pg_hd pg_pc 300 := pg_mOk pk_300 rfl rfl rfl rfl rfl (by decide +kernel) rfl rfl (pg_hn rfl) (pg_noJ (by decide +kernel))
theorem pm_301 : fx_mOk vwCl pg_fty pg_TB pg_NB pg_SL pg_yy pg_bb pg_nl pg_rr pg_na pg_hh pg_xn pg_cd pg_hd pg_pc 301 := pg_mOk pk_301 rfl rfl rfl rfl rfl (by decide +kernel) rfl rfl (pg_hn rfl) (pg_noJ (by decide +kernel))
theorem pm_302 : fx_mOk vwCl pg_fty pg_TB pg_NB pg_SL pg_yy pg_bb pg_nl pg_rr pg_na pg_hh pg_xn pg_cd pg_hd pg_pc 302 := pg_mOk pk_302 rfl rfl rfl rfl rfl (by decide +kernel) rfl rfl (pg_hn rfl) (pg_noJ (by decide +kernel))
theorem pm_303 : fx_mOk vwCl pg_fty pg_TB pg_NB pg_SL pg_yy pg_bb pg_nl pg_rr pg_na pg_hh pg_xn pg_cd pg_hd pg_pc 303 := pg_mOk pk_303 rfl rfl rfl rfl rfl (by decide +kernel) rfl rfl (pg_hn rfl) (pg_noJ (by decide +kernel))
theorem pm_304 : fx_mOk vwCl pg_fty pg_TB pg_NB pg_SL pg_yy pg_bb pg_nl pg_rr pg_na pg_hh pg_xn pg_cd pg_hd pg_pc 304 := pg_mOk pk_304 rfl rfl rfl rfl rfl (by decide +kernel) rfl rfl (pg_hn rfl) (pg_noJ (by decide +kernel))
theorem pm_305 : fx_mOk vwCl pg_fty pg_TB pg_NB pg_SL pg_yy pg_bb pg_nl pg_rr pg_na pg_hh pg_xn pg_cd pg_hd pg_pc 305 := pg_mOk pk_305 rfl rfl rfl rfl rfl (by decide +kernel) rfl rfl (pg_hn rfl) (pg_noJ (by decide +kernel))
theorem pm_306 : fx_mOk vwCl pg_fty pg_TB pg_NB pg_SL pg_yy pg_bb pg_nl pg_rr pg_na pg_hh pg_xn pg_cd pg_hd pg_pc 306 := pg_mOk pk_306 rfl rfl rfl rfl rfl (by decide +kernel) rfl rfl (pg_hn rfl) (pg_noJ (by decide +kernel))
theorem pm_307 : fx_mOk vwCl pg_fty pg_TB pg_NB pg_SL pg_yy pg_bb pg_nl pg_rr pg_na pg_hh pg_xn pg_cd pg_hd pg_pc 307 := pg_mOk pk_307 rfl rfl rfl rfl rfl (by decide +kernel) rfl rfl (pg_hn rfl) (pg_noJ (by decide +kernel))
theorem pm_308 : fx_mOk vwCl pg_fty pg_TB pg_NB pg_SL pg_yy pg_bb pg_nl pg_rr pg_na pg_hh pg_xn pg_cd pg_hd pg_pc 308 := pg_mOk pk_308 rfl rfl rfl rfl rfl (by decide +kernel) rfl rfl (pg_hn rfl) (pg_noJ (by decide +kernel))
theorem pm_309 : fx_mOk vwCl pg_fty pg_TB pg_NB pg_SL pg_yy pg_bb pg_nl pg_rr pg_na pg_hh pg_xn pg_cd pg_hd pg_pc 309 := pg_mOk pk_309 rfl rfl rfl rfl rfl (by decide +kernel) rfl rfl (pg_hn rfl) (pg_noJ (by decide +kernel))
theorem pm_310 : fx_mOk vwCl pg_fty pg_TB pg_NB pg_SL pg_yy pg_bb pg_nl pg_rr pg_na pg_hh pg_xn pg_cd pg_hd pg_pc 310 := pg_mOk pk_310 rfl rfl rfl rfl rfl (by decide +kernel) rfl rfl (pg_hn rfl) (pg_noJ (by decide +kernel))
theorem pm_311 : fx_mOk vwCl pg_fty pg_TB pg_NB pg_SL pg_yy pg_bb pg_nl pg_rr pg_na pg_hh pg_xn pg_cd pg_hd pg_pc 311 := pg_mOk pk_311 rfl rfl rfl rfl rfl (by decide +kernel) rfl rfl (pg_hn rfl) (pg_noJ (by decide +kernel))
theorem pm_312 : fx_mOk vwCl pg_fty pg_TB pg_NB pg_SL pg_yy pg_bb pg_nl pg_rr pg_na pg_hh pg_xn pg_cd pg_hd pg_pc 312 := pg_mOk pk_312 rfl rfl rfl rfl rfl (by decide +kernel) rfl rfl (pg_hn rfl) (pg_noJ (by decide +kernel))
theorem pmr_0 : ∀ k, 0 ≤ k → k < 20 → fx_mOk vwCl pg_fty pg_TB pg_NB pg_SL pg_yy pg_bb pg_nl pg_rr pg_na pg_hh pg_xn pg_cd pg_hd pg_pc k := by
  intro k h1 h2
  rcases (show k = 0 ∨ k = 1 ∨ k = 2 ∨ k = 3 ∨ k = 4 ∨ k = 5 ∨ k = 6 ∨ k = 7 ∨ k = 8 ∨ k = 9 ∨ k = 10 ∨ k = 11 ∨ k = 12 ∨ k = 13 ∨ k = 14 ∨ k = 15 ∨ k = 16 ∨ k = 17 ∨ k = 18 ∨ k = 19 by omega) with rfl | rfl | rfl | rfl | rfl | rfl | rfl | rfl | rfl | rfl | rfl | rfl | rfl | rfl | rfl | rfl | rfl | rfl | rfl | rfl
  · exact pm_0
  · exact pm_1
  · exact pm_2
  · exact pm_3
  · exact pm_4
  · exact pm_5
  · exact pm_6
  · exact pm_7
  · exact pm_8
  · exact pm_9
  · exact pm_10
  · exact pm_11
  · exact pm_12
  · exact pm_13
  · exact pm_14
  · exact pm_15
  · exact pm_16
  · exact pm_17
  · exact pm_18
  · exact pm_19
theorem pmr_20 : ∀ k, 20 ≤ k → k < 40 → fx_mOk vwCl pg_fty pg_TB pg_NB pg_SL pg_yy pg_bb pg_nl pg_rr pg_na pg_hh pg_xn pg_cd pg_hd pg_pc k := by
  intro k h1 h2
  rcases (show k = 20 ∨ k = 21 ∨ k = 22 ∨ k = 23 ∨ k = 24 ∨ k = 25 ∨ k = 26 ∨ k = 27 ∨ k = 28 ∨ k = 29 ∨ k = 30 ∨ k = 31 ∨ k = 32 ∨ k = 33 ∨ k = 34 ∨ k = 35 ∨ k = 36 ∨ k = 37 ∨ k = 38 ∨ k = 39 by omega) with rfl | rfl | rfl | rfl | rfl | rfl | rfl | rfl | rfl | rfl | rfl | rfl | rfl | rfl | rfl | rfl | rfl | rfl | rfl | rfl
  · exact pm_20
  · exact pm_21
  · exact pm_22
  · exact pm_23
  · exact pm_24
  · exact pm_25
  · exact pm_26
  · exact pm_27
  · exact pm_28
  · exact pm_29
  · exact pm_30
  · exact pm_31
  · exact pm_32
  · exact pm_33
  · exact pm_34
  · exact pm_35
  · exact pm_36
  · exact pm_37
  · exact pm_38
  · exact pm_39
theorem pmr_40 : ∀ k, 40 ≤ k → k < 60 → fx_mOk vwCl pg_fty pg_TB pg_NB pg_SL pg_yy pg_bb pg_nl pg_rr pg_na pg_hh pg_xn pg_cd pg_hd pg_pc k := by
  intro k h1 h2
  rcases (show k = 40 ∨ k = 41 ∨ k = 42 ∨ k = 43 ∨ k = 44 ∨ k = 45 ∨ k = 46 ∨ k = 47 ∨ k = 48 ∨ k = 49 ∨ k = 50 ∨ k = 51 ∨ k = 52 ∨ k = 53 ∨ k = 54 ∨ k = 55 ∨ k = 56 ∨ k = 57 ∨ k = 58 ∨ k = 59 by omega) with rfl | rfl | rfl | rfl | rfl | rfl | rfl | rfl | rfl | rfl | rfl | rfl | rfl | rfl | rfl | rfl | rfl | rfl | rfl | rfl
  · exact pm_40
  · exact pm_41
  · exact pm_42
  · exact pm_43
  · exact pm_44
  · exact pm_45
  · exact pm_46
  · exact pm_47
  · exact pm_48
  · exact pm_49
  · exact pm_50
  · exact pm_51
  · exact pm_52
  · exact pm_53
  · exact pm_54
  · exact pm_55
  · exact pm_56
  · exact pm_57
  · exact pm_58
  · exact pm_59
theorem pmr_60 : ∀ k, 60 ≤ k → k < 80 → fx_mOk vwCl pg_fty pg_TB pg_NB pg_SL pg_yy pg_bb pg_nl pg_rr pg_na pg_hh pg_xn pg_cd pg_hd pg_pc k := by
  intro k h1 h2
  rcases (show k = 60 ∨ k = 61 ∨ k = 62 ∨ k = 63 ∨ k = 64 ∨ k = 65 ∨ k = 66 ∨ k = 67 ∨ k = 68 ∨ k = 69 ∨ k = 70 ∨ k = 71 ∨ k = 72 ∨ k = 73 ∨ k = 74 ∨ k = 75 ∨ k = 76 ∨ k = 77 ∨ k = 78 ∨ k = 79 by omega) with rfl | rfl | rfl | rfl | rfl | rfl | rfl | rfl | rfl | rfl | rfl | rfl | rfl | rfl | rfl | rfl | rfl | rfl | rfl | rfl
  · exact pm_60
  · exact pm_61
  · exact pm_62
  · exact pm_63
  · exact pm_64
  · exact pm_65
  · exact pm_66
  · exact pm_67
  · exact pm_68
  · exact pm_69
  · exact pm_70
  · exact pm_71
  · exact pm_72
  · exact pm_73
  · exact pm_74
  · exact pm_75
  · exact pm_76
  · exact pm_77
  · exact pm_78
  · exact pm_79
theorem pmr_80 : ∀ k, 80 ≤ k → k < 100 → fx_mOk vwCl pg_fty pg_TB pg_NB pg_SL pg_yy pg_bb pg_nl pg_rr pg_na pg_hh pg_xn pg_cd pg_hd pg_pc k := by
  intro k h1 h2
  rcases (show k = 80 ∨ k = 81 ∨ k = 82 ∨ k = 83 ∨ k = 84 ∨ k = 85 ∨ k = 86 ∨ k = 87 ∨ k = 88 ∨ k = 89 ∨ k = 90 ∨ k = 91 ∨ k = 92 ∨ k = 93 ∨ k = 94 ∨ k = 95 ∨ k = 96 ∨ k = 97 ∨ k = 98 ∨ k = 99 by omega) with rfl | rfl | rfl | rfl | rfl | rfl | rfl | rfl | rfl | rfl | rfl | rfl | rfl | rfl | rfl | rfl | rfl | rfl | rfl | rfl
  · exact pm_80
  · exact pm_81
  · exact pm_82
  · exact pm_83
  · exact pm_84
  · exact pm_85
  · exact pm_86
  · exact pm_87
  · exact pm_88
  · exact pm_89
  · exact pm_90
  · exact pm_91
  · exact pm_92
  · exact pm_93
  · exact pm_94
  · exact pm_95
  · exact pm_96
  · exact pm_97
  · exact pm_98
  · exact pm_99
theorem pmr_100 : ∀ k, 100 ≤ k → k < 120 → fx_mOk vwCl pg_fty pg_TB pg_NB pg_SL pg_yy pg_bb pg_nl pg_rr pg_na pg_hh pg_xn pg_cd pg_hd pg_pc k := by
  intro k h1 h2
  rcases (show k = 100 ∨ k = 101 ∨ k = 102 ∨ k = 103 ∨ k = 104 ∨ k = 105 ∨ k = 106 ∨ k = 107 ∨ k = 108 ∨ k = 109 ∨ k = 110 ∨ k = 111 ∨ k = 112 ∨ k = 113 ∨ k = 114 ∨ k = 115 ∨ k = 116 ∨ k = 117 ∨ k = 118 ∨ k = 119 by omega) with rfl | rfl | rfl | rfl | rfl | rfl | rfl | rfl | rfl | rfl | rfl | rfl | rfl | rfl | rfl | rfl | rfl | rfl | rfl | rfl
  · exact pm_100
  · exact pm_101
  · exact pm_102
  · exact pm_103
  · exact pm_104
  · exact pm_105
  · exact pm_106
  · exact pm_107
  · exact pm_108
  · exact pm_109
  · exact pm_110
  · exact pm_111
  · exact pm_112
  · exact pm_113
  · exact pm_114
  · exact pm_115
  · exact pm_116
  · exact pm_117
  · exact pm_118
  · exact pm_119
theorem pmr_120 : ∀ k, 120 ≤ k → k < 140 → fx_mOk vwCl pg_fty pg_TB pg_NB pg_SL pg_yy pg_bb pg_nl pg_rr pg_na pg_hh pg_xn pg_cd pg_hd pg_pc k := by
  intro k h1 h2
  rcases (show k = 120 ∨ k = 121 ∨ k = 122 ∨ k = 123 ∨ k = 124 ∨ k = 125 ∨ k = 126 ∨ k = 127 ∨ k = 128 ∨ k = 129 ∨ k = 130 ∨ k = 131 ∨ k = 132 ∨ k = 133 ∨ k = 134 ∨ k = 135 ∨ k = 136 ∨ k = 137 ∨ k = 138 ∨ k = 139 by omega) with rfl | rfl | rfl | rfl | rfl | rfl | rfl | rfl | rfl | rfl | rfl | rfl | rfl | rfl | rfl | rfl | rfl | rfl | rfl | rfl
  · exact pm_120
  · exact pm_121
  · exact pm_122
  · exact pm_123
  · exact pm_124
  · exact pm_125
  · exact pm_126
  · exact pm_127
  · exact pm_128
  · exact pm_129
  · exact pm_130
  · exact pm_131
  · exact pm_132
  · exact pm_133
  · exact pm_134
  · exact pm_135
  · exact pm_136
  · exact pm_137
  · exact pm_138
  · exact pm_139
theorem pmr_140 : ∀ k, 140 ≤ k → k < 160 → fx_mOk vwCl pg_fty pg_TB pg_NB pg_SL pg_yy pg_bb pg_nl pg_rr pg_na pg_hh pg_xn pg_cd pg_hd pg_pc k := by
  intro k h1 h2
  rcases (show k = 140 ∨ k = 141 ∨ k = 142 ∨ k = 143 ∨ k = 144 ∨ k = 145 ∨ k = 146 ∨ k = 147 ∨ k = 148 ∨ k = 149 ∨ k = 150 ∨ k = 151 ∨ k = 152 ∨ k = 153 ∨ k = 154 ∨ k = 155 ∨ k = 156 ∨ k = 157 ∨ k = 158 ∨ k = 159 by omega) with rfl | rfl | rfl | rfl | rfl | rfl | rfl | rfl | rfl | rfl | rfl | rfl | rfl | rfl | rfl | rfl | rfl | rfl | rfl | rfl
  · exact pm_140
  · exact pm_141
  · exact pm_142
  · exact pm_143
  · exact pm_144
  · exact pm_145
  · exact pm_146
  · exact pm_147
  · exact pm_148
  · exact pm_149
  · exact pm_150
  · exact pm_151
  · exact pm_152
  · exact pm_153
  · exact pm_154
  · exact pm_155
  · exact pm_156
  · exact pm_157
  · exact pm_158
  · exact pm_159
theorem pmr_160 : ∀ k, 160 ≤ k → k < 180 → fx_mOk vwCl pg_fty pg_TB pg_NB pg_SL pg_yy pg_bb pg_nl pg_rr pg_na pg_hh pg_xn pg_cd pg_hd pg_pc k := by
  intro k h1 h2
  rcases (show k = 160 ∨ k = 161 ∨ k = 162 ∨ k = 163 ∨ k = 164 ∨ k = 165 ∨ k = 166 ∨ k = 167 ∨ k = 168 ∨ k = 169 ∨ k = 170 ∨ k = 171 ∨ k = 172 ∨ k = 173 ∨ k = 174 ∨ k = 175 ∨ k = 176 ∨ k = 177 ∨ k = 178 ∨ k = 179 by omega) with rfl | rfl | rfl | rfl | rfl | rfl | rfl | rfl | rfl | rfl | rfl | rfl | rfl | rfl | rfl | rfl | rfl | rfl | rfl | rfl
  · exact pm_160
  · exact pm_161
  · exact pm_162
  · exact pm_163
  · exact pm_164
  · exact pm_165
  · exact pm_166
  · exact pm_167
  · exact pm_168
  · exact pm_169
  · exact pm_170
  · exact pm_171
  · exact pm_172
  · exact pm_173
  · exact pm_174
  · exact pm_175
  · exact pm_176
  · exact pm_177
  · exact pm_178
  · exact pm_179
theorem pmr_180 : ∀ k, 180 ≤ k → k < 200 → fx_mOk vwCl pg_fty pg_TB pg_NB pg_SL pg_yy pg_bb pg_nl pg_rr pg_na pg_hh pg_xn pg_cd pg_hd pg_pc k := by
  intro k h1 h2
  rcases (show k = 180 ∨ k = 181 ∨ k = 182 ∨ k = 183 ∨ k = 184 ∨ k = 185 ∨ k = 186 ∨ k = 187 ∨ k = 188 ∨ k = 189 ∨ k = 190 ∨ k = 191 ∨ k = 192 ∨ k = 193 ∨ k = 194 ∨ k = 195 ∨ k = 196 ∨ k = 197 ∨ k = 198 ∨ k = 199 by omega) with rfl | rfl | rfl | rfl | rfl | rfl | rfl | rfl | rfl | rfl | rfl | rfl | rfl | rfl | rfl | rfl | rfl | rfl | rfl | rfl
  · exact pm_180
  · exact pm_181
  · exact pm_182
  · exact pm_183
  · exact pm_184
  · exact pm_185
  · exact pm_186
  · exact pm_187
  · exact pm_188
  · exact pm_189
  · exact pm_190
  · exact pm_191
  · exact pm_192
  · exact pm_193
  · exact pm_194
  · exact pm_195
  · exact pm_196
  · exact pm_197
  · exact pm_198
  · exact pm_199
theorem pmr_200 : ∀ k, 200 ≤ k → k < 220 → fx_mOk vwCl pg_fty pg_TB pg_NB pg_SL pg_yy pg_bb pg_nl pg_rr pg_na pg_hh pg_xn pg_cd pg_hd pg_pc k := by
  intro k h1 h2
  rcases (show k = 200 ∨ k = 201 ∨ k = 202 ∨ k = 203 ∨ k = 204 ∨ k = 205 ∨ k = 206 ∨ k = 207 ∨ k = 208 ∨ k = 209 ∨ k = 210 ∨ k = 211 ∨ k = 212 ∨ k = 213 ∨ k = 214 ∨ k = 215 ∨ k = 216 ∨ k = 217 ∨ k = 218 ∨ k = 219 by omega) with rfl | rfl | rfl | rfl | rfl | rfl | rfl | rfl | rfl | rfl | rfl | rfl | rfl | rfl | rfl | rfl | rfl | rfl | rfl | rfl
  · exact pm_200
  · exact pm_201
  · exact pm_202
  · exact pm_203
  · exact pm_204
  · exact pm_205
  · exact pm_206
  · exact pm_207
  · exact pm_208
  · exact pm_209
  · exact pm_210
  · exact pm_211
  · exact pm_212
  · exact pm_213
  · exact pm_214
  · exact pm_215
  · exact pm_216
  · exact pm_217
  · exact pm_218
  · exact pm_219
theorem pmr_220 : ∀ k, 220 ≤ k → k < 240 → fx_mOk vwCl pg_fty pg_TB pg_NB pg_SL pg_yy pg_bb pg_nl pg_rr pg_na pg_hh pg_xn pg_cd pg_hd pg_pc k := by
  intro k h1 h2
  rcases (show k = 220 ∨ k = 221 ∨ k = 222 ∨ k = 223 ∨ k = 224 ∨ k = 225 ∨ k = 226 ∨ k = 227 ∨ k = 228 ∨ k = 229 ∨ k = 230 ∨ k = 231 ∨ k = 232 ∨ k = 233 ∨ k = 234 ∨ k = 235 ∨ k = 236 ∨ k = 237 ∨ k = 238 ∨ k = 239 by omega) with rfl | rfl | rfl | rfl | rfl | rfl | rfl | rfl | rfl | rfl | rfl | rfl | rfl | rfl | rfl | rfl | rfl | rfl | rfl | rfl
  · exact pm_220
  · exact pm_221
  · exact pm_222
  · exact pm_223
  · exact pm_224
  · exact pm_225
  · exact pm_226
  · exact pm_227
  · exact pm_228
  · exact pm_229
  · exact pm_230
  · exact pm_231
  · exact pm_232
  · exact pm_233
  · exact pm_234
  · exact pm_235
  · exact pm_236
  · exact pm_237
  · exact pm_238
  · exact pm_239
theorem pmr_240 : ∀ k, 240 ≤ k → k < 260 → fx_mOk vwCl pg_fty pg_TB pg_NB pg_SL pg_yy pg_bb pg_nl pg_rr pg_na pg_hh pg_xn pg_cd pg_hd pg_pc k := by
  intro k h1 h2
  rcases (show k = 240 ∨ k = 241 ∨ k = 242 ∨ k = 243 ∨ k = 244 ∨ k = 245 ∨ k = 246 ∨ k = 247 ∨ k = 248 ∨ k = 249 ∨ k = 250 ∨ k = 251 ∨ k = 252 ∨ k = 253 ∨ k = 254 ∨ k = 255 ∨ k = 256 ∨ k = 257 ∨ k = 258 ∨ k = 259 by omega) with rfl | rfl | rfl | rfl | rfl | rfl | rfl | rfl | rfl | rfl | rfl | rfl | rfl | rfl | rfl | rfl | rfl | rfl | rfl | rfl
  · exact pm_240
  · exact pm_241
  · exact pm_242
  · exact pm_243
  · exact pm_244
  · exact pm_245
  · exact pm_246
  · exact pm_247
  · exact pm_248
  · exact pm_249
  · exact pm_250
  · exact pm_251
  · exact pm_252
  · exact pm_253
  · exact pm_254
  · exact pm_255
  · exact pm_256
  · exact pm_257
  · exact pm_258
  · exact pm_259
theorem pmr_260 : ∀ k, 260 ≤ k → k < 280 → fx_mOk vwCl pg_fty pg_TB pg_NB pg_SL pg_yy pg_bb pg_nl pg_rr pg_na pg_hh pg_xn pg_cd pg_hd pg_pc k := by
  intro k h1 h2
  rcases (show k = 260 ∨ k = 261 ∨ k = 262 ∨ k = 263 ∨ k = 264 ∨ k = 265 ∨ k = 266 ∨ k = 267 ∨ k = 268 ∨ k = 269 ∨ k = 270 ∨ k = 271 ∨ k = 272 ∨ k = 273 ∨ k = 274 ∨ k = 275 ∨ k = 276 ∨ k = 277 ∨ k = 278 ∨ k = 279 by omega) with rfl | rfl | rfl | rfl | rfl | rfl | rfl | rfl | rfl | rfl | rfl | rfl | rfl | rfl | rfl | rfl | rfl | rfl | rfl | rfl
  · exact pm_260
  · exact pm_261
  · exact pm_262
  · exact pm_263
  · exact pm_264
  · exact pm_265
  · exact pm_266
  · exact pm_267
  · exact pm_268
  · exact pm_269
  · exact pm_270
  · exact pm_271
  · exact pm_272
  · exact pm_273
  · exact pm_274
  · exact pm_275
  · exact pm_276
  · exact pm_277
  · exact pm_278
  · exact pm_279
theorem pmr_280 : ∀ k, 280 ≤ k → k < 300 → fx_mOk vwCl pg_fty pg_TB pg_NB pg_SL pg_yy pg_bb pg_nl pg_rr pg_na pg_hh pg_xn pg_cd pg_hd pg_pc k := by
  intro k h1 h2
  rcases (show k = 280 ∨ k = 281 ∨ k = 282 ∨ k = 283 ∨ k = 284 ∨ k = 285 ∨ k = 286 ∨ k = 287 ∨ k = 288 ∨ k = 289 ∨ k = 290 ∨ k = 291 ∨ k = 292 ∨ k = 293 ∨ k = 294 ∨ k = 295 ∨ k = 296 ∨ k = 297 ∨ k = 298 ∨ k = 299 by omega) with rfl | rfl | rfl | rfl | rfl | rfl | rfl | rfl | rfl | rfl | rfl | rfl | rfl | rfl | rfl | rfl | rfl | rfl | rfl | rfl
  · exact pm_280
  · exact pm_281
  · exact pm_282
  · exact pm_283
  · exact pm_284
  · exact pm_285
  · exact pm_286
  · exact pm_287
  · exact pm_288
  · exact pm_289
  · exact pm_290
  · exact pm_291
  · exact pm_292
  · exact pm_293
  · exact pm_294
  · exact pm_295
  · exact pm_296
  · exact pm_297
  · exact pm_298
  · exact pm_299
theorem pmr_300 : ∀ k, 300 ≤ k → k < 320 → fx_mOk vwCl pg_fty pg_TB pg_NB pg_SL pg_yy pg_bb pg_nl pg_rr pg_na pg_hh pg_xn pg_cd pg_hd pg_pc k := by
  intro k h1 h2
  rcases (show k = 300 ∨ k = 301 ∨ k = 302 ∨ k = 303 ∨ k = 304 ∨ k = 305 ∨ k = 306 ∨ k = 307 ∨ k = 308 ∨ k = 309 ∨ k = 310 ∨ k = 311 ∨ k = 312 ∨ k = 313 ∨ k = 314 ∨ k = 315 ∨ k = 316 ∨ k = 317 ∨ k = 318 ∨ k = 319 by omega) with rfl | rfl | rfl | rfl | rfl | rfl | rfl | rfl | rfl | rfl | rfl | rfl | rfl | rfl | rfl | rfl | rfl | rfl | rfl | rfl
  · exact pm_300
  · exact pm_301
  · exact pm_302
  · exact pm_303
  · exact pm_304
  · exact pm_305
  · exact pm_306
  · exact pm_307
  · exact pm_308
  · exact pm_309
  · exact pm_310
  · exact pm_311
  · exact pm_312
  · exact pm_313
  · exact pm_314
  · exact pm_315
  · exact pm_316
  · exact pm_317
  · exact pm_318
  · exact pm_319
theorem pmr_320 : ∀ k, 320 ≤ k → k < 340 → fx_mOk vwCl pg_fty pg_TB pg_NB pg_SL pg_yy pg_bb pg_nl pg_rr pg_na pg_hh pg_xn pg_cd pg_hd pg_pc k := by
  intro k h1 h2
  rcases (show k = 320 ∨ k = 321 ∨ k = 322 ∨ k = 323 ∨ k = 324 ∨ k = 325 ∨ k = 326 ∨ k = 327 ∨ k = 328 ∨ k = 329 ∨ k = 330 ∨ k = 331 ∨ k = 332 ∨ k = 333 ∨ k = 334 ∨ k = 335 ∨ k = 336 ∨ k = 337 ∨ k = 338 ∨ k = 339 by omega) with rfl | rfl | rfl | rfl | rfl | rfl | rfl | rfl | rfl | rfl | rfl | rfl | rfl | rfl | rfl | rfl | rfl | rfl | rfl | rfl
  · exact pm_320
  · exact pm_321
  · exact pm_322
  · exact pm_323
  · exact pm_324
  · exact pm_325
  · exact pm_326
  · exact pm_327
  · exact pm_328
  · exact pm_329
  · exact pm_330
  · exact pm_331
  · exact pm_332
  · exact pm_333
  · exact pm_334
  · exact pm_335
  · exact pm_336
  · exact pm_337
  · exact pm_338
  · exact pm_339
theorem pmr_340 : ∀ k, 340 ≤ k → k < 341 → fx_mOk vwCl pg_fty pg_TB pg_NB pg_SL pg_yy pg_bb pg_nl pg_rr pg_na pg_hh pg_xn pg_cd pg_hd pg_pc k := by
  intro k h1 h2
  rcases (show k = 340 by omega) with rfl
  · exact pm_340
set_option maxRecDepth 100000 in
theorem pg_Ms : fx_Ms vwCl pg_fty pg_TB pg_NB pg_SL pg_yy pg_bb pg_nl pg_rr pg_na pg_hh pg_xn pg_cd pg_hd pg_pc 341 := by
  refine ⟨fun k hk => ⟨pg_ok k hk, ?_⟩, fun k hk => ?_⟩
  · by_cases h0 : k < 20
    · exact pmr_0 k (by omega) h0
    by_cases h20 : k < 40
    · exact pmr_20 k (by omega) h20
    by_cases h40 : k < 60
    · exact pmr_40 k (by omega) h40
    by_cases h60 : k < 80
    · exact pmr_60 k (by omega) h60
    by_cases h80 : k < 100
    · exact pmr_80 k (by omega) h80
    by_cases h100 : k < 120
    · exact pmr_100 k (by omega) h100
    by_cases h120 : k < 140
    · exact pmr_120 k (by omega) h120
    by_cases h140 : k < 160
    · exact pmr_140 k (by omega) h140
    by_cases h160 : k < 180
    · exact pmr_160 k (by omega) h160
    by_cases h180 : k < 200
    · exact pmr_180 k (by omega) h180
    by_cases h200 : k < 220
    · exact pmr_200 k (by omega) h200
    by_cases h220 : k < 240
    · exact pmr_220 k (by omega) h220
    by_cases h240 : k < 260
    · exact pmr_240 k (by omega) h240
    by_cases h260 : k < 280
    · exact pmr_260 k (by omega) h260
    by_cases h280 : k < 300
    · exact pmr_280 k (by omega) h280
    by_cases h300 : k < 320
    · exact pmr_300 k (by omega) h300
    by_cases h320 : k < 340
    · exact pmr_320 k (by omega) h320
    by_cases h340 : k < 341
    · exact pmr_340 k (by omega) h340
    omega
  · unfold pg_cd
    exact pg_getD (Nat.le_trans (Nat.le_of_eq (show _ = 341 by decide +kernel)) hk)
