/-! ===== the law's own code matches its bytes; rooms ===== -/
theorem pl_at {i : Nat} (h : pg_chk 15 false (some .boolean) code pp_341 i ((cb_341_0.drop i).take 40) (pp_341.drop i) = true) (n : Nat) (ci : Instr) (h1 : i ≤ n) (h2 : n < i + 40) (hn : cb_341_0[n]? = some ci) : ∃ o len, decode code (pp_341.getD n 0) = .ok (o, len) ∧ (pp_341.getD (n + 1) 0 = pp_341.getD n 0 + len ∨ ∃ t, ci = .jsr t) ∧ fx_mt vwCl pg_fty pg_TB pg_NB pg_SL pg_yy pg_bb pg_nl pg_rr pg_na pg_hh pg_xn (pg_R 15) false (some .boolean) (fun j => pp_341.getD j 0) n o len ci := by
  obtain ⟨j, rfl⟩ : ∃ j, n = i + j := ⟨n - i, by omega⟩
  refine pg_chk_ok _ i _ h rfl j ci ?_
  rw [List.getElem?_take, if_pos (by omega), List.getElem?_drop]
  exact hn
set_option maxRecDepth 100000 in
theorem pl_len : cb_341_0.length = 1471 := by decide +kernel
theorem pl_all (n : Nat) (ci : Instr) (hn : cb_341_0[n]? = some ci) : ∃ o len, decode code (pp_341.getD n 0) = .ok (o, len) ∧ (pp_341.getD (n + 1) 0 = pp_341.getD n 0 + len ∨ ∃ t, ci = .jsr t) ∧ fx_mt vwCl pg_fty pg_TB pg_NB pg_SL pg_yy pg_bb pg_nl pg_rr pg_na pg_hh pg_xn (pg_R 15) false (some .boolean) (fun j => pp_341.getD j 0) n o len ci := by
  have hl : n < 1471 := by
    have := (List.getElem?_eq_some_iff.mp hn).1
    rwa [pl_len] at this
  by_cases h40 : n < 40
  · exact pl_at pl_0 n ci (by omega) (by omega) hn
  by_cases h80 : n < 80
  · exact pl_at pl_40 n ci (by omega) (by omega) hn
  by_cases h120 : n < 120
  · exact pl_at pl_80 n ci (by omega) (by omega) hn
  by_cases h160 : n < 160
  · exact pl_at pl_120 n ci (by omega) (by omega) hn
  by_cases h200 : n < 200
  · exact pl_at pl_160 n ci (by omega) (by omega) hn
  by_cases h240 : n < 240
  · exact pl_at pl_200 n ci (by omega) (by omega) hn
  by_cases h280 : n < 280
  · exact pl_at pl_240 n ci (by omega) (by omega) hn
  by_cases h320 : n < 320
  · exact pl_at pl_280 n ci (by omega) (by omega) hn
  by_cases h360 : n < 360
  · exact pl_at pl_320 n ci (by omega) (by omega) hn
  by_cases h400 : n < 400
  · exact pl_at pl_360 n ci (by omega) (by omega) hn
  by_cases h440 : n < 440
  · exact pl_at pl_400 n ci (by omega) (by omega) hn
  by_cases h480 : n < 480
  · exact pl_at pl_440 n ci (by omega) (by omega) hn
  by_cases h520 : n < 520
  · exact pl_at pl_480 n ci (by omega) (by omega) hn
  by_cases h560 : n < 560
  · exact pl_at pl_520 n ci (by omega) (by omega) hn
  by_cases h600 : n < 600
  · exact pl_at pl_560 n ci (by omega) (by omega) hn
  by_cases h640 : n < 640
  · exact pl_at pl_600 n ci (by omega) (by omega) hn
  by_cases h680 : n < 680
  · exact pl_at pl_640 n ci (by omega) (by omega) hn
  by_cases h720 : n < 720
  · exact pl_at pl_680 n ci (by omega) (by omega) hn
  by_cases h760 : n < 760
  · exact pl_at pl_720 n ci (by omega) (by omega) hn
  by_cases h800 : n < 800
  · exact pl_at pl_760 n ci (by omega) (by omega) hn
  by_cases h840 : n < 840
  · exact pl_at pl_800 n ci (by omega) (by omega) hn
  by_cases h880 : n < 880
  · exact pl_at pl_840 n ci (by omega) (by omega) hn
  by_cases h920 : n < 920
  · exact pl_at pl_880 n ci (by omega) (by omega) hn
  by_cases h960 : n < 960
  · exact pl_at pl_920 n ci (by omega) (by omega) hn
  by_cases h1000 : n < 1000
  · exact pl_at pl_960 n ci (by omega) (by omega) hn
  by_cases h1040 : n < 1040
  · exact pl_at pl_1000 n ci (by omega) (by omega) hn
  by_cases h1080 : n < 1080
  · exact pl_at pl_1040 n ci (by omega) (by omega) hn
  by_cases h1120 : n < 1120
  · exact pl_at pl_1080 n ci (by omega) (by omega) hn
  by_cases h1160 : n < 1160
  · exact pl_at pl_1120 n ci (by omega) (by omega) hn
  by_cases h1200 : n < 1200
  · exact pl_at pl_1160 n ci (by omega) (by omega) hn
  by_cases h1240 : n < 1240
  · exact pl_at pl_1200 n ci (by omega) (by omega) hn
  by_cases h1280 : n < 1280
  · exact pl_at pl_1240 n ci (by omega) (by omega) hn
  by_cases h1320 : n < 1320
  · exact pl_at pl_1280 n ci (by omega) (by omega) hn
  by_cases h1360 : n < 1360
  · exact pl_at pl_1320 n ci (by omega) (by omega) hn
  by_cases h1400 : n < 1400
  · exact pl_at pl_1360 n ci (by omega) (by omega) hn
  by_cases h1440 : n < 1440
  · exact pl_at pl_1400 n ci (by omega) (by omega) hn
  exact pl_at pl_1440 n ci (by omega) (by omega) hn
theorem pg_mOkL {cdm : Nat → List Instr} {k own : Nat} {ini : Bool} {rt : Option FieldType} {bytes : ByteArray} {pl : List Nat} {cd0 : List Instr} (h : ∀ i ci, cd0[i]? = some ci → ∃ o len, decode bytes (pl.getD i 0) = .ok (o, len) ∧ (pl.getD (i + 1) 0 = pl.getD i 0 + len ∨ ∃ t, ci = .jsr t) ∧ fx_mt vwCl pg_fty pg_TB pg_NB pg_SL pg_yy pg_bb pg_nl pg_rr pg_na pg_hh pg_xn (pg_R own) ini rt (fun j => pl.getD j 0) i o len ci) (h0 : pl.getD 0 0 = 0) (e1 : cdm k = cd0) (e2 : pg_pl k = pl) (e3 : pg_bb k = bytes) (e4 : pg_own k = own) (e5 : ((pg_nd k).1 == "<init>") = ini) (e6 : pg_rr k = rt) (e7 : pg_hh k = []) (e8 : ∀ g, pg_hd k g = none) (hj : cd0.all (fun c => !pg_isJ c) = true) : fx_mOk vwCl pg_fty pg_TB pg_NB pg_SL pg_yy pg_bb pg_nl pg_rr pg_na pg_hh pg_xn cdm pg_hd pg_pc k := by
  subst e2; subst e3; subst e4; subst e5; subst e6; subst e1
  refine ⟨h0, fun i ci hi => ?_, fun _ => e8, fun q => absurd e7 q⟩
  obtain ⟨o, len, a1, a2, a3⟩ := h i ci hi
  refine ⟨o, len, a1, a2, a3, fun t y q1 q2 => ?_, fun q => absurd e7 q⟩
  have := List.all_eq_true.mp hj _ (List.mem_of_getElem? hi)
  rw [q1] at this
  simp [pg_isJ] at this
set_option maxRecDepth 100000 in
theorem pm_341 : fx_mOk vwCl pg_fty pg_TB pg_NB pg_SL pg_yy pg_bb pg_nl pg_rr pg_na pg_hh pg_xn (fun _ => cb_341_0) pg_hd pg_pc 341 := pg_mOkL pl_all rfl rfl rfl rfl rfl (by decide +kernel) rfl rfl (pg_hn rfl) (by decide +kernel)
theorem W_room {p : Program} {l : Launch} {e : Env} {R1 R2 : Room} {s : State} {m : MethodId} {args : Array Value} {below : List Frame} {meth : Method} {c : Code} {H : Heap} {locs : List Loc} {cells slots : Nat} {Q : State → Prop} {g : JFrame} (h1 : R1.frames ≤ R2.frames) (h2 : R1.cells ≤ R2.cells) (h3 : R1.slots ≤ R2.slots) (h4 : R1.locals ≤ R2.locals) (k : W p l e R1 s m args below meth c H locs cells slots Q g) : W p l e R2 s m args below meth c H locs cells slots Q g := by
  intro T hT X
  refine k T hT ⟨X.admits, X.cas, X.clock, X.frames, ?_, X.hears, X.method, X.code, X.here, X.tail, X.warmed, X.limits, X.bytes, X.same⟩
  have h := X.room
  simp only [State.hasRoom, Bool.and_eq_true, decide_eq_true_eq] at h ⊢
  obtain ⟨⟨⟨⟨a1, a2, a3, a4, a5, a6⟩, a7⟩, a8⟩, a9⟩ := h
  exact ⟨⟨⟨⟨by omega, by omega, by omega, by omega, by omega, a6⟩, by omega⟩, by omega⟩, a9⟩
