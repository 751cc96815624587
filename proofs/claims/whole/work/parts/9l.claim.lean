/-! ===== the claim, out of the law's run (rows lw_ begun from the kit's skeleton) ===== -/
def R_law : String := "FogWatchLaw"
def lw_P (b : Addr) (xs : List Int32) (args : Array Value) (s : State) : Prop := args = #[.ref b] ∧ s.IntsAt b xs ∧ xs.length ≤ 4096 ∧ (Jvm.Cond.and given_1 narrow_1).before args s = true
def lw_Q (_ : Array Value) (s : State) (o : Outcome) (t : State) : Prop := o = .returned (some (.int 1)) ∧ Framed s o t [] 601024 7293034
def lw_Z (below : List Frame) (a : Array Value) (s : State) : State → Prop := fun t => ∃ o, t.status = .running ∧ Ended t below o ∧ lw_Q a s o t
theorem law_Q {s t : State} {o : Outcome} {Lc : List Loc} {mc ms : Nat} (h : FrameEnd s o t Lc mc ms) (hf : ∀ q ∈ Lc, s.heap.size ≤ q.base) (h1 : mc ≤ 601024) (h2 : ms ≤ 7293034) : Framed s o t [] 601024 7293034 := by
  obtain ⟨h3, h4, q1, q2, q3, q4, q5, q6⟩ := h
  refine ⟨h3, h4, q1, q2, Nat.le_trans q3 (Nat.add_le_add_left h1 _), q4, Nat.le_trans q5 h2, fun a c hc => ?_⟩
  obtain ⟨c', w1, w2, w3, w4⟩ := q6 a c hc
  refine ⟨c', w1, w2, w3, fun i _ => w4 i (fun hm => ?_)⟩
  have h5 : s.heap.size ≤ a := hf _ hm
  have h6 := (Array.getElem?_eq_some_iff.mp hc).1
  omega
theorem law_fl {l : Launch} (h : l.flags = flags0) : l.stackTraces = false := by
  unfold Launch.stackTraces
  rw [h]
  decide +kernel
set_option maxRecDepth 100000 in
theorem law_nl : pg_nl 341 = 8 := rfl
set_option maxRecDepth 100000 in
theorem law_bb : pg_bb 341 = code := rfl
set_option maxRecDepth 100000 in
theorem law_rr : pg_rr 341 = some .boolean := rfl
set_option maxRecDepth 100000 in
theorem law_hh : pg_hh 341 = [] := rfl
set_option maxRecDepth 100000 in
theorem law_yy : pg_yy 341 = x := by
  unfold pg_yy
  rw [show pg_own 341 = 15 from rfl, show pg_nd 341 = ("law", "([I)Z") from rfl]
  rfl
set_option maxHeartbeats 2000000 in
theorem law_W {p : Program} {l : Launch} {e : Env} {s : State} {m : MethodId} {below : List Frame} {meth : Method} {c : Code} (hflags : l.flags = flags0) {b L : Nat} {xs : Nat → Int32} (hL : L ≤ 4096) (hx : p.tables.exec = Jvm.exec) (hb : c.code = code) (hr : meth.sig.returnType = ret) (hml : c.maxLocals = 8) (hown : s.vm.findClass R_law = some m.cls) (hts : ∀ w ∈ lw_tbl, w.before #[Value.ref b] s = true) (hX : va_X b L xs s s.heap) (hbl : b < s.heap.size) (hlocks : meth.locks = false) (hgv : (Jvm.Cond.and given_1 narrow_1).before #[Value.ref b] s = true) (hname : meth.name = "law") (htab : c.exceptionTable.toList = []) : W p l e room_1 s m #[Value.ref b] below meth c s.heap [] 0 0 (lw_Z below #[Value.ref b] s) (entryFrame m ([Value.ref b] : List Value).toArray 8) := by
  obtain ⟨ex, cy, D, hex, hSt⟩ := st_law hts hX hbl hgv
  subst hex
  have hl := law_fl hflags
  obtain ⟨r, ⟨cc, ss, f, h1, h2, hre⟩, F0, hF⟩ := law_run (sc := (L, xs)) (d := 0) (f0 := fun _ => fx_bad) (Q := fun r => ∃ cc ss f, cc ≤ 5000 ∧ ss ≤ 200000 ∧ r = (.inl (some (.int 1)), (233, cc, ss, f))) hL (fun cc ss f h1 h2 => ⟨cc, ss, f, h1, h2, rfl⟩)
  have hrun := hF F0 (Nat.le_refl _) F0 (Nat.le_refl _)
  have hJ : fx_J1 (L, xs) pg_tx pg_df (fx_M (L, xs) pg_tx pg_df pg_cd pg_nl pg_hd F0 72) (pg_hd 341) ((fun _ : Nat => cb_341_0) 341) (F0 + 1) 0 (fx_ent [.retAddr 0] 8) [] (0, 0, 0, fun _ => fx_bad) = some r := hrun
  have B : fx_Bd s.heap.size ex cy D vwCl (L, xs) pg_tx pg_NB pg_SL pg_TB pg_yy pg_bb pg_nl pg_rr pg_hh p s m #[Value.ref (ex 0)] meth c 341 := ⟨hx, by rw [law_bb]; exact hb, by rw [law_nl]; exact hml, by rw [law_yy]; exact hown, fun w hw => hts w (List.mem_filter.mp hw).1, hSt, hlocks, by rw [law_rr]; exact hr, by rw [law_yy]; exact hname, by rw [law_hh]; exact htab⟩
  have hdy : fx_Dy s.heap.size ex cy D vwCl (0, 0, 0, fun _ => fx_bad) s.heap := ⟨fun k q h => by simp [fx_wo] at h, fun _ => rfl, Nat.le_refl _, fun k _ => rfl, Nat.le_refl _⟩
  have key := fx_walkJ (e := e) (below := below) (C0 := 0) (S0 := 0) (d := 72) (R := fx_rm (72 + 1) (r.2.2.1 - 0) (r.2.2.2.1 - 0)) hl B pg_All pm_341 rfl rfl rfl (fun k as h r1 hq => fx_sound hl pg_All pg_Ms 72 k as h r1 hq) (fun k as h r hq => fx_M_mono _ _ _ _ _ hq) (F0 + 1) 0 (fx_ent [.retAddr 0] 8) [] (0, 0, 0, fun _ => fx_bad) (by rw [law_nl]; rfl) hJ _ s.heap [] (fx_entry s.heap.size ex [.retAddr 0] (n := 8) (Nat.le_of_ble_eq_true rfl)) hdy va_S.rf (Nat.le_refl _) (Nat.le_refl _)
  rw [pm_341.1] at key
  subst hre
  have key2 := W_room (R2 := room_1) (by show 72 + 1 + 8 ≤ 2048; omega) (by show cc - 0 ≤ 601024; omega) (by show ss - 0 ≤ 7293034; omega) (by show 60 * (72 + 1) + 400 ≤ 84000; omega) key
  rw [lg_entry_eq]
  intro T hT X
  obtain ⟨t, a1, o, b1, b2, b3⟩ := key2 T hT X
  refine ⟨t, a1, o, b1, b2, ?_⟩
  rcases b3 with ⟨⟨⟨v, hv, ho⟩, -, -⟩, Lc, hfe, hfree⟩ | ⟨q, -, E, ce, L9, ⟨⟨g, hg, -⟩, -⟩, -⟩
  · cases hv
    refine ⟨ho, law_Q hfe hfree ?_ ?_⟩
    · show cc - 0 ≤ 601024; omega
    · show ss - 0 ≤ 7293034; omega
  · cases hg
set_option maxHeartbeats 4000000 in
theorem lw_walk (l : Launch) (hflags : l.flags = flags0) (b : Addr) (xs : List Int32) : MetFree l x (headSpec (Jvm.Cond.code x code maxLocals ret :: tables_1) room_1) (lw_P b xs) (fun _ _ _ _ _ => True) lw_Q := by
  refine MetFree.of_bodyS (code := code) (maxLocals := maxLocals) (ret := ret) (by decide) ?_ ?_
  · intro args s m h hn
    obtain ⟨meth, c, h1, h2, h3, h4, h5, h6, -, -⟩ := Cond.code_spec hn (atoms_spec (ws := Jvm.Cond.code x code maxLocals ret :: tables_1) h _ List.mem_cons_self)
    exact ⟨meth, c, h1, h2, h3, h4, h5, h6⟩
  · intro p e s m args below meth c s₁ B hml0 hP _
    obtain ⟨rfl, hx, hbd, hgv⟩ := hP
    obtain ⟨scr, harrAt, hlist, hof, hsmall⟩ := hx
    obtain ⟨hcb, hkn, -, -⟩ := State.arrayAt?_spec harrAt
    have hown : s.vm.findClass R_law = some m.cls := findClass_of_methodNamed B.named
    have hts0 : ∀ c ∈ (Jvm.Cond.code x code maxLocals ret :: tables_1), c.before #[Value.ref b] s = true := atoms_spec (ws := Jvm.Cond.code x code maxLocals ret :: tables_1) B.pre
    have hts : ∀ w ∈ lw_tbl, w.before #[Value.ref b] s = true := k2_hts_sels lw_privs (fun w hw => hts0 w (List.mem_cons_of_mem _ hw)) lw_privs_ok
    have hml : c.maxLocals = 8 := B.maxLocals_eq (hts0 _ List.mem_cons_self)
    have X₀ : Stand p l e room_1 s m #[Value.ref b] below meth c s₁ [] 0 0 := Stand.of_body B
    have ht : c.exceptionTable.toList = [] := by
      obtain ⟨meth9, c9, g1, g2, -, -, -, -, g7, -⟩ := Cond.code_spec B.named (hts0 _ List.mem_cons_self)
      cases Option.some.inj (g1.symm.trans B.method)
      cases Option.some.inj (g2.symm.trans (Stand.of_body B).code)
      rw [Array.isEmpty_iff.mp g7]
    have hh0 : s₁.heap = s.heap := by rw [B.state]; rfl
    have hsz : scr.slots.size = xs.length := by rw [← Array.length_toList, hlist, List.length_map]
    have hval : ∀ j : Nat, j < xs.length → scr.slots[j]? = some (.int (xs.getD j 0)) := fun j hj => by
      rw [← Array.getElem?_toList, hlist]
      simp [hj]
    have hbl : b < s.heap.size := (Array.getElem?_eq_some_iff.mp hcb).1
    have hX : va_X b xs.length (fun j => xs.getD j 0) s s.heap := ⟨scr, hcb, hof, hkn, hsz, hval⟩
    have K : W p l e room_1 s m #[Value.ref b] below meth c s₁.heap [] 0 0 (lw_Z below #[Value.ref b] s) (entryFrame m ([Value.ref b] : List Value).toArray 8) := by
      rw [hh0]
      exact law_W hflags hbd B.exec B.bytes B.returns hml hown hts hX hbl B.notSynchronized hgv (name_of_methodNamed B.named B.method).1 ht
    obtain ⟨t, a1, o, b1, b2, b3⟩ := K s₁ rfl X₀
    exact ⟨t, o, a1, b1, b2, b3⟩
theorem lw_pre_spec {args : Array Value} {s : State} (h : (Jvm.Cond.and given_1 narrow_1).before args s = true) (hr : rest_1_c.before args s = true) : ∃ (b : Addr) (xs : List Int32), lw_P b xs args s := by
  have hs := flat_of_before _ h
  have hq := flat_of_before _ hr
  have hc : (Cond.count 1).before args s = true := hs _ (by decide +kernel)
  have harr : (Cond.arrayOf (.arg 0) .int).before args s = true := hs _ (by decide +kernel)
  have hle : (Cond.le (.length (.arg 0)) (.int 4096)).before args s = true := hs _ (by decide +kernel)
  have hlen : (Cond.isInt (.length (.arg 0))).before args s = true := hq _ (by decide +kernel)
  have hall : (Cond.all (.arg 0) (.isInt (.elem (.arg 0) (.index 0)))).before args s = true := hq _ (by decide +kernel)
  obtain ⟨b, xs, hb, hx⟩ := State.ints_of_pre rfl harr hlen hall
  have hsm : xs.length < 2 ^ 31 := hx.choose_spec.2.2.2
  have hev : (Term.length (.arg 0)).eval args s none [] s = some (.int xs.length.toInt32) := hx.length_eval hb
  have hv := Cond.le_ints hev (show (Term.int 4096).eval args s none [] s = some (.int 4096) from rfl)
  have hd : xs.length.toInt32 ≤ 4096 := by
    simpa [Cond.before, Cond.holds, hv] using hle
  have hN : xs.length ≤ 4096 := (Int32.ofNat_le_ofNat hsm (by decide)).mp (show Int32.ofNat xs.length ≤ Int32.ofNat 4096 from hd)
  exact ⟨b, xs, Cond.one_arg hc (show args[0]? = some (.ref b) from hb), hx, hN, h⟩
theorem lw_comes (l : Launch) (hflags : l.flags = flags0) : Comes l x (Jvm.Cond.code x code maxLocals ret :: tables_1) room_1 (fun tb e args s => Calls_1 tb e args s ∧ rest_1 tb e args s ∧ Pre_1 tb e args s)
    (fun _ _ args s o t => lw_Q args s o t) := by
  intro p e ha hc hk s m args below hf hfit hheap happ hpre
  obtain ⟨b, xs, hP⟩ := lw_pre_spec hpre.2.2 hpre.2.1
  obtain ⟨k, o, h1, h2, h3, hQ⟩ := lw_walk l hflags b xs p e ha hc hk s m args below hf ((Spec.applies_iff_loose hf).mp happ).1 hP trivial
  exact ⟨k, o, h1, h2, h3, hQ⟩
theorem lw_frame {s t : State} {o : Outcome} {args : Array Value} (h : Framed s o t [] 601024 7293034) :
    Framed s o t (fieldLocs frame_1_writes args s ++ arrayLocs frame_1_arrays args s ++ staticLocs frame_1_statics s) 601024 7293034 := h
theorem lw_limb (L : Cond) (hL : ∀ (args : Array Value) (s t : State), L.after args s (.returned (some (.int 1))) t = true) :
    ArmFor flags0 classFile x code maxLocals ret World_1 tables_1 room_1 Calls_1 rest_1 Pre_1
      (fun tb e a s o t => postC L tb e a s o t ∧ Framed s o t (fieldLocs frame_1_writes a s ++ arrayLocs frame_1_arrays a s ++ staticLocs frame_1_statics s) 601024 7293034) := by
  intro l hflags _ _ p e ha hc hk s m args below hf hfit hheap happ hpre
  obtain ⟨k, o, h1, h2, h3, rfl, hF⟩ := lw_comes l hflags p e ha hc hk s m args below hf hfit hheap happ hpre
  exact ⟨k, _, h1, h2, h3, hL args s _, lw_frame hF⟩
theorem i_vc : Claimed_1_1 ∧ Claimed_1_2 := ⟨lw_limb limb_1_1 (fun args s t => by simp [limb_1_1, Cond.after, Cond.holds, Cond.value]), lw_limb limb_1_2 (fun args s t => Cond.after_iff.mpr (by
  first | (rw [show limb_1_2 = Cond.eq .result (.int 1) from rfl, Cond.eq_ints (x := 1) (y := 1) rfl rfl]; simp; done) | (simp [limb_1_2, Cond.value, Term.eval]; done)))⟩
