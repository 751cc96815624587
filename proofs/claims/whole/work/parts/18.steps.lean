section
variable {p : Program} {l : Launch} {e : Env} {R : Room} {s : State} {m : MethodId} {args : Array Value} {below : List Frame} {meth : Method} {c : Code}
variable {b0 : Nat} {ex cy : Nat → Nat} {D : va_G} {cl : List vw_C} {sc : Nat × (Nat → Int32)} {tx : List (List Int32)} {NB : List Cond} {SL : List (String × Nat × String × Nat)}
variable {fty : Nat → Nat → FieldType} {TB : List Cond} {yy : Nat → MethodName} {bb : Nat → ByteArray} {nl : Nat → Nat} {rr : Nat → Option FieldType} {na : Nat → Nat} {hh : Nat → List (Nat × Nat × Nat × Nat)} {xn : Nat → String}
variable {df : Nat → List Value} {cd : Nat → List Instr} {hd : Nat → Nat → Option (Nat × Nat)} {pcs : Nat → Nat → Nat} {nM : Nat}
/-- a method's body, begun: the machine, the words, what stays -/
def fx_Bd (b0 : Nat) (ex cy : Nat → Nat) (D : va_G) (cl : List vw_C) (sc : Nat × (Nat → Int32)) (tx : List (List Int32)) (NB : List Cond) (SL : List (String × Nat × String × Nat)) (TB : List Cond) (yy : Nat → MethodName) (bb : Nat → ByteArray) (nl : Nat → Nat) (rr : Nat → Option FieldType) (hh : Nat → List (Nat × Nat × Nat × Nat)) (p : Program) (s : State) (m : MethodId) (args : Array Value) (meth : Method) (c : Code) (mm : Nat) : Prop :=
  p.tables.exec = Jvm.exec ∧ c.code = bb mm ∧ c.maxLocals = nl mm ∧ s.vm.findClass (yy mm).cls = some m.cls ∧ (∀ w ∈ TB, w.before args s = true) ∧ fx_St b0 ex cy D cl sc tx NB SL s s.heap ∧ meth.locks = false ∧ meth.sig.returnType = rr mm ∧ meth.name = (yy mm).name ∧ c.exceptionTable.toList = tableOf (hh mm)
/-- the walk stands at index i of method mm, with these locals, stack and heap, and comes to r -/
def fx_At (b0 : Nat) (ex cy : Nat → Nat) (D : va_G) (cl : List vw_C) (xn : Nat → String) (pcs : Nat → Nat → Nat) (p : Program) (l : Launch) (e : Env) (R : Room) (s : State) (m : MethodId) (args : Array Value) (below : List Frame) (meth : Method) (c : Code) (mm C0 S0 : Nat) (r : fx_R) (i : Nat) (ls st : List Value) (h : fx_H) : Prop :=
  ∀ (ms : Array Slot) (H : Heap) (locs : List Loc), fx_LR b0 ex ms ls → fx_Dy b0 ex cy D cl h H → va_S (fun q => b0 ≤ q) s.heap H locs → C0 ≤ h.2.1 → S0 ≤ h.2.2.1 →
    W p l e R s m args below meth c H locs (h.2.1 - C0) (h.2.2.1 - S0) (vx_MQ below (fx_Qc b0 ex cy D cl r) (fx_Xc b0 ex cy D cl xn r) args s (r.2.2.1 - C0) (r.2.2.2.1 - S0) (fun q => b0 ≤ q)) (F0 m (pcs mm i) ms (st.map (fx_tr b0 ex)))
theorem fx_LR.at {ms : Array Slot} {ls : List Value} (h : fx_LR b0 ex ms ls) {i : Nat} {v : Value} (hv : ls[i]? = some v) (hu : v ≠ fx_U) : ms[i]? = some (.val (fx_tr b0 ex v)) := h.2.2 i v hv hu
set_option maxHeartbeats 4000000 in
theorem fx_s_iconst {mm i len : Nat} {o : Instr} {C0 S0 : Nat} {r : fx_R} {ls st : List Value} {h : fx_H} {n : Int} (B : fx_Bd b0 ex cy D cl sc tx NB SL TB yy bb nl rr hh p s m args meth c mm) (hdc : decode (bb mm) (pcs mm i) = .ok (o, len)) (hp : pcs mm (i + 1) = pcs mm i + len)
    (hm : fx_mt cl fty TB NB SL yy bb nl rr na hh xn (yy mm).cls ((yy mm).name == "<init>") (rr mm) (pcs mm) i o len (.iconst n)) (k : fx_At b0 ex cy D cl xn pcs p l e R s m args below meth c mm C0 S0 r (i + 1) (ls) (.int (Int32.ofInt n) :: st) h) : fx_At b0 ex cy D cl xn pcs p l e R s m args below meth c mm C0 S0 r i (ls) (st) h := by
  intro ms H locs h1 h2 h3 h4 h5
  obtain ⟨hx, hb, hml, hown, hts, hst, hlocks, hret, hname, htab⟩ := B
  simp only [fx_mt] at hm
  have k := k ms H locs h1 h2 h3 h4 h5
  rw [hp] at k
  rcases hm with ⟨rfl, rfl⟩ | ⟨rfl, rfl, hv⟩ | ⟨rfl, rfl, hv⟩ | ⟨x, rfl, rfl, hv⟩ | ⟨x, rfl, rfl, hv⟩
  · exact lv_iconst hx hb hdc rfl k
  · exact lv_bipush hx hb hdc hv k
  · exact lv_sipush hx hb hdc hv k
  · exact lv_ldc hx hb hown (hts _ hv) hdc k
  · exact lv_ldcw hx hb hown (hts _ hv) hdc k
set_option maxHeartbeats 4000000 in
theorem fx_s_ldc2 {mm i len : Nat} {o : Instr} {C0 S0 : Nat} {r : fx_R} {ls st : List Value} {h : fx_H} {n : Nat} (B : fx_Bd b0 ex cy D cl sc tx NB SL TB yy bb nl rr hh p s m args meth c mm) (hdc : decode (bb mm) (pcs mm i) = .ok (o, len)) (hp : pcs mm (i + 1) = pcs mm i + len)
    (hm : fx_mt cl fty TB NB SL yy bb nl rr na hh xn (yy mm).cls ((yy mm).name == "<init>") (rr mm) (pcs mm) i o len (.ldc2_w n)) (k : fx_At b0 ex cy D cl xn pcs p l e R s m args below meth c mm C0 S0 r (i + 1) (ls) (.long (Int64.ofNat n) :: st) h) : fx_At b0 ex cy D cl xn pcs p l e R s m args below meth c mm C0 S0 r i (ls) (st) h := by
  intro ms H locs h1 h2 h3 h4 h5
  obtain ⟨hx, hb, hml, hown, hts, hst, hlocks, hret, hname, htab⟩ := B
  simp only [fx_mt] at hm
  have k := k ms H locs h1 h2 h3 h4 h5
  rw [hp] at k
  rcases hm with ⟨q, rfl, rfl, hv⟩ | ⟨x, rfl, rfl, hv⟩
  · exact lv_lconst hx hb hdc (by rw [hv]) k
  · exact lv_ldc2 hx hb hown (hts _ hv) hdc k
set_option maxHeartbeats 4000000 in
theorem fx_s_ldc {mm i len : Nat} {o : Instr} {C0 S0 : Nat} {r : fx_R} {ls st : List Value} {h : fx_H} {n : Nat} (B : fx_Bd b0 ex cy D cl sc tx NB SL TB yy bb nl rr hh p s m args meth c mm) (hdc : decode (bb mm) (pcs mm i) = .ok (o, len)) (hp : pcs mm (i + 1) = pcs mm i + len)
    (hm : fx_mt cl fty TB NB SL yy bb nl rr na hh xn (yy mm).cls ((yy mm).name == "<init>") (rr mm) (pcs mm) i o len (.ldc n)) (k : fx_At b0 ex cy D cl xn pcs p l e R s m args below meth c mm C0 S0 r (i + 1) (ls) (.retAddr (2 * n + 1) :: st) h) : fx_At b0 ex cy D cl xn pcs p l e R s m args below meth c mm C0 S0 r i (ls) (st) h := by
  intro ms H locs h1 h2 h3 h4 h5
  obtain ⟨hx, hb, hml, hown, hts, hst, hlocks, hret, hname, htab⟩ := B
  simp only [fx_mt] at hm
  have k := k ms H locs h1 h2 h3 h4 h5
  rw [hp] at k
  obtain ⟨x, t, hq, hv⟩ := hm
  rcases hq with ⟨rfl, rfl⟩ | ⟨rfl, rfl⟩
  · exact va_ldcS hx hb hown (hst.2.2.1 _ hv) hdc k
  · exact fx_ldcSW hx hb hown (hst.2.2.1 _ hv) hdc k
set_option maxHeartbeats 4000000 in
theorem fx_s_getstatic {mm i len : Nat} {o : Instr} {C0 S0 : Nat} {r : fx_R} {ls st : List Value} {h : fx_H} {n : Nat} (B : fx_Bd b0 ex cy D cl sc tx NB SL TB yy bb nl rr hh p s m args meth c mm) (hdc : decode (bb mm) (pcs mm i) = .ok (o, len)) (hp : pcs mm (i + 1) = pcs mm i + len)
    (hm : fx_mt cl fty TB NB SL yy bb nl rr na hh xn (yy mm).cls ((yy mm).name == "<init>") (rr mm) (pcs mm) i o len (.getstatic n)) (k : fx_At b0 ex cy D cl xn pcs p l e R s m args below meth c mm C0 S0 r (i + 1) (ls) ((if n = 0 then .int 1 else .float 0) :: st) h) : fx_At b0 ex cy D cl xn pcs p l e R s m args below meth c mm C0 S0 r i (ls) (st) h := by
  intro ms H locs h1 h2 h3 h4 h5
  obtain ⟨hx, hb, hml, hown, hts, hst, hlocks, hret, hname, htab⟩ := B
  simp only [fx_mt] at hm
  have k := k ms H locs h1 h2 h3 h4 h5
  rw [hp] at k
  obtain ⟨x, rfl, rfl, hv⟩ := hm
  rcases hv with ⟨hn, hv⟩ | ⟨hn, hv⟩
  · rw [if_pos hn] at k
    exact va_gets hx hb hst.2.2.2.2.2.2.2.1 h3 hown (hts _ hv) (fun _ q => q) hdc k
  · rw [if_neg hn] at k
    exact va_gets hx hb hst.2.2.2.2.2.2.2.2.2.2.2.2.2 h3 hown (hts _ hv) (fun _ q => q) hdc k
set_option maxHeartbeats 4000000 in
theorem fx_s_iload {mm i len : Nat} {o : Instr} {C0 S0 : Nat} {r : fx_R} {ls st : List Value} {h : fx_H} {n : Nat} {x : Int32} (hv : ls[n]? = some (.int x)) (B : fx_Bd b0 ex cy D cl sc tx NB SL TB yy bb nl rr hh p s m args meth c mm) (hdc : decode (bb mm) (pcs mm i) = .ok (o, len)) (hp : pcs mm (i + 1) = pcs mm i + len)
    (hm : fx_mt cl fty TB NB SL yy bb nl rr na hh xn (yy mm).cls ((yy mm).name == "<init>") (rr mm) (pcs mm) i o len (.iload n)) (k : fx_At b0 ex cy D cl xn pcs p l e R s m args below meth c mm C0 S0 r (i + 1) (ls) (.int x :: st) h) : fx_At b0 ex cy D cl xn pcs p l e R s m args below meth c mm C0 S0 r i (ls) (st) h := by
  intro ms H locs h1 h2 h3 h4 h5
  obtain ⟨hx, hb, hml, hown, hts, hst, hlocks, hret, hname, htab⟩ := B
  simp only [fx_mt] at hm
  have k := k ms H locs h1 h2 h3 h4 h5
  rw [hp] at k
  have hl := h1.at hv (fun q => by cases q)
  rcases hm with ⟨rfl, rfl⟩ | ⟨q, rfl, rfl, hq⟩
  · exact lv_iload hx hb hdc hl k
  · exact lv_iload_n hx hb hdc hq hl k
set_option maxHeartbeats 4000000 in
theorem fx_s_lload {mm i len : Nat} {o : Instr} {C0 S0 : Nat} {r : fx_R} {ls st : List Value} {h : fx_H} {n : Nat} {x : Int64} (hv : ls[n]? = some (.long x)) (B : fx_Bd b0 ex cy D cl sc tx NB SL TB yy bb nl rr hh p s m args meth c mm) (hdc : decode (bb mm) (pcs mm i) = .ok (o, len)) (hp : pcs mm (i + 1) = pcs mm i + len)
    (hm : fx_mt cl fty TB NB SL yy bb nl rr na hh xn (yy mm).cls ((yy mm).name == "<init>") (rr mm) (pcs mm) i o len (.lload n)) (k : fx_At b0 ex cy D cl xn pcs p l e R s m args below meth c mm C0 S0 r (i + 1) (ls) (.long x :: st) h) : fx_At b0 ex cy D cl xn pcs p l e R s m args below meth c mm C0 S0 r i (ls) (st) h := by
  intro ms H locs h1 h2 h3 h4 h5
  obtain ⟨hx, hb, hml, hown, hts, hst, hlocks, hret, hname, htab⟩ := B
  simp only [fx_mt] at hm
  have k := k ms H locs h1 h2 h3 h4 h5
  rw [hp] at k
  have hl := h1.at hv (fun q => by cases q)
  rcases hm with ⟨rfl, rfl⟩ | ⟨q, rfl, rfl, hq⟩
  · exact lv_lload hx hb hdc hl k
  · exact lv_lload_n hx hb hdc hq hl k
set_option maxHeartbeats 4000000 in
theorem fx_s_aload {mm i len : Nat} {o : Instr} {C0 S0 : Nat} {r : fx_R} {ls st : List Value} {h : fx_H} {n : Nat} {v : Value} (hv : ls[n]? = some v) (ha : fx_isA v = true) (B : fx_Bd b0 ex cy D cl sc tx NB SL TB yy bb nl rr hh p s m args meth c mm) (hdc : decode (bb mm) (pcs mm i) = .ok (o, len)) (hp : pcs mm (i + 1) = pcs mm i + len)
    (hm : fx_mt cl fty TB NB SL yy bb nl rr na hh xn (yy mm).cls ((yy mm).name == "<init>") (rr mm) (pcs mm) i o len (.aload n)) (k : fx_At b0 ex cy D cl xn pcs p l e R s m args below meth c mm C0 S0 r (i + 1) (ls) (v :: st) h) : fx_At b0 ex cy D cl xn pcs p l e R s m args below meth c mm C0 S0 r i (ls) (st) h := by
  intro ms H locs h1 h2 h3 h4 h5
  obtain ⟨hx, hb, hml, hown, hts, hst, hlocks, hret, hname, htab⟩ := B
  simp only [fx_mt] at hm
  have k := k ms H locs h1 h2 h3 h4 h5
  rw [hp] at k
  have hl := h1.at hv (fun q => by rw [q] at ha; cases ha)
  cases v <;> simp only [fx_isA, Bool.false_eq_true] at ha
  · rcases hm with ⟨rfl, rfl⟩ | ⟨q, rfl, rfl, hq⟩
    · exact lv_aload hx hb hdc hl k
    · exact lv_aload_n hx hb hdc hq hl k
  · rcases hm with ⟨rfl, rfl⟩ | ⟨q, rfl, rfl, hq⟩
    · exact lv_aload hx hb hdc hl k
    · exact lv_aload_n hx hb hdc hq hl k
set_option maxHeartbeats 4000000 in
theorem fx_s_istore {mm i len : Nat} {o : Instr} {C0 S0 : Nat} {r : fx_R} {ls st : List Value} {h : fx_H} {n : Nat} {x : Int32} (hn : n < ls.length) (B : fx_Bd b0 ex cy D cl sc tx NB SL TB yy bb nl rr hh p s m args meth c mm) (hdc : decode (bb mm) (pcs mm i) = .ok (o, len)) (hp : pcs mm (i + 1) = pcs mm i + len)
    (hm : fx_mt cl fty TB NB SL yy bb nl rr na hh xn (yy mm).cls ((yy mm).name == "<init>") (rr mm) (pcs mm) i o len (.istore n)) (k : fx_At b0 ex cy D cl xn pcs p l e R s m args below meth c mm C0 S0 r (i + 1) (fx_set ls n (.int x)) (st) h) : fx_At b0 ex cy D cl xn pcs p l e R s m args below meth c mm C0 S0 r i (ls) (.int x :: st) h := by
  intro ms H locs h1 h2 h3 h4 h5
  obtain ⟨hx, hb, hml, hown, hts, hst, hlocks, hret, hname, htab⟩ := B
  simp only [fx_mt] at hm
  rw [show fx_set ls n (.int x) = fx_set ls n (.int x) from rfl] at k
  rcases hm with ⟨rfl, rfl⟩ | ⟨q, rfl, rfl, hq⟩
  · refine lv_istore hx hb hdc h1.has hn rfl (fun ms2 hl => ?_)
    have k := k ms2 H locs (fx_LR.put1 (w := .int x) hl) h2 h3 h4 h5
    rw [hp] at k
    exact k
  · refine lv_istore_n hx hb hdc hq h1.has hn rfl (fun ms2 hl => ?_)
    have k := k ms2 H locs (fx_LR.put1 (w := .int x) hl) h2 h3 h4 h5
    rw [hp] at k
    exact k
set_option maxHeartbeats 4000000 in
theorem fx_s_astore {mm i len : Nat} {o : Instr} {C0 S0 : Nat} {r : fx_R} {ls st : List Value} {h : fx_H} {n : Nat} {x : Nat} (hn : n < ls.length) (B : fx_Bd b0 ex cy D cl sc tx NB SL TB yy bb nl rr hh p s m args meth c mm) (hdc : decode (bb mm) (pcs mm i) = .ok (o, len)) (hp : pcs mm (i + 1) = pcs mm i + len)
    (hm : fx_mt cl fty TB NB SL yy bb nl rr na hh xn (yy mm).cls ((yy mm).name == "<init>") (rr mm) (pcs mm) i o len (.astore n)) (k : fx_At b0 ex cy D cl xn pcs p l e R s m args below meth c mm C0 S0 r (i + 1) (fx_set ls n (.ref x)) (st) h) : fx_At b0 ex cy D cl xn pcs p l e R s m args below meth c mm C0 S0 r i (ls) (.ref x :: st) h := by
  intro ms H locs h1 h2 h3 h4 h5
  obtain ⟨hx, hb, hml, hown, hts, hst, hlocks, hret, hname, htab⟩ := B
  simp only [fx_mt] at hm
  rw [show fx_set ls n (.ref x) = fx_set ls n (.ref x) from rfl] at k
  rcases hm with ⟨rfl, rfl⟩ | ⟨q, rfl, rfl, hq⟩
  · refine lv_astore hx hb hdc h1.has hn rfl (fun ms2 hl => ?_)
    have k := k ms2 H locs (fx_LR.put1 (w := .ref x) hl) h2 h3 h4 h5
    rw [hp] at k
    exact k
  · refine lv_astore_n hx hb hdc hq h1.has hn rfl (fun ms2 hl => ?_)
    have k := k ms2 H locs (fx_LR.put1 (w := .ref x) hl) h2 h3 h4 h5
    rw [hp] at k
    exact k
set_option maxHeartbeats 4000000 in
theorem fx_s_lstore {mm i len : Nat} {o : Instr} {C0 S0 : Nat} {r : fx_R} {ls st : List Value} {h : fx_H} {n : Nat} {x : Int64} (hn : n + 1 < ls.length) (B : fx_Bd b0 ex cy D cl sc tx NB SL TB yy bb nl rr hh p s m args meth c mm) (hdc : decode (bb mm) (pcs mm i) = .ok (o, len)) (hp : pcs mm (i + 1) = pcs mm i + len)
    (hm : fx_mt cl fty TB NB SL yy bb nl rr na hh xn (yy mm).cls ((yy mm).name == "<init>") (rr mm) (pcs mm) i o len (.lstore n)) (k : fx_At b0 ex cy D cl xn pcs p l e R s m args below meth c mm C0 S0 r (i + 1) (fx_set (fx_set ls (n + 1) fx_U) n (.long x)) (st) h) : fx_At b0 ex cy D cl xn pcs p l e R s m args below meth c mm C0 S0 r i (ls) (.long x :: st) h := by
  intro ms H locs h1 h2 h3 h4 h5
  obtain ⟨hx, hb, hml, hown, hts, hst, hlocks, hret, hname, htab⟩ := B
  simp only [fx_mt] at hm
  rw [show fx_set (fx_set ls (n + 1) fx_U) n (.long x) = fx_set (fx_set ls (n + 1) fx_U) n (.long x) from rfl] at k
  rcases hm with ⟨rfl, rfl⟩ | ⟨q, rfl, rfl, hq⟩
  · refine lv_lstore hx hb hdc h1.has hn rfl (fun ms2 hl => ?_)
    have k := k ms2 H locs (fx_LR.put2 (w := .long x) hl) h2 h3 h4 h5
    rw [hp] at k
    exact k
  · refine lv_lstore_n hx hb hdc hq h1.has hn rfl (fun ms2 hl => ?_)
    have k := k ms2 H locs (fx_LR.put2 (w := .long x) hl) h2 h3 h4 h5
    rw [hp] at k
    exact k
set_option maxHeartbeats 4000000 in
theorem fx_s_iinc {mm i len : Nat} {o : Instr} {C0 S0 : Nat} {r : fx_R} {ls st : List Value} {h : fx_H} {n : Nat} {d : Int} {x : Int32} (hv : ls[n]? = some (.int x)) (B : fx_Bd b0 ex cy D cl sc tx NB SL TB yy bb nl rr hh p s m args meth c mm) (hdc : decode (bb mm) (pcs mm i) = .ok (o, len)) (hp : pcs mm (i + 1) = pcs mm i + len)
    (hm : fx_mt cl fty TB NB SL yy bb nl rr na hh xn (yy mm).cls ((yy mm).name == "<init>") (rr mm) (pcs mm) i o len (.iinc n d)) (k : fx_At b0 ex cy D cl xn pcs p l e R s m args below meth c mm C0 S0 r (i + 1) (fx_set ls n (.int (x + Int32.ofInt d))) (st) h) : fx_At b0 ex cy D cl xn pcs p l e R s m args below meth c mm C0 S0 r i (ls) (st) h := by
  intro ms H locs h1 h2 h3 h4 h5
  obtain ⟨hx, hb, hml, hown, hts, hst, hlocks, hret, hname, htab⟩ := B
  simp only [fx_mt] at hm
  obtain ⟨rfl, rfl⟩ := hm
  obtain ⟨j, hj⟩ := List.getElem?_of_mem (fx_lv_mem (b0 := b0) (ex := ex) (ls := ls) (i := n) (w := .int x) |>.mpr ⟨_, hv, (fun q => by cases q), rfl⟩)
  refine lv_iinc hx hb hdc h1.has hj rfl (List.getElem?_eq_some_iff.mp hv).1 rfl (fun ms2 hl => ?_)
  have k := k ms2 H locs (fx_LR.put1 (w := .int (x + Int32.ofInt d)) hl) h2 h3 h4 h5
  rw [hp] at k
  exact k
set_option maxHeartbeats 4000000 in
theorem fx_s_iadd {mm i len : Nat} {o : Instr} {C0 S0 : Nat} {r : fx_R} {ls st : List Value} {h : fx_H} {x y : Int32} (B : fx_Bd b0 ex cy D cl sc tx NB SL TB yy bb nl rr hh p s m args meth c mm) (hdc : decode (bb mm) (pcs mm i) = .ok (o, len)) (hp : pcs mm (i + 1) = pcs mm i + len)
    (hm : fx_mt cl fty TB NB SL yy bb nl rr na hh xn (yy mm).cls ((yy mm).name == "<init>") (rr mm) (pcs mm) i o len (.iadd)) (k : fx_At b0 ex cy D cl xn pcs p l e R s m args below meth c mm C0 S0 r (i + 1) (ls) (.int (x + y) :: st) h) : fx_At b0 ex cy D cl xn pcs p l e R s m args below meth c mm C0 S0 r i (ls) (.int y :: .int x :: st) h := by
  intro ms H locs h1 h2 h3 h4 h5
  obtain ⟨hx, hb, hml, hown, hts, hst, hlocks, hret, hname, htab⟩ := B
  simp only [fx_mt] at hm
  have k := k ms H locs h1 h2 h3 h4 h5
  rw [hp] at k
  obtain ⟨rfl, rfl⟩ := hm
  exact lv_iadd hx hb hdc k
set_option maxHeartbeats 4000000 in
theorem fx_s_isub {mm i len : Nat} {o : Instr} {C0 S0 : Nat} {r : fx_R} {ls st : List Value} {h : fx_H} {x y : Int32} (B : fx_Bd b0 ex cy D cl sc tx NB SL TB yy bb nl rr hh p s m args meth c mm) (hdc : decode (bb mm) (pcs mm i) = .ok (o, len)) (hp : pcs mm (i + 1) = pcs mm i + len)
    (hm : fx_mt cl fty TB NB SL yy bb nl rr na hh xn (yy mm).cls ((yy mm).name == "<init>") (rr mm) (pcs mm) i o len (.isub)) (k : fx_At b0 ex cy D cl xn pcs p l e R s m args below meth c mm C0 S0 r (i + 1) (ls) (.int (x - y) :: st) h) : fx_At b0 ex cy D cl xn pcs p l e R s m args below meth c mm C0 S0 r i (ls) (.int y :: .int x :: st) h := by
  intro ms H locs h1 h2 h3 h4 h5
  obtain ⟨hx, hb, hml, hown, hts, hst, hlocks, hret, hname, htab⟩ := B
  simp only [fx_mt] at hm
  have k := k ms H locs h1 h2 h3 h4 h5
  rw [hp] at k
  obtain ⟨rfl, rfl⟩ := hm
  exact lv_isub hx hb hdc k
set_option maxHeartbeats 4000000 in
theorem fx_s_imul {mm i len : Nat} {o : Instr} {C0 S0 : Nat} {r : fx_R} {ls st : List Value} {h : fx_H} {x y : Int32} (B : fx_Bd b0 ex cy D cl sc tx NB SL TB yy bb nl rr hh p s m args meth c mm) (hdc : decode (bb mm) (pcs mm i) = .ok (o, len)) (hp : pcs mm (i + 1) = pcs mm i + len)
    (hm : fx_mt cl fty TB NB SL yy bb nl rr na hh xn (yy mm).cls ((yy mm).name == "<init>") (rr mm) (pcs mm) i o len (.imul)) (k : fx_At b0 ex cy D cl xn pcs p l e R s m args below meth c mm C0 S0 r (i + 1) (ls) (.int (x * y) :: st) h) : fx_At b0 ex cy D cl xn pcs p l e R s m args below meth c mm C0 S0 r i (ls) (.int y :: .int x :: st) h := by
  intro ms H locs h1 h2 h3 h4 h5
  obtain ⟨hx, hb, hml, hown, hts, hst, hlocks, hret, hname, htab⟩ := B
  simp only [fx_mt] at hm
  have k := k ms H locs h1 h2 h3 h4 h5
  rw [hp] at k
  obtain ⟨rfl, rfl⟩ := hm
  exact lv_imul hx hb hdc k
set_option maxHeartbeats 4000000 in
theorem fx_s_iand {mm i len : Nat} {o : Instr} {C0 S0 : Nat} {r : fx_R} {ls st : List Value} {h : fx_H} {x y : Int32} (B : fx_Bd b0 ex cy D cl sc tx NB SL TB yy bb nl rr hh p s m args meth c mm) (hdc : decode (bb mm) (pcs mm i) = .ok (o, len)) (hp : pcs mm (i + 1) = pcs mm i + len)
    (hm : fx_mt cl fty TB NB SL yy bb nl rr na hh xn (yy mm).cls ((yy mm).name == "<init>") (rr mm) (pcs mm) i o len (.iand)) (k : fx_At b0 ex cy D cl xn pcs p l e R s m args below meth c mm C0 S0 r (i + 1) (ls) (.int (x &&& y) :: st) h) : fx_At b0 ex cy D cl xn pcs p l e R s m args below meth c mm C0 S0 r i (ls) (.int y :: .int x :: st) h := by
  intro ms H locs h1 h2 h3 h4 h5
  obtain ⟨hx, hb, hml, hown, hts, hst, hlocks, hret, hname, htab⟩ := B
  simp only [fx_mt] at hm
  have k := k ms H locs h1 h2 h3 h4 h5
  rw [hp] at k
  obtain ⟨rfl, rfl⟩ := hm
  exact lv_iand hx hb hdc k
set_option maxHeartbeats 4000000 in
theorem fx_s_ior {mm i len : Nat} {o : Instr} {C0 S0 : Nat} {r : fx_R} {ls st : List Value} {h : fx_H} {x y : Int32} (B : fx_Bd b0 ex cy D cl sc tx NB SL TB yy bb nl rr hh p s m args meth c mm) (hdc : decode (bb mm) (pcs mm i) = .ok (o, len)) (hp : pcs mm (i + 1) = pcs mm i + len)
    (hm : fx_mt cl fty TB NB SL yy bb nl rr na hh xn (yy mm).cls ((yy mm).name == "<init>") (rr mm) (pcs mm) i o len (.ior)) (k : fx_At b0 ex cy D cl xn pcs p l e R s m args below meth c mm C0 S0 r (i + 1) (ls) (.int (x ||| y) :: st) h) : fx_At b0 ex cy D cl xn pcs p l e R s m args below meth c mm C0 S0 r i (ls) (.int y :: .int x :: st) h := by
  intro ms H locs h1 h2 h3 h4 h5
  obtain ⟨hx, hb, hml, hown, hts, hst, hlocks, hret, hname, htab⟩ := B
  simp only [fx_mt] at hm
  have k := k ms H locs h1 h2 h3 h4 h5
  rw [hp] at k
  obtain ⟨rfl, rfl⟩ := hm
  exact lv_ior hx hb hdc k
set_option maxHeartbeats 4000000 in
theorem fx_s_ixor {mm i len : Nat} {o : Instr} {C0 S0 : Nat} {r : fx_R} {ls st : List Value} {h : fx_H} {x y : Int32} (B : fx_Bd b0 ex cy D cl sc tx NB SL TB yy bb nl rr hh p s m args meth c mm) (hdc : decode (bb mm) (pcs mm i) = .ok (o, len)) (hp : pcs mm (i + 1) = pcs mm i + len)
    (hm : fx_mt cl fty TB NB SL yy bb nl rr na hh xn (yy mm).cls ((yy mm).name == "<init>") (rr mm) (pcs mm) i o len (.ixor)) (k : fx_At b0 ex cy D cl xn pcs p l e R s m args below meth c mm C0 S0 r (i + 1) (ls) (.int (x ^^^ y) :: st) h) : fx_At b0 ex cy D cl xn pcs p l e R s m args below meth c mm C0 S0 r i (ls) (.int y :: .int x :: st) h := by
  intro ms H locs h1 h2 h3 h4 h5
  obtain ⟨hx, hb, hml, hown, hts, hst, hlocks, hret, hname, htab⟩ := B
  simp only [fx_mt] at hm
  have k := k ms H locs h1 h2 h3 h4 h5
  rw [hp] at k
  obtain ⟨rfl, rfl⟩ := hm
  exact lv_ixor hx hb hdc k
set_option maxHeartbeats 4000000 in
theorem fx_s_ishl {mm i len : Nat} {o : Instr} {C0 S0 : Nat} {r : fx_R} {ls st : List Value} {h : fx_H} {x y : Int32} (B : fx_Bd b0 ex cy D cl sc tx NB SL TB yy bb nl rr hh p s m args meth c mm) (hdc : decode (bb mm) (pcs mm i) = .ok (o, len)) (hp : pcs mm (i + 1) = pcs mm i + len)
    (hm : fx_mt cl fty TB NB SL yy bb nl rr na hh xn (yy mm).cls ((yy mm).name == "<init>") (rr mm) (pcs mm) i o len (.ishl)) (k : fx_At b0 ex cy D cl xn pcs p l e R s m args below meth c mm C0 S0 r (i + 1) (ls) (.int (x <<< (y &&& 31)) :: st) h) : fx_At b0 ex cy D cl xn pcs p l e R s m args below meth c mm C0 S0 r i (ls) (.int y :: .int x :: st) h := by
  intro ms H locs h1 h2 h3 h4 h5
  obtain ⟨hx, hb, hml, hown, hts, hst, hlocks, hret, hname, htab⟩ := B
  simp only [fx_mt] at hm
  have k := k ms H locs h1 h2 h3 h4 h5
  rw [hp] at k
  obtain ⟨rfl, rfl⟩ := hm
  exact lv_ishl hx hb hdc k
set_option maxHeartbeats 4000000 in
theorem fx_s_ishr {mm i len : Nat} {o : Instr} {C0 S0 : Nat} {r : fx_R} {ls st : List Value} {h : fx_H} {x y : Int32} (B : fx_Bd b0 ex cy D cl sc tx NB SL TB yy bb nl rr hh p s m args meth c mm) (hdc : decode (bb mm) (pcs mm i) = .ok (o, len)) (hp : pcs mm (i + 1) = pcs mm i + len)
    (hm : fx_mt cl fty TB NB SL yy bb nl rr na hh xn (yy mm).cls ((yy mm).name == "<init>") (rr mm) (pcs mm) i o len (.ishr)) (k : fx_At b0 ex cy D cl xn pcs p l e R s m args below meth c mm C0 S0 r (i + 1) (ls) (.int (x >>> (y &&& 31)) :: st) h) : fx_At b0 ex cy D cl xn pcs p l e R s m args below meth c mm C0 S0 r i (ls) (.int y :: .int x :: st) h := by
  intro ms H locs h1 h2 h3 h4 h5
  obtain ⟨hx, hb, hml, hown, hts, hst, hlocks, hret, hname, htab⟩ := B
  simp only [fx_mt] at hm
  have k := k ms H locs h1 h2 h3 h4 h5
  rw [hp] at k
  obtain ⟨rfl, rfl⟩ := hm
  exact lv_ishr hx hb hdc k
set_option maxHeartbeats 4000000 in
theorem fx_s_iushr {mm i len : Nat} {o : Instr} {C0 S0 : Nat} {r : fx_R} {ls st : List Value} {h : fx_H} {x y : Int32} (B : fx_Bd b0 ex cy D cl sc tx NB SL TB yy bb nl rr hh p s m args meth c mm) (hdc : decode (bb mm) (pcs mm i) = .ok (o, len)) (hp : pcs mm (i + 1) = pcs mm i + len)
    (hm : fx_mt cl fty TB NB SL yy bb nl rr na hh xn (yy mm).cls ((yy mm).name == "<init>") (rr mm) (pcs mm) i o len (.iushr)) (k : fx_At b0 ex cy D cl xn pcs p l e R s m args below meth c mm C0 S0 r (i + 1) (ls) (.int (x.toUInt32 >>> (y.toUInt32 &&& Int32.toUInt32 31)).toInt32 :: st) h) : fx_At b0 ex cy D cl xn pcs p l e R s m args below meth c mm C0 S0 r i (ls) (.int y :: .int x :: st) h := by
  intro ms H locs h1 h2 h3 h4 h5
  obtain ⟨hx, hb, hml, hown, hts, hst, hlocks, hret, hname, htab⟩ := B
  simp only [fx_mt] at hm
  have k := k ms H locs h1 h2 h3 h4 h5
  rw [hp] at k
  obtain ⟨rfl, rfl⟩ := hm
  exact lv_iushr hx hb hdc rfl k
set_option maxHeartbeats 4000000 in
theorem fx_s_idiv {mm i len : Nat} {o : Instr} {C0 S0 : Nat} {r : fx_R} {ls st : List Value} {h : fx_H} {x y : Int32} (hne : ¬ y = 0) (B : fx_Bd b0 ex cy D cl sc tx NB SL TB yy bb nl rr hh p s m args meth c mm) (hdc : decode (bb mm) (pcs mm i) = .ok (o, len)) (hp : pcs mm (i + 1) = pcs mm i + len)
    (hm : fx_mt cl fty TB NB SL yy bb nl rr na hh xn (yy mm).cls ((yy mm).name == "<init>") (rr mm) (pcs mm) i o len (.idiv)) (k : fx_At b0 ex cy D cl xn pcs p l e R s m args below meth c mm C0 S0 r (i + 1) (ls) (.int (x / y) :: st) h) : fx_At b0 ex cy D cl xn pcs p l e R s m args below meth c mm C0 S0 r i (ls) (.int y :: .int x :: st) h := by
  intro ms H locs h1 h2 h3 h4 h5
  obtain ⟨hx, hb, hml, hown, hts, hst, hlocks, hret, hname, htab⟩ := B
  simp only [fx_mt] at hm
  have k := k ms H locs h1 h2 h3 h4 h5
  rw [hp] at k
  obtain ⟨rfl, rfl⟩ := hm
  exact lv_idiv hx hb hdc hne k
set_option maxHeartbeats 4000000 in
theorem fx_s_irem {mm i len : Nat} {o : Instr} {C0 S0 : Nat} {r : fx_R} {ls st : List Value} {h : fx_H} {x y : Int32} (hne : ¬ y = 0) (B : fx_Bd b0 ex cy D cl sc tx NB SL TB yy bb nl rr hh p s m args meth c mm) (hdc : decode (bb mm) (pcs mm i) = .ok (o, len)) (hp : pcs mm (i + 1) = pcs mm i + len)
    (hm : fx_mt cl fty TB NB SL yy bb nl rr na hh xn (yy mm).cls ((yy mm).name == "<init>") (rr mm) (pcs mm) i o len (.irem)) (k : fx_At b0 ex cy D cl xn pcs p l e R s m args below meth c mm C0 S0 r (i + 1) (ls) (.int (x - x / y * y) :: st) h) : fx_At b0 ex cy D cl xn pcs p l e R s m args below meth c mm C0 S0 r i (ls) (.int y :: .int x :: st) h := by
  intro ms H locs h1 h2 h3 h4 h5
  obtain ⟨hx, hb, hml, hown, hts, hst, hlocks, hret, hname, htab⟩ := B
  simp only [fx_mt] at hm
  have k := k ms H locs h1 h2 h3 h4 h5
  rw [hp] at k
  obtain ⟨rfl, rfl⟩ := hm
  exact lv_irem hx hb hdc hne k
set_option maxHeartbeats 4000000 in
theorem fx_s_i2l {mm i len : Nat} {o : Instr} {C0 S0 : Nat} {r : fx_R} {ls st : List Value} {h : fx_H} {x : Int32} (B : fx_Bd b0 ex cy D cl sc tx NB SL TB yy bb nl rr hh p s m args meth c mm) (hdc : decode (bb mm) (pcs mm i) = .ok (o, len)) (hp : pcs mm (i + 1) = pcs mm i + len)
    (hm : fx_mt cl fty TB NB SL yy bb nl rr na hh xn (yy mm).cls ((yy mm).name == "<init>") (rr mm) (pcs mm) i o len (.i2l)) (k : fx_At b0 ex cy D cl xn pcs p l e R s m args below meth c mm C0 S0 r (i + 1) (ls) (.long x.toInt64 :: st) h) : fx_At b0 ex cy D cl xn pcs p l e R s m args below meth c mm C0 S0 r i (ls) (.int x :: st) h := by
  intro ms H locs h1 h2 h3 h4 h5
  obtain ⟨hx, hb, hml, hown, hts, hst, hlocks, hret, hname, htab⟩ := B
  simp only [fx_mt] at hm
  have k := k ms H locs h1 h2 h3 h4 h5
  rw [hp] at k
  obtain ⟨rfl, rfl⟩ := hm
  exact lv_i2l hx hb hdc rfl k
set_option maxHeartbeats 4000000 in
theorem fx_s_i2b {mm i len : Nat} {o : Instr} {C0 S0 : Nat} {r : fx_R} {ls st : List Value} {h : fx_H} {x : Int32} (B : fx_Bd b0 ex cy D cl sc tx NB SL TB yy bb nl rr hh p s m args meth c mm) (hdc : decode (bb mm) (pcs mm i) = .ok (o, len)) (hp : pcs mm (i + 1) = pcs mm i + len)
    (hm : fx_mt cl fty TB NB SL yy bb nl rr na hh xn (yy mm).cls ((yy mm).name == "<init>") (rr mm) (pcs mm) i o len (.i2b)) (k : fx_At b0 ex cy D cl xn pcs p l e R s m args below meth c mm C0 S0 r (i + 1) (ls) (.int x.toInt8.toInt32 :: st) h) : fx_At b0 ex cy D cl xn pcs p l e R s m args below meth c mm C0 S0 r i (ls) (.int x :: st) h := by
  intro ms H locs h1 h2 h3 h4 h5
  obtain ⟨hx, hb, hml, hown, hts, hst, hlocks, hret, hname, htab⟩ := B
  simp only [fx_mt] at hm
  have k := k ms H locs h1 h2 h3 h4 h5
  rw [hp] at k
  obtain ⟨rfl, rfl⟩ := hm
  exact lv_i2b hx hb hdc rfl k
set_option maxHeartbeats 4000000 in
theorem fx_s_i2c {mm i len : Nat} {o : Instr} {C0 S0 : Nat} {r : fx_R} {ls st : List Value} {h : fx_H} {x : Int32} (B : fx_Bd b0 ex cy D cl sc tx NB SL TB yy bb nl rr hh p s m args meth c mm) (hdc : decode (bb mm) (pcs mm i) = .ok (o, len)) (hp : pcs mm (i + 1) = pcs mm i + len)
    (hm : fx_mt cl fty TB NB SL yy bb nl rr na hh xn (yy mm).cls ((yy mm).name == "<init>") (rr mm) (pcs mm) i o len (.i2c)) (k : fx_At b0 ex cy D cl xn pcs p l e R s m args below meth c mm C0 S0 r (i + 1) (ls) (.int (x.toUInt32 % 65536).toInt32 :: st) h) : fx_At b0 ex cy D cl xn pcs p l e R s m args below meth c mm C0 S0 r i (ls) (.int x :: st) h := by
  intro ms H locs h1 h2 h3 h4 h5
  obtain ⟨hx, hb, hml, hown, hts, hst, hlocks, hret, hname, htab⟩ := B
  simp only [fx_mt] at hm
  have k := k ms H locs h1 h2 h3 h4 h5
  rw [hp] at k
  obtain ⟨rfl, rfl⟩ := hm
  exact lv_i2c hx hb hdc rfl k
set_option maxHeartbeats 4000000 in
theorem fx_s_ladd {mm i len : Nat} {o : Instr} {C0 S0 : Nat} {r : fx_R} {ls st : List Value} {h : fx_H} {x y : Int64} (B : fx_Bd b0 ex cy D cl sc tx NB SL TB yy bb nl rr hh p s m args meth c mm) (hdc : decode (bb mm) (pcs mm i) = .ok (o, len)) (hp : pcs mm (i + 1) = pcs mm i + len)
    (hm : fx_mt cl fty TB NB SL yy bb nl rr na hh xn (yy mm).cls ((yy mm).name == "<init>") (rr mm) (pcs mm) i o len (.ladd)) (k : fx_At b0 ex cy D cl xn pcs p l e R s m args below meth c mm C0 S0 r (i + 1) (ls) (.long (x + y) :: st) h) : fx_At b0 ex cy D cl xn pcs p l e R s m args below meth c mm C0 S0 r i (ls) (.long y :: .long x :: st) h := by
  intro ms H locs h1 h2 h3 h4 h5
  obtain ⟨hx, hb, hml, hown, hts, hst, hlocks, hret, hname, htab⟩ := B
  simp only [fx_mt] at hm
  have k := k ms H locs h1 h2 h3 h4 h5
  rw [hp] at k
  obtain ⟨rfl, rfl⟩ := hm
  exact lv_ladd hx hb hdc k
set_option maxHeartbeats 4000000 in
theorem fx_s_lmul {mm i len : Nat} {o : Instr} {C0 S0 : Nat} {r : fx_R} {ls st : List Value} {h : fx_H} {x y : Int64} (B : fx_Bd b0 ex cy D cl sc tx NB SL TB yy bb nl rr hh p s m args meth c mm) (hdc : decode (bb mm) (pcs mm i) = .ok (o, len)) (hp : pcs mm (i + 1) = pcs mm i + len)
    (hm : fx_mt cl fty TB NB SL yy bb nl rr na hh xn (yy mm).cls ((yy mm).name == "<init>") (rr mm) (pcs mm) i o len (.lmul)) (k : fx_At b0 ex cy D cl xn pcs p l e R s m args below meth c mm C0 S0 r (i + 1) (ls) (.long (x * y) :: st) h) : fx_At b0 ex cy D cl xn pcs p l e R s m args below meth c mm C0 S0 r i (ls) (.long y :: .long x :: st) h := by
  intro ms H locs h1 h2 h3 h4 h5
  obtain ⟨hx, hb, hml, hown, hts, hst, hlocks, hret, hname, htab⟩ := B
  simp only [fx_mt] at hm
  have k := k ms H locs h1 h2 h3 h4 h5
  rw [hp] at k
  obtain ⟨rfl, rfl⟩ := hm
  exact lv_lmul hx hb hdc k
set_option maxHeartbeats 4000000 in
theorem fx_s_land {mm i len : Nat} {o : Instr} {C0 S0 : Nat} {r : fx_R} {ls st : List Value} {h : fx_H} {x y : Int64} (B : fx_Bd b0 ex cy D cl sc tx NB SL TB yy bb nl rr hh p s m args meth c mm) (hdc : decode (bb mm) (pcs mm i) = .ok (o, len)) (hp : pcs mm (i + 1) = pcs mm i + len)
    (hm : fx_mt cl fty TB NB SL yy bb nl rr na hh xn (yy mm).cls ((yy mm).name == "<init>") (rr mm) (pcs mm) i o len (.land)) (k : fx_At b0 ex cy D cl xn pcs p l e R s m args below meth c mm C0 S0 r (i + 1) (ls) (.long (x &&& y) :: st) h) : fx_At b0 ex cy D cl xn pcs p l e R s m args below meth c mm C0 S0 r i (ls) (.long y :: .long x :: st) h := by
  intro ms H locs h1 h2 h3 h4 h5
  obtain ⟨hx, hb, hml, hown, hts, hst, hlocks, hret, hname, htab⟩ := B
  simp only [fx_mt] at hm
  have k := k ms H locs h1 h2 h3 h4 h5
  rw [hp] at k
  obtain ⟨rfl, rfl⟩ := hm
  exact lv_land hx hb hdc k
set_option maxHeartbeats 4000000 in
theorem fx_s_ldiv {mm i len : Nat} {o : Instr} {C0 S0 : Nat} {r : fx_R} {ls st : List Value} {h : fx_H} {x y : Int64} (hne : ¬ y = 0) (B : fx_Bd b0 ex cy D cl sc tx NB SL TB yy bb nl rr hh p s m args meth c mm) (hdc : decode (bb mm) (pcs mm i) = .ok (o, len)) (hp : pcs mm (i + 1) = pcs mm i + len)
    (hm : fx_mt cl fty TB NB SL yy bb nl rr na hh xn (yy mm).cls ((yy mm).name == "<init>") (rr mm) (pcs mm) i o len (.ldiv)) (k : fx_At b0 ex cy D cl xn pcs p l e R s m args below meth c mm C0 S0 r (i + 1) (ls) (.long (x / y) :: st) h) : fx_At b0 ex cy D cl xn pcs p l e R s m args below meth c mm C0 S0 r i (ls) (.long y :: .long x :: st) h := by
  intro ms H locs h1 h2 h3 h4 h5
  obtain ⟨hx, hb, hml, hown, hts, hst, hlocks, hret, hname, htab⟩ := B
  simp only [fx_mt] at hm
  have k := k ms H locs h1 h2 h3 h4 h5
  rw [hp] at k
  obtain ⟨rfl, rfl⟩ := hm
  exact lv_ldiv hx hb hdc hne k
set_option maxHeartbeats 4000000 in
theorem fx_s_lrem {mm i len : Nat} {o : Instr} {C0 S0 : Nat} {r : fx_R} {ls st : List Value} {h : fx_H} {x y : Int64} (hne : ¬ y = 0) (B : fx_Bd b0 ex cy D cl sc tx NB SL TB yy bb nl rr hh p s m args meth c mm) (hdc : decode (bb mm) (pcs mm i) = .ok (o, len)) (hp : pcs mm (i + 1) = pcs mm i + len)
    (hm : fx_mt cl fty TB NB SL yy bb nl rr na hh xn (yy mm).cls ((yy mm).name == "<init>") (rr mm) (pcs mm) i o len (.lrem)) (k : fx_At b0 ex cy D cl xn pcs p l e R s m args below meth c mm C0 S0 r (i + 1) (ls) (.long (x - x / y * y) :: st) h) : fx_At b0 ex cy D cl xn pcs p l e R s m args below meth c mm C0 S0 r i (ls) (.long y :: .long x :: st) h := by
  intro ms H locs h1 h2 h3 h4 h5
  obtain ⟨hx, hb, hml, hown, hts, hst, hlocks, hret, hname, htab⟩ := B
  simp only [fx_mt] at hm
  have k := k ms H locs h1 h2 h3 h4 h5
  rw [hp] at k
  obtain ⟨rfl, rfl⟩ := hm
  exact lv_lrem hx hb hdc hne k
set_option maxHeartbeats 4000000 in
theorem fx_s_lshl {mm i len : Nat} {o : Instr} {C0 S0 : Nat} {r : fx_R} {ls st : List Value} {h : fx_H} {x : Int64} {y : Int32} (B : fx_Bd b0 ex cy D cl sc tx NB SL TB yy bb nl rr hh p s m args meth c mm) (hdc : decode (bb mm) (pcs mm i) = .ok (o, len)) (hp : pcs mm (i + 1) = pcs mm i + len)
    (hm : fx_mt cl fty TB NB SL yy bb nl rr na hh xn (yy mm).cls ((yy mm).name == "<init>") (rr mm) (pcs mm) i o len (.lshl)) (k : fx_At b0 ex cy D cl xn pcs p l e R s m args below meth c mm C0 S0 r (i + 1) (ls) (.long (x <<< (y.toInt64 &&& 63)) :: st) h) : fx_At b0 ex cy D cl xn pcs p l e R s m args below meth c mm C0 S0 r i (ls) (.int y :: .long x :: st) h := by
  intro ms H locs h1 h2 h3 h4 h5
  obtain ⟨hx, hb, hml, hown, hts, hst, hlocks, hret, hname, htab⟩ := B
  simp only [fx_mt] at hm
  have k := k ms H locs h1 h2 h3 h4 h5
  rw [hp] at k
  obtain ⟨rfl, rfl⟩ := hm
  exact lv_lshl hx hb hdc rfl k
set_option maxHeartbeats 4000000 in
theorem fx_s_lshr {mm i len : Nat} {o : Instr} {C0 S0 : Nat} {r : fx_R} {ls st : List Value} {h : fx_H} {x : Int64} {y : Int32} (B : fx_Bd b0 ex cy D cl sc tx NB SL TB yy bb nl rr hh p s m args meth c mm) (hdc : decode (bb mm) (pcs mm i) = .ok (o, len)) (hp : pcs mm (i + 1) = pcs mm i + len)
    (hm : fx_mt cl fty TB NB SL yy bb nl rr na hh xn (yy mm).cls ((yy mm).name == "<init>") (rr mm) (pcs mm) i o len (.lshr)) (k : fx_At b0 ex cy D cl xn pcs p l e R s m args below meth c mm C0 S0 r (i + 1) (ls) (.long (x >>> (y.toInt64 &&& 63)) :: st) h) : fx_At b0 ex cy D cl xn pcs p l e R s m args below meth c mm C0 S0 r i (ls) (.int y :: .long x :: st) h := by
  intro ms H locs h1 h2 h3 h4 h5
  obtain ⟨hx, hb, hml, hown, hts, hst, hlocks, hret, hname, htab⟩ := B
  simp only [fx_mt] at hm
  have k := k ms H locs h1 h2 h3 h4 h5
  rw [hp] at k
  obtain ⟨rfl, rfl⟩ := hm
  exact lv_lshr hx hb hdc rfl k
set_option maxHeartbeats 4000000 in
theorem fx_s_lcmp {mm i len : Nat} {o : Instr} {C0 S0 : Nat} {r : fx_R} {ls st : List Value} {h : fx_H} {x y : Int64} (B : fx_Bd b0 ex cy D cl sc tx NB SL TB yy bb nl rr hh p s m args meth c mm) (hdc : decode (bb mm) (pcs mm i) = .ok (o, len)) (hp : pcs mm (i + 1) = pcs mm i + len)
    (hm : fx_mt cl fty TB NB SL yy bb nl rr na hh xn (yy mm).cls ((yy mm).name == "<init>") (rr mm) (pcs mm) i o len (.lcmp)) (k : fx_At b0 ex cy D cl xn pcs p l e R s m args below meth c mm C0 S0 r (i + 1) (ls) (.int (lg_cmp x y) :: st) h) : fx_At b0 ex cy D cl xn pcs p l e R s m args below meth c mm C0 S0 r i (ls) (.long y :: .long x :: st) h := by
  intro ms H locs h1 h2 h3 h4 h5
  obtain ⟨hx, hb, hml, hown, hts, hst, hlocks, hret, hname, htab⟩ := B
  simp only [fx_mt] at hm
  have k := k ms H locs h1 h2 h3 h4 h5
  rw [hp] at k
  obtain ⟨rfl, rfl⟩ := hm
  exact W.lcmp hx hb hdc k
set_option maxHeartbeats 4000000 in
theorem fx_s_pop {mm i len : Nat} {o : Instr} {C0 S0 : Nat} {r : fx_R} {ls st : List Value} {h : fx_H} {v : Value} (hc : v.category = 1) (B : fx_Bd b0 ex cy D cl sc tx NB SL TB yy bb nl rr hh p s m args meth c mm) (hdc : decode (bb mm) (pcs mm i) = .ok (o, len)) (hp : pcs mm (i + 1) = pcs mm i + len)
    (hm : fx_mt cl fty TB NB SL yy bb nl rr na hh xn (yy mm).cls ((yy mm).name == "<init>") (rr mm) (pcs mm) i o len (.pop)) (k : fx_At b0 ex cy D cl xn pcs p l e R s m args below meth c mm C0 S0 r (i + 1) (ls) (st) h) : fx_At b0 ex cy D cl xn pcs p l e R s m args below meth c mm C0 S0 r i (ls) (v :: st) h := by
  intro ms H locs h1 h2 h3 h4 h5
  obtain ⟨hx, hb, hml, hown, hts, hst, hlocks, hret, hname, htab⟩ := B
  simp only [fx_mt] at hm
  have k := k ms H locs h1 h2 h3 h4 h5
  rw [hp] at k
  obtain ⟨rfl, rfl⟩ := hm
  exact lv_pop hx hb hdc (by rw [fx_tr_cat]; exact hc) k
set_option maxHeartbeats 4000000 in
theorem fx_s_dup {mm i len : Nat} {o : Instr} {C0 S0 : Nat} {r : fx_R} {ls st : List Value} {h : fx_H} {v : Value} (hc : v.category = 1) (B : fx_Bd b0 ex cy D cl sc tx NB SL TB yy bb nl rr hh p s m args meth c mm) (hdc : decode (bb mm) (pcs mm i) = .ok (o, len)) (hp : pcs mm (i + 1) = pcs mm i + len)
    (hm : fx_mt cl fty TB NB SL yy bb nl rr na hh xn (yy mm).cls ((yy mm).name == "<init>") (rr mm) (pcs mm) i o len (.dup)) (k : fx_At b0 ex cy D cl xn pcs p l e R s m args below meth c mm C0 S0 r (i + 1) (ls) (v :: v :: st) h) : fx_At b0 ex cy D cl xn pcs p l e R s m args below meth c mm C0 S0 r i (ls) (v :: st) h := by
  intro ms H locs h1 h2 h3 h4 h5
  obtain ⟨hx, hb, hml, hown, hts, hst, hlocks, hret, hname, htab⟩ := B
  simp only [fx_mt] at hm
  have k := k ms H locs h1 h2 h3 h4 h5
  rw [hp] at k
  obtain ⟨rfl, rfl⟩ := hm
  exact lv_dup hx hb hdc (by rw [fx_tr_cat]; exact hc) k
set_option maxHeartbeats 4000000 in
theorem fx_s_dup2 {mm i len : Nat} {o : Instr} {C0 S0 : Nat} {r : fx_R} {ls st : List Value} {h : fx_H} {v w : Value} (hc : v.category = 1) (hc2 : w.category = 1) (B : fx_Bd b0 ex cy D cl sc tx NB SL TB yy bb nl rr hh p s m args meth c mm) (hdc : decode (bb mm) (pcs mm i) = .ok (o, len)) (hp : pcs mm (i + 1) = pcs mm i + len)
    (hm : fx_mt cl fty TB NB SL yy bb nl rr na hh xn (yy mm).cls ((yy mm).name == "<init>") (rr mm) (pcs mm) i o len (.dup2)) (k : fx_At b0 ex cy D cl xn pcs p l e R s m args below meth c mm C0 S0 r (i + 1) (ls) (v :: w :: v :: w :: st) h) : fx_At b0 ex cy D cl xn pcs p l e R s m args below meth c mm C0 S0 r i (ls) (v :: w :: st) h := by
  intro ms H locs h1 h2 h3 h4 h5
  obtain ⟨hx, hb, hml, hown, hts, hst, hlocks, hret, hname, htab⟩ := B
  simp only [fx_mt] at hm
  have k := k ms H locs h1 h2 h3 h4 h5
  rw [hp] at k
  obtain ⟨rfl, rfl⟩ := hm
  exact lv_dup2_11 hx hb hdc (by rw [fx_tr_cat]; exact hc) (by rw [fx_tr_cat]; exact hc2) k
set_option maxHeartbeats 4000000 in
theorem fx_s_goto {mm i len : Nat} {o : Instr} {C0 S0 : Nat} {r : fx_R} {ls st : List Value} {h : fx_H} {t : Int} (B : fx_Bd b0 ex cy D cl sc tx NB SL TB yy bb nl rr hh p s m args meth c mm) (hdc : decode (bb mm) (pcs mm i) = .ok (o, len)) (hp : pcs mm (i + 1) = pcs mm i + len)
    (hm : fx_mt cl fty TB NB SL yy bb nl rr na hh xn (yy mm).cls ((yy mm).name == "<init>") (rr mm) (pcs mm) i o len (.goto t)) (k : fx_At b0 ex cy D cl xn pcs p l e R s m args below meth c mm C0 S0 r t.toNat (ls) (st) h) : fx_At b0 ex cy D cl xn pcs p l e R s m args below meth c mm C0 S0 r i (ls) (st) h := by
  intro ms H locs h1 h2 h3 h4 h5
  obtain ⟨hx, hb, hml, hown, hts, hst, hlocks, hret, hname, htab⟩ := B
  simp only [fx_mt] at hm
  have k := k ms H locs h1 h2 h3 h4 h5
  obtain ⟨x, rfl, rfl, ht⟩ := hm
  exact lv_goto hx hb hdc ht k
set_option maxHeartbeats 4000000 in
theorem fx_s_icmp {mm i len : Nat} {o : Instr} {C0 S0 : Nat} {r : fx_R} {ls st : List Value} {h : fx_H} {q : Jvm.ClassFile.Cond} {t : Int} {x y : Int32} (B : fx_Bd b0 ex cy D cl sc tx NB SL TB yy bb nl rr hh p s m args meth c mm) (hdc : decode (bb mm) (pcs mm i) = .ok (o, len)) (hp : pcs mm (i + 1) = pcs mm i + len)
    (hm : fx_mt cl fty TB NB SL yy bb nl rr na hh xn (yy mm).cls ((yy mm).name == "<init>") (rr mm) (pcs mm) i o len (.if_icmp q t)) (kt : fx_cmp q x y = true → fx_At b0 ex cy D cl xn pcs p l e R s m args below meth c mm C0 S0 r t.toNat ls st h) (kf : fx_cmp q x y = false → fx_At b0 ex cy D cl xn pcs p l e R s m args below meth c mm C0 S0 r (i + 1) ls st h) : fx_At b0 ex cy D cl xn pcs p l e R s m args below meth c mm C0 S0 r i (ls) (.int y :: .int x :: st) h := by
  intro ms H locs h1 h2 h3 h4 h5
  obtain ⟨hx, hb, hml, hown, hts, hst, hlocks, hret, hname, htab⟩ := B
  simp only [fx_mt] at hm
  obtain ⟨x2, rfl, rfl, ht⟩ := hm
  have kt := fun z => kt z ms H locs h1 h2 h3 h4 h5
  have kf := fun z => kf z ms H locs h1 h2 h3 h4 h5
  rw [hp] at kf
  cases q
  · exact lv_icmp_eq hx hb hdc ht (fun z => kt (by simp [fx_cmp, z])) (fun z => kf (by simp [fx_cmp, z]))
  · exact lv_icmp_ne hx hb hdc ht (fun z => kt (by simp [fx_cmp, z])) (fun z => kf (by simp [fx_cmp, z]))
  · exact lv_icmp_lt hx hb hdc ht (fun z => kt (decide_eq_true z)) (fun z => kf (decide_eq_false z))
  · exact lv_icmp_ge hx hb hdc ht (fun z => kt (decide_eq_true z)) (fun z => kf (decide_eq_false z))
  · exact lv_icmp_gt hx hb hdc ht (fun z => kt (decide_eq_true z)) (fun z => kf (decide_eq_false z))
  · exact lv_icmp_le hx hb hdc ht (fun z => kt (decide_eq_true z)) (fun z => kf (decide_eq_false z))
set_option maxHeartbeats 4000000 in
theorem fx_s_ifc {mm i len : Nat} {o : Instr} {C0 S0 : Nat} {r : fx_R} {ls st : List Value} {h : fx_H} {q : Jvm.ClassFile.Cond} {t : Int} {x : Int32} (B : fx_Bd b0 ex cy D cl sc tx NB SL TB yy bb nl rr hh p s m args meth c mm) (hdc : decode (bb mm) (pcs mm i) = .ok (o, len)) (hp : pcs mm (i + 1) = pcs mm i + len)
    (hm : fx_mt cl fty TB NB SL yy bb nl rr na hh xn (yy mm).cls ((yy mm).name == "<init>") (rr mm) (pcs mm) i o len (.ifCond q t)) (kt : fx_cmp q x 0 = true → fx_At b0 ex cy D cl xn pcs p l e R s m args below meth c mm C0 S0 r t.toNat ls st h) (kf : fx_cmp q x 0 = false → fx_At b0 ex cy D cl xn pcs p l e R s m args below meth c mm C0 S0 r (i + 1) ls st h) : fx_At b0 ex cy D cl xn pcs p l e R s m args below meth c mm C0 S0 r i (ls) (.int x :: st) h := by
  intro ms H locs h1 h2 h3 h4 h5
  obtain ⟨hx, hb, hml, hown, hts, hst, hlocks, hret, hname, htab⟩ := B
  simp only [fx_mt] at hm
  obtain ⟨x2, rfl, rfl, ht⟩ := hm
  have kt := fun z => kt z ms H locs h1 h2 h3 h4 h5
  have kf := fun z => kf z ms H locs h1 h2 h3 h4 h5
  rw [hp] at kf
  cases q
  · exact lv_if_eq hx hb hdc ht (fun z => kt (by simp [fx_cmp, z])) (fun z => kf (by simp [fx_cmp, z]))
  · exact lv_if_ne hx hb hdc ht (fun z => kt (by simp [fx_cmp, z])) (fun z => kf (by simp [fx_cmp, z]))
  · exact lv_if_lt hx hb hdc ht (fun z => kt (decide_eq_true z)) (fun z => kf (decide_eq_false z))
  · exact lv_if_ge hx hb hdc ht (fun z => kt (decide_eq_true z)) (fun z => kf (decide_eq_false z))
  · exact lv_if_gt hx hb hdc ht (fun z => kt (decide_eq_true z)) (fun z => kf (decide_eq_false z))
  · exact lv_if_le hx hb hdc ht (fun z => kt (decide_eq_true z)) (fun z => kf (decide_eq_false z))
set_option maxHeartbeats 4000000 in
theorem fx_s_tabOut {mm i len : Nat} {o : Instr} {C0 S0 : Nat} {r : fx_R} {ls st : List Value} {h : fx_H} {d lo hi : Int} {ts : Array Int} {x : Int32} (ho : x.toInt < lo ∨ hi < x.toInt) (B : fx_Bd b0 ex cy D cl sc tx NB SL TB yy bb nl rr hh p s m args meth c mm) (hdc : decode (bb mm) (pcs mm i) = .ok (o, len)) (hp : pcs mm (i + 1) = pcs mm i + len)
    (hm : fx_mt cl fty TB NB SL yy bb nl rr na hh xn (yy mm).cls ((yy mm).name == "<init>") (rr mm) (pcs mm) i o len (.tableswitch d lo hi ts)) (k : fx_At b0 ex cy D cl xn pcs p l e R s m args below meth c mm C0 S0 r d.toNat (ls) (st) h) : fx_At b0 ex cy D cl xn pcs p l e R s m args below meth c mm C0 S0 r i (ls) (.int x :: st) h := by
  intro ms H locs h1 h2 h3 h4 h5
  obtain ⟨hx, hb, hml, hown, hts, hst, hlocks, hret, hname, htab⟩ := B
  simp only [fx_mt] at hm
  have k := k ms H locs h1 h2 h3 h4 h5
  obtain ⟨x2, xs, rfl, ht, -⟩ := hm
  exact lv_tableOut hx hb hdc ho ht k
set_option maxHeartbeats 4000000 in
theorem fx_s_tabIn {mm i len : Nat} {o : Instr} {C0 S0 : Nat} {r : fx_R} {ls st : List Value} {h : fx_H} {d lo hi t : Int} {ts : Array Int} {x : Int32} (ho : ¬ (x.toInt < lo ∨ hi < x.toInt)) (hj : ts[(x.toInt - lo).toNat]? = some t) (B : fx_Bd b0 ex cy D cl sc tx NB SL TB yy bb nl rr hh p s m args meth c mm) (hdc : decode (bb mm) (pcs mm i) = .ok (o, len)) (hp : pcs mm (i + 1) = pcs mm i + len)
    (hm : fx_mt cl fty TB NB SL yy bb nl rr na hh xn (yy mm).cls ((yy mm).name == "<init>") (rr mm) (pcs mm) i o len (.tableswitch d lo hi ts)) (k : fx_At b0 ex cy D cl xn pcs p l e R s m args below meth c mm C0 S0 r t.toNat (ls) (st) h) : fx_At b0 ex cy D cl xn pcs p l e R s m args below meth c mm C0 S0 r i (ls) (.int x :: st) h := by
  intro ms H locs h1 h2 h3 h4 h5
  obtain ⟨hx, hb, hml, hown, hts, hst, hlocks, hret, hname, htab⟩ := B
  simp only [fx_mt] at hm
  have k := k ms H locs h1 h2 h3 h4 h5
  obtain ⟨x2, xs, rfl, -, ht⟩ := hm
  obtain ⟨y, hy, ht⟩ := ht _ _ hj
  exact lv_tableIn hx hb hdc (fun q => ho (Or.inl q)) (fun q => ho (Or.inr q)) hy ht k
set_option maxHeartbeats 4000000 in
theorem fx_s_getf {mm i len : Nat} {o : Instr} {C0 S0 : Nat} {r : fx_R} {ls st : List Value} {h : fx_H} {x a ci : Nat} {fs : List Value} {v : Value} (he : h.2.2.2 a = .inr (ci, fs)) (hc : ci = x / 128) (hv : fs[x % 128 / 2]? = some v) (B : fx_Bd b0 ex cy D cl sc tx NB SL TB yy bb nl rr hh p s m args meth c mm) (HA : fx_All cl fty TB NB df) (hdc : decode (bb mm) (pcs mm i) = .ok (o, len)) (hp : pcs mm (i + 1) = pcs mm i + len)
    (hm : fx_mt cl fty TB NB SL yy bb nl rr na hh xn (yy mm).cls ((yy mm).name == "<init>") (rr mm) (pcs mm) i o len (.getfield x)) (k : fx_At b0 ex cy D cl xn pcs p l e R s m args below meth c mm C0 S0 r (i + 1) (ls) (v :: st) h) : fx_At b0 ex cy D cl xn pcs p l e R s m args below meth c mm C0 S0 r i (ls) (.ref a :: st) h := by
  intro ms H locs h1 h2 h3 h4 h5
  obtain ⟨hx, hb, hml, hown, hts, hst, hlocks, hret, hname, htab⟩ := B
  simp only [fx_mt] at hm
  have k := k ms H locs h1 h2 h3 h4 h5
  rw [hp] at k
  obtain ⟨y, ⟨C, T, N⟩, rfl, rfl, hcl, hlt, hlk⟩ := hm
  subst hc
  obtain ⟨h99, hin, -⟩ := HA.2.2.1 _ _ hcl
  exact va_get hx hb hts hin hown hst.1 h2.1 a (h2.get he (fx_bad_inr h99)) hcl (x % 128 / 2) hlt (hts _ hlk) (fun _ q => q) (by rw [List.getElem?_map, hv]; rfl) hdc k
set_option maxHeartbeats 4000000 in
theorem fx_s_putf {mm i len : Nat} {o : Instr} {C0 S0 : Nat} {r : fx_R} {ls st : List Value} {h : fx_H} {x a ci : Nat} {fs : List Value} {v : Value} (he : h.2.2.2 a = .inr (ci, fs)) (hc : ci = x / 128) (hlen : x % 128 / 2 < fs.length) (hf : fx_fit (x % 2) v = true) (B : fx_Bd b0 ex cy D cl sc tx NB SL TB yy bb nl rr hh p s m args meth c mm) (HA : fx_All cl fty TB NB df) (hdc : decode (bb mm) (pcs mm i) = .ok (o, len)) (hp : pcs mm (i + 1) = pcs mm i + len)
    (hm : fx_mt cl fty TB NB SL yy bb nl rr na hh xn (yy mm).cls ((yy mm).name == "<init>") (rr mm) (pcs mm) i o len (.putfield x)) (k : fx_At b0 ex cy D cl xn pcs p l e R s m args below meth c mm C0 S0 r (i + 1) (ls) (st) (h.1, h.2.1, h.2.2.1, va_up h.2.2.2 a (.inr (ci, fs.set (x % 128 / 2) v)))) : fx_At b0 ex cy D cl xn pcs p l e R s m args below meth c mm C0 S0 r i (ls) (v :: .ref a :: st) h := by
  intro ms H locs h1 h2 h3 h4 h5
  obtain ⟨hx, hb, hml, hown, hts, hst, hlocks, hret, hname, htab⟩ := B
  simp only [fx_mt] at hm
  obtain ⟨y, ⟨C, T, N⟩, rfl, rfl, hcl, hlt, hlk, hty, hfin⟩ := hm
  subst hc
  obtain ⟨h99, hin, htyp, hnm, -⟩ := HA.2.2.1 _ _ hcl
  refine fx_put hx hb hts hin (fty (x / 128)) htyp hnm hown hst.1 h2 h3 he h99 hcl (x % 128 / 2) hlt (hts _ hlk) (hfin.imp id (fun q => ⟨q.1, by rw [hname]; exact beq_iff_eq.mp q.2.1, q.2.2⟩)) ?_ ?_ hlen hdc (fun H1 locs1 q1 q2 => ?_)
  · rcases hty with ⟨q1, q2⟩ | ⟨q1, q2⟩
    · rw [q1] at hf
      rw [q2]
      cases v <;> first | rfl | (simp [fx_fit] at hf)
    · rw [q1] at hf
      cases v <;> first | (simp [fx_fit] at hf; done) | skip
      generalize fty (x / 128) (x % 128 / 2) = T9 at q2
      cases T9 <;> first | rfl | (simp [FieldType.isReference] at q2)
  · rcases hty with ⟨q1, q2⟩ | ⟨q1, q2⟩
    · rw [q1] at hf
      rw [q2]
      cases v <;> first | rfl | (simp [fx_fit] at hf)
    · rw [q1] at hf
      cases v <;> first | (simp [fx_fit] at hf; done) | skip
      generalize fty (x / 128) (x % 128 / 2) = T9 at q2
      cases T9 <;> first | rfl | (simp [FieldType.isReference] at q2)
  · have k := k ms H1 locs1 h1 q1 q2 h4 h5
    rw [hp] at k
    exact k
set_option maxHeartbeats 4000000 in
theorem fx_s_iaload {mm i len : Nat} {o : Instr} {C0 S0 : Nat} {r : fx_R} {ls st : List Value} {h : fx_H} {a n : Nat} {f : Nat → Int32} {j : Int32} (he : h.2.2.2 a = .inl (1, n, .inl f)) (hj : fx_in j n = true) (B : fx_Bd b0 ex cy D cl sc tx NB SL TB yy bb nl rr hh p s m args meth c mm) (hdc : decode (bb mm) (pcs mm i) = .ok (o, len)) (hp : pcs mm (i + 1) = pcs mm i + len)
    (hm : fx_mt cl fty TB NB SL yy bb nl rr na hh xn (yy mm).cls ((yy mm).name == "<init>") (rr mm) (pcs mm) i o len (.iaload)) (k : fx_At b0 ex cy D cl xn pcs p l e R s m args below meth c mm C0 S0 r (i + 1) (ls) (.int (f j.toNatClampNeg) :: st) h) : fx_At b0 ex cy D cl xn pcs p l e R s m args below meth c mm C0 S0 r i (ls) (.int j :: .ref a :: st) h := by
  intro ms H locs h1 h2 h3 h4 h5
  obtain ⟨hx, hb, hml, hown, hts, hst, hlocks, hret, hname, htab⟩ := B
  simp only [fx_mt] at hm
  have k := k ms H locs h1 h2 h3 h4 h5
  rw [hp] at k
  obtain ⟨rfl, rfl⟩ := hm
  exact va_iald hx hb hst.1 h2.1 a 1 (h2.get he fx_bad_inl) rfl (fx_vin hj) hdc k
set_option maxHeartbeats 4000000 in
theorem fx_s_baload {mm i len : Nat} {o : Instr} {C0 S0 : Nat} {r : fx_R} {ls st : List Value} {h : fx_H} {a n : Nat} {f : Nat → Int32} {j : Int32} (he : h.2.2.2 a = .inl (0, n, .inl f)) (hj : fx_in j n = true) (B : fx_Bd b0 ex cy D cl sc tx NB SL TB yy bb nl rr hh p s m args meth c mm) (hdc : decode (bb mm) (pcs mm i) = .ok (o, len)) (hp : pcs mm (i + 1) = pcs mm i + len)
    (hm : fx_mt cl fty TB NB SL yy bb nl rr na hh xn (yy mm).cls ((yy mm).name == "<init>") (rr mm) (pcs mm) i o len (.baload)) (k : fx_At b0 ex cy D cl xn pcs p l e R s m args below meth c mm C0 S0 r (i + 1) (ls) (.int (f j.toNatClampNeg) :: st) h) : fx_At b0 ex cy D cl xn pcs p l e R s m args below meth c mm C0 S0 r i (ls) (.int j :: .ref a :: st) h := by
  intro ms H locs h1 h2 h3 h4 h5
  obtain ⟨hx, hb, hml, hown, hts, hst, hlocks, hret, hname, htab⟩ := B
  simp only [fx_mt] at hm
  have k := k ms H locs h1 h2 h3 h4 h5
  rw [hp] at k
  obtain ⟨rfl, rfl⟩ := hm
  exact va_bald hx hb hst.1 h2.1 a 0 (h2.get he fx_bad_inl) rfl (fx_vin hj) hdc k
set_option maxHeartbeats 4000000 in
theorem fx_s_laload {mm i len : Nat} {o : Instr} {C0 S0 : Nat} {r : fx_R} {ls st : List Value} {h : fx_H} {a n : Nat} {f : Nat → Int64} {j : Int32} (he : h.2.2.2 a = .inl (2, n, .inr (.inl f))) (hj : fx_in j n = true) (B : fx_Bd b0 ex cy D cl sc tx NB SL TB yy bb nl rr hh p s m args meth c mm) (hdc : decode (bb mm) (pcs mm i) = .ok (o, len)) (hp : pcs mm (i + 1) = pcs mm i + len)
    (hm : fx_mt cl fty TB NB SL yy bb nl rr na hh xn (yy mm).cls ((yy mm).name == "<init>") (rr mm) (pcs mm) i o len (.laload)) (k : fx_At b0 ex cy D cl xn pcs p l e R s m args below meth c mm C0 S0 r (i + 1) (ls) (.long (f j.toNatClampNeg) :: st) h) : fx_At b0 ex cy D cl xn pcs p l e R s m args below meth c mm C0 S0 r i (ls) (.int j :: .ref a :: st) h := by
  intro ms H locs h1 h2 h3 h4 h5
  obtain ⟨hx, hb, hml, hown, hts, hst, hlocks, hret, hname, htab⟩ := B
  simp only [fx_mt] at hm
  have k := k ms H locs h1 h2 h3 h4 h5
  rw [hp] at k
  obtain ⟨rfl, rfl⟩ := hm
  exact va_lald hx hb hst.1 h2.1 a 2 (h2.get he fx_bad_inl) rfl (fx_vin hj) hdc k
set_option maxHeartbeats 4000000 in
theorem fx_s_iastore {mm i len : Nat} {o : Instr} {C0 S0 : Nat} {r : fx_R} {ls st : List Value} {h : fx_H} {a n : Nat} {f : Nat → Int32} {j : Int32} {x : Int32} (he : h.2.2.2 a = .inl (1, n, .inl f)) (hj : fx_in j n = true) (B : fx_Bd b0 ex cy D cl sc tx NB SL TB yy bb nl rr hh p s m args meth c mm) (hdc : decode (bb mm) (pcs mm i) = .ok (o, len)) (hp : pcs mm (i + 1) = pcs mm i + len)
    (hm : fx_mt cl fty TB NB SL yy bb nl rr na hh xn (yy mm).cls ((yy mm).name == "<init>") (rr mm) (pcs mm) i o len (.iastore)) (k : fx_At b0 ex cy D cl xn pcs p l e R s m args below meth c mm C0 S0 r (i + 1) (ls) (st) (h.1, h.2.1, h.2.2.1, va_up h.2.2.2 a (.inl (1, n, .inl (upd f j.toNatClampNeg x))))) : fx_At b0 ex cy D cl xn pcs p l e R s m args below meth c mm C0 S0 r i (ls) (.int x :: .int j :: .ref a :: st) h := by
  intro ms H locs h1 h2 h3 h4 h5
  obtain ⟨hx, hb, hml, hown, hts, hst, hlocks, hret, hname, htab⟩ := B
  simp only [fx_mt] at hm
  obtain ⟨rfl, rfl⟩ := hm
  refine fx_iast hx hb hst.1 h2 h3 he hj hdc (fun H1 locs1 q1 q2 => ?_)
  have k := k ms H1 locs1 h1 q1 q2 h4 h5
  rw [hp] at k
  exact k
set_option maxHeartbeats 4000000 in
theorem fx_s_bastore {mm i len : Nat} {o : Instr} {C0 S0 : Nat} {r : fx_R} {ls st : List Value} {h : fx_H} {a n : Nat} {f : Nat → Int32} {j : Int32} {x : Int32} (he : h.2.2.2 a = .inl (0, n, .inl f)) (hj : fx_in j n = true) (B : fx_Bd b0 ex cy D cl sc tx NB SL TB yy bb nl rr hh p s m args meth c mm) (hdc : decode (bb mm) (pcs mm i) = .ok (o, len)) (hp : pcs mm (i + 1) = pcs mm i + len)
    (hm : fx_mt cl fty TB NB SL yy bb nl rr na hh xn (yy mm).cls ((yy mm).name == "<init>") (rr mm) (pcs mm) i o len (.bastore)) (k : fx_At b0 ex cy D cl xn pcs p l e R s m args below meth c mm C0 S0 r (i + 1) (ls) (st) (h.1, h.2.1, h.2.2.1, va_up h.2.2.2 a (.inl (0, n, .inl (upd f j.toNatClampNeg (vp_nar .byte x)))))) : fx_At b0 ex cy D cl xn pcs p l e R s m args below meth c mm C0 S0 r i (ls) (.int x :: .int j :: .ref a :: st) h := by
  intro ms H locs h1 h2 h3 h4 h5
  obtain ⟨hx, hb, hml, hown, hts, hst, hlocks, hret, hname, htab⟩ := B
  simp only [fx_mt] at hm
  obtain ⟨rfl, rfl⟩ := hm
  refine fx_bast hx hb hst.1 h2 h3 he hj hdc (fun H1 locs1 q1 q2 => ?_)
  have k := k ms H1 locs1 h1 q1 q2 h4 h5
  rw [hp] at k
  exact k
set_option maxHeartbeats 4000000 in
theorem fx_s_lastore {mm i len : Nat} {o : Instr} {C0 S0 : Nat} {r : fx_R} {ls st : List Value} {h : fx_H} {a n : Nat} {f : Nat → Int64} {j : Int32} {x : Int64} (he : h.2.2.2 a = .inl (2, n, .inr (.inl f))) (hj : fx_in j n = true) (B : fx_Bd b0 ex cy D cl sc tx NB SL TB yy bb nl rr hh p s m args meth c mm) (hdc : decode (bb mm) (pcs mm i) = .ok (o, len)) (hp : pcs mm (i + 1) = pcs mm i + len)
    (hm : fx_mt cl fty TB NB SL yy bb nl rr na hh xn (yy mm).cls ((yy mm).name == "<init>") (rr mm) (pcs mm) i o len (.lastore)) (k : fx_At b0 ex cy D cl xn pcs p l e R s m args below meth c mm C0 S0 r (i + 1) (ls) (st) (h.1, h.2.1, h.2.2.1, va_up h.2.2.2 a (.inl (2, n, .inr (.inl (vp_updL f j.toNatClampNeg x)))))) : fx_At b0 ex cy D cl xn pcs p l e R s m args below meth c mm C0 S0 r i (ls) (.long x :: .int j :: .ref a :: st) h := by
  intro ms H locs h1 h2 h3 h4 h5
  obtain ⟨hx, hb, hml, hown, hts, hst, hlocks, hret, hname, htab⟩ := B
  simp only [fx_mt] at hm
  obtain ⟨rfl, rfl⟩ := hm
  refine fx_last hx hb hst.1 h2 h3 he hj hdc (fun H1 locs1 q1 q2 => ?_)
  have k := k ms H1 locs1 h1 q1 q2 h4 h5
  rw [hp] at k
  exact k
set_option maxHeartbeats 4000000 in
theorem fx_s_aaload {mm i len : Nat} {o : Instr} {C0 S0 : Nat} {r : fx_R} {ls st : List Value} {h : fx_H} {a n t : Nat} {f : Nat → Option Nat} {j : Int32} (he : h.2.2.2 a = .inl (t, n, .inr (.inr (.inr (.inr f))))) (ht : t = 3 ∨ t = 4) (hj : fx_in j n = true) (B : fx_Bd b0 ex cy D cl sc tx NB SL TB yy bb nl rr hh p s m args meth c mm) (hdc : decode (bb mm) (pcs mm i) = .ok (o, len)) (hp : pcs mm (i + 1) = pcs mm i + len)
    (hm : fx_mt cl fty TB NB SL yy bb nl rr na hh xn (yy mm).cls ((yy mm).name == "<init>") (rr mm) (pcs mm) i o len (.aaload)) (k : fx_At b0 ex cy D cl xn pcs p l e R s m args below meth c mm C0 S0 r (i + 1) (ls) (fx_rf (f j.toNatClampNeg) :: st) h) : fx_At b0 ex cy D cl xn pcs p l e R s m args below meth c mm C0 S0 r i (ls) (.int j :: .ref a :: st) h := by
  intro ms H locs h1 h2 h3 h4 h5
  obtain ⟨hx, hb, hml, hown, hts, hst, hlocks, hret, hname, htab⟩ := B
  simp only [fx_mt] at hm
  have k := k ms H locs h1 h2 h3 h4 h5
  rw [hp] at k
  obtain ⟨rfl, rfl⟩ := hm
  obtain ⟨C, hC, -⟩ := fx_refK (cy := cy) ht
  refine va_aldq hx hb hst.1 h2.1 a t (h2.get he fx_bad_inl) hC (fx_vin hj) hdc ?_
  have q : va_rf ((f j.toNatClampNeg).map (fun k => b0 + k)) = fx_tr b0 ex (fx_rf (f j.toNatClampNeg)) := by cases f j.toNatClampNeg <;> rfl
  rw [q]
  exact k
set_option maxHeartbeats 4000000 in
theorem fx_s_aastore {mm i len : Nat} {o : Instr} {C0 S0 : Nat} {r : fx_R} {ls st : List Value} {h : fx_H} {a n t v ci : Nat} {fs : List Value} {f : Nat → Option Nat} {j : Int32} (he : h.2.2.2 a = .inl (t, n, .inr (.inr (.inr (.inr f))))) (hv : h.2.2.2 v = .inr (ci, fs)) (ht : t = 3 ∨ t = 4) (hj : fx_in j n = true) (hci : ci = fx_elt t) (B : fx_Bd b0 ex cy D cl sc tx NB SL TB yy bb nl rr hh p s m args meth c mm) (HA : fx_All cl fty TB NB df) (hdc : decode (bb mm) (pcs mm i) = .ok (o, len)) (hp : pcs mm (i + 1) = pcs mm i + len)
    (hm : fx_mt cl fty TB NB SL yy bb nl rr na hh xn (yy mm).cls ((yy mm).name == "<init>") (rr mm) (pcs mm) i o len (.aastore)) (k : fx_At b0 ex cy D cl xn pcs p l e R s m args below meth c mm C0 S0 r (i + 1) (ls) (st) (h.1, h.2.1, h.2.2.1, va_up h.2.2.2 a (.inl (t, n, .inr (.inr (.inr (.inr (va_up f j.toNatClampNeg (some v))))))))) : fx_At b0 ex cy D cl xn pcs p l e R s m args below meth c mm C0 S0 r i (ls) (.ref v :: .int j :: .ref a :: st) h := by
  intro ms H locs h1 h2 h3 h4 h5
  obtain ⟨hx, hb, hml, hown, hts, hst, hlocks, hret, hname, htab⟩ := B
  simp only [fx_mt] at hm
  obtain ⟨rfl, rfl⟩ := hm
  subst hci
  obtain ⟨r9, hr, hr2⟩ := HA.2.2.2.1 t ht
  refine fx_aast hx hb hst.1 h2 h3 he hv (HA.2.2.1 _ _ hr).1 ht hr hr2 hj hdc (fun H1 locs1 q1 q2 => ?_)
  have k := k ms H1 locs1 h1 q1 q2 h4 h5
  rw [hp] at k
  exact k
set_option maxHeartbeats 4000000 in
theorem fx_s_alen {mm i len : Nat} {o : Instr} {C0 S0 : Nat} {r : fx_R} {ls st : List Value} {h : fx_H} {a n t : Nat} {x : (Nat → Int32) ⊕ (Nat → Int64) ⊕ (Nat → UInt32) ⊕ (Nat → UInt64) ⊕ (Nat → Option Nat)} (he : h.2.2.2 a = .inl (t, n, x)) (ht : t < 5) (B : fx_Bd b0 ex cy D cl sc tx NB SL TB yy bb nl rr hh p s m args meth c mm) (hdc : decode (bb mm) (pcs mm i) = .ok (o, len)) (hp : pcs mm (i + 1) = pcs mm i + len)
    (hm : fx_mt cl fty TB NB SL yy bb nl rr na hh xn (yy mm).cls ((yy mm).name == "<init>") (rr mm) (pcs mm) i o len (.arraylength)) (k : fx_At b0 ex cy D cl xn pcs p l e R s m args below meth c mm C0 S0 r (i + 1) (ls) (.int (Int32.ofNat n) :: st) h) : fx_At b0 ex cy D cl xn pcs p l e R s m args below meth c mm C0 S0 r i (ls) (.ref a :: st) h := by
  intro ms H locs h1 h2 h3 h4 h5
  obtain ⟨hx, hb, hml, hown, hts, hst, hlocks, hret, hname, htab⟩ := B
  simp only [fx_mt] at hm
  have k := k ms H locs h1 h2 h3 h4 h5
  rw [hp] at k
  obtain ⟨rfl, rfl⟩ := hm
  have hT : ∃ ty, (fx_tys cy)[t]? = some (cy t, ty) := by
    match t, ht with
    | 0, _ => exact ⟨_, rfl⟩
    | 1, _ => exact ⟨_, rfl⟩
    | 2, _ => exact ⟨_, rfl⟩
    | 3, _ => exact ⟨_, rfl⟩
    | 4, _ => exact ⟨_, rfl⟩
  obtain ⟨ty, hty⟩ := hT
  exact va_alen hx hb hst.1 h2.1 a t (h2.get he fx_bad_inl) hty rfl hdc k
set_option maxHeartbeats 4000000 in
theorem fx_s_slen {mm i len : Nat} {o : Instr} {C0 S0 : Nat} {r : fx_R} {ls st : List Value} {h : fx_H}  (B : fx_Bd b0 ex cy D cl sc tx NB SL TB yy bb nl rr hh p s m args meth c mm) (hdc : decode (bb mm) (pcs mm i) = .ok (o, len)) (hp : pcs mm (i + 1) = pcs mm i + len)
    (hm : fx_mt cl fty TB NB SL yy bb nl rr na hh xn (yy mm).cls ((yy mm).name == "<init>") (rr mm) (pcs mm) i o len (.arraylength)) (k : fx_At b0 ex cy D cl xn pcs p l e R s m args below meth c mm C0 S0 r (i + 1) (ls) (.int (Int32.ofNat sc.1) :: st) h) : fx_At b0 ex cy D cl xn pcs p l e R s m args below meth c mm C0 S0 r i (ls) (.retAddr 0 :: st) h := by
  intro ms H locs h1 h2 h3 h4 h5
  obtain ⟨hx, hb, hml, hown, hts, hst, hlocks, hret, hname, htab⟩ := B
  simp only [fx_mt] at hm
  have k := k ms H locs h1 h2 h3 h4 h5
  rw [hp] at k
  obtain ⟨rfl, rfl⟩ := hm
  have g := hst.2.2.2.2.2
  exact va_slen hx hb g.1 (by have := g.2.1; have := hst.2.2.2.2.2.2.2.2.2.2.2.2.1; omega) (Nat.not_le.mpr g.2.1) h3 hdc k
set_option maxHeartbeats 4000000 in
theorem fx_s_sald {mm i len : Nat} {o : Instr} {C0 S0 : Nat} {r : fx_R} {ls st : List Value} {h : fx_H} {j : Int32} (hj : fx_in j sc.1 = true) (B : fx_Bd b0 ex cy D cl sc tx NB SL TB yy bb nl rr hh p s m args meth c mm) (hdc : decode (bb mm) (pcs mm i) = .ok (o, len)) (hp : pcs mm (i + 1) = pcs mm i + len)
    (hm : fx_mt cl fty TB NB SL yy bb nl rr na hh xn (yy mm).cls ((yy mm).name == "<init>") (rr mm) (pcs mm) i o len (.faload)) (k : fx_At b0 ex cy D cl xn pcs p l e R s m args below meth c mm C0 S0 r (i + 1) (ls) (.int (sc.2 j.toNatClampNeg) :: st) h) : fx_At b0 ex cy D cl xn pcs p l e R s m args below meth c mm C0 S0 r i (ls) (.int j :: .retAddr 0 :: st) h := by
  intro ms H locs h1 h2 h3 h4 h5
  obtain ⟨hx, hb, hml, hown, hts, hst, hlocks, hret, hname, htab⟩ := B
  simp only [fx_mt] at hm
  have k := k ms H locs h1 h2 h3 h4 h5
  rw [hp] at k
  obtain ⟨rfl, rfl⟩ := hm
  have g := hst.2.2.2.2.2
  exact va_sld hx hb g.1 (by have := g.2.1; have := hst.2.2.2.2.2.2.2.2.2.2.2.2.1; omega) (Nat.not_le.mpr g.2.1) h3 (fx_vin hj) hdc k
set_option maxHeartbeats 4000000 in
theorem fx_s_tlen {mm i len : Nat} {o : Instr} {C0 S0 : Nat} {r : fx_R} {ls st : List Value} {h : fx_H} {a n : Nat} (hn : fx_tlen tx a = some n) (B : fx_Bd b0 ex cy D cl sc tx NB SL TB yy bb nl rr hh p s m args meth c mm) (hdc : decode (bb mm) (pcs mm i) = .ok (o, len)) (hp : pcs mm (i + 1) = pcs mm i + len)
    (hm : fx_mt cl fty TB NB SL yy bb nl rr na hh xn (yy mm).cls ((yy mm).name == "<init>") (rr mm) (pcs mm) i o len (.arraylength)) (k : fx_At b0 ex cy D cl xn pcs p l e R s m args below meth c mm C0 S0 r (i + 1) (ls) (.int (Int32.ofNat n) :: st) h) : fx_At b0 ex cy D cl xn pcs p l e R s m args below meth c mm C0 S0 r i (ls) (.retAddr a :: st) h := by
  intro ms H locs h1 h2 h3 h4 h5
  obtain ⟨hx, hb, hml, hown, hts, hst, hlocks, hret, hname, htab⟩ := B
  simp only [fx_mt] at hm
  have k := k ms H locs h1 h2 h3 h4 h5
  rw [hp] at k
  obtain ⟨rfl, rfl⟩ := hm
  unfold fx_tlen at hn
  split at hn
  · cases hn
  split at hn
  · cases hn
  split at hn
  · rename_i ha h0 l9 hl9
    cases hn
    have hlt := (List.getElem?_eq_some_iff.mp hl9).1
    have g := (hst.2.1.1 _ hlt).2.2.2
    have e1 : 2 * (a / 2 - 1) + 2 = a := by omega
    have e2 : (tx.map List.length).getD (a / 2 - 1) 0 = l9.length := by simp [hl9]
    rw [e2] at g
    simp only [e1] at g
    exact va_tlen hx hb g h3 rfl hdc k
  · cases hn
set_option maxHeartbeats 4000000 in
theorem fx_s_tald {mm i len : Nat} {o : Instr} {C0 S0 : Nat} {r : fx_R} {ls st : List Value} {h : fx_H} {a : Nat} {j v : Int32} (hn : fx_tget tx a j = some v) (B : fx_Bd b0 ex cy D cl sc tx NB SL TB yy bb nl rr hh p s m args meth c mm) (hdc : decode (bb mm) (pcs mm i) = .ok (o, len)) (hp : pcs mm (i + 1) = pcs mm i + len)
    (hm : fx_mt cl fty TB NB SL yy bb nl rr na hh xn (yy mm).cls ((yy mm).name == "<init>") (rr mm) (pcs mm) i o len (.baload)) (k : fx_At b0 ex cy D cl xn pcs p l e R s m args below meth c mm C0 S0 r (i + 1) (ls) (.int v :: st) h) : fx_At b0 ex cy D cl xn pcs p l e R s m args below meth c mm C0 S0 r i (ls) (.int j :: .retAddr a :: st) h := by
  intro ms H locs h1 h2 h3 h4 h5
  obtain ⟨hx, hb, hml, hown, hts, hst, hlocks, hret, hname, htab⟩ := B
  simp only [fx_mt] at hm
  have k := k ms H locs h1 h2 h3 h4 h5
  rw [hp] at k
  obtain ⟨rfl, rfl⟩ := hm
  unfold fx_tget at hn
  split at hn
  · cases hn
  split at hn
  · cases hn
  split at hn
  · rename_i ha h0 l9 hl9
    split at hn
    · rename_i hj
      have hlt := (List.getElem?_eq_some_iff.mp hl9).1
      have g := (hst.2.1.1 _ hlt).2.2.2
      have e1 : 2 * (a / 2 - 1) + 2 = a := by omega
      have e2 : (tx.map List.length).getD (a / 2 - 1) 0 = l9.length := by simp [hl9]
      rw [e2] at g
      simp only [e1] at g
      exact va_tb hx hb g h3 (fx_vin hj) (by simp [hl9, hn]; rfl) hdc k
    · cases hn
  · cases hn
set_option maxHeartbeats 4000000 in
theorem fx_s_sfld {mm i len : Nat} {o : Instr} {C0 S0 : Nat} {r : fx_R} {ls st : List Value} {h : fx_H} {x a : Nat} (ha : a % 2 = 1) (hlt : a / 2 < tx.length) (B : fx_Bd b0 ex cy D cl sc tx NB SL TB yy bb nl rr hh p s m args meth c mm) (hdc : decode (bb mm) (pcs mm i) = .ok (o, len)) (hp : pcs mm (i + 1) = pcs mm i + len)
    (hm : fx_mt cl fty TB NB SL yy bb nl rr na hh xn (yy mm).cls ((yy mm).name == "<init>") (rr mm) (pcs mm) i o len (.checkcast x)) (k0 : x = 0 → fx_At b0 ex cy D cl xn pcs p l e R s m args below meth c mm C0 S0 r (i + 1) ls (.retAddr (a + 1) :: st) h) (k1 : x ≠ 0 → fx_At b0 ex cy D cl xn pcs p l e R s m args below meth c mm C0 S0 r (i + 1) ls (.int 0 :: st) h) : fx_At b0 ex cy D cl xn pcs p l e R s m args below meth c mm C0 S0 r i (ls) (.retAddr a :: st) h := by
  intro ms H locs h1 h2 h3 h4 h5
  obtain ⟨hx, hb, hml, hown, hts, hst, hlocks, hret, hname, htab⟩ := B
  simp only [fx_mt] at hm
  obtain ⟨y, rfl, rfl, hq⟩ := hm
  have g := hst.2.1.1 _ hlt
  have e1 : 2 * (a / 2) + 1 = a := by omega
  have e2 : 2 * (a / 2) + 2 = a + 1 := by omega
  simp only [e1, e2] at g
  rcases hq with ⟨rfl, hv⟩ | ⟨hx0, hv⟩
  · have k := k0 rfl ms H locs h1 h2 h3 h4 h5
    rw [hp] at k
    exact vk_getf hx hb g.2.2.1 h3 hown (hts _ hv) (fun _ q => q) hdc k
  · have k := k1 hx0 ms H locs h1 h2 h3 h4 h5
    rw [hp] at k
    exact vk_getf hx hb g.2.1 h3 hown (hts _ hv) (fun _ q => q) hdc k
set_option maxHeartbeats 4000000 in
theorem fx_s_new {mm i len : Nat} {o : Instr} {C0 S0 : Nat} {r : fx_R} {ls st : List Value} {h : fx_H} {x : Nat} (he : h.1 = h.2.1) (hle : fx_le (h.1 + 1, h.2.1 + 1, h.2.2.1 + (df x).length, va_up h.2.2.2 h.1 (.inr (x, df x))) r.2) (hR1 : R.cells = r.2.2.1 - C0) (hR2 : R.slots = r.2.2.2.1 - S0) (B : fx_Bd b0 ex cy D cl sc tx NB SL TB yy bb nl rr hh p s m args meth c mm) (HA : fx_All cl fty TB NB df) (hdc : decode (bb mm) (pcs mm i) = .ok (o, len)) (hp : pcs mm (i + 1) = pcs mm i + len)
    (hm : fx_mt cl fty TB NB SL yy bb nl rr na hh xn (yy mm).cls ((yy mm).name == "<init>") (rr mm) (pcs mm) i o len (.new x)) (k : fx_At b0 ex cy D cl xn pcs p l e R s m args below meth c mm C0 S0 r (i + 1) (ls) (.ref h.1 :: st) (h.1 + 1, h.2.1 + 1, h.2.2.1 + (df x).length, va_up h.2.2.2 h.1 (.inr (x, df x)))) : fx_At b0 ex cy D cl xn pcs p l e R s m args below meth c mm C0 S0 r i (ls) (st) h := by
  intro ms H locs h1 h2 h3 h4 h5
  obtain ⟨hx, hb, hml, hown, hts, hst, hlocks, hret, hname, htab⟩ := B
  simp only [fx_mt] at hm
  obtain ⟨y, ⟨C, T, N⟩, rfl, rfl, hcl, hlk, hins, hini⟩ := hm
  obtain ⟨h99, hin, htyp, hnm, hlen, hdf⟩ := HA.2.2.1 _ _ hcl
  have g1 : h.2.1 + 1 ≤ r.2.2.1 := hle.1
  have g2 : h.2.2.1 + (df x).length ≤ r.2.2.2.1 := hle.2
  have hlen : (df x).length = N := hlen
  rw [hlen] at g2
  refine fx_new hx hb hts hin (fty x) htyp hown (hts _ hlk) (hts _ hins) (hts _ hini) hst.1 h2 h3 he hcl (hdf b0 ex) (by rw [hR1]; omega) (by rw [hR2]; omega) hdc (w := h.2.2.1 + (df x).length) (fun H1 q1 q2 => ?_)
  have k := k ms H1 locs h1 q1 q2 (by show C0 ≤ h.2.1 + 1; omega) (by show S0 ≤ h.2.2.1 + (df x).length; omega)
  rw [hp] at k
  refine W.cs (cells' := h.2.1 + 1 - C0) (slots' := h.2.2.1 + (df x).length - S0) (by omega) (by omega) ?_
  exact k
set_option maxHeartbeats 4000000 in
theorem fx_s_newa {mm i len : Nat} {o : Instr} {C0 S0 : Nat} {r : fx_R} {ls st : List Value} {h : fx_H} {t : ArrayType} {n : Int32} (hn : ¬ n < 0) (hN : ¬ 100000 < n.toNatClampNeg) (he : h.1 = h.2.1) (hle : fx_le (h.1 + 1, h.2.1 + 1, h.2.2.1 + n.toNatClampNeg, va_up h.2.2.2 h.1 (.inl (fx_tagA t, n.toNatClampNeg, fx_zero (fx_tagA t)))) r.2) (hR1 : R.cells = r.2.2.1 - C0) (hR2 : R.slots = r.2.2.2.1 - S0) (B : fx_Bd b0 ex cy D cl sc tx NB SL TB yy bb nl rr hh p s m args meth c mm) (hdc : decode (bb mm) (pcs mm i) = .ok (o, len)) (hp : pcs mm (i + 1) = pcs mm i + len)
    (hm : fx_mt cl fty TB NB SL yy bb nl rr na hh xn (yy mm).cls ((yy mm).name == "<init>") (rr mm) (pcs mm) i o len (.newarray t)) (k : fx_At b0 ex cy D cl xn pcs p l e R s m args below meth c mm C0 S0 r (i + 1) (ls) (.ref h.1 :: st) (h.1 + 1, h.2.1 + 1, h.2.2.1 + n.toNatClampNeg, va_up h.2.2.2 h.1 (.inl (fx_tagA t, n.toNatClampNeg, fx_zero (fx_tagA t))))) : fx_At b0 ex cy D cl xn pcs p l e R s m args below meth c mm C0 S0 r i (ls) (.int n :: st) h := by
  intro ms H locs h1 h2 h3 h4 h5
  obtain ⟨hx, hb, hml, hown, hts, hst, hlocks, hret, hname, htab⟩ := B
  simp only [fx_mt] at hm
  obtain ⟨rfl, rfl, htag, harr⟩ := hm
  have g1 : h.2.1 + 1 ≤ r.2.2.1 := hle.1
  have g2 : h.2.2.1 + n.toNatClampNeg ≤ r.2.2.2.1 := hle.2
  refine fx_newa hx hb htag (hts _ harr) hst.1 h2 h3 he hn (Nat.le_of_not_lt hN) (by rw [hR1]; omega) (by rw [hR2]; omega) hdc (w := h.2.2.1 + n.toNatClampNeg) (fun H1 q1 q2 => ?_)
  have k := k ms H1 locs h1 q1 q2 (by show C0 ≤ h.2.1 + 1; omega) (by show S0 ≤ h.2.2.1 + n.toNatClampNeg; omega)
  rw [hp] at k
  refine W.cs (cells' := h.2.1 + 1 - C0) (slots' := h.2.2.1 + n.toNatClampNeg - S0) (by omega) (by omega) ?_
  exact k
set_option maxHeartbeats 4000000 in
theorem fx_s_newq {mm i len : Nat} {o : Instr} {C0 S0 : Nat} {r : fx_R} {ls st : List Value} {h : fx_H} {t : Nat} {n : Int32} (hn : ¬ n < 0) (hN : ¬ 100000 < n.toNatClampNeg) (he : h.1 = h.2.1) (hle : fx_le (h.1 + 1, h.2.1 + 1, h.2.2.1 + n.toNatClampNeg, va_up h.2.2.2 h.1 (.inl (t, n.toNatClampNeg, .inr (.inr (.inr (.inr (fun _ => none))))))) r.2) (hR1 : R.cells = r.2.2.1 - C0) (hR2 : R.slots = r.2.2.2.1 - S0) (B : fx_Bd b0 ex cy D cl sc tx NB SL TB yy bb nl rr hh p s m args meth c mm) (hdc : decode (bb mm) (pcs mm i) = .ok (o, len)) (hp : pcs mm (i + 1) = pcs mm i + len)
    (hm : fx_mt cl fty TB NB SL yy bb nl rr na hh xn (yy mm).cls ((yy mm).name == "<init>") (rr mm) (pcs mm) i o len (.anewarray t)) (k : fx_At b0 ex cy D cl xn pcs p l e R s m args below meth c mm C0 S0 r (i + 1) (ls) (.ref h.1 :: st) (h.1 + 1, h.2.1 + 1, h.2.2.1 + n.toNatClampNeg, va_up h.2.2.2 h.1 (.inl (t, n.toNatClampNeg, .inr (.inr (.inr (.inr (fun _ => none)))))))) : fx_At b0 ex cy D cl xn pcs p l e R s m args below meth c mm C0 S0 r i (ls) (.int n :: st) h := by
  intro ms H locs h1 h2 h3 h4 h5
  obtain ⟨hx, hb, hml, hown, hts, hst, hlocks, hret, hname, htab⟩ := B
  simp only [fx_mt] at hm
  obtain ⟨y, rfl, rfl, ht, hlk⟩ := hm
  have g1 : h.2.1 + 1 ≤ r.2.2.1 := hle.1
  have g2 : h.2.2.1 + n.toNatClampNeg ≤ r.2.2.2.1 := hle.2
  refine fx_newq hx hb ht rfl hown (hts _ hlk) (by rcases ht with rfl | rfl; exact hst.2.2.2.2.2.2.2.2.2.2.1; exact hst.2.2.2.2.2.2.2.2.2.2.2.1) hst.1 h2 h3 he hn (Nat.le_of_not_lt hN) (by rw [hR1]; omega) (by rw [hR2]; omega) hdc (w := h.2.2.1 + n.toNatClampNeg) (fun H1 q1 q2 => ?_)
  have k := k ms H1 locs h1 q1 q2 (by show C0 ≤ h.2.1 + 1; omega) (by show S0 ≤ h.2.2.1 + n.toNatClampNeg; omega)
  rw [hp] at k
  refine W.cs (cells' := h.2.1 + 1 - C0) (slots' := h.2.2.1 + n.toNatClampNeg - S0) (by omega) (by omega) ?_
  exact k
set_option maxHeartbeats 4000000 in
theorem fx_s_oinit {mm i len : Nat} {o : Instr} {C0 S0 : Nat} {r : fx_R} {ls st : List Value} {h : fx_H} {x a : Nat} (hlow : fx_low st = true) (hnl : ls.length = nl mm) (hf : 1 ≤ R.frames) (hlo : 20 ≤ R.locals) (B : fx_Bd b0 ex cy D cl sc tx NB SL TB yy bb nl rr hh p s m args meth c mm) (HA : fx_All cl fty TB NB df) (hdc : decode (bb mm) (pcs mm i) = .ok (o, len)) (hp : pcs mm (i + 1) = pcs mm i + len)
    (hm : fx_mt cl fty TB NB SL yy bb nl rr na hh xn (yy mm).cls ((yy mm).name == "<init>") (rr mm) (pcs mm) i o len (.invokespecial x)) (k : fx_At b0 ex cy D cl xn pcs p l e R s m args below meth c mm C0 S0 r (i + 1) (ls) (st) h) : fx_At b0 ex cy D cl xn pcs p l e R s m args below meth c mm C0 S0 r i (ls) (.ref a :: st) h := by
  intro ms H locs h1 h2 h3 h4 h5
  obtain ⟨hx, hb, hml, hown, hts, hst, hlocks, hret, hname, htab⟩ := B
  simp only [fx_mt] at hm
  have k := k ms H locs h1 h2 h3 h4 h5
  rw [hp] at k
  obtain ⟨y, rfl, rfl, hlk⟩ := hm
  have hl9 : (st.map (fun v => v.category)).sum ≤ 8 := of_decide_eq_true hlow
  have hl8 : ((st.map (fx_tr b0 ex)).map (fun v => v.category)).sum ≤ 8 := by rw [List.map_map, show (fun v : Value => v.category) ∘ (fx_tr b0 ex) = (fun v => v.category) from funext (fun v => fx_tr_cat v)]; exact hl9
  exact W.objInit hx hb hown (hts _ hlk) (hts _ HA.2.2.2.2.1) (hts _ HA.2.2.2.2.2) rfl (by rw [hml, ← hnl]; exact h1.1) rfl hdc hf (by show 2 * 0 + _ + 12 ≤ _; omega) k
set_option maxHeartbeats 4000000 in
theorem fx_s_math {mm i len : Nat} {o : Instr} {C0 S0 : Nat} {r : fx_R} {ls st : List Value} {h : fx_H} {n : Nat} {x y : Int32} (hlow : fx_low st = true) (hnl : ls.length = nl mm) (hf : 1 ≤ R.frames) (hlo : 40 ≤ R.locals) (hc1 : h.2.1 - C0 ≤ R.cells) (hc2 : h.2.2.1 - S0 ≤ R.slots) (B : fx_Bd b0 ex cy D cl sc tx NB SL TB yy bb nl rr hh p s m args meth c mm) (hdc : decode (bb mm) (pcs mm i) = .ok (o, len)) (hp : pcs mm (i + 1) = pcs mm i + len)
    (hm : fx_mt cl fty TB NB SL yy bb nl rr na hh xn (yy mm).cls ((yy mm).name == "<init>") (rr mm) (pcs mm) i o len (.invokedynamic n)) (k : fx_At b0 ex cy D cl xn pcs p l e R s m args below meth c mm C0 S0 r (i + 1) (ls) (.int (if n = 0 then (if x < y then y else x) else (if y < x then y else x)) :: st) h) : fx_At b0 ex cy D cl xn pcs p l e R s m args below meth c mm C0 S0 r i (ls) (.int y :: .int x :: st) h := by
  intro ms H locs h1 h2 h3 h4 h5
  obtain ⟨hx, hb, hml, hown, hts, hst, hlocks, hret, hname, htab⟩ := B
  simp only [fx_mt] at hm
  have k := k ms H locs h1 h2 h3 h4 h5
  rw [hp] at k
  obtain ⟨z, rfl, rfl, hini, hq⟩ := hm
  have hl9 : (st.map (fun v => v.category)).sum ≤ 8 := of_decide_eq_true hlow
  have hl8 : ((st.map (fx_tr b0 ex)).map (fun v => v.category)).sum ≤ 8 := by rw [List.map_map, show (fun v : Value => v.category) ∘ (fx_tr b0 ex) = (fun v => v.category) from funext (fun v => fx_tr_cat v)]; exact hl9
  rcases hq with ⟨hn, q1, q2, q3⟩ | ⟨hn, q1, q2, q3⟩
  · rw [if_pos hn] at k
    exact va_mmax hx hb (by rw [hml, ← hnl]; exact h1.1.symm) hown (hts _ q1) (hts _ q2) (hts _ hini) (hts _ q3) hf (by omega) hc1 hc2 hdc k
  · rw [if_neg hn] at k
    exact va_mmin hx hb (by rw [hml, ← hnl]; exact h1.1.symm) hown (hts _ q1) (hts _ q2) (hts _ hini) (hts _ q3) hf (by omega) hc1 hc2 hdc k
set_option maxHeartbeats 4000000 in
theorem fx_s_iret {mm i len : Nat} {o : Instr} {C0 S0 : Nat} {r : fx_R} {ls st : List Value} {h : fx_H} {v : Int32} (hr : r = (.inl (some (.int v)), h)) (B : fx_Bd b0 ex cy D cl sc tx NB SL TB yy bb nl rr hh p s m args meth c mm) (hdc : decode (bb mm) (pcs mm i) = .ok (o, len)) (hp : pcs mm (i + 1) = pcs mm i + len)
    (hm : fx_mt cl fty TB NB SL yy bb nl rr na hh xn (yy mm).cls ((yy mm).name == "<init>") (rr mm) (pcs mm) i o len (.ireturn))  : fx_At b0 ex cy D cl xn pcs p l e R s m args below meth c mm C0 S0 r i (ls) ([.int v]) h := by
  intro ms H locs h1 h2 h3 h4 h5
  obtain ⟨hx, hb, hml, hown, hts, hst, hlocks, hret, hname, htab⟩ := B
  simp only [fx_mt] at hm
  subst hr
  obtain ⟨rfl, rfl, hrt⟩ := hm
  exact vx_ret (W.iret hx hb (hret.trans hrt) (fun t ht hw => ⟨⟨_, rfl, rfl⟩, by rw [ht]; exact h2, h3.F ht⟩) h3.2.2 hdc hlocks)
set_option maxHeartbeats 4000000 in
theorem fx_s_zret {mm i len : Nat} {o : Instr} {C0 S0 : Nat} {r : fx_R} {ls st : List Value} {h : fx_H} {v : Int32} (hv : v = 0 ∨ v = 1) (hr : r = (.inl (some (.int v)), h)) (B : fx_Bd b0 ex cy D cl sc tx NB SL TB yy bb nl rr hh p s m args meth c mm) (hdc : decode (bb mm) (pcs mm i) = .ok (o, len)) (hp : pcs mm (i + 1) = pcs mm i + len)
    (hm : fx_mt cl fty TB NB SL yy bb nl rr na hh xn (yy mm).cls ((yy mm).name == "<init>") (rr mm) (pcs mm) i o len (.freturn))  : fx_At b0 ex cy D cl xn pcs p l e R s m args below meth c mm C0 S0 r i (ls) ([.int v]) h := by
  intro ms H locs h1 h2 h3 h4 h5
  obtain ⟨hx, hb, hml, hown, hts, hst, hlocks, hret, hname, htab⟩ := B
  simp only [fx_mt] at hm
  subst hr
  obtain ⟨rfl, rfl, hrt⟩ := hm
  rcases hrt with hrt | hrt
  · exact vx_ret (W.zret hx hb (hret.trans hrt) (by rcases hv with rfl | rfl <;> rfl) (fun t ht hw => ⟨⟨_, rfl, rfl⟩, by rw [ht]; exact h2, h3.F ht⟩) h3.2.2 hdc hlocks)
  · exact vx_ret (W.zret hx hb (hret.trans hrt) (by rcases hv with rfl | rfl <;> rfl) (fun t ht hw => ⟨⟨_, rfl, rfl⟩, by rw [ht]; exact h2, h3.F ht⟩) h3.2.2 hdc hlocks)
set_option maxHeartbeats 4000000 in
theorem fx_s_cret {mm i len : Nat} {o : Instr} {C0 S0 : Nat} {r : fx_R} {ls st : List Value} {h : fx_H} {v : Int32} (hv : narrow .char (.int v) = .int v) (hr : r = (.inl (some (.int v)), h)) (B : fx_Bd b0 ex cy D cl sc tx NB SL TB yy bb nl rr hh p s m args meth c mm) (hdc : decode (bb mm) (pcs mm i) = .ok (o, len)) (hp : pcs mm (i + 1) = pcs mm i + len)
    (hm : fx_mt cl fty TB NB SL yy bb nl rr na hh xn (yy mm).cls ((yy mm).name == "<init>") (rr mm) (pcs mm) i o len (.dreturn))  : fx_At b0 ex cy D cl xn pcs p l e R s m args below meth c mm C0 S0 r i (ls) ([.int v]) h := by
  intro ms H locs h1 h2 h3 h4 h5
  obtain ⟨hx, hb, hml, hown, hts, hst, hlocks, hret, hname, htab⟩ := B
  simp only [fx_mt] at hm
  subst hr
  obtain ⟨rfl, rfl, hrt⟩ := hm
  exact vx_ret (W.zret hx hb (hret.trans hrt) hv (fun t ht hw => ⟨⟨_, rfl, rfl⟩, by rw [ht]; exact h2, h3.F ht⟩) h3.2.2 hdc hlocks)
set_option maxHeartbeats 4000000 in
theorem fx_s_lret {mm i len : Nat} {o : Instr} {C0 S0 : Nat} {r : fx_R} {ls st : List Value} {h : fx_H} {v : Int64} (hr : r = (.inl (some (.long v)), h)) (B : fx_Bd b0 ex cy D cl sc tx NB SL TB yy bb nl rr hh p s m args meth c mm) (hdc : decode (bb mm) (pcs mm i) = .ok (o, len)) (hp : pcs mm (i + 1) = pcs mm i + len)
    (hm : fx_mt cl fty TB NB SL yy bb nl rr na hh xn (yy mm).cls ((yy mm).name == "<init>") (rr mm) (pcs mm) i o len (.lreturn))  : fx_At b0 ex cy D cl xn pcs p l e R s m args below meth c mm C0 S0 r i (ls) ([.long v]) h := by
  intro ms H locs h1 h2 h3 h4 h5
  obtain ⟨hx, hb, hml, hown, hts, hst, hlocks, hret, hname, htab⟩ := B
  simp only [fx_mt] at hm
  subst hr
  obtain ⟨rfl, rfl, hrt⟩ := hm
  exact vx_ret (W.lret hx hb (hret.trans hrt) (fun t ht hw => ⟨⟨_, rfl, rfl⟩, by rw [ht]; exact h2, h3.F ht⟩) h3.2.2 hdc hlocks)
set_option maxHeartbeats 4000000 in
theorem fx_s_vret {mm i len : Nat} {o : Instr} {C0 S0 : Nat} {r : fx_R} {ls st : List Value} {h : fx_H}  (hr : r = (.inl none, h)) (B : fx_Bd b0 ex cy D cl sc tx NB SL TB yy bb nl rr hh p s m args meth c mm) (hdc : decode (bb mm) (pcs mm i) = .ok (o, len)) (hp : pcs mm (i + 1) = pcs mm i + len)
    (hm : fx_mt cl fty TB NB SL yy bb nl rr na hh xn (yy mm).cls ((yy mm).name == "<init>") (rr mm) (pcs mm) i o len (.return_))  : fx_At b0 ex cy D cl xn pcs p l e R s m args below meth c mm C0 S0 r i (ls) ([]) h := by
  intro ms H locs h1 h2 h3 h4 h5
  obtain ⟨hx, hb, hml, hown, hts, hst, hlocks, hret, hname, htab⟩ := B
  simp only [fx_mt] at hm
  subst hr
  obtain ⟨rfl, rfl, hrt⟩ := hm
  exact vx_ret (W.vret hx hb (hret.trans hrt) (fun t ht hw => ⟨⟨_, rfl, rfl⟩, by rw [ht]; exact h2, h3.F ht⟩) h3.2.2 hdc hlocks)
end
