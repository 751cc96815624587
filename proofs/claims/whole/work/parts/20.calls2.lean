section
variable {p : Program} {l : Launch} {e : Env} {R : Room} {s : State} {m : MethodId} {args : Array Value} {below : List Frame} {meth : Method} {c : Code}
variable {b0 : Nat} {ex cy : Nat → Nat} {D : va_G} {cl : List vw_C} {sc : Nat × (Nat → Int32)} {tx : List (List Int32)} {NB : List Cond} {SL : List (String × Nat × String × Nat)}
variable {fty : Nat → Nat → FieldType} {TB : List Cond} {yy : Nat → MethodName} {bb : Nat → ByteArray} {nl : Nat → Nat} {rr : Nat → Option FieldType} {na : Nat → Nat} {hh : Nat → List (Nat × Nat × Nat × Nat)} {xn : Nat → String}
variable {df : Nat → List Value} {cd : Nat → List Instr} {hd : Nat → Nat → Option (Nat × Nat)} {pcs : Nat → Nat → Nat} {nM : Nat}
set_option maxHeartbeats 4000000 in
/-- a text's method is called -/
theorem fx_s_text {mm i x len : Nat} {o : Instr} {C0 S0 d : Nat} {r r1 : fx_R} {ls st rest : List Value} {h : fx_H} {ms : Array Slot} {H : Heap} {locs : List Loc} {a : Nat} {mc9 ms9 : Nat}
    (B : fx_Bd b0 ex cy D cl sc tx NB SL TB yy bb nl rr hh p s m args meth c mm) (HA : fx_All cl fty TB NB df) (hnl : ls.length = nl mm) (hdc : decode (bb mm) (pcs mm i) = .ok (o, len))
    (hm : fx_mt cl fty TB NB SL yy bb nl rr na hh xn (yy mm).cls ((yy mm).name == "<init>") (rr mm) (pcs mm) i o len (.invokevirtual x)) (hR : R = fx_rm (d + 1) mc9 ms9)
    (h1 : fx_LR b0 ex ms ls) (h2 : fx_Dy b0 ex cy D cl h H) (h3 : va_S (fun q => b0 ≤ q) s.heap H locs) (hst0 : st.drop (x % 16) = .retAddr a :: rest) (ha : a % 2 = 1) (hlt : a / 2 < tx.length) (hlow : fx_low rest = true)
    (hf : (h.2.1 - C0) + (r1.2.2.1 - h.2.1) ≤ R.cells ∧ (h.2.2.1 - S0) + (r1.2.2.2.1 - h.2.2.1) ≤ R.slots)
    (hK : fx_Kt b0 ex cy D cl sc tx NB SL TB yy bb nl rr hh xn l d (x / 16) (.retAddr a :: (st.take (x % 16)).reverse) h r1) :
    len = 3 ∧ ∃ a9, vx_Run p l e R s m args below meth c H locs (h.2.1 - C0) (h.2.2.1 - S0) (r1.2.2.1 - h.2.1) (r1.2.2.2.1 - h.2.2.1) (F0 m (pcs mm i) ms (st.map (fx_tr b0 ex))) (rest.map (fx_tr b0 ex)) (fx_Qc b0 ex cy D cl r1 a9) (fx_Xc b0 ex cy D cl xn r1) (fun q => b0 ≤ q) := by
  obtain ⟨hx, hb, hml, hown, hts, hst, hlocks, hret, hname, htab⟩ := B
  obtain ⟨hN, hG, hcl, -⟩ := HA
  simp only [fx_mt] at hm
  obtain ⟨⟨ok1, ok2, ok3, ok4, ok5, ok6, ok7⟩, hna, hstr, hhk, hins, rfl, y, rfl, hlk, hsel⟩ := hm
  refine ⟨rfl, ?_⟩
  obtain ⟨hs1, hs2⟩ := fx_split hst0
  have hstk : (F0 m (pcs mm i) ms (st.map (fx_tr b0 ex))).stack = (((st.take (x % 16)).reverse).map (fx_tr b0 ex)).reverse ++ .ref (ex a) :: rest.map (fx_tr b0 ex) := by
    show st.map (fx_tr b0 ex) = _
    rw [← List.map_reverse, List.reverse_reverse]
    conv => lhs; rw [hs1]
    rw [List.map_append]
    rfl
  have hlen9 : (((st.take (x % 16)).reverse).map (fx_tr b0 ex)).length = na (x / 16) := by rw [List.length_map, List.length_reverse, hs2, hna]
  have hcw : fx_cw yy bb nl rr hh (x / 16) = Cond.code (yy (x / 16)) (bb (x / 16)) (nl (x / 16)) (rr (x / 16)) := by unfold fx_cw; rw [hhk]
  unfold fx_Kt at hK
  rw [hcw] at hK ok6
  have hgd : GoodIn TB (Cond.code (yy (x / 16)) (bb (x / 16)) (nl (x / 16)) (rr (x / 16)) :: TB) := fx_good hG (fun w hw => (List.mem_cons.mp hw).elim (fun q => q ▸ ok6) id)
  have hRR : (fx_rm d (r1.2.2.1 - h.2.1) (r1.2.2.2.1 - h.2.2.1)).frames + 1 ≤ R.frames ∧ 8 + (nl (x / 16) + 11) + (fx_rm d (r1.2.2.1 - h.2.1) (r1.2.2.2.1 - h.2.2.1)).locals ≤ R.locals := by
    subst hR
    exact ⟨by show d + 8 + 1 ≤ d + 1 + 8; omega, by show 8 + (nl (x / 16) + 11) + (60 * d + 400) ≤ 60 * (d + 1) + 400; omega⟩
  have hrecv : ∃ cell : Cell, H[ex a]? = some cell ∧ cell.vm.isStatics = false ∧ s.vm.findClass (yy (x / 16)).cls = some cell.cls := by
    rw [hstr]
    have g := vk_recv hst.2.1 hlt h3
    have e1 : 2 * (a / 2) + 1 = a := by omega
    simp only [e1] at g
    exact g
  exact ⟨_, vx_runV (As := ((st.take (x % 16)).reverse).map (fx_tr b0 ex)) ⟨hx, hb, hml, hown, hts⟩ hK ⟨callB_of (na (x / 16)) hts hgd rfl rfl rfl (hts _ ok5) (hts _ hlk) ⟨ok1, ok2, ok3⟩ hRR, hts _ hins, hts _ hsel⟩ ⟨fx_blind hN, hrecv, fx_pre hN (as := .retAddr a :: (st.take (x % 16)).reverse) hst h2 h3⟩ rfl hlen9 (h1.1.trans hnl) hstk (lv_room (fx_low_tr hlow)) hdc hf⟩
set_option maxHeartbeats 4000000 in
/-- a static method is called -/
theorem fx_s_stat {mm i k n len : Nat} {o : Instr} {C0 S0 d : Nat} {r r1 : fx_R} {ls st : List Value} {h : fx_H} {ms : Array Slot} {H : Heap} {locs : List Loc} {mc9 ms9 : Nat}
    (B : fx_Bd b0 ex cy D cl sc tx NB SL TB yy bb nl rr hh p s m args meth c mm) (HA : fx_All cl fty TB NB df) (hnl : ls.length = nl mm) (hdc : decode (bb mm) (pcs mm i) = .ok (o, len))
    (hm : fx_mt cl fty TB NB SL yy bb nl rr na hh xn (yy mm).cls ((yy mm).name == "<init>") (rr mm) (pcs mm) i o len (.multianewarray k n)) (hR : R = fx_rm (d + 1) mc9 ms9)
    (h1 : fx_LR b0 ex ms ls) (h2 : fx_Dy b0 ex cy D cl h H) (h3 : va_S (fun q => b0 ≤ q) s.heap H locs) (hst0 : n / 2 ≤ st.length) (hlow : fx_low (st.drop (n / 2)) = true) (hv : n % 2 = 1 → ∃ v, r1.1 = .inl v)
    (hf : (h.2.1 - C0) + (r1.2.2.1 - h.2.1) ≤ R.cells ∧ (h.2.2.1 - S0) + (r1.2.2.2.1 - h.2.2.1) ≤ R.slots)
    (hK : fx_Kt b0 ex cy D cl sc tx NB SL TB yy bb nl rr hh xn l d k ((st.take (n / 2)).reverse) h r1) :
    len = 3 ∧ ∃ a9, vx_Run p l e R s m args below meth c H locs (h.2.1 - C0) (h.2.2.1 - S0) (r1.2.2.1 - h.2.1) (r1.2.2.2.1 - h.2.2.1) (F0 m (pcs mm i) ms (st.map (fx_tr b0 ex))) ((st.drop (n / 2)).map (fx_tr b0 ex)) (fx_Qc b0 ex cy D cl r1 a9) (fx_Xc b0 ex cy D cl xn r1) (fun q => b0 ≤ q) := by
  obtain ⟨hx, hb, hml, hown, hts, hst, hlocks, hret, hname, htab⟩ := B
  obtain ⟨hN, hG, hcl, -⟩ := HA
  simp only [fx_mt] at hm
  obtain ⟨⟨ok1, ok2, ok3, ok4, ok5, ok6, ok7⟩, hna, hstt, rfl, y, rfl, hm⟩ := hm
  refine ⟨rfl, ?_⟩
  have hstk : (F0 m (pcs mm i) ms (st.map (fx_tr b0 ex))).stack = (((st.take (n / 2)).reverse).map (fx_tr b0 ex)).reverse ++ (st.drop (n / 2)).map (fx_tr b0 ex) := by
    show st.map (fx_tr b0 ex) = _
    rw [← List.map_reverse, List.reverse_reverse, ← List.map_append, List.take_append_drop]
  have hlen9 : (((st.take (n / 2)).reverse).map (fx_tr b0 ex)).length = na k := by rw [List.length_map, List.length_reverse, List.length_take, hna]; omega
  have hRR : (fx_rm d (r1.2.2.1 - h.2.1) (r1.2.2.2.1 - h.2.2.1)).frames + 1 ≤ R.frames ∧ 8 + (nl k + 11) + (fx_rm d (r1.2.2.1 - h.2.1) (r1.2.2.2.1 - h.2.2.1)).locals ≤ R.locals := by
    subst hR
    exact ⟨by show d + 8 + 1 ≤ d + 1 + 8; omega, by show 8 + (nl k + 11) + (60 * d + 400) ≤ 60 * (d + 1) + 400; omega⟩
  unfold fx_Kt at hK
  rcases hm with ⟨hlk, ⟨hhk, hz⟩ | ⟨hhk, hz⟩⟩ | ⟨hhk, hz, z, hlk⟩
  · have hcw : fx_cw yy bb nl rr hh k = Cond.code (yy k) (bb k) (nl k) (rr k) := by unfold fx_cw; rw [hhk]
    rw [hcw] at hK ok6
    have hgd : GoodIn TB (Cond.code (yy k) (bb k) (nl k) (rr k) :: TB) := fx_good hG (fun w hw => (List.mem_cons.mp hw).elim (fun q => q ▸ ok6) id)
    exact ⟨_, vx_runS (As := ((st.take (n / 2)).reverse).map (fx_tr b0 ex)) ⟨hx, hb, hml, hown, hts⟩ hK ⟨callB_of (na k) hts hgd rfl rfl rfl (hts _ ok5) (hts _ hlk) ⟨ok1, ok2, ok3⟩ hRR, hts _ hstt⟩ ⟨fx_blind hN, fx_pre hN hst h2 h3⟩ rfl hlen9 (h1.1.trans hnl) hstk (lv_room (fx_low_tr hlow)) hdc hf⟩
  · obtain ⟨v, hv⟩ := hv hz
    obtain ⟨x9, t9, hx9⟩ : ∃ x9 t9, hh k = x9 :: t9 := by cases hq : hh k with
      | nil => exact absurd hq hhk
      | cons x9 t9 => exact ⟨x9, t9, rfl⟩
    have hcw : fx_cw yy bb nl rr hh k = Cond.codeWith (yy k) (bb k) (nl k) (rr k) (x9 :: t9) := by unfold fx_cw; rw [hx9]
    rw [hcw] at hK ok6
    have hgd : GoodIn TB (va_wsS (yy mm).cls y (yy k) (Cond.codeWith (yy k) (bb k) (nl k) (rr k) (x9 :: t9) :: TB)) := fx_good hG (fun w hw => by
      unfold va_wsS at hw
      rcases List.mem_append.mp hw with q | q
      · simp only [List.mem_cons, List.not_mem_nil, or_false] at q
        rcases q with rfl | rfl | rfl
        · exact hlk
        · exact hstt
        · exact ok5
      · exact (List.mem_cons.mp q).elim (fun q => q ▸ ok6) id)
    exact ⟨_, fx_toX (C := True) (vx_runSW (As := ((st.take (n / 2)).reverse).map (fx_tr b0 ex)) ⟨hx, hb, hml, hown, hts⟩ (fx_met hv hK) (vx_cwSW (na k) hts hgd rfl rfl rfl ⟨ok1, ok2, ok3⟩ hRR) ⟨fx_blind hN, fx_pre hN hst h2 h3⟩ rfl hlen9 (h1.1.trans hnl) hstk (lv_room (fx_low_tr hlow)) hdc hf)⟩
  · obtain ⟨v, hv⟩ := hv hz
    have hcw : fx_cw yy bb nl rr hh k = Cond.code (yy k) (bb k) (nl k) (rr k) := by unfold fx_cw; rw [hhk]
    rw [hcw] at hK ok6
    have hgd : GoodIn TB (Cond.code (yy k) (bb k) (nl k) (rr k) :: TB) := fx_good hG (fun w hw => (List.mem_cons.mp hw).elim (fun q => q ▸ ok6) id)
    exact ⟨_, fx_toX (C := True) (va_runSN (host := z) (As := ((st.take (n / 2)).reverse).map (fx_tr b0 ex)) ⟨hx, hb, hml, hown, hts⟩ (fx_met hv hK) ⟨va_cnB (na k) hts hgd rfl rfl rfl (hst.2.2.2.2.2.2.2.2.1 _ hlk) (hts _ ok5) ⟨ok1, ok2, ok3⟩ hRR, hts _ hstt, trivial⟩ ⟨fx_blind hN, fx_pre hN hst h2 h3⟩ rfl hlen9 (h1.1.trans hnl) hstk (lv_room (fx_low_tr hlow)) hdc hf)⟩
set_option maxHeartbeats 4000000 in
/-- a thing is thrown -/
theorem fx_s_throw {mm i len : Nat} {t : Int} {o : Instr} {C0 S0 d : Nat} {r : fx_R} {ls st : List Value} {h : fx_H} {mc9 ms9 : Nat} (hl : l.stackTraces = false)
    (B : fx_Bd b0 ex cy D cl sc tx NB SL TB yy bb nl rr hh p s m args meth c mm) (HA : fx_All cl fty TB NB df) (hnl : ls.length = nl mm) (hdc : decode (bb mm) (pcs mm i) = .ok (o, len))
    (hm : fx_mt cl fty TB NB SL yy bb nl rr na hh xn (yy mm).cls ((yy mm).name == "<init>") (rr mm) (pcs mm) i o len (.jsr t)) (hj : ∀ y, o = .new y → fx_jt TB NB SL (yy mm).cls (bb mm) (pcs mm i) y (xn t.toNat) ∧ hh mm = [])
    (hR : R = fx_rm (d + 1) mc9 ms9) (hR1 : R.cells = r.2.2.1 - C0) (hR2 : R.slots = r.2.2.2.1 - S0) (hlow : fx_low st = true) (hr : r = (.inr t.toNat, (h.1, h.2.1 + 1, h.2.2.1 + 6, h.2.2.2))) :
    fx_At b0 ex cy D cl xn pcs p l e R s m args below meth c mm C0 S0 r i ls st h := by
  intro ms H locs h1 h2 h3 h4 h5
  obtain ⟨hx, hb, hml, hown, hts, hst, hlocks, hret, hname, htab⟩ := B
  simp only [fx_mt] at hm
  obtain ⟨y, rfl, rfl, hlk, hini⟩ := hm
  obtain ⟨⟨is, ic, j, tt, names, d3, d4, d7, d10, hSL, hfit, hfits, hnames, hway⟩, hh0⟩ := hj y rfl
  subst hr
  have hle9 := fx_low_tr (b0 := b0) (ex := ex) hlow
  have hRl : R.locals = 60 * (d + 1) + 400 := by rw [hR]; rfl
  have hRf : R.frames = d + 1 + 8 := by rw [hR]; rfl
  have htb : ∀ w, w ∈ TB ∨ w ∈ NB → w.before args s = true := by
    intro w q
    rcases q with q | q
    · exact hts _ q
    · have hwt : w.onTables = true := by
        have := HA.1 w q
        cases w <;> first | rfl | (simp [fx_nw] at this)
      exact va_Nw.use hwt (hst.2.2.2.2.2.2.2.2.1 _ q)
  have hout : ∀ x ∈ c.exceptionTable.toList, covers x (pcs mm i + 10) = false := by
    intro x hx9
    rw [htab, hh0] at hx9
    cases hx9
  have hfin : ∀ t9 : State, s.vm.Alike t9.vm → H.size ≤ t9.heap.size → (∀ q : Nat, q < H.size → t9.heap[q]? = H[q]?) → fx_Xc b0 ex cy D cl xn (.inr t.toNat, (h.1, h.2.1 + 1, h.2.2.1 + 6, h.2.2.2)) (xn t.toNat) s t9 := fun t9 _ hz hk => ⟨⟨_, rfl, rfl⟩, h2.more hz hk, Nat.le_trans h3.1 hz, fun q q1 q2 => (hk q (Nat.lt_of_lt_of_le q1 h3.1)).trans (h3.2.1 q q1 q2)⟩
  rcases hway with ⟨hat, hot⟩ | ⟨Y, idx, bytes, hY, g0, g1, g2, g5, hat, hot⟩
  · exact vx_throwSW (A := fun q => b0 ≤ q) hx hb hl hown hfit hfits (hts _ hlk) (hts _ hini) (hst.2.2.1 _ hSL) (fun w hw => htb w (hat w hw)) hot hst.2.2.2.1 hst.2.2.2.2.1 h3 (h1.1.trans (hnl.trans hml.symm)) hdc d3 d4 d7 d10 hout (by omega) (by omega) (by rw [hR1]; show h.2.1 - C0 + 1 ≤ h.2.1 + 1 - C0; omega) (by rw [hR2]; show h.2.2.1 - S0 + 6 ≤ h.2.2.1 + 6 - S0; omega) hlocks hfin h3.2.2 (by show h.2.1 - C0 + 1 ≤ h.2.1 + 1 - C0; omega) (by show h.2.2.1 - S0 + 6 ≤ h.2.2.1 + 6 - S0; omega)
  · exact fx_throwX (A := fun q => b0 ≤ q) hx hb hl hown hfit hY g0 g1 g2 g5 hfits (hts _ hlk) (hts _ hini) (hst.2.2.1 _ hSL) (fun w hw => htb w (hat w hw)) hot hst.2.2.2.1 hst.2.2.2.2.1 h3 (h1.1.trans (hnl.trans hml.symm)) hdc d3 d4 d7 d10 hout (by omega) (by omega) (by rw [hR1]; show h.2.1 - C0 + 1 ≤ h.2.1 + 1 - C0; omega) (by rw [hR2]; show h.2.2.1 - S0 + 6 ≤ h.2.2.1 + 6 - S0; omega) hlocks hfin h3.2.2 (by show h.2.1 - C0 + 1 ≤ h.2.1 + 1 - C0; omega) (by show h.2.2.1 - S0 + 6 ≤ h.2.2.1 + 6 - S0; omega)
end
