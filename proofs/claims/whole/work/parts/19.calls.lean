section
variable {p : Program} {l : Launch} {e : Env} {R : Room} {s : State} {m : MethodId} {args : Array Value} {below : List Frame} {meth : Method} {c : Code}
variable {b0 : Nat} {ex cy : Nat → Nat} {D : va_G} {cl : List vw_C} {sc : Nat × (Nat → Int32)} {tx : List (List Int32)} {NB : List Cond} {SL : List (String × Nat × String × Nat)}
variable {fty : Nat → Nat → FieldType} {TB : List Cond} {yy : Nat → MethodName} {bb : Nat → ByteArray} {nl : Nat → Nat} {rr : Nat → Option FieldType} {na : Nat → Nat} {hh : Nat → List (Nat × Nat × Nat × Nat)} {xn : Nat → String}
variable {df : Nat → List Value} {cd : Nat → List Instr} {hd : Nat → Nat → Option (Nat × Nat)} {pcs : Nat → Nat → Nat} {nM : Nat}
/-- the contract of a call whose answer is known -/
def fx_Kt (b0 : Nat) (ex cy : Nat → Nat) (D : va_G) (cl : List vw_C) (sc : Nat × (Nat → Int32)) (tx : List (List Int32)) (NB : List Cond) (SL : List (String × Nat × String × Nat)) (TB : List Cond) (yy : Nat → MethodName) (bb : Nat → ByteArray) (nl : Nat → Nat) (rr : Nat → Option FieldType) (hh : Nat → List (Nat × Nat × Nat × Nat)) (xn : Nat → String) (l : Launch) (d k : Nat) (as : List Value) (h : fx_H) (r : fx_R) : Prop :=
  vx_Met l (yy k) (fx_cw yy bb nl rr hh k :: TB) (fx_rm d (r.2.2.1 - h.2.1) (r.2.2.2.1 - h.2.2.1)) (va_Pc (as.map (fx_tr b0 ex)) (fx_CR b0 ex cy D cl sc tx NB SL h)) (fx_Qc b0 ex cy D cl r) (fx_Xc b0 ex cy D cl xn r) (r.2.2.1 - h.2.1) (r.2.2.2.1 - h.2.2.1) (fun q => b0 ≤ q)
theorem fx_blind (hN : ∀ w ∈ NB, fx_nw w = true) {as : List Value} {h : fx_H} : FrameBlind (va_Pc (as.map (fx_tr b0 ex)) (fx_CR b0 ex cy D cl sc tx NB SL h)) := by
  intro a U g mk q
  exact ⟨q.1, fx_St.warm b0 ex cy D cl sc tx NB SL hN (U := U.calling g mk a) (H1 := (U.calling g mk a).heap) (State.WarmedH.refl U) (Nat.le_refl _) (fun _ _ _ => rfl) q.2.1, q.2.2⟩
theorem fx_pre (hN : ∀ w ∈ NB, fx_nw w = true) {as : List Value} {h : fx_H} {H : Heap} {locs : List Loc} (hst : fx_St b0 ex cy D cl sc tx NB SL s s.heap) (hd : fx_Dy b0 ex cy D cl h H) (hS : va_S (fun q => b0 ≤ q) s.heap H locs) : ∀ U : State, U.heap = H → s.WarmedH U.vm → va_Pc (as.map (fx_tr b0 ex)) (fx_CR b0 ex cy D cl sc tx NB SL h) (as.map (fx_tr b0 ex)).toArray U := by
  intro U hU hW
  exact ⟨rfl, fx_St.warm b0 ex cy D cl sc tx NB SL hN hW (by rw [hU]; exact hS.1) (fun q q1 q2 => by rw [hU]; exact hS.2.1 q q1 q2) hst, by rw [hU]; exact hd⟩
theorem fx_low_tr {st : List Value} (h : fx_low st = true) : ((st.map (fx_tr b0 ex)).map (fun v => v.category)).sum ≤ 8 := by
  rw [List.map_map, show (fun v : Value => v.category) ∘ (fx_tr b0 ex) = (fun v => v.category) from funext (fun v => fx_tr_cat v)]
  exact of_decide_eq_true h
theorem fx_good (hG : ∀ w ∈ TB, goodWord w = true) {ws : List Cond} (h : ∀ w ∈ ws, w ∈ TB) : GoodIn TB ws := fun w hw => ⟨h w hw, good_of_word (hG w (h w hw))⟩
set_option maxHeartbeats 4000000 in
/-- behind a call, whatever it answers -/
theorem fx_s_then {mm i : Nat} {C0 S0 : Nat} {r r1 : fx_R} {ls rest : List Value} {h : fx_H} {jump : fx_J} {go : List Value → fx_H → Option fx_R} {a : Array Value} {ms : Array Slot} {H : Heap} {locs : List Loc} {st0 : List Value}
    (B : fx_Bd b0 ex cy D cl sc tx NB SL TB yy bb nl rr hh p s m args meth c mm) (HA : fx_All cl fty TB NB df) (hnl : ls.length = nl mm) (hp : pcs mm (i + 1) = pcs mm i + 3) (hmk : fx_mOk cl fty TB NB SL yy bb nl rr na hh xn cd hd pcs mm) {ci : Instr} (hci : (cd mm)[i]? = some ci) (hcall : fx_isCall ci = true)
    (h1 : fx_LR b0 ex ms ls) (h3 : va_S (fun q => b0 ≤ q) s.heap H locs) (h4 : C0 ≤ h.2.1) (h5 : S0 ≤ h.2.2.1) (hle : fx_le h r1.2)
    (hrun : vx_Run p l e R s m args below meth c H locs (h.2.1 - C0) (h.2.2.1 - S0) (r1.2.2.1 - h.2.1) (r1.2.2.2.1 - h.2.2.1) (F0 m (pcs mm i) ms st0) (rest.map (fx_tr b0 ex)) (fx_Qc b0 ex cy D cl r1 a) (fx_Xc b0 ex cy D cl xn r1) (fun q => b0 ≤ q))
    (hth : fx_then (hd mm) jump go ls rest (some r1) = some r)
    (kg : ∀ st h2, go st h2 = some r → fx_At b0 ex cy D cl xn pcs p l e R s m args below meth c mm C0 S0 r (i + 1) ls st h2)
    (kj : ∀ t ls2 st h2, ls2.length = nl mm → jump t ls2 st h2 = some r → fx_At b0 ex cy D cl xn pcs p l e R s m args below meth c mm C0 S0 r t ls2 st h2) (kj0 : ∀ t ls2 st h2, (cd mm).drop t = [] → jump t ls2 st h2 = none) :
    W p l e R s m args below meth c H locs (h.2.1 - C0) (h.2.2.1 - S0) (vx_MQ below (fx_Qc b0 ex cy D cl r) (fx_Xc b0 ex cy D cl xn r) args s (r.2.2.1 - C0) (r.2.2.2.1 - S0) (fun q => b0 ≤ q)) (F0 m (pcs mm i) ms st0) := by
  obtain ⟨hx, hb, hml, hown, hts, hst, hlocks, hret, hname, htab⟩ := B
  have e1 : h.2.1 - C0 + (r1.2.2.1 - h.2.1) = r1.2.2.1 - C0 := by have := hle.1; omega
  have e2 : h.2.2.1 - S0 + (r1.2.2.2.1 - h.2.2.1) = r1.2.2.2.1 - S0 := by have := hle.2; omega
  have g1 : C0 ≤ r1.2.2.1 := by have := hle.1; omega
  have g2 : S0 ≤ r1.2.2.2.1 := by have := hle.2; omega
  refine fx_after hrun h3 (fun v hv H1 locs1 q1 q2 => ?_) (fun g hg q ce H1 locs1 q1 q2 q3 q4 q5 => ?_)
  · rw [e1, e2, ← hp]
    obtain ⟨r11, h11⟩ := r1
    cases hv
    cases v with
    | none => exact kg _ _ hth ms H1 locs1 h1 q1 q2 g1 g2
    | some v => exact kg _ _ hth ms H1 locs1 h1 q1 q2 g1 g2
  · rw [e1, e2]
    obtain ⟨r11, h11⟩ := r1
    cases hg
    have hth2 : (match hd mm g with
      | some tg => jump tg.1 (fx_set ls tg.2 fx_U) [] h11
      | none => some (.inr g, h11)) = some r := hth
    cases hq : hd mm g with
    | none =>
      rw [hq] at hth2
      cases hth2
      have hh0 : hh mm = [] := by
        by_cases hz : hh mm = []
        · exact hz
        · exact absurd hq (hmk.2.2.2 hz g)
      refine vx_out (E := xn g) (fun x hx => ?_) hlocks q3 q4 q5 (fun t ht _ => ⟨⟨g, rfl, rfl⟩, by rw [ht]; exact q1, q2.F ht⟩) q2.2.2 (Nat.le_refl _) (Nat.le_refl _)
      rw [htab, hh0] at hx
      cases hx
    | some tg =>
      obtain ⟨tg, lo⟩ := tg
      rw [hq] at hth2
      dsimp only at hth2
      have hh1 : hh mm ≠ [] := fun hz => by rw [hmk.2.2.1 hz g] at hq; cases hq
      obtain ⟨o, len, -, -, -, -, hc6⟩ := hmk.2.1 i ci hci
      rcases hc6 hh1 hcall g tg lo hq with h0 | hT
      · rw [kj0 tg _ _ _ h0] at hth2; cases hth2
      · obtain ⟨pre, x, suf, name, f1, f2, f3, f4, f5, f6, f7, f8⟩ := hT
        refine vx_catch (E := xn g) hown pre x suf (htab.trans f1) (fun z hz => ?_) f3 f4 (hts _ f5) (va_Nw.use rfl (hst.2.2.2.2.2.2.2.2.1 _ f6)) q3 q4 q5 ?_
        · rcases f2 z hz with w | ⟨w1, w2, w3⟩
          · exact Or.inl w
          · exact Or.inr ⟨w1, _, hts _ w2, by rw [w3]; exact hst.2.2.2.2.2.2.2.2.2.1⟩
        · rcases f8 with ⟨w1, w2⟩ | ⟨kk, w1, w2, w3⟩
          · refine lv_astore hx hb w1 h1.has (by rw [hnl]; exact f7) rfl (fun ms2 hl => ?_)
            rw [← w2]
            exact kj tg _ _ _ (by rw [fx_set_len]; exact hnl) hth2 ms2 H1 locs1 (fx_LR.put0 hl) q1 q2 g1 g2
          · refine lv_astore_n hx hb w1 w2 h1.has (by rw [hnl]; exact f7) rfl (fun ms2 hl => ?_)
            rw [← w3]
            exact kj tg _ _ _ (by rw [fx_set_len]; exact hnl) hth2 ms2 H1 locs1 (fx_LR.put0 hl) q1 q2 g1 g2
theorem fx_toX {C : Prop} {mc ms cells slots : Nat} {H : Heap} {locs : List Loc} {g : JFrame} {rest : List Value} {Qa : State → Outcome → State → Prop} {XC : String → State → State → Prop} (h : va_Run p l e R s m args below meth c H locs cells slots mc ms g rest Qa (fun q => b0 ≤ q)) : vx_Run p l e R s m args below meth c H locs cells slots mc ms g rest Qa XC (fun q => b0 ≤ q) := fun T hT X => Or.inl (h T hT X)
theorem fx_split {st rest : List Value} {n : Nat} {v : Value} (h : st.drop n = v :: rest) : st = st.take n ++ v :: rest ∧ (st.take n).length = n := by
  refine ⟨by rw [← h, List.take_append_drop], ?_⟩
  rw [List.length_take]
  have : (st.drop n).length = rest.length + 1 := by rw [h]; rfl
  rw [List.length_drop] at this
  omega
set_option maxHeartbeats 4000000 in
/-- an instance method is called -/
theorem fx_s_inst {mm i k x len : Nat} {o : Instr} {C0 S0 d : Nat} {r r1 : fx_R} {ls st rest : List Value} {h : fx_H} {ms : Array Slot} {H : Heap} {locs : List Loc} {a cx : Nat} {fs : List Value} {mc9 ms9 : Nat}
    (B : fx_Bd b0 ex cy D cl sc tx NB SL TB yy bb nl rr hh p s m args meth c mm) (HA : fx_All cl fty TB NB df) (hnl : ls.length = nl mm) (hdc : decode (bb mm) (pcs mm i) = .ok (o, len))
    (hm : fx_mt cl fty TB NB SL yy bb nl rr na hh xn (yy mm).cls ((yy mm).name == "<init>") (rr mm) (pcs mm) i o len (.invokeinterface k x)) (hR : R = fx_rm (d + 1) mc9 ms9)
    (h1 : fx_LR b0 ex ms ls) (h2 : fx_Dy b0 ex cy D cl h H) (h3 : va_S (fun q => b0 ≤ q) s.heap H locs) (hst0 : st.drop (x / 64) = .ref a :: rest) (he : h.2.2.2 a = .inr (cx, fs)) (hcx : cx = x % 32) (hlow : fx_low rest = true) (hv : x % 64 / 32 = 1 → ∃ v, r1.1 = .inl v)
    (hf : (h.2.1 - C0) + (r1.2.2.1 - h.2.1) ≤ R.cells ∧ (h.2.2.1 - S0) + (r1.2.2.2.1 - h.2.2.1) ≤ R.slots)
    (hK : fx_Kt b0 ex cy D cl sc tx NB SL TB yy bb nl rr hh xn l d k (.ref a :: (st.take (x / 64)).reverse) h r1) :
    len = 3 ∧ ∃ a9, vx_Run p l e R s m args below meth c H locs (h.2.1 - C0) (h.2.2.1 - S0) (r1.2.2.1 - h.2.1) (r1.2.2.2.1 - h.2.2.1) (F0 m (pcs mm i) ms (st.map (fx_tr b0 ex))) (rest.map (fx_tr b0 ex)) (fx_Qc b0 ex cy D cl r1 a9) (fx_Xc b0 ex cy D cl xn r1) (fun q => b0 ≤ q) := by
  obtain ⟨hx, hb, hml, hown, hts, hst, hlocks, hret, hname, htab⟩ := B
  obtain ⟨hN, hG, hcl, -⟩ := HA
  simp only [fx_mt] at hm
  obtain ⟨⟨ok1, ok2, ok3, ok4, ok5, ok6, ok7⟩, hna, ⟨rc, hrc, hrn⟩, hhk, hins, rfl, hm⟩ := hm
  refine ⟨rfl, ?_⟩
  obtain ⟨hs1, hs2⟩ := fx_split hst0
  have hstk : (F0 m (pcs mm i) ms (st.map (fx_tr b0 ex))).stack = (((st.take (x / 64)).reverse).map (fx_tr b0 ex)).reverse ++ .ref (b0 + a) :: rest.map (fx_tr b0 ex) := by
    show st.map (fx_tr b0 ex) = _
    rw [← List.map_reverse, List.reverse_reverse]
    conv => lhs; rw [hs1]
    rw [List.map_append]
    rfl
  have hlen9 : (((st.take (x / 64)).reverse).map (fx_tr b0 ex)).length = na k := by rw [List.length_map, List.length_reverse, hs2, hna]
  have hcw : fx_cw yy bb nl rr hh k = Cond.code (yy k) (bb k) (nl k) (rr k) := by unfold fx_cw; rw [hhk]
  unfold fx_Kt at hK
  rw [hcw] at hK ok6
  have hgd : GoodIn TB (Cond.code (yy k) (bb k) (nl k) (rr k) :: TB) := fx_good hG (fun w hw => (List.mem_cons.mp hw).elim (fun q => q ▸ ok6) id)
  have hRR : (fx_rm d (r1.2.2.1 - h.2.1) (r1.2.2.2.1 - h.2.2.1)).frames + 1 ≤ R.frames ∧ 8 + (nl k + 11) + (fx_rm d (r1.2.2.1 - h.2.1) (r1.2.2.2.1 - h.2.2.1)).locals ≤ R.locals := by
    subst hR
    exact ⟨by show d + 8 + 1 ≤ d + 1 + 8; omega, by show 8 + (nl k + 11) + (60 * d + 400) ≤ 60 * (d + 1) + 400; omega⟩
  have hcx99 : cx ≠ 99 := by rw [hcx]; exact (hcl _ _ hrc).1
  have hrecv : ∃ cell : Cell, H[b0 + a]? = some cell ∧ cell.vm.isStatics = false ∧ s.vm.findClass (yy k).cls = some cell.cls := by
    rw [← hrn]
    exact va_recv hst.1 h2.1 (hcx ▸ hrc) (h2.get he (fx_bad_inr hcx99))
  rcases hm with ⟨hz, y, rfl, hlk, hsel⟩ | ⟨hz, y, rfl, hi1, hi2, hlk⟩ | ⟨hz, y, z, rfl, hi1, hi2, hlk⟩
  · exact ⟨_, vx_runV (As := ((st.take (x / 64)).reverse).map (fx_tr b0 ex)) ⟨hx, hb, hml, hown, hts⟩ hK ⟨callB_of (na k) hts hgd rfl rfl rfl (hts _ ok5) (hts _ hlk) ⟨ok1, ok2, ok3⟩ hRR, hts _ hins, hts _ hsel⟩ ⟨fx_blind hN, hrecv, fx_pre hN (as := .ref a :: (st.take (x / 64)).reverse) hst h2 h3⟩ rfl hlen9 (h1.1.trans hnl) hstk (lv_room (fx_low_tr hlow)) hdc hf⟩
  · obtain ⟨v, hv⟩ := hv hz
    rw [hi2] at hK hgd ok6
    exact ⟨_, fx_toX (C := True) (va_runI (As := ((st.take (x / 64)).reverse).map (fx_tr b0 ex)) ⟨hx, hb, hml, hown, hts⟩ (fx_met hv hK) ⟨callB_of (na k) hts hgd rfl rfl rfl (hts _ ok5) (hts _ hlk) ⟨ok1, ok2, ok3⟩ hRR, hi1, hts _ hins⟩ ⟨fx_blind hN, fx_pre hN (as := .ref a :: (st.take (x / 64)).reverse) hst h2 h3⟩ rfl hlen9 (h1.1.trans hnl) hstk (lv_room (fx_low_tr hlow)) hdc hf)⟩
  · obtain ⟨v, hv⟩ := hv hz
    rw [hi2] at hK hgd ok6
    exact ⟨_, fx_toX (C := True) (va_runIN (host := z) (As := ((st.take (x / 64)).reverse).map (fx_tr b0 ex)) ⟨hx, hb, hml, hown, hts⟩ (fx_met hv hK) ⟨va_cnB (na k) hts hgd rfl rfl rfl (hst.2.2.2.2.2.2.2.2.1 _ hlk) (hts _ ok5) ⟨ok1, ok2, ok3⟩ hRR, hi1, hts _ hins⟩ ⟨fx_blind hN, fx_pre hN (as := .ref a :: (st.take (x / 64)).reverse) hst h2 h3⟩ rfl hlen9 (h1.1.trans hnl) hstk (lv_room (fx_low_tr hlow)) hdc hf)⟩
end
