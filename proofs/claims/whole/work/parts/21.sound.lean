section
variable {p : Program} {l : Launch} {e : Env} {R : Room} {s : State} {m : MethodId} {args : Array Value} {below : List Frame} {meth : Method} {c : Code}
variable {b0 : Nat} {ex cy : Nat → Nat} {D : va_G} {cl : List vw_C} {sc : Nat × (Nat → Int32)} {tx : List (List Int32)} {NB : List Cond} {SL : List (String × Nat × String × Nat)}
variable {fty : Nat → Nat → FieldType} {TB : List Cond} {yy : Nat → MethodName} {bb : Nat → ByteArray} {nl : Nat → Nat} {rr : Nat → Option FieldType} {na : Nat → Nat} {hh : Nat → List (Nat × Nat × Nat × Nat)} {xn : Nat → String}
variable {df : Nat → List Value} {cd : Nat → List Instr} {hd : Nat → Nat → Option (Nat × Nat)} {pcs : Nat → Nat → Nat} {nM : Nat}
theorem fx_drop_cons {α : Type} {L k : List α} {i : Nat} {x : α} (h : x :: k = L.drop i) : L[i]? = some x ∧ k = L.drop (i + 1) := by
  have h1 : (L.drop i)[0]? = some x := by rw [← h]; rfl
  rw [List.getElem?_drop] at h1
  refine ⟨by simpa using h1, ?_⟩
  have h2 : (L.drop i).drop 1 = k := by rw [← h]; rfl
  rw [List.drop_drop] at h2
  exact h2.symm
set_option maxHeartbeats 8000000 in
set_option maxRecDepth 20000 in
theorem fx_walk1 {mm C0 S0 d : Nat} {r : fx_R} {mc9 ms9 : Nat} {call : fx_C} {jump : fx_J} (hl : l.stackTraces = false)
    (B : fx_Bd b0 ex cy D cl sc tx NB SL TB yy bb nl rr hh p s m args meth c mm) (HA : fx_All cl fty TB NB df) (hmk : fx_mOk cl fty TB NB SL yy bb nl rr na hh xn cd hd pcs mm)
    (hR : R = fx_rm (d + 1) mc9 ms9) (hR1 : R.cells = r.2.2.1 - C0) (hR2 : R.slots = r.2.2.2.1 - S0)
    (IH : ∀ k as h r1, call k as h = some r1 → fx_Kt b0 ex cy D cl sc tx NB SL TB yy bb nl rr hh xn l d k as h r1)
    (M1 : ∀ k as h r, call k as h = some r → fx_le h r.2) (M2 : ∀ t ls st h r, jump t ls st h = some r → fx_le h r.2)
    (kj : ∀ t ls2 st h2, ls2.length = nl mm → jump t ls2 st h2 = some r → fx_At b0 ex cy D cl xn pcs p l e R s m args below meth c mm C0 S0 r t ls2 st h2) (kj0 : ∀ t ls2 st h2, (cd mm).drop t = [] → jump t ls2 st h2 = none) :
    ∀ (code : List Instr) (i : Nat) (ls st : List Value) (h : fx_H), code = (cd mm).drop i → ls.length = nl mm → fx_1 sc tx df call (hd mm) jump code ls st h = some r → fx_At b0 ex cy D cl xn pcs p l e R s m args below meth c mm C0 S0 r i ls st h
  | [], _, _, _, _, _, _, hr => by simp [fx_1] at hr
  | ci :: k, i, ls, st, h, hc, hn, hr => by
    obtain ⟨hci, hk⟩ := fx_drop_cons hc
    have ih := fun ls st h => fx_walk1 hl B HA hmk hR hR1 hR2 IH M1 M2 kj kj0 k (i + 1) ls st h hk
    have mono := fx_1_mono (sc := sc) (tx := tx) (df := df) (hn := hd mm) M1 M2 k
    obtain ⟨o, len, hdc, hp, hm, hj, -⟩ := hmk.2.1 i ci hci
    have hp2 : (∀ t, ci ≠ .jsr t) → pcs mm (i + 1) = pcs mm i + len := fun q => hp.elim id (fun ⟨t, ht⟩ => absurd ht (q t))
    cases ci <;> first | (simp only [fx_1, reduceCtorEq] at hr; done) | skip
    case iadd =>
      simp only [fx_1] at hr
      split at hr
      · exact fx_s_iadd B hdc (hp2 (fun t q => by cases q)) hm (ih _ _ _ hn hr)
      · cases hr
    case isub =>
      simp only [fx_1] at hr
      split at hr
      · exact fx_s_isub B hdc (hp2 (fun t q => by cases q)) hm (ih _ _ _ hn hr)
      · cases hr
    case imul =>
      simp only [fx_1] at hr
      split at hr
      · exact fx_s_imul B hdc (hp2 (fun t q => by cases q)) hm (ih _ _ _ hn hr)
      · cases hr
    case iand =>
      simp only [fx_1] at hr
      split at hr
      · exact fx_s_iand B hdc (hp2 (fun t q => by cases q)) hm (ih _ _ _ hn hr)
      · cases hr
    case ior =>
      simp only [fx_1] at hr
      split at hr
      · exact fx_s_ior B hdc (hp2 (fun t q => by cases q)) hm (ih _ _ _ hn hr)
      · cases hr
    case ixor =>
      simp only [fx_1] at hr
      split at hr
      · exact fx_s_ixor B hdc (hp2 (fun t q => by cases q)) hm (ih _ _ _ hn hr)
      · cases hr
    case ishl =>
      simp only [fx_1] at hr
      split at hr
      · exact fx_s_ishl B hdc (hp2 (fun t q => by cases q)) hm (ih _ _ _ hn hr)
      · cases hr
    case ishr =>
      simp only [fx_1] at hr
      split at hr
      · exact fx_s_ishr B hdc (hp2 (fun t q => by cases q)) hm (ih _ _ _ hn hr)
      · cases hr
    case iushr =>
      simp only [fx_1] at hr
      split at hr
      · exact fx_s_iushr B hdc (hp2 (fun t q => by cases q)) hm (ih _ _ _ hn hr)
      · cases hr
    case i2l =>
      simp only [fx_1] at hr
      split at hr
      · exact fx_s_i2l B hdc (hp2 (fun t q => by cases q)) hm (ih _ _ _ hn hr)
      · cases hr
    case i2b =>
      simp only [fx_1] at hr
      split at hr
      · exact fx_s_i2b B hdc (hp2 (fun t q => by cases q)) hm (ih _ _ _ hn hr)
      · cases hr
    case i2c =>
      simp only [fx_1] at hr
      split at hr
      · exact fx_s_i2c B hdc (hp2 (fun t q => by cases q)) hm (ih _ _ _ hn hr)
      · cases hr
    case ladd =>
      simp only [fx_1] at hr
      split at hr
      · exact fx_s_ladd B hdc (hp2 (fun t q => by cases q)) hm (ih _ _ _ hn hr)
      · cases hr
    case lmul =>
      simp only [fx_1] at hr
      split at hr
      · exact fx_s_lmul B hdc (hp2 (fun t q => by cases q)) hm (ih _ _ _ hn hr)
      · cases hr
    case land =>
      simp only [fx_1] at hr
      split at hr
      · exact fx_s_land B hdc (hp2 (fun t q => by cases q)) hm (ih _ _ _ hn hr)
      · cases hr
    case lshl =>
      simp only [fx_1] at hr
      split at hr
      · exact fx_s_lshl B hdc (hp2 (fun t q => by cases q)) hm (ih _ _ _ hn hr)
      · cases hr
    case lshr =>
      simp only [fx_1] at hr
      split at hr
      · exact fx_s_lshr B hdc (hp2 (fun t q => by cases q)) hm (ih _ _ _ hn hr)
      · cases hr
    case lcmp =>
      simp only [fx_1] at hr
      split at hr
      · exact fx_s_lcmp B hdc (hp2 (fun t q => by cases q)) hm (ih _ _ _ hn hr)
      · cases hr
    case idiv =>
      simp only [fx_1] at hr
      split at hr
      · split at hr
        · cases hr
        · rename_i hne
          exact fx_s_idiv hne B hdc (hp2 (fun t q => by cases q)) hm (ih _ _ _ hn hr)
      · cases hr
    case irem =>
      simp only [fx_1] at hr
      split at hr
      · split at hr
        · cases hr
        · rename_i hne
          exact fx_s_irem hne B hdc (hp2 (fun t q => by cases q)) hm (ih _ _ _ hn hr)
      · cases hr
    case ldiv =>
      simp only [fx_1] at hr
      split at hr
      · split at hr
        · cases hr
        · rename_i hne
          exact fx_s_ldiv hne B hdc (hp2 (fun t q => by cases q)) hm (ih _ _ _ hn hr)
      · cases hr
    case lrem =>
      simp only [fx_1] at hr
      split at hr
      · split at hr
        · cases hr
        · rename_i hne
          exact fx_s_lrem hne B hdc (hp2 (fun t q => by cases q)) hm (ih _ _ _ hn hr)
      · cases hr
    case iconst =>
      simp only [fx_1] at hr
      exact fx_s_iconst B hdc (hp2 (fun t q => by cases q)) hm (ih _ _ _ hn hr)
    case ldc2_w =>
      simp only [fx_1] at hr
      exact fx_s_ldc2 B hdc (hp2 (fun t q => by cases q)) hm (ih _ _ _ hn hr)
    case ldc =>
      simp only [fx_1] at hr
      exact fx_s_ldc B hdc (hp2 (fun t q => by cases q)) hm (ih _ _ _ hn hr)
    case getstatic =>
      simp only [fx_1] at hr
      exact fx_s_getstatic B hdc (hp2 (fun t q => by cases q)) hm (ih _ _ _ hn hr)
    case iload =>
      simp only [fx_1] at hr
      split at hr
      · rename_i hv
        exact fx_s_iload hv B hdc (hp2 (fun t q => by cases q)) hm (ih _ _ _ hn hr)
      · cases hr
    case lload =>
      simp only [fx_1] at hr
      split at hr
      · rename_i hv
        exact fx_s_lload hv B hdc (hp2 (fun t q => by cases q)) hm (ih _ _ _ hn hr)
      · cases hr
    case aload =>
      simp only [fx_1] at hr
      split at hr
      · rename_i hv
        split at hr
        · rename_i ha
          exact fx_s_aload hv ha B hdc (hp2 (fun t q => by cases q)) hm (ih _ _ _ hn hr)
        · cases hr
      · cases hr
    case istore =>
      simp only [fx_1] at hr
      split at hr
      · split at hr
        · rename_i hlt
          exact fx_s_istore hlt B hdc (hp2 (fun t q => by cases q)) hm (ih _ _ _ (by rw [fx_set_len]; exact hn) hr)
        · cases hr
      · cases hr
    case astore =>
      simp only [fx_1] at hr
      split at hr
      · split at hr
        · rename_i hlt
          exact fx_s_astore hlt B hdc (hp2 (fun t q => by cases q)) hm (ih _ _ _ (by rw [fx_set_len]; exact hn) hr)
        · cases hr
      · cases hr
    case lstore =>
      simp only [fx_1] at hr
      split at hr
      · split at hr
        · rename_i hlt
          exact fx_s_lstore hlt B hdc (hp2 (fun t q => by cases q)) hm (ih _ _ _ (by rw [fx_set_len, fx_set_len]; exact hn) hr)
        · cases hr
      · cases hr
    case iinc =>
      simp only [fx_1] at hr
      split at hr
      · rename_i hv
        exact fx_s_iinc hv B hdc (hp2 (fun t q => by cases q)) hm (ih _ _ _ (by rw [fx_set_len]; exact hn) hr)
      · cases hr
    case pop =>
      simp only [fx_1] at hr
      split at hr
      · split at hr
        · rename_i hcat
          exact fx_s_pop hcat B hdc (hp2 (fun t q => by cases q)) hm (ih _ _ _ hn hr)
        · cases hr
      · cases hr
    case dup =>
      simp only [fx_1] at hr
      split at hr
      · split at hr
        · rename_i hcat
          exact fx_s_dup hcat B hdc (hp2 (fun t q => by cases q)) hm (ih _ _ _ hn hr)
        · cases hr
      · cases hr
    case dup2 =>
      simp only [fx_1] at hr
      split at hr
      · split at hr
        · rename_i hcat
          exact fx_s_dup2 hcat.1 hcat.2 B hdc (hp2 (fun t q => by cases q)) hm (ih _ _ _ hn hr)
        · cases hr
      · cases hr
    case goto =>
      simp only [fx_1] at hr
      exact fx_s_goto B hdc (hp2 (fun t q => by cases q)) hm (kj _ _ _ _ hn hr)
    case if_icmp =>
      simp only [fx_1] at hr
      split at hr
      · refine fx_s_icmp B hdc (hp2 (fun t q => by cases q)) hm (fun z => ?_) (fun z => ?_)
        · rw [if_pos z] at hr
          exact kj _ _ _ _ hn hr
        · rw [if_neg (by rw [z]; decide)] at hr
          exact ih _ _ _ hn hr
      · cases hr
    case ifCond =>
      simp only [fx_1] at hr
      split at hr
      · refine fx_s_ifc B hdc (hp2 (fun t q => by cases q)) hm (fun z => ?_) (fun z => ?_)
        · rw [if_pos z] at hr
          exact kj _ _ _ _ hn hr
        · rw [if_neg (by rw [z]; decide)] at hr
          exact ih _ _ _ hn hr
      · cases hr
    case tableswitch =>
      simp only [fx_1] at hr
      split at hr
      · split at hr
        · rename_i ho
          exact fx_s_tabOut ho B hdc (hp2 (fun t q => by cases q)) hm (kj _ _ _ _ hn hr)
        · rename_i ho
          split at hr
          · rename_i hq
            exact fx_s_tabIn ho hq B hdc (hp2 (fun t q => by cases q)) hm (kj _ _ _ _ hn hr)
          · cases hr
      · cases hr
    case getfield =>
      simp only [fx_1] at hr
      split at hr
      · split at hr
        · rename_i he
          split at hr
          · rename_i hcc
            split at hr
            · rename_i hv
              exact fx_s_getf he hcc hv B HA hdc (hp2 (fun t q => by cases q)) hm (ih _ _ _ hn hr)
            · cases hr
          · cases hr
        · cases hr
      · cases hr
    case putfield =>
      simp only [fx_1] at hr
      split at hr
      · split at hr
        · rename_i he
          split at hr
          · rename_i hcc
            exact fx_s_putf he hcc.1 hcc.2.1 hcc.2.2 B HA hdc (hp2 (fun t q => by cases q)) hm (ih _ _ _ hn hr)
          · cases hr
        · cases hr
      · cases hr
    case iaload =>
      simp only [fx_1] at hr
      split at hr
      · split at hr
        · rename_i he
          split at hr
          · rename_i hcc
            obtain ⟨rfl, hj9⟩ := hcc
            exact fx_s_iaload he hj9 B hdc (hp2 (fun t q => by cases q)) hm (ih _ _ _ hn hr)
          · cases hr
        · cases hr
      · cases hr
    case laload =>
      simp only [fx_1] at hr
      split at hr
      · split at hr
        · rename_i he
          split at hr
          · rename_i hcc
            obtain ⟨rfl, hj9⟩ := hcc
            exact fx_s_laload he hj9 B hdc (hp2 (fun t q => by cases q)) hm (ih _ _ _ hn hr)
          · cases hr
        · cases hr
      · cases hr
    case baload =>
      simp only [fx_1] at hr
      split at hr
      · split at hr
        · rename_i he
          split at hr
          · rename_i hcc
            obtain ⟨rfl, hj9⟩ := hcc
            exact fx_s_baload he hj9 B hdc (hp2 (fun t q => by cases q)) hm (ih _ _ _ hn hr)
          · cases hr
        · cases hr
      · split at hr
        · rename_i hq
          exact fx_s_tald hq B hdc (hp2 (fun t q => by cases q)) hm (ih _ _ _ hn hr)
        · cases hr
      · cases hr
    case iastore =>
      simp only [fx_1] at hr
      split at hr
      · split at hr
        · rename_i he
          split at hr
          · rename_i hcc
            obtain ⟨rfl, hj9⟩ := hcc
            exact fx_s_iastore he hj9 B hdc (hp2 (fun t q => by cases q)) hm (ih _ _ _ hn hr)
          · cases hr
        · cases hr
      · cases hr
    case bastore =>
      simp only [fx_1] at hr
      split at hr
      · split at hr
        · rename_i he
          split at hr
          · rename_i hcc
            obtain ⟨rfl, hj9⟩ := hcc
            exact fx_s_bastore he hj9 B hdc (hp2 (fun t q => by cases q)) hm (ih _ _ _ hn hr)
          · cases hr
        · cases hr
      · cases hr
    case lastore =>
      simp only [fx_1] at hr
      split at hr
      · split at hr
        · rename_i he
          split at hr
          · rename_i hcc
            obtain ⟨rfl, hj9⟩ := hcc
            exact fx_s_lastore he hj9 B hdc (hp2 (fun t q => by cases q)) hm (ih _ _ _ hn hr)
          · cases hr
        · cases hr
      · cases hr
    case aaload =>
      simp only [fx_1] at hr
      split at hr
      · split at hr
        · rename_i he
          split at hr
          · rename_i hcc
            exact fx_s_aaload he hcc.1 hcc.2 B hdc (hp2 (fun t q => by cases q)) hm (ih _ _ _ hn hr)
          · cases hr
        · cases hr
      · cases hr
    case aastore =>
      simp only [fx_1] at hr
      split at hr
      · split at hr
        · rename_i he hv
          split at hr
          · rename_i hcc
            exact fx_s_aastore he hv hcc.1 hcc.2.1 hcc.2.2 B HA hdc (hp2 (fun t q => by cases q)) hm (ih _ _ _ hn hr)
          · cases hr
        · cases hr
      · cases hr
    case arraylength =>
      simp only [fx_1] at hr
      split at hr
      · split at hr
        · rename_i he
          split at hr
          · rename_i ht
            exact fx_s_alen he ht B hdc (hp2 (fun t q => by cases q)) hm (ih _ _ _ hn hr)
          · cases hr
        · cases hr
      · exact fx_s_slen B hdc (hp2 (fun t q => by cases q)) hm (ih _ _ _ hn hr)
      · split at hr
        · rename_i hq
          exact fx_s_tlen hq B hdc (hp2 (fun t q => by cases q)) hm (ih _ _ _ hn hr)
        · cases hr
      · cases hr
    case faload =>
      simp only [fx_1] at hr
      split at hr
      · split at hr
        · rename_i hq
          exact fx_s_sald hq B hdc (hp2 (fun t q => by cases q)) hm (ih _ _ _ hn hr)
        · cases hr
      · cases hr
    case checkcast =>
      simp only [fx_1] at hr
      split at hr
      · split at hr
        · rename_i hq
          refine fx_s_sfld hq.1 hq.2 B hdc (hp2 (fun t q => by cases q)) hm (fun z => ?_) (fun z => ?_)
          · rw [if_pos z] at hr
            exact ih _ _ _ hn hr
          · rw [if_neg z] at hr
            exact ih _ _ _ hn hr
        · cases hr
      · cases hr
    case new =>
      simp only [fx_1] at hr
      split at hr
      · rename_i he
        exact fx_s_new he (mono _ _ _ _ hr) hR1 hR2 B HA hdc (hp2 (fun t q => by cases q)) hm (ih _ _ _ hn hr)
      · cases hr
    case newarray =>
      simp only [fx_1] at hr
      split at hr
      · split at hr
        · cases hr
        · rename_i hq
          exact fx_s_newa (fun z => hq (Or.inl z)) (fun z => hq (Or.inr (Or.inl z))) (Decidable.not_not.mp (fun z => hq (Or.inr (Or.inr z)))) (mono _ _ _ _ hr) hR1 hR2 B hdc (hp2 (fun t q => by cases q)) hm (ih _ _ _ hn hr)
      · cases hr
    case anewarray =>
      simp only [fx_1] at hr
      split at hr
      · split at hr
        · cases hr
        · rename_i hq
          exact fx_s_newq (fun z => hq (Or.inl z)) (fun z => hq (Or.inr (Or.inl z))) (Decidable.not_not.mp (fun z => hq (Or.inr (Or.inr z)))) (mono _ _ _ _ hr) hR1 hR2 B hdc (hp2 (fun t q => by cases q)) hm (ih _ _ _ hn hr)
      · cases hr
    case invokespecial =>
      simp only [fx_1] at hr
      split at hr
      · split at hr
        · rename_i hq
          exact fx_s_oinit hq hn (by rw [hR]; show 1 ≤ d + 1 + 8; omega) (by rw [hR]; show 20 ≤ 60 * (d + 1) + 400; omega) B HA hdc (hp2 (fun t q => by cases q)) hm (ih _ _ _ hn hr)
        · cases hr
      · cases hr
    case invokeinterface =>
      simp only [fx_1] at hr
      split at hr
      · rename_i hst0
        split at hr
        · rename_i he
          split at hr
          · rename_i hcc
            generalize hcall : fx_only _ (call _ _ h) = q9 at hr
            cases q9 with
            | none => simp [fx_then] at hr
            | some r1 =>
              obtain ⟨hcl9, hv9⟩ := fx_only_some hcall
              have hle1 : fx_le h r1.2 := M1 _ _ _ _ hcl9
              have hle2 : fx_le r1.2 r.2 := fx_then_mono (h := r1.2) (fun x hx => by cases hx; exact fx_le.rf _) M2 (fun st h r hq => mono _ _ _ _ hq) hr
              intro ms H locs h1 h2 h3 h4 h5
              have hf : (h.2.1 - C0) + (r1.2.2.1 - h.2.1) ≤ R.cells ∧ (h.2.2.1 - S0) + (r1.2.2.2.1 - h.2.2.1) ≤ R.slots := by
                rw [hR1, hR2]
                have := hle1.1; have := hle1.2; have := hle2.1; have := hle2.2
                omega
              obtain ⟨hlen, a9, hrun⟩ := fx_s_inst (C0 := C0) (S0 := S0) (r := r) (below := below) (e := e) B HA hn hdc hm hR h1 h2 h3 hst0 he hcc.1 hcc.2 hv9 hf (IH _ _ _ _ hcl9)
              exact fx_s_then B HA hn (by rw [(hp2 (fun t q => by cases q)), hlen]) hmk hci rfl h1 h3 h4 h5 hle1 hrun hr (fun st h2 q => ih _ _ _ hn q) kj kj0
          · cases hr
        · cases hr
      · cases hr
    case invokevirtual =>
      simp only [fx_1] at hr
      split at hr
      · rename_i hst0
        split at hr
        · rename_i hcc
          generalize hcall : call _ _ h = q9 at hr
          cases q9 with
          | none => simp [fx_then] at hr
          | some r1 =>
            have hle1 : fx_le h r1.2 := M1 _ _ _ _ hcall
            have hle2 : fx_le r1.2 r.2 := fx_then_mono (h := r1.2) (fun x hx => by cases hx; exact fx_le.rf _) M2 (fun st h r hq => mono _ _ _ _ hq) hr
            intro ms H locs h1 h2 h3 h4 h5
            have hf : (h.2.1 - C0) + (r1.2.2.1 - h.2.1) ≤ R.cells ∧ (h.2.2.1 - S0) + (r1.2.2.2.1 - h.2.2.1) ≤ R.slots := by
              rw [hR1, hR2]
              have := hle1.1; have := hle1.2; have := hle2.1; have := hle2.2
              omega
            obtain ⟨hlen, a9, hrun⟩ := fx_s_text (C0 := C0) (S0 := S0) (r := r) (below := below) (e := e) B HA hn hdc hm hR h1 h2 h3 hst0 hcc.1 hcc.2.1 hcc.2.2 hf (IH _ _ _ _ hcall)
            exact fx_s_then B HA hn (by rw [(hp2 (fun t q => by cases q)), hlen]) hmk hci rfl h1 h3 h4 h5 hle1 hrun hr (fun st h2 q => ih _ _ _ hn q) kj kj0
        · cases hr
      · cases hr
    case multianewarray =>
      simp only [fx_1] at hr
      split at hr
      · rename_i hcc
        generalize hcall : fx_only _ (call _ _ h) = q9 at hr
        cases q9 with
        | none => simp [fx_then] at hr
        | some r1 =>
          obtain ⟨hcl9, hv9⟩ := fx_only_some hcall
          have hle1 : fx_le h r1.2 := M1 _ _ _ _ hcl9
          have hle2 : fx_le r1.2 r.2 := fx_then_mono (h := r1.2) (fun x hx => by cases hx; exact fx_le.rf _) M2 (fun st h r hq => mono _ _ _ _ hq) hr
          intro ms H locs h1 h2 h3 h4 h5
          have hf : (h.2.1 - C0) + (r1.2.2.1 - h.2.1) ≤ R.cells ∧ (h.2.2.1 - S0) + (r1.2.2.2.1 - h.2.2.1) ≤ R.slots := by
            rw [hR1, hR2]
            have := hle1.1; have := hle1.2; have := hle2.1; have := hle2.2
            omega
          obtain ⟨hlen, a9, hrun⟩ := fx_s_stat (C0 := C0) (S0 := S0) (r := r) (below := below) (e := e) B HA hn hdc hm hR h1 h2 h3 hcc.1 hcc.2 hv9 hf (IH _ _ _ _ hcl9)
          exact fx_s_then B HA hn (by rw [(hp2 (fun t q => by cases q)), hlen]) hmk hci rfl h1 h3 h4 h5 hle1 hrun hr (fun st h2 q => ih _ _ _ hn q) kj kj0
      · cases hr
    case invokedynamic =>
      simp only [fx_1] at hr
      split at hr
      · split at hr
        · rename_i hlow
          have hm9 := mono _ _ _ _ hr
          refine fx_s_math hlow hn (by rw [hR]; show 1 ≤ d + 1 + 8; omega) (by rw [hR]; show 40 ≤ 60 * (d + 1) + 400; omega) (by rw [hR1]; have := hm9.1; omega) (by rw [hR2]; have := hm9.2; omega) B hdc (hp2 (fun t q => by cases q)) hm (ih _ _ _ hn hr)
        · cases hr
      · cases hr
    case ireturn =>
      simp only [fx_1] at hr
      split at hr
      · cases hr
        exact fx_s_iret (st := []) rfl B hdc (hp2 (fun t q => by cases q)) hm
      · cases hr
    case lreturn =>
      simp only [fx_1] at hr
      split at hr
      · cases hr
        exact fx_s_lret (st := []) rfl B hdc (hp2 (fun t q => by cases q)) hm
      · cases hr
    case return_ =>
      simp only [fx_1] at hr
      split at hr
      · cases hr
        exact fx_s_vret (st := []) rfl B hdc (hp2 (fun t q => by cases q)) hm
      · cases hr
    case freturn =>
      simp only [fx_1] at hr
      split at hr
      · split at hr
        · rename_i hv
          cases hr
          exact fx_s_zret (st := []) hv rfl B hdc (hp2 (fun t q => by cases q)) hm
        · cases hr
      · cases hr
    case dreturn =>
      simp only [fx_1] at hr
      split at hr
      · split at hr
        · rename_i hv
          cases hr
          exact fx_s_cret (st := []) hv rfl B hdc (hp2 (fun t q => by cases q)) hm
        · cases hr
      · cases hr
    case jsr =>
      simp only [fx_1] at hr
      split at hr
      · rename_i hlow
        cases hr
        exact fx_s_throw hl B HA hn hdc hm (fun y hy => hj _ y rfl hy) hR hR1 hR2 hlow rfl
      · cases hr
theorem fx_walkJ {mm C0 S0 d : Nat} {r : fx_R} {mc9 ms9 : Nat} {call : fx_C} (hl : l.stackTraces = false)
    (B : fx_Bd b0 ex cy D cl sc tx NB SL TB yy bb nl rr hh p s m args meth c mm) (HA : fx_All cl fty TB NB df) (hmk : fx_mOk cl fty TB NB SL yy bb nl rr na hh xn cd hd pcs mm)
    (hR : R = fx_rm (d + 1) mc9 ms9) (hR1 : R.cells = r.2.2.1 - C0) (hR2 : R.slots = r.2.2.2.1 - S0)
    (IH : ∀ k as h r1, call k as h = some r1 → fx_Kt b0 ex cy D cl sc tx NB SL TB yy bb nl rr hh xn l d k as h r1)
    (M1 : ∀ k as h r, call k as h = some r → fx_le h r.2) : ∀ (F t : Nat) (ls st : List Value) (h : fx_H), ls.length = nl mm → fx_J1 sc tx df call (hd mm) (cd mm) F t ls st h = some r → fx_At b0 ex cy D cl xn pcs p l e R s m args below meth c mm C0 S0 r t ls st h
  | 0, _, _, _, _, _, hr => by simp [fx_J1] at hr
  | F + 1, t, ls, st, h, hn, hr => by
    have ih := fx_walkJ hl B HA hmk hR hR1 hR2 IH M1 F
    refine fx_walk1 hl B HA hmk hR hR1 hR2 IH M1 (fun t ls st h r => fx_J1_mono M1 F t ls st h r) (fun t ls2 st h2 h9 hq => ih t ls2 st h2 h9 hq) (fun t ls2 st h2 h0 => ?_) ((cd mm).drop t) t ls st h rfl hn hr
    cases F with
    | zero => rfl
    | succ F => simp [fx_J1, h0, fx_1]
set_option maxHeartbeats 4000000 in
/-- SOUNDNESS: what the plain machine answers at a call, the real one does -/
theorem fx_sound {F : Nat} (hl : l.stackTraces = false) (HA : fx_All cl fty TB NB df) (HM : fx_Ms cl fty TB NB SL yy bb nl rr na hh xn cd hd pcs nM) : ∀ (d k : Nat) (as : List Value) (h : fx_H) (r : fx_R), fx_M sc tx df cd nl hd F d k as h = some r → fx_Kt b0 ex cy D cl sc tx NB SL TB yy bb nl rr hh xn l d k as h r
  | 0, _, _, _, _, hr => by simp [fx_M] at hr
  | d + 1, k, as, h, r, hr => by
    have ih := fx_sound (F := F) hl HA HM d
    have hk : k < nM := by
      rcases Nat.lt_or_ge k nM with q | q
      · exact q
      · exfalso
        simp only [fx_M] at hr
        split at hr
        · rw [HM.2 k q] at hr
          cases F with
          | zero => simp [fx_J1] at hr
          | succ F => simp [fx_J1, fx_1] at hr
        · cases hr
    obtain ⟨hok, hmk⟩ := HM.1 k hk
    have hle := fx_M_mono _ _ _ _ _ hr
    simp only [fx_M] at hr
    split at hr
    · rename_i hw
      have main : ∀ (p : Program) (e : Env) (s : State) (m : MethodId) (args : Array Value) (below : List Frame) (meth : Method) (c : Code), fx_Bd b0 ex cy D cl sc tx NB SL TB yy bb nl rr hh p s m args meth c k → va_Pc (as.map (fx_tr b0 ex)) (fx_CR b0 ex cy D cl sc tx NB SL h) args s → W p l e (fx_rm (d + 1) (r.2.2.1 - h.2.1) (r.2.2.2.1 - h.2.2.1)) s m args below meth c s.heap [] 0 0 (vx_MQ below (fx_Qc b0 ex cy D cl r) (fx_Xc b0 ex cy D cl xn r) args s (r.2.2.1 - h.2.1) (r.2.2.2.1 - h.2.2.1) (fun q => b0 ≤ q)) (entryFrame m args (nl k)) := by
        intro p e s m args below meth c B hP
        obtain ⟨rfl, hst, hdy⟩ := hP
        have hn : (fx_ent as (nl k)).length = nl k := by simp [fx_ent]; omega
        have key := fx_walkJ (e := e) (below := below) (C0 := h.2.1) (S0 := h.2.2.1) (R := fx_rm (d + 1) (r.2.2.1 - h.2.1) (r.2.2.2.1 - h.2.2.1)) hl B HA hmk rfl rfl rfl (fun k as h r1 hq => ih k as h r1 hq) (fun k as h r hq => fx_M_mono _ _ _ _ _ hq) F 0 _ _ _ hn hr _ s.heap [] (fx_entry b0 ex as hw) hdy va_S.rf (Nat.le_refl _) (Nat.le_refl _)
        rw [Nat.sub_self, Nat.sub_self, hmk.1] at key
        rw [lg_entry_eq]
        exact key
      obtain ⟨ok1, ok2, ok3, ok4, ok5, ok6, ok7⟩ := hok
      unfold fx_Kt
      cases hq : hh k with
      | nil =>
        have hcw : fx_cw yy bb nl rr hh k = Cond.code (yy k) (bb k) (nl k) (rr k) := by unfold fx_cw; rw [hq]
        rw [hcw]
        refine vx_ofW (cc := bb k) (maxL := nl k) (ret := rr k) ok4 rfl (fun p e s m args below meth c s₁ B hml ht hP => main p e s m args below meth c ⟨B.exec, B.bytes, hml, findClass_of_methodNamed B.named, fun w hw9 => atoms_spec (ws := Cond.code (yy k) (bb k) (nl k) (rr k) :: TB) B.pre w (List.mem_cons_of_mem _ hw9), hP.2.1, B.notSynchronized, B.returns, (name_of_methodNamed B.named B.method).1, ?_⟩ hP)
        rw [hq]
        show c.exceptionTable.toList = []
        cases hz : c.exceptionTable.toList with
        | nil => rfl
        | cons a9 b9 => exact (ht a9 (by rw [hz]; exact List.mem_cons_self)).elim
      | cons x9 t9 =>
        have hcw : fx_cw yy bb nl rr hh k = Cond.codeWith (yy k) (bb k) (nl k) (rr k) (x9 :: t9) := by unfold fx_cw; rw [hq]
        rw [hcw]
        refine vx_ofWH (cc := bb k) (maxL := nl k) (ret := rr k) ok4 rfl (fun p e s m args below meth c s₁ B hml hP => main p e s m args below meth c ⟨B.exec, B.bytes, hml, findClass_of_methodNamed B.named, fun w hw9 => atoms_spec (ws := Cond.codeWith (yy k) (bb k) (nl k) (rr k) (x9 :: t9) :: TB) B.pre w (List.mem_cons_of_mem _ hw9), hP.2.1, B.notSynchronized, B.returns, (name_of_methodNamed B.named B.method).1, ?_⟩ hP)
        rw [hq]
        exact vx_table (x := yy k) B (atoms_spec (ws := Cond.codeWith (yy k) (bb k) (nl k) (rr k) (x9 :: t9) :: TB) B.pre _ List.mem_cons_self)
    · cases hr
end
