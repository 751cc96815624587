/-! ===== the check is sound ===== -/
theorem pg_FLm {own y z : Nat} (h : pg_FL.contains (own, y, z) = true) : Cond.fieldLink (pg_R own) y ((vwCl.getD (z / 64) ("", TX0, 0)).2.1 (z % 64)).1 ((vwCl.getD (z / 64) ("", TX0, 0)).2.1 (z % 64)).2.1 ((vwCl.getD (z / 64) ("", TX0, 0)).2.1 (z % 64)).2.2.1 ∈ pg_TB := pg_FL_in _ (List.mem_map.mpr ⟨(own, y, z), by simpa using h, rfl⟩)
theorem pg_MLm {own y z : Nat} (h : pg_ML.contains (own, y, z) = true) : Cond.methodLink (pg_R own) y (pg_yy z) ∈ pg_TB := pg_ML_in _ (List.mem_map.mpr ⟨(own, y, z), by simpa using h, rfl⟩)
theorem pg_MMm {own y z : Nat} (h : pg_MM.contains (own, y, z) = true) : Cond.methodLink (pg_R own) y (if z = 0 then Lib.Math.max.name else Lib.Math.min.name) ∈ pg_TB := pg_MM_in _ (List.mem_map.mpr ⟨(own, y, z), by simpa using h, rfl⟩)
theorem pg_OIm {own y : Nat} (h : pg_OI.contains (own, y) = true) : Cond.methodLink (pg_R own) y Lib.objectInit ∈ pg_TB := pg_OI_in _ (List.mem_map.mpr ⟨(own, y), by simpa using h, rfl⟩)
theorem pg_CLm {own y z : Nat} (h : pg_CL.contains (own, y, z) = true) : Cond.classLink (pg_R own) y (pg_R z) ∈ pg_TB := pg_CL_in _ (List.mem_map.mpr ⟨(own, y, z), by simpa using h, rfl⟩)
theorem pg_KIm {own y : Nat} {z : Int} (h : pg_KI.contains (own, y, z) = true) : Cond.constant (pg_R own) y (Int32.ofInt z) ∈ pg_TB := pg_KI_in _ (List.mem_map.mpr ⟨(own, y, z), by simpa using h, rfl⟩)
theorem pg_KLm {own y z : Nat} (h : pg_KL.contains (own, y, z) = true) : Cond.constantLong (pg_R own) y (Int64.ofNat z) ∈ pg_TB := pg_KL_in _ (List.mem_map.mpr ⟨(own, y, z), by simpa using h, rfl⟩)
theorem pg_SFm {own y z : Nat} (h : pg_SF.contains (own, y, z) = true) : Cond.fieldLink (pg_R own) y (pg_sf z).1 (pg_sf z).2.1 (pg_sf z).2.2 ∈ pg_TB := pg_SF_in _ (List.mem_map.mpr ⟨(own, y, z), by simpa using h, rfl⟩)
theorem pg_IMm {k : Nat} (h : pg_IM.contains k = true) : Cond.instanceMethod (pg_yy k) ∈ pg_TB := pg_IM_in _ (List.mem_map.mpr ⟨k, by simpa using h, rfl⟩)
theorem pg_SMm {k : Nat} (h : pg_SM.contains k = true) : Cond.static (pg_yy k) ∈ pg_TB := pg_SM_in _ (List.mem_map.mpr ⟨k, by simpa using h, rfl⟩)
theorem pg_SEm {k : Nat} (h : pg_SE.contains k = true) : Cond.selects (pg_yy k).cls (pg_yy k) (pg_yy k) ∈ pg_TB := pg_SE_in _ (List.mem_map.mpr ⟨k, by simpa using h, rfl⟩)
theorem pg_MNm {own y z : Nat} (h : pg_MN.contains (own, y, z) = true) : Cond.methodLinkNest (pg_R own) y (pg_yy z) "FogWatch" ∈ pg_NB := pg_MN_in _ (List.mem_map.mpr ⟨(own, y, z), by simpa using h, rfl⟩)
theorem pg_STm {own y z : Nat} (h : pg_ST.contains (own, y, z) = true) : (pg_R own, y, pg_txt z, z) ∈ pg_SL := List.mem_map.mpr ⟨(own, y, z), by simpa using h, rfl⟩
theorem pg_ldm {n len : Nat} {q : Option (Nat ⊕ Fin 4)} (h : pg_ld n len q = true) : (q = some (.inl n) ∧ len = 2) ∨ ∃ k : Fin 4, q = some (.inr k) ∧ len = 1 ∧ (k : Nat) = n := by
  unfold pg_ld at h
  split at h
  · simp only [Bool.and_eq_true, decide_eq_true_eq] at h
    exact Or.inl ⟨by rw [h.1], h.2⟩
  · simp only [Bool.and_eq_true, decide_eq_true_eq] at h
    exact Or.inr ⟨_, rfl, h.2, h.1⟩
  · cases h
theorem pg_clD {c : Nat} (h : c < 13) : vwCl[c]? = some (vwCl.getD c ("", TX0, 0)) ∧ (vwCl.getD c ("", TX0, 0)).1 = pg_R c := by
  rcases (show c = 0 ∨ c = 1 ∨ c = 2 ∨ c = 3 ∨ c = 4 ∨ c = 5 ∨ c = 6 ∨ c = 7 ∨ c = 8 ∨ c = 9 ∨ c = 10 ∨ c = 11 ∨ c = 12 by omega) with rfl | rfl | rfl | rfl | rfl | rfl | rfl | rfl | rfl | rfl | rfl | rfl | rfl <;> exact ⟨rfl, rfl⟩
theorem pg_clI {c : Nat} (h : c < 13) : Cond.instantiable (vwCl.getD c ("", TX0, 0)).1 (vwCl.getD c ("", TX0, 0)).2.2 ∈ pg_TB := pg_ins_in _ (List.mem_map.mpr ⟨vwCl.getD c ("", TX0, 0), List.mem_of_getElem? (pg_clD h).1, rfl⟩)
theorem pg_decl (c : Nat) (h : c < 13) (k : Nat) : ((vwCl.getD c ("", TX0, 0)).2.1 k).1 = pg_R c := by
  rcases (show c = 0 ∨ c = 1 ∨ c = 2 ∨ c = 3 ∨ c = 4 ∨ c = 5 ∨ c = 6 ∨ c = 7 ∨ c = 8 ∨ c = 9 ∨ c = 10 ∨ c = 11 ∨ c = 12 by omega) with rfl | rfl | rfl | rfl | rfl | rfl | rfl | rfl | rfl | rfl | rfl | rfl | rfl
  all_goals (show (_ : String × String × String × Bool).1 = _; simp only [List.getD_cons_zero, List.getD_cons_succ]; (first | (simp only [TX0, pg_R]; (split <;> rfl)) | (simp only [TX1, pg_R]; (split <;> rfl)) | (simp only [TX2, pg_R]; (split <;> rfl)) | (simp only [TX3, pg_R]; rfl) | (simp only [TX4, pg_R]; (split <;> rfl)) | (simp only [TX5, pg_R]; (split <;> rfl)) | (simp only [TX6, pg_R]; (split <;> rfl)) | (simp only [TX7, pg_R]; (split <;> rfl)) | (simp only [TX8, pg_R]; (split <;> rfl)) | (simp only [TX9, pg_R]; (split <;> rfl)) | (simp only [TX10, pg_R]; (split <;> rfl)) | (simp only [TX11, pg_R]; (split <;> rfl)) | (simp only [TX12, pg_R]; (split <;> rfl))))
set_option maxHeartbeats 4000000 in
theorem pg_c1_ok {own : Nat} {ini : Bool} {rt : Option FieldType} {pc : Nat → Nat} {i : Nat} {o : Instr} {len : Nat} {ci : Instr} (h : pg_c1 own ini rt pc i o len ci = true) : fx_mt vwCl pg_fty pg_TB pg_NB pg_SL pg_yy pg_bb pg_nl pg_rr pg_na pg_hh pg_xn (pg_R own) ini rt pc i o len ci := by
  cases ci
  all_goals first | (simp only [pg_c1, Bool.and_eq_true, decide_eq_true_eq] at h; exact h; done) | skip
  all_goals simp only [pg_c1] at h
  all_goals simp only [fx_mt]
  case iconst n =>
    split at h <;> (try simp only [Bool.and_eq_true, decide_eq_true_eq] at h)
    · obtain ⟨rfl, rfl⟩ := h; exact Or.inl ⟨rfl, rfl⟩
    · obtain ⟨⟨rfl, rfl⟩, h⟩ := h; exact Or.inr (Or.inl ⟨rfl, rfl, h⟩)
    · obtain ⟨⟨rfl, rfl⟩, h⟩ := h; exact Or.inr (Or.inr (Or.inl ⟨rfl, rfl, h⟩))
    · exact Or.inr (Or.inr (Or.inr (Or.inl ⟨_, rfl, h.1, pg_KIm h.2⟩)))
    · exact Or.inr (Or.inr (Or.inr (Or.inr ⟨_, rfl, h.1, pg_KIm h.2⟩)))
    · cases h
  case ldc2_w n =>
    split at h <;> (try simp only [Bool.and_eq_true, decide_eq_true_eq] at h)
    · exact Or.inl ⟨_, rfl, h.2, h.1⟩
    · exact Or.inr ⟨_, rfl, h.1, pg_KLm h.2⟩
    · cases h
  case ldc j =>
    split at h <;> (try simp only [Bool.and_eq_true, decide_eq_true_eq] at h)
    · exact ⟨_, _, Or.inl ⟨rfl, h.1⟩, pg_STm h.2⟩
    · exact ⟨_, _, Or.inr ⟨rfl, h.1⟩, pg_STm h.2⟩
    · cases h
  case getstatic n =>
    split at h <;> (try simp only [Bool.and_eq_true, decide_eq_true_eq] at h)
    · refine ⟨_, rfl, h.1, ?_⟩
      obtain ⟨-, h⟩ := h
      split at h
      · rename_i hn; exact Or.inl ⟨hn, pg_SFm h⟩
      · rename_i hn; exact Or.inr ⟨hn, pg_SFm h⟩
    · cases h
  case invokedynamic n =>
    split at h <;> (try simp only [Bool.and_eq_true, decide_eq_true_eq] at h)
    · refine ⟨_, rfl, h.1, pg_math_in _ (by simp), ?_⟩
      obtain ⟨-, h⟩ := h
      split at h
      · rename_i hn; exact Or.inl ⟨hn, pg_MMm h, pg_math_in _ (by simp), pg_math_in _ (by simp)⟩
      · rename_i hn; exact Or.inr ⟨hn, pg_MMm h, pg_math_in _ (by simp), pg_math_in _ (by simp)⟩
    · cases h
  case iload n =>
    rcases pg_ldm h with ⟨h, h2⟩ | ⟨k, h, h2, h3⟩
    · split at h <;> cases h; exact Or.inl ⟨rfl, h2⟩
    · split at h <;> cases h; exact Or.inr ⟨_, rfl, h2, h3⟩
  case lload n =>
    rcases pg_ldm h with ⟨h, h2⟩ | ⟨k, h, h2, h3⟩
    · split at h <;> cases h; exact Or.inl ⟨rfl, h2⟩
    · split at h <;> cases h; exact Or.inr ⟨_, rfl, h2, h3⟩
  case aload n =>
    rcases pg_ldm h with ⟨h, h2⟩ | ⟨k, h, h2, h3⟩
    · split at h <;> cases h; exact Or.inl ⟨rfl, h2⟩
    · split at h <;> cases h; exact Or.inr ⟨_, rfl, h2, h3⟩
  case istore n =>
    rcases pg_ldm h with ⟨h, h2⟩ | ⟨k, h, h2, h3⟩
    · split at h <;> cases h; exact Or.inl ⟨rfl, h2⟩
    · split at h <;> cases h; exact Or.inr ⟨_, rfl, h2, h3⟩
  case lstore n =>
    rcases pg_ldm h with ⟨h, h2⟩ | ⟨k, h, h2, h3⟩
    · split at h <;> cases h; exact Or.inl ⟨rfl, h2⟩
    · split at h <;> cases h; exact Or.inr ⟨_, rfl, h2, h3⟩
  case astore n =>
    rcases pg_ldm h with ⟨h, h2⟩ | ⟨k, h, h2, h3⟩
    · split at h <;> cases h; exact Or.inl ⟨rfl, h2⟩
    · split at h <;> cases h; exact Or.inr ⟨_, rfl, h2, h3⟩
  case iinc n d =>
    split at h <;> (try simp only [Bool.and_eq_true, decide_eq_true_eq] at h)
    · obtain ⟨⟨rfl, rfl⟩, h⟩ := h; exact ⟨rfl, h⟩
    · cases h
  case goto t =>
    split at h <;> (try simp only [Bool.and_eq_true, decide_eq_true_eq] at h)
    · exact ⟨_, rfl, h.1, h.2⟩
    · cases h
  case if_icmp c t =>
    split at h <;> (try simp only [Bool.and_eq_true, decide_eq_true_eq] at h)
    · obtain ⟨⟨rfl, h1⟩, h2⟩ := h; exact ⟨_, rfl, h1, h2⟩
    · cases h
  case ifCond c t =>
    split at h <;> (try simp only [Bool.and_eq_true, decide_eq_true_eq] at h)
    · obtain ⟨⟨rfl, h1⟩, h2⟩ := h; exact ⟨_, rfl, h1, h2⟩
    · cases h
  case tableswitch d lo hi ts =>
    split at h <;> (try simp only [Bool.and_eq_true, decide_eq_true_eq] at h)
    · obtain ⟨⟨⟨rfl, rfl⟩, h1⟩, h2⟩ := h
      rename_i x _ _ xs
      refine ⟨x, xs, rfl, h1, fun j t hj => ?_⟩
      have e1 : (ts.toList.map (fun t => (pc t.toNat : Int)))[j]? = some (pc t.toNat : Int) := by rw [List.getElem?_map, Array.getElem?_toList, hj]; rfl
      rw [← h2, List.getElem?_map, Array.getElem?_toList] at e1
      cases hy : xs[j]? with
      | none => rw [hy] at e1; cases e1
      | some y => rw [hy] at e1; exact ⟨y, rfl, Option.some.inj e1⟩
    · cases h
  case getfield x =>
    split at h <;> (try simp only [Bool.and_eq_true, decide_eq_true_eq] at h)
    · obtain ⟨⟨⟨h1, h2⟩, h3⟩, h4⟩ := h
      have h5 := pg_FLm h2
      rw [show x / 2 / 64 = x / 128 by omega, show x / 2 % 64 = x % 128 / 2 by omega] at h5
      exact ⟨_, _, rfl, h1, (pg_clD h3).1, h4, h5⟩
    · cases h
  case putfield x =>
    split at h <;> (try simp only [Bool.and_eq_true, Bool.or_eq_true, decide_eq_true_eq, Bool.not_eq_true'] at h)
    · obtain ⟨⟨⟨⟨⟨h1, h2⟩, h3⟩, h4⟩, h6⟩, h7⟩ := h
      have h5 := pg_FLm h2
      rw [show x / 2 / 64 = x / 128 by omega, show x / 2 % 64 = x % 128 / 2 by omega] at h5
      refine ⟨_, _, rfl, h1, (pg_clD h3).1, h4, h5, h6, ?_⟩
      cases hq : ((vwCl.getD (x / 128) ("", TX0, 0)).2.1 (x % 128 / 2)).2.2.2 with
      | false => exact Or.inl rfl
      | true =>
        rcases h7 with h7 | h7
        · rw [hq] at h7; cases h7
        · exact Or.inr ⟨rfl, h7.1, by rw [pg_decl _ h3, h7.2]⟩
    · cases h
  case faload =>
    split at h <;> (try simp only [decide_eq_true_eq] at h)
    · exact ⟨rfl, h⟩
    · cases h
  case checkcast x =>
    split at h <;> (try simp only [Bool.and_eq_true, decide_eq_true_eq] at h)
    · refine ⟨_, rfl, h.1, ?_⟩
      obtain ⟨-, h⟩ := h
      split at h
      · rename_i hn; exact Or.inl ⟨hn, pg_SFm h⟩
      · rename_i hn; exact Or.inr ⟨hn, pg_SFm h⟩
    · cases h
  case new x =>
    split at h <;> (try simp only [Bool.and_eq_true, decide_eq_true_eq] at h)
    · obtain ⟨⟨h1, h2⟩, h3⟩ := h
      have h4 := pg_CLm h3
      rw [← (pg_clD h2).2] at h4
      refine ⟨_, _, rfl, h1, (pg_clD h2).1, h4, pg_clI h2, ?_⟩
      rw [(pg_clD h2).2]
      exact pg_ini x (by omega)
    · cases h
  case newarray t =>
    split at h <;> (try simp only [Bool.and_eq_true, decide_eq_true_eq] at h)
    · obtain ⟨⟨rfl, h1⟩, h2⟩ := h
      rename_i u
      refine ⟨rfl, h1, h2, ?_⟩
      cases u <;> first | (exfalso; simp [fx_tagA] at h2; done) | exact pg_arr_in _ (by simp [newarray.typeOf])
    · cases h
  case anewarray t =>
    split at h <;> (try simp only [Bool.and_eq_true, Bool.or_eq_true, decide_eq_true_eq] at h)
    · refine ⟨_, rfl, h.1, ?_⟩
      rcases h.2 with ⟨rfl, h2⟩ | ⟨rfl, h2⟩
      · exact ⟨Or.inl rfl, pg_CLm h2⟩
      · exact ⟨Or.inr rfl, pg_CLm h2⟩
    · cases h
  case invokespecial x =>
    split at h <;> (try simp only [Bool.and_eq_true, decide_eq_true_eq] at h)
    · exact ⟨_, rfl, h.1, pg_OIm h.2⟩
    · cases h
  case invokeinterface k x =>
    simp only [Bool.and_eq_true, decide_eq_true_eq, List.isEmpty_iff] at h
    obtain ⟨⟨⟨⟨⟨⟨⟨h1, h2⟩, h3⟩, h4⟩, h5⟩, h6⟩, h7⟩, h8⟩ := h
    refine ⟨pg_ok k h1, h2, ⟨_, (pg_clD h3).1, ?_⟩, h5, pg_IMm h6, h7, ?_⟩
    · rw [(pg_clD h3).2, ← h4]; rfl
    · split at h8 <;> (try simp only [Bool.and_eq_true, Bool.or_eq_true, decide_eq_true_eq] at h8)
      · exact Or.inl ⟨h8.1.1, _, rfl, pg_MLm h8.1.2, pg_SEm h8.2⟩
      · obtain ⟨⟨⟨g1, g2⟩, g3⟩, g4⟩ := h8
        rcases g4 with g4 | g4
        · exact Or.inr (Or.inl ⟨g1, _, rfl, g2, g3, pg_MLm g4⟩)
        · exact Or.inr (Or.inr ⟨g1, _, _, rfl, g2, g3, pg_MNm g4⟩)
      · cases h8
  case invokevirtual x =>
    simp only [Bool.and_eq_true, decide_eq_true_eq, List.isEmpty_iff] at h
    obtain ⟨⟨⟨⟨⟨⟨h1, h2⟩, h4⟩, h5⟩, h6⟩, h7⟩, h8⟩ := h
    refine ⟨pg_ok _ h1, h2, ?_, h5, pg_IMm h6, h7, ?_⟩
    · show pg_R (pg_own (x / 16)) = _
      rw [h4]; rfl
    · split at h8 <;> (try simp only [Bool.and_eq_true, decide_eq_true_eq] at h8)
      · exact ⟨_, rfl, pg_MLm h8.1, pg_SEm h8.2⟩
      · cases h8
  case multianewarray k n =>
    simp only [Bool.and_eq_true, decide_eq_true_eq] at h
    obtain ⟨⟨⟨⟨h1, h2⟩, h3⟩, h4⟩, h5⟩ := h
    refine ⟨pg_ok _ h1, h2, pg_SMm h3, h4, ?_⟩
    split at h5
    · rename_i y
      refine ⟨y, rfl, ?_⟩
      simp only [Bool.and_eq_true, Bool.or_eq_true, decide_eq_true_eq, List.isEmpty_iff, Bool.not_eq_true'] at h5
      rcases h5 with ⟨g1, g2⟩ | ⟨⟨g1, g2⟩, g3⟩
      · refine Or.inl ⟨pg_MLm g1, ?_⟩
        rcases g2 with g2 | g2
        · exact Or.inl g2
        · exact Or.inr ⟨fun q => by rw [q] at g2; exact absurd g2.1 (by decide), g2.2⟩
      · exact Or.inr ⟨g1, g2, _, pg_MNm g3⟩
    · cases h5
  case ireturn =>
    split at h <;> (try simp only [Bool.and_eq_true, decide_eq_true_eq] at h)
    · exact ⟨rfl, h.1, h.2⟩
    · cases h
  case freturn =>
    split at h <;> (try simp only [Bool.and_eq_true, Bool.or_eq_true, decide_eq_true_eq] at h)
    · exact ⟨rfl, h.1, h.2⟩
    · cases h
  case dreturn =>
    split at h <;> (try simp only [Bool.and_eq_true, decide_eq_true_eq] at h)
    · exact ⟨rfl, h.1, h.2⟩
    · cases h
  case lreturn =>
    split at h <;> (try simp only [Bool.and_eq_true, decide_eq_true_eq] at h)
    · exact ⟨rfl, h.1, h.2⟩
    · cases h
  case return_ =>
    split at h <;> (try simp only [Bool.and_eq_true, decide_eq_true_eq] at h)
    · exact ⟨rfl, h.1, h.2⟩
    · cases h
  case jsr t =>
    split at h <;> (try simp only [Bool.and_eq_true, decide_eq_true_eq] at h)
    · exact ⟨_, rfl, h.1.1, pg_CLm h.1.2, pg_ini _ h.2⟩
    · cases h
