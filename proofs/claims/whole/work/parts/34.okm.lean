/-! ===== the methods that may be called ===== -/
/-- the methods that may be called -/
noncomputable def pg_okB (k : Nat) : Bool := decide ((pg_yy k).cls ≠ "java/lang/invoke/MethodHandle") && decide ((pg_yy k).cls ≠ "java/lang/invoke/VarHandle") && decide ((parseMethodDescriptor (pg_yy k).desc).map (fun d => d.parameters.length) = some (pg_na k)) && plainName (pg_yy k).cls && decide (pg_own k < 22) && decide (pg_nl k ≤ 40)
set_option maxRecDepth 100000 in
theorem pg_okA : ∀ k ∈ List.range 120, pg_okB k = true := List.all_eq_true.mp (by decide +kernel)
set_option maxRecDepth 100000 in
theorem pg_okA2 : ∀ k ∈ List.range 120, pg_okB (120 + k) = true := List.all_eq_true.mp (by decide +kernel)
set_option maxRecDepth 100000 in
theorem pg_okA3 : ∀ k ∈ List.range 101, pg_okB (240 + k) = true := List.all_eq_true.mp (by decide +kernel)
theorem pg_okC (k : Nat) (h : k < 341) : pg_okB k = true := by
  by_cases h1 : k < 120
  · exact pg_okA k (List.mem_range.mpr h1)
  · by_cases h2 : k < 240
    · have := pg_okA2 (k - 120) (List.mem_range.mpr (by omega))
      rwa [show 120 + (k - 120) = k by omega] at this
    · have := pg_okA3 (k - 240) (List.mem_range.mpr (by omega))
      rwa [show 240 + (k - 240) = k by omega] at this
theorem pg_ini (k : Nat) (h : k < 22) : Cond.initialized (pg_R k) ∈ pg_TB := pg_ini_in _ (List.mem_map.mpr ⟨k, List.mem_range.mpr h, rfl⟩)
theorem pg_ok (k : Nat) (h : k < 341) : fx_ok pg_TB pg_yy pg_bb pg_nl pg_rr pg_na pg_hh k := by
  have h1 := pg_okC k h
  simp only [pg_okB, Bool.and_eq_true, decide_eq_true_eq] at h1
  obtain ⟨⟨⟨⟨⟨a1, a2⟩, a3⟩, a4⟩, a5⟩, a6⟩ := h1
  exact ⟨a1, a2, a3, a4, pg_ini _ a5, pg_cw_in k h, a6⟩
