theorem pd_0 : ∀ (b0 : Nat) (ex : Nat → Nat) (j : Nat), j < 10 → defaultValue (pg_fty 0 j) = vp_V ((pg_df 0).map (fx_tr b0 ex)) j := by
  intro b0 ex j hj
  rcases (show j = 0 ∨ j = 1 ∨ j = 2 ∨ j = 3 ∨ j = 4 ∨ j = 5 ∨ j = 6 ∨ j = 7 ∨ j = 8 ∨ j = 9 by omega) with rfl | rfl | rfl | rfl | rfl | rfl | rfl | rfl | rfl | rfl <;> rfl
theorem pd_1 : ∀ (b0 : Nat) (ex : Nat → Nat) (j : Nat), j < 5 → defaultValue (pg_fty 1 j) = vp_V ((pg_df 1).map (fx_tr b0 ex)) j := by
  intro b0 ex j hj
  rcases (show j = 0 ∨ j = 1 ∨ j = 2 ∨ j = 3 ∨ j = 4 by omega) with rfl | rfl | rfl | rfl | rfl <;> rfl
theorem pd_2 : ∀ (b0 : Nat) (ex : Nat → Nat) (j : Nat), j < 5 → defaultValue (pg_fty 2 j) = vp_V ((pg_df 2).map (fx_tr b0 ex)) j := by
  intro b0 ex j hj
  rcases (show j = 0 ∨ j = 1 ∨ j = 2 ∨ j = 3 ∨ j = 4 by omega) with rfl | rfl | rfl | rfl | rfl <;> rfl
theorem pd_3 : ∀ (b0 : Nat) (ex : Nat → Nat) (j : Nat), j < 1 → defaultValue (pg_fty 3 j) = vp_V ((pg_df 3).map (fx_tr b0 ex)) j := by
  intro b0 ex j hj
  rcases (show j = 0 by omega) with rfl <;> rfl
theorem pd_4 : ∀ (b0 : Nat) (ex : Nat → Nat) (j : Nat), j < 7 → defaultValue (pg_fty 4 j) = vp_V ((pg_df 4).map (fx_tr b0 ex)) j := by
  intro b0 ex j hj
  rcases (show j = 0 ∨ j = 1 ∨ j = 2 ∨ j = 3 ∨ j = 4 ∨ j = 5 ∨ j = 6 by omega) with rfl | rfl | rfl | rfl | rfl | rfl | rfl <;> rfl
theorem pd_5 : ∀ (b0 : Nat) (ex : Nat → Nat) (j : Nat), j < 6 → defaultValue (pg_fty 5 j) = vp_V ((pg_df 5).map (fx_tr b0 ex)) j := by
  intro b0 ex j hj
  rcases (show j = 0 ∨ j = 1 ∨ j = 2 ∨ j = 3 ∨ j = 4 ∨ j = 5 by omega) with rfl | rfl | rfl | rfl | rfl | rfl <;> rfl
theorem pd_6 : ∀ (b0 : Nat) (ex : Nat → Nat) (j : Nat), j < 3 → defaultValue (pg_fty 6 j) = vp_V ((pg_df 6).map (fx_tr b0 ex)) j := by
  intro b0 ex j hj
  rcases (show j = 0 ∨ j = 1 ∨ j = 2 by omega) with rfl | rfl | rfl <;> rfl
theorem pd_7 : ∀ (b0 : Nat) (ex : Nat → Nat) (j : Nat), j < 7 → defaultValue (pg_fty 7 j) = vp_V ((pg_df 7).map (fx_tr b0 ex)) j := by
  intro b0 ex j hj
  rcases (show j = 0 ∨ j = 1 ∨ j = 2 ∨ j = 3 ∨ j = 4 ∨ j = 5 ∨ j = 6 by omega) with rfl | rfl | rfl | rfl | rfl | rfl | rfl <;> rfl
theorem pd_8 : ∀ (b0 : Nat) (ex : Nat → Nat) (j : Nat), j < 7 → defaultValue (pg_fty 8 j) = vp_V ((pg_df 8).map (fx_tr b0 ex)) j := by
  intro b0 ex j hj
  rcases (show j = 0 ∨ j = 1 ∨ j = 2 ∨ j = 3 ∨ j = 4 ∨ j = 5 ∨ j = 6 by omega) with rfl | rfl | rfl | rfl | rfl | rfl | rfl <;> rfl
theorem pd_9 : ∀ (b0 : Nat) (ex : Nat → Nat) (j : Nat), j < 6 → defaultValue (pg_fty 9 j) = vp_V ((pg_df 9).map (fx_tr b0 ex)) j := by
  intro b0 ex j hj
  rcases (show j = 0 ∨ j = 1 ∨ j = 2 ∨ j = 3 ∨ j = 4 ∨ j = 5 by omega) with rfl | rfl | rfl | rfl | rfl | rfl <;> rfl
theorem pd_10 : ∀ (b0 : Nat) (ex : Nat → Nat) (j : Nat), j < 2 → defaultValue (pg_fty 10 j) = vp_V ((pg_df 10).map (fx_tr b0 ex)) j := by
  intro b0 ex j hj
  rcases (show j = 0 ∨ j = 1 by omega) with rfl | rfl <;> rfl
theorem pd_11 : ∀ (b0 : Nat) (ex : Nat → Nat) (j : Nat), j < 20 → defaultValue (pg_fty 11 j) = vp_V ((pg_df 11).map (fx_tr b0 ex)) j := by
  intro b0 ex j hj
  rcases (show j = 0 ∨ j = 1 ∨ j = 2 ∨ j = 3 ∨ j = 4 ∨ j = 5 ∨ j = 6 ∨ j = 7 ∨ j = 8 ∨ j = 9 ∨ j = 10 ∨ j = 11 ∨ j = 12 ∨ j = 13 ∨ j = 14 ∨ j = 15 ∨ j = 16 ∨ j = 17 ∨ j = 18 ∨ j = 19 by omega) with rfl | rfl | rfl | rfl | rfl | rfl | rfl | rfl | rfl | rfl | rfl | rfl | rfl | rfl | rfl | rfl | rfl | rfl | rfl | rfl <;> rfl
theorem pd_12 : ∀ (b0 : Nat) (ex : Nat → Nat) (j : Nat), j < 59 → defaultValue (pg_fty 12 j) = vp_V ((pg_df 12).map (fx_tr b0 ex)) j := by
  intro b0 ex j hj
  rcases (show j = 0 ∨ j = 1 ∨ j = 2 ∨ j = 3 ∨ j = 4 ∨ j = 5 ∨ j = 6 ∨ j = 7 ∨ j = 8 ∨ j = 9 ∨ j = 10 ∨ j = 11 ∨ j = 12 ∨ j = 13 ∨ j = 14 ∨ j = 15 ∨ j = 16 ∨ j = 17 ∨ j = 18 ∨ j = 19 ∨ j = 20 ∨ j = 21 ∨ j = 22 ∨ j = 23 ∨ j = 24 ∨ j = 25 ∨ j = 26 ∨ j = 27 ∨ j = 28 ∨ j = 29 ∨ j = 30 ∨ j = 31 ∨ j = 32 ∨ j = 33 ∨ j = 34 ∨ j = 35 ∨ j = 36 ∨ j = 37 ∨ j = 38 ∨ j = 39 ∨ j = 40 ∨ j = 41 ∨ j = 42 ∨ j = 43 ∨ j = 44 ∨ j = 45 ∨ j = 46 ∨ j = 47 ∨ j = 48 ∨ j = 49 ∨ j = 50 ∨ j = 51 ∨ j = 52 ∨ j = 53 ∨ j = 54 ∨ j = 55 ∨ j = 56 ∨ j = 57 ∨ j = 58 by omega) with rfl | rfl | rfl | rfl | rfl | rfl | rfl | rfl | rfl | rfl | rfl | rfl | rfl | rfl | rfl | rfl | rfl | rfl | rfl | rfl | rfl | rfl | rfl | rfl | rfl | rfl | rfl | rfl | rfl | rfl | rfl | rfl | rfl | rfl | rfl | rfl | rfl | rfl | rfl | rfl | rfl | rfl | rfl | rfl | rfl | rfl | rfl | rfl | rfl | rfl | rfl | rfl | rfl | rfl | rfl | rfl | rfl | rfl | rfl <;> rfl
theorem pg_clOk : fx_clOk vwCl pg_fty pg_TB pg_df := by
  intro ci r h
  have hlt : ci < 13 := (List.getElem?_eq_some_iff.mp h).1
  refine ⟨by omega, ?_⟩
  rcases (show ci = 0 ∨ ci = 1 ∨ ci = 2 ∨ ci = 3 ∨ ci = 4 ∨ ci = 5 ∨ ci = 6 ∨ ci = 7 ∨ ci = 8 ∨ ci = 9 ∨ ci = 10 ∨ ci = 11 ∨ ci = 12 by omega) with rfl | rfl | rfl | rfl | rfl | rfl | rfl | rfl | rfl | rfl | rfl | rfl | rfl
  · cases h; exact ⟨pg_lay0, tyX0_ok, nmX0, rfl, pd_0⟩
  · cases h; exact ⟨pg_lay1, tyX1_ok, nmX1, rfl, pd_1⟩
  · cases h; exact ⟨pg_lay2, tyX2_ok, nmX2, rfl, pd_2⟩
  · cases h; exact ⟨pg_lay3, tyX3_ok, nmX3, rfl, pd_3⟩
  · cases h; exact ⟨pg_lay4, tyX4_ok, nmX4, rfl, pd_4⟩
  · cases h; exact ⟨pg_lay5, tyX5_ok, nmX5, rfl, pd_5⟩
  · cases h; exact ⟨pg_lay6, tyX6_ok, nmX6, rfl, pd_6⟩
  · cases h; exact ⟨pg_lay7, tyX7_ok, nmX7, rfl, pd_7⟩
  · cases h; exact ⟨pg_lay8, tyX8_ok, nmX8, rfl, pd_8⟩
  · cases h; exact ⟨pg_lay9, tyX9_ok, nmX9, rfl, pd_9⟩
  · cases h; exact ⟨pg_lay10, tyX10_ok, nmX10, rfl, pd_10⟩
  · cases h; exact ⟨pg_lay11, tyX11_ok, nmX11, rfl, pd_11⟩
  · cases h; exact ⟨pg_lay12, tyX12_ok, nmX12, rfl, pd_12⟩
theorem pg_All : fx_All vwCl pg_fty pg_TB pg_NB pg_df := by
  refine ⟨fun w hw => (List.mem_filter.mp hw).2, fun w hw => (List.mem_filter.mp hw).2, pg_clOk, fun t ht => ?_, pg_obj_in _ (by simp), pg_obj_in _ (by simp)⟩
  rcases ht with rfl | rfl
  · exact ⟨_, rfl, rfl⟩
  · exact ⟨_, rfl, rfl⟩
