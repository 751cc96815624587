/-! ===== the start: texts, classes, statics ===== -/
theorem tx_lt (j : Nat) (hj : j < 18) : (pg_tx.getD j []).length < 2 ^ 31 := by
  rcases (show j = 0 ∨ j = 1 ∨ j = 2 ∨ j = 3 ∨ j = 4 ∨ j = 5 ∨ j = 6 ∨ j = 7 ∨ j = 8 ∨ j = 9 ∨ j = 10 ∨ j = 11 ∨ j = 12 ∨ j = 13 ∨ j = 14 ∨ j = 15 ∨ j = 16 ∨ j = 17 by omega) with rfl | rfl | rfl | rfl | rfl | rfl | rfl | rfl | rfl | rfl | rfl | rfl | rfl | rfl | rfl | rfl | rfl | rfl <;> decide +kernel
theorem tx_ln9 (j : Nat) (hj : j < 18) : (pg_tx.map List.length).getD j 0 = (pg_tx.getD j []).length := by
  rcases (show j = 0 ∨ j = 1 ∨ j = 2 ∨ j = 3 ∨ j = 4 ∨ j = 5 ∨ j = 6 ∨ j = 7 ∨ j = 8 ∨ j = 9 ∨ j = 10 ∨ j = 11 ∨ j = 12 ∨ j = 13 ∨ j = 14 ∨ j = 15 ∨ j = 16 ∨ j = 17 by omega) with rfl | rfl | rfl | rfl | rfl | rfl | rfl | rfl | rfl | rfl | rfl | rfl | rfl | rfl | rfl | rfl | rfl | rfl <;> rfl
/-- two texts of the same bytes are one -/
theorem tx_ne : ∀ i, i < 18 → ∀ j, j < 18 → pg_tx.getD i [] = pg_tx.getD j [] → i = j := by decide +kernel
theorem tx_one {s : State} {args : Array Value} {A : Nat → Prop} (hfl : ∀ w ∈ gv_L, w.before args s = true) (hA : ∀ a : Nat, a < s.heap.size → ¬ A a) (j : Nat) (hj : j < 18) : ∃ q : Nat × Nat, (tx_t j).eval args s none [] s = some (.ref q.1) ∧ va_O "java/lang/String" q.1 A s s.heap ∧ va_OF "java/lang/String" "coder" "B" (.int 0) q.1 A s s.heap ∧ va_OF "java/lang/String" "value" "[B" (.ref q.2) q.1 A s s.heap ∧ va_T .byte q.2 (pg_tx.getD j []).length (fun k => .int ((pg_tx.getD j []).getD k 0)) A s s.heap := by
  have hin : ∀ w ∈ tx_w j (pg_tx.getD j []), w.before args s = true := fun w hw => hfl w (tx_in j hj w hw)
  have hlen := tx_lt j hj
  generalize pg_tx.getD j [] = l at hin hlen ⊢
  obtain ⟨adK, adV, h1, h2⟩ := vk_Sof (N := 1) (tm := fun _ => tx_t j) (len := [l.length]) (byt := [l]) (A := A) (args := args) (s := s)
    (fun i hi => by obtain rfl : i = 0 := by omega
                    exact hlen)
    (fun i hi => hin _ (List.mem_append_left _ List.mem_cons_self))
    (fun i hi => hin _ (List.mem_append_left _ (List.mem_cons_of_mem _ List.mem_cons_self)))
    (fun i hi => hin _ (List.mem_append_left _ (List.mem_cons_of_mem _ (List.mem_cons_of_mem _ List.mem_cons_self))))
    (fun i hi => by obtain rfl : i = 0 := by omega
                    exact hin _ (List.mem_append_left _ (List.mem_cons_of_mem _ (List.mem_cons_of_mem _ (List.mem_cons_of_mem _ List.mem_cons_self)))))
    (fun i hi k hk => by obtain rfl : i = 0 := by omega
                         exact hin _ (List.mem_append_right _ (List.mem_map.mpr ⟨k, List.mem_range.mpr hk, rfl⟩)))
    (fun i k hi hk hne => absurd (by omega : i = k) hne) hA
  exact ⟨(adK 0, adV 0), h2 0 (by omega), (h1.1 0 (by omega)).1, (h1.1 0 (by omega)).2.1, (h1.1 0 (by omega)).2.2.1, (h1.1 0 (by omega)).2.2.2⟩
theorem va_OF_u {o n d : String} {v v' : Value} {t : Nat} {A : Nat → Prop} {U : State} {H : Heap} (h : va_OF o n d v t A U H) (h' : va_OF o n d v' t A U H) : v = v' := by
  obtain ⟨cf, k, i, f, cell, a1, a2, a3, a4, a5, a6⟩ := h
  obtain ⟨cf', k', i', f', cell', b1, b2, b3, b4, b5, b6⟩ := h'
  rw [a1] at b1
  cases b1
  rw [a3] at b3
  cases b3
  rw [a5] at b5
  exact Option.some.inj b5
theorem va_T_u {t : Nat} {l l' : List Int32} {A : Nat → Prop} {U : State} {H : Heap} (hl : l.length < 2 ^ 31) (hl' : l'.length < 2 ^ 31) (h : va_T .byte t l.length (fun k => .int (l.getD k 0)) A U H) (h' : va_T .byte t l'.length (fun k => .int (l'.getD k 0)) A U H) : l = l' := by
  obtain ⟨cell, a1, a2, a3, a4, a5, a6, a7⟩ := h
  obtain ⟨cell', b1, b2, b3, b4, b5, b6, b7⟩ := h'
  rw [a1] at b1
  cases b1
  have e : l.length = l'.length := (nI_eq (by omega) (by omega)).mp (show Int32.ofNat l.length = Int32.ofNat l'.length from a5.symm.trans b5)
  apply List.ext_getElem?
  intro k
  by_cases hk : k < l.length
  · have c1 := a6 k hk
    have c2 := b6 k (by omega)
    rw [c1] at c2
    have c3 : l.getD k 0 = l'.getD k 0 := by
      have := Option.some.inj c2
      injection this
    rw [List.getD_eq_getElem?_getD, List.getD_eq_getElem?_getD] at c3
    rw [List.getElem?_eq_getElem hk, List.getElem?_eq_getElem (show k < l'.length by omega)] at c3 ⊢
    exact congrArg some c3
  · rw [List.getElem?_eq_none (by omega), List.getElem?_eq_none (by omega)]
/-- where what stays lies: the script, the texts, their bytes, and one static -/
def st_ex (b F : Nat) (ad : Nat → Nat × Nat) (n : Nat) : Nat := if n = 0 then b else if n = 999999 then F else if n % 2 = 1 then (ad (n / 2)).1 else (ad (n / 2 - 1)).2
theorem st_ex1 {b F : Nat} {ad : Nat → Nat × Nat} {j : Nat} (hj : j < 18) : st_ex b F ad (2 * j + 1) = (ad j).1 := by
  unfold st_ex
  rw [if_neg (by omega), if_neg (by omega), if_pos (by omega), show (2 * j + 1) / 2 = j by omega]
theorem st_ex2 {b F : Nat} {ad : Nat → Nat × Nat} {j : Nat} (hj : j < 18) : st_ex b F ad (2 * j + 2) = (ad j).2 := by
  unfold st_ex
  rw [if_neg (by omega), if_neg (by omega), if_neg (by omega), show (2 * j + 2) / 2 - 1 = j by omega]
set_option maxHeartbeats 1000000 in
theorem st_law {s : State} {b L : Nat} {xs : Nat → Int32} {args : Array Value} (hts : ∀ w ∈ lw_tbl, w.before args s = true) (hX : va_X b L xs s s.heap) (hbl : b < s.heap.size) (hgv : (Jvm.Cond.and given_1 narrow_1).before args s = true) : ∃ (ex cy : Nat → Nat) (D : va_G), ex 0 = b ∧ fx_St s.heap.size ex cy D vwCl (L, xs) pg_tx pg_NB pg_SL s s.heap := by
  have hfl : ∀ w ∈ gv_L, w.before args s = true := flat_of_before _ hgv
  have hA : ∀ a : Nat, a < s.heap.size → ¬ (fun q => s.heap.size ≤ q) a := fun a h => Nat.not_le.mpr h
  have hTB : ∀ w ∈ pg_TB, w.before args s = true := fun w hw => hts w (List.mem_filter.mp hw).1
  have hst : ∀ w ∈ st_w, w.before args s = true := fun w hw => hts w (st_wi w hw)
  have hsg : ∀ w ∈ st_g, w.before args s = true := fun w hw => hfl w (st_gi w hw)
  -- classes
  have hcl : ∀ ci : Nat, ∃ q : ClassId × (Nat → Nat), ∀ r : vw_C, vwCl[ci]? = some r → u_Kn s r.1 r.2.1 r.2.2 q.1 q.2 := by
    intro ci
    cases hr : vwCl[ci]? with
    | none => exact ⟨(0, fun _ => 0), fun r h => by cases h⟩
    | some r =>
      obtain ⟨-, h1, -⟩ := pg_clOk ci r hr
      obtain ⟨cC, iS, hk⟩ := u_known (n := r.2.2) hTB h1 (hTB _ (pg_ins_in _ (List.mem_map.mpr ⟨r, List.mem_of_getElem? hr, rfl⟩)))
      exact ⟨(cC, iS), fun r' h => by cases h; exact hk⟩
  obtain ⟨dd, hdd⟩ := Classical.axiomOfChoice hcl
  -- rows
  obtain ⟨y0, k0, p0, a0, a1, a2⟩ := Cond.arrayClass_spec (hst (Cond.arrayClass .byte) (List.mem_of_getElem? (i := 7) rfl))
  obtain ⟨y1, k1, p1, b0, b1, b2⟩ := Cond.arrayClass_spec (hst (Cond.arrayClass .int) (List.mem_of_getElem? (i := 8) rfl))
  obtain ⟨y2, k2, p2, c0, c1, c2⟩ := Cond.arrayClass_spec (hst (Cond.arrayClass .long) (List.mem_of_getElem? (i := 9) rfl))
  have hS1 := hst (Cond.arrayOver (.object "FogWatch$Scene")) (List.mem_of_getElem? (i := 10) rfl)
  have hS2 := hst (Cond.arrayOver (.object "FogWatch$Story")) (List.mem_of_getElem? (i := 11) rfl)
  obtain ⟨p3, y3, k3, d0, -, d2, d3, d4⟩ := Cond.arrayOver_spec hS1
  obtain ⟨p4, y4, k4, e0, -, e2, e3, e4⟩ := Cond.arrayOver_spec hS2
  -- texts
  have htx : ∀ j : Nat, ∃ q : Nat × Nat, j < 18 → (tx_t j).eval args s none [] s = some (.ref q.1) ∧ va_O "java/lang/String" q.1 (fun q => s.heap.size ≤ q) s s.heap ∧ va_OF "java/lang/String" "coder" "B" (.int 0) q.1 (fun q => s.heap.size ≤ q) s s.heap ∧ va_OF "java/lang/String" "value" "[B" (.ref q.2) q.1 (fun q => s.heap.size ≤ q) s s.heap ∧ va_T .byte q.2 (pg_tx.getD j []).length (fun k => .int ((pg_tx.getD j []).getD k 0)) (fun q => s.heap.size ≤ q) s s.heap := by
    intro j
    by_cases hj : j < 18
    · obtain ⟨q, hq⟩ := tx_one hfl hA j hj
      exact ⟨q, fun _ => hq⟩
    · exact ⟨(0, 0), fun h => absurd h hj⟩
  obtain ⟨ad, had⟩ := Classical.axiomOfChoice htx
  -- one static
  obtain ⟨F, hF⟩ : ∃ F : Nat, va_Z "jdk/internal/util/Preconditions" "SIOOBE_FORMATTER" "Ljava/util/function/BiFunction;" (match F with
    | 0 => .null
    | t + 1 => .ref t) (fun q => s.heap.size ≤ q) s s.heap := by
    rcases va_Zqof (A := fun q => s.heap.size ≤ q) (hst (Cond.laysStatic "jdk/internal/util/Preconditions" "SIOOBE_FORMATTER" "Ljava/util/function/BiFunction;") (List.mem_of_getElem? (i := 3) rfl)) (hst (Cond.initialized "jdk/internal/util/Preconditions") (List.mem_of_getElem? (i := 6) rfl)) (hsg (Cond.isRef (.static "jdk/internal/util/Preconditions" "SIOOBE_FORMATTER" "Ljava/util/function/BiFunction;")) (List.mem_of_getElem? (i := 3) rfl)) hA with h | ⟨t, h⟩
    · exact ⟨0, h⟩
    · exact ⟨t + 1, h⟩
  refine ⟨st_ex b F ad, fun t => [y0, y1, y2, y3, y4].getD t 0, (fun c => (dd c).1, fun c => (dd c).2), rfl, ?_, ?_, ?_, ?_, ?_, hX, hbl, ?_, ?_, ?_, ?_, ?_, Nat.le_refl _, hF⟩
  · refine ⟨fun c q hq => hdd c q hq, fun k q hk => ?_⟩
    have hk5 : k < 5 := (List.getElem?_eq_some_iff.mp hk).1
    rcases (show k = 0 ∨ k = 1 ∨ k = 2 ∨ k = 3 ∨ k = 4 by omega) with rfl | rfl | rfl | rfl | rfl <;> cases hk
    · exact ⟨fun n z => ⟨fun k h => (by cases h), k0, a1, p0, a2⟩, a0⟩
    · exact ⟨fun n z => ⟨fun k h => (by cases h), k1, b1, p1, b2⟩, b0⟩
    · exact ⟨fun n z => ⟨fun k h => (by cases h), k2, c1, p2, c2⟩, c0⟩
    · exact ⟨fun n z => ⟨fun k h => (by cases h), k3, d2, p3, d3⟩, k3, p3, d2, d3, d0, d4⟩
    · exact ⟨fun n z => ⟨fun k h => (by cases h), k4, e2, p4, e3⟩, k4, p4, e2, e3, e0, e4⟩
  · refine ⟨fun i hi => ?_, fun i j hi hj e => ?_⟩
    · have hi : i < 18 := hi
      dsimp only
      rw [st_ex1 hi, st_ex2 hi, tx_ln9 i hi]
      obtain ⟨-, g1, g2, g3, g4⟩ := had i hi
      exact ⟨g1, g2, g3, g4⟩
    · have hi : i < 18 := hi
      have hj : j < 18 := hj
      dsimp only at e
      rw [st_ex1 hi, st_ex1 hj] at e
      obtain ⟨-, -, -, g3, g4⟩ := had i hi
      obtain ⟨-, -, -, q3, q4⟩ := had j hj
      rw [← e] at q3
      have e2 := va_OF_u g3 q3
      injection e2 with e2
      rw [← e2] at q4
      exact tx_ne i hi j hj (va_T_u (tx_lt i hi) (tx_lt j hj) g4 q4)
  · intro q hq
    have hr := tx_ri _ (List.mem_map.mpr ⟨q, hq, rfl⟩)
    obtain ⟨z, hz, rfl⟩ := List.mem_map.mp hq
    obtain ⟨h18, h1⟩ := tx_sp z hz
    show vk_R (pg_R z.1) z.2.1 (pg_txt z.2.2) (st_ex b F ad (2 * z.2.2 + 1)) s
    rw [st_ex1 h18]
    refine vk_R.of (hts _ hr) ?_
    rcases h1 with h1 | h1
    · rw [← h1]; exact (had _ h18).1
    · exact va_eqR (hfl _ (tx_oi _ (List.mem_map.mpr ⟨z, h1, rfl⟩))) (had _ h18).1
  · exact vx_Zqof (hst (Cond.laysStatic Bundle.tN "UNASSIGNED_STACK" Bundle.steD) (List.mem_of_getElem? (i := 0) rfl)) (hst (Cond.initialized Bundle.tN) (List.mem_of_getElem? (i := 4) rfl)) (hsg (Cond.isRef (.static Bundle.tN "UNASSIGNED_STACK" Bundle.steD)) (List.mem_of_getElem? (i := 0) rfl)) hA
  · exact vx_Zqof (hst (Cond.laysStatic Bundle.tN "SUPPRESSED_SENTINEL" Bundle.listD) (List.mem_of_getElem? (i := 1) rfl)) (hst (Cond.initialized Bundle.tN) (List.mem_of_getElem? (i := 4) rfl)) (hsg (Cond.isRef (.static Bundle.tN "SUPPRESSED_SENTINEL" Bundle.listD)) (List.mem_of_getElem? (i := 1) rfl)) hA
  · exact va_Zof (hst (Cond.laysStatic "java/lang/String" "COMPACT_STRINGS" "Z") (List.mem_of_getElem? (i := 2) rfl)) (hst (Cond.initialized "java/lang/String") (List.mem_of_getElem? (i := 5) rfl)) (va_eqt (hsg (Cond.eq (.static "java/lang/String" "COMPACT_STRINGS" "Z") (.int 1)) (List.mem_of_getElem? (i := 2) rfl))) hA
  · intro w hw
    obtain ⟨h1, h2⟩ := List.mem_filter.mp hw
    have h3 := hts w (List.mem_append_right _ h1)
    cases w <;> first | exact va_Nw.of rfl h3 | (simp [fx_nw] at h2)
  · exact va_Nc.of (hsg (Cond.not (.castable "java/lang/IllegalArgumentException" "java/util/NoSuchElementException")) (List.mem_of_getElem? (i := 4) rfl))
  · exact va_AO.of hS1
  · exact va_AO.of hS2
