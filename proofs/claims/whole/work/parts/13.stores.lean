/-! ===== STORES AND NEW CELLS, with the heap's size kept in mind ===== -/
/-- the real heap holds the plain one -/
def fx_Dy (b0 : Nat) (ex cy : Nat → Nat) (D : va_G) (cl : List vw_C) (h : fx_H) (H : Heap) : Prop :=
  va_P D cl (fx_wo b0 ex cy h.1 h.2.2.2) H ∧ (h.1 = h.2.1 → H.size = b0 + h.1) ∧ b0 + h.1 ≤ H.size ∧ (∀ k, h.1 ≤ k → h.2.2.2 k = fx_bad) ∧ h.1 ≤ h.2.1
theorem fx_Dy.lt {b0 : Nat} {ex cy : Nat → Nat} {D : va_G} {cl : List vw_C} {h : fx_H} {H : Heap} (hd : fx_Dy b0 ex cy D cl h H) {a : Nat} {e : va_E} (he : h.2.2.2 a = e) (hb : e ≠ fx_bad) : a < h.1 := by
  rcases Nat.lt_or_ge a h.1 with q | q
  · exact q
  · exact absurd (he.symm.trans (hd.2.2.2.1 a q)) hb
theorem fx_Dy.get {b0 : Nat} {ex cy : Nat → Nat} {D : va_G} {cl : List vw_C} {h : fx_H} {H : Heap} (hd : fx_Dy b0 ex cy D cl h H) {a : Nat} {e : va_E} (he : h.2.2.2 a = e) (hb : e ≠ fx_bad) : (fx_wo b0 ex cy h.1 h.2.2.2)[a]? = some (b0 + a, fx_en b0 ex cy e) := by
  rw [fx_wo_at (hd.lt he hb), he]
theorem fx_Dy.put {b0 : Nat} {ex cy : Nat → Nat} {D : va_G} {cl : List vw_C} {h : fx_H} {H H1 : Heap} (hd : fx_Dy b0 ex cy D cl h H) {a : Nat} {e : va_E} (ha : a < h.1) (hn : va_at D cl (b0 + a, fx_en b0 ex cy e) H1) (hz : H1.size = H.size) (ho : ∀ q, q ≠ b0 + a → H1[q]? = H[q]?) : fx_Dy b0 ex cy D cl (h.1, h.2.1, h.2.2.1, va_up h.2.2.2 a e) H1 := by
  obtain ⟨h1, h2, h3, h4, h5⟩ := hd
  refine ⟨?_, fun q => by rw [hz]; exact h2 q, by rw [hz]; exact h3, fun k hk => ?_, h5⟩
  · show va_P D cl (fx_wo b0 ex cy h.1 (va_up h.2.2.2 a e)) H1
    rw [← fx_wo_set]
    exact h1.set fx_wo_D (fx_wo_at ha) hn ho
  · show va_up h.2.2.2 a e k = fx_bad
    have hk2 : h.1 ≤ k := hk
    rw [va_up, if_neg (by omega)]
    exact h4 k hk
theorem fx_Dy.push {b0 : Nat} {ex cy : Nat → Nat} {D : va_G} {cl : List vw_C} {h : fx_H} {H H1 : Heap} (hd : fx_Dy b0 ex cy D cl h H) {e : va_E} {w : Nat} (he : h.1 = h.2.1) (hn : va_at D cl (b0 + h.1, fx_en b0 ex cy e) H1) (hz : H1.size = H.size + 1) (ho : ∀ q, q < H.size → H1[q]? = H[q]?) : fx_Dy b0 ex cy D cl (h.1 + 1, h.2.1 + 1, w, va_up h.2.2.2 h.1 e) H1 := by
  obtain ⟨h1, h2, h3, h4, h5⟩ := hd
  refine ⟨?_, fun _ => ?_, ?_, fun k hk => ?_, ?_⟩
  · show va_P D cl (fx_wo b0 ex cy (h.1 + 1) (va_up h.2.2.2 h.1 e)) H1
    rw [← fx_wo_push]
    refine va_P.app (h1.kept (fun k q hk => ho q.1 (h1 k q hk).lt)) (fun k q hk => ?_)
    have hz : k < 1 := (List.getElem?_eq_some_iff.mp hk).1
    rw [show k = 0 by omega] at hk
    cases hk
    exact hn
  · show H1.size = b0 + (h.1 + 1)
    rw [hz, h2 he]; omega
  · show b0 + (h.1 + 1) ≤ H1.size
    rw [hz, h2 he]; omega
  · show va_up h.2.2.2 h.1 e k = fx_bad
    have hk2 : h.1 + 1 ≤ k := hk
    rw [va_up, if_neg (by omega)]
    exact h4 k (by omega)
  · show h.1 + 1 ≤ h.2.1 + 1
    omega
theorem fx_Dy.more {b0 : Nat} {ex cy : Nat → Nat} {D : va_G} {cl : List vw_C} {h : fx_H} {H H1 : Heap} (hd : fx_Dy b0 ex cy D cl h H) {w : Nat} (hz : H.size ≤ H1.size) (ho : ∀ q, q < H.size → H1[q]? = H[q]?) : fx_Dy b0 ex cy D cl (h.1, h.2.1 + 1, w, h.2.2.2) H1 := by
  obtain ⟨h1, h2, h3, h4, h5⟩ := hd
  exact ⟨h1.kept (fun k q hk => ho q.1 (h1 k q hk).lt), fun q => by have q2 : h.1 = h.2.1 + 1 := q; omega, Nat.le_trans h3 hz, h4, by show h.1 ≤ h.2.1 + 1; omega⟩
theorem fx_bad_inl {x : ClassId × vp_A} : (Sum.inl x : va_E) ≠ fx_bad := fun h => by cases h
theorem fx_bad_inr {c : Nat} {fs : List Value} (h : c ≠ 99) : (Sum.inr (c, fs) : va_E) ≠ fx_bad := fun q => by cases q; exact h rfl
/-- the kinds of arrays -/
abbrev fx_tys (cy : Nat → Nat) : List (ClassId × FieldType) := [(cy 0, .byte), (cy 1, .int), (cy 2, .long), (cy 3, .object "FogWatch$Scene"), (cy 4, .object "FogWatch$Story")]
section
variable {p : Program} {l : Launch} {e : Env} {R : Room} {s : State} {m : MethodId} {args : Array Value} {below : List Frame} {meth : Method} {c : Code} {H : Heap} {locs : List Loc} {cells slots : Nat} {Q : State → Prop}
variable {cc : ByteArray} {pc : Nat} {ls : Array Slot} {rest : List Value}
variable {b0 : Nat} {ex cy : Nat → Nat} {D : va_G} {cl : List vw_C} {h : fx_H} {own : String}
theorem fx_put (hexec : p.tables.exec = Jvm.exec) (hb : c.code = cc) {C : String} {T : u_T} {N ci index : Nat} {Ts : List Cond} (hts : ∀ w ∈ Ts, w.before args s = true) (hin : ∀ w ∈ u_ws C T N, w ∈ Ts) (ty0 : Nat → FieldType) (hty : ∀ k, k < N → parseFieldDescriptor (T k).2.2.1 = some (ty0 k)) (hnm : ∀ a, a < N → ∀ b, b < N → a ≠ b → (T a).2.1 ≠ (T b).2.1) (hown : s.vm.findClass own = some m.cls) (hK : va_K D cl (fx_tys cy) s) (hd : fx_Dy b0 ex cy D cl h H) (hS0 : va_S (fun q => b0 ≤ q) s.heap H locs) {a : Nat} {fs : List Value} (he : h.2.2.2 a = .inr (ci, fs)) (h99 : ci ≠ 99) (hc : cl[ci]? = some (C, T, N)) (k : Nat) (hk : k < N) (hlink : (Cond.fieldLink own index (T k).1 (T k).2.1 (T k).2.2.1).before args s = true) (hfin : (T k).2.2.2 = false ∨ ((T k).2.2.2 = true ∧ meth.name = "<init>" ∧ (T k).1 = own)) {v : Value} (hn : narrow (ty0 k) (fx_tr b0 ex v) = fx_tr b0 ex v) (hfit : fits (ty0 k) (fx_tr b0 ex v) = true) (hl : k < fs.length)
    (hdg : decode cc pc = .ok (.putfield index, 3)) (kk : ∀ (H1 : Heap) (locs1 : List Loc), fx_Dy b0 ex cy D cl (h.1, h.2.1, h.2.2.1, va_up h.2.2.2 a (.inr (ci, fs.set k v))) H1 → va_S (fun q => b0 ≤ q) s.heap H1 locs1 → W p l e R s m args below meth c H1 locs1 cells slots Q (F0 m (pc + 3) ls rest)) : W p l e R s m args below meth c H locs cells slots Q (F0 m pc ls (fx_tr b0 ex v :: .ref (b0 + a) :: rest)) := by
  have hap := va_apart (own := own) hts hin ty0 hty hnm hK hc
  have ha : a < h.1 := hd.lt he (fx_bad_inr h99)
  obtain ⟨r, h1, cell, q1, q2, q3, q4⟩ := hd.1 a _ (hd.get he (fx_bad_inr h99))
  have hr : r = (C, T, N) := Option.some.inj (h1.symm.trans hc)
  subst hr
  obtain ⟨hS, hfc, kC, hkC, hkind⟩ := hK.1 ci _ hc
  obtain ⟨cf, kf, fi, f, hi, hsl⟩ := hS k hk
  have hlay := hts _ (hin _ (u_in_lay hk))
  unfold u_lay at hlay
  have hst := (u_facts hfc hkC (u_lays hts hin hk) hi).1
  have fin : ∀ H' : Heap, H'[b0 + a]? = some (cell.setSlot f.slot (fx_tr b0 ex v)) → H'.size = H.size → (∀ q, q ≠ b0 + a → H'[q]? = H[q]?) → W p l e R s m args below meth c H' (locs ++ [⟨b0 + a, f.slot⟩]) cells slots Q (F0 m (pc + 3) ls rest) := by
    intro H' e1 e2 e3
    refine kk H' _ (hd.put ha ⟨_, hc, ?_⟩ e2 e3) (hS0.put e2 e3 (Nat.le_add_right _ _))
    rw [hsl] at e1
    refine t_OB.to (V := updV (vp_V (fs.map (fx_tr b0 ex))) k (fx_tr b0 ex v)) ⟨_, e1, q2, q3, t_set q4 hap hk _⟩ (fun j _ => ?_)
    show _ = vp_V ((fs.set k v).map (fx_tr b0 ex)) j
    rw [List.map_set]
    exact vp_updV_set (by simpa using hl) _ j
  rcases hfin with hfin | ⟨hfin, hin2, hdecl⟩
  · rw [if_neg (by rw [hfin]; decide)] at hlay
    have h6 := u_store hfc hkC hkind hlay hi (hty k hk) hn hfit
    exact W.putK hexec hb (f := f) ⟨hown, hlink, ⟨_, _, _, hi⟩, hst⟩ (by rw [q2]; exact h6) q1 q3 (by rw [hsl]; exact k2_hasslot (q4 k hk)) rfl rfl hdg fin
  · rw [if_pos hfin] at hlay
    have hcf : m.cls = cf := by
      obtain ⟨_, _, c', _, _, _, -, -, hf', -, -, -, hown2, -⟩ := Cond.laysFinal_spec hlay
      have e1 : c' = cf := by have := hi.symm.trans hf'; simp at this; exact this.1.symm
      rw [hdecl] at hown2
      rw [← e1]; exact Option.some.inj (hown.symm.trans hown2)
    have h6 := u_fits hfc hkC hkind (Or.inr hlay) hi (hty k hk) hn hfit
    exact W.putFinK hexec hb hown hlink hi hst hcf hin2 (by rw [q2]; exact h6) q1 q3 (by rw [hsl]; exact k2_hasslot (q4 k hk)) rfl rfl hdg fin
theorem fx_vin {i : Int32} {n : Nat} (h : fx_in i n = true) : vp_in i n := by
  simp only [fx_in, Bool.and_eq_true, decide_eq_true_eq] at h
  exact fun q => q.elim h.1 (fun q => by omega)
theorem fx_iast (hexec : p.tables.exec = Jvm.exec) (hb : c.code = cc) (hK : va_K D cl (fx_tys cy) s) (hd : fx_Dy b0 ex cy D cl h H) (hS0 : va_S (fun q => b0 ≤ q) s.heap H locs) {a n : Nat} {f : Nat → Int32} {i x : Int32} (he : h.2.2.2 a = .inl (1, n, .inl f)) (hin : fx_in i n = true) (hdg : decode cc pc = .ok (.iastore, 1))
    (kk : ∀ (H1 : Heap) (locs1 : List Loc), fx_Dy b0 ex cy D cl (h.1, h.2.1, h.2.2.1, va_up h.2.2.2 a (.inl (1, n, .inl (upd f i.toNatClampNeg x)))) H1 → va_S (fun q => b0 ≤ q) s.heap H1 locs1 → W p l e R s m args below meth c H1 locs1 cells slots Q (F0 m (pc + 1) ls rest)) : W p l e R s m args below meth c H locs cells slots Q (F0 m pc ls (.int x :: .int i :: .ref (b0 + a) :: rest)) := by
  have ha : a < h.1 := hd.lt he fx_bad_inl
  refine W.iast hexec hb (hd.1 a _ (hd.get he fx_bad_inl)) ((hK.2 1 _ rfl).1 n (fun j => .int (f j))) (fun q => by cases q) (by show ¬ (i < 0 ∨ (arrV _ _ _).slots.size ≤ _); rw [arrV_size]; exact fx_vin hin) rfl rfl hdg fun H1 e z oq => ?_
  refine kk H1 _ (hd.put ha ?_ z oq) (hS0.put z oq (Nat.le_add_right _ _))
  show H1[b0 + a]? = some (vp_cell _ _)
  rw [e]
  show some ((vp_cell (cy 1) (n, .inl f)).setSlot _ _) = some (vp_cell (cy 1) (n, .inl (upd f i.toNatClampNeg x)))
  rw [vp_cell_i, vp_cell_i, arrV_store]
  congr 2
  funext q
  by_cases hq : q = i.toNatClampNeg
  · subst hq
    simp [updV, upd]
  · simp [updV, upd, hq]
theorem fx_bast (hexec : p.tables.exec = Jvm.exec) (hb : c.code = cc) (hK : va_K D cl (fx_tys cy) s) (hd : fx_Dy b0 ex cy D cl h H) (hS0 : va_S (fun q => b0 ≤ q) s.heap H locs) {a n : Nat} {f : Nat → Int32} {i x : Int32} (he : h.2.2.2 a = .inl (0, n, .inl f)) (hin : fx_in i n = true) (hdg : decode cc pc = .ok (.bastore, 1))
    (kk : ∀ (H1 : Heap) (locs1 : List Loc), fx_Dy b0 ex cy D cl (h.1, h.2.1, h.2.2.1, va_up h.2.2.2 a (.inl (0, n, .inl (upd f i.toNatClampNeg (vp_nar .byte x))))) H1 → va_S (fun q => b0 ≤ q) s.heap H1 locs1 → W p l e R s m args below meth c H1 locs1 cells slots Q (F0 m (pc + 1) ls rest)) : W p l e R s m args below meth c H locs cells slots Q (F0 m pc ls (.int x :: .int i :: .ref (b0 + a) :: rest)) := by
  have ha : a < h.1 := hd.lt he fx_bad_inl
  refine W.bast hexec hb (hd.1 a _ (hd.get he fx_bad_inl)) ((hK.2 0 _ rfl).1 n (fun j => .int (f j))) (fun q => by cases q) (by show ¬ (i < 0 ∨ (arrV _ _ _).slots.size ≤ _); rw [arrV_size]; exact fx_vin hin) rfl rfl hdg fun H1 e z oq => ?_
  refine kk H1 _ (hd.put ha ?_ z oq) (hS0.put z oq (Nat.le_add_right _ _))
  show H1[b0 + a]? = some (vp_cell _ _)
  rw [e]
  show some ((vp_cell (cy 0) (n, .inl f)).setSlot _ _) = some (vp_cell (cy 0) (n, .inl (upd f i.toNatClampNeg (vp_nar .byte x))))
  rw [vp_cell_i, vp_cell_i, arrV_store]
  congr 2
  funext q
  by_cases hq : q = i.toNatClampNeg
  · subst hq
    simp [updV, upd, vp_nar, narrow]
  · simp [updV, upd, hq]
theorem fx_last (hexec : p.tables.exec = Jvm.exec) (hb : c.code = cc) (hK : va_K D cl (fx_tys cy) s) (hd : fx_Dy b0 ex cy D cl h H) (hS0 : va_S (fun q => b0 ≤ q) s.heap H locs) {a n : Nat} {f : Nat → Int64} {i : Int32} {x : Int64} (he : h.2.2.2 a = .inl (2, n, .inr (.inl f))) (hin : fx_in i n = true) (hdg : decode cc pc = .ok (.lastore, 1))
    (kk : ∀ (H1 : Heap) (locs1 : List Loc), fx_Dy b0 ex cy D cl (h.1, h.2.1, h.2.2.1, va_up h.2.2.2 a (.inl (2, n, .inr (.inl (vp_updL f i.toNatClampNeg x))))) H1 → va_S (fun q => b0 ≤ q) s.heap H1 locs1 → W p l e R s m args below meth c H1 locs1 cells slots Q (F0 m (pc + 1) ls rest)) : W p l e R s m args below meth c H locs cells slots Q (F0 m pc ls (.long x :: .int i :: .ref (b0 + a) :: rest)) := by
  have ha : a < h.1 := hd.lt he fx_bad_inl
  refine W.last hexec hb (hd.1 a _ (hd.get he fx_bad_inl)) ((hK.2 2 _ rfl).1 n (fun j => .long (f j))) (fun q => by cases q) (by show ¬ (i < 0 ∨ (arrV _ _ _).slots.size ≤ _); rw [arrV_size]; exact fx_vin hin) rfl rfl hdg fun H1 e z oq => ?_
  refine kk H1 _ (hd.put ha ?_ z oq) (hS0.put z oq (Nat.le_add_right _ _))
  show H1[b0 + a]? = some (vp_cell _ _)
  rw [e]
  show some ((vp_cell (cy 2) (n, .inr (.inl f))).setSlot _ _) = some (vp_cell (cy 2) (n, .inr (.inl (vp_updL f i.toNatClampNeg x))))
  rw [vp_cell_l, vp_cell_l, arrV_store]
  congr 2
  funext q
  by_cases hq : q = i.toNatClampNeg
  · subst hq
    simp [updV, vp_updL]
  · simp [updV, vp_updL, hq]
/-- the place of a kind of references in the list of kinds, the class of what it holds -/
theorem fx_refK {t : Nat} (h : t = 3 ∨ t = 4) : ∃ C, (fx_tys cy)[t]? = some (cy t, .object C) ∧ (C = if t = 3 then "FogWatch$Scene" else "FogWatch$Story") := by
  rcases h with rfl | rfl
  · exact ⟨_, rfl, rfl⟩
  · exact ⟨_, rfl, rfl⟩
theorem fx_aast (hexec : p.tables.exec = Jvm.exec) (hb : c.code = cc) (hK : va_K D cl (fx_tys cy) s) (hd : fx_Dy b0 ex cy D cl h H) (hS0 : va_S (fun q => b0 ≤ q) s.heap H locs) {a n t v ci : Nat} {f : Nat → Option Nat} {fs : List Value} {r : vw_C} {i : Int32} (he : h.2.2.2 a = .inl (t, n, .inr (.inr (.inr (.inr f))))) (hv : h.2.2.2 v = .inr (ci, fs)) (h99 : ci ≠ 99) (ht : t = 3 ∨ t = 4) (hc : cl[ci]? = some r) (hr : r.1 = if t = 3 then "FogWatch$Scene" else "FogWatch$Story") (hin : fx_in i n = true) (hdg : decode cc pc = .ok (.aastore, 1))
    (kk : ∀ (H1 : Heap) (locs1 : List Loc), fx_Dy b0 ex cy D cl (h.1, h.2.1, h.2.2.1, va_up h.2.2.2 a (.inl (t, n, .inr (.inr (.inr (.inr (va_up f i.toNatClampNeg (some v)))))))) H1 → va_S (fun q => b0 ≤ q) s.heap H1 locs1 → W p l e R s m args below meth c H1 locs1 cells slots Q (F0 m (pc + 1) ls rest)) : W p l e R s m args below meth c H locs cells slots Q (F0 m pc ls (.ref (b0 + v) :: .int i :: .ref (b0 + a) :: rest)) := by
  have ha : a < h.1 := hd.lt he fx_bad_inl
  obtain ⟨C, hC, hCe⟩ := fx_refK (cy := cy) ht
  subst hCe
  rw [← hr] at hC
  obtain ⟨r', hc', cellV, g1, g2, g3, -⟩ := hd.1 v _ (hd.get hv (fx_bad_inr h99))
  have hcls := (hK.1 ci r hc).2
  obtain ⟨kA, comp, k1, k2, k3, -⟩ := (hK.2 t _ hC).2
  have hcomp : comp = D.1 ci := Option.some.inj (k3.symm.trans hcls.1)
  subst hcomp
  obtain ⟨kC, hkC, -⟩ := hcls.2
  have hvi := fx_vin hin
  refine W.aast hexec hb (hd.1 a _ (hd.get he fx_bad_inl)) (fun q h => by cases h) (fun h => by cases h) k1 k2 rfl hkC ⟨fun q => hvi (Or.inl q), by show _ < (arrV _ _ _).slots.size; rw [arrV_size]; exact Nat.lt_of_not_le (fun q => hvi (Or.inr q))⟩ g1 (fun q h => by rw [g3] at h; cases h) (by rw [g2]; exact hkC) (by rw [g2]; exact va_assign hcls) rfl rfl hdg fun H1 e z oq => ?_
  refine kk H1 _ (hd.put ha ?_ z oq) (hS0.put z oq (Nat.le_add_right _ _))
  show H1[b0 + a]? = some (vp_cell _ _)
  rw [e]
  show some ((vp_cell (cy t) (n, .inr (.inr (.inr (.inr (fun j => (f j).map (fun k => b0 + k))))))).setSlot _ _) = some (vp_cell (cy t) (n, .inr (.inr (.inr (.inr (fun j => (va_up f i.toNatClampNeg (some v) j).map (fun k => b0 + k)))))))
  rw [vp_cell_q, vp_cell_q, arrV_store]
  congr 2
  funext q
  by_cases hq : q = i.toNatClampNeg
  · subst hq
    simp [updV, va_up, va_rf]
  · simp [updV, va_up, hq]
theorem fx_S_push (hS0 : va_S (fun q => b0 ≤ q) s.heap H locs) {H1 : Heap} (z1 : H1.size = H.size + 1) (o1 : ∀ q : Nat, q < H.size → H1[q]? = H[q]?) : va_S (fun q => b0 ≤ q) s.heap H1 locs :=
  ⟨Nat.le_trans hS0.1 (by omega), fun x h1 h2 => (o1 x (Nat.lt_of_lt_of_le h1 hS0.1)).trans (hS0.2.1 x h1 h2), hS0.2.2⟩
theorem fx_new (hexec : p.tables.exec = Jvm.exec) (hb : c.code = cc) {C : String} {T : u_T} {N ci index : Nat} {Ts : List Cond} (hts : ∀ w ∈ Ts, w.before args s = true) (hin : ∀ w ∈ u_ws C T N, w ∈ Ts) (ty : Nat → FieldType) (hty : ∀ k, k < N → parseFieldDescriptor (T k).2.2.1 = some (ty k)) (hown : s.vm.findClass own = some m.cls) (hcl : (Cond.classLink own index C).before args s = true) (hinst : (Cond.instantiable C N).before args s = true) (hini : (Cond.initialized C).before args s = true)
    (hK : va_K D cl (fx_tys cy) s) (hd : fx_Dy b0 ex cy D cl h H) (hS0 : va_S (fun q => b0 ≤ q) s.heap H locs) (he : h.1 = h.2.1) (hc : cl[ci]? = some (C, T, N)) {fs : List Value} (hfs : ∀ j, j < N → defaultValue (ty j) = vp_V (fs.map (fx_tr b0 ex)) j) (hcells : cells + 1 ≤ R.cells) (hslots : slots + N ≤ R.slots) (hdg : decode cc pc = .ok (.new index, 3)) {w : Nat}
    (kk : ∀ (H1 : Heap), fx_Dy b0 ex cy D cl (h.1 + 1, h.2.1 + 1, w, va_up h.2.2.2 h.1 (.inr (ci, fs))) H1 → va_S (fun q => b0 ≤ q) s.heap H1 locs →
      W p l e R s m args below meth c H1 locs (cells + 1) (slots + N) Q (F0 m (pc + 3) ls (.ref (b0 + h.1) :: rest))) : W p l e R s m args below meth c H locs cells slots Q (F0 m pc ls rest) := by
  have hKn := hK.1 ci _ hc
  refine W.newcK hexec hb hown hcl hinst hini rfl hdg hcells hslots hKn.2.1 (hd.2.1 he) fun H1 kC hkC e1 z1 o1 => ?_
  have z2 : H1.size = H.size + 1 := by rw [z1, hd.2.1 he]
  have o2 : ∀ q : Nat, q < H.size → H1[q]? = H[q]? := fun q hq => o1 q (by rw [← hd.2.1 he]; exact hq)
  exact kk H1 (hd.push he ⟨_, hc, (u_born ty hts hin hKn hkC e1 hty).to hfs⟩ z2 o2) (fx_S_push hS0 z2 o2)
theorem fx_newa (hexec : p.tables.exec = Jvm.exec) (hb : c.code = cc) {atype : ArrayType} (hat : fx_tagA atype < 3) (harr : (Cond.arrayClass (newarray.typeOf atype)).before args s = true) (hK : va_K D cl (fx_tys cy) s) (hd : fx_Dy b0 ex cy D cl h H) (hS0 : va_S (fun q => b0 ≤ q) s.heap H locs) (he : h.1 = h.2.1)
    {n : Int32} (hn : ¬ n < 0) (hN : n.toNatClampNeg ≤ 100000) (hcells : cells + 1 ≤ R.cells) (hslots : slots + n.toNatClampNeg ≤ R.slots) (hdg : decode cc pc = .ok (.newarray atype, 2)) {w : Nat}
    (kk : ∀ (H1 : Heap), fx_Dy b0 ex cy D cl (h.1 + 1, h.2.1 + 1, w, va_up h.2.2.2 h.1 (.inl (fx_tagA atype, n.toNatClampNeg, fx_zero (fx_tagA atype)))) H1 → va_S (fun q => b0 ≤ q) s.heap H1 locs →
      W p l e R s m args below meth c H1 locs (cells + 1) (slots + n.toNatClampNeg) Q (F0 m (pc + 2) ls (.ref (b0 + h.1) :: rest))) : W p l e R s m args below meth c H locs cells slots Q (F0 m pc ls (.int n :: rest)) := by
  have hcb : componentBytes (newarray.typeOf atype) ≤ 8 := by cases atype <;> simp [newarray.typeOf, componentBytes]
  refine va_newaK hexec hb harr rfl hdg rfl hn rfl (Nat.le_trans (Nat.mul_le_mul hN hcb) (by decide)) hcells hslots (hd.2.1 he) fun H1 cA e1 z1 o1 hAr hNm => ?_
  have z2 : H1.size = H.size + 1 := by rw [z1, hd.2.1 he]
  have o2 : ∀ q : Nat, q < H.size → H1[q]? = H[q]? := fun q hq => o1 q (by rw [← hd.2.1 he]; exact hq)
  refine kk H1 (hd.push he ?_ z2 o2) (fx_S_push hS0 z2 o2)
  show H1[b0 + h.1]? = some (vp_cell _ _)
  rw [e1]
  have ht : cA = cy (fx_tagA atype) := by
    have hk := (hK.2 (fx_tagA atype) (cy (fx_tagA atype), newarray.typeOf atype) (by cases atype <;> first | rfl | (simp [fx_tagA] at hat))).2
    cases atype <;> first | (simp [fx_tagA] at hat; done) | exact Option.some.inj (hNm.symm.trans hk)
  subst ht
  cases atype <;> first | rfl | (simp [fx_tagA] at hat)
theorem fx_newq (hexec : p.tables.exec = Jvm.exec) (hb : c.code = cc) {C : String} {index t : Nat} (ht : t = 3 ∨ t = 4) (hC : C = if t = 3 then "FogWatch$Scene" else "FogWatch$Story") (hown : s.vm.findClass own = some m.cls) (hclink : (Cond.classLink own index C).before args s = true) (hover : va_AO C s) (hK : va_K D cl (fx_tys cy) s) (hd : fx_Dy b0 ex cy D cl h H) (hS0 : va_S (fun q => b0 ≤ q) s.heap H locs) (he : h.1 = h.2.1)
    {n : Int32} (hn : ¬ n < 0) (hN : n.toNatClampNeg ≤ 100000) (hcells : cells + 1 ≤ R.cells) (hslots : slots + n.toNatClampNeg ≤ R.slots) (hdg : decode cc pc = .ok (.anewarray index, 3)) {w : Nat}
    (kk : ∀ (H1 : Heap), fx_Dy b0 ex cy D cl (h.1 + 1, h.2.1 + 1, w, va_up h.2.2.2 h.1 (.inl (t, n.toNatClampNeg, .inr (.inr (.inr (.inr (fun _ => none))))))) H1 → va_S (fun q => b0 ≤ q) s.heap H1 locs →
      W p l e R s m args below meth c H1 locs (cells + 1) (slots + n.toNatClampNeg) Q (F0 m (pc + 3) ls (.ref (b0 + h.1) :: rest))) : W p l e R s m args below meth c H locs cells slots Q (F0 m pc ls (.int n :: rest)) := by
  refine W.anew hexec hb hown hclink (va_AO.use hover) rfl hdg rfl hn (by omega) hcells hslots fun cA kA comp f1 f2 f3 f4 => ?_
  generalize hH1 : H.push ({ cls := cA, slots := Array.replicate n.toNatClampNeg .null, vm := .none } : Cell) = H1
  have z1 : H1.size = H.size + 1 := by rw [← hH1, Array.size_push]
  have e1 : H1[H.size]? = some (arrV cA n.toNatClampNeg (fun _ => .null)) := by rw [← hH1, Array.getElem?_push_size, ← arrV_new]
  have o1 : ∀ q : Nat, q < H.size → H1[q]? = H[q]? := fun q hq => by rw [← hH1, Array.getElem?_push, if_neg (Nat.ne_of_lt hq)]
  have hA : cA = cy t := by
    subst hC
    obtain ⟨C2, hC2, hCe⟩ := fx_refK (cy := cy) ht
    subst hCe
    obtain ⟨kA2, comp2, -, -, -, k4⟩ := (hK.2 t _ hC2).2
    exact Option.some.inj (f1.symm.trans k4)
  subst hA
  rw [hd.2.1 he]
  rw [hd.2.1 he] at e1
  exact kk H1 (hd.push he e1 z1 o1) (fx_S_push hS0 z1 o1)
theorem fx_ldcSW (hexec : p.tables.exec = Jvm.exec) (hb : c.code = cc) {tx : String} {index q : Nat} (hown : s.vm.findClass own = some m.cls) (hZ : vk_R own index tx q s) (hdg : decode cc pc = .ok (.ldc_w index, 3))
    (k : W p l e R s m args below meth c H locs cells slots Q (F0 m (pc + 3) ls (.ref q :: rest))) : W p l e R s m args below meth c H locs cells slots Q (F0 m pc ls rest) := by
  intro T hT X
  obtain ⟨t, a1, b1⟩ := k T hT X
  exact ⟨t, X.ldcStringW hexec hown (text := tx) (a := q) hZ.1 hZ.2 (g := F0 m pc ls rest) rfl (by rw [hb]; exact hdg) t a1, b1⟩
end
