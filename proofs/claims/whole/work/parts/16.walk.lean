/-! ===== SOUNDNESS: what the plain machine answers, the real one does ===== -/
section
variable {p : Program} {l : Launch} {e : Env} {R : Room} {s : State} {m : MethodId} {args : Array Value} {below : List Frame} {meth : Method} {c : Code} {H : Heap} {locs : List Loc} {cells slots : Nat} {Q : State → Prop}
variable {cc : ByteArray} {pc : Nat} {ls : Array Slot} {rest st0 : List Value}
variable {b0 : Nat} {ex cy : Nat → Nat} {D : va_G} {cl : List vw_C} {xn : Nat → String} {r : fx_R} {a : Array Value} {mc ms : Nat}
/-- behind a call that may throw -/
theorem fx_after (hr : vx_Run p l e R s m args below meth c H locs cells slots mc ms (F0 m pc ls st0) rest (fx_Qc b0 ex cy D cl r a) (fx_Xc b0 ex cy D cl xn r) (fun q => b0 ≤ q)) (hS : va_S (fun q => b0 ≤ q) s.heap H locs)
    (kk : ∀ (v : Option Value), r.1 = .inl v → ∀ (H1 : Heap) (locs1 : List Loc), fx_Dy b0 ex cy D cl r.2 H1 → va_S (fun q => b0 ≤ q) s.heap H1 locs1 → W p l e R s m args below meth c H1 locs1 (cells + mc) (slots + ms) Q (F0 m (pc + 3) ls ((v.map (fx_tr b0 ex)).toList ++ rest)))
    (kx : ∀ (g : Nat), r.1 = .inr g → ∀ (q : Addr) (ce : Cell) (H1 : Heap) (locs1 : List Loc), fx_Dy b0 ex cy D cl r.2 H1 → va_S (fun q => b0 ≤ q) s.heap H1 locs1 → H1[q]? = some ce → ce.vm = .none → s.vm.findClass (xn g) = some ce.cls → vx_W p l e R s m args below meth c H1 locs1 (cells + mc) (slots + ms) Q (F0 m pc ls rest) q) :
    W p l e R s m args below meth c H locs cells slots Q (F0 m pc ls st0) := by
  intro T hT X
  rcases hr T hT X with ⟨v, st₀, t, T', L, h0, X', hL, e1, e2, ⟨⟨v2, hv, ho⟩, hd, hF⟩, st⟩ | ⟨q, st₀, t, T', L, E, ce, h0, X', hL, e1, e2, ⟨⟨g, hg, hE⟩, hd, hF⟩, hce, hcv, hcl, st⟩
  · cases ho
    obtain ⟨-, -, k3⟩ := vx_keep (A0 := fun q => b0 ≤ q) (A1 := fun q => b0 ≤ q) (free := fun q => b0 ≤ q) h0 e1 hS (fun _ _ h => h) (fun _ h => h) hL hF
    obtain ⟨t2, a1, b1⟩ := kk v2 hv T'.heap (locs ++ L) (by rw [e1]; exact hd) k3 T' rfl X'
    exact ⟨t2, st t2 a1, b1⟩
  · obtain ⟨-, -, k3⟩ := vx_keep (A0 := fun q => b0 ≤ q) (A1 := fun q => b0 ≤ q) (free := fun q => b0 ≤ q) h0 e1 hS (fun _ _ h => h) (fun _ h => h) hL hF
    subst hE
    obtain ⟨t2, a1, b1⟩ := kx g hg q ce T'.heap (locs ++ L) (by rw [e1]; exact hd) k3 (by rw [e1]; exact hce) hcv hcl T' rfl X'
    exact ⟨t2, st.trans a1, b1⟩
/-- behind a call that returns -/
theorem fx_afterM (hr : va_Run p l e R s m args below meth c H locs cells slots mc ms (F0 m pc ls st0) rest (fx_Qc b0 ex cy D cl r a) (fun q => b0 ≤ q)) (hS : va_S (fun q => b0 ≤ q) s.heap H locs)
    (kk : ∀ (v : Option Value), r.1 = .inl v → ∀ (H1 : Heap) (locs1 : List Loc), fx_Dy b0 ex cy D cl r.2 H1 → va_S (fun q => b0 ≤ q) s.heap H1 locs1 → W p l e R s m args below meth c H1 locs1 (cells + mc) (slots + ms) Q (F0 m (pc + 3) ls ((v.map (fx_tr b0 ex)).toList ++ rest))) :
    W p l e R s m args below meth c H locs cells slots Q (F0 m pc ls st0) := by
  intro T hT X
  obtain ⟨v, st₀, t, T', L, h0, X', hL, e1, e2, ⟨⟨v2, hv, ho⟩, hd, hF⟩, st⟩ := hr T hT X
  cases ho
  obtain ⟨-, -, k3⟩ := vx_keep (A0 := fun q => b0 ≤ q) (A1 := fun q => b0 ≤ q) (free := fun q => b0 ≤ q) h0 e1 hS (fun _ _ h => h) (fun _ h => h) hL hF
  obtain ⟨t2, a1, b1⟩ := kk v2 hv T'.heap (locs ++ L) (by rw [e1]; exact hd) k3 T' rfl X'
  exact ⟨t2, st t2 a1, b1⟩
/-- a method that only returns -/
theorem fx_met {y : MethodName} {ws : List Cond} {rm : Room} {Pc : Array Value → State → Prop} {v : Option Value} (hv : r.1 = .inl v) (h : vx_Met l y ws rm Pc (fx_Qc b0 ex cy D cl r) (fx_Xc b0 ex cy D cl xn r) mc ms (fun q => b0 ≤ q)) : Met l y ws rm Pc (fx_Qc b0 ex cy D cl r) mc ms (fun q => b0 ≤ q) := by
  intro p e ha hc hk s m args below hf happ hP hq
  obtain ⟨t, o, h1, h2, h3, h4⟩ := h p e ha hc hk s m args below hf happ hP hq
  refine ⟨t, o, h1, h2, h3, ?_⟩
  rcases h4 with h4 | ⟨q, -, E, ce, L, ⟨⟨g, hg, -⟩, -⟩, -⟩
  · exact h4
  · rw [hv] at hg; cases hg
end
