/-! ===== HOW THE PLAIN MACHINE'S VALUES, CELLS AND LOCALS LIE IN THE REAL ONE ===== -/
def fx_tr (b0 : Nat) (ex : Nat → Nat) (v : Value) : Value := match v with
  | .ref k => .ref (b0 + k)
  | .retAddr j => .ref (ex j)
  | .float _ => (match ex 999999 with
    | 0 => .null
    | t + 1 => .ref t)
  | w => w
def fx_enA (b0 : Nat) (x : (Nat → Int32) ⊕ (Nat → Int64) ⊕ (Nat → UInt32) ⊕ (Nat → UInt64) ⊕ (Nat → Option Nat)) : (Nat → Int32) ⊕ (Nat → Int64) ⊕ (Nat → UInt32) ⊕ (Nat → UInt64) ⊕ (Nat → Option Nat) := match x with
  | .inr (.inr (.inr (.inr f))) => .inr (.inr (.inr (.inr (fun j => (f j).map (fun k => b0 + k)))))
  | y => y
def fx_en (b0 : Nat) (ex cy : Nat → Nat) (e : va_E) : va_E := match e with
  | .inr (c, fs) => .inr (c, fs.map (fx_tr b0 ex))
  | .inl (t, n, x) => .inl (cy t, n, fx_enA b0 x)
def fx_bad : va_E := .inr (99, [])
def fx_wo (b0 : Nat) (ex cy : Nat → Nat) (n : Nat) (f : Nat → va_E) : va_W := (List.range n).map (fun k => (b0 + k, fx_en b0 ex cy (f k)))
theorem fx_wo_at {b0 : Nat} {ex cy : Nat → Nat} {n : Nat} {f : Nat → va_E} {k : Nat} (h : k < n) : (fx_wo b0 ex cy n f)[k]? = some (b0 + k, fx_en b0 ex cy (f k)) := by
  simp [fx_wo, h]
theorem fx_wo_len {b0 : Nat} {ex cy : Nat → Nat} {n : Nat} {f : Nat → va_E} : (fx_wo b0 ex cy n f).length = n := by simp [fx_wo]
theorem fx_wo_set {b0 : Nat} {ex cy : Nat → Nat} {n : Nat} {f : Nat → va_E} {a : Nat} (e : va_E) : (fx_wo b0 ex cy n f).set a (b0 + a, fx_en b0 ex cy e) = fx_wo b0 ex cy n (va_up f a e) := by
  apply List.ext_getElem?
  intro k
  by_cases hk : k < n
  · rw [fx_wo_at hk, List.getElem?_set, fx_wo_len, fx_wo_at hk]
    by_cases hka : a = k
    · subst hka
      simp [va_up, hk]
    · have : ¬ k = a := fun h => hka h.symm
      simp [va_up, hka, this]
  · rw [List.getElem?_eq_none (by simp [fx_wo_len]; omega), List.getElem?_eq_none (by simp [fx_wo_len]; omega)]
theorem fx_wo_push {b0 : Nat} {ex cy : Nat → Nat} {n : Nat} {f : Nat → va_E} (e : va_E) : fx_wo b0 ex cy n f ++ [(b0 + n, fx_en b0 ex cy e)] = fx_wo b0 ex cy (n + 1) (va_up f n e) := by
  apply List.ext_getElem?
  intro k
  rcases Nat.lt_trichotomy k n with hk | hk | hk
  · rw [fx_wo_at (by omega), List.getElem?_append_left (by rw [fx_wo_len]; exact hk), fx_wo_at hk]
    have : ¬ k = n := by omega
    simp [va_up, this]
  · subst hk
    rw [fx_wo_at (by omega), List.getElem?_append_right (by rw [fx_wo_len]; exact Nat.le_refl _), fx_wo_len]
    simp [va_up]
  · rw [List.getElem?_eq_none (by simp [fx_wo_len]; omega), List.getElem?_eq_none (by simp [fx_wo_len]; omega)]
theorem fx_wo_D {b0 : Nat} {ex cy : Nat → Nat} {n : Nat} {f : Nat → va_E} : va_D (fun q => b0 ≤ q) (fx_wo b0 ex cy n f) := by
  refine ⟨fun i j p q hi hj h => ?_, fun k q hk => ?_⟩
  · have h1 : i < n := by have := (List.getElem?_eq_some_iff.mp hi).1; rwa [fx_wo_len] at this
    have h2 : j < n := by have := (List.getElem?_eq_some_iff.mp hj).1; rwa [fx_wo_len] at this
    rw [fx_wo_at h1] at hi
    rw [fx_wo_at h2] at hj
    cases hi; cases hj
    exact Nat.add_left_cancel h
  · have h1 : k < n := by have := (List.getElem?_eq_some_iff.mp hk).1; rwa [fx_wo_len] at this
    rw [fx_wo_at h1] at hk
    cases hk
    exact Nat.le_add_right _ _
/-- the locals -/
def fx_LR (b0 : Nat) (ex : Nat → Nat) (ms : Array Slot) (ls : List Value) : Prop := ms.size = ls.length ∧ lv_wf ms ∧ ∀ (i : Nat) (v : Value), ls[i]? = some v → v ≠ fx_U → ms[i]? = some (.val (fx_tr b0 ex v))
def fx_lv (b0 : Nat) (ex : Nat → Nat) (ls : List Value) : List (Nat × Value) := (List.range ls.length).filterMap (fun i => match ls[i]? with
  | some v => if v = fx_U then none else some (i, fx_tr b0 ex v)
  | none => none)
theorem fx_lv_mem {b0 : Nat} {ex : Nat → Nat} {ls : List Value} {i : Nat} {w : Value} : (i, w) ∈ fx_lv b0 ex ls ↔ ∃ v, ls[i]? = some v ∧ v ≠ fx_U ∧ w = fx_tr b0 ex v := by
  unfold fx_lv
  rw [List.mem_filterMap]
  constructor
  · rintro ⟨j, -, hj⟩
    cases hv : ls[j]? with
    | none => rw [hv] at hj; cases hj
    | some v =>
      rw [hv] at hj
      dsimp only at hj
      by_cases hu : v = fx_U
      · rw [if_pos hu] at hj; cases hj
      · rw [if_neg hu] at hj
        cases hj
        exact ⟨v, hv, hu, rfl⟩
  · rintro ⟨v, hv, hu, rfl⟩
    refine ⟨i, List.mem_range.mpr (List.getElem?_eq_some_iff.mp hv).1, ?_⟩
    rw [hv]
    dsimp only
    rw [if_neg hu]
theorem fx_LR.has {b0 : Nat} {ex : Nat → Nat} {ms : Array Slot} {ls : List Value} (h : fx_LR b0 ex ms ls) : lv_has ms ls.length (fx_lv b0 ex ls) :=
  ⟨h.1, h.2.1, fun q hq => by
    obtain ⟨v, h1, h2, h3⟩ := fx_lv_mem.mp (show (q.1, q.2) ∈ fx_lv b0 ex ls from hq)
    rw [h3]
    exact h.2.2 q.1 v h1 h2⟩
theorem fx_set_len : ∀ (ls : List Value) (i : Nat) (v : Value), (fx_set ls i v).length = ls.length
  | [], _, _ => rfl
  | _ :: _, 0, _ => rfl
  | x :: t, n + 1, v => by simp [fx_set, fx_set_len t n v]
theorem fx_fix_eq {n : Nat} {x v : Value} (h : fx_fix n x = v) (hv : v ≠ fx_U) : x = v ∧ (n = 0 → v.category ≠ 2) := by
  cases n with
  | zero =>
    cases x <;> simp only [fx_fix] at h <;> subst h <;> first | exact ⟨rfl, fun _ => by simp [Value.category]⟩ | exact absurd rfl hv
  | succ n => exact ⟨h, fun h => absurd h (Nat.succ_ne_zero n)⟩
theorem fx_set_get : ∀ (ls : List Value) (i : Nat) (w : Value) (j : Nat) (v : Value), (fx_set ls i w)[j]? = some v → v ≠ fx_U → (j = i ∧ v = w) ∨ (j ≠ i ∧ ls[j]? = some v ∧ (j + 1 = i → v.category ≠ 2))
  | [], _, _, j, v, h, _ => by simp [fx_set] at h
  | x :: t, 0, w, j, v, h, _ => by
    cases j with
    | zero => simp [fx_set] at h; exact Or.inl ⟨rfl, h.symm⟩
    | succ j => simp [fx_set] at h; exact Or.inr ⟨Nat.succ_ne_zero j, by simpa using h, fun h => absurd h (Nat.succ_ne_zero _)⟩
  | x :: t, n + 1, w, j, v, h, hv => by
    cases j with
    | zero =>
      simp only [fx_set, List.getElem?_cons_zero, Option.some.injEq] at h
      obtain ⟨h1, h2⟩ := fx_fix_eq h hv
      exact Or.inr ⟨(Nat.succ_ne_zero n).symm, by simp [h1], fun h => h2 (by omega)⟩
    | succ j =>
      simp only [fx_set, List.getElem?_cons_succ] at h
      rcases fx_set_get t n w j v h hv with ⟨h1, h2⟩ | ⟨h1, h2, h3⟩
      · exact Or.inl ⟨by omega, h2⟩
      · exact Or.inr ⟨by omega, by simpa using h2, fun h => h3 (by omega)⟩
theorem fx_LR.put1 {b0 : Nat} {ex : Nat → Nat} {ls : List Value} {ms : Array Slot} {i : Nat} {w : Value} (h : lv_has ms ls.length ((i, fx_tr b0 ex w) :: (fx_lv b0 ex ls).filter (fun q => !(q.1 == i) && !(q.1 + 1 == i && q.2.category == 2)))) : fx_LR b0 ex ms (fx_set ls i w) := by
  refine ⟨by rw [fx_set_len]; exact h.1, h.2.1, fun j v hj hv => ?_⟩
  rcases fx_set_get ls i w j v hj hv with ⟨rfl, rfl⟩ | ⟨h1, h2, h3⟩
  · exact h.2.2 (j, fx_tr b0 ex v) List.mem_cons_self
  · refine h.2.2 (j, fx_tr b0 ex v) (List.mem_cons_of_mem _ (List.mem_filter.mpr ⟨fx_lv_mem.mpr ⟨v, h2, hv, rfl⟩, ?_⟩))
    have hc : (fx_tr b0 ex v).category = v.category := by cases v <;> first | rfl | (simp only [fx_tr]; cases ex 999999 <;> rfl)
    simp only [hc]
    by_cases h4 : j + 1 = i
    · have := h3 h4
      simp [h1, this]
    · simp [h1, h4]
/-- a store that the plain machine forgets -/
theorem fx_LR.put0 {b0 : Nat} {ex : Nat → Nat} {ls : List Value} {ms : Array Slot} {i : Nat} {w : Value} (h : lv_has ms ls.length ((i, w) :: (fx_lv b0 ex ls).filter (fun q => !(q.1 == i) && !(q.1 + 1 == i && q.2.category == 2)))) : fx_LR b0 ex ms (fx_set ls i fx_U) := by
  refine ⟨by rw [fx_set_len]; exact h.1, h.2.1, fun j v hj hv => ?_⟩
  rcases fx_set_get ls i fx_U j v hj hv with ⟨rfl, rfl⟩ | ⟨h1, h2, h3⟩
  · exact absurd rfl hv
  · refine h.2.2 (j, fx_tr b0 ex v) (List.mem_cons_of_mem _ (List.mem_filter.mpr ⟨fx_lv_mem.mpr ⟨v, h2, hv, rfl⟩, ?_⟩))
    have hc : (fx_tr b0 ex v).category = v.category := by cases v <;> first | rfl | (simp only [fx_tr]; cases ex 999999 <;> rfl)
    simp only [hc]
    by_cases h4 : j + 1 = i
    · have := h3 h4
      simp [h1, this]
    · simp [h1, h4]
theorem fx_LR.put2 {b0 : Nat} {ex : Nat → Nat} {ls : List Value} {ms : Array Slot} {i : Nat} {w : Value} (h : lv_has ms ls.length ((i, fx_tr b0 ex w) :: (fx_lv b0 ex ls).filter (fun q => !(q.1 == i) && (!(q.1 == i + 1) && !(q.1 + 1 == i && q.2.category == 2))))) : fx_LR b0 ex ms (fx_set (fx_set ls (i + 1) fx_U) i w) := by
  refine ⟨by rw [fx_set_len, fx_set_len]; exact h.1, h.2.1, fun j v hj hv => ?_⟩
  rcases fx_set_get _ i w j v hj hv with ⟨rfl, rfl⟩ | ⟨h1, h2, h3⟩
  · exact h.2.2 (j, fx_tr b0 ex v) List.mem_cons_self
  · rcases fx_set_get ls (i + 1) fx_U j v h2 hv with ⟨rfl, rfl⟩ | ⟨h5, h6, h7⟩
    · exact absurd rfl hv
    · refine h.2.2 (j, fx_tr b0 ex v) (List.mem_cons_of_mem _ (List.mem_filter.mpr ⟨fx_lv_mem.mpr ⟨v, h6, hv, rfl⟩, ?_⟩))
      have hc : (fx_tr b0 ex v).category = v.category := by cases v <;> first | rfl | (simp only [fx_tr]; cases ex 999999 <;> rfl)
      simp only [hc]
      by_cases h4 : j + 1 = i
      · have := h3 h4
        simp [h1, h5, this]
      · simp [h1, h5, h4]
theorem fx_words_cons2 {x : Value} {t : List Value} (h : x.category = 2) : fx_words (x :: t) = x :: fx_U :: fx_words t := by
  cases x <;> first | rfl | (simp [Value.category] at h)
theorem fx_words_cons1 {x : Value} {t : List Value} (h : ¬ x.category = 2) : fx_words (x :: t) = x :: fx_words t := by
  cases x <;> first | rfl | (simp [Value.category] at h)
theorem fx_tr_cat {b0 : Nat} {ex : Nat → Nat} (v : Value) : (fx_tr b0 ex v).category = v.category := by cases v <;> first | rfl | (simp only [fx_tr]; cases ex 999999 <;> rfl)
theorem fx_words_lg (b0 : Nat) (ex : Nat → Nat) : ∀ (vs : List Value), (lg_sl (vs.map (fx_tr b0 ex))).length = (fx_words vs).length ∧ ∀ (k i : Nat) (v : Value), (fx_words vs)[i]? = some v → v ≠ fx_U → (k + i, fx_tr b0 ex v) ∈ lv_args k (vs.map (fx_tr b0 ex))
  | [] => ⟨rfl, fun k i v h => by simp [fx_words] at h⟩
  | x :: t => by
    obtain ⟨ih1, ih2⟩ := fx_words_lg b0 ex t
    by_cases hc : x.category = 2
    · refine ⟨?_, fun k i v h hv => ?_⟩
      · have : lg_sl ((x :: t).map (fx_tr b0 ex)) = [.val (fx_tr b0 ex x), .second] ++ lg_sl (t.map (fx_tr b0 ex)) := by
          simp [lg_sl, fx_tr_cat, hc]
        rw [this, List.length_append, ih1, fx_words_cons2 hc]
        simp
        omega
      · rw [fx_words_cons2 hc] at h
        show (k + i, fx_tr b0 ex v) ∈ (k, fx_tr b0 ex x) :: lv_args (if (fx_tr b0 ex x).category = 2 then k + 2 else k + 1) (t.map (fx_tr b0 ex))
        rw [fx_tr_cat, if_pos hc]
        match i, h with
        | 0, h => simp at h; subst h; exact List.mem_cons_self
        | 1, h => simp at h; exact absurd h.symm hv
        | j + 2, h =>
          have h2 := ih2 (k + 2) j v (by simpa using h) hv
          rw [show k + (j + 2) = k + 2 + j by omega]
          exact List.mem_cons_of_mem _ h2
    · refine ⟨?_, fun k i v h hv => ?_⟩
      · have : lg_sl ((x :: t).map (fx_tr b0 ex)) = [.val (fx_tr b0 ex x)] ++ lg_sl (t.map (fx_tr b0 ex)) := by
          simp [lg_sl, fx_tr_cat, hc]
        rw [this, List.length_append, ih1, fx_words_cons1 hc]
        simp
        omega
      · rw [fx_words_cons1 hc] at h
        show (k + i, fx_tr b0 ex v) ∈ (k, fx_tr b0 ex x) :: lv_args (if (fx_tr b0 ex x).category = 2 then k + 2 else k + 1) (t.map (fx_tr b0 ex))
        rw [fx_tr_cat, if_neg hc]
        match i, h with
        | 0, h => simp at h; subst h; exact List.mem_cons_self
        | j + 1, h =>
          have h2 := ih2 (k + 1) j v (by simpa using h) hv
          rw [show k + (j + 1) = k + 1 + j by omega]
          exact List.mem_cons_of_mem _ h2
/-- the locals at a method's entry -/
theorem fx_entry (b0 : Nat) (ex : Nat → Nat) (vs : List Value) {n : Nat} (h : (fx_words vs).length ≤ n) : fx_LR b0 ex ((lg_sl (vs.map (fx_tr b0 ex)) ++ List.replicate (n - (lg_sl (vs.map (fx_tr b0 ex))).length) Slot.unset).toArray) (fx_ent vs n) := by
  obtain ⟨h1, h2⟩ := fx_words_lg b0 ex vs
  obtain ⟨g1, g2, g3⟩ := lv_entry (vs.map (fx_tr b0 ex)) (n := n) (by rw [h1]; exact h)
  refine ⟨by rw [g1]; simp [fx_ent]; omega, g2, fun i v hi hv => ?_⟩
  have hi2 : (fx_words vs)[i]? = some v := by
    unfold fx_ent at hi
    rw [List.getElem?_append] at hi
    split at hi
    · exact hi
    · exfalso
      rw [List.getElem?_replicate] at hi
      split at hi
      · cases hi; exact hv rfl
      · cases hi
  have h3 := g3 _ (h2 0 i v hi2 hv)
  simpa using h3
