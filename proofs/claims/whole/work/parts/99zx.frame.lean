/-! ===== a call that never looks at a cell leaves it ===== -/
/-- what no instruction makes and none can look at -/
def fJ : va_E := .inl (77, 0, .inr (.inr (.inl (fun _ => 0))))
def fr_r (n : Nat) (g0 f g : Nat → va_E) : Prop := 233 ≤ n ∧ ∀ c, (198 ≤ c ∧ c < 233 ∧ f c = fJ ∧ g c = g0 c) ∨ (¬ (198 ≤ c ∧ c < 233) ∧ g c = f c)
theorem fr_up {n : Nat} {g0 f g : Nat → va_E} (h : fr_r n g0 f g) (a : Nat) {e : va_E} (ha : ¬ (198 ≤ a ∧ a < 233)) : fr_r n g0 (va_up f a e) (va_up g a e) := by
  refine ⟨h.1, fun c => ?_⟩
  unfold va_up
  by_cases hc : c = a
  · rw [if_pos hc, if_pos hc]; exact .inr ⟨by omega, rfl⟩
  · rw [if_neg hc, if_neg hc]; exact h.2 c
theorem fr_nw {n : Nat} {g0 f g : Nat → va_E} (h : fr_r n g0 f g) {e : va_E} : fr_r (n + 1) g0 (va_up f n e) (va_up g n e) := by
  have h1 := h.1
  exact ⟨by omega, (fr_up h n (by omega)).2⟩
def fx_fs (g0 : Nat → va_E) (a b : Option fx_R) : Prop := ∀ r, a = some r → ∃ g, b = some (r.1, (r.2.1, r.2.2.1, r.2.2.2.1, g)) ∧ fr_r r.2.1 g0 r.2.2.2.2 g
theorem fx_fs.no (g0 : Nat → va_E) (b : Option fx_R) : fx_fs g0 none b := fun _ h => by cases h
theorem fx_fs.rt {n : Nat} {g0 f g : Nat → va_E} (h : fr_r n g0 f g) (v : (Option Value) ⊕ Nat) (cc ss : Nat) : fx_fs g0 (some (v, (n, cc, ss, f))) (some (v, (n, cc, ss, g))) := fun r hr => by
  cases hr
  exact ⟨g, rfl, h⟩
theorem fx_fs.only {g0 : Nat → va_E} {a b : Option fx_R} (h : fx_fs g0 a b) (n : Nat) : fx_fs g0 (fx_only n a) (fx_only n b) := by
  intro r hr
  unfold fx_only at hr ⊢
  split at hr
  · rename_i hn
    rw [if_pos hn]
    split at hr
    · rename_i v h1
      cases hr
      obtain ⟨g, e, hg⟩ := h _ rfl
      rw [e]
      exact ⟨g, rfl, hg⟩
    · cases hr
  · rename_i hn
    rw [if_neg hn]
    exact h _ hr
theorem fx_fs.thn {g0 : Nat → va_E} {hn : Nat → Option (Nat × Nat)} {jump : fx_J} {go : List Value → fx_H → Option fx_R} {ls rest : List Value} {a b : Option fx_R} (h : fx_fs g0 a b) (hj : ∀ t ls st n cc ss f g, fr_r n g0 f g → fx_fs g0 (jump t ls st (n, cc, ss, f)) (jump t ls st (n, cc, ss, g))) (hg : ∀ st n cc ss f g, fr_r n g0 f g → fx_fs g0 (go st (n, cc, ss, f)) (go st (n, cc, ss, g))) : fx_fs g0 (fx_then hn jump go ls rest a) (fx_then hn jump go ls rest b) := by
  intro r hr
  cases a with
  | none => simp [fx_then] at hr
  | some x =>
    obtain ⟨g, e, hfr⟩ := h x rfl
    rw [e]
    obtain ⟨v, n, cc, ss, f⟩ := x
    rcases v with (_ | v) | t
    · exact hg _ _ _ _ _ _ hfr _ hr
    · exact hg _ _ _ _ _ _ hfr _ hr
    · simp only [fx_then] at hr ⊢
      split
      · rename_i tg htg
        rw [htg] at hr
        exact hj _ _ _ _ _ _ _ _ hfr _ hr
      · rename_i htg
        rw [htg] at hr
        cases hr
        exact ⟨g, rfl, hfr⟩
set_option maxHeartbeats 4000000 in
theorem fx_1_fs {g0 : Nat → va_E} {sc : Nat × (Nat → Int32)} {tx : List (List Int32)} {df : Nat → List Value} {call : fx_C} {hn : Nat → Option (Nat × Nat)} {jump : fx_J} (h1 : ∀ k as n cc ss f g, fr_r n g0 f g → fx_fs g0 (call k as (n, cc, ss, f)) (call k as (n, cc, ss, g))) (h2 : ∀ t ls st n cc ss f g, fr_r n g0 f g → fx_fs g0 (jump t ls st (n, cc, ss, f)) (jump t ls st (n, cc, ss, g))) : ∀ (code : List Instr) (ls st : List Value) (n cc ss : Nat) (f g : Nat → va_E), fr_r n g0 f g → fx_fs g0 (fx_1 sc tx df call hn jump code ls st (n, cc, ss, f)) (fx_1 sc tx df call hn jump code ls st (n, cc, ss, g))
  | [], _, _, _, _, _, _, _, _ => fx_fs.no _ _
  | ci :: k, ls, st, n, cc, ss, f, g, hf => by
    have ih := fx_1_fs (sc := sc) (tx := tx) (df := df) (hn := hn) h1 h2 k
    cases ci
    case getfield x =>
      simp only [fx_1]
      split
      · rename_i a st'
        rcases hf.2 a with ⟨_, _, e1, e2⟩ | ⟨e1, e2⟩
        · rw [e1]; exact fx_fs.no _ _
        · rw [e2]
          (repeat' split) <;> first
            | exact fx_fs.no _ _
            | exact ih _ _ _ _ _ _ _ hf
      · exact fx_fs.no _ _
    case putfield x =>
      simp only [fx_1]
      split
      · rename_i v a st'
        rcases hf.2 a with ⟨_, _, e1, e2⟩ | ⟨e1, e2⟩
        · rw [e1]; exact fx_fs.no _ _
        · rw [e2]
          (repeat' split) <;> first
            | exact fx_fs.no _ _
            | exact ih _ _ _ _ _ _ _ (fr_up hf _ e1)
      · exact fx_fs.no _ _
    case iaload =>
      simp only [fx_1]
      split
      · rename_i i a st'
        rcases hf.2 a with ⟨_, _, e1, e2⟩ | ⟨e1, e2⟩
        · rw [e1]; exact fx_fs.no _ _
        · rw [e2]
          (repeat' split) <;> first
            | exact fx_fs.no _ _
            | exact ih _ _ _ _ _ _ _ hf
      · exact fx_fs.no _ _
    case iastore =>
      simp only [fx_1]
      split
      · rename_i x i a st'
        rcases hf.2 a with ⟨_, _, e1, e2⟩ | ⟨e1, e2⟩
        · rw [e1]; exact fx_fs.no _ _
        · rw [e2]
          (repeat' split) <;> first
            | exact fx_fs.no _ _
            | exact ih _ _ _ _ _ _ _ (fr_up hf _ e1)
      · exact fx_fs.no _ _
    case baload =>
      simp only [fx_1]
      split
      · rename_i i a st'
        rcases hf.2 a with ⟨_, _, e1, e2⟩ | ⟨e1, e2⟩
        · rw [e1]; exact fx_fs.no _ _
        · rw [e2]
          (repeat' split) <;> first
            | exact fx_fs.no _ _
            | exact ih _ _ _ _ _ _ _ hf
      · (repeat' split) <;> first
            | exact fx_fs.no _ _
            | exact ih _ _ _ _ _ _ _ hf
      · exact fx_fs.no _ _
    case bastore =>
      simp only [fx_1]
      split
      · rename_i x i a st'
        rcases hf.2 a with ⟨_, _, e1, e2⟩ | ⟨e1, e2⟩
        · rw [e1]; exact fx_fs.no _ _
        · rw [e2]
          (repeat' split) <;> first
            | exact fx_fs.no _ _
            | exact ih _ _ _ _ _ _ _ (fr_up hf _ e1)
      · exact fx_fs.no _ _
    case laload =>
      simp only [fx_1]
      split
      · rename_i i a st'
        rcases hf.2 a with ⟨_, _, e1, e2⟩ | ⟨e1, e2⟩
        · rw [e1]; exact fx_fs.no _ _
        · rw [e2]
          (repeat' split) <;> first
            | exact fx_fs.no _ _
            | exact ih _ _ _ _ _ _ _ hf
      · exact fx_fs.no _ _
    case lastore =>
      simp only [fx_1]
      split
      · rename_i x i a st'
        rcases hf.2 a with ⟨_, _, e1, e2⟩ | ⟨e1, e2⟩
        · rw [e1]; exact fx_fs.no _ _
        · rw [e2]
          (repeat' split) <;> first
            | exact fx_fs.no _ _
            | exact ih _ _ _ _ _ _ _ (fr_up hf _ e1)
      · exact fx_fs.no _ _
    case aaload =>
      simp only [fx_1]
      split
      · rename_i i a st'
        rcases hf.2 a with ⟨_, _, e1, e2⟩ | ⟨e1, e2⟩
        · rw [e1]; exact fx_fs.no _ _
        · rw [e2]
          (repeat' split) <;> first
            | exact fx_fs.no _ _
            | exact ih _ _ _ _ _ _ _ hf
      · exact fx_fs.no _ _
    case aastore =>
      simp only [fx_1]
      split
      · rename_i v i a st'
        rcases hf.2 a with ⟨_, _, e1, e2⟩ | ⟨e1, e2⟩
        · rw [e1]; exact fx_fs.no _ _
        · rcases hf.2 v with ⟨_, _, e3, e4⟩ | ⟨e3, e4⟩
          · rw [e3]
            generalize f a = q
            rcases q with ⟨t, n', _ | _ | _ | _ | q⟩ | q <;> exact fx_fs.no _ _
          · rw [e2, e4]
            (repeat' split) <;> first
              | exact fx_fs.no _ _
              | exact ih _ _ _ _ _ _ _ (fr_up hf _ e1)
      · exact fx_fs.no _ _
    case arraylength =>
      simp only [fx_1]
      split
      · rename_i a st'
        rcases hf.2 a with ⟨_, _, e1, e2⟩ | ⟨e1, e2⟩
        · rw [e1]; exact fx_fs.no _ _
        · rw [e2]
          (repeat' split) <;> first
            | exact fx_fs.no _ _
            | exact ih _ _ _ _ _ _ _ hf
      · exact ih _ _ _ _ _ _ _ hf
      · (repeat' split) <;> first
            | exact fx_fs.no _ _
            | exact ih _ _ _ _ _ _ _ hf
      · exact fx_fs.no _ _
    case invokeinterface m x =>
      simp only [fx_1]
      generalize st.drop (x / 64) = S
      split
      · rename_i a rest
        rcases hf.2 a with ⟨_, _, e1, e2⟩ | ⟨e1, e2⟩
        · rw [e1]; exact fx_fs.no _ _
        · rw [e2]
          split
          · split
            · exact fx_fs.thn ((h1 _ _ _ _ _ _ _ hf).only _) h2 (fun st n cc ss f g hh => ih _ _ _ _ _ _ _ hh)
            · exact fx_fs.no _ _
          · exact fx_fs.no _ _
      · exact fx_fs.no _ _
    all_goals (simp only [fx_1] <;> (try exact ih _ _ _ _ _ _ _ hf) <;> (try exact fx_fs.no _ _) <;> (repeat' split) <;> first
      | exact fx_fs.no _ _
      | exact ih _ _ _ _ _ _ _ hf
      | exact h2 _ _ _ _ _ _ _ _ hf
      | exact fx_fs.rt hf _ _ _
      | exact ih _ _ _ _ _ _ _ (fr_nw hf)
      | exact fx_fs.thn ((h1 _ _ _ _ _ _ _ hf).only _) h2 (fun st n cc ss f g hh => ih _ _ _ _ _ _ _ hh)
      | exact fx_fs.thn (h1 _ _ _ _ _ _ _ hf) h2 (fun st n cc ss f g hh => ih _ _ _ _ _ _ _ hh)
      | (simp only [*]; first | exact fx_fs.no _ _ | exact ih _ _ _ _ _ _ _ hf | exact h2 _ _ _ _ _ _ _ _ hf | exact fx_fs.thn ((h1 _ _ _ _ _ _ _ hf).only _) h2 (fun st n cc ss f g hh => ih _ _ _ _ _ _ _ hh) | exact fx_fs.thn (h1 _ _ _ _ _ _ _ hf) h2 (fun st n cc ss f g hh => ih _ _ _ _ _ _ _ hh)))
theorem fx_J1_fs {g0 : Nat → va_E} {sc : Nat × (Nat → Int32)} {tx : List (List Int32)} {df : Nat → List Value} {call : fx_C} {hn : Nat → Option (Nat × Nat)} {code : List Instr} (h1 : ∀ k as n cc ss f g, fr_r n g0 f g → fx_fs g0 (call k as (n, cc, ss, f)) (call k as (n, cc, ss, g))) : ∀ (F : Nat) (t : Nat) (ls st : List Value) (n cc ss : Nat) (f g : Nat → va_E), fr_r n g0 f g → fx_fs g0 (fx_J1 sc tx df call hn code F t ls st (n, cc, ss, f)) (fx_J1 sc tx df call hn code F t ls st (n, cc, ss, g))
  | 0, _, _, _, _, _, _, _, _, _ => fx_fs.no _ _
  | F + 1, t, ls, st, n, cc, ss, f, g, hf => fx_1_fs h1 (fun t ls st n cc ss f g hf => fx_J1_fs h1 F t ls st n cc ss f g hf) (code.drop t) ls st n cc ss f g hf
theorem fx_M_fs {g0 : Nat → va_E} {sc : Nat × (Nat → Int32)} {tx : List (List Int32)} {df : Nat → List Value} {cd : Nat → List Instr} {nl : Nat → Nat} {hd : Nat → Nat → Option (Nat × Nat)} {F : Nat} : ∀ (d k : Nat) (as : List Value) (n cc ss : Nat) (f g : Nat → va_E), fr_r n g0 f g → fx_fs g0 (fx_M sc tx df cd nl hd F d k as (n, cc, ss, f)) (fx_M sc tx df cd nl hd F d k as (n, cc, ss, g))
  | 0, _, _, _, _, _, _, _, _ => fx_fs.no _ _
  | d + 1, k, as, n, cc, ss, f, g, hf => by
    simp only [fx_M]
    split
    · exact fx_J1_fs (fun k as n cc ss f g hf => fx_M_fs d k as n cc ss f g hf) F _ _ _ _ _ _ _ _ hf
    · exact fx_fs.no _ _
section
variable {sc : Nat × (Nat → Int32)} {d m n cc ss : Nat} {f g g0 : Nat → va_E} {Q : fx_R → Prop} {args : List Value}
theorem wM_frame (h : wM sc d m args (n, cc, ss, f) Q) (hf : fr_r n g0 f g) : wM sc d m args (n, cc, ss, g) (fun r => ∃ f', fr_r r.2.1 g0 f' r.2.2.2.2 ∧ Q (r.1, (r.2.1, r.2.2.1, r.2.2.2.1, f'))) := by
  obtain ⟨r, hq, F0, hF⟩ := h
  obtain ⟨g', e, hg⟩ := fx_M_fs d m args n cc ss f g hf r (hF F0 (Nat.le_refl _))
  obtain ⟨v, n', cc', ss', f'⟩ := r
  exact ⟨(v, (n', cc', ss', g')), ⟨f', hg, hq⟩, F0, fun F h => fx_M_ms h _ _ _ _ _ e⟩
end
/-- the class's cells alone -/
def cut (f : Nat → va_E) : Nat → va_E := fun c => if 198 ≤ c ∧ c < 233 then fJ else f c
theorem iC_cg {f f' : Nat → va_E} {P P2 L L2 u v w : Nat} {p : Pw} (hk : p.im ≤ 3) (h : iC f P P2 L L2 u v w p) (hc : ∀ c, c ≠ 0 → c < 198 → f' c = f c) : iC f' P P2 L L2 u v w p := by
  obtain ⟨h1, h2, h3, h4, h5, h6, h7, h8, h9, h10⟩ := h
  exact ⟨iA_fr h1 (hc _ (by omega) (by omega)) (hc _ (by omega) (by omega)), iB_fr h2 (fun c _ _ => hc c (by omega) (by omega)), iL_fr h3 (fun c _ _ => hc c (by omega) (by omega)), iD_fr h4 (fun c _ _ => hc c (by omega) (by omega)), iU_fr h5 (fun c _ _ => hc c (by omega) (by omega)), sy_at_fr h6 (fun c _ _ => hc c (by omega) (by omega)), iG_fr hk h7 (hc _ (by omega) (by omega)) (fun c _ _ => hc c (by omega) (by omega)), iH_fr h8 (fun c _ _ => hc c (by omega) (by omega)), iP_fr h9 (fun c _ _ => hc c (by omega) (by omega)), iX_fr h10 (hc _ (by omega) (by omega)) (hc _ (by omega) (by omega))⟩
theorem CI_cg {f f' : Nat → va_E} {p : Pw} (h : CI f p) (hc : ∀ c, c < 198 → f' c = f c) : CI f' p := by
  obtain ⟨hp, P, P2, L, L2, u, v, w, ds, h0, hC⟩ := h
  exact ⟨hp, P, P2, L, L2, u, v, w, ds, (hc 0 (by omega)).trans h0, iC_cg hp.2.2.2.2.1 hC (fun c _ h => hc c h)⟩
/-- a call of the class leaves the reference's cells -/
theorem cOK_fr {sc : Nat × (Nat → Int32)} {D m : Nat} {as : List Value} {p : Pw} {R : Oc → Prop} (h : cOK sc D m as p R) {n cc ss : Nat} {f : Nat → va_E} {Q : fx_R → Prop} (hc : CI f p) (hn : 233 ≤ n) (hq : ∀ f' r, CI f' r.1 → R r → (∀ c, 198 ≤ c → c < 233 → f' c = f c) → Q (rOut n cc ss f' r.2)) : wM sc D m (.ref 0 :: as) (n, cc, ss, f) Q := by
  have hcut : fr_r n f (cut f) f := by
    refine ⟨hn, fun c => ?_⟩
    unfold cut
    by_cases h1 : 198 ≤ c ∧ c < 233
    · rw [if_pos h1]; exact .inl ⟨h1.1, h1.2, rfl, rfl⟩
    · rw [if_neg h1]; exact .inr ⟨h1, rfl⟩
  have h1 := h n cc ss (cut f) (fun x => ∃ f' r, CI f' r.1 ∧ R r ∧ x = rOut n cc ss f' r.2) (CI_cg hc (fun c h => by unfold cut; rw [if_neg (by omega)])) (fun f' r a b => ⟨f', r, a, b, rfl⟩)
  refine wM_mono (wM_frame h1 hcut) ?_
  rintro ⟨x, n', cc', ss', g'⟩ ⟨f1, hf1, f2, r, hr1, hr2, hr3⟩
  have hg : ∀ c, 198 ≤ c → c < 233 → g' c = f c := by
    intro c c1 c2
    rcases hf1.2 c with ⟨_, _, _, e⟩ | ⟨e, _⟩
    · exact e
    · exact absurd ⟨c1, c2⟩ e
  have hg2 : ∀ c, c < 198 → g' c = f1 c := by
    intro c c1
    rcases hf1.2 c with ⟨e, _, _, _⟩ | ⟨_, e⟩
    · omega
    · exact e
  obtain ⟨rp, ro⟩ := r
  cases ro with
  | inl v =>
    cases hr3
    exact hq g' (rp, .inl v) (CI_cg hr1 hg2) hr2 hg
  | inr v =>
    cases hr3
    exact hq g' (rp, .inr v) (CI_cg hr1 hg2) hr2 hg
/-- class and reference side by side -/
theorem mh_keep {f f' : Nat → va_E} {I : Nat → Int32} {A : Nat → Nat → Int32} {L : Nat → Nat → Int64} (h : ∀ c, 198 ≤ c → c < 233 → f' c = mh f I A L c) : f' = mh f' I A L := by
  funext c
  by_cases h1 : c < 198 ∨ 231 < c
  · rw [mh_f h1]
  · rw [h c (by omega) (by omega)]
    have h0 : ¬ c < 198 := by omega
    have h4 : c < 232 := by omega
    unfold mh
    simp only [h0, h4, if_true, if_false]
