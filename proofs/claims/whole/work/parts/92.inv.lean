/-! ===== the class as a whole: what its cells hold ===== -/
abbrev fw_O (P P2 L L2 u v w im : Nat) (ds ms il : Int32) : va_E := .inr (11, [.ref 1, .ref P, .ref P2, .ref L, .ref L2, .ref 21, .ref u, .ref v, .ref w, .ref 32, .ref 68, .int (nI im), .ref 69, .ref 75, .ref 82, .ref 84, .ref 88, .int ds, .int ms, .int il])
/-- what both programs hold: bytes fed, the fault's place, town, law, song, book, story, images, steps refused, two counts -/
abbrev Pw : Type := Nat × (Nat → Nat) × Int32 × Tn × (List (Nat × Int32)) × (Nat × (Nat → Nat)) × (Nat × (Nat → Nat)) × Sy × Nat × (Nat → Sy) × Nat × Int32 × Int32
abbrev Pw.fi (p : Pw) : Nat := p.1
abbrev Pw.T (p : Pw) : Nat → Nat := p.2.1
abbrev Pw.fp (p : Pw) : Int32 := p.2.2.1
abbrev Pw.t (p : Pw) : Tn := p.2.2.2.1
abbrev Pw.C (p : Pw) : List (Nat × Int32) := p.2.2.2.2.1
abbrev Pw.so (p : Pw) : Nat × (Nat → Nat) := p.2.2.2.2.2.1
abbrev Pw.bo (p : Pw) : Nat × (Nat → Nat) := p.2.2.2.2.2.2.1
abbrev Pw.y (p : Pw) : Sy := p.2.2.2.2.2.2.2.1
abbrev Pw.im (p : Pw) : Nat := p.2.2.2.2.2.2.2.2.1
abbrev Pw.img (p : Pw) : Nat → Sy := p.2.2.2.2.2.2.2.2.2.1
abbrev Pw.rf (p : Pw) : Nat := p.2.2.2.2.2.2.2.2.2.2.1
abbrev Pw.ms (p : Pw) : Int32 := p.2.2.2.2.2.2.2.2.2.2.2.1
abbrev Pw.il (p : Pw) : Int32 := p.2.2.2.2.2.2.2.2.2.2.2.2
def sy_ok (t : Tn) (z : Sy) : Prop := sn_ok t z.1 ∧ ∀ i, i < z.2.1 → sn_ok t (z.2.2 i)
def pw_ok (p : Pw) : Prop := p.fi ≤ 600 ∧ tn_p p.t ∧ lw_ok p.C ∧ sy_ok p.t p.y ∧ p.im ≤ 3 ∧ (∀ i, i < p.im → sy_ok p.t (p.img i)) ∧ p.rf ≤ 200
def iA (f : Nat → va_E) (fi : Nat) (T : Nat → Nat) (fp : Int32) : Prop := ct_b f T ∧ ∃ e pl mq k : Int32, f 1 = .inr (8, [.ref 2, .int (nI fi), .int e, .int pl, .int mq, .int k, .int fp])
def iB (f : Nat → va_E) (P P2 : Nat) (t : Tn) : Prop := ((P = 3 ∧ P2 = 7) ∨ (P = 7 ∧ P2 = 3)) ∧ tn_at f P t ∧ tn_sh f P2
def iL (f : Nat → va_E) (L L2 : Nat) (C : List (Nat × Int32)) : Prop := ((L = 11 ∧ L2 = 16) ∨ (L = 16 ∧ L2 = 11)) ∧ lw_at f L C ∧ lw_sh f L2
def iD (f : Nat → va_E) (rf : Nat) : Prop := ws_sh f (nI rf) ∧ ∃ gl, f 25 = ar_I 150 gl
def tu_sh (f : Nat → va_E) (u : Nat) : Prop := ∃ z, True ∧ f u = tu_O u z ∧ ∃ g, f (u + 1) = ar_I 20 g
def iU (f : Nat → va_E) (u v w : Nat) (so bo : Nat × (Nat → Nat)) : Prop := ((u = 26 ∨ u = 28 ∨ u = 30) ∧ (v = 26 ∨ v = 28 ∨ v = 30) ∧ (w = 26 ∨ w = 28 ∨ w = 30) ∧ u ≠ v ∧ v ≠ w ∧ u ≠ w) ∧ tu_at f u 4 so ∧ tu_at f v 10 bo ∧ tu_sh f w
def iG (f : Nat → va_E) (mn im : Nat) (img : Nat → Sy) : Prop := (∃ r : Nat → Option Nat, f 68 = .inl (4, 3, .inr (.inr (.inr (.inr r)))) ∧ ∀ i, i < 3 → r i = some (90 + 36 * i)) ∧ (∀ i, i < im → sy_at mn f (90 + 36 * i) (img i)) ∧ ∀ i, i < 3 → ∃ z, sy_at 0 f (90 + 36 * i) z
def iH (f : Nat → va_E) (t : Tn) : Prop := ∃ lf, st_at f t lf ∧ (∃ t' lf', ga_at f t' lf') ∧ ∀ fo, lf = some fo → ga_at f t (some fo)
theorem iH_mk {f : Nat → va_E} {t : Tn} {fo : Nat} (h1 : st_at f t (some fo)) (h2 : ga_at f t (some fo)) : iH f t := ⟨some fo, h1, ⟨t, some fo, h2⟩, fun fo' h => by cases h; exact h2⟩
def iP (f : Nat → va_E) : Prop := f 82 = pa_O ∧ (∃ g, f 83 = ar_I 100 g) ∧ (∃ x y, f 84 = li_O x y) ∧ (∃ g, f 85 = ar_I 10 g) ∧ (∃ g, f 86 = ar_I 11 g) ∧ (∃ g, f 87 = ar_I 10 g)
def iX (f : Nat → va_E) : Prop := ∃ s, sn_at 0 f 88 s
/-- all cells but the first -/
def iC (f : Nat → va_E) (P P2 L L2 u v w : Nat) (p : Pw) : Prop := iA f p.fi p.T p.fp ∧ iB f P P2 p.t ∧ iL f L L2 p.C ∧ iD f p.rf ∧ iU f u v w p.so p.bo ∧ sy_at p.t.m f 32 p.y ∧ iG f p.t.m p.im p.img ∧ iH f p.t ∧ iP f ∧ iX f
def CI (f : Nat → va_E) (p : Pw) : Prop := pw_ok p ∧ ∃ P P2 L L2 u v w ds, f 0 = fw_O P P2 L L2 u v w p.im ds p.ms p.il ∧ iC f P P2 L L2 u v w p
section
variable {f f' : Nat → va_E} {P P2 L L2 u v w : Nat} {t : Tn} {p : Pw}
theorem iA_fr {fi : Nat} {T : Nat → Nat} {fp : Int32} (h : iA f fi T fp) (h1 : f' 1 = f 1) (h2 : f' 2 = f 2) : iA f' fi T fp := by
  obtain ⟨⟨g, a1, a2⟩, e, pl, mq, k, a3⟩ := h
  exact ⟨⟨g, h2.trans a1, a2⟩, e, pl, mq, k, h1.trans a3⟩
theorem iB_fr (h : iB f P P2 t) (hf : ∀ c, 3 ≤ c → c ≤ 10 → f' c = f c) : iB f' P P2 t := by
  obtain ⟨a1, a2, a3⟩ := h
  exact ⟨a1, tn_at_fr a2 (fun c _ _ => hf c (by omega) (by omega)), tn_sh_fr a3 (fun c _ _ => hf c (by omega) (by omega))⟩
theorem iL_fr {C : List (Nat × Int32)} (h : iL f L L2 C) (hf : ∀ c, 11 ≤ c → c ≤ 20 → f' c = f c) : iL f' L L2 C := by
  obtain ⟨a1, a2, C2, a3, a4⟩ := h
  exact ⟨a1, lw_at_fr a2 (fun c _ _ => hf c (by omega) (by omega)), C2, a3, lw_at_fr a4 (fun c _ _ => hf c (by omega) (by omega))⟩
theorem iD_fr {rf : Nat} (h : iD f rf) (hf : ∀ c, 21 ≤ c → c ≤ 25 → f' c = f c) : iD f' rf := by
  obtain ⟨a1, gl, a2⟩ := h
  exact ⟨ws_sh_fr a1 (fun c _ _ => hf c (by omega) (by omega)), gl, (hf 25 (by omega) (by omega)).trans a2⟩
theorem tu_sh_fr (h : tu_sh f u) (h1 : f' u = f u) (h2 : f' (u + 1) = f (u + 1)) : tu_sh f' u := by
  obtain ⟨z, a1, a2, g, a3⟩ := h
  exact ⟨z, a1, h1.trans a2, g, h2.trans a3⟩
theorem tu_at_sh {m : Nat} {z : Nat × (Nat → Nat)} (h : tu_at f u m z) : tu_sh f u := by
  obtain ⟨a1, a2, a3, g, a4, a5⟩ := h
  exact ⟨z.1, trivial, a1, g, a4⟩
theorem iU_fr {so bo : Nat × (Nat → Nat)} (h : iU f u v w so bo) (hf : ∀ c, 26 ≤ c → c ≤ 31 → f' c = f c) : iU f' u v w so bo := by
  obtain ⟨a1, a2, a3, a4⟩ := h
  exact ⟨a1, tu_at_fr a2 (hf _ (by omega) (by omega)) (hf _ (by omega) (by omega)), tu_at_fr a3 (hf _ (by omega) (by omega)) (hf _ (by omega) (by omega)), tu_sh_fr a4 (hf _ (by omega) (by omega)) (hf _ (by omega) (by omega))⟩
theorem iG_fr {mn im : Nat} {img : Nat → Sy} (him : im ≤ 3) (h : iG f mn im img) (h68 : f' 68 = f 68) (hf : ∀ c, 90 ≤ c → c ≤ 197 → f' c = f c) : iG f' mn im img := by
  obtain ⟨⟨r, a1, a2⟩, a3, a4⟩ := h
  refine ⟨⟨r, h68.trans a1, a2⟩, fun i hi => sy_at_fr (a3 i hi) (fun c _ _ => hf c (by omega) (by omega)), fun i hi => ?_⟩
  obtain ⟨z, hz⟩ := a4 i hi
  exact ⟨z, sy_at_fr hz (fun c _ _ => hf c (by omega) (by omega))⟩
theorem st_tab_fr2 {fo : Nat} (h : st_tab f t fo) (hf : ∀ c, 70 ≤ c → c ≤ 72 → f' c = f c) : st_tab f' t fo := by
  obtain ⟨⟨g1, a1, b1⟩, ⟨g2, a2, b2⟩, ⟨g3, a3, b3⟩⟩ := h
  exact ⟨⟨g1, (hf _ (by omega) (by omega)).trans a1, b1⟩, ⟨g2, (hf _ (by omega) (by omega)).trans a2, b2⟩, ⟨g3, (hf _ (by omega) (by omega)).trans a3, b3⟩⟩
theorem st_at_fr2 {lf : Option Nat} (h : st_at f t lf) (hf : ∀ c, 69 ≤ c → c ≤ 74 → f' c = f c) : st_at f' t lf := by
  obtain ⟨co, l, w1, w2, a1, a2, ⟨g1, a3⟩, ⟨g2, a4⟩, ⟨g3, a5⟩, ⟨g4, a6⟩, ⟨g5, a7⟩, a8⟩ := h
  refine ⟨co, l, w1, w2, (hf _ (by omega) (by omega)).trans a1, a2, ⟨g1, (hf _ (by omega) (by omega)).trans a3⟩, ⟨g2, (hf _ (by omega) (by omega)).trans a4⟩, ⟨g3, (hf _ (by omega) (by omega)).trans a5⟩, ⟨g4, (hf _ (by omega) (by omega)).trans a6⟩, ⟨g5, (hf _ (by omega) (by omega)).trans a7⟩, ?_⟩
  cases lf with
  | none => exact a8
  | some fo => exact ⟨a8.1, a8.2.1, a8.2.2.1, st_tab_fr2 a8.2.2.2 (fun c _ _ => hf c (by omega) (by omega))⟩
theorem iP_fr (h : iP f) (hf : ∀ c, 82 ≤ c → c ≤ 87 → f' c = f c) : iP f' := by
  obtain ⟨a1, ⟨g2, a2⟩, ⟨x, y, a3⟩, ⟨g4, a4⟩, ⟨g5, a5⟩, ⟨g6, a6⟩⟩ := h
  exact ⟨(hf _ (by omega) (by omega)).trans a1, ⟨g2, (hf _ (by omega) (by omega)).trans a2⟩, ⟨x, y, (hf _ (by omega) (by omega)).trans a3⟩, ⟨g4, (hf _ (by omega) (by omega)).trans a4⟩, ⟨g5, (hf _ (by omega) (by omega)).trans a5⟩, ⟨g6, (hf _ (by omega) (by omega)).trans a6⟩⟩
theorem iX_fr (h : iX f) (h1 : f' 88 = f 88) (h2 : f' 89 = f 89) : iX f' := by
  obtain ⟨s, a1⟩ := h
  exact ⟨s, sn_at_fr a1 h1 h2⟩
end
