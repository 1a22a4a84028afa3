/-! tell: a phase -/
/-- a listener has been told, the cue goes on -/
def K2 (h h' : Nat) (P P' : LV → List Value → Mem → Prop) : St := fun pc => if pc = h then some P else if pc = h' then some P' else none
theorem go_2 (tab : Tab) (Q : Qt) (h h' : Nat) (P P' : LV → List Value → Mem → Prop) (n pc : Nat) (lv : LV) (st : List Value) (M : Mem) : go tab (K2 h h' P P') Q (n + 1) pc lv st M = if pc = h then P lv st M else if pc = h' then P' lv st M else tab pc lv st M (go tab (K2 h h' P P') Q n) Q := by
  by_cases e : pc = h
  · simp [go, K2, e]
  · by_cases e' : pc = h'
    · have e2 : ¬ h' = h := fun z => e (e'.trans z)
      simp [go, K2, e', e2]
    · simp [go, K2, e, e']
/-- a run up to one of two places -/
theorem runL2 {D : DD} {d : Nat} {μ : MI} {M0 : Mem} {tab : Tab} {Q : Qt} (hd hd' : Nat) (h : ∀ pc, TrOk D d μ pc (tab pc)) (n : Nat) {pc : Nat} {lv : LV} {st : List Value} {M : Mem} (hg : tab pc lv st M (go tab (K2 hd hd' (fun lv st M => wp D d μ M0 M hd lv st Q) (fun lv st M => wp D d μ M0 M hd' lv st Q)) Q n) Q) : wp D d μ M0 M pc lv st Q := by
  refine run_ok (K2 hd hd' (fun lv st M => wp D d μ M0 M hd lv st Q) (fun lv st M => wp D d μ M0 M hd' lv st Q)) h (fun pc' P' hK lv st M hp => ?_) n hg
  unfold K2 at hK
  by_cases e : pc' = hd
  · rw [if_pos e] at hK; cases hK; rw [e]; exact hp
  · rw [if_neg e] at hK
    by_cases e' : pc' = hd'
    · rw [if_pos e'] at hK; cases hK; rw [e']; exact hp
    · rw [if_neg e'] at hK; cases hK
theorem nodup_split {l : Nat} : ∀ {a a' b b' : List Nat}, (a ++ l :: b).Nodup → a ++ l :: b = a' ++ l :: b' → b = b' := by
  intro a
  induction a with
  | nil =>
    intro a' b b' hn he
    cases a' with
    | nil => exact (List.cons.inj he).2
    | cons q t =>
      rw [List.nil_append, List.cons_append] at he
      have h2 := (List.cons.inj he).2
      rw [List.nil_append] at hn
      have : l ∈ b := by rw [h2]; exact List.mem_append_right _ List.mem_cons_self
      exact absurd this (List.nodup_cons.mp hn).1
  | cons q t ih =>
    intro a' b b' hn he
    cases a' with
    | nil =>
      rw [List.nil_append, List.cons_append] at he
      have h1 := (List.cons.inj he).1
      rw [List.cons_append, h1] at hn
      exact absurd (List.mem_append_right _ List.mem_cons_self) (List.nodup_cons.mp hn).1
    | cons q' t' =>
      rw [List.cons_append, List.cons_append] at he
      rw [List.cons_append] at hn
      exact ih (List.nodup_cons.mp hn).2 (List.cons.inj he).2
theorem Lk_suf {nx : Nat → Option Nat} {la : Nat → Nat} {o : Option Nat} {A B : List Nat} (h : Lk nx la o (A ++ B)) : Lk nx la (hdo la B) B := by
  obtain ⟨o', h'⟩ := Lk_app h
  rw [← Lk_hd h']; exact h'
/-- from the phase's begin to now -/
def Kr (x e : Nat) (c c' : Core) (M M' : Mem) : Prop := Cfr x e M M' ∧ Ofr e c c' ∧ kI c' 25 0 = kI c 25 0 ∧ (∀ k, k ∈ [26, 28, 29, 31] → kI c' k e = kI c k e) ∧ kI c' 32 e = 0 ∧ (∀ q, q < 200 * (e + 1) → kI c' 22 q = kI c 22 q) ∧ ((mR M' 199 ((x + 37 + e)) 0) = (mR M 199 ((x + 37 + e)) 0) ∧ (mI M' 104 ((x + 37 + e)) 0) = (mI M 104 ((x + 37 + e)) 0)) ∧ (mL M' 102 ((x + 37 + e)) 0) = kL c' 27 e ∧ kI c' 39 0 = kI c 39 0 ∧ kI c' 46 0 = kI c 46 0 ∧ kL c' 47 0 = kL c 47 0
theorem Kr.tr {x e : Nat} {c c1 c2 : Core} {M M1 M2 : Mem} (h : Kr x e c c1 M M1) (g : Kr x e c1 c2 M1 M2) : Kr x e c c2 M M2 := by
  obtain ⟨a1, a2, a3, a4, a5, a6, ⟨a7, a8⟩, a9, a10, a11, a12⟩ := h
  obtain ⟨b1, b2, b3, b4, b5, b6, ⟨b7, b8⟩, b9, b10, b11, b12⟩ := g
  exact ⟨a1.tr b1, a2.tr b2, b3.trans a3, fun k hk => (b4 k hk).trans (a4 k hk), b5, fun q hq => (b6 q hq).trans (a6 q hq), ⟨b7.trans a7, b8.trans a8⟩, b9, b10.trans a10, b11.trans a11, b12.trans a12⟩
theorem Kr_30 {x e : Nat} {c : Core} {M : Mem} {n : Int32} (h : kI c 32 e = 0) (hv : (mL M 102 ((x + 37 + e)) 0) = kL c 27 e) : Kr x e c (uI c 30 e n) M M := by
  have hne : ∀ k i, (¬ k = 30 ∨ ¬ i = e) → kI (uI c 30 e n) k i = kI c k i := fun k i h => by
    rw [kI_uI, if_neg (fun q => h.elim (fun z => z q.1) (fun z => z q.2))]
  refine ⟨Cfr.rf, ⟨fun e' he' => ⟨fun k _ => hne k e' (Or.inr (by omega)), rfl, rfl⟩, fun q _ => hne _ _ (Or.inl (by decide))⟩, hne _ _ (Or.inl (by decide)), fun k hk => hne k e (Or.inl ?_), (hne _ _ (Or.inl (by decide))).trans h, fun q _ => hne _ _ (Or.inl (by decide)), ⟨rfl, rfl⟩, hv, hne _ _ (Or.inl (by decide)), hne _ _ (Or.inl (by decide)), rfl⟩
  simp only [List.mem_cons, List.not_mem_nil, or_false] at hk; omega
/-- the frames of a cue's end, seen from an earlier state -/
theorem Fin_of {b : Int32} {x e : Nat} {c0 c c' : Core} {M0 M M' : Mem} (hC : Cfr x e M0 M) (hO : Ofr e c0 c) (h39 : kI c 39 0 = kI c0 39 0) (h46 : kI c 46 0 = kI c0 46 0) (h47 : kL c 47 0 = kL c0 47 0) (h : Fin b x e c M c' M') : Fin b x e c0 M0 c' M' := by
  obtain ⟨f1, f2, f3, f4, f5, f6⟩ := h
  refine ⟨f1, ⟨fun e' he' => ?_, fun q hq => (f2.2 q hq).trans (hO.2 q hq)⟩, hC.tr f3, fun e1 h1 => ?_, fun h => ?_, fun h1 h2 => ?_⟩
  · obtain ⟨u1, u2, u3⟩ := f2.1 e' he'
    obtain ⟨w1, w2, w3⟩ := hO.1 e' he'
    exact ⟨fun k hk => (u1 k hk).trans (w1 k hk), u2.trans w2, fun q => (u3 q).trans w3⟩
  · rw [f4 e1 h1, (hO.1 e1 (by omega)).2.2]
  · obtain ⟨g1, g2, g3⟩ := f5 h
    exact ⟨g1.trans h39, g2.trans h46, g3.trans h47⟩
  · obtain ⟨g1, g2⟩ := f6 h1 h2
    rw [h46] at g2
    exact ⟨g1, g2⟩
/-- where a phase ends -/
def PostP (b : Int32) (x e n Rs : Nat) (c0 : Core) (M1 : Mem) (nk : Nat) (ka dp : Nat → Nat) (ns nl0 : Nat) (la0 : Nat → Nat) (ch0 : Nat → List Nat) (S0 U0 : Nat) (M' : Mem) : Prop := ∃ (c' : Core) (nl' : Nat) (la' : Nat → Nat) (ch' : Nat → List Nat) (cu' nf' lg' wn' : Nat), Gs b c0 c' ∧ MS M' x c' nk ka dp ns nl' la' ch' S0 U0 cu' nf' lg' wn' ∧ Evl c0 nl0 la0 ch0 c' nl' la' ch' ∧ nf' + e ≤ 35 ∧ lg' + Rs ≤ 6000 * cu' ∧ ((Kr x e c0 c' M1 M' ∧ kI c' 30 e = nI n) ∨ (Fin b x e c0 M1 c' M' ∧ ¬ (mI M' 104 ((x + 37 + e)) 0) = -4 ∧ kI c0 28 e = 0))
theorem uI_uI {c : Core} {k i : Nat} {v w : Int32} : uI (uI c k i v) k i w = uI c k i w := by
  refine Prod.ext ?_ rfl
  funext k' i'
  show (if k' = k ∧ i' = i then w else if k' = k ∧ i' = i then v else c.1 k' i') = if k' = k ∧ i' = i then w else c.1 k' i'
  by_cases q : k' = k ∧ i' = i
  · rw [if_pos q, if_pos q]
  · rw [if_neg q, if_neg q, if_neg q]
/-- all that are left are passed over -/
theorem gs_rest {b : Int32} {c : Core} {e nf : Nat} {ts : List Nat} (h1 : (kI c 25 0) = nI (e + 1)) (h2 : e < 12) (hu : (kI c 32 (e)) = 0) (hm : (kI c 29 (e)) = nI ts.length) (hmn : ts.length ≤ 200) (ht : ∀ i v, ts[i]? = some v → (kI c 22 (200 * e + i)) = nI v ∧ v < 200) (hf : (kI c 43 0) = nI nf) (hnf : nf < 64) (h24 : ¬ nf < 24) :
    ∀ (r nx : Nat) (c1 : Core), nx + r = ts.length → c1 = uI c 30 e (nI nx) → Gs b c1 (uI c 30 e (nI ts.length)) := by
  intro r
  induction r with
  | zero =>
    intro nx c1 hr hc
    rw [hc, show nx = ts.length by omega]; exact Gs.rf
  | succ r ih =>
    intro nx c1 hr hc
    have hlt : nx < ts.length := by omega
    obtain ⟨g1, g2⟩ := ht nx ts[nx] (List.getElem?_eq_getElem hlt)
    have hne : ∀ k i, ¬ k = 30 → kI c1 k i = kI c k i := fun k i h => by
      rw [hc, kI_uI, if_neg (fun q => h q.1)]
    refine Gs.cons (gs_pass (nx := nx) ((hne _ _ (by decide)).trans h1) h2 ((hne _ _ (by decide)).trans hu) (by rw [hc, kI_uI, if_pos ⟨rfl, rfl⟩]) ((hne _ _ (by decide)).trans hm) hlt hmn ((hne _ _ (by decide)).trans g1) g2 ((hne _ _ (by decide)).trans hf) hnf (fun q => h24 q.1)) (ih (nx + 1) _ (by omega) (by rw [hc, uI_uI]))
