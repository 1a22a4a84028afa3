/-! Calls, answers, switches; the run of a method's table -/
section OK4
variable {D : DD} {d : Nat} {μ μ' : MI} {pc : Nat}
theorem wp_called {M0 M M1 : Mem} {lv : LV} {st rest : List Value} {Q : Qt} {v : Option Value} {av : Array Value}
    (hrun : ∀ {p : Program} {l : Launch} {e : Env} {R : Room} {s : State} {m : MethodId} {args : Array Value} {below : List Frame} {meth : Method} {c : Code} {H : Heap} {locs : List Loc} {cells slots : Nat} {ls : Array Slot},
      Cx D μ p s m args meth c → Holds D H M → lv_has ls μ.2.2.1 lv → R.frames = d + 1 → R.locals = 40 * (d + 1) → cells + (mS M1 - mS M) ≤ R.cells → slots + (mU M1 - mU M) ≤ R.slots →
        va_Run p l e R s m args below meth c H locs cells slots (mS M1 - mS M) (mU M1 - mU M) (F0 m pc ls st) rest (Qm D M M1 v av) (dom0 M))
    (hE1 : Ext M M1) (k : wp D (d + 1) μ M0 M1 (pc + 3) lv (v.toList ++ rest) Q) : wp D (d + 1) μ M0 M pc lv st Q := by
  intro hE
  obtain ⟨Me, r, h1, h2, h3⟩ := k (hE.tr hE1)
  refine ⟨Me, r, h1, hE1.tr h2, ?_⟩
  intro p l e s m args below meth c hC hz H locs ls hH hS hl T hT X
  have a1 := hE.1
  have a2 := hE.2.1
  have b1 := hE1.1
  have b2 := hE1.2.1
  have c1 := h2.1
  have c2 := h2.2.1
  have run := hrun (p := p) (l := l) (e := e) (R := roomM (d + 1) M0 Me) (s := s) (m := m) (args := args) (below := below) (meth := meth) (c := c) (H := H) (locs := locs) (cells := mS M - mS M0) (slots := mU M - mU M0) (ls := ls) hC hH hl rfl rfl (by show _ ≤ mS Me - mS M0; omega) (by show _ ≤ mU Me - mU M0; omega)
  obtain ⟨v', st₀, t, T', L, g0, X', hL, e1, e2, ⟨hv, hH1, hF⟩, stp⟩ := run T hT X
  cases hv
  rw [show mS M - mS M0 + (mS M1 - mS M) = mS M1 - mS M0 by omega, show mU M - mU M0 + (mU M1 - mU M) = mU M1 - mU M0 by omega] at X'
  rw [← e1] at hH1
  have hF1 := hF.1
  have hF2 := hF.2
  rw [g0, ← e1] at hF1
  rw [g0, ← e1] at hF2
  obtain ⟨t2, x1, y1⟩ := h3 p l e s m args below meth c hC hz T'.heap (locs ++ L) ls hH1
    ⟨Nat.le_trans hS.1 hF1, fun q q1 q2 => (hF2 q (Nat.lt_of_lt_of_le q1 hS.1) (fun z => q2 (hE.dom z))).trans (hS.2.1 q q1 q2), fun q hq => by
      rcases List.mem_append.mp hq with h | h
      · exact hS.2.2 q h
      · exact hE.dom (hL q h)⟩ hl T' rfl X'
  exact ⟨t2, stp t2 x1, y1⟩
theorem room4 {rest : List Value} (h : rest.length ≤ 4) : (rest.map fun v => v.category).sum ≤ 8 := by
  have key : ∀ l : List Value, (l.map fun v => v.category).sum ≤ 2 * l.length := by
    intro l
    induction l with
    | nil => simp
    | cons v t ih =>
      have := lv_cat v
      simp only [List.map_cons, List.sum_cons, List.length_cons]
      omega
  have := key rest
  omega
def pN (n : Nat) (acc : List Value) (st : List Value) (f : List Value → List Value → Prop) : Prop := match n with
  | 0 => f acc st
  | n + 1 => pV st (fun v r => pN n (v :: acc) r f)
theorem pN_0 (acc st : List Value) (f : List Value → List Value → Prop) : pN 0 acc st f = f acc st := rfl
theorem pN_s (n : Nat) (acc st : List Value) (f : List Value → List Value → Prop) : pN (n + 1) acc st f = pV st (fun v r => pN n (v :: acc) r f) := rfl
theorem pN_e {n : Nat} {f : List Value → List Value → Prop} : ∀ {acc st : List Value}, pN n acc st f → ∃ As r, st = As.reverse ++ r ∧ As.length = n ∧ f (As ++ acc) r := by
  induction n with
  | zero => exact fun {acc st} h => ⟨[], st, rfl, rfl, h⟩
  | succ n ih =>
    intro acc st h
    obtain ⟨v, r, rfl, h⟩ := pV_e h
    obtain ⟨As, r', e1, e2, h2⟩ := ih (by assumption)
    subst e1
    refine ⟨As ++ [v], r', by simp, by simp [e2], by simpa using h2⟩
abbrev Sp : Type := List Value → Mem → Qt → Prop
/-- a method's words, for its callers -/
def MOk (μ' : MI) (n : Nat) : Prop := Cond.code μ'.1 μ'.2.1 μ'.2.2.1 μ'.2.2.2 ∈ gW ∧ Cond.initialized μ'.1.cls ∈ gW ∧ (μ'.1.cls ≠ "java/lang/invoke/MethodHandle" ∧ μ'.1.cls ≠ "java/lang/invoke/VarHandle" ∧ (parseMethodDescriptor μ'.1.desc).map (fun d => d.parameters.length) = some n) ∧ μ'.2.2.1 ≤ 21
theorem hR40 {R : Room} {mL dd : Nat} (h1 : R.frames = dd + 1) (h2 : R.locals = 40 * (dd + 1)) (h3 : mL ≤ 21) : dd + 1 ≤ R.frames ∧ 8 + (mL + 11) + 40 * dd ≤ R.locals := by omega
def tr_callV (C : Sp) (n c na : Nat) (lv : LV) (st : List Value) (M : Mem) (k : Kt) (_ : Qt) : Prop := pN na [] st (fun As r => pA r (fun b r => mK M b = c ∧ r.length ≤ 4 ∧ C (.ref b :: As) M (fun M' v => k n lv (v.toList ++ r) M')))
theorem ok_callV {C : Sp} {ci n idx : Nat} {q : vw_C} (hd : decode μ.2.1 pc = .ok (.invokevirtual idx, 3)) (hM : MOk μ' n) (hc : vwCl[ci]? = some q) (hq : q.1 = μ'.1.cls) (h1 : Cond.methodLink μ.1.cls idx μ'.1 ∈ gW) (h2 : Cond.instanceMethod μ'.1 ∈ gW) (h3 : Cond.selects μ'.1.cls μ'.1 μ'.1 ∈ gW) (hC : ∀ av M Q, C av M Q → Call D d μ' av M Q) : TrOk D (d + 1) μ pc (tr_callV C (pc + 3) (ci + 1) n) := fun M0 lv st M kt Q hkt h => by
  obtain ⟨As, r1, rfl, hn, h⟩ := pN_e h
  obtain ⟨b, r2, rfl, hb, hr, h⟩ := pA_e (by assumption)
  rw [List.append_nil] at h
  obtain ⟨M1, v, hk, hE1, hX⟩ := hC _ _ _ h
  refine wp_called (av := (Value.ref b :: As).toArray) (fun {p l e R s m args below meth c H locs cells slots ls} C hH hl hf hlo hce hsl => ?_) hE1 (hkt _ _ _ _ hk)
  obtain ⟨m1, m2, m3, m4⟩ := hM
  have hts := C.2.2.2.2.1
  obtain ⟨cell, q1, q2, q3, -⟩ := (hH.2.1 b (by rw [hb]; omega)).obj hc hb
  have hfc := (C.2.2.2.2.2.1.1 ci _ hc).2.1
  exact va_runV (C := μ'.1.cls) (As := As) (rest := r2) ⟨C.1, C.2.1, C.2.2.1, C.2.2.2.1, hts⟩ (hX l) ⟨callB_of n hts (wds_good m1 (fun w hw => hw)) rfl rfl rfl (hts _ m2) (hts _ h1) m3 (hR40 hf hlo m4), hts _ h2, hts _ h3⟩
    ⟨Pm.blind, ⟨cell, q1, by rw [q3]; rfl, by rw [q2, ← hq]; exact hfc⟩, fun U hU hW => ⟨rfl, C.2.2.2.2.2.1.moved hW, by rw [hU]; exact hH⟩⟩ rfl hn hl.1 rfl (lv_room (room4 hr)) hd ⟨hce, hsl⟩
def tr_callS (C : Sp) (n na : Nat) (lv : LV) (st : List Value) (M : Mem) (k : Kt) (_ : Qt) : Prop := pN na [] st (fun As r => r.length ≤ 4 ∧ C As M (fun M' v => k n lv (v.toList ++ r) M'))
theorem ok_callS {C : Sp} {n idx : Nat} (hd : decode μ.2.1 pc = .ok (.invokestatic idx, 3)) (hM : MOk μ' n) (h1 : Cond.methodLink μ.1.cls idx μ'.1 ∈ gW) (h2 : Cond.static μ'.1 ∈ gW) (hC : ∀ av M Q, C av M Q → Call D d μ' av M Q) : TrOk D (d + 1) μ pc (tr_callS C (pc + 3) n) := fun M0 lv st M kt Q hkt h => by
  obtain ⟨As, r1, rfl, hn, hr, h⟩ := pN_e h
  rw [List.append_nil] at h
  obtain ⟨M1, v, hk, hE1, hX⟩ := hC _ _ _ h
  refine wp_called (av := As.toArray) (fun {p l e R s m args below meth c H locs cells slots ls} C hH hl hf hlo hce hsl => ?_) hE1 (hkt _ _ _ _ hk)
  obtain ⟨m1, m2, m3, m4⟩ := hM
  have hts := C.2.2.2.2.1
  exact va_runS (As := As) (rest := r1) ⟨C.1, C.2.1, C.2.2.1, C.2.2.2.1, hts⟩ (hX l) ⟨callB_of n hts (wds_good m1 (fun w hw => hw)) rfl rfl rfl (hts _ m2) (hts _ h1) m3 (hR40 hf hlo m4), hts _ h2⟩
    ⟨Pm.blind, fun U hU hW => ⟨rfl, C.2.2.2.2.2.1.moved hW, by rw [hU]; exact hH⟩⟩ rfl hn hl.1 rfl (lv_room (room4 hr)) hd ⟨hce, hsl⟩
theorem ok_callSN {C : Sp} {n idx : Nat} {host : String} (hd : decode μ.2.1 pc = .ok (.invokestatic idx, 3)) (hM : MOk μ' n) (h1 : Cond.methodLinkNest μ.1.cls idx μ'.1 host ∈ nestW) (h2 : Cond.static μ'.1 ∈ gW) (hC : ∀ av M Q, C av M Q → Call D d μ' av M Q) : TrOk D (d + 1) μ pc (tr_callS C (pc + 3) n) := fun M0 lv st M kt Q hkt h => by
  obtain ⟨As, r1, rfl, hn, hr, h⟩ := pN_e h
  rw [List.append_nil] at h
  obtain ⟨M1, v, hk, hE1, hX⟩ := hC _ _ _ h
  refine wp_called (av := As.toArray) (fun {p l e R s m args below meth c H locs cells slots ls} C hH hl hf hlo hce hsl => ?_) hE1 (hkt _ _ _ _ hk)
  obtain ⟨m1, m2, m3, m4⟩ := hM
  have hts := C.2.2.2.2.1
  exact va_runSN (host := host) (As := As) (rest := r1) ⟨C.1, C.2.1, C.2.2.1, C.2.2.2.1, hts⟩ (hX l) ⟨va_cnB n hts (wds_good m1 (fun w hw => hw)) rfl rfl rfl (C.2.2.2.2.2.1.2.2.1 _ h1) (hts _ m2) m3 (hR40 hf hlo m4), hts _ h2, trivial⟩
    ⟨Pm.blind, fun U hU hW => ⟨rfl, C.2.2.2.2.2.1.moved hW, by rw [hU]; exact hH⟩⟩ rfl hn hl.1 rfl (lv_room (room4 hr)) hd ⟨hce, hsl⟩
def tr_callI (C : Sp) (n na : Nat) (lv : LV) (st : List Value) (M : Mem) (k : Kt) (_ : Qt) : Prop := pN na [] st (fun As r => pA r (fun b r => r.length ≤ 4 ∧ C (.ref b :: As) M (fun M' v => k n lv (v.toList ++ r) M')))
theorem ok_callI {C : Sp} {n idx : Nat} (hd : decode μ.2.1 pc = .ok (.invokespecial idx, 3)) (hM : MOk μ' n) (hnm : μ'.1.name = "<init>") (hrt : μ'.2.2.2 = none) (h1 : Cond.methodLink μ.1.cls idx μ'.1 ∈ gW) (h2 : Cond.instanceMethod μ'.1 ∈ gW) (hC : ∀ av M Q, C av M Q → Call D d μ' av M Q) : TrOk D (d + 1) μ pc (tr_callI C (pc + 3) n) := fun M0 lv st M kt Q hkt h => by
  obtain ⟨As, r1, rfl, hn, h⟩ := pN_e h
  obtain ⟨b, r2, rfl, hr, h⟩ := pA_e (by assumption)
  rw [List.append_nil] at h
  obtain ⟨M1, v, hk, hE1, hX⟩ := hC _ _ _ h
  refine wp_called (av := (Value.ref b :: As).toArray) (fun {p l e R s m args below meth c H locs cells slots ls} C hH hl hf hlo hce hsl => ?_) hE1 (hkt _ _ _ _ hk)
  obtain ⟨m1, m2, m3, m4⟩ := hM
  have hts := C.2.2.2.2.1
  rw [hrt] at m1
  exact va_runI (bytes := μ'.2.1) (maxL := μ'.2.2.1) (As := As) (rest := r2) ⟨C.1, C.2.1, C.2.2.1, C.2.2.2.1, hts⟩ (hX l) ⟨callB_of n hts (wds_good (by rw [hrt]; exact m1) (fun w hw => hw)) (by rw [wds, hrt]) rfl rfl (hts _ m2) (hts _ h1) m3 (hR40 hf hlo m4), hnm, hts _ h2⟩
    ⟨Pm.blind, fun U hU hW => ⟨rfl, C.2.2.2.2.2.1.moved hW, by rw [hU]; exact hH⟩⟩ rfl hn hl.1 rfl (lv_room (room4 hr)) hd ⟨hce, hsl⟩
theorem ok_callIN {C : Sp} {n idx : Nat} {host : String} (hd : decode μ.2.1 pc = .ok (.invokespecial idx, 3)) (hM : MOk μ' n) (hnm : μ'.1.name = "<init>") (hrt : μ'.2.2.2 = none) (h1 : Cond.methodLinkNest μ.1.cls idx μ'.1 host ∈ nestW) (h2 : Cond.instanceMethod μ'.1 ∈ gW) (hC : ∀ av M Q, C av M Q → Call D d μ' av M Q) : TrOk D (d + 1) μ pc (tr_callI C (pc + 3) n) := fun M0 lv st M kt Q hkt h => by
  obtain ⟨As, r1, rfl, hn, h⟩ := pN_e h
  obtain ⟨b, r2, rfl, hr, h⟩ := pA_e (by assumption)
  rw [List.append_nil] at h
  obtain ⟨M1, v, hk, hE1, hX⟩ := hC _ _ _ h
  refine wp_called (av := (Value.ref b :: As).toArray) (fun {p l e R s m args below meth c H locs cells slots ls} C hH hl hf hlo hce hsl => ?_) hE1 (hkt _ _ _ _ hk)
  obtain ⟨m1, m2, m3, m4⟩ := hM
  have hts := C.2.2.2.2.1
  rw [hrt] at m1
  exact va_runIN (host := host) (bytes := μ'.2.1) (maxL := μ'.2.2.1) (As := As) (rest := r2) ⟨C.1, C.2.1, C.2.2.1, C.2.2.2.1, hts⟩ (hX l) ⟨va_cnB n hts (wds_good (by rw [hrt]; exact m1) (fun w hw => hw)) (by rw [wds, hrt]) rfl rfl (C.2.2.2.2.2.1.2.2.1 _ h1) (hts _ m2) m3 (hR40 hf hlo m4), hnm, hts _ h2⟩
    ⟨Pm.blind, fun U hU hW => ⟨rfl, C.2.2.2.2.2.1.moved hW, by rw [hU]; exact hH⟩⟩ rfl hn hl.1 rfl (lv_room (room4 hr)) hd ⟨hce, hsl⟩
/-- Object's own constructor -/
def tr_obj (n : Nat) (lv : LV) (st : List Value) (M : Mem) (k : Kt) (_ : Qt) : Prop := pA st (fun _ r => r.length ≤ 4 ∧ k n lv r M)
theorem ok_obj {idx : Nat} (hd : decode μ.2.1 pc = .ok (.invokespecial idx, 3)) (h1 : Cond.methodLink μ.1.cls idx Lib.objectInit ∈ gW) (h2 : Cond.instanceMethod Lib.objectInit ∈ gW) (h3 : Cond.code Lib.objectInit ⟨#[0xb1]⟩ 1 none ∈ gW) : TrOk D (d + 1) μ pc (tr_obj (pc + 3)) := fun M0 lv st M kt Q hkt h => by
  obtain ⟨a, r, rfl, hr, h⟩ := pA_e h
  refine wp_step (fun {p l e R s m args below meth c H locs cells slots Qw ls} C hH hl hf hlo kk => ?_) (hkt _ _ _ _ h)
  have hts := C.2.2.2.2.1
  have h8 : 2 * (F0 m pc ls (.ref a :: r)).monitorRoom + (r.map fun v => v.category).sum ≤ 8 := lv_room (room4 hr)
  exact W.objInit C.1 C.2.1 C.2.2.2.1 (hts _ h1) (hts _ h2) (hts _ h3) rfl (by rw [C.2.2.1]; exact hl.1) rfl hd (by rw [hf]; omega) (by rw [hlo]; omega) (kk _ hl)
-- answers
def tr_iret (_ : LV) (st : List Value) (M : Mem) (_ : Kt) (Q : Qt) : Prop := pI st (fun x r => r = [] ∧ Q M (some (.int x)))
theorem ok_iret (hd : decode μ.2.1 pc = .ok (.ireturn, 1)) (hr : μ.2.2.2 = some .int) : TrOk D d μ pc tr_iret := fun M0 lv st M kt Q hkt h => by
  obtain ⟨x, r, rfl, rfl, hZ⟩ := pI_e h
  exact wp_end (fun C hq hf => W.iret C.1 C.2.1 (C.2.2.2.2.2.2.2.1.trans hr) hq hf hd C.2.2.2.2.2.2.1) hZ
def tr_zret (_ : LV) (st : List Value) (M : Mem) (_ : Kt) (Q : Qt) : Prop := pI st (fun x r => r = [] ∧ (x = 0 ∨ x = 1) ∧ Q M (some (.int x)))
theorem ok_zret (hd : decode μ.2.1 pc = .ok (.ireturn, 1)) (hr : μ.2.2.2 = some .boolean) : TrOk D d μ pc tr_zret := fun M0 lv st M kt Q hkt h => by
  obtain ⟨x, r, rfl, rfl, hx, h⟩ := pI_e h
  exact wp_end (fun C hq hf => W.zret C.1 C.2.1 (C.2.2.2.2.2.2.2.1.trans hr) (by rcases hx with rfl | rfl <;> rfl) hq hf hd C.2.2.2.2.2.2.1) h
def tr_lret (_ : LV) (st : List Value) (M : Mem) (_ : Kt) (Q : Qt) : Prop := pL st (fun x r => r = [] ∧ Q M (some (.long x)))
theorem ok_lret (hd : decode μ.2.1 pc = .ok (.lreturn, 1)) (hr : μ.2.2.2 = some .long) : TrOk D d μ pc tr_lret := fun M0 lv st M kt Q hkt h => by
  obtain ⟨x, r, rfl, rfl, hZ⟩ := pL_e h
  exact wp_end (fun C hq hf => W.lret C.1 C.2.1 (C.2.2.2.2.2.2.2.1.trans hr) hq hf hd C.2.2.2.2.2.2.1) hZ
def tr_aret (_ : LV) (st : List Value) (M : Mem) (_ : Kt) (Q : Qt) : Prop := pV st (fun x r => r = [] ∧ isR x ∧ Q M (some x))
theorem ok_aret {nm : String} (hd : decode μ.2.1 pc = .ok (.areturn, 1)) (hr : μ.2.2.2 = some (.object nm)) : TrOk D d μ pc tr_aret := fun M0 lv st M kt Q hkt h => by
  obtain ⟨x, r, rfl, rfl, hx, h⟩ := pV_e h
  exact wp_end (fun C hq hf => W.aret C.1 C.2.1 (C.2.2.2.2.2.2.2.1.trans hr) (Or.inl ⟨_, rfl⟩) hx hq hf hd C.2.2.2.2.2.2.1) h
def tr_ret (_ : LV) (st : List Value) (M : Mem) (_ : Kt) (Q : Qt) : Prop := st = [] ∧ Q M none
theorem ok_ret (hd : decode μ.2.1 pc = .ok (.return_, 1)) (hr : μ.2.2.2 = none) : TrOk D d μ pc tr_ret := fun M0 lv st M kt Q hkt h => by
  obtain ⟨rfl, h⟩ := h
  exact wp_end (fun C hq hf => W.vret C.1 C.2.1 (C.2.2.2.2.2.2.2.1.trans hr) hq hf hd C.2.2.2.2.2.2.1) h
-- switches
theorem sw_cases {x : Int32} {dflt : Nat} {f : Nat → Prop} : ∀ (tgs : List Nat) (j : Nat), (j + tgs.length ≤ 1000) → sw x (nI j) tgs dflt f → (¬ (j : Int) ≤ x.toInt ∧ f dflt) ∨ ((j + tgs.length : Int) ≤ x.toInt ∧ f dflt) ∨ ∃ (i t : Nat), tgs[i]? = some t ∧ x.toInt = (j : Int) + (i : Int) ∧ f t := by
  intro tgs
  induction tgs with
  | nil =>
    intro j hj h
    simp only [sw] at h
    by_cases e : (j : Int) ≤ x.toInt
    · exact Or.inr (Or.inl ⟨by simpa using e, h⟩)
    · exact Or.inl ⟨e, h⟩
  | cons t r ih =>
    intro j hj h
    simp only [List.length_cons] at hj ⊢
    rw [sw] at h
    by_cases e : x = nI j
    · rw [if_pos e] at h
      refine Or.inr (Or.inr ⟨0, t, rfl, ?_, h⟩)
      rw [e, nI_toInt (by omega)]; simp
    · have hne : x.toInt ≠ (j : Int) := fun q => e (Int32.toInt_inj.mp (by rw [q, nI_toInt (by omega)]))
      rw [if_neg e] at h
      have h3 := ih (j + 1) (by omega) (by rw [← nI_1]; exact h)
      rcases h3 with ⟨g1, g2⟩ | ⟨g1, g2⟩ | ⟨i, t', g1, g2, g3⟩
      · exact Or.inl ⟨by omega, g2⟩
      · exact Or.inr (Or.inl ⟨by omega, g2⟩)
      · exact Or.inr (Or.inr ⟨i + 1, t', g1, by omega, g3⟩)
theorem ok_sw {df hi lo' : Int} {offs : Array Int} {len dflt : Nat} (j : Nat) {lo : Int32} {tgs : List Nat} (hd : decode μ.2.1 pc = .ok (.tableswitch df lo' hi offs, len)) (hlo : nI j = lo) (hlo2 : lo' = (j : Int)) (h1 : hi + 1 = (j : Int) + (tgs.length : Int)) (h0 : j + tgs.length ≤ 1000) (h2 : (pc : Int) + df = (dflt : Int)) (h3 : offs.toList.map (fun o => (pc : Int) + o) = tgs.map (fun t : Nat => (t : Int))) : TrOk D d μ pc (tr_sw lo tgs dflt) := fun M0 lv st M kt Q hkt h => by
  subst hlo hlo2
  obtain ⟨x, r, rfl, hZ⟩ := pI_e h
  rcases sw_cases tgs j h0 hZ with ⟨g1, g2⟩ | ⟨g1, g2⟩ | ⟨i, t, g1, g2, g3⟩
  · exact wp_step (fun C _ hl _ _ kk => lv_tableOut C.1 C.2.1 hd (Or.inl (by omega)) h2 (kk _ hl)) (hkt _ _ _ _ g2)
  · exact wp_step (fun C _ hl _ _ kk => lv_tableOut C.1 C.2.1 hd (Or.inr (by omega)) h2 (kk _ hl)) (hkt _ _ _ _ g2)
  · have hi' : i < tgs.length := (List.getElem?_eq_some_iff.mp g1).1
    have h4 := congrArg (fun l => l[i]?) h3
    simp only [List.getElem?_map, g1, Option.map_some, Array.getElem?_toList] at h4
    cases ho : offs[i]? with
    | none => rw [ho] at h4; simp at h4
    | some o =>
      rw [ho] at h4
      simp only [Option.map_some, Option.some.injEq] at h4
      exact wp_step (fun C _ hl _ _ kk => lv_tableIn C.1 C.2.1 hd (by omega) (by omega) (by rw [show (x.toInt - (j : Int)).toNat = i by omega]; exact ho) h4 (kk _ hl)) (hkt _ _ _ _ g3)
end OK4
/-! the run: a table of a method's steps by their places; at a place of K the run stops -/
abbrev Tab : Type := Nat → Tr
def trF : Tr := fun _ _ _ _ _ => False
abbrev St : Type := Nat → Option (LV → List Value → Mem → Prop)
def go (tab : Tab) (K : St) (Q : Qt) (n : Nat) (pc : Nat) (lv : LV) (st : List Value) (M : Mem) : Prop := match n with
  | 0 => False
  | n + 1 => match K pc with
    | some P => P lv st M
    | none => tab pc lv st M (go tab K Q n) Q
theorem tk_l {D : DD} {d : Nat} {μ : MI} {pc k : Nat} {t : Tr} (h : TrOk D d μ k t) : TrOk D d μ pc (bif Nat.beq k pc then t else trF) := by
  cases e : Nat.beq k pc with
  | true =>
    have e' : k = pc := Nat.eq_of_beq_eq_true e
    simp only [cond_true]
    rw [← e']
    exact h
  | false =>
    simp only [cond_false]
    exact fun _ _ _ _ _ _ _ h => h.elim
theorem tk_b {D : DD} {d : Nat} {μ : MI} {pc : Nat} {b : Bool} {t u : Tr} (h1 : TrOk D d μ pc t) (h2 : TrOk D d μ pc u) : TrOk D d μ pc (bif b then t else u) := by
  cases b
  · exact h2
  · exact h1
theorem go_ok {D : DD} {d : Nat} {μ : MI} {M0 : Mem} {tab : Tab} {K : St} {Q : Qt} (h : ∀ pc, TrOk D d μ pc (tab pc)) (hK : ∀ pc P, K pc = some P → ∀ lv st M, P lv st M → wp D d μ M0 M pc lv st Q) : ∀ (n pc : Nat) (lv : LV) (st : List Value) (M : Mem), go tab K Q n pc lv st M → wp D d μ M0 M pc lv st Q := by
  intro n
  induction n with
  | zero => exact fun _ _ _ _ h => h.elim
  | succ n ih =>
    intro pc lv st M hg
    rw [go] at hg
    cases e : K pc with
    | some P => rw [e] at hg; exact hK pc P e lv st M hg
    | none =>
      rw [e] at hg
      exact h pc M0 lv st M _ Q ih hg
/-- from a place on, by the table, whatever K says of that place itself -/
theorem run_ok {D : DD} {d : Nat} {μ : MI} {M0 : Mem} {tab : Tab} (K : St) {Q : Qt} (h : ∀ pc, TrOk D d μ pc (tab pc)) (hK : ∀ pc P, K pc = some P → ∀ lv st M, P lv st M → wp D d μ M0 M pc lv st Q) (n : Nat) {pc : Nat} {lv : LV} {st : List Value} {M : Mem} (hg : tab pc lv st M (go tab K Q n) Q) : wp D d μ M0 M pc lv st Q :=
  h pc M0 lv st M _ Q (fun pc lv st M => go_ok h hK n pc lv st M) hg
def K0 : St := fun _ => none
/-- a method without loops -/
theorem run0 {D : DD} {d : Nat} {μ : MI} {M0 : Mem} {tab : Tab} {Q : Qt} (h : ∀ pc, TrOk D d μ pc (tab pc)) (n : Nat) {pc : Nat} {lv : LV} {st : List Value} {M : Mem} (hg : go tab K0 Q n pc lv st M) : wp D d μ M0 M pc lv st Q :=
  go_ok h (fun _ _ h => by cases h) n pc lv st M hg
