/-! The instructions as rows that say what must hold ahead of them -/
abbrev Kt : Type := Nat → LV → List Value → Mem → Prop
abbrev Qt : Type := Mem → Option Value → Prop
abbrev Tr : Type := LV → List Value → Mem → Kt → Qt → Prop
def TrOk (D : DD) (d : Nat) (μ : MI) (pc : Nat) (t : Tr) : Prop := ∀ (M0 : Mem) (lv : LV) (st : List Value) (M : Mem) (k : Kt) (Q : Qt), (∀ pc' lv' st' M', k pc' lv' st' M' → wp D d μ M0 M' pc' lv' st' Q) → t lv st M k Q → wp D d μ M0 M pc lv st Q
def lk (lv : LV) (i : Nat) : Option Value := match lv with
  | [] => none
  | q :: r => if q.1 = i then some q.2 else lk r i
theorem lk_mem {lv : LV} {i : Nat} {v : Value} (h : lk lv i = some v) : (i, v) ∈ lv := by
  induction lv with
  | nil => simp [lk] at h
  | cons q r ih =>
    rw [lk] at h
    by_cases e : q.1 = i
    · rw [if_pos e] at h
      have : q = (i, v) := by rw [← e, ← Option.some.inj h]
      rw [this]; exact List.mem_cons_self
    · rw [if_neg e] at h
      exact List.mem_cons_of_mem _ (ih h)
def rm1 (i : Nat) (lv : LV) : LV := match lv with
  | [] => []
  | q :: r => if q.1 = i ∨ (q.1 + 1 = i ∧ q.2.category = 2) then rm1 i r else q :: rm1 i r
def rm2 (i : Nat) (lv : LV) : LV := match lv with
  | [] => []
  | q :: r => if q.1 = i ∨ q.1 = i + 1 ∨ (q.1 + 1 = i ∧ q.2.category = 2) then rm2 i r else q :: rm2 i r
theorem rm1_eq (i : Nat) (lv : LV) : lv.filter (fun q => !(q.1 == i) && !(q.1 + 1 == i && q.2.category == 2)) = rm1 i lv := by
  induction lv with
  | nil => rfl
  | cons q r ih =>
    rw [List.filter_cons, rm1, ih]
    by_cases h : q.1 = i ∨ (q.1 + 1 = i ∧ q.2.category = 2)
    · rw [if_pos h, if_neg]
      rcases h with h | ⟨h1, h2⟩
      · simp [h]
      · simp [h1, h2]
    · rw [if_neg h, if_pos]
      simp only [not_or, not_and] at h
      obtain ⟨h1, h2⟩ := h
      by_cases h3 : q.1 + 1 = i
      · have := h2 h3
        simp [h1, h3, this]
      · simp [h1, h3]
theorem rm2_eq (i : Nat) (lv : LV) : lv.filter (fun q => !(q.1 == i) && (!(q.1 == i + 1) && !(q.1 + 1 == i && q.2.category == 2))) = rm2 i lv := by
  induction lv with
  | nil => rfl
  | cons q r ih =>
    rw [List.filter_cons, rm2, ih]
    by_cases h : q.1 = i ∨ q.1 = i + 1 ∨ (q.1 + 1 = i ∧ q.2.category = 2)
    · rw [if_pos h, if_neg]
      rcases h with h | h | ⟨h1, h2⟩
      · simp [h]
      · simp [h]
      · simp [h1, h2]
    · rw [if_neg h, if_pos]
      simp only [not_or, not_and] at h
      obtain ⟨h1, h4, h2⟩ := h
      by_cases h3 : q.1 + 1 = i
      · have := h2 h3
        simp [h1, h3, h4, this]
      · simp [h1, h3, h4]
def pI (st : List Value) (f : Int32 → List Value → Prop) : Prop := match st with
  | .int x :: r => f x r
  | _ => False
def pL (st : List Value) (f : Int64 → List Value → Prop) : Prop := match st with
  | .long x :: r => f x r
  | _ => False
def pA (st : List Value) (f : Nat → List Value → Prop) : Prop := match st with
  | .ref x :: r => f x r
  | _ => False
def pV (st : List Value) (f : Value → List Value → Prop) : Prop := match st with
  | v :: r => f v r
  | _ => False
def oI (o : Option Value) (f : Int32 → Prop) : Prop := match o with
  | some (.int x) => f x
  | _ => False
def oL (o : Option Value) (f : Int64 → Prop) : Prop := match o with
  | some (.long x) => f x
  | _ => False
def oV (o : Option Value) (f : Value → Prop) : Prop := match o with
  | some v => f v
  | _ => False
theorem pI_i (x : Int32) (r : List Value) (f : Int32 → List Value → Prop) : pI (.int x :: r) f = f x r := rfl
theorem pL_i (x : Int64) (r : List Value) (f : Int64 → List Value → Prop) : pL (.long x :: r) f = f x r := rfl
theorem pA_i (x : Nat) (r : List Value) (f : Nat → List Value → Prop) : pA (.ref x :: r) f = f x r := rfl
theorem pA_s (x : Nat) (r : List Value) (f : Nat → List Value → Prop) : pA (va_rf (some x) :: r) f = f x r := rfl
theorem pV_i (x : Value) (r : List Value) (f : Value → List Value → Prop) : pV (x :: r) f = f x r := rfl
theorem oI_i (x : Int32) (f : Int32 → Prop) : oI (some (.int x)) f = f x := rfl
theorem oL_i (x : Int64) (f : Int64 → Prop) : oL (some (.long x)) f = f x := rfl
theorem oV_i (x : Value) (f : Value → Prop) : oV (some x) f = f x := rfl
theorem pI_e {st : List Value} {f : Int32 → List Value → Prop} (h : pI st f) : ∃ x r, st = .int x :: r ∧ f x r := by
  unfold pI at h; split at h
  · exact ⟨_, _, rfl, h⟩
  · exact h.elim
theorem pL_e {st : List Value} {f : Int64 → List Value → Prop} (h : pL st f) : ∃ x r, st = .long x :: r ∧ f x r := by
  unfold pL at h; split at h
  · exact ⟨_, _, rfl, h⟩
  · exact h.elim
theorem pA_e {st : List Value} {f : Nat → List Value → Prop} (h : pA st f) : ∃ x r, st = .ref x :: r ∧ f x r := by
  unfold pA at h; split at h
  · exact ⟨_, _, rfl, h⟩
  · exact h.elim
theorem pV_e {st : List Value} {f : Value → List Value → Prop} (h : pV st f) : ∃ x r, st = x :: r ∧ f x r := by
  unfold pV at h; split at h
  · exact ⟨_, _, rfl, h⟩
  · exact h.elim
theorem oI_e {o : Option Value} {f : Int32 → Prop} (h : oI o f) : ∃ x, o = some (.int x) ∧ f x := by
  unfold oI at h; split at h
  · exact ⟨_, rfl, h⟩
  · exact h.elim
theorem oL_e {o : Option Value} {f : Int64 → Prop} (h : oL o f) : ∃ x, o = some (.long x) ∧ f x := by
  unfold oL at h; split at h
  · exact ⟨_, rfl, h⟩
  · exact h.elim
theorem oV_e {o : Option Value} {f : Value → Prop} (h : oV o f) : ∃ x, o = some x ∧ f x := by
  unfold oV at h; split at h
  · exact ⟨_, rfl, h⟩
  · exact h.elim
/-- the reference that a value is -/
def rfo (v : Value) : Option Nat := match v with
  | .ref a => some a
  | _ => none
def isR (v : Value) : Prop := v = .null ∨ ∃ a, v = .ref a
theorem isR_rf (x : Option Nat) : isR (va_rf x) = True := by cases x <;> simp [isR, va_rf]
theorem isR_ref (x : Nat) : isR (.ref x) = True := by simp [isR]
theorem isR_null : isR .null = True := by simp [isR]
theorem rfo_rf (x : Option Nat) : rfo (va_rf x) = x := by cases x <;> rfl
theorem rfo_ref (x : Nat) : rfo (.ref x) = some x := rfl
theorem rfo_null : rfo .null = none := rfl
theorem rf_rfo {v : Value} (h : isR v) : va_rf (rfo v) = v := by
  rcases h with rfl | ⟨a, rfl⟩ <;> rfl
theorem rf_some (x : Nat) : va_rf (some x) = .ref x := rfl
theorem rf_none : va_rf none = .null := rfl
theorem rf_eq_null (x : Option Nat) : (va_rf x = .null) = (x = none) := by cases x <;> simp [va_rf]
theorem rf_eq_ref (x : Option Nat) (a : Nat) : (va_rf x = .ref a) = (x = some a) := by cases x <;> simp [va_rf]
theorem cat_i (x : Int32) : (Value.int x).category = 1 := rfl
theorem cat_l (x : Int64) : (Value.long x).category = 2 := rfl
theorem cat_r (x : Nat) : (Value.ref x).category = 1 := rfl
theorem cat_n : Value.null.category = 1 := rfl
theorem cat_rf (x : Option Nat) : (va_rf x).category = 1 := by cases x <;> rfl
theorem cat_isR {v : Value} (h : isR v) : v.category = 1 := by rcases h with rfl | ⟨a, rfl⟩ <;> rfl
section WV
variable {p : Program} {l : Launch} {e : Env} {R : Room} {s : State} {m : MethodId} {args : Array Value} {below : List Frame} {meth : Method} {c : Code} {H : Heap} {locs : List Loc} {cells slots : Nat} {Q : State → Prop}
variable {cc : ByteArray} {pc : Nat} {ls : Array Slot} {rest : List Value}
theorem wv_aload_n (hexec : p.tables.exec = Jvm.exec) (hb : c.code = cc) {k : Fin 4} {i : Nat} {v : Value} (hdg : decode cc pc = .ok (.aload_n k, 1)) (hi : (k : Nat) = i) (hl : ls[i]? = some (.val v)) (hv : isR v)
    (k : W p l e R s m args below meth c H locs cells slots Q (F0 m (pc + 1) ls (v :: rest))) : W p l e R s m args below meth c H locs cells slots Q (F0 m pc ls (rest)) := by
  subst hi
  intro T hT X
  obtain ⟨t, a, b⟩ := k T hT X
  refine ⟨t, ?_, b⟩
  rcases hv with rfl | ⟨x, rfl⟩
  · jvm_step X.here [X.here.top, hexec, hb, hdg, hl, Value.isRef]
    exact a
  · jvm_step X.here [X.here.top, hexec, hb, hdg, hl, Value.isRef]
    exact a
theorem wv_aload (hexec : p.tables.exec = Jvm.exec) (hb : c.code = cc) {i : Nat} {v : Value} (hdg : decode cc pc = .ok (.aload i, 2)) (hl : ls[i]? = some (.val v)) (hv : isR v)
    (k : W p l e R s m args below meth c H locs cells slots Q (F0 m (pc + 2) ls (v :: rest))) : W p l e R s m args below meth c H locs cells slots Q (F0 m pc ls (rest)) := by
  intro T hT X
  obtain ⟨t, a, b⟩ := k T hT X
  refine ⟨t, ?_, b⟩
  rcases hv with rfl | ⟨x, rfl⟩
  · jvm_step X.here [X.here.top, hexec, hb, hdg, hl, Value.isRef]
    exact a
  · jvm_step X.here [X.here.top, hexec, hb, hdg, hl, Value.isRef]
    exact a
theorem wv_astore_n (hexec : p.tables.exec = Jvm.exec) (hb : c.code = cc) {k : Fin 4} {i nL : Nat} {v : Value} {lv lv' : List (Nat × Value)} (hdg : decode cc pc = .ok (.astore_n k, 1)) (hi : (k : Nat) = i) (hv : isR v) (h : lv_has ls nL lv) (hn : i < nL) (hl : (i, v) :: lv.filter (fun q => !(q.1 == i) && !(q.1 + 1 == i && q.2.category == 2)) = lv')
    (kk : ∀ ls' : Array Slot, lv_has ls' nL lv' → W p l e R s m args below meth c H locs cells slots Q (F0 m (pc + 1) ls' rest)) : W p l e R s m args below meth c H locs cells slots Q (F0 m pc ls (v :: rest)) := by
  subst hi
  obtain ⟨ls', e', h'⟩ := lv_store1 (v := v) h hn (cat_isR hv)
  intro T hT X
  obtain ⟨t, a, b⟩ := kk ls' (hl ▸ h') T hT X
  refine ⟨t, ?_, b⟩
  rcases hv with rfl | ⟨x, rfl⟩
  · jvm_step X.here [X.here.top, ↓top_set X.here.top, hexec, hb, hdg, e', Value.isRef]
    exact a
  · jvm_step X.here [X.here.top, ↓top_set X.here.top, hexec, hb, hdg, e', Value.isRef]
    exact a
theorem wv_astore (hexec : p.tables.exec = Jvm.exec) (hb : c.code = cc) {i nL : Nat} {v : Value} {lv lv' : List (Nat × Value)} (hdg : decode cc pc = .ok (.astore i, 2)) (hv : isR v) (h : lv_has ls nL lv) (hn : i < nL) (hl : (i, v) :: lv.filter (fun q => !(q.1 == i) && !(q.1 + 1 == i && q.2.category == 2)) = lv')
    (kk : ∀ ls' : Array Slot, lv_has ls' nL lv' → W p l e R s m args below meth c H locs cells slots Q (F0 m (pc + 2) ls' rest)) : W p l e R s m args below meth c H locs cells slots Q (F0 m pc ls (v :: rest)) := by
  obtain ⟨ls', e', h'⟩ := lv_store1 (v := v) h hn (cat_isR hv)
  intro T hT X
  obtain ⟨t, a, b⟩ := kk ls' (hl ▸ h') T hT X
  refine ⟨t, ?_, b⟩
  rcases hv with rfl | ⟨x, rfl⟩
  · jvm_step X.here [X.here.top, ↓top_set X.here.top, hexec, hb, hdg, e', Value.isRef]
    exact a
  · jvm_step X.here [X.here.top, ↓top_set X.here.top, hexec, hb, hdg, e', Value.isRef]
    exact a
end WV
section OK
variable {D : DD} {d : Nat} {μ : MI} {pc : Nat}
-- constants
def tr_ic (n : Nat) (v : Int32) (lv : LV) (st : List Value) (M : Mem) (k : Kt) (_ : Qt) : Prop := k n lv (.int v :: st) M
theorem ok_iconst {x : Int} {v : Int32} (hd : decode μ.2.1 pc = .ok (.iconst x, 1)) (hv : Int32.ofInt x = v) : TrOk D d μ pc (tr_ic (pc + 1) v) := fun M0 lv st M k Q hk h => wp_step (fun C _ hl _ _ kk => lv_iconst C.1 C.2.1 hd hv (kk _ hl)) (hk _ _ _ _ h)
theorem ok_bipush {x : Int} {v : Int32} (hd : decode μ.2.1 pc = .ok (.bipush x, 2)) (hv : (Int8.ofInt x).toInt32 = v) : TrOk D d μ pc (tr_ic (pc + 2) v) := fun M0 lv st M k Q hk h => wp_step (fun C _ hl _ _ kk => lv_bipush C.1 C.2.1 hd hv (kk _ hl)) (hk _ _ _ _ h)
theorem ok_sipush {x : Int} {v : Int32} (hd : decode μ.2.1 pc = .ok (.sipush x, 3)) (hv : (Int16.ofInt x).toInt32 = v) : TrOk D d μ pc (tr_ic (pc + 3) v) := fun M0 lv st M k Q hk h => wp_step (fun C _ hl _ _ kk => lv_sipush C.1 C.2.1 hd hv (kk _ hl)) (hk _ _ _ _ h)
def tr_lc (n : Nat) (v : Int64) (lv : LV) (st : List Value) (M : Mem) (k : Kt) (_ : Qt) : Prop := k n lv (.long v :: st) M
theorem ok_lconst {x : Fin 2} {v : Int64} (hd : decode μ.2.1 pc = .ok (.lconst x, 1)) (hv : Int64.ofNat (x : Nat) = v) : TrOk D d μ pc (tr_lc (pc + 1) v) := fun M0 lv st M k Q hk h => wp_step (fun C _ hl _ _ kk => lv_lconst C.1 C.2.1 hd hv (kk _ hl)) (hk _ _ _ _ h)
theorem ok_ldc2 {i : Nat} {v : Int64} (hd : decode μ.2.1 pc = .ok (.ldc2_w i, 3)) (hw : Cond.constantLong μ.1.cls i v ∈ gW) : TrOk D d μ pc (tr_lc (pc + 3) v) := fun M0 lv st M k Q hk h => wp_step (fun C _ hl _ _ kk => lv_ldc2 C.1 C.2.1 C.2.2.2.1 (C.2.2.2.2.1 _ hw) hd (kk _ hl)) (hk _ _ _ _ h)
def tr_null (n : Nat) (lv : LV) (st : List Value) (M : Mem) (k : Kt) (_ : Qt) : Prop := k n lv (.null :: st) M
theorem ok_null (hd : decode μ.2.1 pc = .ok (.aconst_null, 1)) : TrOk D d μ pc (tr_null (pc + 1)) := fun M0 lv st M k Q hk h => wp_step (fun C _ hl _ _ kk => lv_null C.1 C.2.1 hd (kk _ hl)) (hk _ _ _ _ h)
-- places
def tr_iload (n i : Nat) (lv : LV) (st : List Value) (M : Mem) (k : Kt) (_ : Qt) : Prop := oI (lk lv i) (fun x => k n lv (.int x :: st) M)
theorem ok_iload_n {x : Fin 4} {i : Nat} (hd : decode μ.2.1 pc = .ok (.iload_n x, 1)) (hi : (x : Nat) = i) : TrOk D d μ pc (tr_iload (pc + 1) i) := fun M0 lv st M k Q hk h => by
  obtain ⟨y, e1, h⟩ := oI_e h
  exact wp_step (fun C _ hl _ _ kk => lv_iload_n C.1 C.2.1 hd hi (hl.2.2 _ (lk_mem e1)) (kk _ hl)) (hk _ _ _ _ h)
theorem ok_iload {i : Nat} (hd : decode μ.2.1 pc = .ok (.iload i, 2)) : TrOk D d μ pc (tr_iload (pc + 2) i) := fun M0 lv st M k Q hk h => by
  obtain ⟨y, e1, h⟩ := oI_e h
  exact wp_step (fun C _ hl _ _ kk => lv_iload C.1 C.2.1 hd (hl.2.2 _ (lk_mem e1)) (kk _ hl)) (hk _ _ _ _ h)
def tr_lload (n i : Nat) (lv : LV) (st : List Value) (M : Mem) (k : Kt) (_ : Qt) : Prop := oL (lk lv i) (fun x => k n lv (.long x :: st) M)
theorem ok_lload_n {x : Fin 4} {i : Nat} (hd : decode μ.2.1 pc = .ok (.lload_n x, 1)) (hi : (x : Nat) = i) : TrOk D d μ pc (tr_lload (pc + 1) i) := fun M0 lv st M k Q hk h => by
  obtain ⟨y, e1, h⟩ := oL_e h
  exact wp_step (fun C _ hl _ _ kk => lv_lload_n C.1 C.2.1 hd hi (hl.2.2 _ (lk_mem e1)) (kk _ hl)) (hk _ _ _ _ h)
theorem ok_lload {i : Nat} (hd : decode μ.2.1 pc = .ok (.lload i, 2)) : TrOk D d μ pc (tr_lload (pc + 2) i) := fun M0 lv st M k Q hk h => by
  obtain ⟨y, e1, h⟩ := oL_e h
  exact wp_step (fun C _ hl _ _ kk => lv_lload C.1 C.2.1 hd (hl.2.2 _ (lk_mem e1)) (kk _ hl)) (hk _ _ _ _ h)
def tr_aload (n i : Nat) (lv : LV) (st : List Value) (M : Mem) (k : Kt) (_ : Qt) : Prop := oV (lk lv i) (fun x => isR x ∧ k n lv (x :: st) M)
theorem ok_aload_n {x : Fin 4} {i : Nat} (hd : decode μ.2.1 pc = .ok (.aload_n x, 1)) (hi : (x : Nat) = i) : TrOk D d μ pc (tr_aload (pc + 1) i) := fun M0 lv st M k Q hk h => by
  obtain ⟨y, e1, h0, h⟩ := oV_e h
  exact wp_step (fun C _ hl _ _ kk => wv_aload_n C.1 C.2.1 hd hi (hl.2.2 _ (lk_mem e1)) h0 (kk _ hl)) (hk _ _ _ _ h)
theorem ok_aload {i : Nat} (hd : decode μ.2.1 pc = .ok (.aload i, 2)) : TrOk D d μ pc (tr_aload (pc + 2) i) := fun M0 lv st M k Q hk h => by
  obtain ⟨y, e1, h0, h⟩ := oV_e h
  exact wp_step (fun C _ hl _ _ kk => wv_aload C.1 C.2.1 hd (hl.2.2 _ (lk_mem e1)) h0 (kk _ hl)) (hk _ _ _ _ h)
def tr_istore (n i : Nat) (lv : LV) (st : List Value) (M : Mem) (k : Kt) (_ : Qt) : Prop := pI st (fun x r => k n ((i, .int x) :: rm1 i lv) r M)
theorem ok_istore_n {x : Fin 4} {i : Nat} (hd : decode μ.2.1 pc = .ok (.istore_n x, 1)) (hi : (x : Nat) = i) (hn : i < μ.2.2.1) : TrOk D d μ pc (tr_istore (pc + 1) i) := fun M0 lv st M k Q hk h => by
  obtain ⟨y, r, rfl, h⟩ := pI_e h
  exact wp_step (fun C _ hl _ _ kk => lv_istore_n C.1 C.2.1 hd hi hl hn (by rw [rm1_eq]) kk) (hk _ _ _ _ h)
theorem ok_istore {i : Nat} (hd : decode μ.2.1 pc = .ok (.istore i, 2)) (hn : i < μ.2.2.1) : TrOk D d μ pc (tr_istore (pc + 2) i) := fun M0 lv st M k Q hk h => by
  obtain ⟨y, r, rfl, h⟩ := pI_e h
  exact wp_step (fun C _ hl _ _ kk => lv_istore C.1 C.2.1 hd hl hn (by rw [rm1_eq]) kk) (hk _ _ _ _ h)
def tr_lstore (n i : Nat) (lv : LV) (st : List Value) (M : Mem) (k : Kt) (_ : Qt) : Prop := pL st (fun x r => k n ((i, .long x) :: rm2 i lv) r M)
theorem ok_lstore {i : Nat} (hd : decode μ.2.1 pc = .ok (.lstore i, 2)) (hn : i + 1 < μ.2.2.1) : TrOk D d μ pc (tr_lstore (pc + 2) i) := fun M0 lv st M k Q hk h => by
  obtain ⟨y, r, rfl, h⟩ := pL_e h
  exact wp_step (fun C _ hl _ _ kk => lv_lstore C.1 C.2.1 hd hl hn (by rw [rm2_eq]) kk) (hk _ _ _ _ h)
def tr_astore (n i : Nat) (lv : LV) (st : List Value) (M : Mem) (k : Kt) (_ : Qt) : Prop := pV st (fun x r => isR x ∧ k n ((i, x) :: rm1 i lv) r M)
theorem ok_astore_n {x : Fin 4} {i : Nat} (hd : decode μ.2.1 pc = .ok (.astore_n x, 1)) (hi : (x : Nat) = i) (hn : i < μ.2.2.1) : TrOk D d μ pc (tr_astore (pc + 1) i) := fun M0 lv st M k Q hk h => by
  obtain ⟨y, r, rfl, h0, h⟩ := pV_e h
  exact wp_step (fun C _ hl _ _ kk => wv_astore_n C.1 C.2.1 hd hi h0 hl hn (by rw [rm1_eq]) kk) (hk _ _ _ _ h)
theorem ok_astore {i : Nat} (hd : decode μ.2.1 pc = .ok (.astore i, 2)) (hn : i < μ.2.2.1) : TrOk D d μ pc (tr_astore (pc + 2) i) := fun M0 lv st M k Q hk h => by
  obtain ⟨y, r, rfl, h0, h⟩ := pV_e h
  exact wp_step (fun C _ hl _ _ kk => wv_astore C.1 C.2.1 hd h0 hl hn (by rw [rm1_eq]) kk) (hk _ _ _ _ h)
def tr_iinc (n i : Nat) (c : Int32) (lv : LV) (st : List Value) (M : Mem) (k : Kt) (_ : Qt) : Prop := oI (lk lv i) (fun x => k n ((i, .int (x + c)) :: rm1 i lv) st M)
theorem ok_iinc {i : Nat} {x : Int} {c : Int32} (hd : decode μ.2.1 pc = .ok (.iinc i x, 3)) (hc : Int32.ofInt x = c) (hn : i < μ.2.2.1) : TrOk D d μ pc (tr_iinc (pc + 3) i c) := fun M0 lv st M k Q hk h => by
  obtain ⟨y, e1, h⟩ := oI_e h
  obtain ⟨j, hj⟩ := List.getElem?_of_mem (lk_mem e1)
  exact wp_step (fun C _ hl _ _ kk => lv_iinc C.1 C.2.1 hd hl hj (by rw [hc]) hn (by rw [rm1_eq]) kk) (hk _ _ _ _ h)
-- numbers
def tr_iadd (n : Nat) (lv : LV) (st : List Value) (M : Mem) (k : Kt) (_ : Qt) : Prop := pI st (fun b r => pI r (fun a r => k n lv (.int (a + b) :: r) M))
theorem ok_iadd (hd : decode μ.2.1 pc = .ok (.iadd, 1)) : TrOk D d μ pc (tr_iadd (pc + 1)) := fun M0 lv st M k Q hk h => by
  obtain ⟨y, r, rfl, hA⟩ := pI_e h
  obtain ⟨x, r, rfl, h⟩ := pI_e hA
  exact wp_step (fun C _ hl _ _ kk => lv_iadd C.1 C.2.1 hd (kk _ hl)) (hk _ _ _ _ h)
def tr_isub (n : Nat) (lv : LV) (st : List Value) (M : Mem) (k : Kt) (_ : Qt) : Prop := pI st (fun b r => pI r (fun a r => k n lv (.int (a - b) :: r) M))
theorem ok_isub (hd : decode μ.2.1 pc = .ok (.isub, 1)) : TrOk D d μ pc (tr_isub (pc + 1)) := fun M0 lv st M k Q hk h => by
  obtain ⟨y, r, rfl, hA⟩ := pI_e h
  obtain ⟨x, r, rfl, h⟩ := pI_e hA
  exact wp_step (fun C _ hl _ _ kk => lv_isub C.1 C.2.1 hd (kk _ hl)) (hk _ _ _ _ h)
def tr_imul (n : Nat) (lv : LV) (st : List Value) (M : Mem) (k : Kt) (_ : Qt) : Prop := pI st (fun b r => pI r (fun a r => k n lv (.int (a * b) :: r) M))
theorem ok_imul (hd : decode μ.2.1 pc = .ok (.imul, 1)) : TrOk D d μ pc (tr_imul (pc + 1)) := fun M0 lv st M k Q hk h => by
  obtain ⟨y, r, rfl, hA⟩ := pI_e h
  obtain ⟨x, r, rfl, h⟩ := pI_e hA
  exact wp_step (fun C _ hl _ _ kk => lv_imul C.1 C.2.1 hd (kk _ hl)) (hk _ _ _ _ h)
def tr_iand (n : Nat) (lv : LV) (st : List Value) (M : Mem) (k : Kt) (_ : Qt) : Prop := pI st (fun b r => pI r (fun a r => k n lv (.int (a &&& b) :: r) M))
theorem ok_iand (hd : decode μ.2.1 pc = .ok (.iand, 1)) : TrOk D d μ pc (tr_iand (pc + 1)) := fun M0 lv st M k Q hk h => by
  obtain ⟨y, r, rfl, hA⟩ := pI_e h
  obtain ⟨x, r, rfl, h⟩ := pI_e hA
  exact wp_step (fun C _ hl _ _ kk => lv_iand C.1 C.2.1 hd (kk _ hl)) (hk _ _ _ _ h)
def tr_irem (n : Nat) (lv : LV) (st : List Value) (M : Mem) (k : Kt) (_ : Qt) : Prop := pI st (fun b r => pI r (fun a r => ¬ b = 0 ∧ k n lv (.int (a - a / b * b) :: r) M))
theorem ok_irem (hd : decode μ.2.1 pc = .ok (.irem, 1)) : TrOk D d μ pc (tr_irem (pc + 1)) := fun M0 lv st M k Q hk h => by
  obtain ⟨y, r, rfl, hA⟩ := pI_e h
  obtain ⟨x, r, rfl, h0, h⟩ := pI_e hA
  exact wp_step (fun C _ hl _ _ kk => lv_irem C.1 C.2.1 hd h0 (kk _ hl)) (hk _ _ _ _ h)
def tr_ladd (n : Nat) (lv : LV) (st : List Value) (M : Mem) (k : Kt) (_ : Qt) : Prop := pL st (fun b r => pL r (fun a r => k n lv (.long (a + b) :: r) M))
theorem ok_ladd (hd : decode μ.2.1 pc = .ok (.ladd, 1)) : TrOk D d μ pc (tr_ladd (pc + 1)) := fun M0 lv st M k Q hk h => by
  obtain ⟨y, r, rfl, hA⟩ := pL_e h
  obtain ⟨x, r, rfl, h⟩ := pL_e hA
  exact wp_step (fun C _ hl _ _ kk => lv_ladd C.1 C.2.1 hd (kk _ hl)) (hk _ _ _ _ h)
def tr_lsub (n : Nat) (lv : LV) (st : List Value) (M : Mem) (k : Kt) (_ : Qt) : Prop := pL st (fun b r => pL r (fun a r => k n lv (.long (a - b) :: r) M))
theorem ok_lsub (hd : decode μ.2.1 pc = .ok (.lsub, 1)) : TrOk D d μ pc (tr_lsub (pc + 1)) := fun M0 lv st M k Q hk h => by
  obtain ⟨y, r, rfl, hA⟩ := pL_e h
  obtain ⟨x, r, rfl, h⟩ := pL_e hA
  exact wp_step (fun C _ hl _ _ kk => lv_lsub C.1 C.2.1 hd (kk _ hl)) (hk _ _ _ _ h)
def tr_land (n : Nat) (lv : LV) (st : List Value) (M : Mem) (k : Kt) (_ : Qt) : Prop := pL st (fun b r => pL r (fun a r => k n lv (.long (a &&& b) :: r) M))
theorem ok_land (hd : decode μ.2.1 pc = .ok (.land, 1)) : TrOk D d μ pc (tr_land (pc + 1)) := fun M0 lv st M k Q hk h => by
  obtain ⟨y, r, rfl, hA⟩ := pL_e h
  obtain ⟨x, r, rfl, h⟩ := pL_e hA
  exact wp_step (fun C _ hl _ _ kk => lv_land C.1 C.2.1 hd (kk _ hl)) (hk _ _ _ _ h)
def tr_lor (n : Nat) (lv : LV) (st : List Value) (M : Mem) (k : Kt) (_ : Qt) : Prop := pL st (fun b r => pL r (fun a r => k n lv (.long (a ||| b) :: r) M))
theorem ok_lor (hd : decode μ.2.1 pc = .ok (.lor, 1)) : TrOk D d μ pc (tr_lor (pc + 1)) := fun M0 lv st M k Q hk h => by
  obtain ⟨y, r, rfl, hA⟩ := pL_e h
  obtain ⟨x, r, rfl, h⟩ := pL_e hA
  exact wp_step (fun C _ hl _ _ kk => lv_lor C.1 C.2.1 hd (kk _ hl)) (hk _ _ _ _ h)
def tr_lshl (n : Nat) (lv : LV) (st : List Value) (M : Mem) (k : Kt) (_ : Qt) : Prop := pI st (fun b r => pL r (fun a r => k n lv (.long (a <<< (b.toInt64 &&& 63)) :: r) M))
theorem ok_lshl (hd : decode μ.2.1 pc = .ok (.lshl, 1)) : TrOk D d μ pc (tr_lshl (pc + 1)) := fun M0 lv st M k Q hk h => by
  obtain ⟨y, r, rfl, hA⟩ := pI_e h
  obtain ⟨x, r, rfl, h⟩ := pL_e hA
  exact wp_step (fun C _ hl _ _ kk => lv_lshl C.1 C.2.1 hd rfl (kk _ hl)) (hk _ _ _ _ h)
def tr_ldiv (n : Nat) (lv : LV) (st : List Value) (M : Mem) (k : Kt) (_ : Qt) : Prop := pL st (fun b r => pL r (fun a r => ¬ b = 0 ∧ k n lv (.long (a / b) :: r) M))
theorem ok_ldiv (hd : decode μ.2.1 pc = .ok (.ldiv, 1)) : TrOk D d μ pc (tr_ldiv (pc + 1)) := fun M0 lv st M k Q hk h => by
  obtain ⟨y, r, rfl, hA⟩ := pL_e h
  obtain ⟨x, r, rfl, h0, h⟩ := pL_e hA
  exact wp_step (fun C _ hl _ _ kk => lv_ldiv C.1 C.2.1 hd h0 (kk _ hl)) (hk _ _ _ _ h)
def tr_lrem (n : Nat) (lv : LV) (st : List Value) (M : Mem) (k : Kt) (_ : Qt) : Prop := pL st (fun b r => pL r (fun a r => ¬ b = 0 ∧ k n lv (.long (a - a / b * b) :: r) M))
theorem ok_lrem (hd : decode μ.2.1 pc = .ok (.lrem, 1)) : TrOk D d μ pc (tr_lrem (pc + 1)) := fun M0 lv st M k Q hk h => by
  obtain ⟨y, r, rfl, hA⟩ := pL_e h
  obtain ⟨x, r, rfl, h0, h⟩ := pL_e hA
  exact wp_step (fun C _ hl _ _ kk => lv_lrem C.1 C.2.1 hd h0 (kk _ hl)) (hk _ _ _ _ h)
def tr_i2l (n : Nat) (lv : LV) (st : List Value) (M : Mem) (k : Kt) (_ : Qt) : Prop := pI st (fun a r => k n lv (.long a.toInt64 :: r) M)
theorem ok_i2l (hd : decode μ.2.1 pc = .ok (.i2l, 1)) : TrOk D d μ pc (tr_i2l (pc + 1)) := fun M0 lv st M k Q hk h => by
  obtain ⟨y, r, rfl, h⟩ := pI_e h
  exact wp_step (fun C _ hl _ _ kk => lv_i2l C.1 C.2.1 hd rfl (kk _ hl)) (hk _ _ _ _ h)
def tr_l2i (n : Nat) (lv : LV) (st : List Value) (M : Mem) (k : Kt) (_ : Qt) : Prop := pL st (fun a r => k n lv (.int a.toInt32 :: r) M)
theorem ok_l2i (hd : decode μ.2.1 pc = .ok (.l2i, 1)) : TrOk D d μ pc (tr_l2i (pc + 1)) := fun M0 lv st M k Q hk h => by
  obtain ⟨y, r, rfl, h⟩ := pL_e h
  exact wp_step (fun C _ hl _ _ kk => lv_l2i C.1 C.2.1 hd rfl (kk _ hl)) (hk _ _ _ _ h)
def tr_i2b (n : Nat) (lv : LV) (st : List Value) (M : Mem) (k : Kt) (_ : Qt) : Prop := pI st (fun a r => k n lv (.int a.toInt8.toInt32 :: r) M)
theorem ok_i2b (hd : decode μ.2.1 pc = .ok (.i2b, 1)) : TrOk D d μ pc (tr_i2b (pc + 1)) := fun M0 lv st M k Q hk h => by
  obtain ⟨y, r, rfl, h⟩ := pI_e h
  exact wp_step (fun C _ hl _ _ kk => lv_i2b C.1 C.2.1 hd rfl (kk _ hl)) (hk _ _ _ _ h)
def tr_lcmp (n : Nat) (lv : LV) (st : List Value) (M : Mem) (k : Kt) (_ : Qt) : Prop := pL st (fun b r => pL r (fun a r => k n lv (.int (lg_cmp a b) :: r) M))
theorem ok_lcmp (hd : decode μ.2.1 pc = .ok (.lcmp, 1)) : TrOk D d μ pc (tr_lcmp (pc + 1)) := fun M0 lv st M k Q hk h => by
  obtain ⟨y, r, rfl, hA⟩ := pL_e h
  obtain ⟨x, r, rfl, h⟩ := pL_e hA
  exact wp_step (fun C _ hl _ _ kk => W.lcmp C.1 C.2.1 hd (kk _ hl)) (hk _ _ _ _ h)
-- the stack
def tr_dup (n : Nat) (lv : LV) (st : List Value) (M : Mem) (k : Kt) (_ : Qt) : Prop := pV st (fun a r => a.category = 1 ∧ k n lv (a :: a :: r) M)
theorem ok_dup (hd : decode μ.2.1 pc = .ok (.dup, 1)) : TrOk D d μ pc (tr_dup (pc + 1)) := fun M0 lv st M k Q hk h => by
  obtain ⟨y, r, rfl, h0, h⟩ := pV_e h
  exact wp_step (fun C _ hl _ _ kk => lv_dup C.1 C.2.1 hd h0 (kk _ hl)) (hk _ _ _ _ h)
def tr_dup2 (n : Nat) (lv : LV) (st : List Value) (M : Mem) (k : Kt) (_ : Qt) : Prop := pV st (fun a r => pV r (fun b r => a.category = 1 ∧ b.category = 1 ∧ k n lv (a :: b :: a :: b :: r) M))
theorem ok_dup2 (hd : decode μ.2.1 pc = .ok (.dup2, 1)) : TrOk D d μ pc (tr_dup2 (pc + 1)) := fun M0 lv st M k Q hk h => by
  obtain ⟨y, r, rfl, hA⟩ := pV_e h
  obtain ⟨x, r, rfl, h0, h1, h⟩ := pV_e hA
  exact wp_step (fun C _ hl _ _ kk => lv_dup2_11 C.1 C.2.1 hd h0 h1 (kk _ hl)) (hk _ _ _ _ h)
def tr_pop (n : Nat) (lv : LV) (st : List Value) (M : Mem) (k : Kt) (_ : Qt) : Prop := pV st (fun a r => a.category = 1 ∧ k n lv r M)
theorem ok_pop (hd : decode μ.2.1 pc = .ok (.pop, 1)) : TrOk D d μ pc (tr_pop (pc + 1)) := fun M0 lv st M k Q hk h => by
  obtain ⟨y, r, rfl, h0, h⟩ := pV_e h
  exact wp_step (fun C _ hl _ _ kk => lv_pop C.1 C.2.1 hd h0 (kk _ hl)) (hk _ _ _ _ h)
-- ways
def tr_goto (tg : Nat) (lv : LV) (st : List Value) (M : Mem) (k : Kt) (_ : Qt) : Prop := k tg lv st M
theorem ok_goto {o : Int} {tg : Nat} (hd : decode μ.2.1 pc = .ok (.goto o, 3)) (ht : (pc : Int) + o = (tg : Int)) : TrOk D d μ pc (tr_goto tg) := fun M0 lv st M k Q hk h => wp_step (fun C _ hl _ _ kk => lv_goto C.1 C.2.1 hd ht (kk _ hl)) (hk _ _ _ _ h)
def tr_ifeq (n tg : Nat) (lv : LV) (st : List Value) (M : Mem) (k : Kt) (_ : Qt) : Prop := pI st (fun x r => if x = 0 then k tg lv r M else k n lv r M)
theorem ok_ifeq {o : Int} {tg : Nat} (hd : decode μ.2.1 pc = .ok (.ifCond .eq o, 3)) (ht : (pc : Int) + o = (tg : Int)) : TrOk D d μ pc (tr_ifeq (pc + 3) tg) := fun M0 lv st M k Q hk h => by
  obtain ⟨x, r, rfl, hZ⟩ := pI_e h
  by_cases hc : x = 0
  · rw [if_pos hc] at hZ
    exact wp_step (fun C _ hl _ _ kk => lv_if_eq C.1 C.2.1 hd ht (fun _ => kk _ hl) (fun z => absurd hc z)) (hk _ _ _ _ hZ)
  · rw [if_neg hc] at hZ
    exact wp_step (fun C _ hl _ _ kk => lv_if_eq C.1 C.2.1 hd ht (fun z => absurd z hc) (fun _ => kk _ hl)) (hk _ _ _ _ hZ)
def tr_ifne (n tg : Nat) (lv : LV) (st : List Value) (M : Mem) (k : Kt) (_ : Qt) : Prop := pI st (fun x r => if x = 0 then k n lv r M else k tg lv r M)
theorem ok_ifne {o : Int} {tg : Nat} (hd : decode μ.2.1 pc = .ok (.ifCond .ne o, 3)) (ht : (pc : Int) + o = (tg : Int)) : TrOk D d μ pc (tr_ifne (pc + 3) tg) := fun M0 lv st M k Q hk h => by
  obtain ⟨x, r, rfl, hZ⟩ := pI_e h
  by_cases hc : x = 0
  · rw [if_pos hc] at hZ
    exact wp_step (fun C _ hl _ _ kk => lv_if_ne C.1 C.2.1 hd ht (fun z => absurd hc z) (fun _ => kk _ hl)) (hk _ _ _ _ hZ)
  · rw [if_neg hc] at hZ
    exact wp_step (fun C _ hl _ _ kk => lv_if_ne C.1 C.2.1 hd ht (fun _ => kk _ hl) (fun z => absurd z hc)) (hk _ _ _ _ hZ)
def tr_iflt (n tg : Nat) (lv : LV) (st : List Value) (M : Mem) (k : Kt) (_ : Qt) : Prop := pI st (fun x r => if x < 0 then k tg lv r M else k n lv r M)
theorem ok_iflt {o : Int} {tg : Nat} (hd : decode μ.2.1 pc = .ok (.ifCond .lt o, 3)) (ht : (pc : Int) + o = (tg : Int)) : TrOk D d μ pc (tr_iflt (pc + 3) tg) := fun M0 lv st M k Q hk h => by
  obtain ⟨x, r, rfl, hZ⟩ := pI_e h
  by_cases hc : x < 0
  · rw [if_pos hc] at hZ
    exact wp_step (fun C _ hl _ _ kk => lv_if_lt C.1 C.2.1 hd ht (fun _ => kk _ hl) (fun z => absurd hc z)) (hk _ _ _ _ hZ)
  · rw [if_neg hc] at hZ
    exact wp_step (fun C _ hl _ _ kk => lv_if_lt C.1 C.2.1 hd ht (fun z => absurd z hc) (fun _ => kk _ hl)) (hk _ _ _ _ hZ)
def tr_ifge (n tg : Nat) (lv : LV) (st : List Value) (M : Mem) (k : Kt) (_ : Qt) : Prop := pI st (fun x r => if 0 ≤ x then k tg lv r M else k n lv r M)
theorem ok_ifge {o : Int} {tg : Nat} (hd : decode μ.2.1 pc = .ok (.ifCond .ge o, 3)) (ht : (pc : Int) + o = (tg : Int)) : TrOk D d μ pc (tr_ifge (pc + 3) tg) := fun M0 lv st M k Q hk h => by
  obtain ⟨x, r, rfl, hZ⟩ := pI_e h
  by_cases hc : 0 ≤ x
  · rw [if_pos hc] at hZ
    exact wp_step (fun C _ hl _ _ kk => lv_if_ge C.1 C.2.1 hd ht (fun _ => kk _ hl) (fun z => absurd hc z)) (hk _ _ _ _ hZ)
  · rw [if_neg hc] at hZ
    exact wp_step (fun C _ hl _ _ kk => lv_if_ge C.1 C.2.1 hd ht (fun z => absurd z hc) (fun _ => kk _ hl)) (hk _ _ _ _ hZ)
def tr_ifgt (n tg : Nat) (lv : LV) (st : List Value) (M : Mem) (k : Kt) (_ : Qt) : Prop := pI st (fun x r => if 0 < x then k tg lv r M else k n lv r M)
theorem ok_ifgt {o : Int} {tg : Nat} (hd : decode μ.2.1 pc = .ok (.ifCond .gt o, 3)) (ht : (pc : Int) + o = (tg : Int)) : TrOk D d μ pc (tr_ifgt (pc + 3) tg) := fun M0 lv st M k Q hk h => by
  obtain ⟨x, r, rfl, hZ⟩ := pI_e h
  by_cases hc : 0 < x
  · rw [if_pos hc] at hZ
    exact wp_step (fun C _ hl _ _ kk => lv_if_gt C.1 C.2.1 hd ht (fun _ => kk _ hl) (fun z => absurd hc z)) (hk _ _ _ _ hZ)
  · rw [if_neg hc] at hZ
    exact wp_step (fun C _ hl _ _ kk => lv_if_gt C.1 C.2.1 hd ht (fun z => absurd z hc) (fun _ => kk _ hl)) (hk _ _ _ _ hZ)
def tr_ifle (n tg : Nat) (lv : LV) (st : List Value) (M : Mem) (k : Kt) (_ : Qt) : Prop := pI st (fun x r => if x ≤ 0 then k tg lv r M else k n lv r M)
theorem ok_ifle {o : Int} {tg : Nat} (hd : decode μ.2.1 pc = .ok (.ifCond .le o, 3)) (ht : (pc : Int) + o = (tg : Int)) : TrOk D d μ pc (tr_ifle (pc + 3) tg) := fun M0 lv st M k Q hk h => by
  obtain ⟨x, r, rfl, hZ⟩ := pI_e h
  by_cases hc : x ≤ 0
  · rw [if_pos hc] at hZ
    exact wp_step (fun C _ hl _ _ kk => lv_if_le C.1 C.2.1 hd ht (fun _ => kk _ hl) (fun z => absurd hc z)) (hk _ _ _ _ hZ)
  · rw [if_neg hc] at hZ
    exact wp_step (fun C _ hl _ _ kk => lv_if_le C.1 C.2.1 hd ht (fun z => absurd z hc) (fun _ => kk _ hl)) (hk _ _ _ _ hZ)
def tr_iceq (n tg : Nat) (lv : LV) (st : List Value) (M : Mem) (k : Kt) (_ : Qt) : Prop := pI st (fun y r => pI r (fun x r => if x = y then k tg lv r M else k n lv r M))
theorem ok_iceq {o : Int} {tg : Nat} (hd : decode μ.2.1 pc = .ok (.if_icmp .eq o, 3)) (ht : (pc : Int) + o = (tg : Int)) : TrOk D d μ pc (tr_iceq (pc + 3) tg) := fun M0 lv st M k Q hk h => by
  obtain ⟨y, r, rfl, hA⟩ := pI_e h
  obtain ⟨x, r, rfl, hZ⟩ := pI_e hA
  by_cases hc : x = y
  · rw [if_pos hc] at hZ
    exact wp_step (fun C _ hl _ _ kk => lv_icmp_eq C.1 C.2.1 hd ht (fun _ => kk _ hl) (fun z => absurd hc z)) (hk _ _ _ _ hZ)
  · rw [if_neg hc] at hZ
    exact wp_step (fun C _ hl _ _ kk => lv_icmp_eq C.1 C.2.1 hd ht (fun z => absurd z hc) (fun _ => kk _ hl)) (hk _ _ _ _ hZ)
def tr_icne (n tg : Nat) (lv : LV) (st : List Value) (M : Mem) (k : Kt) (_ : Qt) : Prop := pI st (fun y r => pI r (fun x r => if x = y then k n lv r M else k tg lv r M))
theorem ok_icne {o : Int} {tg : Nat} (hd : decode μ.2.1 pc = .ok (.if_icmp .ne o, 3)) (ht : (pc : Int) + o = (tg : Int)) : TrOk D d μ pc (tr_icne (pc + 3) tg) := fun M0 lv st M k Q hk h => by
  obtain ⟨y, r, rfl, hA⟩ := pI_e h
  obtain ⟨x, r, rfl, hZ⟩ := pI_e hA
  by_cases hc : x = y
  · rw [if_pos hc] at hZ
    exact wp_step (fun C _ hl _ _ kk => lv_icmp_ne C.1 C.2.1 hd ht (fun z => absurd hc z) (fun _ => kk _ hl)) (hk _ _ _ _ hZ)
  · rw [if_neg hc] at hZ
    exact wp_step (fun C _ hl _ _ kk => lv_icmp_ne C.1 C.2.1 hd ht (fun _ => kk _ hl) (fun z => absurd z hc)) (hk _ _ _ _ hZ)
def tr_iclt (n tg : Nat) (lv : LV) (st : List Value) (M : Mem) (k : Kt) (_ : Qt) : Prop := pI st (fun y r => pI r (fun x r => if x < y then k tg lv r M else k n lv r M))
theorem ok_iclt {o : Int} {tg : Nat} (hd : decode μ.2.1 pc = .ok (.if_icmp .lt o, 3)) (ht : (pc : Int) + o = (tg : Int)) : TrOk D d μ pc (tr_iclt (pc + 3) tg) := fun M0 lv st M k Q hk h => by
  obtain ⟨y, r, rfl, hA⟩ := pI_e h
  obtain ⟨x, r, rfl, hZ⟩ := pI_e hA
  by_cases hc : x < y
  · rw [if_pos hc] at hZ
    exact wp_step (fun C _ hl _ _ kk => lv_icmp_lt C.1 C.2.1 hd ht (fun _ => kk _ hl) (fun z => absurd hc z)) (hk _ _ _ _ hZ)
  · rw [if_neg hc] at hZ
    exact wp_step (fun C _ hl _ _ kk => lv_icmp_lt C.1 C.2.1 hd ht (fun z => absurd z hc) (fun _ => kk _ hl)) (hk _ _ _ _ hZ)
def tr_icge (n tg : Nat) (lv : LV) (st : List Value) (M : Mem) (k : Kt) (_ : Qt) : Prop := pI st (fun y r => pI r (fun x r => if y ≤ x then k tg lv r M else k n lv r M))
theorem ok_icge {o : Int} {tg : Nat} (hd : decode μ.2.1 pc = .ok (.if_icmp .ge o, 3)) (ht : (pc : Int) + o = (tg : Int)) : TrOk D d μ pc (tr_icge (pc + 3) tg) := fun M0 lv st M k Q hk h => by
  obtain ⟨y, r, rfl, hA⟩ := pI_e h
  obtain ⟨x, r, rfl, hZ⟩ := pI_e hA
  by_cases hc : y ≤ x
  · rw [if_pos hc] at hZ
    exact wp_step (fun C _ hl _ _ kk => lv_icmp_ge C.1 C.2.1 hd ht (fun _ => kk _ hl) (fun z => absurd hc z)) (hk _ _ _ _ hZ)
  · rw [if_neg hc] at hZ
    exact wp_step (fun C _ hl _ _ kk => lv_icmp_ge C.1 C.2.1 hd ht (fun z => absurd z hc) (fun _ => kk _ hl)) (hk _ _ _ _ hZ)
def tr_icgt (n tg : Nat) (lv : LV) (st : List Value) (M : Mem) (k : Kt) (_ : Qt) : Prop := pI st (fun y r => pI r (fun x r => if y < x then k tg lv r M else k n lv r M))
theorem ok_icgt {o : Int} {tg : Nat} (hd : decode μ.2.1 pc = .ok (.if_icmp .gt o, 3)) (ht : (pc : Int) + o = (tg : Int)) : TrOk D d μ pc (tr_icgt (pc + 3) tg) := fun M0 lv st M k Q hk h => by
  obtain ⟨y, r, rfl, hA⟩ := pI_e h
  obtain ⟨x, r, rfl, hZ⟩ := pI_e hA
  by_cases hc : y < x
  · rw [if_pos hc] at hZ
    exact wp_step (fun C _ hl _ _ kk => lv_icmp_gt C.1 C.2.1 hd ht (fun _ => kk _ hl) (fun z => absurd hc z)) (hk _ _ _ _ hZ)
  · rw [if_neg hc] at hZ
    exact wp_step (fun C _ hl _ _ kk => lv_icmp_gt C.1 C.2.1 hd ht (fun z => absurd z hc) (fun _ => kk _ hl)) (hk _ _ _ _ hZ)
def tr_icle (n tg : Nat) (lv : LV) (st : List Value) (M : Mem) (k : Kt) (_ : Qt) : Prop := pI st (fun y r => pI r (fun x r => if x ≤ y then k tg lv r M else k n lv r M))
theorem ok_icle {o : Int} {tg : Nat} (hd : decode μ.2.1 pc = .ok (.if_icmp .le o, 3)) (ht : (pc : Int) + o = (tg : Int)) : TrOk D d μ pc (tr_icle (pc + 3) tg) := fun M0 lv st M k Q hk h => by
  obtain ⟨y, r, rfl, hA⟩ := pI_e h
  obtain ⟨x, r, rfl, hZ⟩ := pI_e hA
  by_cases hc : x ≤ y
  · rw [if_pos hc] at hZ
    exact wp_step (fun C _ hl _ _ kk => lv_icmp_le C.1 C.2.1 hd ht (fun _ => kk _ hl) (fun z => absurd hc z)) (hk _ _ _ _ hZ)
  · rw [if_neg hc] at hZ
    exact wp_step (fun C _ hl _ _ kk => lv_icmp_le C.1 C.2.1 hd ht (fun z => absurd z hc) (fun _ => kk _ hl)) (hk _ _ _ _ hZ)
def nl (v : Value) (A B : Prop) : Prop := match v with
  | .null => A
  | .ref _ => B
  | _ => False
theorem nl_e {v : Value} {A B : Prop} (h : nl v A B) : (v = .null ∧ A) ∨ ∃ a, v = .ref a ∧ B := by
  cases v <;> simp [nl] at h ⊢ <;> exact h
theorem nl_n (A B : Prop) : nl .null A B = A := rfl
theorem nl_r (a : Nat) (A B : Prop) : nl (.ref a) A B = B := rfl
theorem nl_rf (x : Option Nat) (A B : Prop) : nl (va_rf x) A B = ((x = none → A) ∧ (∀ a, x = some a → B)) := by
  cases x <;> simp [nl, va_rf]
def tr_ifnull (n tg : Nat) (lv : LV) (st : List Value) (M : Mem) (k : Kt) (_ : Qt) : Prop := pV st (fun v r => nl v (k tg lv r M) (k n lv r M))
theorem ok_ifnull {o : Int} {tg : Nat} (hd : decode μ.2.1 pc = .ok (.ifnull o, 3)) (ht : (pc : Int) + o = (tg : Int)) : TrOk D d μ pc (tr_ifnull (pc + 3) tg) := fun M0 lv st M k Q hk h => by
  obtain ⟨v, r, rfl, hZ⟩ := pV_e h
  rcases nl_e hZ with ⟨rfl, h1⟩ | ⟨a, rfl, h2⟩
  · exact wp_step (fun C _ hl _ _ kk => lv_ifnullN C.1 C.2.1 hd ht (kk _ hl)) (hk _ _ _ _ h1)
  · exact wp_step (fun C _ hl _ _ kk => lv_ifnull C.1 C.2.1 hd (kk _ hl)) (hk _ _ _ _ h2)
def tr_ifnonnull (n tg : Nat) (lv : LV) (st : List Value) (M : Mem) (k : Kt) (_ : Qt) : Prop := pV st (fun v r => nl v (k n lv r M) (k tg lv r M))
theorem ok_ifnonnull {o : Int} {tg : Nat} (hd : decode μ.2.1 pc = .ok (.ifnonnull o, 3)) (ht : (pc : Int) + o = (tg : Int)) : TrOk D d μ pc (tr_ifnonnull (pc + 3) tg) := fun M0 lv st M k Q hk h => by
  obtain ⟨v, r, rfl, hZ⟩ := pV_e h
  rcases nl_e hZ with ⟨rfl, h1⟩ | ⟨a, rfl, h2⟩
  · exact wp_step (fun C _ hl _ _ kk => lv_ifnonnullN C.1 C.2.1 hd (kk _ hl)) (hk _ _ _ _ h1)
  · exact wp_step (fun C _ hl _ _ kk => lv_ifnonnull C.1 C.2.1 hd ht (kk _ hl)) (hk _ _ _ _ h2)
/-- a switch: its cases from lo on -/
def sw (x : Int32) (lo : Int32) (tgs : List Nat) (dflt : Nat) (f : Nat → Prop) : Prop := match tgs with
  | [] => f dflt
  | t :: r => if x = lo then f t else sw x (lo + 1) r dflt f
def tr_sw (lo : Int32) (tgs : List Nat) (dflt : Nat) (lv : LV) (st : List Value) (M : Mem) (k : Kt) (_ : Qt) : Prop := pI st (fun x r => sw x lo tgs dflt (fun t => k t lv r M))
end OK
