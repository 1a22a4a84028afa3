/-! The memory as functions: K the colour of an address (0: nothing; an object: 1 + the number of its owner; a row: 1000000 * type + where it was made), N a row's length, I, L, R what stands at (key, address, place), S the heap's size, U the slots -/
abbrev Mem : Type := (Nat → Nat) × (Nat → Nat) × (Nat → Nat → Nat → Int32) × (Nat → Nat → Nat → Int64) × (Nat → Nat → Nat → Option Nat) × Nat × Nat
def mK (M : Mem) : Nat → Nat := M.1
def mN (M : Mem) : Nat → Nat := M.2.1
def mI (M : Mem) : Nat → Nat → Nat → Int32 := M.2.2.1
def mL (M : Mem) : Nat → Nat → Nat → Int64 := M.2.2.2.1
def mR (M : Mem) : Nat → Nat → Nat → Option Nat := M.2.2.2.2.1
def mS (M : Mem) : Nat := M.2.2.2.2.2.1
def mU (M : Mem) : Nat := M.2.2.2.2.2.2
def up3 {α : Type} (f : Nat → Nat → Nat → α) (k a i : Nat) (v : α) : Nat → Nat → Nat → α := fun k' a' i' => if k' = k ∧ a' = a ∧ i' = i then v else f k' a' i'
def sI (M : Mem) (k a i : Nat) (v : Int32) : Mem := (M.1, M.2.1, up3 M.2.2.1 k a i v, M.2.2.2.1, M.2.2.2.2.1, M.2.2.2.2.2.1, M.2.2.2.2.2.2)
def sL (M : Mem) (k a i : Nat) (v : Int64) : Mem := (M.1, M.2.1, M.2.2.1, up3 M.2.2.2.1 k a i v, M.2.2.2.2.1, M.2.2.2.2.2.1, M.2.2.2.2.2.2)
def sR (M : Mem) (k a i : Nat) (v : Option Nat) : Mem := (M.1, M.2.1, M.2.2.1, M.2.2.2.1, up3 M.2.2.2.2.1 k a i v, M.2.2.2.2.2.1, M.2.2.2.2.2.2)
def nw (M : Mem) (c n u : Nat) : Mem := (fun a => if a = M.2.2.2.2.2.1 then c else M.1 a, fun a => if a = M.2.2.2.2.2.1 then n else M.2.1 a, M.2.2.1, M.2.2.2.1, M.2.2.2.2.1, M.2.2.2.2.2.1 + 1, M.2.2.2.2.2.2 + u)
theorem mK_sI (M : Mem) (k a i : Nat) (v : Int32) : mK (sI M k a i v) = mK M := rfl
theorem mK_sL (M : Mem) (k a i : Nat) (v : Int64) : mK (sL M k a i v) = mK M := rfl
theorem mK_sR (M : Mem) (k a i : Nat) (v : Option Nat) : mK (sR M k a i v) = mK M := rfl
theorem mK_nw (M : Mem) (c n u b : Nat) : mK (nw M c n u) b = if b = mS M then c else mK M b := rfl
theorem mN_sI (M : Mem) (k a i : Nat) (v : Int32) : mN (sI M k a i v) = mN M := rfl
theorem mN_sL (M : Mem) (k a i : Nat) (v : Int64) : mN (sL M k a i v) = mN M := rfl
theorem mN_sR (M : Mem) (k a i : Nat) (v : Option Nat) : mN (sR M k a i v) = mN M := rfl
theorem mN_nw (M : Mem) (c n u b : Nat) : mN (nw M c n u) b = if b = mS M then n else mN M b := rfl
theorem mI_sI (M : Mem) (k a i : Nat) (v : Int32) (k' a' i' : Nat) : mI (sI M k a i v) k' a' i' = if k' = k ∧ a' = a ∧ i' = i then v else mI M k' a' i' := rfl
theorem mI_sL (M : Mem) (k a i : Nat) (v : Int64) : mI (sL M k a i v) = mI M := rfl
theorem mI_sR (M : Mem) (k a i : Nat) (v : Option Nat) : mI (sR M k a i v) = mI M := rfl
theorem mI_nw (M : Mem) (c n u : Nat) : mI (nw M c n u) = mI M := rfl
theorem mL_sI (M : Mem) (k a i : Nat) (v : Int32) : mL (sI M k a i v) = mL M := rfl
theorem mL_sL (M : Mem) (k a i : Nat) (v : Int64) (k' a' i' : Nat) : mL (sL M k a i v) k' a' i' = if k' = k ∧ a' = a ∧ i' = i then v else mL M k' a' i' := rfl
theorem mL_sR (M : Mem) (k a i : Nat) (v : Option Nat) : mL (sR M k a i v) = mL M := rfl
theorem mL_nw (M : Mem) (c n u : Nat) : mL (nw M c n u) = mL M := rfl
theorem mR_sI (M : Mem) (k a i : Nat) (v : Int32) : mR (sI M k a i v) = mR M := rfl
theorem mR_sL (M : Mem) (k a i : Nat) (v : Int64) : mR (sL M k a i v) = mR M := rfl
theorem mR_sR (M : Mem) (k a i : Nat) (v : Option Nat) (k' a' i' : Nat) : mR (sR M k a i v) k' a' i' = if k' = k ∧ a' = a ∧ i' = i then v else mR M k' a' i' := rfl
theorem mR_nw (M : Mem) (c n u : Nat) : mR (nw M c n u) = mR M := rfl
theorem mS_sI (M : Mem) (k a i : Nat) (v : Int32) : mS (sI M k a i v) = mS M := rfl
theorem mS_sL (M : Mem) (k a i : Nat) (v : Int64) : mS (sL M k a i v) = mS M := rfl
theorem mS_sR (M : Mem) (k a i : Nat) (v : Option Nat) : mS (sR M k a i v) = mS M := rfl
theorem mS_nw (M : Mem) (c n u : Nat) : mS (nw M c n u) = mS M + 1 := rfl
theorem mU_sI (M : Mem) (k a i : Nat) (v : Int32) : mU (sI M k a i v) = mU M := rfl
theorem mU_sL (M : Mem) (k a i : Nat) (v : Int64) : mU (sL M k a i v) = mU M := rfl
theorem mU_sR (M : Mem) (k a i : Nat) (v : Option Nat) : mU (sR M k a i v) = mU M := rfl
theorem mU_nw (M : Mem) (c n u : Nat) : mU (nw M c n u) = mU M + u := rfl
/-- the types of rows, by number -/
def enm (t : Nat) : String := match t with
  | 4 => RX1
  | 5 => RX3
  | 6 => RX5
  | _ => RX9
def eci (t : Nat) : Nat := match t with
  | 4 => 1
  | 5 => 3
  | 6 => 5
  | _ => 9
def ety (t : Nat) : FieldType := match t with
  | 1 => .int
  | 2 => .long
  | 3 => .boolean
  | t => .object (enm t)
/-- what stands at a place, by its type -/
def fv (ty : FieldType) (M : Mem) (k a i : Nat) : Value := match ty with
  | .long => .long (mL M k a i)
  | .object _ => va_rf (mR M k a i)
  | .array _ => va_rf (mR M k a i)
  | .float => .float 0
  | .double => .double 0
  | _ => .int (mI M k a i)
abbrev DD : Type := (Nat → ClassId) × (Nat → Nat → Nat) × (Nat → ClassId)
def HoldsAt (D : DD) (H : Heap) (M : Mem) (a : Nat) : Prop :=
  if mK M a < 1000000 then ∃ r : vw_C, vwCl[mK M a - 1]? = some r ∧ t_OB a (D.1 (mK M a - 1)) r.2.2 (D.2.1 (mK M a - 1)) H (fun k => fv (tyG (mK M a - 1) k) M ((mK M a - 1) * 100 + k) a 0)
  else H[a]? = some (arrV (D.2.2 (mK M a / 1000000)) (mN M a) (fun j => fv (ety (mK M a / 1000000)) M (mK M a) a j))
def Clean (M : Mem) : Prop := ∀ a, mS M ≤ a → mK M a = 0 ∧ ∀ k i, mI M k a i = 0 ∧ mL M k a i = 0 ∧ mR M k a i = none
def Holds (D : DD) (H : Heap) (M : Mem) : Prop := H.size = mS M ∧ (∀ a, mK M a ≠ 0 → HoldsAt D H M a) ∧ Clean M
theorem HoldsAt.kept {D : DD} {H H1 : Heap} {M M1 : Mem} {a : Nat} (h : HoldsAt D H M a) (hH : H1[a]? = H[a]?) (hK : mK M1 a = mK M a) (hN : mN M1 a = mN M a)
    (hI : ∀ k i, mI M1 k a i = mI M k a i) (hL : ∀ k i, mL M1 k a i = mL M k a i) (hR : ∀ k i, mR M1 k a i = mR M k a i) : HoldsAt D H1 M1 a := by
  have hf : ∀ ty k i, fv ty M1 k a i = fv ty M k a i := by
    intro ty k i
    cases ty <;> simp [fv, hI, hL, hR]
  unfold HoldsAt at h ⊢
  simp only [hK, hN, hf]
  split
  · rename_i hc
    rw [if_pos hc] at h
    obtain ⟨r, h1, h2⟩ := h
    exact ⟨r, h1, h2.kept hH⟩
  · rename_i hc
    rw [if_neg hc] at h
    rw [hH]; exact h
theorem HoldsAt.lt {D : DD} {H : Heap} {M : Mem} {a : Nat} (h : HoldsAt D H M a) : a < H.size := by
  unfold HoldsAt at h
  split at h
  · obtain ⟨r, h1, cell, h2, -⟩ := h
    exact (Array.getElem?_eq_some_iff.mp h2).1
  · exact (Array.getElem?_eq_some_iff.mp h).1
theorem Holds.lt {D : DD} {H : Heap} {M : Mem} {a : Nat} (h : Holds D H M) (ha : mK M a ≠ 0) : a < mS M := by
  rw [← h.1]; exact (h.2.1 a ha).lt
/-- one cell of the memory has changed, and so has the heap -/
theorem Holds.set {D : DD} {H H1 : Heap} {M M1 : Mem} {a : Nat} (h : Holds D H M) (ha : mK M a ≠ 0) (hz : H1.size = H.size) (ho : ∀ q, q ≠ a → H1[q]? = H[q]?) (hK : mK M1 = mK M) (hN : mN M1 = mN M) (hSs : mS M1 = mS M)
    (hI : ∀ q, q ≠ a → ∀ k i, mI M1 k q i = mI M k q i) (hL : ∀ q, q ≠ a → ∀ k i, mL M1 k q i = mL M k q i) (hR : ∀ q, q ≠ a → ∀ k i, mR M1 k q i = mR M k q i) (hat : HoldsAt D H1 M1 a) : Holds D H1 M1 := by
  have hlt := h.lt ha
  refine ⟨by rw [hz, hSs]; exact h.1, fun q hq => ?_, fun q hq => ?_⟩
  · by_cases e : q = a
    · subst e; exact hat
    · exact (h.2.1 q (by rw [← hK]; exact hq)).kept (ho q e) (by rw [hK]) (by rw [hN]) (hI q e) (hL q e) (hR q e)
  · rw [hSs] at hq
    have e : q ≠ a := by omega
    obtain ⟨h1, h2⟩ := h.2.2 q hq
    refine ⟨by rw [hK]; exact h1, fun k i => ?_⟩
    rw [hI q e, hL q e, hR q e]
    exact h2 k i
/-- the vm as the tables have it -/
def nestW : List Cond := [Cond.methodLinkNest "ShowDesk$Teller" 11 ⟨"ShowDesk$Kinds", "<init>", "()V"⟩ "ShowDesk", Cond.methodLinkNest "ShowDesk$Teller" 20 ⟨"ShowDesk$House", "<init>", "()V"⟩ "ShowDesk", Cond.methodLinkNest "ShowDesk$Teller" 33 ⟨"ShowDesk$Acts", "<init>", "()V"⟩ "ShowDesk", Cond.methodLinkNest "ShowDesk$Teller" 40 ⟨"ShowDesk$Report", "<init>", "()V"⟩ "ShowDesk", Cond.methodLinkNest "ShowDesk$Teller" 47 ⟨"ShowDesk$Waiting", "<init>", "()V"⟩ "ShowDesk", Cond.methodLinkNest "ShowDesk$Teller" 58 ⟨"ShowDesk$Tray", "<init>", "()V"⟩ "ShowDesk", Cond.methodLinkNest "ShowDesk$Listener" 9 ⟨"ShowDesk$Program", "<init>", "()V"⟩ "ShowDesk", Cond.methodLinkNest "ShowDesk$House" 28 ⟨"ShowDesk", "isPhase", "(I)Z"⟩ "ShowDesk", Cond.methodLinkNest "ShowDesk$Teller" 242 ⟨"ShowDesk", "findTray", "([LShowDesk$Tray;I)LShowDesk$Tray;"⟩ "ShowDesk"]
def KD (D : DD) (U : State) : Prop := (∀ (c : Nat) (q : vw_C), vwCl[c]? = some q → u_Kn U q.1 q.2.1 q.2.2 (D.1 c) (D.2.1 c)) ∧ (∀ t, 1 ≤ t → t ≤ 7 → ArrOfT U (D.2.2 t) (ety t) ∧ va_RA U (D.2.2 t) (ety t)) ∧ (∀ w ∈ nestW, va_Nw w U) ∧ ∀ t, 4 ≤ t → t ≤ 7 → va_AO (enm t) U
theorem nestW_form : ∀ w ∈ nestW, ∃ a i x h, w = Cond.methodLinkNest a i x h := by
  simp only [nestW, List.forall_mem_cons]
  exact ⟨⟨_, _, _, _, rfl⟩, ⟨_, _, _, _, rfl⟩, ⟨_, _, _, _, rfl⟩, ⟨_, _, _, _, rfl⟩, ⟨_, _, _, _, rfl⟩, ⟨_, _, _, _, rfl⟩, ⟨_, _, _, _, rfl⟩, ⟨_, _, _, _, rfl⟩, ⟨_, _, _, _, rfl⟩, fun _ h => absurd h List.not_mem_nil⟩
theorem KD.moved {D : DD} {s U : State} (hW : s.WarmedH U.vm) (h : KD D s) : KD D U := by
  have ha := hW.alike
  refine ⟨fun c q hq => u_Kn_moved ha (h.1 c q hq), fun t h1 h2 => ⟨arrOfT_moved ha (h.2.1 t h1 h2).1, (h.2.1 t h1 h2).2.moved ha⟩, fun w hw => ?_, fun t h1 h2 => (h.2.2.2 t h1 h2).moved ha⟩
  obtain ⟨a, i, x, hh, rfl⟩ := nestW_form w hw
  exact va_Nw.warmM hW (h.2.2.1 _ hw)
theorem KD.same {D : DD} {s U : State} (hv : s.vm = U.vm) (h : KD D s) : KD D U := by
  have ha : s.vm.Alike U.vm := by rw [hv]; exact Vm.Alike.refl _
  refine ⟨fun c q hq => u_Kn_moved ha (h.1 c q hq), fun t h1 h2 => ⟨arrOfT_moved ha (h.2.1 t h1 h2).1, (h.2.1 t h1 h2).2.moved ha⟩, fun w hw => ?_, fun t h1 h2 => (h.2.2.2 t h1 h2).moved ha⟩
  obtain ⟨a, i, x, hh, rfl⟩ := nestW_form w hw
  exact va_Nw.same rfl hv (h.2.2.1 _ hw)
def gW : List Cond := lw_tbl.filter goodWord
theorem gm (i : Nat) {w : Cond} (h : lw_tbl[i]? = some w) (hg : goodWord w = true) : w ∈ gW := List.mem_filter.mpr ⟨List.mem_of_getElem? h, hg⟩
/-- a method: its name, its code, its locals, what it answers -/
abbrev MI : Type := MethodName × ByteArray × Nat × Option FieldType
def wds (μ : MI) : List Cond := .code μ.1 μ.2.1 μ.2.2.1 μ.2.2.2 :: gW
theorem wds_good {μ : MI} (h : Cond.code μ.1 μ.2.1 μ.2.2.1 μ.2.2.2 ∈ gW) {ws : List Cond} (hg : ∀ w ∈ gW, w ∈ ws) : GoodIn ws (wds μ) := by
  intro w hw
  have h1 : w ∈ gW := by
    rcases List.mem_cons.mp hw with rfl | h2
    · exact h
    · exact h2
  exact ⟨hg w h1, good_of_word (List.mem_filter.mp h1).2⟩
def Cx (D : DD) (μ : MI) (p : Program) (s : State) (m : MethodId) (args : Array Value) (meth : Method) (c : Code) : Prop :=
  p.tables.exec = Jvm.exec ∧ c.code = μ.2.1 ∧ c.maxLocals = μ.2.2.1 ∧ s.vm.findClass μ.1.cls = some m.cls ∧ (∀ w ∈ gW, w.before args s = true) ∧ KD D s ∧ meth.locks = false ∧ meth.sig.returnType = μ.2.2.2 ∧ meth.name = μ.1.name
def Ext (M0 M : Mem) : Prop := mS M0 ≤ mS M ∧ mU M0 ≤ mU M ∧ ∀ a, a < mS M0 → mK M a = mK M0 a ∧ mN M a = mN M0 a
theorem Ext.rf {M : Mem} : Ext M M := ⟨Nat.le_refl _, Nat.le_refl _, fun _ _ => ⟨rfl, rfl⟩⟩
theorem Ext.tr {M0 M1 M2 : Mem} (h1 : Ext M0 M1) (h2 : Ext M1 M2) : Ext M0 M2 := ⟨Nat.le_trans h1.1 h2.1, Nat.le_trans h1.2.1 h2.2.1, fun a ha => ⟨((h2.2.2 a (Nat.lt_of_lt_of_le ha h1.1)).1).trans (h1.2.2 a ha).1, ((h2.2.2 a (Nat.lt_of_lt_of_le ha h1.1)).2).trans (h1.2.2 a ha).2⟩⟩
theorem Ext.sI {M : Mem} {k a i : Nat} {v : Int32} : Ext M (sI M k a i v) := ⟨Nat.le_refl _, Nat.le_refl _, fun _ _ => ⟨rfl, rfl⟩⟩
theorem Ext.sL {M : Mem} {k a i : Nat} {v : Int64} : Ext M (sL M k a i v) := ⟨Nat.le_refl _, Nat.le_refl _, fun _ _ => ⟨rfl, rfl⟩⟩
theorem Ext.sR {M : Mem} {k a i : Nat} {v : Option Nat} : Ext M (sR M k a i v) := ⟨Nat.le_refl _, Nat.le_refl _, fun _ _ => ⟨rfl, rfl⟩⟩
theorem Ext.nw {M : Mem} {c n u : Nat} : Ext M (nw M c n u) := by
  refine ⟨Nat.le_succ _, Nat.le_add_right _ _, fun a ha => ?_⟩
  rw [mK_nw, mN_nw]
  simp [Nat.ne_of_lt ha]
def dom0 (M : Mem) (q : Nat) : Prop := mK M q ≠ 0 ∨ mS M ≤ q
theorem Ext.dom {M0 M : Mem} (h : Ext M0 M) {q : Nat} (hq : dom0 M q) : dom0 M0 q := by
  by_cases e : q < mS M0
  · rcases hq with h1 | h1
    · exact Or.inl (by rw [← (h.2.2 q e).1]; exact h1)
    · exact absurd h1 (by have := h.1; omega)
  · exact Or.inr (by omega)
def roomM (d : Nat) (M Me : Mem) : Room := { frames := d, cells := mS Me - mS M, slots := mU Me - mU M, locals := 40 * d }
def Qm (D : DD) (M0 Me : Mem) (r : Option Value) : Array Value → State → Outcome → State → Prop := fun _ st o t => o = .returned r ∧ Holds D t.heap Me ∧ va_F (dom0 M0) st t
abbrev LV : Type := List (Nat × Value)
def Wm (D : DD) (d : Nat) (μ : MI) (M0 Me : Mem) (r : Option Value) (M : Mem) (pc : Nat) (lv : LV) (st : List Value) : Prop :=
  ∀ (p : Program) (l : Launch) (e : Env) (s : State) (m : MethodId) (args : Array Value) (below : List Frame) (meth : Method) (c : Code), Cx D μ p s m args meth c → s.heap.size = mS M0 →
    ∀ (H : Heap) (locs : List Loc) (ls : Array Slot), Holds D H M → va_S (dom0 M0) s.heap H locs → lv_has ls μ.2.2.1 lv →
      W p l e (roomM d M0 Me) s m args below meth c H locs (mS M - mS M0) (mU M - mU M0) (MQ below (Qm D M0 Me r) args s (mS Me - mS M0) (mU Me - mU M0) (dom0 M0)) (F0 m pc ls st)
def wp (D : DD) (d : Nat) (μ : MI) (M0 M : Mem) (pc : Nat) (lv : LV) (st : List Value) (Q : Mem → Option Value → Prop) : Prop :=
  Ext M0 M → ∃ (Me : Mem) (r : Option Value), Q Me r ∧ Ext M Me ∧ Wm D d μ M0 Me r M pc lv st
/-- a step that leaves the heap as it is -/
theorem wp_step {D : DD} {d : Nat} {μ : MI} {M0 M : Mem} {pc pc' : Nat} {lv lv' : LV} {st st' : List Value} {Q : Mem → Option Value → Prop}
    (h : ∀ {p : Program} {l : Launch} {e : Env} {R : Room} {s : State} {m : MethodId} {args : Array Value} {below : List Frame} {meth : Method} {c : Code} {H : Heap} {locs : List Loc} {cells slots : Nat} {Qw : State → Prop} {ls : Array Slot},
      Cx D μ p s m args meth c → Holds D H M → lv_has ls μ.2.2.1 lv → R.frames = d → R.locals = 40 * d → (∀ ls' : Array Slot, lv_has ls' μ.2.2.1 lv' → W p l e R s m args below meth c H locs cells slots Qw (F0 m pc' ls' st')) → W p l e R s m args below meth c H locs cells slots Qw (F0 m pc ls st))
    (k : wp D d μ M0 M pc' lv' st' Q) : wp D d μ M0 M pc lv st Q := by
  intro hE
  obtain ⟨Me, r, h1, h2, h3⟩ := k hE
  refine ⟨Me, r, h1, h2, ?_⟩
  intro p l e s m args below meth c hC hz H locs ls hH hS hl
  exact h hC hH hl rfl rfl (fun ls' hl' => h3 p l e s m args below meth c hC hz H locs ls' hH hS hl')
/-- a step that changes one cell -/
theorem wp_write {D : DD} {d : Nat} {μ : MI} {M0 M M1 : Mem} {pc pc' a : Nat} {lv : LV} {st st' : List Value} {Q : Mem → Option Value → Prop} (ha : mK M a ≠ 0) (hE1 : Ext M M1) (hs1 : mS M1 = mS M) (hu1 : mU M1 = mU M)
    (h : ∀ {p : Program} {l : Launch} {e : Env} {R : Room} {s : State} {m : MethodId} {args : Array Value} {below : List Frame} {meth : Method} {c : Code} {H : Heap} {locs : List Loc} {cells slots : Nat} {Qw : State → Prop} {ls : Array Slot},
      Cx D μ p s m args meth c → Holds D H M → (∀ (H1 : Heap) (i : Nat), H1.size = H.size → (∀ q, q ≠ a → H1[q]? = H[q]?) → Holds D H1 M1 → W p l e R s m args below meth c H1 (locs ++ [⟨a, i⟩]) cells slots Qw (F0 m pc' ls st')) → W p l e R s m args below meth c H locs cells slots Qw (F0 m pc ls st))
    (k : wp D d μ M0 M1 pc' lv st' Q) : wp D d μ M0 M pc lv st Q := by
  intro hE
  obtain ⟨Me, r, h1, h2, h3⟩ := k (hE.tr hE1)
  refine ⟨Me, r, h1, hE1.tr h2, ?_⟩
  intro p l e s m args below meth c hC hz H locs ls hH hS hl
  refine h hC hH (fun H1 i z1 o1 hH1 => ?_)
  have := h3 p l e s m args below meth c hC hz H1 (locs ++ [⟨a, i⟩]) ls hH1 (hS.put z1 o1 (hE.dom (Or.inl ha))) hl
  rw [hs1, hu1] at this
  exact this
/-- a step that makes a cell -/
theorem wp_make {D : DD} {d : Nat} {μ : MI} {M0 M : Mem} {pc pc' cc n u : Nat} {lv : LV} {st st' : List Value} {Q : Mem → Option Value → Prop}
    (h : ∀ {p : Program} {l : Launch} {e : Env} {R : Room} {s : State} {m : MethodId} {args : Array Value} {below : List Frame} {meth : Method} {c : Code} {H : Heap} {locs : List Loc} {cells slots : Nat} {Qw : State → Prop} {ls : Array Slot},
      Cx D μ p s m args meth c → Holds D H M → cells + 1 ≤ R.cells → slots + u ≤ R.slots → (∀ (H1 : Heap), H1.size = H.size + 1 → (∀ q, q < H.size → H1[q]? = H[q]?) → HoldsAt D H1 (nw M cc n u) (mS M) → W p l e R s m args below meth c H1 locs (cells + 1) (slots + u) Qw (F0 m pc' ls st')) → W p l e R s m args below meth c H locs cells slots Qw (F0 m pc ls st))
    (k : wp D d μ M0 (nw M cc n u) pc' lv st' Q) : wp D d μ M0 M pc lv st Q := by
  intro hE
  obtain ⟨Me, r, h1, h2, h3⟩ := k (hE.tr Ext.nw)
  refine ⟨Me, r, h1, Ext.nw.tr h2, ?_⟩
  intro p l e s m args below meth c hC hz H locs ls hH hS hl
  have e1 := h2.1
  have e2 := h2.2.1
  rw [mS_nw] at e1
  rw [mU_nw] at e2
  have e3 := hE.1
  have e4 := hE.2.1
  refine h hC hH (by show mS M - mS M0 + 1 ≤ mS Me - mS M0; omega) (by show mU M - mU M0 + u ≤ mU Me - mU M0; omega) (fun H1 z1 o1 hat => ?_)
  have hsz : H.size = mS M := hH.1
  have := h3 p l e s m args below meth c hC hz H1 locs ls ⟨by rw [z1, hsz, mS_nw], fun q hq => ?_, fun q hq => ?_⟩ ⟨by have := hS.1; omega, fun q q1 q2 => (o1 q (by have := hS.1; omega)).trans (hS.2.1 q q1 q2), hS.2.2⟩ hl
  · rw [mS_nw, mU_nw] at this
    rw [show mS M + 1 - mS M0 = mS M - mS M0 + 1 by omega, show mU M + u - mU M0 = mU M - mU M0 + u by omega] at this
    exact this
  · by_cases e : q = mS M
    · subst e; exact hat
    · have hq' : mK M q ≠ 0 := by rw [mK_nw, if_neg e] at hq; exact hq
      refine (hH.2.1 q hq').kept (o1 q (by rw [hsz]; exact hH.lt hq')) ?_ ?_ (fun _ _ => rfl) (fun _ _ => rfl) (fun _ _ => rfl)
      · rw [mK_nw, if_neg e]
      · rw [mN_nw, if_neg e]
  · rw [mS_nw] at hq
    obtain ⟨g1, g2⟩ := hH.2.2 q (by omega)
    refine ⟨by rw [mK_nw, if_neg (by omega)]; exact g1, g2⟩
/-- a method's end -/
theorem wp_end {D : DD} {d : Nat} {μ : MI} {M0 M : Mem} {pc : Nat} {lv : LV} {st : List Value} {Q : Mem → Option Value → Prop} {v : Option Value}
    (h : ∀ {p : Program} {l : Launch} {e : Env} {R : Room} {s : State} {m : MethodId} {args : Array Value} {below : List Frame} {meth : Method} {c : Code} {H : Heap} {locs : List Loc} {cells slots : Nat} {ls : Array Slot} {Qc : Array Value → State → Outcome → State → Prop} {free : Addr → Prop},
      Cx D μ p s m args meth c → (∀ t : State, t.heap = H → s.WarmedH t.vm → Qc args s (.returned v) t) → (∀ q ∈ locs, free q.base) → W p l e R s m args below meth c H locs cells slots (MQ below Qc args s cells slots free) (F0 m pc ls st))
    (k : Q M v) : wp D d μ M0 M pc lv st Q := by
  intro hE
  refine ⟨M, v, k, Ext.rf, ?_⟩
  intro p l e s m args below meth c hC hz H locs ls hH hS hl
  exact h hC (fun t ht _ => ⟨rfl, by rw [ht]; exact hH, hS.F ht⟩) hS.2.2
/-- fewer listed places -/
def Sub (lv lv' : LV) : Prop := ∀ q ∈ lv, q ∈ lv'
theorem wp_sub {D : DD} {d : Nat} {μ : MI} {M0 M : Mem} {pc : Nat} {lv lv' : LV} {st : List Value} {Q : Mem → Option Value → Prop} (hs : ∀ q ∈ lv, q ∈ lv') (k : wp D d μ M0 M pc lv st Q) : wp D d μ M0 M pc lv' st Q :=
  wp_step (fun _ _ hl _ _ kk => kk _ ⟨hl.1, hl.2.1, fun q hq => hl.2.2 q (hs q hq)⟩) k
theorem wp_mono {D : DD} {d : Nat} {μ : MI} {M0 M : Mem} {pc : Nat} {lv : LV} {st : List Value} {Q Q' : Mem → Option Value → Prop} (hq : ∀ Me r, Q Me r → Q' Me r) (k : wp D d μ M0 M pc lv st Q) : wp D d μ M0 M pc lv st Q' := by
  intro hE
  obtain ⟨Me, r, h1, h2, h3⟩ := k hE
  exact ⟨Me, r, hq _ _ h1, h2, h3⟩
/-- a method's contract at a memory -/
def Pm (D : DD) (M : Mem) (av : List Value) : Array Value → State → Prop := va_Pc av (fun U => KD D U ∧ Holds D U.heap M)
theorem Pm.blind {D : DD} {M : Mem} {av : List Value} : FrameBlind (Pm D M av) := fun a U g mk q => ⟨q.1, KD.same (s := U) (U := U.calling g mk a) rfl q.2.1, q.2.2⟩
def Ex (D : DD) (d : Nat) (μ : MI) (av : List Value) (M Me : Mem) (r : Option Value) : Prop :=
  ∀ l : Launch, Met l μ.1 (wds μ) (roomM d M Me) (Pm D M av) (Qm D M Me r) (mS Me - mS M) (mU Me - mU M) (dom0 M)
def Call (D : DD) (d : Nat) (μ : MI) (av : List Value) (M : Mem) (Q : Mem → Option Value → Prop) : Prop :=
  ∃ (Me : Mem) (r : Option Value), Q Me r ∧ Ext M Me ∧ Ex D d μ av M Me r
theorem Call.mono {D : DD} {d : Nat} {μ : MI} {av : List Value} {M : Mem} {Q Q' : Mem → Option Value → Prop} (h : Call D d μ av M Q) (hq : ∀ Me r, Q Me r → Ext M Me → Q' Me r) : Call D d μ av M Q' := by
  obtain ⟨Me, r, h1, h2, h3⟩ := h
  exact ⟨Me, r, hq _ _ h1 h2, h2, h3⟩
theorem call_of {D : DD} {d : Nat} {μ : MI} {av : List Value} {M : Mem} {Q : Mem → Option Value → Prop} (hp : plainName μ.1.cls = true) (hlen : (lg_sl av).length ≤ μ.2.2.1) (h : wp D d μ M M 0 (lv_args 0 av) [] Q) : Call D d μ av M Q := by
  obtain ⟨Me, r, h1, h2, h3⟩ := h Ext.rf
  refine ⟨Me, r, h1, h2, fun l => ?_⟩
  refine Met.ofW (cc := μ.2.1) (maxL := μ.2.2.1) (ret := μ.2.2.2) hp rfl ?_
  intro p e s m args below meth c s₁ B hml hv
  obtain ⟨rfl, hK, hH⟩ := hv
  have hts := atoms_spec (ws := wds μ) B.pre
  have hown : s.vm.findClass μ.1.cls = some m.cls := findClass_of_methodNamed B.named
  have hin : meth.name = μ.1.name := (name_of_methodNamed B.named B.method).1
  have hl := lv_entry av (n := μ.2.2.1) hlen
  rw [lg_entry_eq]
  have := h3 p l e s m av.toArray below meth c ⟨B.exec, B.bytes, hml, hown, fun w hw => hts w (List.mem_cons_of_mem _ hw), hK, B.notSynchronized, B.returns, hin⟩ hH.1 s.heap [] _ hH va_S.rf hl
  rw [Nat.sub_self, Nat.sub_self] at this
  exact this
