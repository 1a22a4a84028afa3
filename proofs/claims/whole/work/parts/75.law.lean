/-! The law: what its entry gives; its own instructions -/
def R_law : String := "ShowDeskLaw"
def lw_P (b : Addr) (xs : List Int32) (args : Array Value) (s : State) : Prop := args = #[.ref b] ∧ s.IntsAt b xs ∧ xs.length ≤ 3072 ∧ (Jvm.Cond.and given_1 narrow_1).before args s = true
def lw_Q (_ : Array Value) (s : State) (o : Outcome) (t : State) : Prop := o = .returned (some (.int 1)) ∧ Framed s o t [] 600000 7302250
def lw_Z (below : List Frame) (a : Array Value) (s : State) : State → Prop := fun t => ∃ o, t.status = .running ∧ Ended t below o ∧ lw_Q a s o t
/-!  the law's own end, with 1 on the stack, nothing written that was there before, its room as the claim has it -/
theorem lw_ret {p : Program} {l : Launch} {e : Env} {s : State} {m : MethodId} {below : List Frame} {meth : Method} {c : Code} {b : Nat} (hx : p.tables.exec = Jvm.exec) (hb : c.code = code) (hr : meth.sig.returnType = ret) (hlocks : meth.locks = false) {pc : Nat} {H : Heap} {ls : Array Slot} (hdg : decode code pc = .ok (.ireturn, 1)) : W p l e room_1 s m #[Value.ref b] below meth c H [] 600000 7302250 (lw_Z below #[Value.ref b] s) (F0 m pc ls [.int 1]) := by
  intro T hT X
  obtain ⟨fs, hret, hrun, hended, hW, hframe⟩ := X.leave (v := some (.int 1)) (hlocks := hlocks) (fun h => by rw [hr] at h; cases h)
  have hmeth' : T.vm.method? m = some meth := X.method'
  refine ⟨T.setFrames fs, ?_, .returned (some (.int 1)), hrun, hended, rfl, ⟨_, rfl⟩, hW, hframe⟩
  jvm_step X.here [X.here.top, hx, hb, hdg, hmeth', hr, ret, narrow_b1]
  (try refine ⟨rfl, ?_⟩); (try refine ⟨rfl, ?_⟩)
  first | (intro acts; rw [hret _ acts rfl rfl rfl]) | rw [hret _ _ rfl rfl rfl]
  exact Steps.refl _
/-!  what holds at the law's entry: the machine, the code, the tables' words (any of lw_tbl by 'hts w (by decide +kernel)'), the script of L ints xs at the cell b, what the Statement gives of the start (any of its parts by flat_of_before) -/
def lw_At (p : Program) (s : State) (m : MethodId) (meth : Method) (c : Code) (b L : Nat) (xs : Nat → Int32) : Prop :=
  p.tables.exec = Jvm.exec ∧ c.code = code ∧ meth.sig.returnType = ret ∧ c.maxLocals = 4 ∧ s.vm.findClass R_law = some m.cls ∧ (∀ w ∈ lw_tbl, w.before #[Value.ref b] s = true) ∧ va_X b L xs s s.heap ∧ b < s.heap.size ∧ meth.locks = false ∧ (Jvm.Cond.and given_1 narrow_1).before #[Value.ref b] s = true
abbrev LX : Type := Program × Launch × Env × State × MethodId × List Frame × Method × Code × Nat × Nat × (Nat → Int32) × Mem × DD
def Xb (X : LX) : Nat := X.2.2.2.2.2.2.2.2.1
def XL (X : LX) : Nat := X.2.2.2.2.2.2.2.2.2.1
def Xx (X : LX) : Nat → Int32 := X.2.2.2.2.2.2.2.2.2.2.1
def X0 (X : LX) : Mem := X.2.2.2.2.2.2.2.2.2.2.2.1
def XD (X : LX) : DD := X.2.2.2.2.2.2.2.2.2.2.2.2
def Cy (p : Program) (s : State) (m : MethodId) (args : Array Value) (c : Code) : Prop := p.tables.exec = Jvm.exec ∧ c.code = code ∧ c.maxLocals = 4 ∧ s.vm.findClass R_law = some m.cls ∧ (∀ w ∈ gW, w.before args s = true)
def LC (X : LX) : Prop := match X with
  | (p, _, _, s, m, _, meth, c, b, L, xs, M0, D) => Cy p s m #[Value.ref b] c ∧ KD D s ∧ meth.locks = false ∧ meth.sig.returnType = ret ∧ va_X b L xs s s.heap ∧ b < s.heap.size ∧ s.heap.size = mS M0 ∧ ∀ q, mK M0 q = 0
def wn (X : LX) (M : Mem) (pc : Nat) (lv : LV) (st : List Value) : Prop := match X with
  | (p, l, e, s, m, below, meth, c, b, _, _, M0, D) => Ext M0 M → ∀ (H : Heap) (locs : List Loc) (ls : Array Slot), Holds D H M → va_S (dom0 M0) s.heap H locs → lv_has ls 4 lv → W p l e room_1 s m #[Value.ref b] below meth c H locs (mS M - mS M0) (mU M - mU M0) (lw_Z below #[Value.ref b] s) (F0 m pc ls st)
def Bnd (X : LX) (M : Mem) : Prop := mS M - mS (X0 X) ≤ 600000 ∧ mU M - mU (X0 X) ≤ 7302250
def QL (X : LX) : Qt := fun M r => r = some (.int 1) ∧ Bnd X M
theorem wn_step {X : LX} {M : Mem} {pc pc' : Nat} {lv lv' : LV} {st st' : List Value} (hX : LC X)
    (h : ∀ {p : Program} {l : Launch} {e : Env} {s : State} {m : MethodId} {args : Array Value} {below : List Frame} {meth : Method} {c : Code} {H : Heap} {locs : List Loc} {cells slots : Nat} {Qw : State → Prop} {ls : Array Slot},
      Cy p s m args c → True → lv_has ls 4 lv → True → True → (∀ ls' : Array Slot, lv_has ls' 4 lv' → W p l e room_1 s m args below meth c H locs cells slots Qw (F0 m pc' ls' st')) → W p l e room_1 s m args below meth c H locs cells slots Qw (F0 m pc ls st))
    (k : wn X M pc' lv' st') : wn X M pc lv st := by
  obtain ⟨p, l, e, s, m, below, meth, c, b, L, xs, M0, D⟩ := X
  intro hE H locs ls hH hS hl
  exact h hX.1 trivial hl trivial trivial (fun ls' hl' => k hE H locs ls' hH hS hl')
theorem wn_sub {X : LX} {M : Mem} {pc : Nat} {lv lv' : LV} {st : List Value} (hX : LC X) (hs : ∀ q ∈ lv, q ∈ lv') (k : wn X M pc lv st) : wn X M pc lv' st :=
  wn_step hX (fun _ _ hl _ _ kk => kk _ ⟨hl.1, hl.2.1, fun q hq => hl.2.2 q (hs q hq)⟩) k
def TrL (X : LX) (pc : Nat) (t : Tr) : Prop := ∀ (lv : LV) (st : List Value) (M : Mem) (k : Kt), (∀ pc' lv' st' M', k pc' lv' st' M' → wn X M' pc' lv' st') → t lv st M k (QL X) → wn X M pc lv st
section LAW
variable {X : LX} {pc : Nat}
theorem kl_iconst (hX : LC X) {x : Int} {v : Int32} (hd : decode code pc = .ok (.iconst x, 1)) (hv : Int32.ofInt x = v) : TrL X pc (tr_ic (pc + 1) v) := fun lv st M k hk h => wn_step hX (fun C _ hl _ _ kk => lv_iconst C.1 C.2.1 hd hv (kk _ hl)) (hk _ _ _ _ h)
theorem kl_bipush (hX : LC X) {x : Int} {v : Int32} (hd : decode code pc = .ok (.bipush x, 2)) (hv : (Int8.ofInt x).toInt32 = v) : TrL X pc (tr_ic (pc + 2) v) := fun lv st M k hk h => wn_step hX (fun C _ hl _ _ kk => lv_bipush C.1 C.2.1 hd hv (kk _ hl)) (hk _ _ _ _ h)
theorem kl_ldc2 (hX : LC X) {i : Nat} {v : Int64} (hd : decode code pc = .ok (.ldc2_w i, 3)) (hw : Cond.constantLong R_law i v ∈ gW) : TrL X pc (tr_lc (pc + 3) v) := fun lv st M k hk h => wn_step hX (fun C _ hl _ _ kk => lv_ldc2 C.1 C.2.1 C.2.2.2.1 (C.2.2.2.2 _ hw) hd (kk _ hl)) (hk _ _ _ _ h)
theorem kl_iload_n (hX : LC X) {x : _root_.Fin 4} {i : Nat} (hd : decode code pc = .ok (.iload_n x, 1)) (hi : (x : Nat) = i) : TrL X pc (tr_iload (pc + 1) i) := fun lv st M k hk h => by
  obtain ⟨y, e1, h⟩ := oI_e h
  exact wn_step hX (fun C _ hl _ _ kk => lv_iload_n C.1 C.2.1 hd hi (hl.2.2 _ (lk_mem e1)) (kk _ hl)) (hk _ _ _ _ h)
theorem kl_aload_n (hX : LC X) {x : _root_.Fin 4} {i : Nat} (hd : decode code pc = .ok (.aload_n x, 1)) (hi : (x : Nat) = i) : TrL X pc (tr_aload (pc + 1) i) := fun lv st M k hk h => by
  obtain ⟨y, e1, h0, h⟩ := oV_e h
  exact wn_step hX (fun C _ hl _ _ kk => wv_aload_n C.1 C.2.1 hd hi (hl.2.2 _ (lk_mem e1)) h0 (kk _ hl)) (hk _ _ _ _ h)
theorem kl_istore_n (hX : LC X) {x : _root_.Fin 4} {i : Nat} (hd : decode code pc = .ok (.istore_n x, 1)) (hi : (x : Nat) = i) (hn : i < 4) : TrL X pc (tr_istore (pc + 1) i) := fun lv st M k hk h => by
  obtain ⟨y, r, rfl, h⟩ := pI_e h
  exact wn_step hX (fun C _ hl _ _ kk => lv_istore_n C.1 C.2.1 hd hi hl hn (by rw [rm1_eq]) kk) (hk _ _ _ _ h)
theorem kl_astore_n (hX : LC X) {x : _root_.Fin 4} {i : Nat} (hd : decode code pc = .ok (.astore_n x, 1)) (hi : (x : Nat) = i) (hn : i < 4) : TrL X pc (tr_astore (pc + 1) i) := fun lv st M k hk h => by
  obtain ⟨y, r, rfl, h0, h⟩ := pV_e h
  exact wn_step hX (fun C _ hl _ _ kk => wv_astore_n C.1 C.2.1 hd hi h0 hl hn (by rw [rm1_eq]) kk) (hk _ _ _ _ h)
theorem kl_iinc (hX : LC X) {i : Nat} {x : Int} {c : Int32} (hd : decode code pc = .ok (.iinc i x, 3)) (hc : Int32.ofInt x = c) (hn : i < 4) : TrL X pc (tr_iinc (pc + 3) i c) := fun lv st M k hk h => by
  obtain ⟨y, e1, h⟩ := oI_e h
  obtain ⟨j, hj⟩ := List.getElem?_of_mem (lk_mem e1)
  exact wn_step hX (fun C _ hl _ _ kk => lv_iinc C.1 C.2.1 hd hl hj (by rw [hc]) hn (by rw [rm1_eq]) kk) (hk _ _ _ _ h)
theorem kl_iadd (hX : LC X) (hd : decode code pc = .ok (.iadd, 1)) : TrL X pc (tr_iadd (pc + 1)) := fun lv st M k hk h => by
  obtain ⟨y, r, rfl, hA⟩ := pI_e h
  obtain ⟨x, r, rfl, h⟩ := pI_e hA
  exact wn_step hX (fun C _ hl _ _ kk => lv_iadd C.1 C.2.1 hd (kk _ hl)) (hk _ _ _ _ h)
theorem kl_isub (hX : LC X) (hd : decode code pc = .ok (.isub, 1)) : TrL X pc (tr_isub (pc + 1)) := fun lv st M k hk h => by
  obtain ⟨y, r, rfl, hA⟩ := pI_e h
  obtain ⟨x, r, rfl, h⟩ := pI_e hA
  exact wn_step hX (fun C _ hl _ _ kk => lv_isub C.1 C.2.1 hd (kk _ hl)) (hk _ _ _ _ h)
theorem kl_iand (hX : LC X) (hd : decode code pc = .ok (.iand, 1)) : TrL X pc (tr_iand (pc + 1)) := fun lv st M k hk h => by
  obtain ⟨y, r, rfl, hA⟩ := pI_e h
  obtain ⟨x, r, rfl, h⟩ := pI_e hA
  exact wn_step hX (fun C _ hl _ _ kk => lv_iand C.1 C.2.1 hd (kk _ hl)) (hk _ _ _ _ h)
theorem kl_i2l (hX : LC X) (hd : decode code pc = .ok (.i2l, 1)) : TrL X pc (tr_i2l (pc + 1)) := fun lv st M k hk h => by
  obtain ⟨y, r, rfl, h⟩ := pI_e h
  exact wn_step hX (fun C _ hl _ _ kk => lv_i2l C.1 C.2.1 hd rfl (kk _ hl)) (hk _ _ _ _ h)
theorem kl_lshl (hX : LC X) (hd : decode code pc = .ok (.lshl, 1)) : TrL X pc (tr_lshl (pc + 1)) := fun lv st M k hk h => by
  obtain ⟨y, r, rfl, hA⟩ := pI_e h
  obtain ⟨x, r, rfl, h⟩ := pL_e hA
  exact wn_step hX (fun C _ hl _ _ kk => lv_lshl C.1 C.2.1 hd rfl (kk _ hl)) (hk _ _ _ _ h)
theorem kl_land (hX : LC X) (hd : decode code pc = .ok (.land, 1)) : TrL X pc (tr_land (pc + 1)) := fun lv st M k hk h => by
  obtain ⟨y, r, rfl, hA⟩ := pL_e h
  obtain ⟨x, r, rfl, h⟩ := pL_e hA
  exact wn_step hX (fun C _ hl _ _ kk => lv_land C.1 C.2.1 hd (kk _ hl)) (hk _ _ _ _ h)
theorem kl_lor (hX : LC X) (hd : decode code pc = .ok (.lor, 1)) : TrL X pc (tr_lor (pc + 1)) := fun lv st M k hk h => by
  obtain ⟨y, r, rfl, hA⟩ := pL_e h
  obtain ⟨x, r, rfl, h⟩ := pL_e hA
  exact wn_step hX (fun C _ hl _ _ kk => lv_lor C.1 C.2.1 hd (kk _ hl)) (hk _ _ _ _ h)
theorem kl_lcmp (hX : LC X) (hd : decode code pc = .ok (.lcmp, 1)) : TrL X pc (tr_lcmp (pc + 1)) := fun lv st M k hk h => by
  obtain ⟨y, r, rfl, hA⟩ := pL_e h
  obtain ⟨x, r, rfl, h⟩ := pL_e hA
  exact wn_step hX (fun C _ hl _ _ kk => W.lcmp C.1 C.2.1 hd (kk _ hl)) (hk _ _ _ _ h)
theorem kl_dup (hX : LC X) (hd : decode code pc = .ok (.dup, 1)) : TrL X pc (tr_dup (pc + 1)) := fun lv st M k hk h => by
  obtain ⟨y, r, rfl, h0, h⟩ := pV_e h
  exact wn_step hX (fun C _ hl _ _ kk => lv_dup C.1 C.2.1 hd h0 (kk _ hl)) (hk _ _ _ _ h)
theorem kl_goto (hX : LC X) {o : Int} {tg : Nat} (hd : decode code pc = .ok (.goto o, 3)) (ht : (pc : Int) + o = (tg : Int)) : TrL X pc (tr_goto tg) := fun lv st M k hk h => wn_step hX (fun C _ hl _ _ kk => lv_goto C.1 C.2.1 hd ht (kk _ hl)) (hk _ _ _ _ h)
theorem kl_ifeq (hX : LC X) {o : Int} {tg : Nat} (hd : decode code pc = .ok (.ifCond .eq o, 3)) (ht : (pc : Int) + o = (tg : Int)) : TrL X pc (tr_ifeq (pc + 3) tg) := fun lv st M k hk h => by
  obtain ⟨x, r, rfl, hZ⟩ := pI_e h
  by_cases hc : x = 0
  · rw [if_pos hc] at hZ
    exact wn_step hX (fun C _ hl _ _ kk => lv_if_eq C.1 C.2.1 hd ht (fun _ => kk _ hl) (fun z => absurd hc z)) (hk _ _ _ _ hZ)
  · rw [if_neg hc] at hZ
    exact wn_step hX (fun C _ hl _ _ kk => lv_if_eq C.1 C.2.1 hd ht (fun z => absurd z hc) (fun _ => kk _ hl)) (hk _ _ _ _ hZ)
theorem kl_ifne (hX : LC X) {o : Int} {tg : Nat} (hd : decode code pc = .ok (.ifCond .ne o, 3)) (ht : (pc : Int) + o = (tg : Int)) : TrL X pc (tr_ifne (pc + 3) tg) := fun lv st M k hk h => by
  obtain ⟨x, r, rfl, hZ⟩ := pI_e h
  by_cases hc : x = 0
  · rw [if_pos hc] at hZ
    exact wn_step hX (fun C _ hl _ _ kk => lv_if_ne C.1 C.2.1 hd ht (fun z => absurd hc z) (fun _ => kk _ hl)) (hk _ _ _ _ hZ)
  · rw [if_neg hc] at hZ
    exact wn_step hX (fun C _ hl _ _ kk => lv_if_ne C.1 C.2.1 hd ht (fun _ => kk _ hl) (fun z => absurd z hc)) (hk _ _ _ _ hZ)
theorem kl_iceq (hX : LC X) {o : Int} {tg : Nat} (hd : decode code pc = .ok (.if_icmp .eq o, 3)) (ht : (pc : Int) + o = (tg : Int)) : TrL X pc (tr_iceq (pc + 3) tg) := fun lv st M k hk h => by
  obtain ⟨y, r, rfl, hA⟩ := pI_e h
  obtain ⟨x, r, rfl, hZ⟩ := pI_e hA
  by_cases hc : x = y
  · rw [if_pos hc] at hZ
    exact wn_step hX (fun C _ hl _ _ kk => lv_icmp_eq C.1 C.2.1 hd ht (fun _ => kk _ hl) (fun z => absurd hc z)) (hk _ _ _ _ hZ)
  · rw [if_neg hc] at hZ
    exact wn_step hX (fun C _ hl _ _ kk => lv_icmp_eq C.1 C.2.1 hd ht (fun z => absurd z hc) (fun _ => kk _ hl)) (hk _ _ _ _ hZ)
theorem kl_icgt (hX : LC X) {o : Int} {tg : Nat} (hd : decode code pc = .ok (.if_icmp .gt o, 3)) (ht : (pc : Int) + o = (tg : Int)) : TrL X pc (tr_icgt (pc + 3) tg) := fun lv st M k hk h => by
  obtain ⟨y, r, rfl, hA⟩ := pI_e h
  obtain ⟨x, r, rfl, hZ⟩ := pI_e hA
  by_cases hc : y < x
  · rw [if_pos hc] at hZ
    exact wn_step hX (fun C _ hl _ _ kk => lv_icmp_gt C.1 C.2.1 hd ht (fun _ => kk _ hl) (fun z => absurd hc z)) (hk _ _ _ _ hZ)
  · rw [if_neg hc] at hZ
    exact wn_step hX (fun C _ hl _ _ kk => lv_icmp_gt C.1 C.2.1 hd ht (fun z => absurd z hc) (fun _ => kk _ hl)) (hk _ _ _ _ hZ)
theorem kl_sw (hX : LC X) {df hi lo' : Int} {offs : Array Int} {len dflt : Nat} (j : Nat) {lo : Int32} {tgs : List Nat} (hd : decode code pc = .ok (.tableswitch df lo' hi offs, len)) (hlo : nI j = lo) (hlo2 : lo' = (j : Int)) (h1 : hi + 1 = (j : Int) + (tgs.length : Int)) (h0 : j + tgs.length ≤ 1000) (h2 : (pc : Int) + df = (dflt : Int)) (h3 : offs.toList.map (fun o => (pc : Int) + o) = tgs.map (fun t : Nat => (t : Int))) : TrL X pc (tr_sw lo tgs dflt) := fun lv st M kt hkt h => by
  subst hlo hlo2
  obtain ⟨x, r, rfl, hZ⟩ := pI_e h
  rcases sw_cases tgs j h0 hZ with ⟨g1, g2⟩ | ⟨g1, g2⟩ | ⟨i, t, g1, g2, g3⟩
  · exact wn_step hX (fun C _ hl _ _ kk => lv_tableOut C.1 C.2.1 hd (Or.inl (by omega)) h2 (kk _ hl)) (hkt _ _ _ _ g2)
  · exact wn_step hX (fun C _ hl _ _ kk => lv_tableOut C.1 C.2.1 hd (Or.inr (by omega)) h2 (kk _ hl)) (hkt _ _ _ _ g2)
  · have hi' : i < tgs.length := (List.getElem?_eq_some_iff.mp g1).1
    have h4 := congrArg (fun l => l[i]?) h3
    simp only [List.getElem?_map, g1, Option.map_some, Array.getElem?_toList] at h4
    cases ho : offs[i]? with
    | none => rw [ho] at h4; simp at h4
    | some o =>
      rw [ho] at h4
      simp only [Option.map_some, Option.some.injEq] at h4
      exact wn_step hX (fun C _ hl _ _ kk => lv_tableIn C.1 C.2.1 hd (by omega) (by omega) (by rw [show (x.toInt - (j : Int)).toNat = i by omega]; exact ho) h4 (kk _ hl)) (hkt _ _ _ _ g3)
theorem kl_zret (hX : LC X) (hd : decode code pc = .ok (.ireturn, 1)) : TrL X pc tr_zret := fun lv st M k hk h => by
  obtain ⟨x, r, rfl, rfl, hx, h1, h2, h3⟩ := pI_e h
  cases h1
  obtain ⟨p, l, e, s, m, below, meth, c, b, L, xs, M0, D⟩ := X
  obtain ⟨⟨c1, c2, c3, c4, c5⟩, c6, c7, c8, c9, c10, c11, c12⟩ := hX
  intro hE H locs ls hH hS hl
  refine va_forget (fun q hq => ?_) ?_
  · rcases hS.2.2 q hq with z | z
    · exact absurd (c12 _) z
    · rw [c11]; exact z
  · refine W.widen (k := 600000) (n := 7302250) h2 h3 ?_
    exact lw_ret c1 c2 c8 c7 hd
def tr_sald (X : LX) (n : Nat) (lv : LV) (st : List Value) (M : Mem) (k : Kt) (_ : Qt) : Prop := pI st (fun i r => pA r (fun a r => a = Xb X ∧ vp_in i (XL X) ∧ k n lv (.int (Xx X i.toNatClampNeg) :: r) M))
theorem kl_sald (hX : LC X) (hd : decode code pc = .ok (.iaload, 1)) : TrL X pc (tr_sald X (pc + 1)) := fun lv st M kt hkt h => by
  obtain ⟨i, r1, rfl, hA⟩ := pI_e h
  obtain ⟨a, r2, rfl, rfl, hi, hB⟩ := pA_e hA
  have hk := hkt _ _ _ _ hB
  obtain ⟨p, l, e, s, m, below, meth, c, b, L, xs, M0, D⟩ := X
  obtain ⟨⟨c1, c2, c3, c4, c5⟩, c6, c7, c8, c9, c10, c11, c12⟩ := hX
  intro hE H locs ls hH hS hl
  exact va_sld c1 c2 c9 c10 (fun z => by rcases z with z | z; exact z (c12 _); exact absurd (show mS M0 ≤ b from z) (by omega)) hS hi hd (hk hE H locs ls hH hS hl)
def tr_slen (X : LX) (n : Nat) (lv : LV) (st : List Value) (M : Mem) (k : Kt) (_ : Qt) : Prop := pA st (fun a r => a = Xb X ∧ k n lv (.int (nI (XL X)) :: r) M)
theorem kl_slen (hX : LC X) (hd : decode code pc = .ok (.arraylength, 1)) : TrL X pc (tr_slen X (pc + 1)) := fun lv st M kt hkt h => by
  obtain ⟨a, r2, rfl, rfl, hB⟩ := pA_e h
  have hk := hkt _ _ _ _ hB
  obtain ⟨p, l, e, s, m, below, meth, c, b, L, xs, M0, D⟩ := X
  obtain ⟨⟨c1, c2, c3, c4, c5⟩, c6, c7, c8, c9, c10, c11, c12⟩ := hX
  intro hE H locs ls hH hS hl
  exact va_slen c1 c2 c9 c10 (fun z => by rcases z with z | z; exact z (c12 _); exact absurd (show mS M0 ≤ b from z) (by omega)) hS hd (hk hE H locs ls hH hS hl)
def tr_newB (X : LX) (n c N : Nat) (lv : LV) (st : List Value) (M : Mem) (k : Kt) (_ : Qt) : Prop := Bnd X (nw M c 0 N) ∧ k n lv (.ref (mS M) :: st) (nw M c 0 N)
theorem kl_newB (hX : LC X) {idx ci : Nat} {r : vw_C} (hd : decode code pc = .ok (.new idx, 3)) (hc : vwCl[ci]? = some r) (h1 : Cond.classLink R_law idx r.1 ∈ gW) (h2 : Cond.instantiable r.1 r.2.2 ∈ gW) (h3 : Cond.initialized r.1 ∈ gW) : TrL X pc (tr_newB X (pc + 3) (ci + 1) r.2.2) := fun lv st M kt hkt h => by
  obtain ⟨⟨n1, n2⟩, hB⟩ := h
  have hk := hkt _ _ _ _ hB
  obtain ⟨p, l, e, s, m, below, meth, c, b, L, xs, M0, D⟩ := X
  obtain ⟨⟨c1, c2, c3, c4, c5⟩, c6, c7, c8, c9, c10, c11, c12⟩ := hX
  intro hE H locs ls hH hS hl
  have n1' : mS M + 1 - mS M0 ≤ 600000 := n1
  have n2' : mU M + r.2.2 - mU M0 ≤ 7302250 := n2
  have e3 := hE.1
  have e4 := hE.2.1
  have hKn := c6.1 ci _ hc
  have hsz : H.size = mS M := hH.1
  refine W.newcK c1 c2 c4 (c5 _ h1) (c5 _ h2) (c5 _ h3) rfl hd (by show mS M - mS M0 + 1 ≤ 600000; omega) (by show mU M - mU M0 + r.2.2 ≤ 7302250; omega) hKn.2.1 hH.1 (fun H1 kC hkC e1 z1 o1 => ?_)
  have hat : HoldsAt D H1 (nw M (ci + 1) 0 r.2.2) (mS M) := by
    refine HoldsAt.ofObj hc (by rw [mK_nw, if_pos rfl]) ?_
    exact (u_born (tyG ci) c5 (cf_ws ci r hc) hKn hkC e1 (cf_ty ci r hc).1).to (fun k _ => (fv_clean hH.2.2 (Nat.le_refl _)).symm)
  have := hk (hE.tr Ext.nw) H1 locs ls ⟨by rw [z1, mS_nw], fun q hq => ?_, fun q hq => ?_⟩ ⟨by have := hS.1; omega, fun q q1 q2 => (o1 q (by have := hS.1; omega)).trans (hS.2.1 q q1 q2), hS.2.2⟩ hl
  · rw [mS_nw, mU_nw] at this
    rw [show mS M + 1 - mS M0 = mS M - mS M0 + 1 by omega, show mU M + r.2.2 - mU M0 = mU M - mU M0 + r.2.2 by omega] at this
    exact this
  · by_cases e : q = mS M
    · subst e; exact hat
    · have hq' : mK M q ≠ 0 := by rw [mK_nw, if_neg e] at hq; exact hq
      refine (hH.2.1 q hq').kept (o1 q (hH.lt hq')) ?_ ?_ (fun _ _ => rfl) (fun _ _ => rfl) (fun _ _ => rfl)
      · rw [mK_nw, if_neg e]
      · rw [mN_nw, if_neg e]
  · rw [mS_nw] at hq
    obtain ⟨g1, g2⟩ := hH.2.2 q (by omega)
    refine ⟨by rw [mK_nw, if_neg (by omega)]; exact g1, g2⟩
theorem wn_called (hX : LC X) {M M1 : Mem} {lv : LV} {st rest : List Value} {v : Option Value} {av : Array Value}
    (hrun : ∀ {p : Program} {l : Launch} {e : Env} {s : State} {m : MethodId} {args : Array Value} {below : List Frame} {meth : Method} {c : Code} {H : Heap} {locs : List Loc} {cells slots : Nat} {ls : Array Slot},
      Cy p s m args c → KD (XD X) s → Holds (XD X) H M → lv_has ls 4 lv → cells + (mS M1 - mS M) ≤ room_1.cells → slots + (mU M1 - mU M) ≤ room_1.slots →
        va_Run p l e room_1 s m args below meth c H locs cells slots (mS M1 - mS M) (mU M1 - mU M) (F0 m pc ls st) rest (Qm (XD X) M M1 v av) (dom0 M))
    (hE1 : Ext M M1) (hB : Bnd X M1) (k : wn X M1 (pc + 3) lv (v.toList ++ rest)) : wn X M pc lv st := by
  obtain ⟨p, l, e, s, m, below, meth, c, b, L, xs, M0, D⟩ := X
  intro hE H locs ls hH hS hl T hT X
  have a1 := hE.1
  have a2 := hE.2.1
  have b1 := hE1.1
  have b2 := hE1.2.1
  have d1 : mS M1 - mS M0 ≤ 600000 := hB.1
  have d2 : mU M1 - mU M0 ≤ 7302250 := hB.2
  have run := hrun (p := p) (l := l) (e := e) (s := s) (m := m) (args := #[Value.ref b]) (below := below) (meth := meth) (c := c) (H := H) (locs := locs) (cells := mS M - mS M0) (slots := mU M - mU M0) (ls := ls) hX.1 hX.2.1 hH hl (by show _ ≤ 600000; omega) (by show _ ≤ 7302250; omega)
  obtain ⟨v', st₀, t, T', L', g0, X', hL, e1, e2, ⟨hv, hH1, hF⟩, stp⟩ := run T hT X
  cases hv
  rw [show mS M - mS M0 + (mS M1 - mS M) = mS M1 - mS M0 by omega, show mU M - mU M0 + (mU M1 - mU M) = mU M1 - mU M0 by omega] at X'
  rw [← e1] at hH1
  have hF1 := hF.1
  have hF2 := hF.2
  rw [g0, ← e1] at hF1
  rw [g0, ← e1] at hF2
  obtain ⟨t2, x1, y1⟩ := k (hE.tr hE1) T'.heap (locs ++ L') ls hH1
    ⟨Nat.le_trans hS.1 hF1, fun q q1 q2 => (hF2 q (Nat.lt_of_lt_of_le q1 hS.1) (fun z => q2 (hE.dom z))).trans (hS.2.1 q q1 q2), fun q hq => by
      rcases List.mem_append.mp hq with h | h
      · exact hS.2.2 q h
      · exact hE.dom (hL q h)⟩ hl T' rfl X'
  exact ⟨t2, stp t2 x1, y1⟩
def tr_callB (X : LX) (C : Sp) (n c na : Nat) (lv : LV) (st : List Value) (M : Mem) (k : Kt) (_ : Qt) : Prop := pN na [] st (fun As r => pA r (fun b r => mK M b = c ∧ r.length ≤ 4 ∧ C (.ref b :: As) M (fun M' v => Bnd X M' ∧ k n lv (v.toList ++ r) M')))
theorem hRl {mL dd : Nat} (h1 : dd ≤ 2000) (h3 : mL ≤ 21) : dd + 1 ≤ room_1.frames ∧ 8 + (mL + 11) + 40 * dd ≤ room_1.locals := by
  show dd + 1 ≤ 2048 ∧ 8 + (mL + 11) + 40 * dd ≤ 84000
  omega
theorem kl_callV (hX : LC X) {dd ci n idx : Nat} {μ' : MI} {q : vw_C} (hdd : dd ≤ 2000) (hd : decode code pc = .ok (.invokevirtual idx, 3)) (hM : MOk μ' n) (hc : vwCl[ci]? = some q) (hq : q.1 = μ'.1.cls) (h1 : Cond.methodLink R_law idx μ'.1 ∈ gW) (h2 : Cond.instanceMethod μ'.1 ∈ gW) (h3 : Cond.selects μ'.1.cls μ'.1 μ'.1 ∈ gW) : TrL X pc (tr_callB X (Call (XD X) dd μ') (pc + 3) (ci + 1) n) := fun lv st M kt hkt h => by
  obtain ⟨As, r1, rfl, hn, h⟩ := pN_e h
  obtain ⟨b, r2, rfl, hb, hr, h⟩ := pA_e (by assumption)
  rw [List.append_nil] at h
  obtain ⟨M1, v, ⟨hB, hk⟩, hE1, hEx⟩ := h
  refine wn_called hX (av := (Value.ref b :: As).toArray) (fun {p l e s m args below meth c H locs cells slots ls} C hKD hH hl hce hsl => ?_) hE1 hB (hkt _ _ _ _ hk)
  obtain ⟨m1, m2, m3, m4⟩ := hM
  have hts := C.2.2.2.2
  obtain ⟨cell, q1, q2, q3, -⟩ := (hH.2.1 b (by rw [hb]; omega)).obj hc hb
  have hfc := (hKD.1 ci _ hc).2.1
  exact va_runV (C := μ'.1.cls) (As := As) (rest := r2) ⟨C.1, C.2.1, C.2.2.1, C.2.2.2.1, hts⟩ (hEx l) ⟨callB_of n hts (wds_good m1 (fun w hw => hw)) rfl rfl rfl (hts _ m2) (hts _ h1) m3 (hRl hdd m4), hts _ h2, hts _ h3⟩
    ⟨Pm.blind, ⟨cell, q1, by rw [q3]; rfl, by rw [q2, ← hq]; exact hfc⟩, fun U hU hW => ⟨rfl, hKD.moved hW, by rw [hU]; exact hH⟩⟩ rfl hn hl.1 rfl (lv_room (room4 hr)) hd ⟨hce, hsl⟩
def tr_initB (X : LX) (C : Sp) (n na : Nat) (lv : LV) (st : List Value) (M : Mem) (k : Kt) (_ : Qt) : Prop := pN na [] st (fun As r => pA r (fun b r => r.length ≤ 4 ∧ C (.ref b :: As) M (fun M' v => Bnd X M' ∧ k n lv (v.toList ++ r) M')))
theorem kl_callI (hX : LC X) {dd n idx : Nat} {μ' : MI} (hdd : dd ≤ 2000) (hd : decode code pc = .ok (.invokespecial idx, 3)) (hM : MOk μ' n) (hnm : μ'.1.name = "<init>") (hrt : μ'.2.2.2 = none) (h1 : Cond.methodLink R_law idx μ'.1 ∈ gW) (h2 : Cond.instanceMethod μ'.1 ∈ gW) : TrL X pc (tr_initB X (Call (XD X) dd μ') (pc + 3) n) := fun lv st M kt hkt h => by
  obtain ⟨As, r1, rfl, hn, h⟩ := pN_e h
  obtain ⟨b, r2, rfl, hr, h⟩ := pA_e (by assumption)
  rw [List.append_nil] at h
  obtain ⟨M1, v, ⟨hB, hk⟩, hE1, hEx⟩ := h
  refine wn_called hX (av := (Value.ref b :: As).toArray) (fun {p l e s m args below meth c H locs cells slots ls} C hKD hH hl hce hsl => ?_) hE1 hB (hkt _ _ _ _ hk)
  obtain ⟨m1, m2, m3, m4⟩ := hM
  have hts := C.2.2.2.2
  rw [hrt] at m1
  exact va_runI (bytes := μ'.2.1) (maxL := μ'.2.2.1) (As := As) (rest := r2) ⟨C.1, C.2.1, C.2.2.1, C.2.2.2.1, hts⟩ (hEx l) ⟨callB_of n hts (wds_good (by rw [hrt]; exact m1) (fun w hw => hw)) (by rw [wds, hrt]) rfl rfl (hts _ m2) (hts _ h1) m3 (hRl hdd m4), hnm, hts _ h2⟩
    ⟨Pm.blind, fun U hU hW => ⟨rfl, hKD.moved hW, by rw [hU]; exact hH⟩⟩ rfl hn hl.1 rfl (lv_room (room4 hr)) hd ⟨hce, hsl⟩
theorem kt_l {k : Nat} {t : Tr} (h : TrL X k t) : TrL X pc (bif Nat.beq k pc then t else trF) := by
  cases e : Nat.beq k pc with
  | true =>
    have e' : k = pc := Nat.eq_of_beq_eq_true e
    simp only [cond_true]
    rw [← e']
    exact h
  | false =>
    simp only [cond_false]
    exact fun _ _ _ _ _ h => h.elim
theorem kt_b {b : Bool} {t u : Tr} (h1 : TrL X pc t) (h2 : TrL X pc u) : TrL X pc (bif b then t else u) := by
  cases b
  · exact h2
  · exact h1
end LAW
theorem gl_ok {X : LX} {tab : Tab} {K : St} (h : ∀ pc, TrL X pc (tab pc)) (hK : ∀ pc P, K pc = some P → ∀ lv st M, P lv st M → wn X M pc lv st) : ∀ (n pc : Nat) (lv : LV) (st : List Value) (M : Mem), go tab K (QL X) n pc lv st M → wn X M pc lv st := by
  intro n
  induction n with
  | zero => exact fun _ _ _ _ h => h.elim
  | succ n ih =>
    intro pc lv st M hg
    rw [go] at hg
    cases e : K pc with
    | some P => rw [e] at hg; exact hK pc P e lv st M hg
    | none =>
      rw [e] at hg
      exact h pc lv st M _ ih hg
/-! the law's run, to the head of its loop or to its end -/
def KL (X : LX) : St := fun pc => bif Nat.beq 18 pc then some (fun lv st M => wn X M 18 lv st) else none
theorem runW {X : LX} {tab : Tab} (h : ∀ pc, TrL X pc (tab pc)) (n : Nat) {pc : Nat} {lv : LV} {st : List Value} {M : Mem} (hg : tab pc lv st M (go tab (KL X) (QL X) n) (QL X)) : wn X M pc lv st :=
  h pc lv st M _ (gl_ok h (fun pc P hK lv st M hp => by
    unfold KL at hK
    cases e : Nat.beq 18 pc with
    | true =>
      rw [e] at hK
      cases hK
      have e' : 18 = pc := Nat.eq_of_beq_eq_true e
      rw [← e']; exact hp
    | false => rw [e] at hK; cases hK) n) hg
