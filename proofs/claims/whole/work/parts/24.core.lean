/-! What the reference holds, apart from where it lies: a field's number and a place -/
abbrev Core : Type := (Nat → Nat → Int32) × (Nat → Nat → Int64)
def kI (c : Core) (k i : Nat) : Int32 := c.1 k i
def kL (c : Core) (k i : Nat) : Int64 := c.2 k i
def uI (c : Core) (k i : Nat) (v : Int32) : Core := (fun k' i' => if k' = k ∧ i' = i then v else c.1 k' i', c.2)
def uL (c : Core) (k i : Nat) (v : Int64) : Core := (c.1, fun k' i' => if k' = k ∧ i' = i then v else c.2 k' i')
def wcI (c : Core) (k : Nat) (f : Nat → Int32) : Core := (fun k' i' => if k' = k then f i' else c.1 k' i', c.2)
def wcL (c : Core) (k : Nat) (f : Nat → Int64) : Core := (c.1, fun k' i' => if k' = k then f i' else c.2 k' i')
theorem kI_uI (c : Core) (k i : Nat) (v : Int32) (k' i' : Nat) : kI (uI c k i v) k' i' = if k' = k ∧ i' = i then v else kI c k' i' := rfl
theorem kI_uL (c : Core) (k i : Nat) (v : Int64) : kI (uL c k i v) = kI c := rfl
theorem kL_uL (c : Core) (k i : Nat) (v : Int64) (k' i' : Nat) : kL (uL c k i v) k' i' = if k' = k ∧ i' = i then v else kL c k' i' := rfl
theorem kL_uI (c : Core) (k i : Nat) (v : Int32) : kL (uI c k i v) = kL c := rfl
theorem kI_wcI (c : Core) (k : Nat) (f : Nat → Int32) (k' i' : Nat) : kI (wcI c k f) k' i' = if k' = k then f i' else kI c k' i' := rfl
theorem kI_wcL (c : Core) (k : Nat) (f : Nat → Int64) : kI (wcL c k f) = kI c := rfl
theorem kL_wcL (c : Core) (k : Nat) (f : Nat → Int64) (k' i' : Nat) : kL (wcL c k f) k' i' = if k' = k then f i' else kL c k' i' := rfl
theorem kL_wcI (c : Core) (k : Nat) (f : Nat → Int32) : kL (wcI c k f) = kL c := rfl
def kcL : List Nat := [1200, 1089007, 2089015, 1203, 3089023, 1205, 1089032, 1089041, 1089050, 1089059, 2089068, 2089077, 3089086, 3089095, 1089104, 1089113, 1089122, 1089131, 1089140, 1089148, 1089198, 2089207, 1089216, 1299, 1299, 1225, 1089233, 2089241, 1089249, 1089257, 1089265, 3089273, 3089281, 1089289, 1089297, 2089305, 1236, 1089313, 2089321, 1239, 1240, 1241, 1242, 1243, 1244, 1245, 1246, 1247, 2089335, 1089343, 1089351, 1089359, 1252, 1089367, 2089375]
def koL : List Nat := [0, 1, 2, 0, 3, 0, 4, 5, 6, 7, 8, 9, 10, 11, 12, 13, 14, 15, 16, 17, 18, 19, 20, 0, 0, 0, 22, 23, 24, 25, 26, 27, 28, 29, 30, 31, 0, 32, 33, 0, 0, 0, 0, 0, 0, 0, 0, 0, 34, 35, 36, 37, 0, 38, 39]
def kc (k : Nat) : Nat := (kcL[k]?).getD 1299
def ko (k : Nat) : Nat := (koL[k]?).getD 0
def core (M : Mem) (h : Nat) : Core := (fun k i => mI M (kc k) (h + ko k) i, fun k i => mL M (kc k) (h + ko k) i)
def rk (key : Nat) : Bool := (Nat.ble 1200 key && Nat.blt key 1300) || Nat.beq (key % 1000000 / 1000) 89
theorem kc_big {k : Nat} (h : 55 ≤ k) : kc k = 1299 := by
  have : kcL[k]? = none := List.getElem?_eq_none (by show 55 ≤ k; exact h)
  simp only [kc, this, Option.getD_none]
theorem rk_all : ∀ k, k < 55 → rk (kc k) = true := by decide +kernel
theorem rk_kc (k : Nat) : rk (kc k) = true := by
  by_cases h : k < 55
  · exact rk_all k h
  · rw [kc_big (by omega)]; rfl
def kcu : List (Nat × Nat) := (List.range 55).filterMap fun k => if kc k = 1299 then none else some (k, kc k)
theorem kc_inj_all : ∀ k, k < 55 → kc k = 1299 ∨ ∀ k', k' < 55 → kc k' = kc k → k' = k := by decide +kernel
theorem kc_inj {k : Nat} (h : k < 55) (h2 : kc k ≠ 1299) (k' : Nat) (e : kc k' = kc k) : k' = k := by
  rcases kc_inj_all k h with h3 | h3
  · exact absurd h3 h2
  · by_cases h4 : k' < 55
    · exact h3 k' h4 e
    · rw [kc_big (by omega)] at e; exact absurd e.symm h2
theorem core_sI {M : Mem} {h k : Nat} (h1 : k < 55) (h2 : kc k ≠ 1299) (i : Nat) (v : Int32) : core (sI M (kc k) (h + ko k) i v) h = uI (core M h) k i v := by
  refine Prod.ext ?_ rfl
  funext k' i'
  show (if kc k' = kc k ∧ h + ko k' = h + ko k ∧ i' = i then v else mI M (kc k') (h + ko k') i') = if k' = k ∧ i' = i then v else mI M (kc k') (h + ko k') i'
  by_cases e : k' = k
  · subst e; simp
  · rw [if_neg (fun q => e (kc_inj h1 h2 k' q.1)), if_neg (fun q => e q.1)]
theorem core_sL {M : Mem} {h k : Nat} (h1 : k < 55) (h2 : kc k ≠ 1299) (i : Nat) (v : Int64) : core (sL M (kc k) (h + ko k) i v) h = uL (core M h) k i v := by
  refine Prod.ext rfl ?_
  funext k' i'
  show (if kc k' = kc k ∧ h + ko k' = h + ko k ∧ i' = i then v else mL M (kc k') (h + ko k') i') = if k' = k ∧ i' = i then v else mL M (kc k') (h + ko k') i'
  by_cases e : k' = k
  · subst e; simp
  · rw [if_neg (fun q => e (kc_inj h1 h2 k' q.1)), if_neg (fun q => e q.1)]
theorem core_wI {M : Mem} {h k : Nat} (h1 : k < 55) (h2 : kc k ≠ 1299) (f : Nat → Int32) : core (wI M (kc k) (h + ko k) f) h = wcI (core M h) k f := by
  refine Prod.ext ?_ rfl
  funext k' i'
  show (if kc k' = kc k ∧ h + ko k' = h + ko k then f i' else mI M (kc k') (h + ko k') i') = if k' = k then f i' else mI M (kc k') (h + ko k') i'
  by_cases e : k' = k
  · subst e; simp
  · rw [if_neg (fun q => e (kc_inj h1 h2 k' q.1)), if_neg e]
theorem core_wL {M : Mem} {h k : Nat} (h1 : k < 55) (h2 : kc k ≠ 1299) (f : Nat → Int64) : core (wL M (kc k) (h + ko k) f) h = wcL (core M h) k f := by
  refine Prod.ext rfl ?_
  funext k' i'
  show (if kc k' = kc k ∧ h + ko k' = h + ko k then f i' else mL M (kc k') (h + ko k') i') = if k' = k then f i' else mL M (kc k') (h + ko k') i'
  by_cases e : k' = k
  · subst e; simp
  · rw [if_neg (fun q => e (kc_inj h1 h2 k' q.1)), if_neg e]
theorem core_nI {M : Mem} {h key a i : Nat} {v : Int32} (hk : ∀ k, kc k ≠ key) : core (sI M key a i v) h = core M h := by
  refine Prod.ext ?_ rfl
  funext k' i'
  show (if kc k' = key ∧ h + ko k' = a ∧ i' = i then v else mI M (kc k') (h + ko k') i') = mI M (kc k') (h + ko k') i'
  rw [if_neg (fun q => hk k' q.1)]
theorem core_nL {M : Mem} {h key a i : Nat} {v : Int64} (hk : ∀ k, kc k ≠ key) : core (sL M key a i v) h = core M h := by
  refine Prod.ext rfl ?_
  funext k' i'
  show (if kc k' = key ∧ h + ko k' = a ∧ i' = i then v else mL M (kc k') (h + ko k') i') = mL M (kc k') (h + ko k') i'
  rw [if_neg (fun q => hk k' q.1)]
theorem core_nwI {M : Mem} {h key a : Nat} {f : Nat → Int32} (hk : ∀ k, kc k ≠ key) : core (wI M key a f) h = core M h := by
  refine Prod.ext ?_ rfl
  funext k' i'
  show (if kc k' = key ∧ h + ko k' = a then f i' else mI M (kc k') (h + ko k') i') = mI M (kc k') (h + ko k') i'
  rw [if_neg (fun q => hk k' q.1)]
theorem core_nwL {M : Mem} {h key a : Nat} {f : Nat → Int64} (hk : ∀ k, kc k ≠ key) : core (wL M key a f) h = core M h := by
  refine Prod.ext rfl ?_
  funext k' i'
  show (if kc k' = key ∧ h + ko k' = a then f i' else mL M (kc k') (h + ko k') i') = mL M (kc k') (h + ko k') i'
  rw [if_neg (fun q => hk k' q.1)]
theorem ne_rk {key : Nat} (h : rk key = false) (k : Nat) : kc k ≠ key := fun e => by rw [← e, rk_kc] at h; cases h
theorem core_sR {M : Mem} {h key a i : Nat} {v : Option Nat} : core (sR M key a i v) h = core M h := rfl
theorem core_nw {M : Mem} {h a b n : Nat} : core (nw M a b n) h = core M h := rfl
theorem ne99I {M : Mem} {h key a i : Nat} {v : Int32} (hk : ∀ k, kc k ≠ key) : core (sI M key a i v) h = core M h := core_nI hk
theorem not_fnd : ∀ k, kc k ≠ 1089225 := by
  intro k
  by_cases h : k < 55
  · exact (show ∀ k, k < 55 → kc k ≠ 1089225 by decide +kernel) k h
  · rw [kc_big (by omega)]; decide
theorem not_fnm : ∀ k, kc k ≠ 1224 := by
  intro k
  by_cases h : k < 55
  · exact (show ∀ k, k < 55 → kc k ≠ 1224 by decide +kernel) k h
  · rw [kc_big (by omega)]; decide
/-- memories that differ in the reference's cells alone -/
def Fr (M M1 : Mem) : Prop := mK M1 = mK M ∧ mN M1 = mN M ∧ mR M1 = mR M ∧ mS M1 = mS M ∧ mU M1 = mU M ∧ ∀ k, rk k = false → mI M1 k = mI M k ∧ mL M1 k = mL M k
theorem Fr.rf {M : Mem} : Fr M M := ⟨rfl, rfl, rfl, rfl, rfl, fun _ _ => ⟨rfl, rfl⟩⟩
theorem Fr.tr {M M1 M2 : Mem} (h : Fr M M1) (g : Fr M1 M2) : Fr M M2 := ⟨g.1.trans h.1, g.2.1.trans h.2.1, g.2.2.1.trans h.2.2.1, g.2.2.2.1.trans h.2.2.2.1, g.2.2.2.2.1.trans h.2.2.2.2.1, fun k hk => ⟨(g.2.2.2.2.2 k hk).1.trans (h.2.2.2.2.2 k hk).1, (g.2.2.2.2.2 k hk).2.trans (h.2.2.2.2.2 k hk).2⟩⟩
theorem Fr.sI {M M1 : Mem} (h : Fr M M1) {key a i : Nat} {v : Int32} (hk : rk key = true) : Fr M (sI M1 key a i v) := by
  refine ⟨h.1, h.2.1, h.2.2.1, h.2.2.2.1, h.2.2.2.2.1, fun k hk2 => ⟨?_, (h.2.2.2.2.2 k hk2).2⟩⟩
  rw [← (h.2.2.2.2.2 k hk2).1]
  funext a' i'
  rw [mI_sI, if_neg]
  intro e; rw [e.1, hk] at hk2; cases hk2
theorem Fr.sL {M M1 : Mem} (h : Fr M M1) {key a i : Nat} {v : Int64} (hk : rk key = true) : Fr M (sL M1 key a i v) := by
  refine ⟨h.1, h.2.1, h.2.2.1, h.2.2.2.1, h.2.2.2.2.1, fun k hk2 => ⟨(h.2.2.2.2.2 k hk2).1, ?_⟩⟩
  rw [← (h.2.2.2.2.2 k hk2).2]
  funext a' i'
  rw [mL_sL, if_neg]
  intro e; rw [e.1, hk] at hk2; cases hk2
theorem Fr.wI {M M1 : Mem} (h : Fr M M1) {key a : Nat} {f : Nat → Int32} (hk : rk key = true) : Fr M (wI M1 key a f) := by
  refine ⟨h.1, h.2.1, h.2.2.1, h.2.2.2.1, h.2.2.2.2.1, fun k hk2 => ⟨?_, (h.2.2.2.2.2 k hk2).2⟩⟩
  rw [← (h.2.2.2.2.2 k hk2).1]
  funext a' i'
  rw [mI_wI, if_neg]
  intro e; rw [e.1, hk] at hk2; cases hk2
theorem Fr.wL {M M1 : Mem} (h : Fr M M1) {key a : Nat} {f : Nat → Int64} (hk : rk key = true) : Fr M (wL M1 key a f) := by
  refine ⟨h.1, h.2.1, h.2.2.1, h.2.2.2.1, h.2.2.2.2.1, fun k hk2 => ⟨(h.2.2.2.2.2 k hk2).1, ?_⟩⟩
  rw [← (h.2.2.2.2.2 k hk2).2]
  funext a' i'
  rw [mL_wL, if_neg]
  intro e; rw [e.1, hk] at hk2; cases hk2
theorem co_kinds (M : Mem) (h i : Nat) : kI (core M h) 0 i = mI M 1200 h i := rfl
theorem cu_kinds (M : Mem) (h i : Nat) (v : Int32) : core (sI M 1200 h i v) h = uI (core M h) 0 i v := core_sI (k := 0) (by decide) (by decide) i v
theorem co_parent (M : Mem) (h i : Nat) : kI (core M h) 1 i = mI M 1089007 (h + 1) i := rfl
theorem cu_parent (M : Mem) (h i : Nat) (v : Int32) : core (sI M 1089007 (h + 1) i v) h = uI (core M h) 1 i v := core_sI (k := 1) (by decide) (by decide) i v
theorem cw_parent (M : Mem) (h : Nat) (f : Nat → Int32) : core (wI M 1089007 (h + 1) f) h = wcI (core M h) 1 f := core_wI (k := 1) (by decide) (by decide) f
theorem co_meters (M : Mem) (h i : Nat) : kL (core M h) 2 i = mL M 2089015 (h + 2) i := rfl
theorem cu_meters (M : Mem) (h i : Nat) (v : Int64) : core (sL M 2089015 (h + 2) i v) h = uL (core M h) 2 i v := core_sL (k := 2) (by decide) (by decide) i v
theorem cw_meters (M : Mem) (h : Nat) (f : Nat → Int64) : core (wL M 2089015 (h + 2) f) h = wcL (core M h) 2 f := core_wL (k := 2) (by decide) (by decide) f
theorem co_scenes (M : Mem) (h i : Nat) : kI (core M h) 3 i = mI M 1203 h i := rfl
theorem cu_scenes (M : Mem) (h i : Nat) (v : Int32) : core (sI M 1203 h i v) h = uI (core M h) 3 i v := core_sI (k := 3) (by decide) (by decide) i v
theorem co_isOpen (M : Mem) (h i : Nat) : kI (core M h) 4 i = mI M 3089023 (h + 3) i := rfl
theorem cu_isOpen (M : Mem) (h i : Nat) (v : Int32) : core (sI M 3089023 (h + 3) i v) h = uI (core M h) 4 i v := core_sI (k := 4) (by decide) (by decide) i v
theorem cw_isOpen (M : Mem) (h : Nat) (f : Nat → Int32) : core (wI M 3089023 (h + 3) f) h = wcI (core M h) 4 f := core_wI (k := 4) (by decide) (by decide) f
theorem co_listeners (M : Mem) (h i : Nat) : kI (core M h) 5 i = mI M 1205 h i := rfl
theorem cu_listeners (M : Mem) (h i : Nat) (v : Int32) : core (sI M 1205 h i v) h = uI (core M h) 5 i v := core_sI (k := 5) (by decide) (by decide) i v
theorem co_kindOf (M : Mem) (h i : Nat) : kI (core M h) 6 i = mI M 1089032 (h + 4) i := rfl
theorem cu_kindOf (M : Mem) (h i : Nat) (v : Int32) : core (sI M 1089032 (h + 4) i v) h = uI (core M h) 6 i v := core_sI (k := 6) (by decide) (by decide) i v
theorem cw_kindOf (M : Mem) (h : Nat) (f : Nat → Int32) : core (wI M 1089032 (h + 4) f) h = wcI (core M h) 6 f := core_wI (k := 6) (by decide) (by decide) f
theorem co_phaseOf (M : Mem) (h i : Nat) : kI (core M h) 7 i = mI M 1089041 (h + 5) i := rfl
theorem cu_phaseOf (M : Mem) (h i : Nat) (v : Int32) : core (sI M 1089041 (h + 5) i v) h = uI (core M h) 7 i v := core_sI (k := 7) (by decide) (by decide) i v
theorem cw_phaseOf (M : Mem) (h : Nat) (f : Nat → Int32) : core (wI M 1089041 (h + 5) f) h = wcI (core M h) 7 f := core_wI (k := 7) (by decide) (by decide) f
theorem co_rankOf (M : Mem) (h i : Nat) : kI (core M h) 8 i = mI M 1089050 (h + 6) i := rfl
theorem cu_rankOf (M : Mem) (h i : Nat) (v : Int32) : core (sI M 1089050 (h + 6) i v) h = uI (core M h) 8 i v := core_sI (k := 8) (by decide) (by decide) i v
theorem cw_rankOf (M : Mem) (h : Nat) (f : Nat → Int32) : core (wI M 1089050 (h + 6) f) h = wcI (core M h) 8 f := core_wI (k := 8) (by decide) (by decide) f
theorem co_sceneOf (M : Mem) (h i : Nat) : kI (core M h) 9 i = mI M 1089059 (h + 7) i := rfl
theorem cu_sceneOf (M : Mem) (h i : Nat) (v : Int32) : core (sI M 1089059 (h + 7) i v) h = uI (core M h) 9 i v := core_sI (k := 9) (by decide) (by decide) i v
theorem cw_sceneOf (M : Mem) (h : Nat) (f : Nat → Int32) : core (wI M 1089059 (h + 7) f) h = wcI (core M h) 9 f := core_wI (k := 9) (by decide) (by decide) f
theorem co_lowOf (M : Mem) (h i : Nat) : kL (core M h) 10 i = mL M 2089068 (h + 8) i := rfl
theorem cu_lowOf (M : Mem) (h i : Nat) (v : Int64) : core (sL M 2089068 (h + 8) i v) h = uL (core M h) 10 i v := core_sL (k := 10) (by decide) (by decide) i v
theorem cw_lowOf (M : Mem) (h : Nat) (f : Nat → Int64) : core (wL M 2089068 (h + 8) f) h = wcL (core M h) 10 f := core_wL (k := 10) (by decide) (by decide) f
theorem co_highOf (M : Mem) (h i : Nat) : kL (core M h) 11 i = mL M 2089077 (h + 9) i := rfl
theorem cu_highOf (M : Mem) (h i : Nat) (v : Int64) : core (sL M 2089077 (h + 9) i v) h = uL (core M h) 11 i v := core_sL (k := 11) (by decide) (by decide) i v
theorem cw_highOf (M : Mem) (h : Nat) (f : Nat → Int64) : core (wL M 2089077 (h + 9) f) h = wcL (core M h) 11 f := core_wL (k := 11) (by decide) (by decide) f
theorem co_isOnce (M : Mem) (h i : Nat) : kI (core M h) 12 i = mI M 3089086 (h + 10) i := rfl
theorem cu_isOnce (M : Mem) (h i : Nat) (v : Int32) : core (sI M 3089086 (h + 10) i v) h = uI (core M h) 12 i v := core_sI (k := 12) (by decide) (by decide) i v
theorem cw_isOnce (M : Mem) (h : Nat) (f : Nat → Int32) : core (wI M 3089086 (h + 10) f) h = wcI (core M h) 12 f := core_wI (k := 12) (by decide) (by decide) f
theorem co_there (M : Mem) (h i : Nat) : kI (core M h) 13 i = mI M 3089095 (h + 11) i := rfl
theorem cu_there (M : Mem) (h i : Nat) (v : Int32) : core (sI M 3089095 (h + 11) i v) h = uI (core M h) 13 i v := core_sI (k := 13) (by decide) (by decide) i v
theorem cw_there (M : Mem) (h : Nat) (f : Nat → Int32) : core (wI M 3089095 (h + 11) f) h = wcI (core M h) 13 f := core_wI (k := 13) (by decide) (by decide) f
theorem co_stepMany (M : Mem) (h i : Nat) : kI (core M h) 14 i = mI M 1089104 (h + 12) i := rfl
theorem cu_stepMany (M : Mem) (h i : Nat) (v : Int32) : core (sI M 1089104 (h + 12) i v) h = uI (core M h) 14 i v := core_sI (k := 14) (by decide) (by decide) i v
theorem cw_stepMany (M : Mem) (h : Nat) (f : Nat → Int32) : core (wI M 1089104 (h + 12) f) h = wcI (core M h) 14 f := core_wI (k := 14) (by decide) (by decide) f
theorem co_ops (M : Mem) (h i : Nat) : kI (core M h) 15 i = mI M 1089113 (h + 13) i := rfl
theorem cu_ops (M : Mem) (h i : Nat) (v : Int32) : core (sI M 1089113 (h + 13) i v) h = uI (core M h) 15 i v := core_sI (k := 15) (by decide) (by decide) i v
theorem cw_ops (M : Mem) (h : Nat) (f : Nat → Int32) : core (wI M 1089113 (h + 13) f) h = wcI (core M h) 15 f := core_wI (k := 15) (by decide) (by decide) f
theorem co_numbers (M : Mem) (h i : Nat) : kI (core M h) 16 i = mI M 1089122 (h + 14) i := rfl
theorem cu_numbers (M : Mem) (h i : Nat) (v : Int32) : core (sI M 1089122 (h + 14) i v) h = uI (core M h) 16 i v := core_sI (k := 16) (by decide) (by decide) i v
theorem cw_numbers (M : Mem) (h : Nat) (f : Nat → Int32) : core (wI M 1089122 (h + 14) f) h = wcI (core M h) 16 f := core_wI (k := 16) (by decide) (by decide) f
theorem co_toldOften (M : Mem) (h i : Nat) : kI (core M h) 17 i = mI M 1089131 (h + 15) i := rfl
theorem cu_toldOften (M : Mem) (h i : Nat) (v : Int32) : core (sI M 1089131 (h + 15) i v) h = uI (core M h) 17 i v := core_sI (k := 17) (by decide) (by decide) i v
theorem cw_toldOften (M : Mem) (h : Nat) (f : Nat → Int32) : core (wI M 1089131 (h + 15) f) h = wcI (core M h) 17 f := core_wI (k := 17) (by decide) (by decide) f
theorem co_trayOf (M : Mem) (h i : Nat) : kI (core M h) 18 i = mI M 1089140 (h + 16) i := rfl
theorem cu_trayOf (M : Mem) (h i : Nat) (v : Int32) : core (sI M 1089140 (h + 16) i v) h = uI (core M h) 18 i v := core_sI (k := 18) (by decide) (by decide) i v
theorem cw_trayOf (M : Mem) (h : Nat) (f : Nat → Int32) : core (wI M 1089140 (h + 16) f) h = wcI (core M h) 18 f := core_wI (k := 18) (by decide) (by decide) f
theorem co_lanes (M : Mem) (h i : Nat) : kI (core M h) 19 i = mI M 1089148 (h + 17) i := rfl
theorem cu_lanes (M : Mem) (h i : Nat) (v : Int32) : core (sI M 1089148 (h + 17) i v) h = uI (core M h) 19 i v := core_sI (k := 19) (by decide) (by decide) i v
theorem cw_lanes (M : Mem) (h : Nat) (f : Nat → Int32) : core (wI M 1089148 (h + 17) f) h = wcI (core M h) 19 f := core_wI (k := 19) (by decide) (by decide) f
theorem co_sizes (M : Mem) (h i : Nat) : kI (core M h) 20 i = mI M 1089198 (h + 18) i := rfl
theorem cu_sizes (M : Mem) (h i : Nat) (v : Int32) : core (sI M 1089198 (h + 18) i v) h = uI (core M h) 20 i v := core_sI (k := 20) (by decide) (by decide) i v
theorem cw_sizes (M : Mem) (h : Nat) (f : Nat → Int32) : core (wI M 1089198 (h + 18) f) h = wcI (core M h) 20 f := core_wI (k := 20) (by decide) (by decide) f
theorem co_cell (M : Mem) (h i : Nat) : kL (core M h) 21 i = mL M 2089207 (h + 19) i := rfl
theorem cu_cell (M : Mem) (h i : Nat) (v : Int64) : core (sL M 2089207 (h + 19) i v) h = uL (core M h) 21 i v := core_sL (k := 21) (by decide) (by decide) i v
theorem cw_cell (M : Mem) (h : Nat) (f : Nat → Int64) : core (wL M 2089207 (h + 19) f) h = wcL (core M h) 21 f := core_wL (k := 21) (by decide) (by decide) f
theorem co_turns (M : Mem) (h i : Nat) : kI (core M h) 22 i = mI M 1089216 (h + 20) i := rfl
theorem cu_turns (M : Mem) (h i : Nat) (v : Int32) : core (sI M 1089216 (h + 20) i v) h = uI (core M h) 22 i v := core_sI (k := 22) (by decide) (by decide) i v
theorem cw_turns (M : Mem) (h : Nat) (f : Nat → Int32) : core (wI M 1089216 (h + 20) f) h = wcI (core M h) 22 f := core_wI (k := 22) (by decide) (by decide) f
theorem co_deep (M : Mem) (h i : Nat) : kI (core M h) 25 i = mI M 1225 h i := rfl
theorem cu_deep (M : Mem) (h i : Nat) (v : Int32) : core (sI M 1225 h i v) h = uI (core M h) 25 i v := core_sI (k := 25) (by decide) (by decide) i v
theorem co_cKind (M : Mem) (h i : Nat) : kI (core M h) 26 i = mI M 1089233 (h + 22) i := rfl
theorem cu_cKind (M : Mem) (h i : Nat) (v : Int32) : core (sI M 1089233 (h + 22) i v) h = uI (core M h) 26 i v := core_sI (k := 26) (by decide) (by decide) i v
theorem cw_cKind (M : Mem) (h : Nat) (f : Nat → Int32) : core (wI M 1089233 (h + 22) f) h = wcI (core M h) 26 f := core_wI (k := 26) (by decide) (by decide) f
theorem co_cValue (M : Mem) (h i : Nat) : kL (core M h) 27 i = mL M 2089241 (h + 23) i := rfl
theorem cu_cValue (M : Mem) (h i : Nat) (v : Int64) : core (sL M 2089241 (h + 23) i v) h = uL (core M h) 27 i v := core_sL (k := 27) (by decide) (by decide) i v
theorem cw_cValue (M : Mem) (h : Nat) (f : Nat → Int64) : core (wL M 2089241 (h + 23) f) h = wcL (core M h) 27 f := core_wL (k := 27) (by decide) (by decide) f
theorem co_cPhase (M : Mem) (h i : Nat) : kI (core M h) 28 i = mI M 1089249 (h + 24) i := rfl
theorem cu_cPhase (M : Mem) (h i : Nat) (v : Int32) : core (sI M 1089249 (h + 24) i v) h = uI (core M h) 28 i v := core_sI (k := 28) (by decide) (by decide) i v
theorem cw_cPhase (M : Mem) (h : Nat) (f : Nat → Int32) : core (wI M 1089249 (h + 24) f) h = wcI (core M h) 28 f := core_wI (k := 28) (by decide) (by decide) f
theorem co_cMany (M : Mem) (h i : Nat) : kI (core M h) 29 i = mI M 1089257 (h + 25) i := rfl
theorem cu_cMany (M : Mem) (h i : Nat) (v : Int32) : core (sI M 1089257 (h + 25) i v) h = uI (core M h) 29 i v := core_sI (k := 29) (by decide) (by decide) i v
theorem cw_cMany (M : Mem) (h : Nat) (f : Nat → Int32) : core (wI M 1089257 (h + 25) f) h = wcI (core M h) 29 f := core_wI (k := 29) (by decide) (by decide) f
theorem co_cNext (M : Mem) (h i : Nat) : kI (core M h) 30 i = mI M 1089265 (h + 26) i := rfl
theorem cu_cNext (M : Mem) (h i : Nat) (v : Int32) : core (sI M 1089265 (h + 26) i v) h = uI (core M h) 30 i v := core_sI (k := 30) (by decide) (by decide) i v
theorem cw_cNext (M : Mem) (h : Nat) (f : Nat → Int32) : core (wI M 1089265 (h + 26) f) h = wcI (core M h) 30 f := core_wI (k := 30) (by decide) (by decide) f
theorem co_cVetoed (M : Mem) (h i : Nat) : kI (core M h) 31 i = mI M 3089273 (h + 27) i := rfl
theorem cu_cVetoed (M : Mem) (h i : Nat) (v : Int32) : core (sI M 3089273 (h + 27) i v) h = uI (core M h) 31 i v := core_sI (k := 31) (by decide) (by decide) i v
theorem cw_cVetoed (M : Mem) (h : Nat) (f : Nat → Int32) : core (wI M 3089273 (h + 27) f) h = wcI (core M h) 31 f := core_wI (k := 31) (by decide) (by decide) f
theorem co_isUnder (M : Mem) (h i : Nat) : kI (core M h) 32 i = mI M 3089281 (h + 28) i := rfl
theorem cu_isUnder (M : Mem) (h i : Nat) (v : Int32) : core (sI M 3089281 (h + 28) i v) h = uI (core M h) 32 i v := core_sI (k := 32) (by decide) (by decide) i v
theorem cw_isUnder (M : Mem) (h : Nat) (f : Nat → Int32) : core (wI M 3089281 (h + 28) f) h = wcI (core M h) 32 f := core_wI (k := 32) (by decide) (by decide) f
theorem co_pListener (M : Mem) (h i : Nat) : kI (core M h) 33 i = mI M 1089289 (h + 29) i := rfl
theorem cu_pListener (M : Mem) (h i : Nat) (v : Int32) : core (sI M 1089289 (h + 29) i v) h = uI (core M h) 33 i v := core_sI (k := 33) (by decide) (by decide) i v
theorem cw_pListener (M : Mem) (h : Nat) (f : Nat → Int32) : core (wI M 1089289 (h + 29) f) h = wcI (core M h) 33 f := core_wI (k := 33) (by decide) (by decide) f
theorem co_pStep (M : Mem) (h i : Nat) : kI (core M h) 34 i = mI M 1089297 (h + 30) i := rfl
theorem cu_pStep (M : Mem) (h i : Nat) (v : Int32) : core (sI M 1089297 (h + 30) i v) h = uI (core M h) 34 i v := core_sI (k := 34) (by decide) (by decide) i v
theorem cw_pStep (M : Mem) (h : Nat) (f : Nat → Int32) : core (wI M 1089297 (h + 30) f) h = wcI (core M h) 34 f := core_wI (k := 34) (by decide) (by decide) f
theorem co_pValue (M : Mem) (h i : Nat) : kL (core M h) 35 i = mL M 2089305 (h + 31) i := rfl
theorem cu_pValue (M : Mem) (h i : Nat) (v : Int64) : core (sL M 2089305 (h + 31) i v) h = uL (core M h) 35 i v := core_sL (k := 35) (by decide) (by decide) i v
theorem cw_pValue (M : Mem) (h : Nat) (f : Nat → Int64) : core (wL M 2089305 (h + 31) f) h = wcL (core M h) 35 f := core_wL (k := 35) (by decide) (by decide) f
theorem co_laterMany (M : Mem) (h i : Nat) : kI (core M h) 36 i = mI M 1236 h i := rfl
theorem cu_laterMany (M : Mem) (h i : Nat) (v : Int32) : core (sI M 1236 h i v) h = uI (core M h) 36 i v := core_sI (k := 36) (by decide) (by decide) i v
theorem co_laterKind (M : Mem) (h i : Nat) : kI (core M h) 37 i = mI M 1089313 (h + 32) i := rfl
theorem cu_laterKind (M : Mem) (h i : Nat) (v : Int32) : core (sI M 1089313 (h + 32) i v) h = uI (core M h) 37 i v := core_sI (k := 37) (by decide) (by decide) i v
theorem cw_laterKind (M : Mem) (h : Nat) (f : Nat → Int32) : core (wI M 1089313 (h + 32) f) h = wcI (core M h) 37 f := core_wI (k := 37) (by decide) (by decide) f
theorem co_laterValue (M : Mem) (h i : Nat) : kL (core M h) 38 i = mL M 2089321 (h + 33) i := rfl
theorem cu_laterValue (M : Mem) (h i : Nat) (v : Int64) : core (sL M 2089321 (h + 33) i v) h = uL (core M h) 38 i v := core_sL (k := 38) (by decide) (by decide) i v
theorem cw_laterValue (M : Mem) (h : Nat) (f : Nat → Int64) : core (wL M 2089321 (h + 33) f) h = wcL (core M h) 38 f := core_wL (k := 38) (by decide) (by decide) f
theorem co_firstVetoed (M : Mem) (h i : Nat) : kI (core M h) 39 i = mI M 1239 h i := rfl
theorem cu_firstVetoed (M : Mem) (h i : Nat) (v : Int32) : core (sI M 1239 h i v) h = uI (core M h) 39 i v := core_sI (k := 39) (by decide) (by decide) i v
theorem co_cues (M : Mem) (h i : Nat) : kI (core M h) 40 i = mI M 1240 h i := rfl
theorem cu_cues (M : Mem) (h i : Nat) (v : Int32) : core (sI M 1240 h i v) h = uI (core M h) 40 i v := core_sI (k := 40) (by decide) (by decide) i v
theorem co_tolds (M : Mem) (h i : Nat) : kI (core M h) 41 i = mI M 1241 h i := rfl
theorem cu_tolds (M : Mem) (h i : Nat) (v : Int32) : core (sI M 1241 h i v) h = uI (core M h) 41 i v := core_sI (k := 41) (by decide) (by decide) i v
theorem co_logMany (M : Mem) (h i : Nat) : kI (core M h) 42 i = mI M 1242 h i := rfl
theorem cu_logMany (M : Mem) (h i : Nat) (v : Int32) : core (sI M 1242 h i v) h = uI (core M h) 42 i v := core_sI (k := 42) (by decide) (by decide) i v
theorem co_failures (M : Mem) (h i : Nat) : kI (core M h) 43 i = mI M 1243 h i := rfl
theorem cu_failures (M : Mem) (h i : Nat) (v : Int32) : core (sI M 1243 h i v) h = uI (core M h) 43 i v := core_sI (k := 43) (by decide) (by decide) i v
theorem co_vetoes (M : Mem) (h i : Nat) : kI (core M h) 44 i = mI M 1244 h i := rfl
theorem cu_vetoes (M : Mem) (h i : Nat) (v : Int32) : core (sI M 1244 h i v) h = uI (core M h) 44 i v := core_sI (k := 44) (by decide) (by decide) i v
theorem co_deepest (M : Mem) (h i : Nat) : kI (core M h) 45 i = mI M 1245 h i := rfl
theorem cu_deepest (M : Mem) (h i : Nat) (v : Int32) : core (sI M 1245 h i v) h = uI (core M h) 45 i v := core_sI (k := 45) (by decide) (by decide) i v
theorem co_vetoer (M : Mem) (h i : Nat) : kI (core M h) 46 i = mI M 1246 h i := rfl
theorem cu_vetoer (M : Mem) (h i : Nat) (v : Int32) : core (sI M 1246 h i v) h = uI (core M h) 46 i v := core_sI (k := 46) (by decide) (by decide) i v
theorem co_firstValue (M : Mem) (h i : Nat) : kL (core M h) 47 i = mL M 1247 h i := rfl
theorem cu_firstValue (M : Mem) (h i : Nat) (v : Int64) : core (sL M 1247 h i v) h = uL (core M h) 47 i v := core_sL (k := 47) (by decide) (by decide) i v
theorem co_log (M : Mem) (h i : Nat) : kL (core M h) 48 i = mL M 2089335 (h + 34) i := rfl
theorem cu_log (M : Mem) (h i : Nat) (v : Int64) : core (sL M 2089335 (h + 34) i v) h = uL (core M h) 48 i v := core_sL (k := 48) (by decide) (by decide) i v
theorem cw_log (M : Mem) (h : Nat) (f : Nat → Int64) : core (wL M 2089335 (h + 34) f) h = wcL (core M h) 48 f := core_wL (k := 48) (by decide) (by decide) f
theorem co_fWhat (M : Mem) (h i : Nat) : kI (core M h) 49 i = mI M 1089343 (h + 35) i := rfl
theorem cu_fWhat (M : Mem) (h i : Nat) (v : Int32) : core (sI M 1089343 (h + 35) i v) h = uI (core M h) 49 i v := core_sI (k := 49) (by decide) (by decide) i v
theorem cw_fWhat (M : Mem) (h : Nat) (f : Nat → Int32) : core (wI M 1089343 (h + 35) f) h = wcI (core M h) 49 f := core_wI (k := 49) (by decide) (by decide) f
theorem co_fListener (M : Mem) (h i : Nat) : kI (core M h) 50 i = mI M 1089351 (h + 36) i := rfl
theorem cu_fListener (M : Mem) (h i : Nat) (v : Int32) : core (sI M 1089351 (h + 36) i v) h = uI (core M h) 50 i v := core_sI (k := 50) (by decide) (by decide) i v
theorem cw_fListener (M : Mem) (h : Nat) (f : Nat → Int32) : core (wI M 1089351 (h + 36) f) h = wcI (core M h) 50 f := core_wI (k := 50) (by decide) (by decide) f
theorem co_fStep (M : Mem) (h i : Nat) : kI (core M h) 51 i = mI M 1089359 (h + 37) i := rfl
theorem cu_fStep (M : Mem) (h i : Nat) (v : Int32) : core (sI M 1089359 (h + 37) i v) h = uI (core M h) 51 i v := core_sI (k := 51) (by decide) (by decide) i v
theorem cw_fStep (M : Mem) (h : Nat) (f : Nat → Int32) : core (wI M 1089359 (h + 37) f) h = wcI (core M h) 51 f := core_wI (k := 51) (by decide) (by decide) f
theorem co_acts (M : Mem) (h i : Nat) : kI (core M h) 52 i = mI M 1252 h i := rfl
theorem cu_acts (M : Mem) (h i : Nat) (v : Int32) : core (sI M 1252 h i v) h = uI (core M h) 52 i v := core_sI (k := 52) (by decide) (by decide) i v
theorem co_actKind (M : Mem) (h i : Nat) : kI (core M h) 53 i = mI M 1089367 (h + 38) i := rfl
theorem cu_actKind (M : Mem) (h i : Nat) (v : Int32) : core (sI M 1089367 (h + 38) i v) h = uI (core M h) 53 i v := core_sI (k := 53) (by decide) (by decide) i v
theorem cw_actKind (M : Mem) (h : Nat) (f : Nat → Int32) : core (wI M 1089367 (h + 38) f) h = wcI (core M h) 53 f := core_wI (k := 53) (by decide) (by decide) f
theorem co_actValue (M : Mem) (h i : Nat) : kL (core M h) 54 i = mL M 2089375 (h + 39) i := rfl
theorem cu_actValue (M : Mem) (h i : Nat) (v : Int64) : core (sL M 2089375 (h + 39) i v) h = uL (core M h) 54 i v := core_sL (k := 54) (by decide) (by decide) i v
theorem cw_actValue (M : Mem) (h : Nat) (f : Nat → Int64) : core (wL M 2089375 (h + 39) f) h = wcL (core M h) 54 f := core_wL (k := 54) (by decide) (by decide) f
theorem cx_2000016 (M : Mem) (h a i : Nat) (v : Int64) : core (sL M 2000016 a i v) h = core M h := core_nL (ne_rk rfl)
theorem cxw_2000016 (M : Mem) (h a : Nat) (f : Nat → Int64) : core (wL M 2000016 a f) h = core M h := core_nwL (ne_rk rfl)
theorem cx_2 (M : Mem) (h a i : Nat) (v : Int32) : core (sI M 2 a i v) h = core M h := core_nI (ne_rk rfl)
theorem cx_3 (M : Mem) (h a i : Nat) (v : Int32) : core (sI M 3 a i v) h = core M h := core_nI (ne_rk rfl)
theorem cx_100 (M : Mem) (h a i : Nat) (v : Int32) : core (sI M 100 a i v) h = core M h := core_nI (ne_rk rfl)
theorem cx_101 (M : Mem) (h a i : Nat) (v : Int32) : core (sI M 101 a i v) h = core M h := core_nI (ne_rk rfl)
theorem cx_102 (M : Mem) (h a i : Nat) (v : Int64) : core (sL M 102 a i v) h = core M h := core_nL (ne_rk rfl)
theorem cx_103 (M : Mem) (h a i : Nat) (v : Int64) : core (sL M 103 a i v) h = core M h := core_nL (ne_rk rfl)
theorem cx_104 (M : Mem) (h a i : Nat) (v : Int32) : core (sI M 104 a i v) h = core M h := core_nI (ne_rk rfl)
theorem cx_3006025 (M : Mem) (h a i : Nat) (v : Int32) : core (sI M 3006025 a i v) h = core M h := core_nI (ne_rk rfl)
theorem cxw_3006025 (M : Mem) (h a : Nat) (f : Nat → Int32) : core (wI M 3006025 a f) h = core M h := core_nwI (ne_rk rfl)
theorem cx_203 (M : Mem) (h a i : Nat) (v : Int32) : core (sI M 203 a i v) h = core M h := core_nI (ne_rk rfl)
theorem cx_204 (M : Mem) (h a i : Nat) (v : Int32) : core (sI M 204 a i v) h = core M h := core_nI (ne_rk rfl)
theorem cx_205 (M : Mem) (h a i : Nat) (v : Int32) : core (sI M 205 a i v) h = core M h := core_nI (ne_rk rfl)
theorem cx_206 (M : Mem) (h a i : Nat) (v : Int32) : core (sI M 206 a i v) h = core M h := core_nI (ne_rk rfl)
theorem cx_300 (M : Mem) (h a i : Nat) (v : Int32) : core (sI M 300 a i v) h = core M h := core_nI (ne_rk rfl)
theorem cx_301 (M : Mem) (h a i : Nat) (v : Int32) : core (sI M 301 a i v) h = core M h := core_nI (ne_rk rfl)
theorem cx_302 (M : Mem) (h a i : Nat) (v : Int64) : core (sL M 302 a i v) h = core M h := core_nL (ne_rk rfl)
theorem cx_303 (M : Mem) (h a i : Nat) (v : Int64) : core (sL M 303 a i v) h = core M h := core_nL (ne_rk rfl)
theorem cx_401 (M : Mem) (h a i : Nat) (v : Int32) : core (sI M 401 a i v) h = core M h := core_nI (ne_rk rfl)
theorem cx_500 (M : Mem) (h a i : Nat) (v : Int32) : core (sI M 500 a i v) h = core M h := core_nI (ne_rk rfl)
theorem cx_502 (M : Mem) (h a i : Nat) (v : Int32) : core (sI M 502 a i v) h = core M h := core_nI (ne_rk rfl)
theorem cx_503 (M : Mem) (h a i : Nat) (v : Int32) : core (sI M 503 a i v) h = core M h := core_nI (ne_rk rfl)
theorem cx_504 (M : Mem) (h a i : Nat) (v : Int32) : core (sI M 504 a i v) h = core M h := core_nI (ne_rk rfl)
theorem cx_506 (M : Mem) (h a i : Nat) (v : Int64) : core (sL M 506 a i v) h = core M h := core_nL (ne_rk rfl)
theorem cx_507 (M : Mem) (h a i : Nat) (v : Int64) : core (sL M 507 a i v) h = core M h := core_nL (ne_rk rfl)
theorem cx_508 (M : Mem) (h a i : Nat) (v : Int32) : core (sI M 508 a i v) h = core M h := core_nI (ne_rk rfl)
theorem cx_509 (M : Mem) (h a i : Nat) (v : Int32) : core (sI M 509 a i v) h = core M h := core_nI (ne_rk rfl)
theorem cx_510 (M : Mem) (h a i : Nat) (v : Int32) : core (sI M 510 a i v) h = core M h := core_nI (ne_rk rfl)
theorem cx_511 (M : Mem) (h a i : Nat) (v : Int32) : core (sI M 511 a i v) h = core M h := core_nI (ne_rk rfl)
theorem cx_1029007 (M : Mem) (h a i : Nat) (v : Int32) : core (sI M 1029007 a i v) h = core M h := core_nI (ne_rk rfl)
theorem cxw_1029007 (M : Mem) (h a : Nat) (f : Nat → Int32) : core (wI M 1029007 a f) h = core M h := core_nwI (ne_rk rfl)
theorem cx_1029015 (M : Mem) (h a i : Nat) (v : Int32) : core (sI M 1029015 a i v) h = core M h := core_nI (ne_rk rfl)
theorem cxw_1029015 (M : Mem) (h a : Nat) (f : Nat → Int32) : core (wI M 1029015 a f) h = core M h := core_nwI (ne_rk rfl)
theorem cx_602 (M : Mem) (h a i : Nat) (v : Int32) : core (sI M 602 a i v) h = core M h := core_nI (ne_rk rfl)
theorem cx_2032007 (M : Mem) (h a i : Nat) (v : Int64) : core (sL M 2032007 a i v) h = core M h := core_nL (ne_rk rfl)
theorem cxw_2032007 (M : Mem) (h a : Nat) (f : Nat → Int64) : core (wL M 2032007 a f) h = core M h := core_nwL (ne_rk rfl)
theorem cx_1032015 (M : Mem) (h a i : Nat) (v : Int32) : core (sI M 1032015 a i v) h = core M h := core_nI (ne_rk rfl)
theorem cxw_1032015 (M : Mem) (h a : Nat) (f : Nat → Int32) : core (wI M 1032015 a f) h = core M h := core_nwI (ne_rk rfl)
theorem cx_1032023 (M : Mem) (h a i : Nat) (v : Int32) : core (sI M 1032023 a i v) h = core M h := core_nI (ne_rk rfl)
theorem cxw_1032023 (M : Mem) (h a : Nat) (f : Nat → Int32) : core (wI M 1032023 a f) h = core M h := core_nwI (ne_rk rfl)
theorem cx_1032031 (M : Mem) (h a i : Nat) (v : Int32) : core (sI M 1032031 a i v) h = core M h := core_nI (ne_rk rfl)
theorem cxw_1032031 (M : Mem) (h a : Nat) (f : Nat → Int32) : core (wI M 1032031 a f) h = core M h := core_nwI (ne_rk rfl)
theorem cx_704 (M : Mem) (h a i : Nat) (v : Int32) : core (sI M 704 a i v) h = core M h := core_nI (ne_rk rfl)
theorem cx_705 (M : Mem) (h a i : Nat) (v : Int32) : core (sI M 705 a i v) h = core M h := core_nI (ne_rk rfl)
theorem cx_706 (M : Mem) (h a i : Nat) (v : Int32) : core (sI M 706 a i v) h = core M h := core_nI (ne_rk rfl)
theorem cx_707 (M : Mem) (h a i : Nat) (v : Int32) : core (sI M 707 a i v) h = core M h := core_nI (ne_rk rfl)
theorem cx_708 (M : Mem) (h a i : Nat) (v : Int32) : core (sI M 708 a i v) h = core M h := core_nI (ne_rk rfl)
theorem cx_709 (M : Mem) (h a i : Nat) (v : Int32) : core (sI M 709 a i v) h = core M h := core_nI (ne_rk rfl)
theorem cx_710 (M : Mem) (h a i : Nat) (v : Int32) : core (sI M 710 a i v) h = core M h := core_nI (ne_rk rfl)
theorem cx_711 (M : Mem) (h a i : Nat) (v : Int64) : core (sL M 711 a i v) h = core M h := core_nL (ne_rk rfl)
theorem cx_2050007 (M : Mem) (h a i : Nat) (v : Int64) : core (sL M 2050007 a i v) h = core M h := core_nL (ne_rk rfl)
theorem cxw_2050007 (M : Mem) (h a : Nat) (f : Nat → Int64) : core (wL M 2050007 a f) h = core M h := core_nwL (ne_rk rfl)
theorem cx_901 (M : Mem) (h a i : Nat) (v : Int32) : core (sI M 901 a i v) h = core M h := core_nI (ne_rk rfl)
theorem cx_902 (M : Mem) (h a i : Nat) (v : Int32) : core (sI M 902 a i v) h = core M h := core_nI (ne_rk rfl)
theorem cx_2056016 (M : Mem) (h a i : Nat) (v : Int64) : core (sL M 2056016 a i v) h = core M h := core_nL (ne_rk rfl)
theorem cxw_2056016 (M : Mem) (h a : Nat) (f : Nat → Int64) : core (wL M 2056016 a f) h = core M h := core_nwL (ne_rk rfl)
theorem cx_1002 (M : Mem) (h a i : Nat) (v : Int32) : core (sI M 1002 a i v) h = core M h := core_nI (ne_rk rfl)
theorem cx_1003 (M : Mem) (h a i : Nat) (v : Int32) : core (sI M 1003 a i v) h = core M h := core_nI (ne_rk rfl)

/-- one small step of the reference -/
def Gst (b : Int32) (c c' : Core) : Prop := (∃ dd, (kI c 25 0) = nI (dd + 1) ∧ dd < 12) ∧ ∀ (D : DD) (d : Nat) (M : Mem) (h : Nat), RM M h → core M h = c → Call D (d + 10) mi_X12_goOn [.ref h, .int b] M (fun M1 r => r = none ∧ core M1 h = c' ∧ Fr M M1)
def GsN (b : Int32) : Nat → Core → Core → Prop
  | 0, c, c' => c = c'
  | n + 1, c, c' => ∃ c1, Gst b c c1 ∧ GsN b n c1 c'
def Gs (b : Int32) (c c' : Core) : Prop := ∃ n, GsN b n c c'
theorem Gs.rf {b : Int32} {c : Core} : Gs b c c := ⟨0, rfl⟩
theorem GsN.tr {b : Int32} {c' c'' : Core} {m : Nat} (h2 : GsN b m c' c'') : ∀ {n : Nat} {c : Core}, GsN b n c c' → GsN b (n + m) c c'' := by
  intro n
  induction n with
  | zero => intro c h; cases h; rw [Nat.zero_add]; exact h2
  | succ n ih =>
    intro c h
    obtain ⟨c1, g1, g2⟩ := h
    rw [show n + 1 + m = n + m + 1 by omega]
    exact ⟨c1, g1, ih g2⟩
theorem Gs.tr {b : Int32} {c c' c'' : Core} (h : Gs b c c') (h2 : Gs b c' c'') : Gs b c c'' := by
  obtain ⟨n, h⟩ := h
  obtain ⟨m, h2⟩ := h2
  exact ⟨n + m, GsN.tr h2 h⟩
theorem Gs.one {b : Int32} {c c' : Core} (h : Gst b c c') : Gs b c c' := ⟨1, c', h, rfl⟩
theorem Gs.cons {b : Int32} {c c' c'' : Core} (h : Gst b c c') (h2 : Gs b c' c'') : Gs b c c'' := (Gs.one h).tr h2
theorem RM.fr {M M1 : Mem} {h : Nat} (H : RM M h) (f : Fr M M1) : RM M1 h := RM_of f.1 f.2.1 f.2.2.1 H
