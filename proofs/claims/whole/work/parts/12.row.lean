/-! A whole row of the memory as a function -/
def wI (M : Mem) (k a : Nat) (f : Nat → Int32) : Mem := (M.1, M.2.1, fun k' a' i' => if k' = k ∧ a' = a then f i' else M.2.2.1 k' a' i', M.2.2.2.1, M.2.2.2.2.1, M.2.2.2.2.2.1, M.2.2.2.2.2.2)
def wL (M : Mem) (k a : Nat) (f : Nat → Int64) : Mem := (M.1, M.2.1, M.2.2.1, fun k' a' i' => if k' = k ∧ a' = a then f i' else M.2.2.2.1 k' a' i', M.2.2.2.2.1, M.2.2.2.2.2.1, M.2.2.2.2.2.2)
theorem mK_wI (M : Mem) (k a : Nat) (f : Nat → Int32) : mK (wI M k a f) = mK M := rfl
theorem mN_wI (M : Mem) (k a : Nat) (f : Nat → Int32) : mN (wI M k a f) = mN M := rfl
theorem mL_wI (M : Mem) (k a : Nat) (f : Nat → Int32) : mL (wI M k a f) = mL M := rfl
theorem mR_wI (M : Mem) (k a : Nat) (f : Nat → Int32) : mR (wI M k a f) = mR M := rfl
theorem mS_wI (M : Mem) (k a : Nat) (f : Nat → Int32) : mS (wI M k a f) = mS M := rfl
theorem mU_wI (M : Mem) (k a : Nat) (f : Nat → Int32) : mU (wI M k a f) = mU M := rfl
theorem mI_wI (M : Mem) (k a : Nat) (f : Nat → Int32) (k' a' i' : Nat) : mI (wI M k a f) k' a' i' = if k' = k ∧ a' = a then f i' else mI M k' a' i' := rfl
theorem mK_wL (M : Mem) (k a : Nat) (f : Nat → Int64) : mK (wL M k a f) = mK M := rfl
theorem mN_wL (M : Mem) (k a : Nat) (f : Nat → Int64) : mN (wL M k a f) = mN M := rfl
theorem mI_wL (M : Mem) (k a : Nat) (f : Nat → Int64) : mI (wL M k a f) = mI M := rfl
theorem mR_wL (M : Mem) (k a : Nat) (f : Nat → Int64) : mR (wL M k a f) = mR M := rfl
theorem mS_wL (M : Mem) (k a : Nat) (f : Nat → Int64) : mS (wL M k a f) = mS M := rfl
theorem mU_wL (M : Mem) (k a : Nat) (f : Nat → Int64) : mU (wL M k a f) = mU M := rfl
theorem mL_wL (M : Mem) (k a : Nat) (f : Nat → Int64) (k' a' i' : Nat) : mL (wL M k a f) k' a' i' = if k' = k ∧ a' = a then f i' else mL M k' a' i' := rfl
theorem RM.wI {M : Mem} {h k a : Nat} {f : Nat → Int32} (H : RM M h) : RM (wI M k a f) h := H
theorem RM.wL {M : Mem} {h k a : Nat} {f : Nat → Int64} (H : RM M h) : RM (wL M k a f) h := H
theorem Mem_ext {M M' : Mem} (h1 : mK M = mK M') (h2 : mN M = mN M') (h3 : mI M = mI M') (h4 : mL M = mL M') (h5 : mR M = mR M') (h6 : mS M = mS M') (h7 : mU M = mU M') : M = M' :=
  Prod.ext h1 (Prod.ext h2 (Prod.ext h3 (Prod.ext h4 (Prod.ext h5 (Prod.ext h6 h7)))))
theorem sI_wI (M : Mem) (k a : Nat) (f : Nat → Int32) (i : Nat) (v : Int32) : sI (wI M k a f) k a i v = wI M k a (fun j => if j = i then v else f j) := by
  refine Mem_ext rfl rfl ?_ rfl rfl rfl rfl
  funext k' a' i'
  simp only [mI_sI, mI_wI]
  by_cases e1 : k' = k <;> by_cases e2 : a' = a <;> by_cases e3 : i' = i <;> simp [e1, e2, e3]
theorem sL_wL (M : Mem) (k a : Nat) (f : Nat → Int64) (i : Nat) (v : Int64) : sL (wL M k a f) k a i v = wL M k a (fun j => if j = i then v else f j) := by
  refine Mem_ext rfl rfl rfl ?_ rfl rfl rfl
  funext k' a' i'
  simp only [mL_sL, mL_wL]
  by_cases e1 : k' = k <;> by_cases e2 : a' = a <;> by_cases e3 : i' = i <;> simp [e1, e2, e3]
theorem wI_id (M : Mem) (k a : Nat) : wI M k a (mI M k a) = M := by
  refine Mem_ext rfl rfl ?_ rfl rfl rfl rfl
  funext k' a' i'
  rw [mI_wI]
  split
  · rename_i e; rw [e.1, e.2]
  · rfl
theorem wL_id (M : Mem) (k a : Nat) : wL M k a (mL M k a) = M := by
  refine Mem_ext rfl rfl rfl ?_ rfl rfl rfl
  funext k' a' i'
  rw [mL_wL]
  split
  · rename_i e; rw [e.1, e.2]
  · rfl
theorem sI_w (M : Mem) (k a i : Nat) (v : Int32) : sI M k a i v = wI M k a (fun j => if j = i then v else mI M k a j) := by
  conv => lhs; rw [← wI_id M k a]
  exact sI_wI M k a _ i v
theorem sL_w (M : Mem) (k a i : Nat) (v : Int64) : sL M k a i v = wL M k a (fun j => if j = i then v else mL M k a j) := by
  conv => lhs; rw [← wL_id M k a]
  exact sL_wL M k a _ i v
