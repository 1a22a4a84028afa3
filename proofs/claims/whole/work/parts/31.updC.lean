/-! Writes: scenes, steps, cells -/
theorem inN_mono {v : Int32} {n m : Nat} (h : inN v n) (hm : n ≤ m) : inN v m := ⟨h.1, by have := h.2; omega⟩
theorem LI_ns {M : Mem} {x : Nat} {c : Core} {nk : Nat} {ka : Nat → Nat} {ns ns' a l : Nat} (hn : ns ≤ ns') (I : LI M x c nk ka ns a l) : LI M x c nk ka ns' a l := by
  unfold LI at I ⊢
  obtain ⟨i1, i2, i3, i4, i5, i6, i7, i8, i9⟩ := I
  exact ⟨i1, i2, i3, i4, i5, i6, i7, i8.elim Or.inl (fun q => Or.inr (inN_mono q hn)), i9⟩
theorem RLs_ns {M : Mem} {x : Nat} {c : Core} {nk : Nat} {ka : Nat → Nat} {ns ns' nl : Nat} {la : Nat → Nat} (hn : ns ≤ ns') (L : RLs M x c nk ka ns nl la) : RLs M x c nk ka ns' nl la := ⟨L.1, L.2.1, L.2.2.1, fun l hl => LI_ns hn (rl_i L l hl)⟩
theorem RS_open {M M' : Mem} {x : Nat} {c : Core} {ns nl : Nat} (C : RS M x c ns nl) (hn : ns < 30) (h1 : (mI M' 205 (x + 4) 0) = nI (ns + 1)) (h2 : ∀ s, (mI M' 3006025 (x + 7) (s)) = if s = ns then 1 else (mI M 3006025 (x + 7) (s))) (h3 : (mI M' 206 (x + 4) 0) = (mI M 206 (x + 4) 0) + 1) (h4 : (mI M' 204 (x + 4) 0) = (mI M 204 (x + 4) 0)) : RS M' x (uI (uI c 4 ns 1) 3 0 (nI (ns + 1))) (ns + 1) nl := by
  have g3 := rs_open C
  have g4 := rs_cnt C
  have g5 := rs_there C
  refine ⟨by omega, h1, by rw [kI_uI, if_pos ⟨rfl, rfl⟩], fun s hs => ?_, ?_, ?_⟩
  · simp only [h2, kI_uI, Nat.reduceEqDiff, false_and, if_false, true_and]
    by_cases e : s = ns
    · simp only [e, if_true]; exact ⟨trivial, Or.inr trivial⟩
    · simp only [e, if_false]; exact g3 s (by omega)
  · rw [h3, g4, ← nI_succ, cnt, if_neg (by simp only [kI_uI, Nat.reduceEqDiff, false_and, if_false, true_and, if_true]; decide)]
    rw [cnt_same (f := fun s => kI c 4 s) (g := fun s => kI (uI (uI c 4 ns 1) 3 0 (nI (ns + 1))) 4 s) ns (fun i hi => by simp only [kI_uI, Nat.reduceEqDiff, false_and, if_false, true_and, if_neg (show ¬ i = ns by omega)])]
  · simp only [h4, kI_uI, Nat.reduceEqDiff, false_and, if_false]; exact g5
/-- a step is added -/
theorem LI_w_step {M : Mem} {x : Nat} {c : Core} {nk : Nat} {ka : Nat → Nat} {ns a l sm o : Nat} {n : Int32} (I : LI M x c nk ka ns a l) (hs : (mI M 602 (a + 1) 0) = nI sm) (hsm : sm < 10) (ho : o < 18) (h3 : o = 3 → ∃ n', 20 ≤ n' ∧ n' ≤ 29 ∧ n = nI n') :
    LI (sI (sI (sI M 1029007 (a + 2) sm (nI o)) 1029015 (a + 3) sm n) 602 (a + 1) 0 (nI (sm + 1))) x (uI (uI (uI c 15 (10 * l + sm) (nI o)) 16 (10 * l + sm) n) 14 l (nI (sm + 1))) nk ka ns a l := by
  obtain ⟨sm', t1, t2, t3, t4⟩ := li_size I
  have e : sm' = sm := (nI_eq (by omega) (by omega)).mp (by rw [← t2, hs])
  subst e
  simp only [LI, mK_sI, mN_sI, mI_sI, mL_sI, mR_sI, kI_uI, kL_uI, Nat.reduceEqDiff, false_and, if_false, true_and, and_self, if_true]
  refine ⟨li_at I, li_k I, li_num I, li_kind I, li_phase I, li_rank I, li_scene I, li_sc I, li_low I, li_high I, li_once I, li_on I, li_there I, li_th I, li_told I, li_tray I, li_prog I, li_pk I, li_ops I, li_ok I, li_on10 I, li_nums I, li_nk I, li_nn10 I, sm' + 1, by omega, rfl, rfl, fun j hj => ?_⟩
  by_cases e : j = sm'
  · subst e
    simp only [if_true]
    exact ⟨trivial, trivial, o, ho, rfl, h3⟩
  · have e2 : ¬ 10 * l + j = 10 * l + sm' := by omega
    simp only [e, e2, if_false]
    exact t4 j (by omega)
theorem LI_n_step {M : Mem} {x : Nat} {c : Core} {nk : Nat} {ka : Nat → Nat} {ns a l b j sm : Nat} {v n w : Int32} (hab : ¬ a = b) (hl : ¬ l = j) (hsm : sm < 10) (I : LI M x c nk ka ns a l) :
    LI (sI (sI (sI M 1029007 (b + 2) sm v) 1029015 (b + 3) sm n) 602 (b + 1) 0 w) x (uI (uI (uI c 15 (10 * j + sm) v) 16 (10 * j + sm) n) 14 j w) nk ka ns a l := by
  obtain ⟨sm', t1, t2, t3, t4⟩ := li_size I
  have e1 : ¬ a + 1 = b + 1 := by omega
  have e2 : ¬ a + 2 = b + 2 := by omega
  have e3 : ¬ a + 3 = b + 3 := by omega
  simp only [LI, mK_sI, mN_sI, mI_sI, mL_sI, mR_sI, kI_uI, kL_uI, Nat.reduceEqDiff, false_and, if_false, true_and, and_self, if_true, e1, e2, e3, hl]
  refine ⟨li_at I, li_k I, li_num I, li_kind I, li_phase I, li_rank I, li_scene I, li_sc I, li_low I, li_high I, li_once I, li_on I, li_there I, li_th I, li_told I, li_tray I, li_prog I, li_pk I, li_ops I, li_ok I, li_on10 I, li_nums I, li_nk I, li_nn10 I, sm', t1, t2, t3, fun i hi => ?_⟩
  have e4 : ¬ 10 * l + i = 10 * j + sm := by omega
  simp only [e4, if_false]
  exact t4 i hi
theorem RLs_w_step {M : Mem} {x : Nat} {c : Core} {nk : Nat} {ka : Nat → Nat} {ns nl : Nat} {la : Nat → Nat} {j sm o : Nat} {n : Int32} (L : RLs M x c nk ka ns nl la) (hj : j < nl) (hs : (mI M 602 (la j + 1) 0) = nI sm) (hsm : sm < 10) (ho : o < 18) (h3 : o = 3 → ∃ n', 20 ≤ n' ∧ n' ≤ 29 ∧ n = nI n') :
    RLs (sI (sI (sI M 1029007 (la j + 2) sm (nI o)) 1029015 (la j + 3) sm n) 602 (la j + 1) 0 (nI (sm + 1))) x (uI (uI (uI c 15 (10 * j + sm) (nI o)) 16 (10 * j + sm) n) 14 j (nI (sm + 1))) nk ka ns nl la := by
  have g1 := rl_come L
  have g2 := rl_c L
  refine ⟨rl_le L, by simp only [mI_sI, Nat.reduceEqDiff, false_and, if_false]; exact g1, by simp only [kI_uI, Nat.reduceEqDiff, false_and, if_false]; exact g2, fun l hl => ?_⟩
  by_cases e : l = j
  · subst e; exact LI_w_step (rl_i L l hl) hs hsm ho h3
  · exact LI_n_step (by rw [la_inj L hl hj]; exact e) e hsm (rl_i L l hl)
/-- a cell is laid -/
theorem RT_lay {M : Mem} {x : Nat} {c : Core} {t i sz : Nat} {v : Int64} (T : RT M x c) (ht : t < 8) (hs : (mI M 902 (x + 21 + 2 * t) 0) = nI sz) (hsz : sz ≤ 16) (hi : i < sz) : RT (sL M 2050007 (x + 22 + 2 * t) i v) x (uL c 21 (16 * t + i) v) := by
  intro t' ht'
  have I := T t' ht'
  obtain ⟨n, n1, n2, n3, n4⟩ := ti_size I
  simp only [TI, mI_sL, mL_sL, kI_uL, kL_uL, true_and]
  refine ⟨ti_lane I, n, n1, n2, n3, fun i' hi' => ?_⟩
  by_cases e : t' = t
  · subst e
    by_cases e2 : i' = i
    · subst e2; simp only [and_self, if_true]
    · have e3 : ¬ 16 * t' + i' = 16 * t' + i := by omega
      simp only [e2, e3, and_false, if_false]; exact n4 i' hi'
  · have e3 : ¬ 16 * t' + i' = 16 * t + i := by omega
    have e4 : ¬ x + 22 + 2 * t' = x + 22 + 2 * t := by omega
    simp only [e3, e4, false_and, if_false]; exact n4 i' hi'
