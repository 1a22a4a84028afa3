/-! What a write to a listener makes of the relation -/
theorem LI_w_low {M : Mem} {x : Nat} {c : Core} {nk : Nat} {ka : Nat → Nat} {ns a l : Nat} {v : Int64} (I : LI M x c nk ka ns a l) : LI (sL M 506 a 0 v) x (uL c 10 l v) nk ka ns a l := by
  simp only [LI, mK_sL, mN_sL, mI_sL, mL_sL, mR_sL, kI_uL, kL_uL, Nat.reduceEqDiff, false_and, if_false, true_and, and_self, if_true, ↓reduceIte]
  exact ⟨li_at I, li_k I, li_num I, li_kind I, li_phase I, li_rank I, li_scene I, li_sc I, li_high I, li_once I, li_on I, li_there I, li_th I, li_told I, li_tray I, li_prog I, li_pk I, li_ops I, li_ok I, li_on10 I, li_nums I, li_nk I, li_nn10 I, li_size I⟩
theorem LI_n_low {M : Mem} {x : Nat} {c : Core} {nk : Nat} {ka : Nat → Nat} {ns a l : Nat} {v : Int64} {b l2 : Nat} (h1 : ¬ a = b) (h2 : ¬ l = l2) : LI (sL M 506 b 0 v) x (uL c 10 l2 v) nk ka ns a l = LI M x c nk ka ns a l := by
  simp only [LI, mK_sL, mN_sL, mI_sL, mL_sL, mR_sL, kI_uL, kL_uL, Nat.reduceEqDiff, false_and, if_false, true_and, and_self, if_true, ↓reduceIte, h1, h2, and_false]
theorem RLs_w_low {M : Mem} {x : Nat} {c : Core} {nk : Nat} {ka : Nat → Nat} {ns nl : Nat} {la : Nat → Nat} {j : Nat} {v : Int64} (L : RLs M x c nk ka ns nl la) (hj : j < nl) : RLs (sL M 506 (la j) 0 v) x (uL c 10 j v) nk ka ns nl la := by
  have g1 := rl_come L
  have g2 := rl_c L
  refine ⟨rl_le L, by simp only [mK_sL, mN_sL, mI_sL, mL_sL, mR_sL, kI_uL, kL_uL, Nat.reduceEqDiff, false_and, if_false, true_and, and_self, if_true, ↓reduceIte]; exact g1, by simp only [mK_sL, mN_sL, mI_sL, mL_sL, mR_sL, kI_uL, kL_uL, Nat.reduceEqDiff, false_and, if_false, true_and, and_self, if_true, ↓reduceIte]; exact g2, fun l hl => ?_⟩
  by_cases e : l = j
  · subst e; exact LI_w_low (rl_i L l hl)
  · rw [LI_n_low (by rw [la_inj L hl hj]; exact e) e]; exact rl_i L l hl
theorem LI_w_high {M : Mem} {x : Nat} {c : Core} {nk : Nat} {ka : Nat → Nat} {ns a l : Nat} {v : Int64} (I : LI M x c nk ka ns a l) : LI (sL M 507 a 0 v) x (uL c 11 l v) nk ka ns a l := by
  simp only [LI, mK_sL, mN_sL, mI_sL, mL_sL, mR_sL, kI_uL, kL_uL, Nat.reduceEqDiff, false_and, if_false, true_and, and_self, if_true, ↓reduceIte]
  exact ⟨li_at I, li_k I, li_num I, li_kind I, li_phase I, li_rank I, li_scene I, li_sc I, li_low I, li_once I, li_on I, li_there I, li_th I, li_told I, li_tray I, li_prog I, li_pk I, li_ops I, li_ok I, li_on10 I, li_nums I, li_nk I, li_nn10 I, li_size I⟩
theorem LI_n_high {M : Mem} {x : Nat} {c : Core} {nk : Nat} {ka : Nat → Nat} {ns a l : Nat} {v : Int64} {b l2 : Nat} (h1 : ¬ a = b) (h2 : ¬ l = l2) : LI (sL M 507 b 0 v) x (uL c 11 l2 v) nk ka ns a l = LI M x c nk ka ns a l := by
  simp only [LI, mK_sL, mN_sL, mI_sL, mL_sL, mR_sL, kI_uL, kL_uL, Nat.reduceEqDiff, false_and, if_false, true_and, and_self, if_true, ↓reduceIte, h1, h2, and_false]
theorem RLs_w_high {M : Mem} {x : Nat} {c : Core} {nk : Nat} {ka : Nat → Nat} {ns nl : Nat} {la : Nat → Nat} {j : Nat} {v : Int64} (L : RLs M x c nk ka ns nl la) (hj : j < nl) : RLs (sL M 507 (la j) 0 v) x (uL c 11 j v) nk ka ns nl la := by
  have g1 := rl_come L
  have g2 := rl_c L
  refine ⟨rl_le L, by simp only [mK_sL, mN_sL, mI_sL, mL_sL, mR_sL, kI_uL, kL_uL, Nat.reduceEqDiff, false_and, if_false, true_and, and_self, if_true, ↓reduceIte]; exact g1, by simp only [mK_sL, mN_sL, mI_sL, mL_sL, mR_sL, kI_uL, kL_uL, Nat.reduceEqDiff, false_and, if_false, true_and, and_self, if_true, ↓reduceIte]; exact g2, fun l hl => ?_⟩
  by_cases e : l = j
  · subst e; exact LI_w_high (rl_i L l hl)
  · rw [LI_n_high (by rw [la_inj L hl hj]; exact e) e]; exact rl_i L l hl
theorem LI_w_once {M : Mem} {x : Nat} {c : Core} {nk : Nat} {ka : Nat → Nat} {ns a l : Nat} {v : Int32} (hv : v = 0 ∨ v = 1) (I : LI M x c nk ka ns a l) : LI (sI M 508 a 0 v) x (uI c 12 l v) nk ka ns a l := by
  simp only [LI, mK_sI, mN_sI, mI_sI, mL_sI, mR_sI, kI_uI, kL_uI, Nat.reduceEqDiff, false_and, if_false, true_and, and_self, if_true, ↓reduceIte]
  exact ⟨li_at I, li_k I, li_num I, li_kind I, li_phase I, li_rank I, li_scene I, li_sc I, li_low I, li_high I, hv, li_there I, li_th I, li_told I, li_tray I, li_prog I, li_pk I, li_ops I, li_ok I, li_on10 I, li_nums I, li_nk I, li_nn10 I, li_size I⟩
theorem LI_n_once {M : Mem} {x : Nat} {c : Core} {nk : Nat} {ka : Nat → Nat} {ns a l : Nat} {v : Int32} {b l2 : Nat} (h1 : ¬ a = b) (h2 : ¬ l = l2) : LI (sI M 508 b 0 v) x (uI c 12 l2 v) nk ka ns a l = LI M x c nk ka ns a l := by
  simp only [LI, mK_sI, mN_sI, mI_sI, mL_sI, mR_sI, kI_uI, kL_uI, Nat.reduceEqDiff, false_and, if_false, true_and, and_self, if_true, ↓reduceIte, h1, h2, and_false]
theorem RLs_w_once {M : Mem} {x : Nat} {c : Core} {nk : Nat} {ka : Nat → Nat} {ns nl : Nat} {la : Nat → Nat} {j : Nat} {v : Int32} (hv : v = 0 ∨ v = 1) (L : RLs M x c nk ka ns nl la) (hj : j < nl) : RLs (sI M 508 (la j) 0 v) x (uI c 12 j v) nk ka ns nl la := by
  have g1 := rl_come L
  have g2 := rl_c L
  refine ⟨rl_le L, by simp only [mK_sI, mN_sI, mI_sI, mL_sI, mR_sI, kI_uI, kL_uI, Nat.reduceEqDiff, false_and, if_false, true_and, and_self, if_true, ↓reduceIte]; exact g1, by simp only [mK_sI, mN_sI, mI_sI, mL_sI, mR_sI, kI_uI, kL_uI, Nat.reduceEqDiff, false_and, if_false, true_and, and_self, if_true, ↓reduceIte]; exact g2, fun l hl => ?_⟩
  by_cases e : l = j
  · subst e; exact LI_w_once hv (rl_i L l hl)
  · rw [LI_n_once (by rw [la_inj L hl hj]; exact e) e]; exact rl_i L l hl
theorem LI_w_there {M : Mem} {x : Nat} {c : Core} {nk : Nat} {ka : Nat → Nat} {ns a l : Nat} {v : Int32} (hv : v = 0 ∨ v = 1) (I : LI M x c nk ka ns a l) : LI (sI M 509 a 0 v) x (uI c 13 l v) nk ka ns a l := by
  simp only [LI, mK_sI, mN_sI, mI_sI, mL_sI, mR_sI, kI_uI, kL_uI, Nat.reduceEqDiff, false_and, if_false, true_and, and_self, if_true, ↓reduceIte]
  exact ⟨li_at I, li_k I, li_num I, li_kind I, li_phase I, li_rank I, li_scene I, li_sc I, li_low I, li_high I, li_once I, li_on I, hv, li_told I, li_tray I, li_prog I, li_pk I, li_ops I, li_ok I, li_on10 I, li_nums I, li_nk I, li_nn10 I, li_size I⟩
theorem LI_n_there {M : Mem} {x : Nat} {c : Core} {nk : Nat} {ka : Nat → Nat} {ns a l : Nat} {v : Int32} {b l2 : Nat} (h1 : ¬ a = b) (h2 : ¬ l = l2) : LI (sI M 509 b 0 v) x (uI c 13 l2 v) nk ka ns a l = LI M x c nk ka ns a l := by
  simp only [LI, mK_sI, mN_sI, mI_sI, mL_sI, mR_sI, kI_uI, kL_uI, Nat.reduceEqDiff, false_and, if_false, true_and, and_self, if_true, ↓reduceIte, h1, h2, and_false]
theorem RLs_w_there {M : Mem} {x : Nat} {c : Core} {nk : Nat} {ka : Nat → Nat} {ns nl : Nat} {la : Nat → Nat} {j : Nat} {v : Int32} (hv : v = 0 ∨ v = 1) (L : RLs M x c nk ka ns nl la) (hj : j < nl) : RLs (sI M 509 (la j) 0 v) x (uI c 13 j v) nk ka ns nl la := by
  have g1 := rl_come L
  have g2 := rl_c L
  refine ⟨rl_le L, by simp only [mK_sI, mN_sI, mI_sI, mL_sI, mR_sI, kI_uI, kL_uI, Nat.reduceEqDiff, false_and, if_false, true_and, and_self, if_true, ↓reduceIte]; exact g1, by simp only [mK_sI, mN_sI, mI_sI, mL_sI, mR_sI, kI_uI, kL_uI, Nat.reduceEqDiff, false_and, if_false, true_and, and_self, if_true, ↓reduceIte]; exact g2, fun l hl => ?_⟩
  by_cases e : l = j
  · subst e; exact LI_w_there hv (rl_i L l hl)
  · rw [LI_n_there (by rw [la_inj L hl hj]; exact e) e]; exact rl_i L l hl
theorem LI_w_told {M : Mem} {x : Nat} {c : Core} {nk : Nat} {ka : Nat → Nat} {ns a l : Nat} {v : Int32} (I : LI M x c nk ka ns a l) : LI (sI M 510 a 0 v) x (uI c 17 l v) nk ka ns a l := by
  simp only [LI, mK_sI, mN_sI, mI_sI, mL_sI, mR_sI, kI_uI, kL_uI, Nat.reduceEqDiff, false_and, if_false, true_and, and_self, if_true, ↓reduceIte]
  exact ⟨li_at I, li_k I, li_num I, li_kind I, li_phase I, li_rank I, li_scene I, li_sc I, li_low I, li_high I, li_once I, li_on I, li_there I, li_th I, li_tray I, li_prog I, li_pk I, li_ops I, li_ok I, li_on10 I, li_nums I, li_nk I, li_nn10 I, li_size I⟩
theorem LI_n_told {M : Mem} {x : Nat} {c : Core} {nk : Nat} {ka : Nat → Nat} {ns a l : Nat} {v : Int32} {b l2 : Nat} (h1 : ¬ a = b) (h2 : ¬ l = l2) : LI (sI M 510 b 0 v) x (uI c 17 l2 v) nk ka ns a l = LI M x c nk ka ns a l := by
  simp only [LI, mK_sI, mN_sI, mI_sI, mL_sI, mR_sI, kI_uI, kL_uI, Nat.reduceEqDiff, false_and, if_false, true_and, and_self, if_true, ↓reduceIte, h1, h2, and_false]
theorem RLs_w_told {M : Mem} {x : Nat} {c : Core} {nk : Nat} {ka : Nat → Nat} {ns nl : Nat} {la : Nat → Nat} {j : Nat} {v : Int32} (L : RLs M x c nk ka ns nl la) (hj : j < nl) : RLs (sI M 510 (la j) 0 v) x (uI c 17 j v) nk ka ns nl la := by
  have g1 := rl_come L
  have g2 := rl_c L
  refine ⟨rl_le L, by simp only [mK_sI, mN_sI, mI_sI, mL_sI, mR_sI, kI_uI, kL_uI, Nat.reduceEqDiff, false_and, if_false, true_and, and_self, if_true, ↓reduceIte]; exact g1, by simp only [mK_sI, mN_sI, mI_sI, mL_sI, mR_sI, kI_uI, kL_uI, Nat.reduceEqDiff, false_and, if_false, true_and, and_self, if_true, ↓reduceIte]; exact g2, fun l hl => ?_⟩
  by_cases e : l = j
  · subst e; exact LI_w_told (rl_i L l hl)
  · rw [LI_n_told (by rw [la_inj L hl hj]; exact e) e]; exact rl_i L l hl
theorem LI_w_tray {M : Mem} {x : Nat} {c : Core} {nk : Nat} {ka : Nat → Nat} {ns a l : Nat} {v : Int32} (hv : ∃ t, t < 8 ∧ v = nI t) (I : LI M x c nk ka ns a l) : LI (sI M 511 a 0 v) x (uI c 18 l v) nk ka ns a l := by
  obtain ⟨t, h1, rfl⟩ := hv
  simp only [LI, mK_sI, mN_sI, mI_sI, mL_sI, mR_sI, kI_uI, kL_uI, Nat.reduceEqDiff, false_and, if_false, true_and, and_self, if_true, ↓reduceIte]
  exact ⟨li_at I, li_k I, li_num I, li_kind I, li_phase I, li_rank I, li_scene I, li_sc I, li_low I, li_high I, li_once I, li_on I, li_there I, li_th I, li_told I, ⟨t, h1, rfl⟩, li_prog I, li_pk I, li_ops I, li_ok I, li_on10 I, li_nums I, li_nk I, li_nn10 I, li_size I⟩
theorem LI_n_tray {M : Mem} {x : Nat} {c : Core} {nk : Nat} {ka : Nat → Nat} {ns a l : Nat} {v : Int32} {b l2 : Nat} (h1 : ¬ a = b) (h2 : ¬ l = l2) : LI (sI M 511 b 0 v) x (uI c 18 l2 v) nk ka ns a l = LI M x c nk ka ns a l := by
  simp only [LI, mK_sI, mN_sI, mI_sI, mL_sI, mR_sI, kI_uI, kL_uI, Nat.reduceEqDiff, false_and, if_false, true_and, and_self, if_true, ↓reduceIte, h1, h2, and_false]
theorem RLs_w_tray {M : Mem} {x : Nat} {c : Core} {nk : Nat} {ka : Nat → Nat} {ns nl : Nat} {la : Nat → Nat} {j : Nat} {v : Int32} (hv : ∃ t, t < 8 ∧ v = nI t) (L : RLs M x c nk ka ns nl la) (hj : j < nl) : RLs (sI M 511 (la j) 0 v) x (uI c 18 j v) nk ka ns nl la := by
  have g1 := rl_come L
  have g2 := rl_c L
  refine ⟨rl_le L, by simp only [mK_sI, mN_sI, mI_sI, mL_sI, mR_sI, kI_uI, kL_uI, Nat.reduceEqDiff, false_and, if_false, true_and, and_self, if_true, ↓reduceIte]; exact g1, by simp only [mK_sI, mN_sI, mI_sI, mL_sI, mR_sI, kI_uI, kL_uI, Nat.reduceEqDiff, false_and, if_false, true_and, and_self, if_true, ↓reduceIte]; exact g2, fun l hl => ?_⟩
  by_cases e : l = j
  · subst e; exact LI_w_tray hv (rl_i L l hl)
  · rw [LI_n_tray (by rw [la_inj L hl hj]; exact e) e]; exact rl_i L l hl

theorem cnt_le (f : Nat → Int32) : ∀ n, cnt f n ≤ n := by
  intro n
  induction n with
  | zero => simp [cnt]
  | succ n ih => rw [cnt]; split <;> omega
theorem cnt_same {f g : Nat → Int32} : ∀ n, (∀ i, i < n → (f i = 0 ↔ g i = 0)) → cnt f n = cnt g n := by
  intro n
  induction n with
  | zero => intro _; rfl
  | succ n ih =>
    intro h
    rw [cnt, cnt, ih (fun i hi => h i (by omega))]
    by_cases e : f n = 0
    · rw [if_pos e, if_pos ((h n (by omega)).mp e)]
    · rw [if_neg e, if_neg (fun q => e ((h n (by omega)).mpr q))]
theorem cnt_off {f g : Nat → Int32} {j : Nat} (h0 : g j = 0) (h1 : ¬ f j = 0) (h : ∀ i, ¬ i = j → g i = f i) : ∀ n, j < n → cnt f n = cnt g n + 1 := by
  intro n
  induction n with
  | zero => intro h; omega
  | succ n ih =>
    intro hj
    rw [cnt, cnt]
    by_cases e : n = j
    · subst e
      rw [if_neg h1, if_pos h0, cnt_same (f := f) (g := g) n (fun i hi => by rw [h i (by omega)])]
    · rw [ih (by omega), h n e]
      split <;> rfl
theorem cnt_pos {f : Nat → Int32} {j n : Nat} (hj : j < n) (h : ¬ f j = 0) : 0 < cnt f n := by
  induction n with
  | zero => omega
  | succ n ih =>
    rw [cnt]
    by_cases e : j = n
    · subst e; rw [if_neg h]; omega
    · have := ih (by omega)
      split <;> omega
/-- a listener goes -/
theorem RS_go {M M' : Mem} {x : Nat} {c : Core} {ns nl j : Nat} (C : RS M x c ns nl) (hj : j < nl) (ht : ¬ (kI c 13 (j)) = 0) (h1 : (mI M' 205 (x + 4) 0) = (mI M 205 (x + 4) 0)) (h2 : ∀ s, (mI M' 3006025 (x + 7) (s)) = (mI M 3006025 (x + 7) (s))) (h3 : (mI M' 206 (x + 4) 0) = (mI M 206 (x + 4) 0)) (h4 : (mI M' 204 (x + 4) 0) = (mI M 204 (x + 4) 0) - 1) : RS M' x (uI c 13 j 0) ns nl := by
  have e : cnt (fun l => kI c 13 l) nl = cnt (fun l => kI (uI c 13 j 0) 13 l) nl + 1 := cnt_off (j := j) (by show kI (uI c 13 j 0) 13 j = 0; rw [kI_uI, if_pos ⟨rfl, rfl⟩]) ht (fun i hi => by show kI (uI c 13 j 0) 13 i = kI c 13 i; rw [kI_uI, if_neg (fun q => hi q.2)]) nl hj
  have g1 := rs_sc C
  have g2 := rs_c C
  have g3 := rs_open C
  have g4 := rs_cnt C
  refine ⟨rs_le C, by rw [h1]; exact g1, by simp only [kI_uI, Nat.reduceEqDiff, false_and, if_false]; exact g2, by simp only [h2, kI_uI, Nat.reduceEqDiff, false_and, if_false]; exact g3, by simp only [h3, kI_uI, Nat.reduceEqDiff, false_and, if_false]; exact g4, ?_⟩
  rw [h4, rs_there C, e, nI_pred]
