/-! A comer is linked into the chain of its phase -/
/-- what the order asks of a listener -/
def Ld (M : Mem) (a : Nat) (r : Int32) (e : Nat) : Prop := mK M a = 6 ∧ (mI M 503 (a) 0) = r ∧ e ≤ 10 ∧ ∃ k, (mR M 501 (a) 0) = some k ∧ mK M k = 4 ∧ (mI M 301 (k) 0) = nI e
/-- ahead by rank or depth: the newest goes behind all that are like it -/
def aho (r : Int32) (e : Nat) (r' : Int32) (e' : Nat) : Prop := r' < r ∨ (r = r' ∧ e' < e)
def sp_ahead : Sp := fun av M Q => match av with
  | [.ref a, .ref b] => ∃ r e r' e', Ld M a r e ∧ Ld M b r' e' ∧ (aho r e r' e' → Q M (some (.int 1))) ∧ (¬ aho r e r' e' → Q M (some (.int 0)))
  | _ => False
set_option maxRecDepth 20000 in
theorem c_ahead {D : DD} {d : Nat} : ∀ av M Q, sp_ahead av M Q → Call D (d + 1) mi_X5_isAheadOf av M Q := by
  intro av M Q hz
  match av, hz with
  | [.ref a, .ref b], hz =>
    obtain ⟨r, e, r', e', ⟨a1, a2, a3, k, a4, a5, a6⟩, ⟨b1, b2, b3, k', b4, b5, b6⟩, h1, h0⟩ := hz
    refine call_of (by decide) (Nat.le_of_ble_eq_true rfl) (run0 (tbk_X5_isAheadOf cs_n) 60 ?_)
    by_cases c1 : r = r'
    · by_cases c2 : e' < e
      · simp -implicitDefEqProofs only [go_0, pI_i, pL_i, pA_i, pA_s, pV_i, oI_i, oL_i, oV_i, lk, rm1, rm2, isR_rf, isR_ref, isR_null, rfo_rf, rfo_ref, rfo_null, rf_some, rf_none, rf_eq_null, rf_eq_ref, ↓nl_n, ↓nl_r, nl_rf, cat_i, cat_l, cat_r, cat_n, cat_rf, lv_args, pN_0, pN_s, tr_ic, tr_lc, tr_null, tr_iload, tr_lload, tr_aload, tr_istore, tr_lstore, tr_astore, tr_iinc, tr_iadd, tr_isub, tr_imul, tr_iand, tr_irem, tr_ladd, tr_lsub, tr_land, tr_lor, tr_lshl, tr_ldiv, tr_lrem, tr_i2l, tr_l2i, tr_i2b, tr_lcmp, tr_dup, tr_dup2, tr_pop, tr_goto, tr_ifeq, tr_ifne, tr_iflt, tr_ifge, tr_ifgt, tr_ifle, tr_iceq, tr_icne, tr_iclt, tr_icge, tr_icgt, tr_icle, tr_ifnull, tr_ifnonnull, tr_sw, tr_getI, tr_getL, tr_getR, tr_putI, tr_putZ, tr_putL, tr_putR, tr_iald, tr_lald, tr_bald, tr_aald, tr_alen, tr_iast, tr_bast, tr_last, tr_aast, tr_newa, tr_anew, tr_new, tr_callV, tr_callS, tr_callI, tr_obj, tr_iret, tr_zret, tr_lret, tr_aret, tr_ret, Nat.reduceAdd, Nat.reduceMul, Nat.reduceDiv, Nat.reduceEqDiff, Nat.reduceLT, Nat.reduceLeDiff, ↓reduceIte, true_and, and_true, true_or, or_true, List.length_nil, List.length_cons, List.nil_append, List.cons_append, Option.toList_some, Option.toList_none, and_self, or_false, false_or, false_and, and_false, imp_self, forall_const, Nat.one_ne_zero, Nat.succ_ne_self, not_true_eq_false, not_false_eq_true, reduceCtorEq, Nat.add_eq_right, Nat.add_eq_left, Nat.add_left_cancel_iff, Nat.zero_add, Int32.reduceLT, Int32.reduceLE, Int32.reduceAdd, Int32.reduceSub, Int32.reduceMul, lg_cmp_ge, lg_cmp_le, lg_cmp_gt, lg_cmp_lt, lg_cmp_eq, i10, i01, eq_self, false_implies, true_implies, implies_true, mK_sI, mK_sL, mK_sR, mK_nw, mN_sI, mN_sL, mN_sR, mN_nw, mI_sI, mI_sL, mI_sR, mI_nw, mL_sI, mL_sL, mL_sR, mL_nw, mR_sI, mR_sL, mR_sR, mR_nw, mS_sI, mS_sL, mS_sR, mS_nw, mU_sI, mU_sL, mU_sR, mU_nw, a1, a2, a4, a5, a6, b1, b2, b4, b5, b6, c1, nI_leI (show e < 2 ^ 31 by omega) (show e' < 2 ^ 31 by omega), show ¬ e ≤ e' by omega, a_X5_isAheadOf_0, a_X5_isAheadOf_1, a_X5_isAheadOf_4, a_X5_isAheadOf_5, a_X5_isAheadOf_8, a_X5_isAheadOf_11, a_X5_isAheadOf_12, a_X5_isAheadOf_15, a_X5_isAheadOf_16, a_X5_isAheadOf_19, a_X5_isAheadOf_22, a_X5_isAheadOf_23, a_X5_isAheadOf_26, a_X5_isAheadOf_27, a_X5_isAheadOf_28, a_X5_isAheadOf_29, a_X5_isAheadOf_32, a_X5_isAheadOf_35, a_X5_isAheadOf_36, a_X5_isAheadOf_39, a_X5_isAheadOf_42, a_X5_isAheadOf_45, a_X5_isAheadOf_46, a_X5_isAheadOf_49, a_X5_isAheadOf_50]
        exact h1 (Or.inr ⟨c1, c2⟩)
      · simp -implicitDefEqProofs only [go_0, pI_i, pL_i, pA_i, pA_s, pV_i, oI_i, oL_i, oV_i, lk, rm1, rm2, isR_rf, isR_ref, isR_null, rfo_rf, rfo_ref, rfo_null, rf_some, rf_none, rf_eq_null, rf_eq_ref, ↓nl_n, ↓nl_r, nl_rf, cat_i, cat_l, cat_r, cat_n, cat_rf, lv_args, pN_0, pN_s, tr_ic, tr_lc, tr_null, tr_iload, tr_lload, tr_aload, tr_istore, tr_lstore, tr_astore, tr_iinc, tr_iadd, tr_isub, tr_imul, tr_iand, tr_irem, tr_ladd, tr_lsub, tr_land, tr_lor, tr_lshl, tr_ldiv, tr_lrem, tr_i2l, tr_l2i, tr_i2b, tr_lcmp, tr_dup, tr_dup2, tr_pop, tr_goto, tr_ifeq, tr_ifne, tr_iflt, tr_ifge, tr_ifgt, tr_ifle, tr_iceq, tr_icne, tr_iclt, tr_icge, tr_icgt, tr_icle, tr_ifnull, tr_ifnonnull, tr_sw, tr_getI, tr_getL, tr_getR, tr_putI, tr_putZ, tr_putL, tr_putR, tr_iald, tr_lald, tr_bald, tr_aald, tr_alen, tr_iast, tr_bast, tr_last, tr_aast, tr_newa, tr_anew, tr_new, tr_callV, tr_callS, tr_callI, tr_obj, tr_iret, tr_zret, tr_lret, tr_aret, tr_ret, Nat.reduceAdd, Nat.reduceMul, Nat.reduceDiv, Nat.reduceEqDiff, Nat.reduceLT, Nat.reduceLeDiff, ↓reduceIte, true_and, and_true, true_or, or_true, List.length_nil, List.length_cons, List.nil_append, List.cons_append, Option.toList_some, Option.toList_none, and_self, or_false, false_or, false_and, and_false, imp_self, forall_const, Nat.one_ne_zero, Nat.succ_ne_self, not_true_eq_false, not_false_eq_true, reduceCtorEq, Nat.add_eq_right, Nat.add_eq_left, Nat.add_left_cancel_iff, Nat.zero_add, Int32.reduceLT, Int32.reduceLE, Int32.reduceAdd, Int32.reduceSub, Int32.reduceMul, lg_cmp_ge, lg_cmp_le, lg_cmp_gt, lg_cmp_lt, lg_cmp_eq, i10, i01, eq_self, false_implies, true_implies, implies_true, mK_sI, mK_sL, mK_sR, mK_nw, mN_sI, mN_sL, mN_sR, mN_nw, mI_sI, mI_sL, mI_sR, mI_nw, mL_sI, mL_sL, mL_sR, mL_nw, mR_sI, mR_sL, mR_sR, mR_nw, mS_sI, mS_sL, mS_sR, mS_nw, mU_sI, mU_sL, mU_sR, mU_nw, a1, a2, a4, a5, a6, b1, b2, b4, b5, b6, c1, nI_leI (show e < 2 ^ 31 by omega) (show e' < 2 ^ 31 by omega), show e ≤ e' by omega, a_X5_isAheadOf_0, a_X5_isAheadOf_1, a_X5_isAheadOf_4, a_X5_isAheadOf_5, a_X5_isAheadOf_8, a_X5_isAheadOf_11, a_X5_isAheadOf_12, a_X5_isAheadOf_15, a_X5_isAheadOf_16, a_X5_isAheadOf_19, a_X5_isAheadOf_22, a_X5_isAheadOf_23, a_X5_isAheadOf_26, a_X5_isAheadOf_27, a_X5_isAheadOf_28, a_X5_isAheadOf_29, a_X5_isAheadOf_32, a_X5_isAheadOf_35, a_X5_isAheadOf_36, a_X5_isAheadOf_39, a_X5_isAheadOf_42, a_X5_isAheadOf_45, a_X5_isAheadOf_46, a_X5_isAheadOf_49, a_X5_isAheadOf_50]
        refine h0 (fun q => ?_)
        rcases q with q | q
        · rw [c1, Int32.lt_iff_toInt_lt] at q; omega
        · exact c2 q.2
    · by_cases c2 : r' < r
      · have c3 : ¬ r ≤ r' := fun q => by rw [Int32.le_iff_toInt_le] at q; rw [Int32.lt_iff_toInt_lt] at c2; omega
        simp -implicitDefEqProofs only [go_0, pI_i, pL_i, pA_i, pA_s, pV_i, oI_i, oL_i, oV_i, lk, rm1, rm2, isR_rf, isR_ref, isR_null, rfo_rf, rfo_ref, rfo_null, rf_some, rf_none, rf_eq_null, rf_eq_ref, ↓nl_n, ↓nl_r, nl_rf, cat_i, cat_l, cat_r, cat_n, cat_rf, lv_args, pN_0, pN_s, tr_ic, tr_lc, tr_null, tr_iload, tr_lload, tr_aload, tr_istore, tr_lstore, tr_astore, tr_iinc, tr_iadd, tr_isub, tr_imul, tr_iand, tr_irem, tr_ladd, tr_lsub, tr_land, tr_lor, tr_lshl, tr_ldiv, tr_lrem, tr_i2l, tr_l2i, tr_i2b, tr_lcmp, tr_dup, tr_dup2, tr_pop, tr_goto, tr_ifeq, tr_ifne, tr_iflt, tr_ifge, tr_ifgt, tr_ifle, tr_iceq, tr_icne, tr_iclt, tr_icge, tr_icgt, tr_icle, tr_ifnull, tr_ifnonnull, tr_sw, tr_getI, tr_getL, tr_getR, tr_putI, tr_putZ, tr_putL, tr_putR, tr_iald, tr_lald, tr_bald, tr_aald, tr_alen, tr_iast, tr_bast, tr_last, tr_aast, tr_newa, tr_anew, tr_new, tr_callV, tr_callS, tr_callI, tr_obj, tr_iret, tr_zret, tr_lret, tr_aret, tr_ret, Nat.reduceAdd, Nat.reduceMul, Nat.reduceDiv, Nat.reduceEqDiff, Nat.reduceLT, Nat.reduceLeDiff, ↓reduceIte, true_and, and_true, true_or, or_true, List.length_nil, List.length_cons, List.nil_append, List.cons_append, Option.toList_some, Option.toList_none, and_self, or_false, false_or, false_and, and_false, imp_self, forall_const, Nat.one_ne_zero, Nat.succ_ne_self, not_true_eq_false, not_false_eq_true, reduceCtorEq, Nat.add_eq_right, Nat.add_eq_left, Nat.add_left_cancel_iff, Nat.zero_add, Int32.reduceLT, Int32.reduceLE, Int32.reduceAdd, Int32.reduceSub, Int32.reduceMul, lg_cmp_ge, lg_cmp_le, lg_cmp_gt, lg_cmp_lt, lg_cmp_eq, i10, i01, eq_self, false_implies, true_implies, implies_true, mK_sI, mK_sL, mK_sR, mK_nw, mN_sI, mN_sL, mN_sR, mN_nw, mI_sI, mI_sL, mI_sR, mI_nw, mL_sI, mL_sL, mL_sR, mL_nw, mR_sI, mR_sL, mR_sR, mR_nw, mS_sI, mS_sL, mS_sR, mS_nw, mU_sI, mU_sL, mU_sR, mU_nw, a1, a2, a4, a5, a6, b1, b2, b4, b5, b6, c1, c2, c3, a_X5_isAheadOf_0, a_X5_isAheadOf_1, a_X5_isAheadOf_4, a_X5_isAheadOf_5, a_X5_isAheadOf_8, a_X5_isAheadOf_11, a_X5_isAheadOf_12, a_X5_isAheadOf_15, a_X5_isAheadOf_16, a_X5_isAheadOf_19, a_X5_isAheadOf_22, a_X5_isAheadOf_23, a_X5_isAheadOf_26, a_X5_isAheadOf_27, a_X5_isAheadOf_28, a_X5_isAheadOf_29, a_X5_isAheadOf_32, a_X5_isAheadOf_35, a_X5_isAheadOf_36, a_X5_isAheadOf_39, a_X5_isAheadOf_42, a_X5_isAheadOf_45, a_X5_isAheadOf_46, a_X5_isAheadOf_49, a_X5_isAheadOf_50]
        exact h1 (Or.inl c2)
      · have c3 : r ≤ r' := by rw [Int32.le_iff_toInt_le]; rw [Int32.lt_iff_toInt_lt] at c2; omega
        simp -implicitDefEqProofs only [go_0, pI_i, pL_i, pA_i, pA_s, pV_i, oI_i, oL_i, oV_i, lk, rm1, rm2, isR_rf, isR_ref, isR_null, rfo_rf, rfo_ref, rfo_null, rf_some, rf_none, rf_eq_null, rf_eq_ref, ↓nl_n, ↓nl_r, nl_rf, cat_i, cat_l, cat_r, cat_n, cat_rf, lv_args, pN_0, pN_s, tr_ic, tr_lc, tr_null, tr_iload, tr_lload, tr_aload, tr_istore, tr_lstore, tr_astore, tr_iinc, tr_iadd, tr_isub, tr_imul, tr_iand, tr_irem, tr_ladd, tr_lsub, tr_land, tr_lor, tr_lshl, tr_ldiv, tr_lrem, tr_i2l, tr_l2i, tr_i2b, tr_lcmp, tr_dup, tr_dup2, tr_pop, tr_goto, tr_ifeq, tr_ifne, tr_iflt, tr_ifge, tr_ifgt, tr_ifle, tr_iceq, tr_icne, tr_iclt, tr_icge, tr_icgt, tr_icle, tr_ifnull, tr_ifnonnull, tr_sw, tr_getI, tr_getL, tr_getR, tr_putI, tr_putZ, tr_putL, tr_putR, tr_iald, tr_lald, tr_bald, tr_aald, tr_alen, tr_iast, tr_bast, tr_last, tr_aast, tr_newa, tr_anew, tr_new, tr_callV, tr_callS, tr_callI, tr_obj, tr_iret, tr_zret, tr_lret, tr_aret, tr_ret, Nat.reduceAdd, Nat.reduceMul, Nat.reduceDiv, Nat.reduceEqDiff, Nat.reduceLT, Nat.reduceLeDiff, ↓reduceIte, true_and, and_true, true_or, or_true, List.length_nil, List.length_cons, List.nil_append, List.cons_append, Option.toList_some, Option.toList_none, and_self, or_false, false_or, false_and, and_false, imp_self, forall_const, Nat.one_ne_zero, Nat.succ_ne_self, not_true_eq_false, not_false_eq_true, reduceCtorEq, Nat.add_eq_right, Nat.add_eq_left, Nat.add_left_cancel_iff, Nat.zero_add, Int32.reduceLT, Int32.reduceLE, Int32.reduceAdd, Int32.reduceSub, Int32.reduceMul, lg_cmp_ge, lg_cmp_le, lg_cmp_gt, lg_cmp_lt, lg_cmp_eq, i10, i01, eq_self, false_implies, true_implies, implies_true, mK_sI, mK_sL, mK_sR, mK_nw, mN_sI, mN_sL, mN_sR, mN_nw, mI_sI, mI_sL, mI_sR, mI_nw, mL_sI, mL_sL, mL_sR, mL_nw, mR_sI, mR_sL, mR_sR, mR_nw, mS_sI, mS_sL, mS_sR, mS_nw, mU_sI, mU_sL, mU_sR, mU_nw, a1, a2, a4, a5, a6, b1, b2, b4, b5, b6, c1, c2, c3, a_X5_isAheadOf_0, a_X5_isAheadOf_1, a_X5_isAheadOf_4, a_X5_isAheadOf_5, a_X5_isAheadOf_8, a_X5_isAheadOf_11, a_X5_isAheadOf_12, a_X5_isAheadOf_15, a_X5_isAheadOf_16, a_X5_isAheadOf_19, a_X5_isAheadOf_22, a_X5_isAheadOf_23, a_X5_isAheadOf_26, a_X5_isAheadOf_27, a_X5_isAheadOf_28, a_X5_isAheadOf_29, a_X5_isAheadOf_32, a_X5_isAheadOf_35, a_X5_isAheadOf_36, a_X5_isAheadOf_39, a_X5_isAheadOf_42, a_X5_isAheadOf_45, a_X5_isAheadOf_46, a_X5_isAheadOf_49, a_X5_isAheadOf_50]
        refine h0 (fun q => ?_)
        rcases q with q | q
        · exact c2 q
        · exact c1 q.1
/-- chains -/
def hdo (la : Nat → Nat) (B : List Nat) : Option Nat := B.head?.map la
theorem Lk_hd {nx : Nat → Option Nat} {la : Nat → Nat} {o : Option Nat} {B : List Nat} (h : Lk nx la o B) : o = hdo la B := by
  cases B with
  | nil => exact h
  | cons b t => exact h.1
theorem Lk_app {nx : Nat → Option Nat} {la : Nat → Nat} {B : List Nat} : ∀ {A : List Nat} {o : Option Nat}, Lk nx la o (A ++ B) → ∃ o', Lk nx la o' B := by
  intro A
  induction A with
  | nil => intro o h; exact ⟨o, h⟩
  | cons a t ih => intro o h; exact ih h.2
theorem Lk_congr {nx nx' : Nat → Option Nat} {la la' : Nat → Nat} : ∀ {A : List Nat} {o : Option Nat}, (∀ m ∈ A, nx' (la m) = nx (la m) ∧ la' m = la m) → Lk nx la o A → Lk nx' la' o A := by
  intro A
  induction A with
  | nil => intro o _ h; exact h
  | cons a t ih =>
    intro o hm h
    obtain ⟨h1, h2⟩ := h
    have := hm a List.mem_cons_self
    refine ⟨by rw [this.2]; exact h1, ?_⟩
    rw [this.2, this.1]
    exact ih (fun m hm' => hm m (List.mem_cons_of_mem _ hm')) h2
/-- a chain with one put between: the one before it, or the first, leads to it, it to the rest -/
theorem Lk_ins {nx nx' : Nat → Option Nat} {la la' : Nat → Nat} {n : Nat} {B : List Nat} (hB : ∀ m ∈ B, nx' (la m) = nx (la m) ∧ la' m = la m) (hn : nx' (la' n) = hdo la B) :
    ∀ {A : List Nat} {o : Option Nat}, (∀ m ∈ A, la' m = la m) → (∀ m ∈ A.dropLast, nx' (la m) = nx (la m)) → (∀ m, A.getLast? = some m → nx' (la m) = some (la' n)) → Lk nx la o (A ++ B) → Lk nx' la' (if A = [] then some (la' n) else o) (A ++ n :: B) := by
  intro A
  induction A with
  | nil =>
    intro o _ _ _ h
    refine ⟨by simp, ?_⟩
    rw [hn]
    have h0 : Lk nx la o B := h
    have h' : Lk nx la (hdo la B) B := by rw [← Lk_hd h0]; exact h0
    exact Lk_congr hB h'
  | cons a t ih =>
    intro o h1 h2 h3 h
    obtain ⟨g1, g2⟩ := h
    rw [if_neg (by simp)]
    refine ⟨by rw [h1 a List.mem_cons_self]; exact g1, ?_⟩
    rw [h1 a List.mem_cons_self]
    by_cases e : t = []
    · subst e
      have := ih (o := nx (la a)) (fun m hm => absurd hm List.not_mem_nil) (fun m hm => absurd hm List.not_mem_nil) (fun m hm => by simp at hm) g2
      rw [if_pos rfl] at this
      rw [h3 a (by simp)]
      exact this
    · have := ih (o := nx (la a)) (fun m hm => h1 m (List.mem_cons_of_mem _ hm)) (fun m hm => h2 m (by rw [List.dropLast_cons_of_ne_nil e]; exact List.mem_cons_of_mem _ hm)) (fun m hm => h3 m (by rw [List.getLast?_cons_of_ne_nil e]; exact hm)) g2
      rw [if_neg e] at this
      rw [h2 a (by rw [List.dropLast_cons_of_ne_nil e]; exact List.mem_cons_self)]
      exact this
/-- where the comer goes -/
def InsAt (rk : Nat → Int32) (dq : Nat → Nat) (n : Nat) (A B : List Nat) : Prop := (∀ m ∈ A, ¬ aho (rk n) (dq n) (rk m) (dq m)) ∧ (∀ b t, B = b :: t → aho (rk n) (dq n) (rk b) (dq b))
set_option maxRecDepth 20000 in
theorem l_link {D : DD} {d : Nat} {M0 M : Mem} {x a p n : Nat} {la : Nat → Nat} {rk : Nat → Int32} {dq : Nat → Nat} {L : List Nat} {Q : Qt} (S : SH M x) (hp : p < 3) (hph : (mI M 502 (a) 0) = nI p) (ha : Ld M a (rk n) (dq n)) (hL : ∀ m ∈ L, Ld M (la m) (rk m) (dq m)) (hne : ∀ m ∈ L, la m ≠ a)
    (hq : ∀ A B, L = A ++ B → InsAt rk dq n A B → Q (match A.getLast? with | none => sR (sR M 512 a 0 (hdo la B)) 6006016 (x + 6) p (some a) | some m => sR (sR M 512 a 0 (hdo la B)) 512 (la m) 0 (some a)) none) :
    ∀ (B A : List Nat), L = A ++ B → (∀ m ∈ A, ¬ aho (rk n) (dq n) (rk m) (dq m)) → Lk (fun b => mR M 512 b 0) la (hdo la B) B →
    wp D (d + 2) mi_X2_seat M0 M 60 [(0, .ref (x + 4)), (1, .ref a), (2, va_rf (A.getLast?.map la)), (3, va_rf (hdo la B))] [] Q := by
  intro B
  induction B with
  | nil =>
    intro A hA h1 h2
    have hz := hq A [] hA ⟨h1, fun b t e => by cases e⟩
    cases eA : A.getLast? with
    | none =>
      rw [eA] at hz
      refine runL 60 (tbk_X2_seat (cs_c mn_X5_isAheadOf c_ahead cs_n)) 60 ?_
      simp -implicitDefEqProofs +decide only [go_0, pI_i, pL_i, pA_i, pA_s, pV_i, oI_i, oL_i, oV_i, lk, rm1, rm2, isR_rf, isR_ref, isR_null, rfo_rf, rfo_ref, rfo_null, rf_some, rf_none, rf_eq_null, rf_eq_ref, ↓nl_n, ↓nl_r, nl_rf, cat_i, cat_l, cat_r, cat_n, cat_rf, lv_args, pN_0, pN_s, tr_ic, tr_lc, tr_null, tr_iload, tr_lload, tr_aload, tr_istore, tr_lstore, tr_astore, tr_iinc, tr_iadd, tr_isub, tr_imul, tr_iand, tr_irem, tr_ladd, tr_lsub, tr_land, tr_lor, tr_lshl, tr_ldiv, tr_lrem, tr_i2l, tr_l2i, tr_i2b, tr_lcmp, tr_dup, tr_dup2, tr_pop, tr_goto, tr_ifeq, tr_ifne, tr_iflt, tr_ifge, tr_ifgt, tr_ifle, tr_iceq, tr_icne, tr_iclt, tr_icge, tr_icgt, tr_icle, tr_ifnull, tr_ifnonnull, tr_sw, tr_getI, tr_getL, tr_getR, tr_putI, tr_putZ, tr_putL, tr_putR, tr_iald, tr_lald, tr_bald, tr_aald, tr_alen, tr_iast, tr_bast, tr_last, tr_aast, tr_newa, tr_anew, tr_new, tr_callV, tr_callS, tr_callI, tr_obj, tr_iret, tr_zret, tr_lret, tr_aret, tr_ret, Nat.reduceAdd, Nat.reduceMul, Nat.reduceDiv, Nat.reduceEqDiff, Nat.reduceLT, Nat.reduceLeDiff, ↓reduceIte, true_and, and_true, true_or, or_true, List.length_nil, List.length_cons, List.nil_append, List.cons_append, Option.toList_some, Option.toList_none, and_self, or_false, false_or, false_and, and_false, imp_self, forall_const, Nat.one_ne_zero, Nat.succ_ne_self, not_true_eq_false, not_false_eq_true, reduceCtorEq, Nat.add_eq_right, Nat.add_eq_left, Nat.add_left_cancel_iff, Nat.zero_add, Int32.reduceLT, Int32.reduceLE, Int32.reduceAdd, Int32.reduceSub, Int32.reduceMul, lg_cmp_ge, lg_cmp_le, lg_cmp_gt, lg_cmp_lt, lg_cmp_eq, i10, i01, eq_self, false_implies, true_implies, implies_true, mK_sI, mK_sL, mK_sR, mK_nw, mN_sI, mN_sL, mN_sR, mN_nw, mI_sI, mI_sL, mI_sR, mI_nw, mL_sI, mL_sL, mL_sR, mL_nw, mR_sI, mR_sL, mR_sR, mR_nw, mS_sI, mS_sL, mS_sR, mS_nw, mU_sI, mU_sL, mU_sR, mU_nw, go_1, csj, inl, lgn, lgc, hdo, List.head?_nil, Option.map_none, cs, sh_x S, (sh_k2 S).1, (sh_k2 S).2, (sh_k4 S).1, (sh_k4 S).2, (sh_k9 S).1, (sh_k9 S).2, (sh_k12 S).1, (sh_k12 S).2, (sh_k1 S).1, (sh_k1 S).2, (sh_k17 S).1, (sh_k17 S).2, (sh_k3 S).1, (sh_k3 S).2, (sh_k5 S).1, (sh_k5 S).2, (sh_k6 S).1, (sh_k6 S).2, (sh_k7 S).1, (sh_k7 S).2, (sh_k8 S).1, (sh_k8 S).2, (sh_k10 S).1, (sh_k10 S).2, (sh_k11 S).1, (sh_k11 S).2, (sh_k13 S).1, (sh_k13 S).2, (sh_k14 S).1, (sh_k14 S).2, (sh_k15 S).1, (sh_k15 S).2, (sh_k16 S).1, (sh_k16 S).2, (sh_k18 S).1, (sh_k18 S).2, (sh_k19 S).1, (sh_k19 S).2, (sh_k20 S).1, (sh_k20 S).2, sh_Desk_teller S, sh_Desk_kinds S, sh_Desk_house S, sh_Desk_trays S, sh_Desk_acts S, sh_Desk_report S, sh_Kinds_all S, sh_House_all S, sh_House_firsts S, sh_House_open S, sh_Acts_of S, sh_Acts_values S, sh_Report_log S, sh_Report_failureOf S, sh_Report_failureBy S, sh_Report_failureAt S, sh_Teller_kinds S, sh_Teller_house S, sh_Teller_trays S, sh_Teller_acts S, sh_Teller_report S, sh_Teller_waiting S, sh_Teller_cues S, sh_Waiting_of S, sh_Waiting_values S, ha.1, hph, nI_clamp (show p < 2 ^ 31 by omega), vp_in_nI (show p < 3 by omega) (by decide), a_X2_seat_0, a_X2_seat_1, a_X2_seat_4, a_X2_seat_7, a_X2_seat_8, a_X2_seat_11, a_X2_seat_14, a_X2_seat_17, a_X2_seat_18, a_X2_seat_19, a_X2_seat_22, a_X2_seat_23, a_X2_seat_26, a_X2_seat_27, a_X2_seat_28, a_X2_seat_29, a_X2_seat_30, a_X2_seat_33, a_X2_seat_34, a_X2_seat_35, a_X2_seat_38, a_X2_seat_39, a_X2_seat_40, a_X2_seat_43, a_X2_seat_44, a_X2_seat_45, a_X2_seat_48, a_X2_seat_49, a_X2_seat_50, a_X2_seat_51, a_X2_seat_54, a_X2_seat_55, a_X2_seat_58, a_X2_seat_59, a_X2_seat_60, a_X2_seat_61, a_X2_seat_64, a_X2_seat_65, a_X2_seat_66, a_X2_seat_69, a_X2_seat_72, a_X2_seat_73, a_X2_seat_74, a_X2_seat_75, a_X2_seat_78, a_X2_seat_79, a_X2_seat_82, a_X2_seat_83, a_X2_seat_84, a_X2_seat_87, a_X2_seat_88, a_X2_seat_91, a_X2_seat_92, a_X2_seat_95, a_X2_seat_96, a_X2_seat_99, a_X2_seat_100, a_X2_seat_101, a_X2_seat_104, a_X2_seat_105, a_X2_seat_106, a_X2_seat_109]
      refine ⟨fun b hb => ?_, hz⟩
      cases hb; exact ha.1
    | some m =>
      rw [eA] at hz
      have hm : m ∈ L := by rw [hA]; exact List.mem_append_left _ (List.mem_of_getLast? eA)
      refine runL 60 (tbk_X2_seat (cs_c mn_X5_isAheadOf c_ahead cs_n)) 60 ?_
      simp -implicitDefEqProofs +decide only [go_0, pI_i, pL_i, pA_i, pA_s, pV_i, oI_i, oL_i, oV_i, lk, rm1, rm2, isR_rf, isR_ref, isR_null, rfo_rf, rfo_ref, rfo_null, rf_some, rf_none, rf_eq_null, rf_eq_ref, ↓nl_n, ↓nl_r, nl_rf, cat_i, cat_l, cat_r, cat_n, cat_rf, lv_args, pN_0, pN_s, tr_ic, tr_lc, tr_null, tr_iload, tr_lload, tr_aload, tr_istore, tr_lstore, tr_astore, tr_iinc, tr_iadd, tr_isub, tr_imul, tr_iand, tr_irem, tr_ladd, tr_lsub, tr_land, tr_lor, tr_lshl, tr_ldiv, tr_lrem, tr_i2l, tr_l2i, tr_i2b, tr_lcmp, tr_dup, tr_dup2, tr_pop, tr_goto, tr_ifeq, tr_ifne, tr_iflt, tr_ifge, tr_ifgt, tr_ifle, tr_iceq, tr_icne, tr_iclt, tr_icge, tr_icgt, tr_icle, tr_ifnull, tr_ifnonnull, tr_sw, tr_getI, tr_getL, tr_getR, tr_putI, tr_putZ, tr_putL, tr_putR, tr_iald, tr_lald, tr_bald, tr_aald, tr_alen, tr_iast, tr_bast, tr_last, tr_aast, tr_newa, tr_anew, tr_new, tr_callV, tr_callS, tr_callI, tr_obj, tr_iret, tr_zret, tr_lret, tr_aret, tr_ret, Nat.reduceAdd, Nat.reduceMul, Nat.reduceDiv, Nat.reduceEqDiff, Nat.reduceLT, Nat.reduceLeDiff, ↓reduceIte, true_and, and_true, true_or, or_true, List.length_nil, List.length_cons, List.nil_append, List.cons_append, Option.toList_some, Option.toList_none, and_self, or_false, false_or, false_and, and_false, imp_self, forall_const, Nat.one_ne_zero, Nat.succ_ne_self, not_true_eq_false, not_false_eq_true, reduceCtorEq, Nat.add_eq_right, Nat.add_eq_left, Nat.add_left_cancel_iff, Nat.zero_add, Int32.reduceLT, Int32.reduceLE, Int32.reduceAdd, Int32.reduceSub, Int32.reduceMul, lg_cmp_ge, lg_cmp_le, lg_cmp_gt, lg_cmp_lt, lg_cmp_eq, i10, i01, eq_self, false_implies, true_implies, implies_true, mK_sI, mK_sL, mK_sR, mK_nw, mN_sI, mN_sL, mN_sR, mN_nw, mI_sI, mI_sL, mI_sR, mI_nw, mL_sI, mL_sL, mL_sR, mL_nw, mR_sI, mR_sL, mR_sR, mR_nw, mS_sI, mS_sL, mS_sR, mS_nw, mU_sI, mU_sL, mU_sR, mU_nw, go_1, csj, inl, lgn, lgc, hdo, List.head?_nil, Option.map_none, Option.map_some, cs, sh_x S, (sh_k2 S).1, (sh_k2 S).2, (sh_k4 S).1, (sh_k4 S).2, (sh_k9 S).1, (sh_k9 S).2, (sh_k12 S).1, (sh_k12 S).2, (sh_k1 S).1, (sh_k1 S).2, (sh_k17 S).1, (sh_k17 S).2, (sh_k3 S).1, (sh_k3 S).2, (sh_k5 S).1, (sh_k5 S).2, (sh_k6 S).1, (sh_k6 S).2, (sh_k7 S).1, (sh_k7 S).2, (sh_k8 S).1, (sh_k8 S).2, (sh_k10 S).1, (sh_k10 S).2, (sh_k11 S).1, (sh_k11 S).2, (sh_k13 S).1, (sh_k13 S).2, (sh_k14 S).1, (sh_k14 S).2, (sh_k15 S).1, (sh_k15 S).2, (sh_k16 S).1, (sh_k16 S).2, (sh_k18 S).1, (sh_k18 S).2, (sh_k19 S).1, (sh_k19 S).2, (sh_k20 S).1, (sh_k20 S).2, sh_Desk_teller S, sh_Desk_kinds S, sh_Desk_house S, sh_Desk_trays S, sh_Desk_acts S, sh_Desk_report S, sh_Kinds_all S, sh_House_all S, sh_House_firsts S, sh_House_open S, sh_Acts_of S, sh_Acts_values S, sh_Report_log S, sh_Report_failureOf S, sh_Report_failureBy S, sh_Report_failureAt S, sh_Teller_kinds S, sh_Teller_house S, sh_Teller_trays S, sh_Teller_acts S, sh_Teller_report S, sh_Teller_waiting S, sh_Teller_cues S, sh_Waiting_of S, sh_Waiting_values S, ha.1, hph, (hL m hm).1, a_X2_seat_0, a_X2_seat_1, a_X2_seat_4, a_X2_seat_7, a_X2_seat_8, a_X2_seat_11, a_X2_seat_14, a_X2_seat_17, a_X2_seat_18, a_X2_seat_19, a_X2_seat_22, a_X2_seat_23, a_X2_seat_26, a_X2_seat_27, a_X2_seat_28, a_X2_seat_29, a_X2_seat_30, a_X2_seat_33, a_X2_seat_34, a_X2_seat_35, a_X2_seat_38, a_X2_seat_39, a_X2_seat_40, a_X2_seat_43, a_X2_seat_44, a_X2_seat_45, a_X2_seat_48, a_X2_seat_49, a_X2_seat_50, a_X2_seat_51, a_X2_seat_54, a_X2_seat_55, a_X2_seat_58, a_X2_seat_59, a_X2_seat_60, a_X2_seat_61, a_X2_seat_64, a_X2_seat_65, a_X2_seat_66, a_X2_seat_69, a_X2_seat_72, a_X2_seat_73, a_X2_seat_74, a_X2_seat_75, a_X2_seat_78, a_X2_seat_79, a_X2_seat_82, a_X2_seat_83, a_X2_seat_84, a_X2_seat_87, a_X2_seat_88, a_X2_seat_91, a_X2_seat_92, a_X2_seat_95, a_X2_seat_96, a_X2_seat_99, a_X2_seat_100, a_X2_seat_101, a_X2_seat_104, a_X2_seat_105, a_X2_seat_106, a_X2_seat_109]
      exact hz
  | cons b t ih =>
    intro A hA h1 h2
    have hb : b ∈ L := by rw [hA]; exact List.mem_append_right _ List.mem_cons_self
    have b1 := (hL b hb).1
    have e0 : hdo la (b :: t) = some (la b) := rfl
    have e1 : mR M 512 (la b) 0 = hdo la t := Lk_hd h2.2
    by_cases c : aho (rk n) (dq n) (rk b) (dq b)
    · have hz := hq A (b :: t) hA ⟨h1, fun b' t' e => by cases e; exact c⟩
      rw [e0] at hz ⊢
      cases eA : A.getLast? with
      | none =>
        rw [eA] at hz
        refine runL 60 (tbk_X2_seat (cs_c mn_X5_isAheadOf c_ahead cs_n)) 60 ?_
        simp -implicitDefEqProofs +decide only [go_0, pI_i, pL_i, pA_i, pA_s, pV_i, oI_i, oL_i, oV_i, lk, rm1, rm2, isR_rf, isR_ref, isR_null, rfo_rf, rfo_ref, rfo_null, rf_some, rf_none, rf_eq_null, rf_eq_ref, ↓nl_n, ↓nl_r, nl_rf, cat_i, cat_l, cat_r, cat_n, cat_rf, lv_args, pN_0, pN_s, tr_ic, tr_lc, tr_null, tr_iload, tr_lload, tr_aload, tr_istore, tr_lstore, tr_astore, tr_iinc, tr_iadd, tr_isub, tr_imul, tr_iand, tr_irem, tr_ladd, tr_lsub, tr_land, tr_lor, tr_lshl, tr_ldiv, tr_lrem, tr_i2l, tr_l2i, tr_i2b, tr_lcmp, tr_dup, tr_dup2, tr_pop, tr_goto, tr_ifeq, tr_ifne, tr_iflt, tr_ifge, tr_ifgt, tr_ifle, tr_iceq, tr_icne, tr_iclt, tr_icge, tr_icgt, tr_icle, tr_ifnull, tr_ifnonnull, tr_sw, tr_getI, tr_getL, tr_getR, tr_putI, tr_putZ, tr_putL, tr_putR, tr_iald, tr_lald, tr_bald, tr_aald, tr_alen, tr_iast, tr_bast, tr_last, tr_aast, tr_newa, tr_anew, tr_new, tr_callV, tr_callS, tr_callI, tr_obj, tr_iret, tr_zret, tr_lret, tr_aret, tr_ret, Nat.reduceAdd, Nat.reduceMul, Nat.reduceDiv, Nat.reduceEqDiff, Nat.reduceLT, Nat.reduceLeDiff, ↓reduceIte, true_and, and_true, true_or, or_true, List.length_nil, List.length_cons, List.nil_append, List.cons_append, Option.toList_some, Option.toList_none, and_self, or_false, false_or, false_and, and_false, imp_self, forall_const, Nat.one_ne_zero, Nat.succ_ne_self, not_true_eq_false, not_false_eq_true, reduceCtorEq, Nat.add_eq_right, Nat.add_eq_left, Nat.add_left_cancel_iff, Nat.zero_add, Int32.reduceLT, Int32.reduceLE, Int32.reduceAdd, Int32.reduceSub, Int32.reduceMul, lg_cmp_ge, lg_cmp_le, lg_cmp_gt, lg_cmp_lt, lg_cmp_eq, i10, i01, eq_self, false_implies, true_implies, implies_true, mK_sI, mK_sL, mK_sR, mK_nw, mN_sI, mN_sL, mN_sR, mN_nw, mI_sI, mI_sL, mI_sR, mI_nw, mL_sI, mL_sL, mL_sR, mL_nw, mR_sI, mR_sL, mR_sR, mR_nw, mS_sI, mS_sL, mS_sR, mS_nw, mU_sI, mU_sL, mU_sR, mU_nw, go_1, csj, inl, lgn, lgc, cs, sp_ahead, Option.map_none, sh_x S, (sh_k2 S).1, (sh_k2 S).2, (sh_k4 S).1, (sh_k4 S).2, (sh_k9 S).1, (sh_k9 S).2, (sh_k12 S).1, (sh_k12 S).2, (sh_k1 S).1, (sh_k1 S).2, (sh_k17 S).1, (sh_k17 S).2, (sh_k3 S).1, (sh_k3 S).2, (sh_k5 S).1, (sh_k5 S).2, (sh_k6 S).1, (sh_k6 S).2, (sh_k7 S).1, (sh_k7 S).2, (sh_k8 S).1, (sh_k8 S).2, (sh_k10 S).1, (sh_k10 S).2, (sh_k11 S).1, (sh_k11 S).2, (sh_k13 S).1, (sh_k13 S).2, (sh_k14 S).1, (sh_k14 S).2, (sh_k15 S).1, (sh_k15 S).2, (sh_k16 S).1, (sh_k16 S).2, (sh_k18 S).1, (sh_k18 S).2, (sh_k19 S).1, (sh_k19 S).2, (sh_k20 S).1, (sh_k20 S).2, sh_Desk_teller S, sh_Desk_kinds S, sh_Desk_house S, sh_Desk_trays S, sh_Desk_acts S, sh_Desk_report S, sh_Kinds_all S, sh_House_all S, sh_House_firsts S, sh_House_open S, sh_Acts_of S, sh_Acts_values S, sh_Report_log S, sh_Report_failureOf S, sh_Report_failureBy S, sh_Report_failureAt S, sh_Teller_kinds S, sh_Teller_house S, sh_Teller_trays S, sh_Teller_acts S, sh_Teller_report S, sh_Teller_waiting S, sh_Teller_cues S, sh_Waiting_of S, sh_Waiting_values S, ha.1, hph, b1, nI_clamp (show p < 2 ^ 31 by omega), vp_in_nI (show p < 3 by omega) (by decide), a_X2_seat_0, a_X2_seat_1, a_X2_seat_4, a_X2_seat_7, a_X2_seat_8, a_X2_seat_11, a_X2_seat_14, a_X2_seat_17, a_X2_seat_18, a_X2_seat_19, a_X2_seat_22, a_X2_seat_23, a_X2_seat_26, a_X2_seat_27, a_X2_seat_28, a_X2_seat_29, a_X2_seat_30, a_X2_seat_33, a_X2_seat_34, a_X2_seat_35, a_X2_seat_38, a_X2_seat_39, a_X2_seat_40, a_X2_seat_43, a_X2_seat_44, a_X2_seat_45, a_X2_seat_48, a_X2_seat_49, a_X2_seat_50, a_X2_seat_51, a_X2_seat_54, a_X2_seat_55, a_X2_seat_58, a_X2_seat_59, a_X2_seat_60, a_X2_seat_61, a_X2_seat_64, a_X2_seat_65, a_X2_seat_66, a_X2_seat_69, a_X2_seat_72, a_X2_seat_73, a_X2_seat_74, a_X2_seat_75, a_X2_seat_78, a_X2_seat_79, a_X2_seat_82, a_X2_seat_83, a_X2_seat_84, a_X2_seat_87, a_X2_seat_88, a_X2_seat_91, a_X2_seat_92, a_X2_seat_95, a_X2_seat_96, a_X2_seat_99, a_X2_seat_100, a_X2_seat_101, a_X2_seat_104, a_X2_seat_105, a_X2_seat_106, a_X2_seat_109]
        refine ⟨_, _, _, _, ha, hL b hb, fun _ => ⟨fun b hb => ?_, hz⟩, fun q => absurd c q⟩
        cases hb; exact ha.1
      | some m =>
        rw [eA] at hz
        have hm : m ∈ L := by rw [hA]; exact List.mem_append_left _ (List.mem_of_getLast? eA)
        refine runL 60 (tbk_X2_seat (cs_c mn_X5_isAheadOf c_ahead cs_n)) 60 ?_
        simp -implicitDefEqProofs +decide only [go_0, pI_i, pL_i, pA_i, pA_s, pV_i, oI_i, oL_i, oV_i, lk, rm1, rm2, isR_rf, isR_ref, isR_null, rfo_rf, rfo_ref, rfo_null, rf_some, rf_none, rf_eq_null, rf_eq_ref, ↓nl_n, ↓nl_r, nl_rf, cat_i, cat_l, cat_r, cat_n, cat_rf, lv_args, pN_0, pN_s, tr_ic, tr_lc, tr_null, tr_iload, tr_lload, tr_aload, tr_istore, tr_lstore, tr_astore, tr_iinc, tr_iadd, tr_isub, tr_imul, tr_iand, tr_irem, tr_ladd, tr_lsub, tr_land, tr_lor, tr_lshl, tr_ldiv, tr_lrem, tr_i2l, tr_l2i, tr_i2b, tr_lcmp, tr_dup, tr_dup2, tr_pop, tr_goto, tr_ifeq, tr_ifne, tr_iflt, tr_ifge, tr_ifgt, tr_ifle, tr_iceq, tr_icne, tr_iclt, tr_icge, tr_icgt, tr_icle, tr_ifnull, tr_ifnonnull, tr_sw, tr_getI, tr_getL, tr_getR, tr_putI, tr_putZ, tr_putL, tr_putR, tr_iald, tr_lald, tr_bald, tr_aald, tr_alen, tr_iast, tr_bast, tr_last, tr_aast, tr_newa, tr_anew, tr_new, tr_callV, tr_callS, tr_callI, tr_obj, tr_iret, tr_zret, tr_lret, tr_aret, tr_ret, Nat.reduceAdd, Nat.reduceMul, Nat.reduceDiv, Nat.reduceEqDiff, Nat.reduceLT, Nat.reduceLeDiff, ↓reduceIte, true_and, and_true, true_or, or_true, List.length_nil, List.length_cons, List.nil_append, List.cons_append, Option.toList_some, Option.toList_none, and_self, or_false, false_or, false_and, and_false, imp_self, forall_const, Nat.one_ne_zero, Nat.succ_ne_self, not_true_eq_false, not_false_eq_true, reduceCtorEq, Nat.add_eq_right, Nat.add_eq_left, Nat.add_left_cancel_iff, Nat.zero_add, Int32.reduceLT, Int32.reduceLE, Int32.reduceAdd, Int32.reduceSub, Int32.reduceMul, lg_cmp_ge, lg_cmp_le, lg_cmp_gt, lg_cmp_lt, lg_cmp_eq, i10, i01, eq_self, false_implies, true_implies, implies_true, mK_sI, mK_sL, mK_sR, mK_nw, mN_sI, mN_sL, mN_sR, mN_nw, mI_sI, mI_sL, mI_sR, mI_nw, mL_sI, mL_sL, mL_sR, mL_nw, mR_sI, mR_sL, mR_sR, mR_nw, mS_sI, mS_sL, mS_sR, mS_nw, mU_sI, mU_sL, mU_sR, mU_nw, go_1, csj, inl, lgn, lgc, cs, sp_ahead, Option.map_some, sh_x S, (sh_k2 S).1, (sh_k2 S).2, (sh_k4 S).1, (sh_k4 S).2, (sh_k9 S).1, (sh_k9 S).2, (sh_k12 S).1, (sh_k12 S).2, (sh_k1 S).1, (sh_k1 S).2, (sh_k17 S).1, (sh_k17 S).2, (sh_k3 S).1, (sh_k3 S).2, (sh_k5 S).1, (sh_k5 S).2, (sh_k6 S).1, (sh_k6 S).2, (sh_k7 S).1, (sh_k7 S).2, (sh_k8 S).1, (sh_k8 S).2, (sh_k10 S).1, (sh_k10 S).2, (sh_k11 S).1, (sh_k11 S).2, (sh_k13 S).1, (sh_k13 S).2, (sh_k14 S).1, (sh_k14 S).2, (sh_k15 S).1, (sh_k15 S).2, (sh_k16 S).1, (sh_k16 S).2, (sh_k18 S).1, (sh_k18 S).2, (sh_k19 S).1, (sh_k19 S).2, (sh_k20 S).1, (sh_k20 S).2, sh_Desk_teller S, sh_Desk_kinds S, sh_Desk_house S, sh_Desk_trays S, sh_Desk_acts S, sh_Desk_report S, sh_Kinds_all S, sh_House_all S, sh_House_firsts S, sh_House_open S, sh_Acts_of S, sh_Acts_values S, sh_Report_log S, sh_Report_failureOf S, sh_Report_failureBy S, sh_Report_failureAt S, sh_Teller_kinds S, sh_Teller_house S, sh_Teller_trays S, sh_Teller_acts S, sh_Teller_report S, sh_Teller_waiting S, sh_Teller_cues S, sh_Waiting_of S, sh_Waiting_values S, ha.1, hph, b1, (hL m hm).1, a_X2_seat_0, a_X2_seat_1, a_X2_seat_4, a_X2_seat_7, a_X2_seat_8, a_X2_seat_11, a_X2_seat_14, a_X2_seat_17, a_X2_seat_18, a_X2_seat_19, a_X2_seat_22, a_X2_seat_23, a_X2_seat_26, a_X2_seat_27, a_X2_seat_28, a_X2_seat_29, a_X2_seat_30, a_X2_seat_33, a_X2_seat_34, a_X2_seat_35, a_X2_seat_38, a_X2_seat_39, a_X2_seat_40, a_X2_seat_43, a_X2_seat_44, a_X2_seat_45, a_X2_seat_48, a_X2_seat_49, a_X2_seat_50, a_X2_seat_51, a_X2_seat_54, a_X2_seat_55, a_X2_seat_58, a_X2_seat_59, a_X2_seat_60, a_X2_seat_61, a_X2_seat_64, a_X2_seat_65, a_X2_seat_66, a_X2_seat_69, a_X2_seat_72, a_X2_seat_73, a_X2_seat_74, a_X2_seat_75, a_X2_seat_78, a_X2_seat_79, a_X2_seat_82, a_X2_seat_83, a_X2_seat_84, a_X2_seat_87, a_X2_seat_88, a_X2_seat_91, a_X2_seat_92, a_X2_seat_95, a_X2_seat_96, a_X2_seat_99, a_X2_seat_100, a_X2_seat_101, a_X2_seat_104, a_X2_seat_105, a_X2_seat_106, a_X2_seat_109]
        exact ⟨_, _, _, _, ha, hL b hb, fun _ => hz, fun q => absurd c q⟩
    · rw [e0]
      refine runL 60 (tbk_X2_seat (cs_c mn_X5_isAheadOf c_ahead cs_n)) 60 ?_
      simp -implicitDefEqProofs +decide only [go_0, pI_i, pL_i, pA_i, pA_s, pV_i, oI_i, oL_i, oV_i, lk, rm1, rm2, isR_rf, isR_ref, isR_null, rfo_rf, rfo_ref, rfo_null, rf_some, rf_none, rf_eq_null, rf_eq_ref, ↓nl_n, ↓nl_r, nl_rf, cat_i, cat_l, cat_r, cat_n, cat_rf, lv_args, pN_0, pN_s, tr_ic, tr_lc, tr_null, tr_iload, tr_lload, tr_aload, tr_istore, tr_lstore, tr_astore, tr_iinc, tr_iadd, tr_isub, tr_imul, tr_iand, tr_irem, tr_ladd, tr_lsub, tr_land, tr_lor, tr_lshl, tr_ldiv, tr_lrem, tr_i2l, tr_l2i, tr_i2b, tr_lcmp, tr_dup, tr_dup2, tr_pop, tr_goto, tr_ifeq, tr_ifne, tr_iflt, tr_ifge, tr_ifgt, tr_ifle, tr_iceq, tr_icne, tr_iclt, tr_icge, tr_icgt, tr_icle, tr_ifnull, tr_ifnonnull, tr_sw, tr_getI, tr_getL, tr_getR, tr_putI, tr_putZ, tr_putL, tr_putR, tr_iald, tr_lald, tr_bald, tr_aald, tr_alen, tr_iast, tr_bast, tr_last, tr_aast, tr_newa, tr_anew, tr_new, tr_callV, tr_callS, tr_callI, tr_obj, tr_iret, tr_zret, tr_lret, tr_aret, tr_ret, Nat.reduceAdd, Nat.reduceMul, Nat.reduceDiv, Nat.reduceEqDiff, Nat.reduceLT, Nat.reduceLeDiff, ↓reduceIte, true_and, and_true, true_or, or_true, List.length_nil, List.length_cons, List.nil_append, List.cons_append, Option.toList_some, Option.toList_none, and_self, or_false, false_or, false_and, and_false, imp_self, forall_const, Nat.one_ne_zero, Nat.succ_ne_self, not_true_eq_false, not_false_eq_true, reduceCtorEq, Nat.add_eq_right, Nat.add_eq_left, Nat.add_left_cancel_iff, Nat.zero_add, Int32.reduceLT, Int32.reduceLE, Int32.reduceAdd, Int32.reduceSub, Int32.reduceMul, lg_cmp_ge, lg_cmp_le, lg_cmp_gt, lg_cmp_lt, lg_cmp_eq, i10, i01, eq_self, false_implies, true_implies, implies_true, mK_sI, mK_sL, mK_sR, mK_nw, mN_sI, mN_sL, mN_sR, mN_nw, mI_sI, mI_sL, mI_sR, mI_nw, mL_sI, mL_sL, mL_sR, mL_nw, mR_sI, mR_sL, mR_sR, mR_nw, mS_sI, mS_sL, mS_sR, mS_nw, mU_sI, mU_sL, mU_sR, mU_nw, go_1, csj, inl, lgn, lgc, cs, sp_ahead, sh_x S, (sh_k2 S).1, (sh_k2 S).2, (sh_k4 S).1, (sh_k4 S).2, (sh_k9 S).1, (sh_k9 S).2, (sh_k12 S).1, (sh_k12 S).2, (sh_k1 S).1, (sh_k1 S).2, (sh_k17 S).1, (sh_k17 S).2, (sh_k3 S).1, (sh_k3 S).2, (sh_k5 S).1, (sh_k5 S).2, (sh_k6 S).1, (sh_k6 S).2, (sh_k7 S).1, (sh_k7 S).2, (sh_k8 S).1, (sh_k8 S).2, (sh_k10 S).1, (sh_k10 S).2, (sh_k11 S).1, (sh_k11 S).2, (sh_k13 S).1, (sh_k13 S).2, (sh_k14 S).1, (sh_k14 S).2, (sh_k15 S).1, (sh_k15 S).2, (sh_k16 S).1, (sh_k16 S).2, (sh_k18 S).1, (sh_k18 S).2, (sh_k19 S).1, (sh_k19 S).2, (sh_k20 S).1, (sh_k20 S).2, sh_Desk_teller S, sh_Desk_kinds S, sh_Desk_house S, sh_Desk_trays S, sh_Desk_acts S, sh_Desk_report S, sh_Kinds_all S, sh_House_all S, sh_House_firsts S, sh_House_open S, sh_Acts_of S, sh_Acts_values S, sh_Report_log S, sh_Report_failureOf S, sh_Report_failureBy S, sh_Report_failureAt S, sh_Teller_kinds S, sh_Teller_house S, sh_Teller_trays S, sh_Teller_acts S, sh_Teller_report S, sh_Teller_waiting S, sh_Teller_cues S, sh_Waiting_of S, sh_Waiting_values S, ha.1, hph, b1, e1, a_X2_seat_0, a_X2_seat_1, a_X2_seat_4, a_X2_seat_7, a_X2_seat_8, a_X2_seat_11, a_X2_seat_14, a_X2_seat_17, a_X2_seat_18, a_X2_seat_19, a_X2_seat_22, a_X2_seat_23, a_X2_seat_26, a_X2_seat_27, a_X2_seat_28, a_X2_seat_29, a_X2_seat_30, a_X2_seat_33, a_X2_seat_34, a_X2_seat_35, a_X2_seat_38, a_X2_seat_39, a_X2_seat_40, a_X2_seat_43, a_X2_seat_44, a_X2_seat_45, a_X2_seat_48, a_X2_seat_49, a_X2_seat_50, a_X2_seat_51, a_X2_seat_54, a_X2_seat_55, a_X2_seat_58, a_X2_seat_59, a_X2_seat_60, a_X2_seat_61, a_X2_seat_64, a_X2_seat_65, a_X2_seat_66, a_X2_seat_69, a_X2_seat_72, a_X2_seat_73, a_X2_seat_74, a_X2_seat_75, a_X2_seat_78, a_X2_seat_79, a_X2_seat_82, a_X2_seat_83, a_X2_seat_84, a_X2_seat_87, a_X2_seat_88, a_X2_seat_91, a_X2_seat_92, a_X2_seat_95, a_X2_seat_96, a_X2_seat_99, a_X2_seat_100, a_X2_seat_101, a_X2_seat_104, a_X2_seat_105, a_X2_seat_106, a_X2_seat_109]
      refine ⟨_, _, _, _, ha, hL b hb, fun q => absurd q c, fun _ => ?_⟩
      have := ih (A ++ [b]) (by rw [hA, List.append_assoc]; rfl) (fun m hm => by
        rcases List.mem_append.mp hm with hm | hm
        · exact h1 m hm
        · rw [List.mem_singleton.mp hm]; exact c) (by rw [← e1]; exact h2.2)
      rw [List.getLast?_append, List.getLast?_singleton] at this
      refine wp_sub ?_ this
      intro q hq
      simp only [List.mem_cons, List.not_mem_nil, or_false] at hq ⊢
      rcases hq with rfl | rfl | rfl | rfl <;> simp [rf_some]
set_option maxRecDepth 20000 in
theorem l_seat {D : DD} {d : Nat} {M0 M : Mem} {x a p n : Nat} {la : Nat → Nat} {rk : Nat → Int32} {dq : Nat → Nat} {L : List Nat} {Q : Qt} {f : Option Nat} (S : SH M x) (hp : p < 3) (hph : (mI M 502 (a) 0) = nI p) (ha : Ld M a (rk n) (dq n)) (hL : ∀ m ∈ L, Ld M (la m) (rk m) (dq m)) (hne : ∀ m ∈ L, la m ≠ a) (hf : (mR M 6006016 (x + 6) (p)) = f) (hlk : Lk (fun b => mR M 512 b 0) la (mR M 6006016 (x + 6) (p)) L)
    (hq : ∀ A B, L = A ++ B → InsAt rk dq n A B → Q (match A.getLast? with | none => sR (sR M 512 a 0 (hdo la B)) 6006016 (x + 6) p (some a) | some m => sR (sR M 512 a 0 (hdo la B)) 512 (la m) 0 (some a)) none) : wp D (d + 2) mi_X2_seat M0 M 60 [(0, .ref (x + 4)), (1, .ref a), (2, .null), (3, va_rf f)] [] Q := by
  have e := Lk_hd hlk
  have := l_link (D := D) (d := d) (M0 := M0) (M := M) S hp hph ha hL hne hq L [] rfl (fun m hm => absurd hm List.not_mem_nil) (by rw [← e]; exact hlk)
  rw [← e, hf] at this
  exact this
/-! orders -/
theorem ah_of_naho {rk : Nat → Int32} {dq : Nat → Nat} {n m : Nat} (h : ¬ aho (rk n) (dq n) (rk m) (dq m)) (hm : m < n) : ah rk dq m n := by
  unfold aho at h
  unfold ah
  by_cases e : rk m = rk n
  · refine Or.inr ⟨e, ?_⟩
    by_cases e2 : dq n < dq m
    · exact Or.inl e2
    · refine Or.inr ⟨?_, hm⟩
      have : ¬ dq m < dq n := fun q => h (Or.inr ⟨e.symm, q⟩)
      omega
  · refine Or.inl ?_
    have h1 : ¬ rk m < rk n := fun q => h (Or.inl q)
    rw [Int32.lt_iff_toInt_lt] at h1 ⊢
    have h2 : (rk m).toInt ≠ (rk n).toInt := fun q => e (Int32.toInt_inj.mp q)
    omega
theorem ah_of_aho {rk : Nat → Int32} {dq : Nat → Nat} {n m : Nat} (h : aho (rk n) (dq n) (rk m) (dq m)) : ah rk dq n m := by
  rcases h with h | h
  · exact Or.inl h
  · exact Or.inr ⟨h.1, Or.inl h.2⟩
theorem ah_tr {rk : Nat → Int32} {dq : Nat → Nat} {a b c : Nat} (h1 : ah rk dq a b) (h2 : ah rk dq b c) : ah rk dq a c := by
  unfold ah at *
  rcases h1 with h1 | ⟨e1, h1⟩
  · rcases h2 with h2 | ⟨e2, h2⟩
    · left; rw [Int32.lt_iff_toInt_lt] at *; omega
    · left; rw [← e2]; exact h1
  · rcases h2 with h2 | ⟨e2, h2⟩
    · left; rw [e1]; exact h2
    · right
      refine ⟨e1.trans e2, ?_⟩
      rcases h1 with h1 | ⟨g1, h1⟩
      · rcases h2 with h2 | ⟨g2, h2⟩
        · left; omega
        · left; omega
      · rcases h2 with h2 | ⟨g2, h2⟩
        · left; omega
        · right; exact ⟨by omega, by omega⟩
theorem ah_ir {rk : Nat → Int32} {dq : Nat → Nat} {a : Nat} (h : ah rk dq a a) : False := by
  unfold ah at h
  rcases h with h | ⟨_, h | ⟨_, h⟩⟩
  · rw [Int32.lt_iff_toInt_lt] at h; omega
  · omega
  · omega
theorem pw_ins {rk : Nat → Int32} {dq : Nat → Nat} {n : Nat} {A B : List Nat} (hA : ∀ m ∈ A ++ B, m < n) (hpw : (A ++ B).Pairwise (ah rk dq)) (hi : InsAt rk dq n A B) : (A ++ n :: B).Pairwise (ah rk dq) := by
  rw [List.pairwise_append] at hpw ⊢
  obtain ⟨p1, p2, p3⟩ := hpw
  have hB : ∀ m ∈ B, ah rk dq n m := by
    intro m hm
    cases B with
    | nil => cases hm
    | cons b t =>
      have h1 := ah_of_aho (hi.2 b t rfl)
      rcases List.mem_cons.mp hm with rfl | hm
      · exact h1
      · exact ah_tr h1 ((List.pairwise_cons.mp p2).1 m hm)
  refine ⟨p1, List.pairwise_cons.mpr ⟨hB, p2⟩, fun m hm q hq => ?_⟩
  rcases List.mem_cons.mp hq with rfl | hq
  · exact ah_of_naho (hi.1 m hm) (hA m (List.mem_append_left _ hm))
  · exact p3 m hm q hq
