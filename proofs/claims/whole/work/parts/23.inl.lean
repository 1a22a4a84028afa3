/-! Math.max and Math.min, by the kit's own rows -/
def tr_mmax (n : Nat) (lv : LV) (st : List Value) (M : Mem) (k : Kt) (_ : Qt) : Prop := pI st (fun y r => pI r (fun x r => r.length ≤ 4 ∧ k n lv (.int (if x < y then y else x) :: r) M))
def tr_mmin (n : Nat) (lv : LV) (st : List Value) (M : Mem) (k : Kt) (_ : Qt) : Prop := pI st (fun y r => pI r (fun x r => r.length ≤ 4 ∧ k n lv (.int (if y < x then y else x) :: r) M))
theorem ok_mmax {D : DD} {d : Nat} {μ : MI} {pc idx : Nat} (hd : decode μ.2.1 pc = .ok (.invokestatic idx, 3)) (h1 : Cond.methodLink μ.1.cls idx Lib.Math.max.name ∈ gW) (h2 : Cond.static Lib.Math.max.name ∈ gW) (h3 : Cond.initialized "java/lang/Math" ∈ gW) (h4 : Cond.code Lib.Math.max.name Lib.Math.max.code 2 (some .int) ∈ gW) : TrOk D (d + 1) μ pc (tr_mmax (pc + 3)) := fun M0 lv st M kt Q hkt h => by
  obtain ⟨y, r1, rfl, hA⟩ := pI_e h
  obtain ⟨x, r2, rfl, hr, hB⟩ := pI_e hA
  intro hE
  obtain ⟨Me, r, q1, q2, q3⟩ := hkt _ _ _ _ hB hE
  refine ⟨Me, r, q1, q2, ?_⟩
  intro p l e s m args below meth c hC hz H locs ls hH hS hl
  have hts := hC.2.2.2.2.1
  have b1 := q2.1
  have b2 := q2.2.1
  have h8 := room4 hr
  exact va_mmax hC.1 hC.2.1 (by rw [hC.2.2.1]; exact hl.1.symm) hC.2.2.2.1 (hts _ h1) (hts _ h2) (hts _ h3) (hts _ h4) (by show 1 ≤ d + 1; omega) (by show _ ≤ 40 * (d + 1); omega) (by show mS M - mS M0 ≤ mS Me - mS M0; omega) (by show mU M - mU M0 ≤ mU Me - mU M0; omega) hd (q3 p l e s m args below meth c hC hz H locs ls hH hS hl)
theorem ok_mmin {D : DD} {d : Nat} {μ : MI} {pc idx : Nat} (hd : decode μ.2.1 pc = .ok (.invokestatic idx, 3)) (h1 : Cond.methodLink μ.1.cls idx Lib.Math.min.name ∈ gW) (h2 : Cond.static Lib.Math.min.name ∈ gW) (h3 : Cond.initialized "java/lang/Math" ∈ gW) (h4 : Cond.code Lib.Math.min.name Lib.Math.min.code 2 (some .int) ∈ gW) : TrOk D (d + 1) μ pc (tr_mmin (pc + 3)) := fun M0 lv st M kt Q hkt h => by
  obtain ⟨y, r1, rfl, hA⟩ := pI_e h
  obtain ⟨x, r2, rfl, hr, hB⟩ := pI_e hA
  intro hE
  obtain ⟨Me, r, q1, q2, q3⟩ := hkt _ _ _ _ hB hE
  refine ⟨Me, r, q1, q2, ?_⟩
  intro p l e s m args below meth c hC hz H locs ls hH hS hl
  have hts := hC.2.2.2.2.1
  have b1 := q2.1
  have b2 := q2.2.1
  have h8 := room4 hr
  exact va_mmin hC.1 hC.2.1 (by rw [hC.2.2.1]; exact hl.1.symm) hC.2.2.2.1 (hts _ h1) (hts _ h2) (hts _ h3) (hts _ h4) (by show 1 ≤ d + 1; omega) (by show _ ≤ 40 * (d + 1); omega) (by show mS M - mS M0 ≤ mS Me - mS M0; omega) (by show mU M - mU M0 ≤ mU Me - mU M0; omega) hd (q3 p l e s m args below meth c hC hz H locs ls hH hS hl)
def tbm_X7_addCue (C : Nat → Sp) (pc : Nat) : Tr := bif Nat.beq 16 pc then tr_mmax 19 else tb_X7_addCue C pc
def tbm_X0_moveBack (C : Nat → Sp) (pc : Nat) : Tr := bif Nat.beq 5 pc then tr_mmin 8 else tb_X0_moveBack C pc
theorem tk_m {D : DD} {d : Nat} {μ : MI} {pc k : Nat} {t u : Tr} (h : TrOk D d μ k t) (h2 : TrOk D d μ pc u) : TrOk D d μ pc (bif Nat.beq k pc then t else u) := by
  cases e : Nat.beq k pc with
  | true =>
    have e' : k = pc := Nat.eq_of_beq_eq_true e
    simp only [cond_true]
    rw [← e']
    exact h
  | false => simp only [cond_false]; exact h2
theorem tbkm_X7_addCue {D : DD} {d : Nat} {C : Nat → Sp} (hC : Snd D d C) (pc : Nat) : TrOk D (d + 1) mi_X7_addCue pc (tbm_X7_addCue C pc) := tk_m (ok_mmax (show decode mi_X7_addCue.2.1 16 = .ok (.invokestatic 47, 3) from by decide +kernel) (gm 569 (by decide +kernel) rfl) (gm 570 (by decide +kernel) rfl) mok_Math_max.2.1 mok_Math_max.1) (tbk_X7_addCue hC pc)
theorem tbkm_X0_moveBack {D : DD} {d : Nat} {C : Nat → Sp} (hC : Snd D d C) (pc : Nat) : TrOk D (d + 1) mi_X0_moveBack pc (tbm_X0_moveBack C pc) := tk_m (ok_mmin (show decode mi_X0_moveBack.2.1 5 = .ok (.invokestatic 32, 3) from by decide +kernel) (gm 724 (by decide +kernel) rfl) (gm 725 (by decide +kernel) rfl) mok_Math_min.2.1 mok_Math_min.1) (tbk_X0_moveBack hC pc)
theorem am_X7_addCue_0 (C : Nat → Sp) : tbm_X7_addCue C 0 = tb_X7_addCue C 0 := rfl
theorem am_X7_addCue_1 (C : Nat → Sp) : tbm_X7_addCue C 1 = tb_X7_addCue C 1 := rfl
theorem am_X7_addCue_2 (C : Nat → Sp) : tbm_X7_addCue C 2 = tb_X7_addCue C 2 := rfl
theorem am_X7_addCue_5 (C : Nat → Sp) : tbm_X7_addCue C 5 = tb_X7_addCue C 5 := rfl
theorem am_X7_addCue_6 (C : Nat → Sp) : tbm_X7_addCue C 6 = tb_X7_addCue C 6 := rfl
theorem am_X7_addCue_7 (C : Nat → Sp) : tbm_X7_addCue C 7 = tb_X7_addCue C 7 := rfl
theorem am_X7_addCue_10 (C : Nat → Sp) : tbm_X7_addCue C 10 = tb_X7_addCue C 10 := rfl
theorem am_X7_addCue_11 (C : Nat → Sp) : tbm_X7_addCue C 11 = tb_X7_addCue C 11 := rfl
theorem am_X7_addCue_12 (C : Nat → Sp) : tbm_X7_addCue C 12 = tb_X7_addCue C 12 := rfl
theorem am_X7_addCue_15 (C : Nat → Sp) : tbm_X7_addCue C 15 = tb_X7_addCue C 15 := rfl
theorem am_X7_addCue_16 (C : Nat → Sp) : tbm_X7_addCue C 16 = tr_mmax 19 := rfl
theorem am_X7_addCue_19 (C : Nat → Sp) : tbm_X7_addCue C 19 = tb_X7_addCue C 19 := rfl
theorem am_X7_addCue_22 (C : Nat → Sp) : tbm_X7_addCue C 22 = tb_X7_addCue C 22 := rfl
theorem am_X0_moveBack_0 (C : Nat → Sp) : tbm_X0_moveBack C 0 = tb_X0_moveBack C 0 := rfl
theorem am_X0_moveBack_1 (C : Nat → Sp) : tbm_X0_moveBack C 1 = tb_X0_moveBack C 1 := rfl
theorem am_X0_moveBack_2 (C : Nat → Sp) : tbm_X0_moveBack C 2 = tb_X0_moveBack C 2 := rfl
theorem am_X0_moveBack_5 (C : Nat → Sp) : tbm_X0_moveBack C 5 = tr_mmin 8 := rfl
theorem am_X0_moveBack_8 (C : Nat → Sp) : tbm_X0_moveBack C 8 = tb_X0_moveBack C 8 := rfl
theorem am_X0_moveBack_9 (C : Nat → Sp) : tbm_X0_moveBack C 9 = tb_X0_moveBack C 9 := rfl
theorem am_X0_moveBack_10 (C : Nat → Sp) : tbm_X0_moveBack C 10 = tb_X0_moveBack C 10 := rfl
theorem am_X0_moveBack_11 (C : Nat → Sp) : tbm_X0_moveBack C 11 = tb_X0_moveBack C 11 := rfl
theorem am_X0_moveBack_12 (C : Nat → Sp) : tbm_X0_moveBack C 12 = tb_X0_moveBack C 12 := rfl
theorem am_X0_moveBack_13 (C : Nat → Sp) : tbm_X0_moveBack C 13 = tb_X0_moveBack C 13 := rfl
theorem am_X0_moveBack_16 (C : Nat → Sp) : tbm_X0_moveBack C 16 = tb_X0_moveBack C 16 := rfl
theorem am_X0_moveBack_17 (C : Nat → Sp) : tbm_X0_moveBack C 17 = tb_X0_moveBack C 17 := rfl
theorem am_X0_moveBack_18 (C : Nat → Sp) : tbm_X0_moveBack C 18 = tb_X0_moveBack C 18 := rfl
theorem am_X0_moveBack_21 (C : Nat → Sp) : tbm_X0_moveBack C 21 = tb_X0_moveBack C 21 := rfl
theorem am_X0_moveBack_23 (C : Nat → Sp) : tbm_X0_moveBack C 23 = tb_X0_moveBack C 23 := rfl
theorem am_X0_moveBack_24 (C : Nat → Sp) : tbm_X0_moveBack C 24 = tb_X0_moveBack C 24 := rfl
theorem am_X0_moveBack_25 (C : Nat → Sp) : tbm_X0_moveBack C 25 = tb_X0_moveBack C 25 := rfl
theorem am_X0_moveBack_26 (C : Nat → Sp) : tbm_X0_moveBack C 26 = tb_X0_moveBack C 26 := rfl
theorem am_X0_moveBack_28 (C : Nat → Sp) : tbm_X0_moveBack C 28 = tb_X0_moveBack C 28 := rfl
theorem am_X0_moveBack_29 (C : Nat → Sp) : tbm_X0_moveBack C 29 = tb_X0_moveBack C 29 := rfl
theorem am_X0_moveBack_32 (C : Nat → Sp) : tbm_X0_moveBack C 32 = tb_X0_moveBack C 32 := rfl
theorem am_X0_moveBack_33 (C : Nat → Sp) : tbm_X0_moveBack C 33 = tb_X0_moveBack C 33 := rfl
theorem am_X0_moveBack_36 (C : Nat → Sp) : tbm_X0_moveBack C 36 = tb_X0_moveBack C 36 := rfl
theorem am_X0_moveBack_37 (C : Nat → Sp) : tbm_X0_moveBack C 37 = tb_X0_moveBack C 37 := rfl
theorem am_X0_moveBack_40 (C : Nat → Sp) : tbm_X0_moveBack C 40 = tb_X0_moveBack C 40 := rfl
theorem am_X0_moveBack_41 (C : Nat → Sp) : tbm_X0_moveBack C 41 = tb_X0_moveBack C 41 := rfl
theorem am_X0_moveBack_43 (C : Nat → Sp) : tbm_X0_moveBack C 43 = tb_X0_moveBack C 43 := rfl
theorem am_X0_moveBack_45 (C : Nat → Sp) : tbm_X0_moveBack C 45 = tb_X0_moveBack C 45 := rfl
theorem am_X0_moveBack_48 (C : Nat → Sp) : tbm_X0_moveBack C 48 = tb_X0_moveBack C 48 := rfl
theorem am_X0_moveBack_50 (C : Nat → Sp) : tbm_X0_moveBack C 50 = tb_X0_moveBack C 50 := rfl
theorem am_X0_moveBack_51 (C : Nat → Sp) : tbm_X0_moveBack C 51 = tb_X0_moveBack C 51 := rfl
theorem am_X0_moveBack_54 (C : Nat → Sp) : tbm_X0_moveBack C 54 = tb_X0_moveBack C 54 := rfl
theorem am_X0_moveBack_55 (C : Nat → Sp) : tbm_X0_moveBack C 55 = tb_X0_moveBack C 55 := rfl
theorem am_X0_moveBack_58 (C : Nat → Sp) : tbm_X0_moveBack C 58 = tb_X0_moveBack C 58 := rfl
theorem am_X0_moveBack_59 (C : Nat → Sp) : tbm_X0_moveBack C 59 = tb_X0_moveBack C 59 := rfl
theorem am_X0_moveBack_62 (C : Nat → Sp) : tbm_X0_moveBack C 62 = tb_X0_moveBack C 62 := rfl
theorem am_X0_moveBack_63 (C : Nat → Sp) : tbm_X0_moveBack C 63 = tb_X0_moveBack C 63 := rfl
theorem am_X0_moveBack_64 (C : Nat → Sp) : tbm_X0_moveBack C 64 = tb_X0_moveBack C 64 := rfl
theorem am_X0_moveBack_67 (C : Nat → Sp) : tbm_X0_moveBack C 67 = tb_X0_moveBack C 67 := rfl
theorem am_X0_moveBack_70 (C : Nat → Sp) : tbm_X0_moveBack C 70 = tb_X0_moveBack C 70 := rfl
theorem am_X0_moveBack_73 (C : Nat → Sp) : tbm_X0_moveBack C 73 = tb_X0_moveBack C 73 := rfl
theorem am_X0_moveBack_74 (C : Nat → Sp) : tbm_X0_moveBack C 74 = tb_X0_moveBack C 74 := rfl
theorem am_X0_moveBack_75 (C : Nat → Sp) : tbm_X0_moveBack C 75 = tb_X0_moveBack C 75 := rfl
theorem am_X0_moveBack_78 (C : Nat → Sp) : tbm_X0_moveBack C 78 = tb_X0_moveBack C 78 := rfl
theorem am_X0_moveBack_79 (C : Nat → Sp) : tbm_X0_moveBack C 79 = tb_X0_moveBack C 79 := rfl
theorem am_X0_moveBack_80 (C : Nat → Sp) : tbm_X0_moveBack C 80 = tb_X0_moveBack C 80 := rfl
theorem am_X0_moveBack_83 (C : Nat → Sp) : tbm_X0_moveBack C 83 = tb_X0_moveBack C 83 := rfl
theorem am_X0_moveBack_84 (C : Nat → Sp) : tbm_X0_moveBack C 84 = tb_X0_moveBack C 84 := rfl
/-! Small methods run in their callers: a callee's own table as its contract -/
def inl (tab : Tab) (mx n : Nat) : Sp := fun av M Q => (lg_sl av).length ≤ mx ∧ go tab K0 Q n 0 (lv_args 0 av) [] M
theorem inl_ok {D : DD} {d : Nat} {μ : MI} {tab : Tab} {mx n : Nat} (hp : plainName μ.1.cls = true) (hm : μ.2.2.1 = mx) (h : ∀ pc, TrOk D d μ pc (tab pc)) : ∀ av M Q, inl tab mx n av M Q → Call D d μ av M Q := by
  intro av M Q hz
  obtain ⟨h1, h2⟩ := hz
  exact call_of hp (by rw [hm]; exact h1) (run0 h n h2)
theorem lgn : (lg_sl []).length = 0 := rfl
theorem lgc (v : Value) (r : List Value) : (lg_sl (v :: r)).length = v.category + (lg_sl r).length := by
  simp only [lg_sl, List.flatMap_cons, List.length_append]
  rcases lv_cat v with h | h <;> simp [h]
def JL (C : Nat → Sp) : List (Nat × Sp) := [(0, inl (tb_X0_init C) 1 60), (1, inl (tb_X0_make C) 4 60), (3, inl (tb_X1_init C) 2 60), (4, inl (tb_X1_begin C) 3 60), (5, inl (tb_X1_isVetoed C) 1 60), (6, inl (tb_X2_init C) 1 60), (7, inl (tb_X2_find C) 2 60), (8, inl (tb_X2_findFirst C) 2 60), (9, inl (tb_X2_isFull C) 1 60), (12, inl (tb_X2_letGo C) 2 60), (13, inl (tb_X2_sendAway C) 3 60), (15, inl (tb_X2_openScene C) 1 60), (16, inl (tb_X2_hadScene C) 2 60), (17, inl (tb_X2_isOpen C) 2 60), (18, inl (tb_X2_admits C) 2 60), (20, inl (tb_X3_init C) 3 60), (21, inl (tb_X3_isUnder C) 2 60), (22, inl (tb_X4_init C) 1 60), (23, inl (tb_X4_find C) 2 60), (24, inl (tb_X4_add C) 2 60), (25, inl (tb_X5_init C) 6 60), (26, inl (tb_X5_hears C) 2 60), (27, inl (tb_X5_lets C) 3 60), (28, inl (tb_X5_isAheadOf C) 2 60), (29, inl (tb_X6_init C) 1 60), (30, inl (tb_X6_add C) 3 60), (32, inl (tb_X7_init C) 1 60), (33, inl (tb_X7_begin C) 1 60), (34, inl (tbm_X7_addCue C) 2 60), (35, inl (tb_X7_addLogged C) 3 60), (36, inl (tb_X7_addFailure C) 4 60), (37, inl (tb_X7_isHushed C) 1 60), (43, inl (tb_X8_divide C) 3 60), (44, inl (tb_X8_takeRemainder C) 3 60), (46, inl (tb_X8_tellLater C) 4 60), (49, inl (tb_X8_chooseTray C) 3 60), (50, inl (tb_X9_init C) 1 60), (53, inl (tb_X9_hasCell C) 2 60), (54, inl (tb_X9_put C) 4 60), (55, inl (tb_X9_faultAsInts C) 2 60), (56, inl (tb_X10_init C) 1 60), (57, inl (tb_X10_add C) 5 60), (58, inl (tb_X10_firstKind C) 1 60), (59, inl (tb_X10_firstValue C) 1 60), (60, inl (tb_X10_dropFirst C) 1 60), (61, inl (tb_X10_forget C) 1 60), (86, inl (tb_X11_isPhase C) 1 60), (87, inl (tb_X11_findTray C) 2 60), (88, inl (tb_X11_asNumber C) 1 60)]
def J : Nat → Nat → Sp
  | 0 => cs []
  | n + 1 => cs (JL (J n))
theorem Jok {D : DD} : ∀ (n d : Nat), Snd D (d + n) (J n) := by
  intro n
  induction n with
  | zero => exact fun d => cs_n
  | succ n ih =>
    intro d
    exact cs_c mn_X0_init (inl_ok (by decide) rfl (tbk_X0_init (ih d))) (cs_c mn_X0_make (inl_ok (by decide) rfl (tbk_X0_make (ih d))) (cs_c mn_X1_init (inl_ok (by decide) rfl (tbk_X1_init (ih d))) (cs_c mn_X1_begin (inl_ok (by decide) rfl (tbk_X1_begin (ih d))) (cs_c mn_X1_isVetoed (inl_ok (by decide) rfl (tbk_X1_isVetoed (ih d))) (cs_c mn_X2_init (inl_ok (by decide) rfl (tbk_X2_init (ih d))) (cs_c mn_X2_find (inl_ok (by decide) rfl (tbk_X2_find (ih d))) (cs_c mn_X2_findFirst (inl_ok (by decide) rfl (tbk_X2_findFirst (ih d))) (cs_c mn_X2_isFull (inl_ok (by decide) rfl (tbk_X2_isFull (ih d))) (cs_c mn_X2_letGo (inl_ok (by decide) rfl (tbk_X2_letGo (ih d))) (cs_c mn_X2_sendAway (inl_ok (by decide) rfl (tbk_X2_sendAway (ih d))) (cs_c mn_X2_openScene (inl_ok (by decide) rfl (tbk_X2_openScene (ih d))) (cs_c mn_X2_hadScene (inl_ok (by decide) rfl (tbk_X2_hadScene (ih d))) (cs_c mn_X2_isOpen (inl_ok (by decide) rfl (tbk_X2_isOpen (ih d))) (cs_c mn_X2_admits (inl_ok (by decide) rfl (tbk_X2_admits (ih d))) (cs_c mn_X3_init (inl_ok (by decide) rfl (tbk_X3_init (ih d))) (cs_c mn_X3_isUnder (inl_ok (by decide) rfl (tbk_X3_isUnder (ih d))) (cs_c mn_X4_init (inl_ok (by decide) rfl (tbk_X4_init (ih d))) (cs_c mn_X4_find (inl_ok (by decide) rfl (tbk_X4_find (ih d))) (cs_c mn_X4_add (inl_ok (by decide) rfl (tbk_X4_add (ih d))) (cs_c mn_X5_init (inl_ok (by decide) rfl (tbk_X5_init (ih d))) (cs_c mn_X5_hears (inl_ok (by decide) rfl (tbk_X5_hears (ih d))) (cs_c mn_X5_lets (inl_ok (by decide) rfl (tbk_X5_lets (ih d))) (cs_c mn_X5_isAheadOf (inl_ok (by decide) rfl (tbk_X5_isAheadOf (ih d))) (cs_c mn_X6_init (inl_ok (by decide) rfl (tbk_X6_init (ih d))) (cs_c mn_X6_add (inl_ok (by decide) rfl (tbk_X6_add (ih d))) (cs_c mn_X7_init (inl_ok (by decide) rfl (tbk_X7_init (ih d))) (cs_c mn_X7_begin (inl_ok (by decide) rfl (tbk_X7_begin (ih d))) (cs_c mn_X7_addCue (inl_ok (by decide) rfl (tbkm_X7_addCue (ih d))) (cs_c mn_X7_addLogged (inl_ok (by decide) rfl (tbk_X7_addLogged (ih d))) (cs_c mn_X7_addFailure (inl_ok (by decide) rfl (tbk_X7_addFailure (ih d))) (cs_c mn_X7_isHushed (inl_ok (by decide) rfl (tbk_X7_isHushed (ih d))) (cs_c mn_X8_divide (inl_ok (by decide) rfl (tbk_X8_divide (ih d))) (cs_c mn_X8_takeRemainder (inl_ok (by decide) rfl (tbk_X8_takeRemainder (ih d))) (cs_c mn_X8_tellLater (inl_ok (by decide) rfl (tbk_X8_tellLater (ih d))) (cs_c mn_X8_chooseTray (inl_ok (by decide) rfl (tbk_X8_chooseTray (ih d))) (cs_c mn_X9_init (inl_ok (by decide) rfl (tbk_X9_init (ih d))) (cs_c mn_X9_hasCell (inl_ok (by decide) rfl (tbk_X9_hasCell (ih d))) (cs_c mn_X9_put (inl_ok (by decide) rfl (tbk_X9_put (ih d))) (cs_c mn_X9_faultAsInts (inl_ok (by decide) rfl (tbk_X9_faultAsInts (ih d))) (cs_c mn_X10_init (inl_ok (by decide) rfl (tbk_X10_init (ih d))) (cs_c mn_X10_add (inl_ok (by decide) rfl (tbk_X10_add (ih d))) (cs_c mn_X10_firstKind (inl_ok (by decide) rfl (tbk_X10_firstKind (ih d))) (cs_c mn_X10_firstValue (inl_ok (by decide) rfl (tbk_X10_firstValue (ih d))) (cs_c mn_X10_dropFirst (inl_ok (by decide) rfl (tbk_X10_dropFirst (ih d))) (cs_c mn_X10_forget (inl_ok (by decide) rfl (tbk_X10_forget (ih d))) (cs_c mn_X11_isPhase (inl_ok (by decide) rfl (tbk_X11_isPhase (ih d))) (cs_c mn_X11_findTray (inl_ok (by decide) rfl (tbk_X11_findTray (ih d))) (cs_c mn_X11_asNumber (inl_ok (by decide) rfl (tbk_X11_asNumber (ih d))) cs_n))))))))))))))))))))))))))))))))))))))))))))))))
theorem J_X0_init (n : Nat) : J (n + 1) 0 = inl (tb_X0_init (J n)) 1 60 := rfl
theorem J_X0_make (n : Nat) : J (n + 1) 1 = inl (tb_X0_make (J n)) 4 60 := rfl
theorem J_X1_init (n : Nat) : J (n + 1) 3 = inl (tb_X1_init (J n)) 2 60 := rfl
theorem J_X1_begin (n : Nat) : J (n + 1) 4 = inl (tb_X1_begin (J n)) 3 60 := rfl
theorem J_X1_isVetoed (n : Nat) : J (n + 1) 5 = inl (tb_X1_isVetoed (J n)) 1 60 := rfl
theorem J_X2_init (n : Nat) : J (n + 1) 6 = inl (tb_X2_init (J n)) 1 60 := rfl
theorem J_X2_find (n : Nat) : J (n + 1) 7 = inl (tb_X2_find (J n)) 2 60 := rfl
theorem J_X2_findFirst (n : Nat) : J (n + 1) 8 = inl (tb_X2_findFirst (J n)) 2 60 := rfl
theorem J_X2_isFull (n : Nat) : J (n + 1) 9 = inl (tb_X2_isFull (J n)) 1 60 := rfl
theorem J_X2_letGo (n : Nat) : J (n + 1) 12 = inl (tb_X2_letGo (J n)) 2 60 := rfl
theorem J_X2_sendAway (n : Nat) : J (n + 1) 13 = inl (tb_X2_sendAway (J n)) 3 60 := rfl
theorem J_X2_openScene (n : Nat) : J (n + 1) 15 = inl (tb_X2_openScene (J n)) 1 60 := rfl
theorem J_X2_hadScene (n : Nat) : J (n + 1) 16 = inl (tb_X2_hadScene (J n)) 2 60 := rfl
theorem J_X2_isOpen (n : Nat) : J (n + 1) 17 = inl (tb_X2_isOpen (J n)) 2 60 := rfl
theorem J_X2_admits (n : Nat) : J (n + 1) 18 = inl (tb_X2_admits (J n)) 2 60 := rfl
theorem J_X3_init (n : Nat) : J (n + 1) 20 = inl (tb_X3_init (J n)) 3 60 := rfl
theorem J_X3_isUnder (n : Nat) : J (n + 1) 21 = inl (tb_X3_isUnder (J n)) 2 60 := rfl
theorem J_X4_init (n : Nat) : J (n + 1) 22 = inl (tb_X4_init (J n)) 1 60 := rfl
theorem J_X4_find (n : Nat) : J (n + 1) 23 = inl (tb_X4_find (J n)) 2 60 := rfl
theorem J_X4_add (n : Nat) : J (n + 1) 24 = inl (tb_X4_add (J n)) 2 60 := rfl
theorem J_X5_init (n : Nat) : J (n + 1) 25 = inl (tb_X5_init (J n)) 6 60 := rfl
theorem J_X5_hears (n : Nat) : J (n + 1) 26 = inl (tb_X5_hears (J n)) 2 60 := rfl
theorem J_X5_lets (n : Nat) : J (n + 1) 27 = inl (tb_X5_lets (J n)) 3 60 := rfl
theorem J_X5_isAheadOf (n : Nat) : J (n + 1) 28 = inl (tb_X5_isAheadOf (J n)) 2 60 := rfl
theorem J_X6_init (n : Nat) : J (n + 1) 29 = inl (tb_X6_init (J n)) 1 60 := rfl
theorem J_X6_add (n : Nat) : J (n + 1) 30 = inl (tb_X6_add (J n)) 3 60 := rfl
theorem J_X7_init (n : Nat) : J (n + 1) 32 = inl (tb_X7_init (J n)) 1 60 := rfl
theorem J_X7_begin (n : Nat) : J (n + 1) 33 = inl (tb_X7_begin (J n)) 1 60 := rfl
theorem J_X7_addCue (n : Nat) : J (n + 1) 34 = inl (tbm_X7_addCue (J n)) 2 60 := rfl
theorem J_X7_addLogged (n : Nat) : J (n + 1) 35 = inl (tb_X7_addLogged (J n)) 3 60 := rfl
theorem J_X7_addFailure (n : Nat) : J (n + 1) 36 = inl (tb_X7_addFailure (J n)) 4 60 := rfl
theorem J_X7_isHushed (n : Nat) : J (n + 1) 37 = inl (tb_X7_isHushed (J n)) 1 60 := rfl
theorem J_X8_divide (n : Nat) : J (n + 1) 43 = inl (tb_X8_divide (J n)) 3 60 := rfl
theorem J_X8_takeRemainder (n : Nat) : J (n + 1) 44 = inl (tb_X8_takeRemainder (J n)) 3 60 := rfl
theorem J_X8_tellLater (n : Nat) : J (n + 1) 46 = inl (tb_X8_tellLater (J n)) 4 60 := rfl
theorem J_X8_chooseTray (n : Nat) : J (n + 1) 49 = inl (tb_X8_chooseTray (J n)) 3 60 := rfl
theorem J_X9_init (n : Nat) : J (n + 1) 50 = inl (tb_X9_init (J n)) 1 60 := rfl
theorem J_X9_hasCell (n : Nat) : J (n + 1) 53 = inl (tb_X9_hasCell (J n)) 2 60 := rfl
theorem J_X9_put (n : Nat) : J (n + 1) 54 = inl (tb_X9_put (J n)) 4 60 := rfl
theorem J_X9_faultAsInts (n : Nat) : J (n + 1) 55 = inl (tb_X9_faultAsInts (J n)) 2 60 := rfl
theorem J_X10_init (n : Nat) : J (n + 1) 56 = inl (tb_X10_init (J n)) 1 60 := rfl
theorem J_X10_add (n : Nat) : J (n + 1) 57 = inl (tb_X10_add (J n)) 5 60 := rfl
theorem J_X10_firstKind (n : Nat) : J (n + 1) 58 = inl (tb_X10_firstKind (J n)) 1 60 := rfl
theorem J_X10_firstValue (n : Nat) : J (n + 1) 59 = inl (tb_X10_firstValue (J n)) 1 60 := rfl
theorem J_X10_dropFirst (n : Nat) : J (n + 1) 60 = inl (tb_X10_dropFirst (J n)) 1 60 := rfl
theorem J_X10_forget (n : Nat) : J (n + 1) 61 = inl (tb_X10_forget (J n)) 1 60 := rfl
theorem J_X11_isPhase (n : Nat) : J (n + 1) 86 = inl (tb_X11_isPhase (J n)) 1 60 := rfl
theorem J_X11_findTray (n : Nat) : J (n + 1) 87 = inl (tb_X11_findTray (J n)) 2 60 := rfl
theorem J_X11_asNumber (n : Nat) : J (n + 1) 88 = inl (tb_X11_asNumber (J n)) 1 60 := rfl

def csj (L : List (Nat × Sp)) (C : Nat → Sp) (i : Nat) : Sp := match L with
  | [] => C i
  | q :: r => if i = q.1 then q.2 else csj r C i
theorem csj_n {D : DD} {d : Nat} {C : Nat → Sp} (h : Snd D d C) : Snd D d (csj [] C) := h
theorem csj_c {D : DD} {d j : Nat} {s : Sp} {μ' : MI} {L : List (Nat × Sp)} {C : Nat → Sp} (hj : mi j = μ') (h : ∀ av M Q, s av M Q → Call D d μ' av M Q) (t : Snd D d (csj L C)) : Snd D d (csj ((j, s) :: L) C) := by
  intro i av M Q hq
  by_cases e : i = j
  · subst e
    simp only [csj, if_true] at hq
    rw [hj]
    exact h av M Q hq
  · simp only [csj, if_neg e] at hq
    exact t i av M Q hq
