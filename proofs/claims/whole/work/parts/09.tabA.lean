def tb_X0_init_0 (C : Nat → Sp) : Tab := [(0, tr_aload 1 0), (1, tr_obj 4), (4, tr_aload 5 0), (5, tr_ic 7 50), (7, tr_anew 10 5000007 50 50), (10, tr_putR 13 1 0), (13, tr_aload 14 0), (14, tr_ic 16 50), (16, tr_newa 18 2000016 50 50), (18, tr_putR 21 1 1), (21, tr_ret)]
set_option maxRecDepth 20000 in
theorem tbk_X0_init_0 {D : DD} {d : Nat} {C : Nat → Sp} (hC : Snd D d C) : ∀ e ∈ tb_X0_init_0 C, TrOk D (d + 1) mi_X0_init e.1 e.2 :=
  tk_c (show TrOk D (d + 1) mi_X0_init 0 (tr_aload 1 0) from ok_aload_n (show decode mi_X0_init.2.1 0 = .ok (.aload_n 0, 1) from by decide +kernel) rfl) <|
  tk_c (show TrOk D (d + 1) mi_X0_init 1 (tr_obj 4) from ok_obj (show decode mi_X0_init.2.1 1 = .ok (.invokespecial 3, 3) from by decide +kernel) (gm 111 (by decide +kernel) rfl) (gm 50 (by decide +kernel) rfl) (gm 51 rfl rfl)) <|
  tk_c (show TrOk D (d + 1) mi_X0_init 4 (tr_aload 5 0) from ok_aload_n (show decode mi_X0_init.2.1 4 = .ok (.aload_n 0, 1) from by decide +kernel) rfl) <|
  tk_c (show TrOk D (d + 1) mi_X0_init 5 (tr_ic 7 50) from ok_bipush (show decode mi_X0_init.2.1 5 = .ok (.bipush 50, 2) from by decide +kernel) rfl) <|
  tk_c (show TrOk D (d + 1) mi_X0_init 7 (tr_anew 10 5000007 50 50) from ok_anew (t := 5) (show decode mi_X0_init.2.1 7 = .ok (.anewarray 9, 3) from by decide +kernel) (by decide) (by decide) (gm 112 (by decide +kernel) rfl) (by decide) (by decide) (by decide) (by decide)) <|
  tk_c (show TrOk D (d + 1) mi_X0_init 10 (tr_putR 13 1 0) from ok_putR (ci := 0) (k := 0) (show decode mi_X0_init.2.1 10 = .ok (.putfield 11, 3) from by decide +kernel) rfl (by decide) (gm 113 (by decide +kernel) rfl) rfl (Or.inr ⟨rfl, rfl, rfl⟩)) <|
  tk_c (show TrOk D (d + 1) mi_X0_init 13 (tr_aload 14 0) from ok_aload_n (show decode mi_X0_init.2.1 13 = .ok (.aload_n 0, 1) from by decide +kernel) rfl) <|
  tk_c (show TrOk D (d + 1) mi_X0_init 14 (tr_ic 16 50) from ok_bipush (show decode mi_X0_init.2.1 14 = .ok (.bipush 50, 2) from by decide +kernel) rfl) <|
  tk_c (show TrOk D (d + 1) mi_X0_init 16 (tr_newa 18 2000016 50 50) from ok_newa (t := 2) (show decode mi_X0_init.2.1 16 = .ok (.newarray .long, 2) from by decide +kernel) rfl (by decide) (gm 127 (by decide +kernel) rfl) (by decide) (by decide) (by decide) (by decide)) <|
  tk_c (show TrOk D (d + 1) mi_X0_init 18 (tr_putR 21 1 1) from ok_putR (ci := 0) (k := 1) (show decode mi_X0_init.2.1 18 = .ok (.putfield 17, 3) from by decide +kernel) rfl (by decide) (gm 114 (by decide +kernel) rfl) rfl (Or.inr ⟨rfl, rfl, rfl⟩)) <|
  tk_c (show TrOk D (d + 1) mi_X0_init 21 (tr_ret) from ok_ret (show decode mi_X0_init.2.1 21 = .ok (.return_, 1) from by decide +kernel) rfl) <|
  tk_n
def tb_X0_init (C : Nat → Sp) : Tab := tb_X0_init_0 C
theorem tbk_X0_init {D : DD} {d : Nat} {C : Nat → Sp} (hC : Snd D d C) : ∀ e ∈ tb_X0_init C, TrOk D (d + 1) mi_X0_init e.1 e.2 := tbk_X0_init_0 hC
theorem a_X0_init_0 (C : Nat → Sp) : ta (tb_X0_init C) 0 = tr_aload 1 0 := rfl
theorem a_X0_init_1 (C : Nat → Sp) : ta (tb_X0_init C) 1 = tr_obj 4 := rfl
theorem a_X0_init_4 (C : Nat → Sp) : ta (tb_X0_init C) 4 = tr_aload 5 0 := rfl
theorem a_X0_init_5 (C : Nat → Sp) : ta (tb_X0_init C) 5 = tr_ic 7 50 := rfl
theorem a_X0_init_7 (C : Nat → Sp) : ta (tb_X0_init C) 7 = tr_anew 10 5000007 50 50 := rfl
theorem a_X0_init_10 (C : Nat → Sp) : ta (tb_X0_init C) 10 = tr_putR 13 1 0 := rfl
theorem a_X0_init_13 (C : Nat → Sp) : ta (tb_X0_init C) 13 = tr_aload 14 0 := rfl
theorem a_X0_init_14 (C : Nat → Sp) : ta (tb_X0_init C) 14 = tr_ic 16 50 := rfl
theorem a_X0_init_16 (C : Nat → Sp) : ta (tb_X0_init C) 16 = tr_newa 18 2000016 50 50 := rfl
theorem a_X0_init_18 (C : Nat → Sp) : ta (tb_X0_init C) 18 = tr_putR 21 1 1 := rfl
theorem a_X0_init_21 (C : Nat → Sp) : ta (tb_X0_init C) 21 = tr_ret := rfl

def tb_X0_make_0 (C : Nat → Sp) : Tab := [(0, tr_aload 1 1), (1, tr_dup 2), (2, tr_getL 5 4 303), (5, tr_lload 6 2), (6, tr_ladd 7), (7, tr_putL 10 4 303), (10, tr_aload 11 0), (11, tr_getR 14 1 0), (14, tr_aload 15 0), (15, tr_getI 18 1 2), (18, tr_aload 19 1), (19, tr_aast 20 5), (20, tr_aload 21 0), (21, tr_getR 24 1 1), (24, tr_aload 25 0), (25, tr_getI 28 1 2), (28, tr_lload 29 2), (29, tr_last 30), (30, tr_aload 31 0), (31, tr_aload 32 0), (32, tr_getI 35 1 2), (35, tr_ic 36 1), (36, tr_iadd 37), (37, tr_ic 39 50), (39, tr_irem 40), (40, tr_putI 43 1 2), (43, tr_aload 44 0), (44, tr_getI 47 1 3), (47, tr_ic 49 50), (49, tr_icge 52 62), (52, tr_aload 53 0), (53, tr_dup 54), (54, tr_getI 57 1 3), (57, tr_ic 58 1), (58, tr_iadd 59), (59, tr_putI 62 1 3), (62, tr_ret)]
set_option maxRecDepth 20000 in
theorem tbk_X0_make_0 {D : DD} {d : Nat} {C : Nat → Sp} (hC : Snd D d C) : ∀ e ∈ tb_X0_make_0 C, TrOk D (d + 1) mi_X0_make e.1 e.2 :=
  tk_c (show TrOk D (d + 1) mi_X0_make 0 (tr_aload 1 1) from ok_aload_n (show decode mi_X0_make.2.1 0 = .ok (.aload_n 1, 1) from by decide +kernel) rfl) <|
  tk_c (show TrOk D (d + 1) mi_X0_make 1 (tr_dup 2) from ok_dup (show decode mi_X0_make.2.1 1 = .ok (.dup, 1) from by decide +kernel)) <|
  tk_c (show TrOk D (d + 1) mi_X0_make 2 (tr_getL 5 4 303) from ok_getL (ci := 3) (k := 3) (show decode mi_X0_make.2.1 2 = .ok (.getfield 21, 3) from by decide +kernel) rfl (by decide) (gm 328 (by decide +kernel) rfl) rfl) <|
  tk_c (show TrOk D (d + 1) mi_X0_make 5 (tr_lload 6 2) from ok_lload_n (show decode mi_X0_make.2.1 5 = .ok (.lload_n 2, 1) from by decide +kernel) rfl) <|
  tk_c (show TrOk D (d + 1) mi_X0_make 6 (tr_ladd 7) from ok_ladd (show decode mi_X0_make.2.1 6 = .ok (.ladd, 1) from by decide +kernel)) <|
  tk_c (show TrOk D (d + 1) mi_X0_make 7 (tr_putL 10 4 303) from ok_putL (ci := 3) (k := 3) (show decode mi_X0_make.2.1 7 = .ok (.putfield 21, 3) from by decide +kernel) rfl (by decide) (gm 328 (by decide +kernel) rfl) rfl (Or.inl rfl)) <|
  tk_c (show TrOk D (d + 1) mi_X0_make 10 (tr_aload 11 0) from ok_aload_n (show decode mi_X0_make.2.1 10 = .ok (.aload_n 0, 1) from by decide +kernel) rfl) <|
  tk_c (show TrOk D (d + 1) mi_X0_make 11 (tr_getR 14 1 0) from ok_getR (ci := 0) (k := 0) (show decode mi_X0_make.2.1 11 = .ok (.getfield 11, 3) from by decide +kernel) rfl (by decide) (gm 113 (by decide +kernel) rfl) rfl) <|
  tk_c (show TrOk D (d + 1) mi_X0_make 14 (tr_aload 15 0) from ok_aload_n (show decode mi_X0_make.2.1 14 = .ok (.aload_n 0, 1) from by decide +kernel) rfl) <|
  tk_c (show TrOk D (d + 1) mi_X0_make 15 (tr_getI 18 1 2) from ok_getI (ci := 0) (k := 2) (show decode mi_X0_make.2.1 15 = .ok (.getfield 25, 3) from by decide +kernel) rfl (by decide) (gm 115 (by decide +kernel) rfl) rfl) <|
  tk_c (show TrOk D (d + 1) mi_X0_make 18 (tr_aload 19 1) from ok_aload_n (show decode mi_X0_make.2.1 18 = .ok (.aload_n 1, 1) from by decide +kernel) rfl) <|
  tk_c (show TrOk D (d + 1) mi_X0_make 19 (tr_aast 20 5) from ok_aast (by decide) (by decide) (show decode mi_X0_make.2.1 19 = .ok (.aastore, 1) from by decide +kernel)) <|
  tk_c (show TrOk D (d + 1) mi_X0_make 20 (tr_aload 21 0) from ok_aload_n (show decode mi_X0_make.2.1 20 = .ok (.aload_n 0, 1) from by decide +kernel) rfl) <|
  tk_c (show TrOk D (d + 1) mi_X0_make 21 (tr_getR 24 1 1) from ok_getR (ci := 0) (k := 1) (show decode mi_X0_make.2.1 21 = .ok (.getfield 17, 3) from by decide +kernel) rfl (by decide) (gm 114 (by decide +kernel) rfl) rfl) <|
  tk_c (show TrOk D (d + 1) mi_X0_make 24 (tr_aload 25 0) from ok_aload_n (show decode mi_X0_make.2.1 24 = .ok (.aload_n 0, 1) from by decide +kernel) rfl) <|
  tk_c (show TrOk D (d + 1) mi_X0_make 25 (tr_getI 28 1 2) from ok_getI (ci := 0) (k := 2) (show decode mi_X0_make.2.1 25 = .ok (.getfield 25, 3) from by decide +kernel) rfl (by decide) (gm 115 (by decide +kernel) rfl) rfl) <|
  tk_c (show TrOk D (d + 1) mi_X0_make 28 (tr_lload 29 2) from ok_lload_n (show decode mi_X0_make.2.1 28 = .ok (.lload_n 2, 1) from by decide +kernel) rfl) <|
  tk_c (show TrOk D (d + 1) mi_X0_make 29 (tr_last 30) from ok_last (show decode mi_X0_make.2.1 29 = .ok (.lastore, 1) from by decide +kernel)) <|
  tk_c (show TrOk D (d + 1) mi_X0_make 30 (tr_aload 31 0) from ok_aload_n (show decode mi_X0_make.2.1 30 = .ok (.aload_n 0, 1) from by decide +kernel) rfl) <|
  tk_c (show TrOk D (d + 1) mi_X0_make 31 (tr_aload 32 0) from ok_aload_n (show decode mi_X0_make.2.1 31 = .ok (.aload_n 0, 1) from by decide +kernel) rfl) <|
  tk_c (show TrOk D (d + 1) mi_X0_make 32 (tr_getI 35 1 2) from ok_getI (ci := 0) (k := 2) (show decode mi_X0_make.2.1 32 = .ok (.getfield 25, 3) from by decide +kernel) rfl (by decide) (gm 115 (by decide +kernel) rfl) rfl) <|
  tk_c (show TrOk D (d + 1) mi_X0_make 35 (tr_ic 36 1) from ok_iconst (show decode mi_X0_make.2.1 35 = .ok (.iconst 1, 1) from by decide +kernel) rfl) <|
  tk_c (show TrOk D (d + 1) mi_X0_make 36 (tr_iadd 37) from ok_iadd (show decode mi_X0_make.2.1 36 = .ok (.iadd, 1) from by decide +kernel)) <|
  tk_c (show TrOk D (d + 1) mi_X0_make 37 (tr_ic 39 50) from ok_bipush (show decode mi_X0_make.2.1 37 = .ok (.bipush 50, 2) from by decide +kernel) rfl) <|
  tk_c (show TrOk D (d + 1) mi_X0_make 39 (tr_irem 40) from ok_irem (show decode mi_X0_make.2.1 39 = .ok (.irem, 1) from by decide +kernel)) <|
  tk_c (show TrOk D (d + 1) mi_X0_make 40 (tr_putI 43 1 2) from ok_putI (ci := 0) (k := 2) (show decode mi_X0_make.2.1 40 = .ok (.putfield 25, 3) from by decide +kernel) rfl (by decide) (gm 115 (by decide +kernel) rfl) rfl (Or.inl rfl)) <|
  tk_c (show TrOk D (d + 1) mi_X0_make 43 (tr_aload 44 0) from ok_aload_n (show decode mi_X0_make.2.1 43 = .ok (.aload_n 0, 1) from by decide +kernel) rfl) <|
  tk_c (show TrOk D (d + 1) mi_X0_make 44 (tr_getI 47 1 3) from ok_getI (ci := 0) (k := 3) (show decode mi_X0_make.2.1 44 = .ok (.getfield 29, 3) from by decide +kernel) rfl (by decide) (gm 116 (by decide +kernel) rfl) rfl) <|
  tk_c (show TrOk D (d + 1) mi_X0_make 47 (tr_ic 49 50) from ok_bipush (show decode mi_X0_make.2.1 47 = .ok (.bipush 50, 2) from by decide +kernel) rfl) <|
  tk_c (show TrOk D (d + 1) mi_X0_make 49 (tr_icge 52 62) from ok_icge (show decode mi_X0_make.2.1 49 = .ok (.if_icmp .ge 13, 3) from by decide +kernel) (by decide)) <|
  tk_c (show TrOk D (d + 1) mi_X0_make 52 (tr_aload 53 0) from ok_aload_n (show decode mi_X0_make.2.1 52 = .ok (.aload_n 0, 1) from by decide +kernel) rfl) <|
  tk_c (show TrOk D (d + 1) mi_X0_make 53 (tr_dup 54) from ok_dup (show decode mi_X0_make.2.1 53 = .ok (.dup, 1) from by decide +kernel)) <|
  tk_c (show TrOk D (d + 1) mi_X0_make 54 (tr_getI 57 1 3) from ok_getI (ci := 0) (k := 3) (show decode mi_X0_make.2.1 54 = .ok (.getfield 29, 3) from by decide +kernel) rfl (by decide) (gm 116 (by decide +kernel) rfl) rfl) <|
  tk_c (show TrOk D (d + 1) mi_X0_make 57 (tr_ic 58 1) from ok_iconst (show decode mi_X0_make.2.1 57 = .ok (.iconst 1, 1) from by decide +kernel) rfl) <|
  tk_c (show TrOk D (d + 1) mi_X0_make 58 (tr_iadd 59) from ok_iadd (show decode mi_X0_make.2.1 58 = .ok (.iadd, 1) from by decide +kernel)) <|
  tk_c (show TrOk D (d + 1) mi_X0_make 59 (tr_putI 62 1 3) from ok_putI (ci := 0) (k := 3) (show decode mi_X0_make.2.1 59 = .ok (.putfield 29, 3) from by decide +kernel) rfl (by decide) (gm 116 (by decide +kernel) rfl) rfl (Or.inl rfl)) <|
  tk_c (show TrOk D (d + 1) mi_X0_make 62 (tr_ret) from ok_ret (show decode mi_X0_make.2.1 62 = .ok (.return_, 1) from by decide +kernel) rfl) <|
  tk_n
def tb_X0_make (C : Nat → Sp) : Tab := tb_X0_make_0 C
theorem tbk_X0_make {D : DD} {d : Nat} {C : Nat → Sp} (hC : Snd D d C) : ∀ e ∈ tb_X0_make C, TrOk D (d + 1) mi_X0_make e.1 e.2 := tbk_X0_make_0 hC
theorem a_X0_make_0 (C : Nat → Sp) : ta (tb_X0_make C) 0 = tr_aload 1 1 := rfl
theorem a_X0_make_1 (C : Nat → Sp) : ta (tb_X0_make C) 1 = tr_dup 2 := rfl
theorem a_X0_make_2 (C : Nat → Sp) : ta (tb_X0_make C) 2 = tr_getL 5 4 303 := rfl
theorem a_X0_make_5 (C : Nat → Sp) : ta (tb_X0_make C) 5 = tr_lload 6 2 := rfl
theorem a_X0_make_6 (C : Nat → Sp) : ta (tb_X0_make C) 6 = tr_ladd 7 := rfl
theorem a_X0_make_7 (C : Nat → Sp) : ta (tb_X0_make C) 7 = tr_putL 10 4 303 := rfl
theorem a_X0_make_10 (C : Nat → Sp) : ta (tb_X0_make C) 10 = tr_aload 11 0 := rfl
theorem a_X0_make_11 (C : Nat → Sp) : ta (tb_X0_make C) 11 = tr_getR 14 1 0 := rfl
theorem a_X0_make_14 (C : Nat → Sp) : ta (tb_X0_make C) 14 = tr_aload 15 0 := rfl
theorem a_X0_make_15 (C : Nat → Sp) : ta (tb_X0_make C) 15 = tr_getI 18 1 2 := rfl
theorem a_X0_make_18 (C : Nat → Sp) : ta (tb_X0_make C) 18 = tr_aload 19 1 := rfl
theorem a_X0_make_19 (C : Nat → Sp) : ta (tb_X0_make C) 19 = tr_aast 20 5 := rfl
theorem a_X0_make_20 (C : Nat → Sp) : ta (tb_X0_make C) 20 = tr_aload 21 0 := rfl
theorem a_X0_make_21 (C : Nat → Sp) : ta (tb_X0_make C) 21 = tr_getR 24 1 1 := rfl
theorem a_X0_make_24 (C : Nat → Sp) : ta (tb_X0_make C) 24 = tr_aload 25 0 := rfl
theorem a_X0_make_25 (C : Nat → Sp) : ta (tb_X0_make C) 25 = tr_getI 28 1 2 := rfl
theorem a_X0_make_28 (C : Nat → Sp) : ta (tb_X0_make C) 28 = tr_lload 29 2 := rfl
theorem a_X0_make_29 (C : Nat → Sp) : ta (tb_X0_make C) 29 = tr_last 30 := rfl
theorem a_X0_make_30 (C : Nat → Sp) : ta (tb_X0_make C) 30 = tr_aload 31 0 := rfl
theorem a_X0_make_31 (C : Nat → Sp) : ta (tb_X0_make C) 31 = tr_aload 32 0 := rfl
theorem a_X0_make_32 (C : Nat → Sp) : ta (tb_X0_make C) 32 = tr_getI 35 1 2 := rfl
theorem a_X0_make_35 (C : Nat → Sp) : ta (tb_X0_make C) 35 = tr_ic 36 1 := rfl
theorem a_X0_make_36 (C : Nat → Sp) : ta (tb_X0_make C) 36 = tr_iadd 37 := rfl
theorem a_X0_make_37 (C : Nat → Sp) : ta (tb_X0_make C) 37 = tr_ic 39 50 := rfl
theorem a_X0_make_39 (C : Nat → Sp) : ta (tb_X0_make C) 39 = tr_irem 40 := rfl
theorem a_X0_make_40 (C : Nat → Sp) : ta (tb_X0_make C) 40 = tr_putI 43 1 2 := rfl
theorem a_X0_make_43 (C : Nat → Sp) : ta (tb_X0_make C) 43 = tr_aload 44 0 := rfl
theorem a_X0_make_44 (C : Nat → Sp) : ta (tb_X0_make C) 44 = tr_getI 47 1 3 := rfl
theorem a_X0_make_47 (C : Nat → Sp) : ta (tb_X0_make C) 47 = tr_ic 49 50 := rfl
theorem a_X0_make_49 (C : Nat → Sp) : ta (tb_X0_make C) 49 = tr_icge 52 62 := rfl
theorem a_X0_make_52 (C : Nat → Sp) : ta (tb_X0_make C) 52 = tr_aload 53 0 := rfl
theorem a_X0_make_53 (C : Nat → Sp) : ta (tb_X0_make C) 53 = tr_dup 54 := rfl
theorem a_X0_make_54 (C : Nat → Sp) : ta (tb_X0_make C) 54 = tr_getI 57 1 3 := rfl
theorem a_X0_make_57 (C : Nat → Sp) : ta (tb_X0_make C) 57 = tr_ic 58 1 := rfl
theorem a_X0_make_58 (C : Nat → Sp) : ta (tb_X0_make C) 58 = tr_iadd 59 := rfl
theorem a_X0_make_59 (C : Nat → Sp) : ta (tb_X0_make C) 59 = tr_putI 62 1 3 := rfl
theorem a_X0_make_62 (C : Nat → Sp) : ta (tb_X0_make C) 62 = tr_ret := rfl

def tb_X0_moveBack_0 (C : Nat → Sp) : Tab := [(0, tr_iload 1 1), (1, tr_aload 2 0), (2, tr_getI 5 1 3), (5, tr_callS (C 138) 8 2), (8, tr_istore 9 2), (9, tr_ic 10 0), (10, tr_istore 11 3), (11, tr_iload 12 3), (12, tr_iload 13 2), (13, tr_icge 16 73), (16, tr_aload 17 0), (17, tr_aload 18 0), (18, tr_getI 21 1 2), (21, tr_ic 23 50), (23, tr_iadd 24), (24, tr_ic 25 1), (25, tr_isub 26), (26, tr_ic 28 50), (28, tr_irem 29), (29, tr_putI 32 1 2), (32, tr_aload 33 0), (33, tr_getR 36 1 0), (36, tr_aload 37 0), (37, tr_getI 40 1 2), (40, tr_aald 41 5), (41, tr_astore 43 4), (43, tr_aload 45 4), (45, tr_ifnull 48 67), (48, tr_aload 50 4), (50, tr_dup 51), (51, tr_getL 54 4 303), (54, tr_aload 55 0), (55, tr_getR 58 1 1), (58, tr_aload 59 0), (59, tr_getI 62 1 2), (62, tr_lald 63), (63, tr_lsub 64), (64, tr_putL 67 4 303), (67, tr_iinc 70 3 1), (70, tr_goto 11)]
set_option maxRecDepth 20000 in
theorem tbk_X0_moveBack_0 {D : DD} {d : Nat} {C : Nat → Sp} (hC : Snd D d C) : ∀ e ∈ tb_X0_moveBack_0 C, TrOk D (d + 1) mi_X0_moveBack e.1 e.2 :=
  tk_c (show TrOk D (d + 1) mi_X0_moveBack 0 (tr_iload 1 1) from ok_iload_n (show decode mi_X0_moveBack.2.1 0 = .ok (.iload_n 1, 1) from by decide +kernel) rfl) <|
  tk_c (show TrOk D (d + 1) mi_X0_moveBack 1 (tr_aload 2 0) from ok_aload_n (show decode mi_X0_moveBack.2.1 1 = .ok (.aload_n 0, 1) from by decide +kernel) rfl) <|
  tk_c (show TrOk D (d + 1) mi_X0_moveBack 2 (tr_getI 5 1 3) from ok_getI (ci := 0) (k := 3) (show decode mi_X0_moveBack.2.1 2 = .ok (.getfield 29, 3) from by decide +kernel) rfl (by decide) (gm 116 (by decide +kernel) rfl) rfl) <|
  tk_c (show TrOk D (d + 1) mi_X0_moveBack 5 (tr_callS (C 138) 8 2) from ok_callS (show decode mi_X0_moveBack.2.1 5 = .ok (.invokestatic 32, 3) from by decide +kernel) mok_Math_min (gm 749 (by decide +kernel) rfl) (gm 750 (by decide +kernel) rfl) (hC 138)) <|
  tk_c (show TrOk D (d + 1) mi_X0_moveBack 8 (tr_istore 9 2) from ok_istore_n (show decode mi_X0_moveBack.2.1 8 = .ok (.istore_n 2, 1) from by decide +kernel) rfl (by decide)) <|
  tk_c (show TrOk D (d + 1) mi_X0_moveBack 9 (tr_ic 10 0) from ok_iconst (show decode mi_X0_moveBack.2.1 9 = .ok (.iconst 0, 1) from by decide +kernel) rfl) <|
  tk_c (show TrOk D (d + 1) mi_X0_moveBack 10 (tr_istore 11 3) from ok_istore_n (show decode mi_X0_moveBack.2.1 10 = .ok (.istore_n 3, 1) from by decide +kernel) rfl (by decide)) <|
  tk_c (show TrOk D (d + 1) mi_X0_moveBack 11 (tr_iload 12 3) from ok_iload_n (show decode mi_X0_moveBack.2.1 11 = .ok (.iload_n 3, 1) from by decide +kernel) rfl) <|
  tk_c (show TrOk D (d + 1) mi_X0_moveBack 12 (tr_iload 13 2) from ok_iload_n (show decode mi_X0_moveBack.2.1 12 = .ok (.iload_n 2, 1) from by decide +kernel) rfl) <|
  tk_c (show TrOk D (d + 1) mi_X0_moveBack 13 (tr_icge 16 73) from ok_icge (show decode mi_X0_moveBack.2.1 13 = .ok (.if_icmp .ge 60, 3) from by decide +kernel) (by decide)) <|
  tk_c (show TrOk D (d + 1) mi_X0_moveBack 16 (tr_aload 17 0) from ok_aload_n (show decode mi_X0_moveBack.2.1 16 = .ok (.aload_n 0, 1) from by decide +kernel) rfl) <|
  tk_c (show TrOk D (d + 1) mi_X0_moveBack 17 (tr_aload 18 0) from ok_aload_n (show decode mi_X0_moveBack.2.1 17 = .ok (.aload_n 0, 1) from by decide +kernel) rfl) <|
  tk_c (show TrOk D (d + 1) mi_X0_moveBack 18 (tr_getI 21 1 2) from ok_getI (ci := 0) (k := 2) (show decode mi_X0_moveBack.2.1 18 = .ok (.getfield 25, 3) from by decide +kernel) rfl (by decide) (gm 115 (by decide +kernel) rfl) rfl) <|
  tk_c (show TrOk D (d + 1) mi_X0_moveBack 21 (tr_ic 23 50) from ok_bipush (show decode mi_X0_moveBack.2.1 21 = .ok (.bipush 50, 2) from by decide +kernel) rfl) <|
  tk_c (show TrOk D (d + 1) mi_X0_moveBack 23 (tr_iadd 24) from ok_iadd (show decode mi_X0_moveBack.2.1 23 = .ok (.iadd, 1) from by decide +kernel)) <|
  tk_c (show TrOk D (d + 1) mi_X0_moveBack 24 (tr_ic 25 1) from ok_iconst (show decode mi_X0_moveBack.2.1 24 = .ok (.iconst 1, 1) from by decide +kernel) rfl) <|
  tk_c (show TrOk D (d + 1) mi_X0_moveBack 25 (tr_isub 26) from ok_isub (show decode mi_X0_moveBack.2.1 25 = .ok (.isub, 1) from by decide +kernel)) <|
  tk_c (show TrOk D (d + 1) mi_X0_moveBack 26 (tr_ic 28 50) from ok_bipush (show decode mi_X0_moveBack.2.1 26 = .ok (.bipush 50, 2) from by decide +kernel) rfl) <|
  tk_c (show TrOk D (d + 1) mi_X0_moveBack 28 (tr_irem 29) from ok_irem (show decode mi_X0_moveBack.2.1 28 = .ok (.irem, 1) from by decide +kernel)) <|
  tk_c (show TrOk D (d + 1) mi_X0_moveBack 29 (tr_putI 32 1 2) from ok_putI (ci := 0) (k := 2) (show decode mi_X0_moveBack.2.1 29 = .ok (.putfield 25, 3) from by decide +kernel) rfl (by decide) (gm 115 (by decide +kernel) rfl) rfl (Or.inl rfl)) <|
  tk_c (show TrOk D (d + 1) mi_X0_moveBack 32 (tr_aload 33 0) from ok_aload_n (show decode mi_X0_moveBack.2.1 32 = .ok (.aload_n 0, 1) from by decide +kernel) rfl) <|
  tk_c (show TrOk D (d + 1) mi_X0_moveBack 33 (tr_getR 36 1 0) from ok_getR (ci := 0) (k := 0) (show decode mi_X0_moveBack.2.1 33 = .ok (.getfield 11, 3) from by decide +kernel) rfl (by decide) (gm 113 (by decide +kernel) rfl) rfl) <|
  tk_c (show TrOk D (d + 1) mi_X0_moveBack 36 (tr_aload 37 0) from ok_aload_n (show decode mi_X0_moveBack.2.1 36 = .ok (.aload_n 0, 1) from by decide +kernel) rfl) <|
  tk_c (show TrOk D (d + 1) mi_X0_moveBack 37 (tr_getI 40 1 2) from ok_getI (ci := 0) (k := 2) (show decode mi_X0_moveBack.2.1 37 = .ok (.getfield 25, 3) from by decide +kernel) rfl (by decide) (gm 115 (by decide +kernel) rfl) rfl) <|
  tk_c (show TrOk D (d + 1) mi_X0_moveBack 40 (tr_aald 41 5) from ok_aald (by decide) (by decide) (show decode mi_X0_moveBack.2.1 40 = .ok (.aaload, 1) from by decide +kernel)) <|
  tk_c (show TrOk D (d + 1) mi_X0_moveBack 41 (tr_astore 43 4) from ok_astore (show decode mi_X0_moveBack.2.1 41 = .ok (.astore 4, 2) from by decide +kernel) (by decide)) <|
  tk_c (show TrOk D (d + 1) mi_X0_moveBack 43 (tr_aload 45 4) from ok_aload (show decode mi_X0_moveBack.2.1 43 = .ok (.aload 4, 2) from by decide +kernel)) <|
  tk_c (show TrOk D (d + 1) mi_X0_moveBack 45 (tr_ifnull 48 67) from ok_ifnull (show decode mi_X0_moveBack.2.1 45 = .ok (.ifnull 22, 3) from by decide +kernel) (by decide)) <|
  tk_c (show TrOk D (d + 1) mi_X0_moveBack 48 (tr_aload 50 4) from ok_aload (show decode mi_X0_moveBack.2.1 48 = .ok (.aload 4, 2) from by decide +kernel)) <|
  tk_c (show TrOk D (d + 1) mi_X0_moveBack 50 (tr_dup 51) from ok_dup (show decode mi_X0_moveBack.2.1 50 = .ok (.dup, 1) from by decide +kernel)) <|
  tk_c (show TrOk D (d + 1) mi_X0_moveBack 51 (tr_getL 54 4 303) from ok_getL (ci := 3) (k := 3) (show decode mi_X0_moveBack.2.1 51 = .ok (.getfield 21, 3) from by decide +kernel) rfl (by decide) (gm 328 (by decide +kernel) rfl) rfl) <|
  tk_c (show TrOk D (d + 1) mi_X0_moveBack 54 (tr_aload 55 0) from ok_aload_n (show decode mi_X0_moveBack.2.1 54 = .ok (.aload_n 0, 1) from by decide +kernel) rfl) <|
  tk_c (show TrOk D (d + 1) mi_X0_moveBack 55 (tr_getR 58 1 1) from ok_getR (ci := 0) (k := 1) (show decode mi_X0_moveBack.2.1 55 = .ok (.getfield 17, 3) from by decide +kernel) rfl (by decide) (gm 114 (by decide +kernel) rfl) rfl) <|
  tk_c (show TrOk D (d + 1) mi_X0_moveBack 58 (tr_aload 59 0) from ok_aload_n (show decode mi_X0_moveBack.2.1 58 = .ok (.aload_n 0, 1) from by decide +kernel) rfl) <|
  tk_c (show TrOk D (d + 1) mi_X0_moveBack 59 (tr_getI 62 1 2) from ok_getI (ci := 0) (k := 2) (show decode mi_X0_moveBack.2.1 59 = .ok (.getfield 25, 3) from by decide +kernel) rfl (by decide) (gm 115 (by decide +kernel) rfl) rfl) <|
  tk_c (show TrOk D (d + 1) mi_X0_moveBack 62 (tr_lald 63) from ok_lald (show decode mi_X0_moveBack.2.1 62 = .ok (.laload, 1) from by decide +kernel)) <|
  tk_c (show TrOk D (d + 1) mi_X0_moveBack 63 (tr_lsub 64) from ok_lsub (show decode mi_X0_moveBack.2.1 63 = .ok (.lsub, 1) from by decide +kernel)) <|
  tk_c (show TrOk D (d + 1) mi_X0_moveBack 64 (tr_putL 67 4 303) from ok_putL (ci := 3) (k := 3) (show decode mi_X0_moveBack.2.1 64 = .ok (.putfield 21, 3) from by decide +kernel) rfl (by decide) (gm 328 (by decide +kernel) rfl) rfl (Or.inl rfl)) <|
  tk_c (show TrOk D (d + 1) mi_X0_moveBack 67 (tr_iinc 70 3 1) from ok_iinc (show decode mi_X0_moveBack.2.1 67 = .ok (.iinc 3 1, 3) from by decide +kernel) rfl (by decide)) <|
  tk_c (show TrOk D (d + 1) mi_X0_moveBack 70 (tr_goto 11) from ok_goto (show decode mi_X0_moveBack.2.1 70 = .ok (.goto (-59), 3) from by decide +kernel) (by decide)) <|
  tk_n
def tb_X0_moveBack_1 (C : Nat → Sp) : Tab := [(73, tr_aload 74 0), (74, tr_dup 75), (75, tr_getI 78 1 3), (78, tr_iload 79 2), (79, tr_isub 80), (80, tr_putI 83 1 3), (83, tr_iload 84 2), (84, tr_iret)]
set_option maxRecDepth 20000 in
theorem tbk_X0_moveBack_1 {D : DD} {d : Nat} {C : Nat → Sp} (hC : Snd D d C) : ∀ e ∈ tb_X0_moveBack_1 C, TrOk D (d + 1) mi_X0_moveBack e.1 e.2 :=
  tk_c (show TrOk D (d + 1) mi_X0_moveBack 73 (tr_aload 74 0) from ok_aload_n (show decode mi_X0_moveBack.2.1 73 = .ok (.aload_n 0, 1) from by decide +kernel) rfl) <|
  tk_c (show TrOk D (d + 1) mi_X0_moveBack 74 (tr_dup 75) from ok_dup (show decode mi_X0_moveBack.2.1 74 = .ok (.dup, 1) from by decide +kernel)) <|
  tk_c (show TrOk D (d + 1) mi_X0_moveBack 75 (tr_getI 78 1 3) from ok_getI (ci := 0) (k := 3) (show decode mi_X0_moveBack.2.1 75 = .ok (.getfield 29, 3) from by decide +kernel) rfl (by decide) (gm 116 (by decide +kernel) rfl) rfl) <|
  tk_c (show TrOk D (d + 1) mi_X0_moveBack 78 (tr_iload 79 2) from ok_iload_n (show decode mi_X0_moveBack.2.1 78 = .ok (.iload_n 2, 1) from by decide +kernel) rfl) <|
  tk_c (show TrOk D (d + 1) mi_X0_moveBack 79 (tr_isub 80) from ok_isub (show decode mi_X0_moveBack.2.1 79 = .ok (.isub, 1) from by decide +kernel)) <|
  tk_c (show TrOk D (d + 1) mi_X0_moveBack 80 (tr_putI 83 1 3) from ok_putI (ci := 0) (k := 3) (show decode mi_X0_moveBack.2.1 80 = .ok (.putfield 29, 3) from by decide +kernel) rfl (by decide) (gm 116 (by decide +kernel) rfl) rfl (Or.inl rfl)) <|
  tk_c (show TrOk D (d + 1) mi_X0_moveBack 83 (tr_iload 84 2) from ok_iload_n (show decode mi_X0_moveBack.2.1 83 = .ok (.iload_n 2, 1) from by decide +kernel) rfl) <|
  tk_c (show TrOk D (d + 1) mi_X0_moveBack 84 (tr_iret) from ok_iret (show decode mi_X0_moveBack.2.1 84 = .ok (.ireturn, 1) from by decide +kernel) rfl) <|
  tk_n
def tb_X0_moveBack (C : Nat → Sp) : Tab := tb_X0_moveBack_0 C ++ (tb_X0_moveBack_1 C)
theorem tbk_X0_moveBack {D : DD} {d : Nat} {C : Nat → Sp} (hC : Snd D d C) : ∀ e ∈ tb_X0_moveBack C, TrOk D (d + 1) mi_X0_moveBack e.1 e.2 := tk_a (tbk_X0_moveBack_0 hC) (tbk_X0_moveBack_1 hC)
theorem a_X0_moveBack_0 (C : Nat → Sp) : ta (tb_X0_moveBack C) 0 = tr_iload 1 1 := rfl
theorem a_X0_moveBack_1 (C : Nat → Sp) : ta (tb_X0_moveBack C) 1 = tr_aload 2 0 := rfl
theorem a_X0_moveBack_2 (C : Nat → Sp) : ta (tb_X0_moveBack C) 2 = tr_getI 5 1 3 := rfl
theorem a_X0_moveBack_5 (C : Nat → Sp) : ta (tb_X0_moveBack C) 5 = tr_callS (C 138) 8 2 := rfl
theorem a_X0_moveBack_8 (C : Nat → Sp) : ta (tb_X0_moveBack C) 8 = tr_istore 9 2 := rfl
theorem a_X0_moveBack_9 (C : Nat → Sp) : ta (tb_X0_moveBack C) 9 = tr_ic 10 0 := rfl
theorem a_X0_moveBack_10 (C : Nat → Sp) : ta (tb_X0_moveBack C) 10 = tr_istore 11 3 := rfl
theorem a_X0_moveBack_11 (C : Nat → Sp) : ta (tb_X0_moveBack C) 11 = tr_iload 12 3 := rfl
theorem a_X0_moveBack_12 (C : Nat → Sp) : ta (tb_X0_moveBack C) 12 = tr_iload 13 2 := rfl
theorem a_X0_moveBack_13 (C : Nat → Sp) : ta (tb_X0_moveBack C) 13 = tr_icge 16 73 := rfl
theorem a_X0_moveBack_16 (C : Nat → Sp) : ta (tb_X0_moveBack C) 16 = tr_aload 17 0 := rfl
theorem a_X0_moveBack_17 (C : Nat → Sp) : ta (tb_X0_moveBack C) 17 = tr_aload 18 0 := rfl
theorem a_X0_moveBack_18 (C : Nat → Sp) : ta (tb_X0_moveBack C) 18 = tr_getI 21 1 2 := rfl
theorem a_X0_moveBack_21 (C : Nat → Sp) : ta (tb_X0_moveBack C) 21 = tr_ic 23 50 := rfl
theorem a_X0_moveBack_23 (C : Nat → Sp) : ta (tb_X0_moveBack C) 23 = tr_iadd 24 := rfl
theorem a_X0_moveBack_24 (C : Nat → Sp) : ta (tb_X0_moveBack C) 24 = tr_ic 25 1 := rfl
theorem a_X0_moveBack_25 (C : Nat → Sp) : ta (tb_X0_moveBack C) 25 = tr_isub 26 := rfl
theorem a_X0_moveBack_26 (C : Nat → Sp) : ta (tb_X0_moveBack C) 26 = tr_ic 28 50 := rfl
theorem a_X0_moveBack_28 (C : Nat → Sp) : ta (tb_X0_moveBack C) 28 = tr_irem 29 := rfl
theorem a_X0_moveBack_29 (C : Nat → Sp) : ta (tb_X0_moveBack C) 29 = tr_putI 32 1 2 := rfl
theorem a_X0_moveBack_32 (C : Nat → Sp) : ta (tb_X0_moveBack C) 32 = tr_aload 33 0 := rfl
theorem a_X0_moveBack_33 (C : Nat → Sp) : ta (tb_X0_moveBack C) 33 = tr_getR 36 1 0 := rfl
theorem a_X0_moveBack_36 (C : Nat → Sp) : ta (tb_X0_moveBack C) 36 = tr_aload 37 0 := rfl
theorem a_X0_moveBack_37 (C : Nat → Sp) : ta (tb_X0_moveBack C) 37 = tr_getI 40 1 2 := rfl
theorem a_X0_moveBack_40 (C : Nat → Sp) : ta (tb_X0_moveBack C) 40 = tr_aald 41 5 := rfl
theorem a_X0_moveBack_41 (C : Nat → Sp) : ta (tb_X0_moveBack C) 41 = tr_astore 43 4 := rfl
theorem a_X0_moveBack_43 (C : Nat → Sp) : ta (tb_X0_moveBack C) 43 = tr_aload 45 4 := rfl
theorem a_X0_moveBack_45 (C : Nat → Sp) : ta (tb_X0_moveBack C) 45 = tr_ifnull 48 67 := rfl
theorem a_X0_moveBack_48 (C : Nat → Sp) : ta (tb_X0_moveBack C) 48 = tr_aload 50 4 := rfl
theorem a_X0_moveBack_50 (C : Nat → Sp) : ta (tb_X0_moveBack C) 50 = tr_dup 51 := rfl
theorem a_X0_moveBack_51 (C : Nat → Sp) : ta (tb_X0_moveBack C) 51 = tr_getL 54 4 303 := rfl
theorem a_X0_moveBack_54 (C : Nat → Sp) : ta (tb_X0_moveBack C) 54 = tr_aload 55 0 := rfl
theorem a_X0_moveBack_55 (C : Nat → Sp) : ta (tb_X0_moveBack C) 55 = tr_getR 58 1 1 := rfl
theorem a_X0_moveBack_58 (C : Nat → Sp) : ta (tb_X0_moveBack C) 58 = tr_aload 59 0 := rfl
theorem a_X0_moveBack_59 (C : Nat → Sp) : ta (tb_X0_moveBack C) 59 = tr_getI 62 1 2 := rfl
theorem a_X0_moveBack_62 (C : Nat → Sp) : ta (tb_X0_moveBack C) 62 = tr_lald 63 := rfl
theorem a_X0_moveBack_63 (C : Nat → Sp) : ta (tb_X0_moveBack C) 63 = tr_lsub 64 := rfl
theorem a_X0_moveBack_64 (C : Nat → Sp) : ta (tb_X0_moveBack C) 64 = tr_putL 67 4 303 := rfl
theorem a_X0_moveBack_67 (C : Nat → Sp) : ta (tb_X0_moveBack C) 67 = tr_iinc 70 3 1 := rfl
theorem a_X0_moveBack_70 (C : Nat → Sp) : ta (tb_X0_moveBack C) 70 = tr_goto 11 := rfl
theorem a_X0_moveBack_73 (C : Nat → Sp) : ta (tb_X0_moveBack C) 73 = tr_aload 74 0 := rfl
theorem a_X0_moveBack_74 (C : Nat → Sp) : ta (tb_X0_moveBack C) 74 = tr_dup 75 := rfl
theorem a_X0_moveBack_75 (C : Nat → Sp) : ta (tb_X0_moveBack C) 75 = tr_getI 78 1 3 := rfl
theorem a_X0_moveBack_78 (C : Nat → Sp) : ta (tb_X0_moveBack C) 78 = tr_iload 79 2 := rfl
theorem a_X0_moveBack_79 (C : Nat → Sp) : ta (tb_X0_moveBack C) 79 = tr_isub 80 := rfl
theorem a_X0_moveBack_80 (C : Nat → Sp) : ta (tb_X0_moveBack C) 80 = tr_putI 83 1 3 := rfl
theorem a_X0_moveBack_83 (C : Nat → Sp) : ta (tb_X0_moveBack C) 83 = tr_iload 84 2 := rfl
theorem a_X0_moveBack_84 (C : Nat → Sp) : ta (tb_X0_moveBack C) 84 = tr_iret := rfl

def tb_X1_init_0 (C : Nat → Sp) : Tab := [(0, tr_aload 1 0), (1, tr_obj 4), (4, tr_aload 5 0), (5, tr_iload 6 1), (6, tr_putI 9 2 100), (9, tr_ret)]
set_option maxRecDepth 20000 in
theorem tbk_X1_init_0 {D : DD} {d : Nat} {C : Nat → Sp} (hC : Snd D d C) : ∀ e ∈ tb_X1_init_0 C, TrOk D (d + 1) mi_X1_init e.1 e.2 :=
  tk_c (show TrOk D (d + 1) mi_X1_init 0 (tr_aload 1 0) from ok_aload_n (show decode mi_X1_init.2.1 0 = .ok (.aload_n 0, 1) from by decide +kernel) rfl) <|
  tk_c (show TrOk D (d + 1) mi_X1_init 1 (tr_obj 4) from ok_obj (show decode mi_X1_init.2.1 1 = .ok (.invokespecial 3, 3) from by decide +kernel) (gm 221 (by decide +kernel) rfl) (gm 50 (by decide +kernel) rfl) (gm 51 rfl rfl)) <|
  tk_c (show TrOk D (d + 1) mi_X1_init 4 (tr_aload 5 0) from ok_aload_n (show decode mi_X1_init.2.1 4 = .ok (.aload_n 0, 1) from by decide +kernel) rfl) <|
  tk_c (show TrOk D (d + 1) mi_X1_init 5 (tr_iload 6 1) from ok_iload_n (show decode mi_X1_init.2.1 5 = .ok (.iload_n 1, 1) from by decide +kernel) rfl) <|
  tk_c (show TrOk D (d + 1) mi_X1_init 6 (tr_putI 9 2 100) from ok_putI (ci := 1) (k := 0) (show decode mi_X1_init.2.1 6 = .ok (.putfield 9, 3) from by decide +kernel) rfl (by decide) (gm 222 (by decide +kernel) rfl) rfl (Or.inr ⟨rfl, rfl, rfl⟩)) <|
  tk_c (show TrOk D (d + 1) mi_X1_init 9 (tr_ret) from ok_ret (show decode mi_X1_init.2.1 9 = .ok (.return_, 1) from by decide +kernel) rfl) <|
  tk_n
def tb_X1_init (C : Nat → Sp) : Tab := tb_X1_init_0 C
theorem tbk_X1_init {D : DD} {d : Nat} {C : Nat → Sp} (hC : Snd D d C) : ∀ e ∈ tb_X1_init C, TrOk D (d + 1) mi_X1_init e.1 e.2 := tbk_X1_init_0 hC
theorem a_X1_init_0 (C : Nat → Sp) : ta (tb_X1_init C) 0 = tr_aload 1 0 := rfl
theorem a_X1_init_1 (C : Nat → Sp) : ta (tb_X1_init C) 1 = tr_obj 4 := rfl
theorem a_X1_init_4 (C : Nat → Sp) : ta (tb_X1_init C) 4 = tr_aload 5 0 := rfl
theorem a_X1_init_5 (C : Nat → Sp) : ta (tb_X1_init C) 5 = tr_iload 6 1 := rfl
theorem a_X1_init_6 (C : Nat → Sp) : ta (tb_X1_init C) 6 = tr_putI 9 2 100 := rfl
theorem a_X1_init_9 (C : Nat → Sp) : ta (tb_X1_init C) 9 = tr_ret := rfl

def tb_X1_begin_0 (C : Nat → Sp) : Tab := [(0, tr_aload 1 0), (1, tr_aload 2 1), (2, tr_putR 5 2 101), (5, tr_aload 6 0), (6, tr_lload 7 2), (7, tr_putL 10 2 103), (10, tr_aload 11 0), (11, tr_ic 13 (-4)), (13, tr_putI 16 2 105), (16, tr_ret)]
set_option maxRecDepth 20000 in
theorem tbk_X1_begin_0 {D : DD} {d : Nat} {C : Nat → Sp} (hC : Snd D d C) : ∀ e ∈ tb_X1_begin_0 C, TrOk D (d + 1) mi_X1_begin e.1 e.2 :=
  tk_c (show TrOk D (d + 1) mi_X1_begin 0 (tr_aload 1 0) from ok_aload_n (show decode mi_X1_begin.2.1 0 = .ok (.aload_n 0, 1) from by decide +kernel) rfl) <|
  tk_c (show TrOk D (d + 1) mi_X1_begin 1 (tr_aload 2 1) from ok_aload_n (show decode mi_X1_begin.2.1 1 = .ok (.aload_n 1, 1) from by decide +kernel) rfl) <|
  tk_c (show TrOk D (d + 1) mi_X1_begin 2 (tr_putR 5 2 101) from ok_putR (ci := 1) (k := 1) (show decode mi_X1_begin.2.1 2 = .ok (.putfield 15, 3) from by decide +kernel) rfl (by decide) (gm 224 (by decide +kernel) rfl) rfl (Or.inl rfl)) <|
  tk_c (show TrOk D (d + 1) mi_X1_begin 5 (tr_aload 6 0) from ok_aload_n (show decode mi_X1_begin.2.1 5 = .ok (.aload_n 0, 1) from by decide +kernel) rfl) <|
  tk_c (show TrOk D (d + 1) mi_X1_begin 6 (tr_lload 7 2) from ok_lload_n (show decode mi_X1_begin.2.1 6 = .ok (.lload_n 2, 1) from by decide +kernel) rfl) <|
  tk_c (show TrOk D (d + 1) mi_X1_begin 7 (tr_putL 10 2 103) from ok_putL (ci := 1) (k := 3) (show decode mi_X1_begin.2.1 7 = .ok (.putfield 19, 3) from by decide +kernel) rfl (by decide) (gm 227 (by decide +kernel) rfl) rfl (Or.inl rfl)) <|
  tk_c (show TrOk D (d + 1) mi_X1_begin 10 (tr_aload 11 0) from ok_aload_n (show decode mi_X1_begin.2.1 10 = .ok (.aload_n 0, 1) from by decide +kernel) rfl) <|
  tk_c (show TrOk D (d + 1) mi_X1_begin 11 (tr_ic 13 (-4)) from ok_bipush (show decode mi_X1_begin.2.1 11 = .ok (.bipush (-4), 2) from by decide +kernel) rfl) <|
  tk_c (show TrOk D (d + 1) mi_X1_begin 13 (tr_putI 16 2 105) from ok_putI (ci := 1) (k := 5) (show decode mi_X1_begin.2.1 13 = .ok (.putfield 23, 3) from by decide +kernel) rfl (by decide) (gm 230 (by decide +kernel) rfl) rfl (Or.inl rfl)) <|
  tk_c (show TrOk D (d + 1) mi_X1_begin 16 (tr_ret) from ok_ret (show decode mi_X1_begin.2.1 16 = .ok (.return_, 1) from by decide +kernel) rfl) <|
  tk_n
def tb_X1_begin (C : Nat → Sp) : Tab := tb_X1_begin_0 C
theorem tbk_X1_begin {D : DD} {d : Nat} {C : Nat → Sp} (hC : Snd D d C) : ∀ e ∈ tb_X1_begin C, TrOk D (d + 1) mi_X1_begin e.1 e.2 := tbk_X1_begin_0 hC
theorem a_X1_begin_0 (C : Nat → Sp) : ta (tb_X1_begin C) 0 = tr_aload 1 0 := rfl
theorem a_X1_begin_1 (C : Nat → Sp) : ta (tb_X1_begin C) 1 = tr_aload 2 1 := rfl
theorem a_X1_begin_2 (C : Nat → Sp) : ta (tb_X1_begin C) 2 = tr_putR 5 2 101 := rfl
theorem a_X1_begin_5 (C : Nat → Sp) : ta (tb_X1_begin C) 5 = tr_aload 6 0 := rfl
theorem a_X1_begin_6 (C : Nat → Sp) : ta (tb_X1_begin C) 6 = tr_lload 7 2 := rfl
theorem a_X1_begin_7 (C : Nat → Sp) : ta (tb_X1_begin C) 7 = tr_putL 10 2 103 := rfl
theorem a_X1_begin_10 (C : Nat → Sp) : ta (tb_X1_begin C) 10 = tr_aload 11 0 := rfl
theorem a_X1_begin_11 (C : Nat → Sp) : ta (tb_X1_begin C) 11 = tr_ic 13 (-4) := rfl
theorem a_X1_begin_13 (C : Nat → Sp) : ta (tb_X1_begin C) 13 = tr_putI 16 2 105 := rfl
theorem a_X1_begin_16 (C : Nat → Sp) : ta (tb_X1_begin C) 16 = tr_ret := rfl

def tb_X1_isVetoed_0 (C : Nat → Sp) : Tab := [(0, tr_aload 1 0), (1, tr_getI 4 2 105), (4, tr_ic 6 (-4)), (6, tr_iceq 9 13), (9, tr_ic 10 1), (10, tr_goto 14), (13, tr_ic 14 0), (14, tr_zret)]
set_option maxRecDepth 20000 in
theorem tbk_X1_isVetoed_0 {D : DD} {d : Nat} {C : Nat → Sp} (hC : Snd D d C) : ∀ e ∈ tb_X1_isVetoed_0 C, TrOk D (d + 1) mi_X1_isVetoed e.1 e.2 :=
  tk_c (show TrOk D (d + 1) mi_X1_isVetoed 0 (tr_aload 1 0) from ok_aload_n (show decode mi_X1_isVetoed.2.1 0 = .ok (.aload_n 0, 1) from by decide +kernel) rfl) <|
  tk_c (show TrOk D (d + 1) mi_X1_isVetoed 1 (tr_getI 4 2 105) from ok_getI (ci := 1) (k := 5) (show decode mi_X1_isVetoed.2.1 1 = .ok (.getfield 23, 3) from by decide +kernel) rfl (by decide) (gm 230 (by decide +kernel) rfl) rfl) <|
  tk_c (show TrOk D (d + 1) mi_X1_isVetoed 4 (tr_ic 6 (-4)) from ok_bipush (show decode mi_X1_isVetoed.2.1 4 = .ok (.bipush (-4), 2) from by decide +kernel) rfl) <|
  tk_c (show TrOk D (d + 1) mi_X1_isVetoed 6 (tr_iceq 9 13) from ok_iceq (show decode mi_X1_isVetoed.2.1 6 = .ok (.if_icmp .eq 7, 3) from by decide +kernel) (by decide)) <|
  tk_c (show TrOk D (d + 1) mi_X1_isVetoed 9 (tr_ic 10 1) from ok_iconst (show decode mi_X1_isVetoed.2.1 9 = .ok (.iconst 1, 1) from by decide +kernel) rfl) <|
  tk_c (show TrOk D (d + 1) mi_X1_isVetoed 10 (tr_goto 14) from ok_goto (show decode mi_X1_isVetoed.2.1 10 = .ok (.goto 4, 3) from by decide +kernel) (by decide)) <|
  tk_c (show TrOk D (d + 1) mi_X1_isVetoed 13 (tr_ic 14 0) from ok_iconst (show decode mi_X1_isVetoed.2.1 13 = .ok (.iconst 0, 1) from by decide +kernel) rfl) <|
  tk_c (show TrOk D (d + 1) mi_X1_isVetoed 14 (tr_zret) from ok_zret (show decode mi_X1_isVetoed.2.1 14 = .ok (.ireturn, 1) from by decide +kernel) rfl) <|
  tk_n
def tb_X1_isVetoed (C : Nat → Sp) : Tab := tb_X1_isVetoed_0 C
theorem tbk_X1_isVetoed {D : DD} {d : Nat} {C : Nat → Sp} (hC : Snd D d C) : ∀ e ∈ tb_X1_isVetoed C, TrOk D (d + 1) mi_X1_isVetoed e.1 e.2 := tbk_X1_isVetoed_0 hC
theorem a_X1_isVetoed_0 (C : Nat → Sp) : ta (tb_X1_isVetoed C) 0 = tr_aload 1 0 := rfl
theorem a_X1_isVetoed_1 (C : Nat → Sp) : ta (tb_X1_isVetoed C) 1 = tr_getI 4 2 105 := rfl
theorem a_X1_isVetoed_4 (C : Nat → Sp) : ta (tb_X1_isVetoed C) 4 = tr_ic 6 (-4) := rfl
theorem a_X1_isVetoed_6 (C : Nat → Sp) : ta (tb_X1_isVetoed C) 6 = tr_iceq 9 13 := rfl
theorem a_X1_isVetoed_9 (C : Nat → Sp) : ta (tb_X1_isVetoed C) 9 = tr_ic 10 1 := rfl
theorem a_X1_isVetoed_10 (C : Nat → Sp) : ta (tb_X1_isVetoed C) 10 = tr_goto 14 := rfl
theorem a_X1_isVetoed_13 (C : Nat → Sp) : ta (tb_X1_isVetoed C) 13 = tr_ic 14 0 := rfl
theorem a_X1_isVetoed_14 (C : Nat → Sp) : ta (tb_X1_isVetoed C) 14 = tr_zret := rfl

def tb_X2_init_0 (C : Nat → Sp) : Tab := [(0, tr_aload 1 0), (1, tr_obj 4), (4, tr_aload 5 0), (5, tr_ic 8 200), (8, tr_anew 11 6006008 200 200), (11, tr_putR 14 3 200), (14, tr_aload 15 0), (15, tr_ic 16 3), (16, tr_anew 19 6006016 3 3), (19, tr_putR 22 3 201), (22, tr_aload 23 0), (23, tr_ic 25 30), (25, tr_newa 27 3006025 30 30), (27, tr_putR 30 3 202), (30, tr_ret)]
set_option maxRecDepth 20000 in
theorem tbk_X2_init_0 {D : DD} {d : Nat} {C : Nat → Sp} (hC : Snd D d C) : ∀ e ∈ tb_X2_init_0 C, TrOk D (d + 1) mi_X2_init e.1 e.2 :=
  tk_c (show TrOk D (d + 1) mi_X2_init 0 (tr_aload 1 0) from ok_aload_n (show decode mi_X2_init.2.1 0 = .ok (.aload_n 0, 1) from by decide +kernel) rfl) <|
  tk_c (show TrOk D (d + 1) mi_X2_init 1 (tr_obj 4) from ok_obj (show decode mi_X2_init.2.1 1 = .ok (.invokespecial 3, 3) from by decide +kernel) (gm 73 (by decide +kernel) rfl) (gm 50 (by decide +kernel) rfl) (gm 51 rfl rfl)) <|
  tk_c (show TrOk D (d + 1) mi_X2_init 4 (tr_aload 5 0) from ok_aload_n (show decode mi_X2_init.2.1 4 = .ok (.aload_n 0, 1) from by decide +kernel) rfl) <|
  tk_c (show TrOk D (d + 1) mi_X2_init 5 (tr_ic 8 200) from ok_sipush (show decode mi_X2_init.2.1 5 = .ok (.sipush 200, 3) from by decide +kernel) rfl) <|
  tk_c (show TrOk D (d + 1) mi_X2_init 8 (tr_anew 11 6006008 200 200) from ok_anew (t := 6) (show decode mi_X2_init.2.1 8 = .ok (.anewarray 9, 3) from by decide +kernel) (by decide) (by decide) (gm 74 (by decide +kernel) rfl) (by decide) (by decide) (by decide) (by decide)) <|
  tk_c (show TrOk D (d + 1) mi_X2_init 11 (tr_putR 14 3 200) from ok_putR (ci := 2) (k := 0) (show decode mi_X2_init.2.1 11 = .ok (.putfield 11, 3) from by decide +kernel) rfl (by decide) (gm 76 (by decide +kernel) rfl) rfl (Or.inr ⟨rfl, rfl, rfl⟩)) <|
  tk_c (show TrOk D (d + 1) mi_X2_init 14 (tr_aload 15 0) from ok_aload_n (show decode mi_X2_init.2.1 14 = .ok (.aload_n 0, 1) from by decide +kernel) rfl) <|
  tk_c (show TrOk D (d + 1) mi_X2_init 15 (tr_ic 16 3) from ok_iconst (show decode mi_X2_init.2.1 15 = .ok (.iconst 3, 1) from by decide +kernel) rfl) <|
  tk_c (show TrOk D (d + 1) mi_X2_init 16 (tr_anew 19 6006016 3 3) from ok_anew (t := 6) (show decode mi_X2_init.2.1 16 = .ok (.anewarray 9, 3) from by decide +kernel) (by decide) (by decide) (gm 74 (by decide +kernel) rfl) (by decide) (by decide) (by decide) (by decide)) <|
  tk_c (show TrOk D (d + 1) mi_X2_init 19 (tr_putR 22 3 201) from ok_putR (ci := 2) (k := 1) (show decode mi_X2_init.2.1 19 = .ok (.putfield 17, 3) from by decide +kernel) rfl (by decide) (gm 77 (by decide +kernel) rfl) rfl (Or.inr ⟨rfl, rfl, rfl⟩)) <|
  tk_c (show TrOk D (d + 1) mi_X2_init 22 (tr_aload 23 0) from ok_aload_n (show decode mi_X2_init.2.1 22 = .ok (.aload_n 0, 1) from by decide +kernel) rfl) <|
  tk_c (show TrOk D (d + 1) mi_X2_init 23 (tr_ic 25 30) from ok_bipush (show decode mi_X2_init.2.1 23 = .ok (.bipush 30, 2) from by decide +kernel) rfl) <|
  tk_c (show TrOk D (d + 1) mi_X2_init 25 (tr_newa 27 3006025 30 30) from ok_newa (t := 3) (show decode mi_X2_init.2.1 25 = .ok (.newarray .boolean, 2) from by decide +kernel) rfl (by decide) (gm 103 (by decide +kernel) rfl) (by decide) (by decide) (by decide) (by decide)) <|
  tk_c (show TrOk D (d + 1) mi_X2_init 27 (tr_putR 30 3 202) from ok_putR (ci := 2) (k := 2) (show decode mi_X2_init.2.1 27 = .ok (.putfield 20, 3) from by decide +kernel) rfl (by decide) (gm 78 (by decide +kernel) rfl) rfl (Or.inr ⟨rfl, rfl, rfl⟩)) <|
  tk_c (show TrOk D (d + 1) mi_X2_init 30 (tr_ret) from ok_ret (show decode mi_X2_init.2.1 30 = .ok (.return_, 1) from by decide +kernel) rfl) <|
  tk_n
def tb_X2_init (C : Nat → Sp) : Tab := tb_X2_init_0 C
theorem tbk_X2_init {D : DD} {d : Nat} {C : Nat → Sp} (hC : Snd D d C) : ∀ e ∈ tb_X2_init C, TrOk D (d + 1) mi_X2_init e.1 e.2 := tbk_X2_init_0 hC
theorem a_X2_init_0 (C : Nat → Sp) : ta (tb_X2_init C) 0 = tr_aload 1 0 := rfl
theorem a_X2_init_1 (C : Nat → Sp) : ta (tb_X2_init C) 1 = tr_obj 4 := rfl
theorem a_X2_init_4 (C : Nat → Sp) : ta (tb_X2_init C) 4 = tr_aload 5 0 := rfl
theorem a_X2_init_5 (C : Nat → Sp) : ta (tb_X2_init C) 5 = tr_ic 8 200 := rfl
theorem a_X2_init_8 (C : Nat → Sp) : ta (tb_X2_init C) 8 = tr_anew 11 6006008 200 200 := rfl
theorem a_X2_init_11 (C : Nat → Sp) : ta (tb_X2_init C) 11 = tr_putR 14 3 200 := rfl
theorem a_X2_init_14 (C : Nat → Sp) : ta (tb_X2_init C) 14 = tr_aload 15 0 := rfl
theorem a_X2_init_15 (C : Nat → Sp) : ta (tb_X2_init C) 15 = tr_ic 16 3 := rfl
theorem a_X2_init_16 (C : Nat → Sp) : ta (tb_X2_init C) 16 = tr_anew 19 6006016 3 3 := rfl
theorem a_X2_init_19 (C : Nat → Sp) : ta (tb_X2_init C) 19 = tr_putR 22 3 201 := rfl
theorem a_X2_init_22 (C : Nat → Sp) : ta (tb_X2_init C) 22 = tr_aload 23 0 := rfl
theorem a_X2_init_23 (C : Nat → Sp) : ta (tb_X2_init C) 23 = tr_ic 25 30 := rfl
theorem a_X2_init_25 (C : Nat → Sp) : ta (tb_X2_init C) 25 = tr_newa 27 3006025 30 30 := rfl
theorem a_X2_init_27 (C : Nat → Sp) : ta (tb_X2_init C) 27 = tr_putR 30 3 202 := rfl
theorem a_X2_init_30 (C : Nat → Sp) : ta (tb_X2_init C) 30 = tr_ret := rfl

def tb_X2_find_0 (C : Nat → Sp) : Tab := [(0, tr_iload 1 1), (1, tr_iflt 4 21), (4, tr_iload 5 1), (5, tr_aload 6 0), (6, tr_getI 9 3 203), (9, tr_icge 12 21), (12, tr_aload 13 0), (13, tr_getR 16 3 200), (16, tr_iload 17 1), (17, tr_aald 18 6), (18, tr_goto 22), (21, tr_null 22), (22, tr_aret)]
set_option maxRecDepth 20000 in
theorem tbk_X2_find_0 {D : DD} {d : Nat} {C : Nat → Sp} (hC : Snd D d C) : ∀ e ∈ tb_X2_find_0 C, TrOk D (d + 1) mi_X2_find e.1 e.2 :=
  tk_c (show TrOk D (d + 1) mi_X2_find 0 (tr_iload 1 1) from ok_iload_n (show decode mi_X2_find.2.1 0 = .ok (.iload_n 1, 1) from by decide +kernel) rfl) <|
  tk_c (show TrOk D (d + 1) mi_X2_find 1 (tr_iflt 4 21) from ok_iflt (show decode mi_X2_find.2.1 1 = .ok (.ifCond .lt 20, 3) from by decide +kernel) (by decide)) <|
  tk_c (show TrOk D (d + 1) mi_X2_find 4 (tr_iload 5 1) from ok_iload_n (show decode mi_X2_find.2.1 4 = .ok (.iload_n 1, 1) from by decide +kernel) rfl) <|
  tk_c (show TrOk D (d + 1) mi_X2_find 5 (tr_aload 6 0) from ok_aload_n (show decode mi_X2_find.2.1 5 = .ok (.aload_n 0, 1) from by decide +kernel) rfl) <|
  tk_c (show TrOk D (d + 1) mi_X2_find 6 (tr_getI 9 3 203) from ok_getI (ci := 2) (k := 3) (show decode mi_X2_find.2.1 6 = .ok (.getfield 24, 3) from by decide +kernel) rfl (by decide) (gm 79 (by decide +kernel) rfl) rfl) <|
  tk_c (show TrOk D (d + 1) mi_X2_find 9 (tr_icge 12 21) from ok_icge (show decode mi_X2_find.2.1 9 = .ok (.if_icmp .ge 12, 3) from by decide +kernel) (by decide)) <|
  tk_c (show TrOk D (d + 1) mi_X2_find 12 (tr_aload 13 0) from ok_aload_n (show decode mi_X2_find.2.1 12 = .ok (.aload_n 0, 1) from by decide +kernel) rfl) <|
  tk_c (show TrOk D (d + 1) mi_X2_find 13 (tr_getR 16 3 200) from ok_getR (ci := 2) (k := 0) (show decode mi_X2_find.2.1 13 = .ok (.getfield 11, 3) from by decide +kernel) rfl (by decide) (gm 76 (by decide +kernel) rfl) rfl) <|
  tk_c (show TrOk D (d + 1) mi_X2_find 16 (tr_iload 17 1) from ok_iload_n (show decode mi_X2_find.2.1 16 = .ok (.iload_n 1, 1) from by decide +kernel) rfl) <|
  tk_c (show TrOk D (d + 1) mi_X2_find 17 (tr_aald 18 6) from ok_aald (by decide) (by decide) (show decode mi_X2_find.2.1 17 = .ok (.aaload, 1) from by decide +kernel)) <|
  tk_c (show TrOk D (d + 1) mi_X2_find 18 (tr_goto 22) from ok_goto (show decode mi_X2_find.2.1 18 = .ok (.goto 4, 3) from by decide +kernel) (by decide)) <|
  tk_c (show TrOk D (d + 1) mi_X2_find 21 (tr_null 22) from ok_null (show decode mi_X2_find.2.1 21 = .ok (.aconst_null, 1) from by decide +kernel)) <|
  tk_c (show TrOk D (d + 1) mi_X2_find 22 (tr_aret) from ok_aret (show decode mi_X2_find.2.1 22 = .ok (.areturn, 1) from by decide +kernel) rfl) <|
  tk_n
def tb_X2_find (C : Nat → Sp) : Tab := tb_X2_find_0 C
theorem tbk_X2_find {D : DD} {d : Nat} {C : Nat → Sp} (hC : Snd D d C) : ∀ e ∈ tb_X2_find C, TrOk D (d + 1) mi_X2_find e.1 e.2 := tbk_X2_find_0 hC
theorem a_X2_find_0 (C : Nat → Sp) : ta (tb_X2_find C) 0 = tr_iload 1 1 := rfl
theorem a_X2_find_1 (C : Nat → Sp) : ta (tb_X2_find C) 1 = tr_iflt 4 21 := rfl
theorem a_X2_find_4 (C : Nat → Sp) : ta (tb_X2_find C) 4 = tr_iload 5 1 := rfl
theorem a_X2_find_5 (C : Nat → Sp) : ta (tb_X2_find C) 5 = tr_aload 6 0 := rfl
theorem a_X2_find_6 (C : Nat → Sp) : ta (tb_X2_find C) 6 = tr_getI 9 3 203 := rfl
theorem a_X2_find_9 (C : Nat → Sp) : ta (tb_X2_find C) 9 = tr_icge 12 21 := rfl
theorem a_X2_find_12 (C : Nat → Sp) : ta (tb_X2_find C) 12 = tr_aload 13 0 := rfl
theorem a_X2_find_13 (C : Nat → Sp) : ta (tb_X2_find C) 13 = tr_getR 16 3 200 := rfl
theorem a_X2_find_16 (C : Nat → Sp) : ta (tb_X2_find C) 16 = tr_iload 17 1 := rfl
theorem a_X2_find_17 (C : Nat → Sp) : ta (tb_X2_find C) 17 = tr_aald 18 6 := rfl
theorem a_X2_find_18 (C : Nat → Sp) : ta (tb_X2_find C) 18 = tr_goto 22 := rfl
theorem a_X2_find_21 (C : Nat → Sp) : ta (tb_X2_find C) 21 = tr_null 22 := rfl
theorem a_X2_find_22 (C : Nat → Sp) : ta (tb_X2_find C) 22 = tr_aret := rfl

def tb_X2_findFirst_0 (C : Nat → Sp) : Tab := [(0, tr_iload 1 1), (1, tr_callS (C 92) 4 1), (4, tr_ifeq 7 16), (7, tr_aload 8 0), (8, tr_getR 11 3 201), (11, tr_iload 12 1), (12, tr_aald 13 6), (13, tr_goto 17), (16, tr_null 17), (17, tr_aret)]
set_option maxRecDepth 20000 in
theorem tbk_X2_findFirst_0 {D : DD} {d : Nat} {C : Nat → Sp} (hC : Snd D d C) : ∀ e ∈ tb_X2_findFirst_0 C, TrOk D (d + 1) mi_X2_findFirst e.1 e.2 :=
  tk_c (show TrOk D (d + 1) mi_X2_findFirst 0 (tr_iload 1 1) from ok_iload_n (show decode mi_X2_findFirst.2.1 0 = .ok (.iload_n 1, 1) from by decide +kernel) rfl) <|
  tk_c (show TrOk D (d + 1) mi_X2_findFirst 1 (tr_callS (C 92) 4 1) from ok_callSN (host := "ShowDesk") (show decode mi_X2_findFirst.2.1 1 = .ok (.invokestatic 28, 3) from by decide +kernel) mok_X11_isPhase (by decide +kernel) (gm 374 (by decide +kernel) rfl) (hC 92)) <|
  tk_c (show TrOk D (d + 1) mi_X2_findFirst 4 (tr_ifeq 7 16) from ok_ifeq (show decode mi_X2_findFirst.2.1 4 = .ok (.ifCond .eq 12, 3) from by decide +kernel) (by decide)) <|
  tk_c (show TrOk D (d + 1) mi_X2_findFirst 7 (tr_aload 8 0) from ok_aload_n (show decode mi_X2_findFirst.2.1 7 = .ok (.aload_n 0, 1) from by decide +kernel) rfl) <|
  tk_c (show TrOk D (d + 1) mi_X2_findFirst 8 (tr_getR 11 3 201) from ok_getR (ci := 2) (k := 1) (show decode mi_X2_findFirst.2.1 8 = .ok (.getfield 17, 3) from by decide +kernel) rfl (by decide) (gm 77 (by decide +kernel) rfl) rfl) <|
  tk_c (show TrOk D (d + 1) mi_X2_findFirst 11 (tr_iload 12 1) from ok_iload_n (show decode mi_X2_findFirst.2.1 11 = .ok (.iload_n 1, 1) from by decide +kernel) rfl) <|
  tk_c (show TrOk D (d + 1) mi_X2_findFirst 12 (tr_aald 13 6) from ok_aald (by decide) (by decide) (show decode mi_X2_findFirst.2.1 12 = .ok (.aaload, 1) from by decide +kernel)) <|
  tk_c (show TrOk D (d + 1) mi_X2_findFirst 13 (tr_goto 17) from ok_goto (show decode mi_X2_findFirst.2.1 13 = .ok (.goto 4, 3) from by decide +kernel) (by decide)) <|
  tk_c (show TrOk D (d + 1) mi_X2_findFirst 16 (tr_null 17) from ok_null (show decode mi_X2_findFirst.2.1 16 = .ok (.aconst_null, 1) from by decide +kernel)) <|
  tk_c (show TrOk D (d + 1) mi_X2_findFirst 17 (tr_aret) from ok_aret (show decode mi_X2_findFirst.2.1 17 = .ok (.areturn, 1) from by decide +kernel) rfl) <|
  tk_n
def tb_X2_findFirst (C : Nat → Sp) : Tab := tb_X2_findFirst_0 C
theorem tbk_X2_findFirst {D : DD} {d : Nat} {C : Nat → Sp} (hC : Snd D d C) : ∀ e ∈ tb_X2_findFirst C, TrOk D (d + 1) mi_X2_findFirst e.1 e.2 := tbk_X2_findFirst_0 hC
theorem a_X2_findFirst_0 (C : Nat → Sp) : ta (tb_X2_findFirst C) 0 = tr_iload 1 1 := rfl
theorem a_X2_findFirst_1 (C : Nat → Sp) : ta (tb_X2_findFirst C) 1 = tr_callS (C 92) 4 1 := rfl
theorem a_X2_findFirst_4 (C : Nat → Sp) : ta (tb_X2_findFirst C) 4 = tr_ifeq 7 16 := rfl
theorem a_X2_findFirst_7 (C : Nat → Sp) : ta (tb_X2_findFirst C) 7 = tr_aload 8 0 := rfl
theorem a_X2_findFirst_8 (C : Nat → Sp) : ta (tb_X2_findFirst C) 8 = tr_getR 11 3 201 := rfl
theorem a_X2_findFirst_11 (C : Nat → Sp) : ta (tb_X2_findFirst C) 11 = tr_iload 12 1 := rfl
theorem a_X2_findFirst_12 (C : Nat → Sp) : ta (tb_X2_findFirst C) 12 = tr_aald 13 6 := rfl
theorem a_X2_findFirst_13 (C : Nat → Sp) : ta (tb_X2_findFirst C) 13 = tr_goto 17 := rfl
theorem a_X2_findFirst_16 (C : Nat → Sp) : ta (tb_X2_findFirst C) 16 = tr_null 17 := rfl
theorem a_X2_findFirst_17 (C : Nat → Sp) : ta (tb_X2_findFirst C) 17 = tr_aret := rfl

def tb_X2_isFull_0 (C : Nat → Sp) : Tab := [(0, tr_aload 1 0), (1, tr_getI 4 3 203), (4, tr_ic 7 200), (7, tr_iclt 10 14), (10, tr_ic 11 1), (11, tr_goto 15), (14, tr_ic 15 0), (15, tr_zret)]
set_option maxRecDepth 20000 in
theorem tbk_X2_isFull_0 {D : DD} {d : Nat} {C : Nat → Sp} (hC : Snd D d C) : ∀ e ∈ tb_X2_isFull_0 C, TrOk D (d + 1) mi_X2_isFull e.1 e.2 :=
  tk_c (show TrOk D (d + 1) mi_X2_isFull 0 (tr_aload 1 0) from ok_aload_n (show decode mi_X2_isFull.2.1 0 = .ok (.aload_n 0, 1) from by decide +kernel) rfl) <|
  tk_c (show TrOk D (d + 1) mi_X2_isFull 1 (tr_getI 4 3 203) from ok_getI (ci := 2) (k := 3) (show decode mi_X2_isFull.2.1 1 = .ok (.getfield 24, 3) from by decide +kernel) rfl (by decide) (gm 79 (by decide +kernel) rfl) rfl) <|
  tk_c (show TrOk D (d + 1) mi_X2_isFull 4 (tr_ic 7 200) from ok_sipush (show decode mi_X2_isFull.2.1 4 = .ok (.sipush 200, 3) from by decide +kernel) rfl) <|
  tk_c (show TrOk D (d + 1) mi_X2_isFull 7 (tr_iclt 10 14) from ok_iclt (show decode mi_X2_isFull.2.1 7 = .ok (.if_icmp .lt 7, 3) from by decide +kernel) (by decide)) <|
  tk_c (show TrOk D (d + 1) mi_X2_isFull 10 (tr_ic 11 1) from ok_iconst (show decode mi_X2_isFull.2.1 10 = .ok (.iconst 1, 1) from by decide +kernel) rfl) <|
  tk_c (show TrOk D (d + 1) mi_X2_isFull 11 (tr_goto 15) from ok_goto (show decode mi_X2_isFull.2.1 11 = .ok (.goto 4, 3) from by decide +kernel) (by decide)) <|
  tk_c (show TrOk D (d + 1) mi_X2_isFull 14 (tr_ic 15 0) from ok_iconst (show decode mi_X2_isFull.2.1 14 = .ok (.iconst 0, 1) from by decide +kernel) rfl) <|
  tk_c (show TrOk D (d + 1) mi_X2_isFull 15 (tr_zret) from ok_zret (show decode mi_X2_isFull.2.1 15 = .ok (.ireturn, 1) from by decide +kernel) rfl) <|
  tk_n
def tb_X2_isFull (C : Nat → Sp) : Tab := tb_X2_isFull_0 C
theorem tbk_X2_isFull {D : DD} {d : Nat} {C : Nat → Sp} (hC : Snd D d C) : ∀ e ∈ tb_X2_isFull C, TrOk D (d + 1) mi_X2_isFull e.1 e.2 := tbk_X2_isFull_0 hC
theorem a_X2_isFull_0 (C : Nat → Sp) : ta (tb_X2_isFull C) 0 = tr_aload 1 0 := rfl
theorem a_X2_isFull_1 (C : Nat → Sp) : ta (tb_X2_isFull C) 1 = tr_getI 4 3 203 := rfl
theorem a_X2_isFull_4 (C : Nat → Sp) : ta (tb_X2_isFull C) 4 = tr_ic 7 200 := rfl
theorem a_X2_isFull_7 (C : Nat → Sp) : ta (tb_X2_isFull C) 7 = tr_iclt 10 14 := rfl
theorem a_X2_isFull_10 (C : Nat → Sp) : ta (tb_X2_isFull C) 10 = tr_ic 11 1 := rfl
theorem a_X2_isFull_11 (C : Nat → Sp) : ta (tb_X2_isFull C) 11 = tr_goto 15 := rfl
theorem a_X2_isFull_14 (C : Nat → Sp) : ta (tb_X2_isFull C) 14 = tr_ic 15 0 := rfl
theorem a_X2_isFull_15 (C : Nat → Sp) : ta (tb_X2_isFull C) 15 = tr_zret := rfl

def tb_X2_seat_0 (C : Nat → Sp) : Tab := [(0, tr_aload 1 0), (1, tr_callV (C 9) 4 3 0), (4, tr_ifne 7 17), (7, tr_aload 8 1), (8, tr_getI 11 6 502), (11, tr_callS (C 92) 14 1), (14, tr_ifne 17 18), (17, tr_ret), (18, tr_aload 19 0), (19, tr_getR 22 3 200), (22, tr_aload 23 0), (23, tr_getI 26 3 203), (26, tr_aload 27 1), (27, tr_aast 28 6), (28, tr_aload 29 0), (29, tr_dup 30), (30, tr_getI 33 3 203), (33, tr_ic 34 1), (34, tr_iadd 35), (35, tr_putI 38 3 203), (38, tr_aload 39 0), (39, tr_dup 40), (40, tr_getI 43 3 204), (43, tr_ic 44 1), (44, tr_iadd 45), (45, tr_putI 48 3 204), (48, tr_aload 49 0), (49, tr_aload 50 1), (50, tr_callV (C 11) 53 3 1), (53, tr_ret)]
set_option maxRecDepth 20000 in
theorem tbk_X2_seat_0 {D : DD} {d : Nat} {C : Nat → Sp} (hC : Snd D d C) : ∀ e ∈ tb_X2_seat_0 C, TrOk D (d + 1) mi_X2_seat e.1 e.2 :=
  tk_c (show TrOk D (d + 1) mi_X2_seat 0 (tr_aload 1 0) from ok_aload_n (show decode mi_X2_seat.2.1 0 = .ok (.aload_n 0, 1) from by decide +kernel) rfl) <|
  tk_c (show TrOk D (d + 1) mi_X2_seat 1 (tr_callV (C 9) 4 3 0) from ok_callV (ci := 2) (show decode mi_X2_seat.2.1 1 = .ok (.invokevirtual 32, 3) from by decide +kernel) mok_X2_isFull rfl rfl (gm 481 (by decide +kernel) rfl) (gm 381 (by decide +kernel) rfl) (gm 382 (by decide +kernel) rfl) (hC 9)) <|
  tk_c (show TrOk D (d + 1) mi_X2_seat 4 (tr_ifne 7 17) from ok_ifne (show decode mi_X2_seat.2.1 4 = .ok (.ifCond .ne 13, 3) from by decide +kernel) (by decide)) <|
  tk_c (show TrOk D (d + 1) mi_X2_seat 7 (tr_aload 8 1) from ok_aload_n (show decode mi_X2_seat.2.1 7 = .ok (.aload_n 1, 1) from by decide +kernel) rfl) <|
  tk_c (show TrOk D (d + 1) mi_X2_seat 8 (tr_getI 11 6 502) from ok_getI (ci := 5) (k := 2) (show decode mi_X2_seat.2.1 8 = .ok (.getfield 36, 3) from by decide +kernel) rfl (by decide) (gm 420 (by decide +kernel) rfl) rfl) <|
  tk_c (show TrOk D (d + 1) mi_X2_seat 11 (tr_callS (C 92) 14 1) from ok_callSN (host := "ShowDesk") (show decode mi_X2_seat.2.1 11 = .ok (.invokestatic 28, 3) from by decide +kernel) mok_X11_isPhase (by decide +kernel) (gm 374 (by decide +kernel) rfl) (hC 92)) <|
  tk_c (show TrOk D (d + 1) mi_X2_seat 14 (tr_ifne 17 18) from ok_ifne (show decode mi_X2_seat.2.1 14 = .ok (.ifCond .ne 4, 3) from by decide +kernel) (by decide)) <|
  tk_c (show TrOk D (d + 1) mi_X2_seat 17 (tr_ret) from ok_ret (show decode mi_X2_seat.2.1 17 = .ok (.return_, 1) from by decide +kernel) rfl) <|
  tk_c (show TrOk D (d + 1) mi_X2_seat 18 (tr_aload 19 0) from ok_aload_n (show decode mi_X2_seat.2.1 18 = .ok (.aload_n 0, 1) from by decide +kernel) rfl) <|
  tk_c (show TrOk D (d + 1) mi_X2_seat 19 (tr_getR 22 3 200) from ok_getR (ci := 2) (k := 0) (show decode mi_X2_seat.2.1 19 = .ok (.getfield 11, 3) from by decide +kernel) rfl (by decide) (gm 76 (by decide +kernel) rfl) rfl) <|
  tk_c (show TrOk D (d + 1) mi_X2_seat 22 (tr_aload 23 0) from ok_aload_n (show decode mi_X2_seat.2.1 22 = .ok (.aload_n 0, 1) from by decide +kernel) rfl) <|
  tk_c (show TrOk D (d + 1) mi_X2_seat 23 (tr_getI 26 3 203) from ok_getI (ci := 2) (k := 3) (show decode mi_X2_seat.2.1 23 = .ok (.getfield 24, 3) from by decide +kernel) rfl (by decide) (gm 79 (by decide +kernel) rfl) rfl) <|
  tk_c (show TrOk D (d + 1) mi_X2_seat 26 (tr_aload 27 1) from ok_aload_n (show decode mi_X2_seat.2.1 26 = .ok (.aload_n 1, 1) from by decide +kernel) rfl) <|
  tk_c (show TrOk D (d + 1) mi_X2_seat 27 (tr_aast 28 6) from ok_aast (by decide) (by decide) (show decode mi_X2_seat.2.1 27 = .ok (.aastore, 1) from by decide +kernel)) <|
  tk_c (show TrOk D (d + 1) mi_X2_seat 28 (tr_aload 29 0) from ok_aload_n (show decode mi_X2_seat.2.1 28 = .ok (.aload_n 0, 1) from by decide +kernel) rfl) <|
  tk_c (show TrOk D (d + 1) mi_X2_seat 29 (tr_dup 30) from ok_dup (show decode mi_X2_seat.2.1 29 = .ok (.dup, 1) from by decide +kernel)) <|
  tk_c (show TrOk D (d + 1) mi_X2_seat 30 (tr_getI 33 3 203) from ok_getI (ci := 2) (k := 3) (show decode mi_X2_seat.2.1 30 = .ok (.getfield 24, 3) from by decide +kernel) rfl (by decide) (gm 79 (by decide +kernel) rfl) rfl) <|
  tk_c (show TrOk D (d + 1) mi_X2_seat 33 (tr_ic 34 1) from ok_iconst (show decode mi_X2_seat.2.1 33 = .ok (.iconst 1, 1) from by decide +kernel) rfl) <|
  tk_c (show TrOk D (d + 1) mi_X2_seat 34 (tr_iadd 35) from ok_iadd (show decode mi_X2_seat.2.1 34 = .ok (.iadd, 1) from by decide +kernel)) <|
  tk_c (show TrOk D (d + 1) mi_X2_seat 35 (tr_putI 38 3 203) from ok_putI (ci := 2) (k := 3) (show decode mi_X2_seat.2.1 35 = .ok (.putfield 24, 3) from by decide +kernel) rfl (by decide) (gm 79 (by decide +kernel) rfl) rfl (Or.inl rfl)) <|
  tk_c (show TrOk D (d + 1) mi_X2_seat 38 (tr_aload 39 0) from ok_aload_n (show decode mi_X2_seat.2.1 38 = .ok (.aload_n 0, 1) from by decide +kernel) rfl) <|
  tk_c (show TrOk D (d + 1) mi_X2_seat 39 (tr_dup 40) from ok_dup (show decode mi_X2_seat.2.1 39 = .ok (.dup, 1) from by decide +kernel)) <|
  tk_c (show TrOk D (d + 1) mi_X2_seat 40 (tr_getI 43 3 204) from ok_getI (ci := 2) (k := 4) (show decode mi_X2_seat.2.1 40 = .ok (.getfield 39, 3) from by decide +kernel) rfl (by decide) (gm 82 (by decide +kernel) rfl) rfl) <|
  tk_c (show TrOk D (d + 1) mi_X2_seat 43 (tr_ic 44 1) from ok_iconst (show decode mi_X2_seat.2.1 43 = .ok (.iconst 1, 1) from by decide +kernel) rfl) <|
  tk_c (show TrOk D (d + 1) mi_X2_seat 44 (tr_iadd 45) from ok_iadd (show decode mi_X2_seat.2.1 44 = .ok (.iadd, 1) from by decide +kernel)) <|
  tk_c (show TrOk D (d + 1) mi_X2_seat 45 (tr_putI 48 3 204) from ok_putI (ci := 2) (k := 4) (show decode mi_X2_seat.2.1 45 = .ok (.putfield 39, 3) from by decide +kernel) rfl (by decide) (gm 82 (by decide +kernel) rfl) rfl (Or.inl rfl)) <|
  tk_c (show TrOk D (d + 1) mi_X2_seat 48 (tr_aload 49 0) from ok_aload_n (show decode mi_X2_seat.2.1 48 = .ok (.aload_n 0, 1) from by decide +kernel) rfl) <|
  tk_c (show TrOk D (d + 1) mi_X2_seat 49 (tr_aload 50 1) from ok_aload_n (show decode mi_X2_seat.2.1 49 = .ok (.aload_n 1, 1) from by decide +kernel) rfl) <|
  tk_c (show TrOk D (d + 1) mi_X2_seat 50 (tr_callV (C 11) 53 3 1) from ok_callV (ci := 2) (show decode mi_X2_seat.2.1 50 = .ok (.invokevirtual 42, 3) from by decide +kernel) mok_X2_link rfl rfl (gm 483 (by decide +kernel) rfl) (gm 485 (by decide +kernel) rfl) (gm 0 (by decide +kernel) rfl) (hC 11)) <|
  tk_c (show TrOk D (d + 1) mi_X2_seat 53 (tr_ret) from ok_ret (show decode mi_X2_seat.2.1 53 = .ok (.return_, 1) from by decide +kernel) rfl) <|
  tk_n
def tb_X2_seat (C : Nat → Sp) : Tab := tb_X2_seat_0 C
theorem tbk_X2_seat {D : DD} {d : Nat} {C : Nat → Sp} (hC : Snd D d C) : ∀ e ∈ tb_X2_seat C, TrOk D (d + 1) mi_X2_seat e.1 e.2 := tbk_X2_seat_0 hC
theorem a_X2_seat_0 (C : Nat → Sp) : ta (tb_X2_seat C) 0 = tr_aload 1 0 := rfl
theorem a_X2_seat_1 (C : Nat → Sp) : ta (tb_X2_seat C) 1 = tr_callV (C 9) 4 3 0 := rfl
theorem a_X2_seat_4 (C : Nat → Sp) : ta (tb_X2_seat C) 4 = tr_ifne 7 17 := rfl
theorem a_X2_seat_7 (C : Nat → Sp) : ta (tb_X2_seat C) 7 = tr_aload 8 1 := rfl
theorem a_X2_seat_8 (C : Nat → Sp) : ta (tb_X2_seat C) 8 = tr_getI 11 6 502 := rfl
theorem a_X2_seat_11 (C : Nat → Sp) : ta (tb_X2_seat C) 11 = tr_callS (C 92) 14 1 := rfl
theorem a_X2_seat_14 (C : Nat → Sp) : ta (tb_X2_seat C) 14 = tr_ifne 17 18 := rfl
theorem a_X2_seat_17 (C : Nat → Sp) : ta (tb_X2_seat C) 17 = tr_ret := rfl
theorem a_X2_seat_18 (C : Nat → Sp) : ta (tb_X2_seat C) 18 = tr_aload 19 0 := rfl
theorem a_X2_seat_19 (C : Nat → Sp) : ta (tb_X2_seat C) 19 = tr_getR 22 3 200 := rfl
theorem a_X2_seat_22 (C : Nat → Sp) : ta (tb_X2_seat C) 22 = tr_aload 23 0 := rfl
theorem a_X2_seat_23 (C : Nat → Sp) : ta (tb_X2_seat C) 23 = tr_getI 26 3 203 := rfl
theorem a_X2_seat_26 (C : Nat → Sp) : ta (tb_X2_seat C) 26 = tr_aload 27 1 := rfl
theorem a_X2_seat_27 (C : Nat → Sp) : ta (tb_X2_seat C) 27 = tr_aast 28 6 := rfl
theorem a_X2_seat_28 (C : Nat → Sp) : ta (tb_X2_seat C) 28 = tr_aload 29 0 := rfl
theorem a_X2_seat_29 (C : Nat → Sp) : ta (tb_X2_seat C) 29 = tr_dup 30 := rfl
theorem a_X2_seat_30 (C : Nat → Sp) : ta (tb_X2_seat C) 30 = tr_getI 33 3 203 := rfl
theorem a_X2_seat_33 (C : Nat → Sp) : ta (tb_X2_seat C) 33 = tr_ic 34 1 := rfl
theorem a_X2_seat_34 (C : Nat → Sp) : ta (tb_X2_seat C) 34 = tr_iadd 35 := rfl
theorem a_X2_seat_35 (C : Nat → Sp) : ta (tb_X2_seat C) 35 = tr_putI 38 3 203 := rfl
theorem a_X2_seat_38 (C : Nat → Sp) : ta (tb_X2_seat C) 38 = tr_aload 39 0 := rfl
theorem a_X2_seat_39 (C : Nat → Sp) : ta (tb_X2_seat C) 39 = tr_dup 40 := rfl
theorem a_X2_seat_40 (C : Nat → Sp) : ta (tb_X2_seat C) 40 = tr_getI 43 3 204 := rfl
theorem a_X2_seat_43 (C : Nat → Sp) : ta (tb_X2_seat C) 43 = tr_ic 44 1 := rfl
theorem a_X2_seat_44 (C : Nat → Sp) : ta (tb_X2_seat C) 44 = tr_iadd 45 := rfl
theorem a_X2_seat_45 (C : Nat → Sp) : ta (tb_X2_seat C) 45 = tr_putI 48 3 204 := rfl
theorem a_X2_seat_48 (C : Nat → Sp) : ta (tb_X2_seat C) 48 = tr_aload 49 0 := rfl
theorem a_X2_seat_49 (C : Nat → Sp) : ta (tb_X2_seat C) 49 = tr_aload 50 1 := rfl
theorem a_X2_seat_50 (C : Nat → Sp) : ta (tb_X2_seat C) 50 = tr_callV (C 11) 53 3 1 := rfl
theorem a_X2_seat_53 (C : Nat → Sp) : ta (tb_X2_seat C) 53 = tr_ret := rfl

def tb_X2_link_0 (C : Nat → Sp) : Tab := [(0, tr_null 1), (1, tr_astore 2 2), (2, tr_aload 3 0), (3, tr_getR 6 3 201), (6, tr_aload 7 1), (7, tr_getI 10 6 502), (10, tr_aald 11 6), (11, tr_astore 12 3), (12, tr_aload 13 3), (13, tr_ifnull 16 34), (16, tr_aload 17 1), (17, tr_aload 18 3), (18, tr_callV (C 29) 21 6 1), (21, tr_ifne 24 34), (24, tr_aload 25 3), (25, tr_astore 26 2), (26, tr_aload 27 3), (27, tr_getR 30 6 512), (30, tr_astore 31 3), (31, tr_goto 12), (34, tr_aload 35 1), (35, tr_aload 36 3), (36, tr_putR 39 6 512), (39, tr_aload 40 2), (40, tr_ifnonnull 43 56), (43, tr_aload 44 0), (44, tr_getR 47 3 201), (47, tr_aload 48 1), (48, tr_getI 51 6 502), (51, tr_aload 52 1), (52, tr_aast 53 6), (53, tr_goto 61), (56, tr_aload 57 2), (57, tr_aload 58 1), (58, tr_putR 61 6 512), (61, tr_ret)]
set_option maxRecDepth 20000 in
theorem tbk_X2_link_0 {D : DD} {d : Nat} {C : Nat → Sp} (hC : Snd D d C) : ∀ e ∈ tb_X2_link_0 C, TrOk D (d + 1) mi_X2_link e.1 e.2 :=
  tk_c (show TrOk D (d + 1) mi_X2_link 0 (tr_null 1) from ok_null (show decode mi_X2_link.2.1 0 = .ok (.aconst_null, 1) from by decide +kernel)) <|
  tk_c (show TrOk D (d + 1) mi_X2_link 1 (tr_astore 2 2) from ok_astore_n (show decode mi_X2_link.2.1 1 = .ok (.astore_n 2, 1) from by decide +kernel) rfl (by decide)) <|
  tk_c (show TrOk D (d + 1) mi_X2_link 2 (tr_aload 3 0) from ok_aload_n (show decode mi_X2_link.2.1 2 = .ok (.aload_n 0, 1) from by decide +kernel) rfl) <|
  tk_c (show TrOk D (d + 1) mi_X2_link 3 (tr_getR 6 3 201) from ok_getR (ci := 2) (k := 1) (show decode mi_X2_link.2.1 3 = .ok (.getfield 17, 3) from by decide +kernel) rfl (by decide) (gm 77 (by decide +kernel) rfl) rfl) <|
  tk_c (show TrOk D (d + 1) mi_X2_link 6 (tr_aload 7 1) from ok_aload_n (show decode mi_X2_link.2.1 6 = .ok (.aload_n 1, 1) from by decide +kernel) rfl) <|
  tk_c (show TrOk D (d + 1) mi_X2_link 7 (tr_getI 10 6 502) from ok_getI (ci := 5) (k := 2) (show decode mi_X2_link.2.1 7 = .ok (.getfield 36, 3) from by decide +kernel) rfl (by decide) (gm 420 (by decide +kernel) rfl) rfl) <|
  tk_c (show TrOk D (d + 1) mi_X2_link 10 (tr_aald 11 6) from ok_aald (by decide) (by decide) (show decode mi_X2_link.2.1 10 = .ok (.aaload, 1) from by decide +kernel)) <|
  tk_c (show TrOk D (d + 1) mi_X2_link 11 (tr_astore 12 3) from ok_astore_n (show decode mi_X2_link.2.1 11 = .ok (.astore_n 3, 1) from by decide +kernel) rfl (by decide)) <|
  tk_c (show TrOk D (d + 1) mi_X2_link 12 (tr_aload 13 3) from ok_aload_n (show decode mi_X2_link.2.1 12 = .ok (.aload_n 3, 1) from by decide +kernel) rfl) <|
  tk_c (show TrOk D (d + 1) mi_X2_link 13 (tr_ifnull 16 34) from ok_ifnull (show decode mi_X2_link.2.1 13 = .ok (.ifnull 21, 3) from by decide +kernel) (by decide)) <|
  tk_c (show TrOk D (d + 1) mi_X2_link 16 (tr_aload 17 1) from ok_aload_n (show decode mi_X2_link.2.1 16 = .ok (.aload_n 1, 1) from by decide +kernel) rfl) <|
  tk_c (show TrOk D (d + 1) mi_X2_link 17 (tr_aload 18 3) from ok_aload_n (show decode mi_X2_link.2.1 17 = .ok (.aload_n 3, 1) from by decide +kernel) rfl) <|
  tk_c (show TrOk D (d + 1) mi_X2_link 18 (tr_callV (C 29) 21 6 1) from ok_callV (ci := 5) (show decode mi_X2_link.2.1 18 = .ok (.invokevirtual 46, 3) from by decide +kernel) mok_X5_isAheadOf rfl rfl (gm 487 (by decide +kernel) rfl) (gm 488 (by decide +kernel) rfl) (gm 489 (by decide +kernel) rfl) (hC 29)) <|
  tk_c (show TrOk D (d + 1) mi_X2_link 21 (tr_ifne 24 34) from ok_ifne (show decode mi_X2_link.2.1 21 = .ok (.ifCond .ne 13, 3) from by decide +kernel) (by decide)) <|
  tk_c (show TrOk D (d + 1) mi_X2_link 24 (tr_aload 25 3) from ok_aload_n (show decode mi_X2_link.2.1 24 = .ok (.aload_n 3, 1) from by decide +kernel) rfl) <|
  tk_c (show TrOk D (d + 1) mi_X2_link 25 (tr_astore 26 2) from ok_astore_n (show decode mi_X2_link.2.1 25 = .ok (.astore_n 2, 1) from by decide +kernel) rfl (by decide)) <|
  tk_c (show TrOk D (d + 1) mi_X2_link 26 (tr_aload 27 3) from ok_aload_n (show decode mi_X2_link.2.1 26 = .ok (.aload_n 3, 1) from by decide +kernel) rfl) <|
  tk_c (show TrOk D (d + 1) mi_X2_link 27 (tr_getR 30 6 512) from ok_getR (ci := 5) (k := 12) (show decode mi_X2_link.2.1 27 = .ok (.getfield 50, 3) from by decide +kernel) rfl (by decide) (gm 449 (by decide +kernel) rfl) rfl) <|
  tk_c (show TrOk D (d + 1) mi_X2_link 30 (tr_astore 31 3) from ok_astore_n (show decode mi_X2_link.2.1 30 = .ok (.astore_n 3, 1) from by decide +kernel) rfl (by decide)) <|
  tk_c (show TrOk D (d + 1) mi_X2_link 31 (tr_goto 12) from ok_goto (show decode mi_X2_link.2.1 31 = .ok (.goto (-19), 3) from by decide +kernel) (by decide)) <|
  tk_c (show TrOk D (d + 1) mi_X2_link 34 (tr_aload 35 1) from ok_aload_n (show decode mi_X2_link.2.1 34 = .ok (.aload_n 1, 1) from by decide +kernel) rfl) <|
  tk_c (show TrOk D (d + 1) mi_X2_link 35 (tr_aload 36 3) from ok_aload_n (show decode mi_X2_link.2.1 35 = .ok (.aload_n 3, 1) from by decide +kernel) rfl) <|
  tk_c (show TrOk D (d + 1) mi_X2_link 36 (tr_putR 39 6 512) from ok_putR (ci := 5) (k := 12) (show decode mi_X2_link.2.1 36 = .ok (.putfield 50, 3) from by decide +kernel) rfl (by decide) (gm 449 (by decide +kernel) rfl) rfl (Or.inl rfl)) <|
  tk_c (show TrOk D (d + 1) mi_X2_link 39 (tr_aload 40 2) from ok_aload_n (show decode mi_X2_link.2.1 39 = .ok (.aload_n 2, 1) from by decide +kernel) rfl) <|
  tk_c (show TrOk D (d + 1) mi_X2_link 40 (tr_ifnonnull 43 56) from ok_ifnonnull (show decode mi_X2_link.2.1 40 = .ok (.ifnonnull 16, 3) from by decide +kernel) (by decide)) <|
  tk_c (show TrOk D (d + 1) mi_X2_link 43 (tr_aload 44 0) from ok_aload_n (show decode mi_X2_link.2.1 43 = .ok (.aload_n 0, 1) from by decide +kernel) rfl) <|
  tk_c (show TrOk D (d + 1) mi_X2_link 44 (tr_getR 47 3 201) from ok_getR (ci := 2) (k := 1) (show decode mi_X2_link.2.1 44 = .ok (.getfield 17, 3) from by decide +kernel) rfl (by decide) (gm 77 (by decide +kernel) rfl) rfl) <|
  tk_c (show TrOk D (d + 1) mi_X2_link 47 (tr_aload 48 1) from ok_aload_n (show decode mi_X2_link.2.1 47 = .ok (.aload_n 1, 1) from by decide +kernel) rfl) <|
  tk_c (show TrOk D (d + 1) mi_X2_link 48 (tr_getI 51 6 502) from ok_getI (ci := 5) (k := 2) (show decode mi_X2_link.2.1 48 = .ok (.getfield 36, 3) from by decide +kernel) rfl (by decide) (gm 420 (by decide +kernel) rfl) rfl) <|
  tk_c (show TrOk D (d + 1) mi_X2_link 51 (tr_aload 52 1) from ok_aload_n (show decode mi_X2_link.2.1 51 = .ok (.aload_n 1, 1) from by decide +kernel) rfl) <|
  tk_c (show TrOk D (d + 1) mi_X2_link 52 (tr_aast 53 6) from ok_aast (by decide) (by decide) (show decode mi_X2_link.2.1 52 = .ok (.aastore, 1) from by decide +kernel)) <|
  tk_c (show TrOk D (d + 1) mi_X2_link 53 (tr_goto 61) from ok_goto (show decode mi_X2_link.2.1 53 = .ok (.goto 8, 3) from by decide +kernel) (by decide)) <|
  tk_c (show TrOk D (d + 1) mi_X2_link 56 (tr_aload 57 2) from ok_aload_n (show decode mi_X2_link.2.1 56 = .ok (.aload_n 2, 1) from by decide +kernel) rfl) <|
  tk_c (show TrOk D (d + 1) mi_X2_link 57 (tr_aload 58 1) from ok_aload_n (show decode mi_X2_link.2.1 57 = .ok (.aload_n 1, 1) from by decide +kernel) rfl) <|
  tk_c (show TrOk D (d + 1) mi_X2_link 58 (tr_putR 61 6 512) from ok_putR (ci := 5) (k := 12) (show decode mi_X2_link.2.1 58 = .ok (.putfield 50, 3) from by decide +kernel) rfl (by decide) (gm 449 (by decide +kernel) rfl) rfl (Or.inl rfl)) <|
  tk_c (show TrOk D (d + 1) mi_X2_link 61 (tr_ret) from ok_ret (show decode mi_X2_link.2.1 61 = .ok (.return_, 1) from by decide +kernel) rfl) <|
  tk_n
def tb_X2_link (C : Nat → Sp) : Tab := tb_X2_link_0 C
theorem tbk_X2_link {D : DD} {d : Nat} {C : Nat → Sp} (hC : Snd D d C) : ∀ e ∈ tb_X2_link C, TrOk D (d + 1) mi_X2_link e.1 e.2 := tbk_X2_link_0 hC
theorem a_X2_link_0 (C : Nat → Sp) : ta (tb_X2_link C) 0 = tr_null 1 := rfl
theorem a_X2_link_1 (C : Nat → Sp) : ta (tb_X2_link C) 1 = tr_astore 2 2 := rfl
theorem a_X2_link_2 (C : Nat → Sp) : ta (tb_X2_link C) 2 = tr_aload 3 0 := rfl
theorem a_X2_link_3 (C : Nat → Sp) : ta (tb_X2_link C) 3 = tr_getR 6 3 201 := rfl
theorem a_X2_link_6 (C : Nat → Sp) : ta (tb_X2_link C) 6 = tr_aload 7 1 := rfl
theorem a_X2_link_7 (C : Nat → Sp) : ta (tb_X2_link C) 7 = tr_getI 10 6 502 := rfl
theorem a_X2_link_10 (C : Nat → Sp) : ta (tb_X2_link C) 10 = tr_aald 11 6 := rfl
theorem a_X2_link_11 (C : Nat → Sp) : ta (tb_X2_link C) 11 = tr_astore 12 3 := rfl
theorem a_X2_link_12 (C : Nat → Sp) : ta (tb_X2_link C) 12 = tr_aload 13 3 := rfl
theorem a_X2_link_13 (C : Nat → Sp) : ta (tb_X2_link C) 13 = tr_ifnull 16 34 := rfl
theorem a_X2_link_16 (C : Nat → Sp) : ta (tb_X2_link C) 16 = tr_aload 17 1 := rfl
theorem a_X2_link_17 (C : Nat → Sp) : ta (tb_X2_link C) 17 = tr_aload 18 3 := rfl
theorem a_X2_link_18 (C : Nat → Sp) : ta (tb_X2_link C) 18 = tr_callV (C 29) 21 6 1 := rfl
theorem a_X2_link_21 (C : Nat → Sp) : ta (tb_X2_link C) 21 = tr_ifne 24 34 := rfl
theorem a_X2_link_24 (C : Nat → Sp) : ta (tb_X2_link C) 24 = tr_aload 25 3 := rfl
theorem a_X2_link_25 (C : Nat → Sp) : ta (tb_X2_link C) 25 = tr_astore 26 2 := rfl
theorem a_X2_link_26 (C : Nat → Sp) : ta (tb_X2_link C) 26 = tr_aload 27 3 := rfl
theorem a_X2_link_27 (C : Nat → Sp) : ta (tb_X2_link C) 27 = tr_getR 30 6 512 := rfl
theorem a_X2_link_30 (C : Nat → Sp) : ta (tb_X2_link C) 30 = tr_astore 31 3 := rfl
theorem a_X2_link_31 (C : Nat → Sp) : ta (tb_X2_link C) 31 = tr_goto 12 := rfl
theorem a_X2_link_34 (C : Nat → Sp) : ta (tb_X2_link C) 34 = tr_aload 35 1 := rfl
theorem a_X2_link_35 (C : Nat → Sp) : ta (tb_X2_link C) 35 = tr_aload 36 3 := rfl
theorem a_X2_link_36 (C : Nat → Sp) : ta (tb_X2_link C) 36 = tr_putR 39 6 512 := rfl
theorem a_X2_link_39 (C : Nat → Sp) : ta (tb_X2_link C) 39 = tr_aload 40 2 := rfl
theorem a_X2_link_40 (C : Nat → Sp) : ta (tb_X2_link C) 40 = tr_ifnonnull 43 56 := rfl
theorem a_X2_link_43 (C : Nat → Sp) : ta (tb_X2_link C) 43 = tr_aload 44 0 := rfl
theorem a_X2_link_44 (C : Nat → Sp) : ta (tb_X2_link C) 44 = tr_getR 47 3 201 := rfl
theorem a_X2_link_47 (C : Nat → Sp) : ta (tb_X2_link C) 47 = tr_aload 48 1 := rfl
theorem a_X2_link_48 (C : Nat → Sp) : ta (tb_X2_link C) 48 = tr_getI 51 6 502 := rfl
theorem a_X2_link_51 (C : Nat → Sp) : ta (tb_X2_link C) 51 = tr_aload 52 1 := rfl
theorem a_X2_link_52 (C : Nat → Sp) : ta (tb_X2_link C) 52 = tr_aast 53 6 := rfl
theorem a_X2_link_53 (C : Nat → Sp) : ta (tb_X2_link C) 53 = tr_goto 61 := rfl
theorem a_X2_link_56 (C : Nat → Sp) : ta (tb_X2_link C) 56 = tr_aload 57 2 := rfl
theorem a_X2_link_57 (C : Nat → Sp) : ta (tb_X2_link C) 57 = tr_aload 58 1 := rfl
theorem a_X2_link_58 (C : Nat → Sp) : ta (tb_X2_link C) 58 = tr_putR 61 6 512 := rfl
theorem a_X2_link_61 (C : Nat → Sp) : ta (tb_X2_link C) 61 = tr_ret := rfl

def tb_X2_seatLike_0 (C : Nat → Sp) : Tab := [(0, tr_aload 1 0), (1, tr_iload 2 1), (2, tr_callV (C 7) 5 3 1), (5, tr_astore 6 2), (6, tr_aload 7 2), (7, tr_ifnull 10 21), (10, tr_aload 11 0), (11, tr_aload 12 2), (12, tr_getI 15 6 504), (15, tr_callV (C 19) 18 3 1), (18, tr_ifne 21 23), (21, tr_ic 22 1), (22, tr_iret), (23, tr_aload 24 0), (24, tr_callV (C 9) 27 3 0), (27, tr_ifeq 30 33), (30, tr_ic 32 6), (32, tr_iret), (33, tr_new 36 6 13), (36, tr_dup 37), (37, tr_aload 38 0), (38, tr_getI 41 3 203), (41, tr_aload 42 2), (42, tr_getR 45 6 501), (45, tr_aload 46 2), (46, tr_getI 49 6 502), (49, tr_aload 50 2), (50, tr_getI 53 6 503), (53, tr_aload 54 2), (54, tr_getI 57 6 504), (57, tr_callI (C 26) 60 5), (60, tr_astore 61 3), (61, tr_aload 62 3), (62, tr_aload 63 2), (63, tr_getL 66 6 506), (66, tr_putL 69 6 506), (69, tr_aload 70 3), (70, tr_aload 71 2), (71, tr_getL 74 6 507), (74, tr_putL 77 6 507)]
set_option maxRecDepth 20000 in
theorem tbk_X2_seatLike_0 {D : DD} {d : Nat} {C : Nat → Sp} (hC : Snd D d C) : ∀ e ∈ tb_X2_seatLike_0 C, TrOk D (d + 1) mi_X2_seatLike e.1 e.2 :=
  tk_c (show TrOk D (d + 1) mi_X2_seatLike 0 (tr_aload 1 0) from ok_aload_n (show decode mi_X2_seatLike.2.1 0 = .ok (.aload_n 0, 1) from by decide +kernel) rfl) <|
  tk_c (show TrOk D (d + 1) mi_X2_seatLike 1 (tr_iload 2 1) from ok_iload_n (show decode mi_X2_seatLike.2.1 1 = .ok (.iload_n 1, 1) from by decide +kernel) rfl) <|
  tk_c (show TrOk D (d + 1) mi_X2_seatLike 2 (tr_callV (C 7) 5 3 1) from ok_callV (ci := 2) (show decode mi_X2_seatLike.2.1 2 = .ok (.invokevirtual 54, 3) from by decide +kernel) mok_X2_find rfl rfl (gm 636 (by decide +kernel) rfl) (gm 496 (by decide +kernel) rfl) (gm 497 (by decide +kernel) rfl) (hC 7)) <|
  tk_c (show TrOk D (d + 1) mi_X2_seatLike 5 (tr_astore 6 2) from ok_astore_n (show decode mi_X2_seatLike.2.1 5 = .ok (.astore_n 2, 1) from by decide +kernel) rfl (by decide)) <|
  tk_c (show TrOk D (d + 1) mi_X2_seatLike 6 (tr_aload 7 2) from ok_aload_n (show decode mi_X2_seatLike.2.1 6 = .ok (.aload_n 2, 1) from by decide +kernel) rfl) <|
  tk_c (show TrOk D (d + 1) mi_X2_seatLike 7 (tr_ifnull 10 21) from ok_ifnull (show decode mi_X2_seatLike.2.1 7 = .ok (.ifnull 14, 3) from by decide +kernel) (by decide)) <|
  tk_c (show TrOk D (d + 1) mi_X2_seatLike 10 (tr_aload 11 0) from ok_aload_n (show decode mi_X2_seatLike.2.1 10 = .ok (.aload_n 0, 1) from by decide +kernel) rfl) <|
  tk_c (show TrOk D (d + 1) mi_X2_seatLike 11 (tr_aload 12 2) from ok_aload_n (show decode mi_X2_seatLike.2.1 11 = .ok (.aload_n 2, 1) from by decide +kernel) rfl) <|
  tk_c (show TrOk D (d + 1) mi_X2_seatLike 12 (tr_getI 15 6 504) from ok_getI (ci := 5) (k := 4) (show decode mi_X2_seatLike.2.1 12 = .ok (.getfield 58, 3) from by decide +kernel) rfl (by decide) (gm 426 (by decide +kernel) rfl) rfl) <|
  tk_c (show TrOk D (d + 1) mi_X2_seatLike 15 (tr_callV (C 19) 18 3 1) from ok_callV (ci := 2) (show decode mi_X2_seatLike.2.1 15 = .ok (.invokevirtual 61, 3) from by decide +kernel) mok_X2_admits rfl rfl (gm 637 (by decide +kernel) rfl) (gm 377 (by decide +kernel) rfl) (gm 378 (by decide +kernel) rfl) (hC 19)) <|
  tk_c (show TrOk D (d + 1) mi_X2_seatLike 18 (tr_ifne 21 23) from ok_ifne (show decode mi_X2_seatLike.2.1 18 = .ok (.ifCond .ne 5, 3) from by decide +kernel) (by decide)) <|
  tk_c (show TrOk D (d + 1) mi_X2_seatLike 21 (tr_ic 22 1) from ok_iconst (show decode mi_X2_seatLike.2.1 21 = .ok (.iconst 1, 1) from by decide +kernel) rfl) <|
  tk_c (show TrOk D (d + 1) mi_X2_seatLike 22 (tr_iret) from ok_iret (show decode mi_X2_seatLike.2.1 22 = .ok (.ireturn, 1) from by decide +kernel) rfl) <|
  tk_c (show TrOk D (d + 1) mi_X2_seatLike 23 (tr_aload 24 0) from ok_aload_n (show decode mi_X2_seatLike.2.1 23 = .ok (.aload_n 0, 1) from by decide +kernel) rfl) <|
  tk_c (show TrOk D (d + 1) mi_X2_seatLike 24 (tr_callV (C 9) 27 3 0) from ok_callV (ci := 2) (show decode mi_X2_seatLike.2.1 24 = .ok (.invokevirtual 32, 3) from by decide +kernel) mok_X2_isFull rfl rfl (gm 481 (by decide +kernel) rfl) (gm 381 (by decide +kernel) rfl) (gm 382 (by decide +kernel) rfl) (hC 9)) <|
  tk_c (show TrOk D (d + 1) mi_X2_seatLike 27 (tr_ifeq 30 33) from ok_ifeq (show decode mi_X2_seatLike.2.1 27 = .ok (.ifCond .eq 6, 3) from by decide +kernel) (by decide)) <|
  tk_c (show TrOk D (d + 1) mi_X2_seatLike 30 (tr_ic 32 6) from ok_bipush (show decode mi_X2_seatLike.2.1 30 = .ok (.bipush 6, 2) from by decide +kernel) rfl) <|
  tk_c (show TrOk D (d + 1) mi_X2_seatLike 32 (tr_iret) from ok_iret (show decode mi_X2_seatLike.2.1 32 = .ok (.ireturn, 1) from by decide +kernel) rfl) <|
  tk_c (show TrOk D (d + 1) mi_X2_seatLike 33 (tr_new 36 6 13) from ok_new (ci := 5) (show decode mi_X2_seatLike.2.1 33 = .ok (.new 9, 3) from by decide +kernel) rfl (gm 74 (by decide +kernel) rfl) (gm 385 (by decide +kernel) rfl) (gm 41 (by decide +kernel) rfl)) <|
  tk_c (show TrOk D (d + 1) mi_X2_seatLike 36 (tr_dup 37) from ok_dup (show decode mi_X2_seatLike.2.1 36 = .ok (.dup, 1) from by decide +kernel)) <|
  tk_c (show TrOk D (d + 1) mi_X2_seatLike 37 (tr_aload 38 0) from ok_aload_n (show decode mi_X2_seatLike.2.1 37 = .ok (.aload_n 0, 1) from by decide +kernel) rfl) <|
  tk_c (show TrOk D (d + 1) mi_X2_seatLike 38 (tr_getI 41 3 203) from ok_getI (ci := 2) (k := 3) (show decode mi_X2_seatLike.2.1 38 = .ok (.getfield 24, 3) from by decide +kernel) rfl (by decide) (gm 79 (by decide +kernel) rfl) rfl) <|
  tk_c (show TrOk D (d + 1) mi_X2_seatLike 41 (tr_aload 42 2) from ok_aload_n (show decode mi_X2_seatLike.2.1 41 = .ok (.aload_n 2, 1) from by decide +kernel) rfl) <|
  tk_c (show TrOk D (d + 1) mi_X2_seatLike 42 (tr_getR 45 6 501) from ok_getR (ci := 5) (k := 1) (show decode mi_X2_seatLike.2.1 42 = .ok (.getfield 64, 3) from by decide +kernel) rfl (by decide) (gm 417 (by decide +kernel) rfl) rfl) <|
  tk_c (show TrOk D (d + 1) mi_X2_seatLike 45 (tr_aload 46 2) from ok_aload_n (show decode mi_X2_seatLike.2.1 45 = .ok (.aload_n 2, 1) from by decide +kernel) rfl) <|
  tk_c (show TrOk D (d + 1) mi_X2_seatLike 46 (tr_getI 49 6 502) from ok_getI (ci := 5) (k := 2) (show decode mi_X2_seatLike.2.1 46 = .ok (.getfield 36, 3) from by decide +kernel) rfl (by decide) (gm 420 (by decide +kernel) rfl) rfl) <|
  tk_c (show TrOk D (d + 1) mi_X2_seatLike 49 (tr_aload 50 2) from ok_aload_n (show decode mi_X2_seatLike.2.1 49 = .ok (.aload_n 2, 1) from by decide +kernel) rfl) <|
  tk_c (show TrOk D (d + 1) mi_X2_seatLike 50 (tr_getI 53 6 503) from ok_getI (ci := 5) (k := 3) (show decode mi_X2_seatLike.2.1 50 = .ok (.getfield 68, 3) from by decide +kernel) rfl (by decide) (gm 423 (by decide +kernel) rfl) rfl) <|
  tk_c (show TrOk D (d + 1) mi_X2_seatLike 53 (tr_aload 54 2) from ok_aload_n (show decode mi_X2_seatLike.2.1 53 = .ok (.aload_n 2, 1) from by decide +kernel) rfl) <|
  tk_c (show TrOk D (d + 1) mi_X2_seatLike 54 (tr_getI 57 6 504) from ok_getI (ci := 5) (k := 4) (show decode mi_X2_seatLike.2.1 54 = .ok (.getfield 58, 3) from by decide +kernel) rfl (by decide) (gm 426 (by decide +kernel) rfl) rfl) <|
  tk_c (show TrOk D (d + 1) mi_X2_seatLike 57 (tr_callI (C 26) 60 5) from ok_callI (show decode mi_X2_seatLike.2.1 57 = .ok (.invokespecial 71, 3) from by decide +kernel) mok_X5_init rfl rfl (gm 638 (by decide +kernel) rfl) (gm 387 (by decide +kernel) rfl) (hC 26)) <|
  tk_c (show TrOk D (d + 1) mi_X2_seatLike 60 (tr_astore 61 3) from ok_astore_n (show decode mi_X2_seatLike.2.1 60 = .ok (.astore_n 3, 1) from by decide +kernel) rfl (by decide)) <|
  tk_c (show TrOk D (d + 1) mi_X2_seatLike 61 (tr_aload 62 3) from ok_aload_n (show decode mi_X2_seatLike.2.1 61 = .ok (.aload_n 3, 1) from by decide +kernel) rfl) <|
  tk_c (show TrOk D (d + 1) mi_X2_seatLike 62 (tr_aload 63 2) from ok_aload_n (show decode mi_X2_seatLike.2.1 62 = .ok (.aload_n 2, 1) from by decide +kernel) rfl) <|
  tk_c (show TrOk D (d + 1) mi_X2_seatLike 63 (tr_getL 66 6 506) from ok_getL (ci := 5) (k := 6) (show decode mi_X2_seatLike.2.1 63 = .ok (.getfield 74, 3) from by decide +kernel) rfl (by decide) (gm 434 (by decide +kernel) rfl) rfl) <|
  tk_c (show TrOk D (d + 1) mi_X2_seatLike 66 (tr_putL 69 6 506) from ok_putL (ci := 5) (k := 6) (show decode mi_X2_seatLike.2.1 66 = .ok (.putfield 74, 3) from by decide +kernel) rfl (by decide) (gm 434 (by decide +kernel) rfl) rfl (Or.inl rfl)) <|
  tk_c (show TrOk D (d + 1) mi_X2_seatLike 69 (tr_aload 70 3) from ok_aload_n (show decode mi_X2_seatLike.2.1 69 = .ok (.aload_n 3, 1) from by decide +kernel) rfl) <|
  tk_c (show TrOk D (d + 1) mi_X2_seatLike 70 (tr_aload 71 2) from ok_aload_n (show decode mi_X2_seatLike.2.1 70 = .ok (.aload_n 2, 1) from by decide +kernel) rfl) <|
  tk_c (show TrOk D (d + 1) mi_X2_seatLike 71 (tr_getL 74 6 507) from ok_getL (ci := 5) (k := 7) (show decode mi_X2_seatLike.2.1 71 = .ok (.getfield 78, 3) from by decide +kernel) rfl (by decide) (gm 437 (by decide +kernel) rfl) rfl) <|
  tk_c (show TrOk D (d + 1) mi_X2_seatLike 74 (tr_putL 77 6 507) from ok_putL (ci := 5) (k := 7) (show decode mi_X2_seatLike.2.1 74 = .ok (.putfield 78, 3) from by decide +kernel) rfl (by decide) (gm 437 (by decide +kernel) rfl) rfl (Or.inl rfl)) <|
  tk_n
def tb_X2_seatLike_1 (C : Nat → Sp) : Tab := [(77, tr_aload 78 3), (78, tr_aload 79 2), (79, tr_getI 82 6 508), (82, tr_putZ 85 6 508), (85, tr_aload 86 3), (86, tr_getR 89 6 505), (89, tr_aload 90 2), (90, tr_getR 93 6 505), (93, tr_callV (C 33) 96 7 1), (96, tr_aload 97 0), (97, tr_aload 98 3), (98, tr_callV (C 10) 101 3 1), (101, tr_ic 102 0), (102, tr_iret)]
set_option maxRecDepth 20000 in
theorem tbk_X2_seatLike_1 {D : DD} {d : Nat} {C : Nat → Sp} (hC : Snd D d C) : ∀ e ∈ tb_X2_seatLike_1 C, TrOk D (d + 1) mi_X2_seatLike e.1 e.2 :=
  tk_c (show TrOk D (d + 1) mi_X2_seatLike 77 (tr_aload 78 3) from ok_aload_n (show decode mi_X2_seatLike.2.1 77 = .ok (.aload_n 3, 1) from by decide +kernel) rfl) <|
  tk_c (show TrOk D (d + 1) mi_X2_seatLike 78 (tr_aload 79 2) from ok_aload_n (show decode mi_X2_seatLike.2.1 78 = .ok (.aload_n 2, 1) from by decide +kernel) rfl) <|
  tk_c (show TrOk D (d + 1) mi_X2_seatLike 79 (tr_getI 82 6 508) from ok_getI (ci := 5) (k := 8) (show decode mi_X2_seatLike.2.1 79 = .ok (.getfield 81, 3) from by decide +kernel) rfl (by decide) (gm 440 (by decide +kernel) rfl) rfl) <|
  tk_c (show TrOk D (d + 1) mi_X2_seatLike 82 (tr_putZ 85 6 508) from ok_putZ (ci := 5) (k := 8) (show decode mi_X2_seatLike.2.1 82 = .ok (.putfield 81, 3) from by decide +kernel) rfl (by decide) (gm 440 (by decide +kernel) rfl) rfl (Or.inl rfl)) <|
  tk_c (show TrOk D (d + 1) mi_X2_seatLike 85 (tr_aload 86 3) from ok_aload_n (show decode mi_X2_seatLike.2.1 85 = .ok (.aload_n 3, 1) from by decide +kernel) rfl) <|
  tk_c (show TrOk D (d + 1) mi_X2_seatLike 86 (tr_getR 89 6 505) from ok_getR (ci := 5) (k := 5) (show decode mi_X2_seatLike.2.1 86 = .ok (.getfield 85, 3) from by decide +kernel) rfl (by decide) (gm 430 (by decide +kernel) rfl) rfl) <|
  tk_c (show TrOk D (d + 1) mi_X2_seatLike 89 (tr_aload 90 2) from ok_aload_n (show decode mi_X2_seatLike.2.1 89 = .ok (.aload_n 2, 1) from by decide +kernel) rfl) <|
  tk_c (show TrOk D (d + 1) mi_X2_seatLike 90 (tr_getR 93 6 505) from ok_getR (ci := 5) (k := 5) (show decode mi_X2_seatLike.2.1 90 = .ok (.getfield 85, 3) from by decide +kernel) rfl (by decide) (gm 430 (by decide +kernel) rfl) rfl) <|
  tk_c (show TrOk D (d + 1) mi_X2_seatLike 93 (tr_callV (C 33) 96 7 1) from ok_callV (ci := 6) (show decode mi_X2_seatLike.2.1 93 = .ok (.invokevirtual 89, 3) from by decide +kernel) mok_X6_takeOver rfl rfl (gm 639 (by decide +kernel) rfl) (gm 640 (by decide +kernel) rfl) (gm 641 (by decide +kernel) rfl) (hC 33)) <|
  tk_c (show TrOk D (d + 1) mi_X2_seatLike 96 (tr_aload 97 0) from ok_aload_n (show decode mi_X2_seatLike.2.1 96 = .ok (.aload_n 0, 1) from by decide +kernel) rfl) <|
  tk_c (show TrOk D (d + 1) mi_X2_seatLike 97 (tr_aload 98 3) from ok_aload_n (show decode mi_X2_seatLike.2.1 97 = .ok (.aload_n 3, 1) from by decide +kernel) rfl) <|
  tk_c (show TrOk D (d + 1) mi_X2_seatLike 98 (tr_callV (C 10) 101 3 1) from ok_callV (ci := 2) (show decode mi_X2_seatLike.2.1 98 = .ok (.invokevirtual 95, 3) from by decide +kernel) mok_X2_seat rfl rfl (gm 644 (by decide +kernel) rfl) (gm 478 (by decide +kernel) rfl) (gm 479 (by decide +kernel) rfl) (hC 10)) <|
  tk_c (show TrOk D (d + 1) mi_X2_seatLike 101 (tr_ic 102 0) from ok_iconst (show decode mi_X2_seatLike.2.1 101 = .ok (.iconst 0, 1) from by decide +kernel) rfl) <|
  tk_c (show TrOk D (d + 1) mi_X2_seatLike 102 (tr_iret) from ok_iret (show decode mi_X2_seatLike.2.1 102 = .ok (.ireturn, 1) from by decide +kernel) rfl) <|
  tk_n
def tb_X2_seatLike (C : Nat → Sp) : Tab := tb_X2_seatLike_0 C ++ (tb_X2_seatLike_1 C)
theorem tbk_X2_seatLike {D : DD} {d : Nat} {C : Nat → Sp} (hC : Snd D d C) : ∀ e ∈ tb_X2_seatLike C, TrOk D (d + 1) mi_X2_seatLike e.1 e.2 := tk_a (tbk_X2_seatLike_0 hC) (tbk_X2_seatLike_1 hC)
theorem a_X2_seatLike_0 (C : Nat → Sp) : ta (tb_X2_seatLike C) 0 = tr_aload 1 0 := rfl
theorem a_X2_seatLike_1 (C : Nat → Sp) : ta (tb_X2_seatLike C) 1 = tr_iload 2 1 := rfl
theorem a_X2_seatLike_2 (C : Nat → Sp) : ta (tb_X2_seatLike C) 2 = tr_callV (C 7) 5 3 1 := rfl
theorem a_X2_seatLike_5 (C : Nat → Sp) : ta (tb_X2_seatLike C) 5 = tr_astore 6 2 := rfl
theorem a_X2_seatLike_6 (C : Nat → Sp) : ta (tb_X2_seatLike C) 6 = tr_aload 7 2 := rfl
theorem a_X2_seatLike_7 (C : Nat → Sp) : ta (tb_X2_seatLike C) 7 = tr_ifnull 10 21 := rfl
theorem a_X2_seatLike_10 (C : Nat → Sp) : ta (tb_X2_seatLike C) 10 = tr_aload 11 0 := rfl
theorem a_X2_seatLike_11 (C : Nat → Sp) : ta (tb_X2_seatLike C) 11 = tr_aload 12 2 := rfl
theorem a_X2_seatLike_12 (C : Nat → Sp) : ta (tb_X2_seatLike C) 12 = tr_getI 15 6 504 := rfl
theorem a_X2_seatLike_15 (C : Nat → Sp) : ta (tb_X2_seatLike C) 15 = tr_callV (C 19) 18 3 1 := rfl
theorem a_X2_seatLike_18 (C : Nat → Sp) : ta (tb_X2_seatLike C) 18 = tr_ifne 21 23 := rfl
theorem a_X2_seatLike_21 (C : Nat → Sp) : ta (tb_X2_seatLike C) 21 = tr_ic 22 1 := rfl
theorem a_X2_seatLike_22 (C : Nat → Sp) : ta (tb_X2_seatLike C) 22 = tr_iret := rfl
theorem a_X2_seatLike_23 (C : Nat → Sp) : ta (tb_X2_seatLike C) 23 = tr_aload 24 0 := rfl
theorem a_X2_seatLike_24 (C : Nat → Sp) : ta (tb_X2_seatLike C) 24 = tr_callV (C 9) 27 3 0 := rfl
theorem a_X2_seatLike_27 (C : Nat → Sp) : ta (tb_X2_seatLike C) 27 = tr_ifeq 30 33 := rfl
theorem a_X2_seatLike_30 (C : Nat → Sp) : ta (tb_X2_seatLike C) 30 = tr_ic 32 6 := rfl
theorem a_X2_seatLike_32 (C : Nat → Sp) : ta (tb_X2_seatLike C) 32 = tr_iret := rfl
theorem a_X2_seatLike_33 (C : Nat → Sp) : ta (tb_X2_seatLike C) 33 = tr_new 36 6 13 := rfl
theorem a_X2_seatLike_36 (C : Nat → Sp) : ta (tb_X2_seatLike C) 36 = tr_dup 37 := rfl
theorem a_X2_seatLike_37 (C : Nat → Sp) : ta (tb_X2_seatLike C) 37 = tr_aload 38 0 := rfl
theorem a_X2_seatLike_38 (C : Nat → Sp) : ta (tb_X2_seatLike C) 38 = tr_getI 41 3 203 := rfl
theorem a_X2_seatLike_41 (C : Nat → Sp) : ta (tb_X2_seatLike C) 41 = tr_aload 42 2 := rfl
theorem a_X2_seatLike_42 (C : Nat → Sp) : ta (tb_X2_seatLike C) 42 = tr_getR 45 6 501 := rfl
theorem a_X2_seatLike_45 (C : Nat → Sp) : ta (tb_X2_seatLike C) 45 = tr_aload 46 2 := rfl
theorem a_X2_seatLike_46 (C : Nat → Sp) : ta (tb_X2_seatLike C) 46 = tr_getI 49 6 502 := rfl
theorem a_X2_seatLike_49 (C : Nat → Sp) : ta (tb_X2_seatLike C) 49 = tr_aload 50 2 := rfl
theorem a_X2_seatLike_50 (C : Nat → Sp) : ta (tb_X2_seatLike C) 50 = tr_getI 53 6 503 := rfl
theorem a_X2_seatLike_53 (C : Nat → Sp) : ta (tb_X2_seatLike C) 53 = tr_aload 54 2 := rfl
theorem a_X2_seatLike_54 (C : Nat → Sp) : ta (tb_X2_seatLike C) 54 = tr_getI 57 6 504 := rfl
theorem a_X2_seatLike_57 (C : Nat → Sp) : ta (tb_X2_seatLike C) 57 = tr_callI (C 26) 60 5 := rfl
theorem a_X2_seatLike_60 (C : Nat → Sp) : ta (tb_X2_seatLike C) 60 = tr_astore 61 3 := rfl
theorem a_X2_seatLike_61 (C : Nat → Sp) : ta (tb_X2_seatLike C) 61 = tr_aload 62 3 := rfl
theorem a_X2_seatLike_62 (C : Nat → Sp) : ta (tb_X2_seatLike C) 62 = tr_aload 63 2 := rfl
theorem a_X2_seatLike_63 (C : Nat → Sp) : ta (tb_X2_seatLike C) 63 = tr_getL 66 6 506 := rfl
theorem a_X2_seatLike_66 (C : Nat → Sp) : ta (tb_X2_seatLike C) 66 = tr_putL 69 6 506 := rfl
theorem a_X2_seatLike_69 (C : Nat → Sp) : ta (tb_X2_seatLike C) 69 = tr_aload 70 3 := rfl
theorem a_X2_seatLike_70 (C : Nat → Sp) : ta (tb_X2_seatLike C) 70 = tr_aload 71 2 := rfl
theorem a_X2_seatLike_71 (C : Nat → Sp) : ta (tb_X2_seatLike C) 71 = tr_getL 74 6 507 := rfl
theorem a_X2_seatLike_74 (C : Nat → Sp) : ta (tb_X2_seatLike C) 74 = tr_putL 77 6 507 := rfl
theorem a_X2_seatLike_77 (C : Nat → Sp) : ta (tb_X2_seatLike C) 77 = tr_aload 78 3 := rfl
theorem a_X2_seatLike_78 (C : Nat → Sp) : ta (tb_X2_seatLike C) 78 = tr_aload 79 2 := rfl
theorem a_X2_seatLike_79 (C : Nat → Sp) : ta (tb_X2_seatLike C) 79 = tr_getI 82 6 508 := rfl
theorem a_X2_seatLike_82 (C : Nat → Sp) : ta (tb_X2_seatLike C) 82 = tr_putZ 85 6 508 := rfl
theorem a_X2_seatLike_85 (C : Nat → Sp) : ta (tb_X2_seatLike C) 85 = tr_aload 86 3 := rfl
theorem a_X2_seatLike_86 (C : Nat → Sp) : ta (tb_X2_seatLike C) 86 = tr_getR 89 6 505 := rfl
theorem a_X2_seatLike_89 (C : Nat → Sp) : ta (tb_X2_seatLike C) 89 = tr_aload 90 2 := rfl
theorem a_X2_seatLike_90 (C : Nat → Sp) : ta (tb_X2_seatLike C) 90 = tr_getR 93 6 505 := rfl
theorem a_X2_seatLike_93 (C : Nat → Sp) : ta (tb_X2_seatLike C) 93 = tr_callV (C 33) 96 7 1 := rfl
theorem a_X2_seatLike_96 (C : Nat → Sp) : ta (tb_X2_seatLike C) 96 = tr_aload 97 0 := rfl
theorem a_X2_seatLike_97 (C : Nat → Sp) : ta (tb_X2_seatLike C) 97 = tr_aload 98 3 := rfl
theorem a_X2_seatLike_98 (C : Nat → Sp) : ta (tb_X2_seatLike C) 98 = tr_callV (C 10) 101 3 1 := rfl
theorem a_X2_seatLike_101 (C : Nat → Sp) : ta (tb_X2_seatLike C) 101 = tr_ic 102 0 := rfl
theorem a_X2_seatLike_102 (C : Nat → Sp) : ta (tb_X2_seatLike C) 102 = tr_iret := rfl

def tb_X2_letGo_0 (C : Nat → Sp) : Tab := [(0, tr_aload 1 1), (1, tr_getI 4 6 509), (4, tr_ifne 7 8), (7, tr_ret), (8, tr_aload 9 1), (9, tr_ic 10 0), (10, tr_putZ 13 6 509), (13, tr_aload 14 0), (14, tr_dup 15), (15, tr_getI 18 3 204), (18, tr_ic 19 1), (19, tr_isub 20), (20, tr_putI 23 3 204), (23, tr_ret)]
set_option maxRecDepth 20000 in
theorem tbk_X2_letGo_0 {D : DD} {d : Nat} {C : Nat → Sp} (hC : Snd D d C) : ∀ e ∈ tb_X2_letGo_0 C, TrOk D (d + 1) mi_X2_letGo e.1 e.2 :=
  tk_c (show TrOk D (d + 1) mi_X2_letGo 0 (tr_aload 1 1) from ok_aload_n (show decode mi_X2_letGo.2.1 0 = .ok (.aload_n 1, 1) from by decide +kernel) rfl) <|
  tk_c (show TrOk D (d + 1) mi_X2_letGo 1 (tr_getI 4 6 509) from ok_getI (ci := 5) (k := 9) (show decode mi_X2_letGo.2.1 1 = .ok (.getfield 98, 3) from by decide +kernel) rfl (by decide) (gm 443 (by decide +kernel) rfl) rfl) <|
  tk_c (show TrOk D (d + 1) mi_X2_letGo 4 (tr_ifne 7 8) from ok_ifne (show decode mi_X2_letGo.2.1 4 = .ok (.ifCond .ne 4, 3) from by decide +kernel) (by decide)) <|
  tk_c (show TrOk D (d + 1) mi_X2_letGo 7 (tr_ret) from ok_ret (show decode mi_X2_letGo.2.1 7 = .ok (.return_, 1) from by decide +kernel) rfl) <|
  tk_c (show TrOk D (d + 1) mi_X2_letGo 8 (tr_aload 9 1) from ok_aload_n (show decode mi_X2_letGo.2.1 8 = .ok (.aload_n 1, 1) from by decide +kernel) rfl) <|
  tk_c (show TrOk D (d + 1) mi_X2_letGo 9 (tr_ic 10 0) from ok_iconst (show decode mi_X2_letGo.2.1 9 = .ok (.iconst 0, 1) from by decide +kernel) rfl) <|
  tk_c (show TrOk D (d + 1) mi_X2_letGo 10 (tr_putZ 13 6 509) from ok_putZ (ci := 5) (k := 9) (show decode mi_X2_letGo.2.1 10 = .ok (.putfield 98, 3) from by decide +kernel) rfl (by decide) (gm 443 (by decide +kernel) rfl) rfl (Or.inl rfl)) <|
  tk_c (show TrOk D (d + 1) mi_X2_letGo 13 (tr_aload 14 0) from ok_aload_n (show decode mi_X2_letGo.2.1 13 = .ok (.aload_n 0, 1) from by decide +kernel) rfl) <|
  tk_c (show TrOk D (d + 1) mi_X2_letGo 14 (tr_dup 15) from ok_dup (show decode mi_X2_letGo.2.1 14 = .ok (.dup, 1) from by decide +kernel)) <|
  tk_c (show TrOk D (d + 1) mi_X2_letGo 15 (tr_getI 18 3 204) from ok_getI (ci := 2) (k := 4) (show decode mi_X2_letGo.2.1 15 = .ok (.getfield 39, 3) from by decide +kernel) rfl (by decide) (gm 82 (by decide +kernel) rfl) rfl) <|
  tk_c (show TrOk D (d + 1) mi_X2_letGo 18 (tr_ic 19 1) from ok_iconst (show decode mi_X2_letGo.2.1 18 = .ok (.iconst 1, 1) from by decide +kernel) rfl) <|
  tk_c (show TrOk D (d + 1) mi_X2_letGo 19 (tr_isub 20) from ok_isub (show decode mi_X2_letGo.2.1 19 = .ok (.isub, 1) from by decide +kernel)) <|
  tk_c (show TrOk D (d + 1) mi_X2_letGo 20 (tr_putI 23 3 204) from ok_putI (ci := 2) (k := 4) (show decode mi_X2_letGo.2.1 20 = .ok (.putfield 39, 3) from by decide +kernel) rfl (by decide) (gm 82 (by decide +kernel) rfl) rfl (Or.inl rfl)) <|
  tk_c (show TrOk D (d + 1) mi_X2_letGo 23 (tr_ret) from ok_ret (show decode mi_X2_letGo.2.1 23 = .ok (.return_, 1) from by decide +kernel) rfl) <|
  tk_n
def tb_X2_letGo (C : Nat → Sp) : Tab := tb_X2_letGo_0 C
theorem tbk_X2_letGo {D : DD} {d : Nat} {C : Nat → Sp} (hC : Snd D d C) : ∀ e ∈ tb_X2_letGo C, TrOk D (d + 1) mi_X2_letGo e.1 e.2 := tbk_X2_letGo_0 hC
theorem a_X2_letGo_0 (C : Nat → Sp) : ta (tb_X2_letGo C) 0 = tr_aload 1 1 := rfl
theorem a_X2_letGo_1 (C : Nat → Sp) : ta (tb_X2_letGo C) 1 = tr_getI 4 6 509 := rfl
theorem a_X2_letGo_4 (C : Nat → Sp) : ta (tb_X2_letGo C) 4 = tr_ifne 7 8 := rfl
theorem a_X2_letGo_7 (C : Nat → Sp) : ta (tb_X2_letGo C) 7 = tr_ret := rfl
theorem a_X2_letGo_8 (C : Nat → Sp) : ta (tb_X2_letGo C) 8 = tr_aload 9 1 := rfl
theorem a_X2_letGo_9 (C : Nat → Sp) : ta (tb_X2_letGo C) 9 = tr_ic 10 0 := rfl
theorem a_X2_letGo_10 (C : Nat → Sp) : ta (tb_X2_letGo C) 10 = tr_putZ 13 6 509 := rfl
theorem a_X2_letGo_13 (C : Nat → Sp) : ta (tb_X2_letGo C) 13 = tr_aload 14 0 := rfl
theorem a_X2_letGo_14 (C : Nat → Sp) : ta (tb_X2_letGo C) 14 = tr_dup 15 := rfl
theorem a_X2_letGo_15 (C : Nat → Sp) : ta (tb_X2_letGo C) 15 = tr_getI 18 3 204 := rfl
theorem a_X2_letGo_18 (C : Nat → Sp) : ta (tb_X2_letGo C) 18 = tr_ic 19 1 := rfl
theorem a_X2_letGo_19 (C : Nat → Sp) : ta (tb_X2_letGo C) 19 = tr_isub 20 := rfl
theorem a_X2_letGo_20 (C : Nat → Sp) : ta (tb_X2_letGo C) 20 = tr_putI 23 3 204 := rfl
theorem a_X2_letGo_23 (C : Nat → Sp) : ta (tb_X2_letGo C) 23 = tr_ret := rfl

def tb_X2_sendAway_0 (C : Nat → Sp) : Tab := [(0, tr_aload 1 0), (1, tr_iload 2 1), (2, tr_callV (C 7) 5 3 1), (5, tr_astore 6 2), (6, tr_aload 7 2), (7, tr_ifnull 10 17), (10, tr_aload 11 2), (11, tr_getI 14 6 509), (14, tr_ifne 17 19), (17, tr_ic 18 1), (18, tr_iret), (19, tr_aload 20 0), (20, tr_aload 21 2), (21, tr_callV (C 13) 24 3 1), (24, tr_ic 25 0), (25, tr_iret)]
set_option maxRecDepth 20000 in
theorem tbk_X2_sendAway_0 {D : DD} {d : Nat} {C : Nat → Sp} (hC : Snd D d C) : ∀ e ∈ tb_X2_sendAway_0 C, TrOk D (d + 1) mi_X2_sendAway e.1 e.2 :=
  tk_c (show TrOk D (d + 1) mi_X2_sendAway 0 (tr_aload 1 0) from ok_aload_n (show decode mi_X2_sendAway.2.1 0 = .ok (.aload_n 0, 1) from by decide +kernel) rfl) <|
  tk_c (show TrOk D (d + 1) mi_X2_sendAway 1 (tr_iload 2 1) from ok_iload_n (show decode mi_X2_sendAway.2.1 1 = .ok (.iload_n 1, 1) from by decide +kernel) rfl) <|
  tk_c (show TrOk D (d + 1) mi_X2_sendAway 2 (tr_callV (C 7) 5 3 1) from ok_callV (ci := 2) (show decode mi_X2_sendAway.2.1 2 = .ok (.invokevirtual 54, 3) from by decide +kernel) mok_X2_find rfl rfl (gm 636 (by decide +kernel) rfl) (gm 496 (by decide +kernel) rfl) (gm 497 (by decide +kernel) rfl) (hC 7)) <|
  tk_c (show TrOk D (d + 1) mi_X2_sendAway 5 (tr_astore 6 2) from ok_astore_n (show decode mi_X2_sendAway.2.1 5 = .ok (.astore_n 2, 1) from by decide +kernel) rfl (by decide)) <|
  tk_c (show TrOk D (d + 1) mi_X2_sendAway 6 (tr_aload 7 2) from ok_aload_n (show decode mi_X2_sendAway.2.1 6 = .ok (.aload_n 2, 1) from by decide +kernel) rfl) <|
  tk_c (show TrOk D (d + 1) mi_X2_sendAway 7 (tr_ifnull 10 17) from ok_ifnull (show decode mi_X2_sendAway.2.1 7 = .ok (.ifnull 10, 3) from by decide +kernel) (by decide)) <|
  tk_c (show TrOk D (d + 1) mi_X2_sendAway 10 (tr_aload 11 2) from ok_aload_n (show decode mi_X2_sendAway.2.1 10 = .ok (.aload_n 2, 1) from by decide +kernel) rfl) <|
  tk_c (show TrOk D (d + 1) mi_X2_sendAway 11 (tr_getI 14 6 509) from ok_getI (ci := 5) (k := 9) (show decode mi_X2_sendAway.2.1 11 = .ok (.getfield 98, 3) from by decide +kernel) rfl (by decide) (gm 443 (by decide +kernel) rfl) rfl) <|
  tk_c (show TrOk D (d + 1) mi_X2_sendAway 14 (tr_ifne 17 19) from ok_ifne (show decode mi_X2_sendAway.2.1 14 = .ok (.ifCond .ne 5, 3) from by decide +kernel) (by decide)) <|
  tk_c (show TrOk D (d + 1) mi_X2_sendAway 17 (tr_ic 18 1) from ok_iconst (show decode mi_X2_sendAway.2.1 17 = .ok (.iconst 1, 1) from by decide +kernel) rfl) <|
  tk_c (show TrOk D (d + 1) mi_X2_sendAway 18 (tr_iret) from ok_iret (show decode mi_X2_sendAway.2.1 18 = .ok (.ireturn, 1) from by decide +kernel) rfl) <|
  tk_c (show TrOk D (d + 1) mi_X2_sendAway 19 (tr_aload 20 0) from ok_aload_n (show decode mi_X2_sendAway.2.1 19 = .ok (.aload_n 0, 1) from by decide +kernel) rfl) <|
  tk_c (show TrOk D (d + 1) mi_X2_sendAway 20 (tr_aload 21 2) from ok_aload_n (show decode mi_X2_sendAway.2.1 20 = .ok (.aload_n 2, 1) from by decide +kernel) rfl) <|
  tk_c (show TrOk D (d + 1) mi_X2_sendAway 21 (tr_callV (C 13) 24 3 1) from ok_callV (ci := 2) (show decode mi_X2_sendAway.2.1 21 = .ok (.invokevirtual 100, 3) from by decide +kernel) mok_X2_letGo rfl rfl (gm 365 (by decide +kernel) rfl) (gm 366 (by decide +kernel) rfl) (gm 367 (by decide +kernel) rfl) (hC 13)) <|
  tk_c (show TrOk D (d + 1) mi_X2_sendAway 24 (tr_ic 25 0) from ok_iconst (show decode mi_X2_sendAway.2.1 24 = .ok (.iconst 0, 1) from by decide +kernel) rfl) <|
  tk_c (show TrOk D (d + 1) mi_X2_sendAway 25 (tr_iret) from ok_iret (show decode mi_X2_sendAway.2.1 25 = .ok (.ireturn, 1) from by decide +kernel) rfl) <|
  tk_n
def tb_X2_sendAway (C : Nat → Sp) : Tab := tb_X2_sendAway_0 C
theorem tbk_X2_sendAway {D : DD} {d : Nat} {C : Nat → Sp} (hC : Snd D d C) : ∀ e ∈ tb_X2_sendAway C, TrOk D (d + 1) mi_X2_sendAway e.1 e.2 := tbk_X2_sendAway_0 hC
theorem a_X2_sendAway_0 (C : Nat → Sp) : ta (tb_X2_sendAway C) 0 = tr_aload 1 0 := rfl
theorem a_X2_sendAway_1 (C : Nat → Sp) : ta (tb_X2_sendAway C) 1 = tr_iload 2 1 := rfl
theorem a_X2_sendAway_2 (C : Nat → Sp) : ta (tb_X2_sendAway C) 2 = tr_callV (C 7) 5 3 1 := rfl
theorem a_X2_sendAway_5 (C : Nat → Sp) : ta (tb_X2_sendAway C) 5 = tr_astore 6 2 := rfl
theorem a_X2_sendAway_6 (C : Nat → Sp) : ta (tb_X2_sendAway C) 6 = tr_aload 7 2 := rfl
theorem a_X2_sendAway_7 (C : Nat → Sp) : ta (tb_X2_sendAway C) 7 = tr_ifnull 10 17 := rfl
theorem a_X2_sendAway_10 (C : Nat → Sp) : ta (tb_X2_sendAway C) 10 = tr_aload 11 2 := rfl
theorem a_X2_sendAway_11 (C : Nat → Sp) : ta (tb_X2_sendAway C) 11 = tr_getI 14 6 509 := rfl
theorem a_X2_sendAway_14 (C : Nat → Sp) : ta (tb_X2_sendAway C) 14 = tr_ifne 17 19 := rfl
theorem a_X2_sendAway_17 (C : Nat → Sp) : ta (tb_X2_sendAway C) 17 = tr_ic 18 1 := rfl
theorem a_X2_sendAway_18 (C : Nat → Sp) : ta (tb_X2_sendAway C) 18 = tr_iret := rfl
theorem a_X2_sendAway_19 (C : Nat → Sp) : ta (tb_X2_sendAway C) 19 = tr_aload 20 0 := rfl
theorem a_X2_sendAway_20 (C : Nat → Sp) : ta (tb_X2_sendAway C) 20 = tr_aload 21 2 := rfl
theorem a_X2_sendAway_21 (C : Nat → Sp) : ta (tb_X2_sendAway C) 21 = tr_callV (C 13) 24 3 1 := rfl
theorem a_X2_sendAway_24 (C : Nat → Sp) : ta (tb_X2_sendAway C) 24 = tr_ic 25 0 := rfl
theorem a_X2_sendAway_25 (C : Nat → Sp) : ta (tb_X2_sendAway C) 25 = tr_iret := rfl

def tb_X2_nameTurn_0 (C : Nat → Sp) : Tab := [(0, tr_ic 1 0), (1, tr_istore 3 4), (3, tr_aload 4 0), (4, tr_iload 5 2), (5, tr_callV (C 8) 8 3 1), (8, tr_astore 10 5), (10, tr_aload 12 5), (12, tr_ifnull 15 52), (15, tr_aload 17 5), (17, tr_aload 18 1), (18, tr_callV (C 27) 21 6 1), (21, tr_ifne 24 27), (24, tr_goto 42), (27, tr_iload 29 4), (29, tr_iload 30 3), (30, tr_icne 33 39), (33, tr_aload 35 5), (35, tr_getI 38 6 500), (38, tr_iret), (39, tr_iinc 42 4 1), (42, tr_aload 44 5), (44, tr_getR 47 6 512), (47, tr_astore 49 5), (49, tr_goto 10), (52, tr_ic 54 (-4)), (54, tr_iret)]
set_option maxRecDepth 20000 in
theorem tbk_X2_nameTurn_0 {D : DD} {d : Nat} {C : Nat → Sp} (hC : Snd D d C) : ∀ e ∈ tb_X2_nameTurn_0 C, TrOk D (d + 1) mi_X2_nameTurn e.1 e.2 :=
  tk_c (show TrOk D (d + 1) mi_X2_nameTurn 0 (tr_ic 1 0) from ok_iconst (show decode mi_X2_nameTurn.2.1 0 = .ok (.iconst 0, 1) from by decide +kernel) rfl) <|
  tk_c (show TrOk D (d + 1) mi_X2_nameTurn 1 (tr_istore 3 4) from ok_istore (show decode mi_X2_nameTurn.2.1 1 = .ok (.istore 4, 2) from by decide +kernel) (by decide)) <|
  tk_c (show TrOk D (d + 1) mi_X2_nameTurn 3 (tr_aload 4 0) from ok_aload_n (show decode mi_X2_nameTurn.2.1 3 = .ok (.aload_n 0, 1) from by decide +kernel) rfl) <|
  tk_c (show TrOk D (d + 1) mi_X2_nameTurn 4 (tr_iload 5 2) from ok_iload_n (show decode mi_X2_nameTurn.2.1 4 = .ok (.iload_n 2, 1) from by decide +kernel) rfl) <|
  tk_c (show TrOk D (d + 1) mi_X2_nameTurn 5 (tr_callV (C 8) 8 3 1) from ok_callV (ci := 2) (show decode mi_X2_nameTurn.2.1 5 = .ok (.invokevirtual 103, 3) from by decide +kernel) mok_X2_findFirst rfl rfl (gm 764 (by decide +kernel) rfl) (gm 588 (by decide +kernel) rfl) (gm 589 (by decide +kernel) rfl) (hC 8)) <|
  tk_c (show TrOk D (d + 1) mi_X2_nameTurn 8 (tr_astore 10 5) from ok_astore (show decode mi_X2_nameTurn.2.1 8 = .ok (.astore 5, 2) from by decide +kernel) (by decide)) <|
  tk_c (show TrOk D (d + 1) mi_X2_nameTurn 10 (tr_aload 12 5) from ok_aload (show decode mi_X2_nameTurn.2.1 10 = .ok (.aload 5, 2) from by decide +kernel)) <|
  tk_c (show TrOk D (d + 1) mi_X2_nameTurn 12 (tr_ifnull 15 52) from ok_ifnull (show decode mi_X2_nameTurn.2.1 12 = .ok (.ifnull 40, 3) from by decide +kernel) (by decide)) <|
  tk_c (show TrOk D (d + 1) mi_X2_nameTurn 15 (tr_aload 17 5) from ok_aload (show decode mi_X2_nameTurn.2.1 15 = .ok (.aload 5, 2) from by decide +kernel)) <|
  tk_c (show TrOk D (d + 1) mi_X2_nameTurn 17 (tr_aload 18 1) from ok_aload_n (show decode mi_X2_nameTurn.2.1 17 = .ok (.aload_n 1, 1) from by decide +kernel) rfl) <|
  tk_c (show TrOk D (d + 1) mi_X2_nameTurn 18 (tr_callV (C 27) 21 6 1) from ok_callV (ci := 5) (show decode mi_X2_nameTurn.2.1 18 = .ok (.invokevirtual 106, 3) from by decide +kernel) mok_X5_hears rfl rfl (gm 765 (by decide +kernel) rfl) (gm 600 (by decide +kernel) rfl) (gm 601 (by decide +kernel) rfl) (hC 27)) <|
  tk_c (show TrOk D (d + 1) mi_X2_nameTurn 21 (tr_ifne 24 27) from ok_ifne (show decode mi_X2_nameTurn.2.1 21 = .ok (.ifCond .ne 6, 3) from by decide +kernel) (by decide)) <|
  tk_c (show TrOk D (d + 1) mi_X2_nameTurn 24 (tr_goto 42) from ok_goto (show decode mi_X2_nameTurn.2.1 24 = .ok (.goto 18, 3) from by decide +kernel) (by decide)) <|
  tk_c (show TrOk D (d + 1) mi_X2_nameTurn 27 (tr_iload 29 4) from ok_iload (show decode mi_X2_nameTurn.2.1 27 = .ok (.iload 4, 2) from by decide +kernel)) <|
  tk_c (show TrOk D (d + 1) mi_X2_nameTurn 29 (tr_iload 30 3) from ok_iload_n (show decode mi_X2_nameTurn.2.1 29 = .ok (.iload_n 3, 1) from by decide +kernel) rfl) <|
  tk_c (show TrOk D (d + 1) mi_X2_nameTurn 30 (tr_icne 33 39) from ok_icne (show decode mi_X2_nameTurn.2.1 30 = .ok (.if_icmp .ne 9, 3) from by decide +kernel) (by decide)) <|
  tk_c (show TrOk D (d + 1) mi_X2_nameTurn 33 (tr_aload 35 5) from ok_aload (show decode mi_X2_nameTurn.2.1 33 = .ok (.aload 5, 2) from by decide +kernel)) <|
  tk_c (show TrOk D (d + 1) mi_X2_nameTurn 35 (tr_getI 38 6 500) from ok_getI (ci := 5) (k := 0) (show decode mi_X2_nameTurn.2.1 35 = .ok (.getfield 110, 3) from by decide +kernel) rfl (by decide) (gm 415 (by decide +kernel) rfl) rfl) <|
  tk_c (show TrOk D (d + 1) mi_X2_nameTurn 38 (tr_iret) from ok_iret (show decode mi_X2_nameTurn.2.1 38 = .ok (.ireturn, 1) from by decide +kernel) rfl) <|
  tk_c (show TrOk D (d + 1) mi_X2_nameTurn 39 (tr_iinc 42 4 1) from ok_iinc (show decode mi_X2_nameTurn.2.1 39 = .ok (.iinc 4 1, 3) from by decide +kernel) rfl (by decide)) <|
  tk_c (show TrOk D (d + 1) mi_X2_nameTurn 42 (tr_aload 44 5) from ok_aload (show decode mi_X2_nameTurn.2.1 42 = .ok (.aload 5, 2) from by decide +kernel)) <|
  tk_c (show TrOk D (d + 1) mi_X2_nameTurn 44 (tr_getR 47 6 512) from ok_getR (ci := 5) (k := 12) (show decode mi_X2_nameTurn.2.1 44 = .ok (.getfield 50, 3) from by decide +kernel) rfl (by decide) (gm 449 (by decide +kernel) rfl) rfl) <|
  tk_c (show TrOk D (d + 1) mi_X2_nameTurn 47 (tr_astore 49 5) from ok_astore (show decode mi_X2_nameTurn.2.1 47 = .ok (.astore 5, 2) from by decide +kernel) (by decide)) <|
  tk_c (show TrOk D (d + 1) mi_X2_nameTurn 49 (tr_goto 10) from ok_goto (show decode mi_X2_nameTurn.2.1 49 = .ok (.goto (-39), 3) from by decide +kernel) (by decide)) <|
  tk_c (show TrOk D (d + 1) mi_X2_nameTurn 52 (tr_ic 54 (-4)) from ok_bipush (show decode mi_X2_nameTurn.2.1 52 = .ok (.bipush (-4), 2) from by decide +kernel) rfl) <|
  tk_c (show TrOk D (d + 1) mi_X2_nameTurn 54 (tr_iret) from ok_iret (show decode mi_X2_nameTurn.2.1 54 = .ok (.ireturn, 1) from by decide +kernel) rfl) <|
  tk_n
def tb_X2_nameTurn (C : Nat → Sp) : Tab := tb_X2_nameTurn_0 C
theorem tbk_X2_nameTurn {D : DD} {d : Nat} {C : Nat → Sp} (hC : Snd D d C) : ∀ e ∈ tb_X2_nameTurn C, TrOk D (d + 1) mi_X2_nameTurn e.1 e.2 := tbk_X2_nameTurn_0 hC
theorem a_X2_nameTurn_0 (C : Nat → Sp) : ta (tb_X2_nameTurn C) 0 = tr_ic 1 0 := rfl
theorem a_X2_nameTurn_1 (C : Nat → Sp) : ta (tb_X2_nameTurn C) 1 = tr_istore 3 4 := rfl
theorem a_X2_nameTurn_3 (C : Nat → Sp) : ta (tb_X2_nameTurn C) 3 = tr_aload 4 0 := rfl
theorem a_X2_nameTurn_4 (C : Nat → Sp) : ta (tb_X2_nameTurn C) 4 = tr_iload 5 2 := rfl
theorem a_X2_nameTurn_5 (C : Nat → Sp) : ta (tb_X2_nameTurn C) 5 = tr_callV (C 8) 8 3 1 := rfl
theorem a_X2_nameTurn_8 (C : Nat → Sp) : ta (tb_X2_nameTurn C) 8 = tr_astore 10 5 := rfl
theorem a_X2_nameTurn_10 (C : Nat → Sp) : ta (tb_X2_nameTurn C) 10 = tr_aload 12 5 := rfl
theorem a_X2_nameTurn_12 (C : Nat → Sp) : ta (tb_X2_nameTurn C) 12 = tr_ifnull 15 52 := rfl
theorem a_X2_nameTurn_15 (C : Nat → Sp) : ta (tb_X2_nameTurn C) 15 = tr_aload 17 5 := rfl
theorem a_X2_nameTurn_17 (C : Nat → Sp) : ta (tb_X2_nameTurn C) 17 = tr_aload 18 1 := rfl
theorem a_X2_nameTurn_18 (C : Nat → Sp) : ta (tb_X2_nameTurn C) 18 = tr_callV (C 27) 21 6 1 := rfl
theorem a_X2_nameTurn_21 (C : Nat → Sp) : ta (tb_X2_nameTurn C) 21 = tr_ifne 24 27 := rfl
theorem a_X2_nameTurn_24 (C : Nat → Sp) : ta (tb_X2_nameTurn C) 24 = tr_goto 42 := rfl
theorem a_X2_nameTurn_27 (C : Nat → Sp) : ta (tb_X2_nameTurn C) 27 = tr_iload 29 4 := rfl
theorem a_X2_nameTurn_29 (C : Nat → Sp) : ta (tb_X2_nameTurn C) 29 = tr_iload 30 3 := rfl
theorem a_X2_nameTurn_30 (C : Nat → Sp) : ta (tb_X2_nameTurn C) 30 = tr_icne 33 39 := rfl
theorem a_X2_nameTurn_33 (C : Nat → Sp) : ta (tb_X2_nameTurn C) 33 = tr_aload 35 5 := rfl
theorem a_X2_nameTurn_35 (C : Nat → Sp) : ta (tb_X2_nameTurn C) 35 = tr_getI 38 6 500 := rfl
theorem a_X2_nameTurn_38 (C : Nat → Sp) : ta (tb_X2_nameTurn C) 38 = tr_iret := rfl
theorem a_X2_nameTurn_39 (C : Nat → Sp) : ta (tb_X2_nameTurn C) 39 = tr_iinc 42 4 1 := rfl
theorem a_X2_nameTurn_42 (C : Nat → Sp) : ta (tb_X2_nameTurn C) 42 = tr_aload 44 5 := rfl
theorem a_X2_nameTurn_44 (C : Nat → Sp) : ta (tb_X2_nameTurn C) 44 = tr_getR 47 6 512 := rfl
theorem a_X2_nameTurn_47 (C : Nat → Sp) : ta (tb_X2_nameTurn C) 47 = tr_astore 49 5 := rfl
theorem a_X2_nameTurn_49 (C : Nat → Sp) : ta (tb_X2_nameTurn C) 49 = tr_goto 10 := rfl
theorem a_X2_nameTurn_52 (C : Nat → Sp) : ta (tb_X2_nameTurn C) 52 = tr_ic 54 (-4) := rfl
theorem a_X2_nameTurn_54 (C : Nat → Sp) : ta (tb_X2_nameTurn C) 54 = tr_iret := rfl

def tb_X2_openScene_0 (C : Nat → Sp) : Tab := [(0, tr_aload 1 0), (1, tr_getI 4 3 205), (4, tr_ic 6 30), (6, tr_iclt 9 12), (9, tr_ic 11 (-3)), (11, tr_iret), (12, tr_aload 13 0), (13, tr_getR 16 3 202), (16, tr_aload 17 0), (17, tr_getI 20 3 205), (20, tr_ic 21 1), (21, tr_bast 22), (22, tr_aload 23 0), (23, tr_dup 24), (24, tr_getI 27 3 205), (27, tr_ic 28 1), (28, tr_iadd 29), (29, tr_putI 32 3 205), (32, tr_aload 33 0), (33, tr_dup 34), (34, tr_getI 37 3 206), (37, tr_ic 38 1), (38, tr_iadd 39), (39, tr_putI 42 3 206), (42, tr_aload 43 0), (43, tr_getI 46 3 205), (46, tr_ic 47 1), (47, tr_isub 48), (48, tr_iret)]
set_option maxRecDepth 20000 in
theorem tbk_X2_openScene_0 {D : DD} {d : Nat} {C : Nat → Sp} (hC : Snd D d C) : ∀ e ∈ tb_X2_openScene_0 C, TrOk D (d + 1) mi_X2_openScene e.1 e.2 :=
  tk_c (show TrOk D (d + 1) mi_X2_openScene 0 (tr_aload 1 0) from ok_aload_n (show decode mi_X2_openScene.2.1 0 = .ok (.aload_n 0, 1) from by decide +kernel) rfl) <|
  tk_c (show TrOk D (d + 1) mi_X2_openScene 1 (tr_getI 4 3 205) from ok_getI (ci := 2) (k := 5) (show decode mi_X2_openScene.2.1 1 = .ok (.getfield 113, 3) from by decide +kernel) rfl (by decide) (gm 84 (by decide +kernel) rfl) rfl) <|
  tk_c (show TrOk D (d + 1) mi_X2_openScene 4 (tr_ic 6 30) from ok_bipush (show decode mi_X2_openScene.2.1 4 = .ok (.bipush 30, 2) from by decide +kernel) rfl) <|
  tk_c (show TrOk D (d + 1) mi_X2_openScene 6 (tr_iclt 9 12) from ok_iclt (show decode mi_X2_openScene.2.1 6 = .ok (.if_icmp .lt 6, 3) from by decide +kernel) (by decide)) <|
  tk_c (show TrOk D (d + 1) mi_X2_openScene 9 (tr_ic 11 (-3)) from ok_bipush (show decode mi_X2_openScene.2.1 9 = .ok (.bipush (-3), 2) from by decide +kernel) rfl) <|
  tk_c (show TrOk D (d + 1) mi_X2_openScene 11 (tr_iret) from ok_iret (show decode mi_X2_openScene.2.1 11 = .ok (.ireturn, 1) from by decide +kernel) rfl) <|
  tk_c (show TrOk D (d + 1) mi_X2_openScene 12 (tr_aload 13 0) from ok_aload_n (show decode mi_X2_openScene.2.1 12 = .ok (.aload_n 0, 1) from by decide +kernel) rfl) <|
  tk_c (show TrOk D (d + 1) mi_X2_openScene 13 (tr_getR 16 3 202) from ok_getR (ci := 2) (k := 2) (show decode mi_X2_openScene.2.1 13 = .ok (.getfield 20, 3) from by decide +kernel) rfl (by decide) (gm 78 (by decide +kernel) rfl) rfl) <|
  tk_c (show TrOk D (d + 1) mi_X2_openScene 16 (tr_aload 17 0) from ok_aload_n (show decode mi_X2_openScene.2.1 16 = .ok (.aload_n 0, 1) from by decide +kernel) rfl) <|
  tk_c (show TrOk D (d + 1) mi_X2_openScene 17 (tr_getI 20 3 205) from ok_getI (ci := 2) (k := 5) (show decode mi_X2_openScene.2.1 17 = .ok (.getfield 113, 3) from by decide +kernel) rfl (by decide) (gm 84 (by decide +kernel) rfl) rfl) <|
  tk_c (show TrOk D (d + 1) mi_X2_openScene 20 (tr_ic 21 1) from ok_iconst (show decode mi_X2_openScene.2.1 20 = .ok (.iconst 1, 1) from by decide +kernel) rfl) <|
  tk_c (show TrOk D (d + 1) mi_X2_openScene 21 (tr_bast 22) from ok_bast (show decode mi_X2_openScene.2.1 21 = .ok (.bastore, 1) from by decide +kernel)) <|
  tk_c (show TrOk D (d + 1) mi_X2_openScene 22 (tr_aload 23 0) from ok_aload_n (show decode mi_X2_openScene.2.1 22 = .ok (.aload_n 0, 1) from by decide +kernel) rfl) <|
  tk_c (show TrOk D (d + 1) mi_X2_openScene 23 (tr_dup 24) from ok_dup (show decode mi_X2_openScene.2.1 23 = .ok (.dup, 1) from by decide +kernel)) <|
  tk_c (show TrOk D (d + 1) mi_X2_openScene 24 (tr_getI 27 3 205) from ok_getI (ci := 2) (k := 5) (show decode mi_X2_openScene.2.1 24 = .ok (.getfield 113, 3) from by decide +kernel) rfl (by decide) (gm 84 (by decide +kernel) rfl) rfl) <|
  tk_c (show TrOk D (d + 1) mi_X2_openScene 27 (tr_ic 28 1) from ok_iconst (show decode mi_X2_openScene.2.1 27 = .ok (.iconst 1, 1) from by decide +kernel) rfl) <|
  tk_c (show TrOk D (d + 1) mi_X2_openScene 28 (tr_iadd 29) from ok_iadd (show decode mi_X2_openScene.2.1 28 = .ok (.iadd, 1) from by decide +kernel)) <|
  tk_c (show TrOk D (d + 1) mi_X2_openScene 29 (tr_putI 32 3 205) from ok_putI (ci := 2) (k := 5) (show decode mi_X2_openScene.2.1 29 = .ok (.putfield 113, 3) from by decide +kernel) rfl (by decide) (gm 84 (by decide +kernel) rfl) rfl (Or.inl rfl)) <|
  tk_c (show TrOk D (d + 1) mi_X2_openScene 32 (tr_aload 33 0) from ok_aload_n (show decode mi_X2_openScene.2.1 32 = .ok (.aload_n 0, 1) from by decide +kernel) rfl) <|
  tk_c (show TrOk D (d + 1) mi_X2_openScene 33 (tr_dup 34) from ok_dup (show decode mi_X2_openScene.2.1 33 = .ok (.dup, 1) from by decide +kernel)) <|
  tk_c (show TrOk D (d + 1) mi_X2_openScene 34 (tr_getI 37 3 206) from ok_getI (ci := 2) (k := 6) (show decode mi_X2_openScene.2.1 34 = .ok (.getfield 116, 3) from by decide +kernel) rfl (by decide) (gm 86 (by decide +kernel) rfl) rfl) <|
  tk_c (show TrOk D (d + 1) mi_X2_openScene 37 (tr_ic 38 1) from ok_iconst (show decode mi_X2_openScene.2.1 37 = .ok (.iconst 1, 1) from by decide +kernel) rfl) <|
  tk_c (show TrOk D (d + 1) mi_X2_openScene 38 (tr_iadd 39) from ok_iadd (show decode mi_X2_openScene.2.1 38 = .ok (.iadd, 1) from by decide +kernel)) <|
  tk_c (show TrOk D (d + 1) mi_X2_openScene 39 (tr_putI 42 3 206) from ok_putI (ci := 2) (k := 6) (show decode mi_X2_openScene.2.1 39 = .ok (.putfield 116, 3) from by decide +kernel) rfl (by decide) (gm 86 (by decide +kernel) rfl) rfl (Or.inl rfl)) <|
  tk_c (show TrOk D (d + 1) mi_X2_openScene 42 (tr_aload 43 0) from ok_aload_n (show decode mi_X2_openScene.2.1 42 = .ok (.aload_n 0, 1) from by decide +kernel) rfl) <|
  tk_c (show TrOk D (d + 1) mi_X2_openScene 43 (tr_getI 46 3 205) from ok_getI (ci := 2) (k := 5) (show decode mi_X2_openScene.2.1 43 = .ok (.getfield 113, 3) from by decide +kernel) rfl (by decide) (gm 84 (by decide +kernel) rfl) rfl) <|
  tk_c (show TrOk D (d + 1) mi_X2_openScene 46 (tr_ic 47 1) from ok_iconst (show decode mi_X2_openScene.2.1 46 = .ok (.iconst 1, 1) from by decide +kernel) rfl) <|
  tk_c (show TrOk D (d + 1) mi_X2_openScene 47 (tr_isub 48) from ok_isub (show decode mi_X2_openScene.2.1 47 = .ok (.isub, 1) from by decide +kernel)) <|
  tk_c (show TrOk D (d + 1) mi_X2_openScene 48 (tr_iret) from ok_iret (show decode mi_X2_openScene.2.1 48 = .ok (.ireturn, 1) from by decide +kernel) rfl) <|
  tk_n
def tb_X2_openScene (C : Nat → Sp) : Tab := tb_X2_openScene_0 C
theorem tbk_X2_openScene {D : DD} {d : Nat} {C : Nat → Sp} (hC : Snd D d C) : ∀ e ∈ tb_X2_openScene C, TrOk D (d + 1) mi_X2_openScene e.1 e.2 := tbk_X2_openScene_0 hC
theorem a_X2_openScene_0 (C : Nat → Sp) : ta (tb_X2_openScene C) 0 = tr_aload 1 0 := rfl
theorem a_X2_openScene_1 (C : Nat → Sp) : ta (tb_X2_openScene C) 1 = tr_getI 4 3 205 := rfl
theorem a_X2_openScene_4 (C : Nat → Sp) : ta (tb_X2_openScene C) 4 = tr_ic 6 30 := rfl
theorem a_X2_openScene_6 (C : Nat → Sp) : ta (tb_X2_openScene C) 6 = tr_iclt 9 12 := rfl
theorem a_X2_openScene_9 (C : Nat → Sp) : ta (tb_X2_openScene C) 9 = tr_ic 11 (-3) := rfl
theorem a_X2_openScene_11 (C : Nat → Sp) : ta (tb_X2_openScene C) 11 = tr_iret := rfl
theorem a_X2_openScene_12 (C : Nat → Sp) : ta (tb_X2_openScene C) 12 = tr_aload 13 0 := rfl
theorem a_X2_openScene_13 (C : Nat → Sp) : ta (tb_X2_openScene C) 13 = tr_getR 16 3 202 := rfl
theorem a_X2_openScene_16 (C : Nat → Sp) : ta (tb_X2_openScene C) 16 = tr_aload 17 0 := rfl
theorem a_X2_openScene_17 (C : Nat → Sp) : ta (tb_X2_openScene C) 17 = tr_getI 20 3 205 := rfl
theorem a_X2_openScene_20 (C : Nat → Sp) : ta (tb_X2_openScene C) 20 = tr_ic 21 1 := rfl
theorem a_X2_openScene_21 (C : Nat → Sp) : ta (tb_X2_openScene C) 21 = tr_bast 22 := rfl
theorem a_X2_openScene_22 (C : Nat → Sp) : ta (tb_X2_openScene C) 22 = tr_aload 23 0 := rfl
theorem a_X2_openScene_23 (C : Nat → Sp) : ta (tb_X2_openScene C) 23 = tr_dup 24 := rfl
theorem a_X2_openScene_24 (C : Nat → Sp) : ta (tb_X2_openScene C) 24 = tr_getI 27 3 205 := rfl
theorem a_X2_openScene_27 (C : Nat → Sp) : ta (tb_X2_openScene C) 27 = tr_ic 28 1 := rfl
theorem a_X2_openScene_28 (C : Nat → Sp) : ta (tb_X2_openScene C) 28 = tr_iadd 29 := rfl
theorem a_X2_openScene_29 (C : Nat → Sp) : ta (tb_X2_openScene C) 29 = tr_putI 32 3 205 := rfl
theorem a_X2_openScene_32 (C : Nat → Sp) : ta (tb_X2_openScene C) 32 = tr_aload 33 0 := rfl
theorem a_X2_openScene_33 (C : Nat → Sp) : ta (tb_X2_openScene C) 33 = tr_dup 34 := rfl
theorem a_X2_openScene_34 (C : Nat → Sp) : ta (tb_X2_openScene C) 34 = tr_getI 37 3 206 := rfl
theorem a_X2_openScene_37 (C : Nat → Sp) : ta (tb_X2_openScene C) 37 = tr_ic 38 1 := rfl
theorem a_X2_openScene_38 (C : Nat → Sp) : ta (tb_X2_openScene C) 38 = tr_iadd 39 := rfl
theorem a_X2_openScene_39 (C : Nat → Sp) : ta (tb_X2_openScene C) 39 = tr_putI 42 3 206 := rfl
theorem a_X2_openScene_42 (C : Nat → Sp) : ta (tb_X2_openScene C) 42 = tr_aload 43 0 := rfl
theorem a_X2_openScene_43 (C : Nat → Sp) : ta (tb_X2_openScene C) 43 = tr_getI 46 3 205 := rfl
theorem a_X2_openScene_46 (C : Nat → Sp) : ta (tb_X2_openScene C) 46 = tr_ic 47 1 := rfl
theorem a_X2_openScene_47 (C : Nat → Sp) : ta (tb_X2_openScene C) 47 = tr_isub 48 := rfl
theorem a_X2_openScene_48 (C : Nat → Sp) : ta (tb_X2_openScene C) 48 = tr_iret := rfl

def tb_X2_hadScene_0 (C : Nat → Sp) : Tab := [(0, tr_iload 1 1), (1, tr_iflt 4 16), (4, tr_iload 5 1), (5, tr_aload 6 0), (6, tr_getI 9 3 205), (9, tr_icge 12 16), (12, tr_ic 13 1), (13, tr_goto 17), (16, tr_ic 17 0), (17, tr_zret)]
set_option maxRecDepth 20000 in
theorem tbk_X2_hadScene_0 {D : DD} {d : Nat} {C : Nat → Sp} (hC : Snd D d C) : ∀ e ∈ tb_X2_hadScene_0 C, TrOk D (d + 1) mi_X2_hadScene e.1 e.2 :=
  tk_c (show TrOk D (d + 1) mi_X2_hadScene 0 (tr_iload 1 1) from ok_iload_n (show decode mi_X2_hadScene.2.1 0 = .ok (.iload_n 1, 1) from by decide +kernel) rfl) <|
  tk_c (show TrOk D (d + 1) mi_X2_hadScene 1 (tr_iflt 4 16) from ok_iflt (show decode mi_X2_hadScene.2.1 1 = .ok (.ifCond .lt 15, 3) from by decide +kernel) (by decide)) <|
  tk_c (show TrOk D (d + 1) mi_X2_hadScene 4 (tr_iload 5 1) from ok_iload_n (show decode mi_X2_hadScene.2.1 4 = .ok (.iload_n 1, 1) from by decide +kernel) rfl) <|
  tk_c (show TrOk D (d + 1) mi_X2_hadScene 5 (tr_aload 6 0) from ok_aload_n (show decode mi_X2_hadScene.2.1 5 = .ok (.aload_n 0, 1) from by decide +kernel) rfl) <|
  tk_c (show TrOk D (d + 1) mi_X2_hadScene 6 (tr_getI 9 3 205) from ok_getI (ci := 2) (k := 5) (show decode mi_X2_hadScene.2.1 6 = .ok (.getfield 113, 3) from by decide +kernel) rfl (by decide) (gm 84 (by decide +kernel) rfl) rfl) <|
  tk_c (show TrOk D (d + 1) mi_X2_hadScene 9 (tr_icge 12 16) from ok_icge (show decode mi_X2_hadScene.2.1 9 = .ok (.if_icmp .ge 7, 3) from by decide +kernel) (by decide)) <|
  tk_c (show TrOk D (d + 1) mi_X2_hadScene 12 (tr_ic 13 1) from ok_iconst (show decode mi_X2_hadScene.2.1 12 = .ok (.iconst 1, 1) from by decide +kernel) rfl) <|
  tk_c (show TrOk D (d + 1) mi_X2_hadScene 13 (tr_goto 17) from ok_goto (show decode mi_X2_hadScene.2.1 13 = .ok (.goto 4, 3) from by decide +kernel) (by decide)) <|
  tk_c (show TrOk D (d + 1) mi_X2_hadScene 16 (tr_ic 17 0) from ok_iconst (show decode mi_X2_hadScene.2.1 16 = .ok (.iconst 0, 1) from by decide +kernel) rfl) <|
  tk_c (show TrOk D (d + 1) mi_X2_hadScene 17 (tr_zret) from ok_zret (show decode mi_X2_hadScene.2.1 17 = .ok (.ireturn, 1) from by decide +kernel) rfl) <|
  tk_n
def tb_X2_hadScene (C : Nat → Sp) : Tab := tb_X2_hadScene_0 C
theorem tbk_X2_hadScene {D : DD} {d : Nat} {C : Nat → Sp} (hC : Snd D d C) : ∀ e ∈ tb_X2_hadScene C, TrOk D (d + 1) mi_X2_hadScene e.1 e.2 := tbk_X2_hadScene_0 hC
theorem a_X2_hadScene_0 (C : Nat → Sp) : ta (tb_X2_hadScene C) 0 = tr_iload 1 1 := rfl
theorem a_X2_hadScene_1 (C : Nat → Sp) : ta (tb_X2_hadScene C) 1 = tr_iflt 4 16 := rfl
theorem a_X2_hadScene_4 (C : Nat → Sp) : ta (tb_X2_hadScene C) 4 = tr_iload 5 1 := rfl
theorem a_X2_hadScene_5 (C : Nat → Sp) : ta (tb_X2_hadScene C) 5 = tr_aload 6 0 := rfl
theorem a_X2_hadScene_6 (C : Nat → Sp) : ta (tb_X2_hadScene C) 6 = tr_getI 9 3 205 := rfl
theorem a_X2_hadScene_9 (C : Nat → Sp) : ta (tb_X2_hadScene C) 9 = tr_icge 12 16 := rfl
theorem a_X2_hadScene_12 (C : Nat → Sp) : ta (tb_X2_hadScene C) 12 = tr_ic 13 1 := rfl
theorem a_X2_hadScene_13 (C : Nat → Sp) : ta (tb_X2_hadScene C) 13 = tr_goto 17 := rfl
theorem a_X2_hadScene_16 (C : Nat → Sp) : ta (tb_X2_hadScene C) 16 = tr_ic 17 0 := rfl
theorem a_X2_hadScene_17 (C : Nat → Sp) : ta (tb_X2_hadScene C) 17 = tr_zret := rfl

def tb_X2_isOpen_0 (C : Nat → Sp) : Tab := [(0, tr_aload 1 0), (1, tr_iload 2 1), (2, tr_callV (C 17) 5 3 1), (5, tr_ifeq 8 21), (8, tr_aload 9 0), (9, tr_getR 12 3 202), (12, tr_iload 13 1), (13, tr_bald 14), (14, tr_ifeq 17 21), (17, tr_ic 18 1), (18, tr_goto 22), (21, tr_ic 22 0), (22, tr_zret)]
set_option maxRecDepth 20000 in
theorem tbk_X2_isOpen_0 {D : DD} {d : Nat} {C : Nat → Sp} (hC : Snd D d C) : ∀ e ∈ tb_X2_isOpen_0 C, TrOk D (d + 1) mi_X2_isOpen e.1 e.2 :=
  tk_c (show TrOk D (d + 1) mi_X2_isOpen 0 (tr_aload 1 0) from ok_aload_n (show decode mi_X2_isOpen.2.1 0 = .ok (.aload_n 0, 1) from by decide +kernel) rfl) <|
  tk_c (show TrOk D (d + 1) mi_X2_isOpen 1 (tr_iload 2 1) from ok_iload_n (show decode mi_X2_isOpen.2.1 1 = .ok (.iload_n 1, 1) from by decide +kernel) rfl) <|
  tk_c (show TrOk D (d + 1) mi_X2_isOpen 2 (tr_callV (C 17) 5 3 1) from ok_callV (ci := 2) (show decode mi_X2_isOpen.2.1 2 = .ok (.invokevirtual 119, 3) from by decide +kernel) mok_X2_hadScene rfl rfl (gm 359 (by decide +kernel) rfl) (gm 352 (by decide +kernel) rfl) (gm 353 (by decide +kernel) rfl) (hC 17)) <|
  tk_c (show TrOk D (d + 1) mi_X2_isOpen 5 (tr_ifeq 8 21) from ok_ifeq (show decode mi_X2_isOpen.2.1 5 = .ok (.ifCond .eq 16, 3) from by decide +kernel) (by decide)) <|
  tk_c (show TrOk D (d + 1) mi_X2_isOpen 8 (tr_aload 9 0) from ok_aload_n (show decode mi_X2_isOpen.2.1 8 = .ok (.aload_n 0, 1) from by decide +kernel) rfl) <|
  tk_c (show TrOk D (d + 1) mi_X2_isOpen 9 (tr_getR 12 3 202) from ok_getR (ci := 2) (k := 2) (show decode mi_X2_isOpen.2.1 9 = .ok (.getfield 20, 3) from by decide +kernel) rfl (by decide) (gm 78 (by decide +kernel) rfl) rfl) <|
  tk_c (show TrOk D (d + 1) mi_X2_isOpen 12 (tr_iload 13 1) from ok_iload_n (show decode mi_X2_isOpen.2.1 12 = .ok (.iload_n 1, 1) from by decide +kernel) rfl) <|
  tk_c (show TrOk D (d + 1) mi_X2_isOpen 13 (tr_bald 14) from ok_bald (show decode mi_X2_isOpen.2.1 13 = .ok (.baload, 1) from by decide +kernel)) <|
  tk_c (show TrOk D (d + 1) mi_X2_isOpen 14 (tr_ifeq 17 21) from ok_ifeq (show decode mi_X2_isOpen.2.1 14 = .ok (.ifCond .eq 7, 3) from by decide +kernel) (by decide)) <|
  tk_c (show TrOk D (d + 1) mi_X2_isOpen 17 (tr_ic 18 1) from ok_iconst (show decode mi_X2_isOpen.2.1 17 = .ok (.iconst 1, 1) from by decide +kernel) rfl) <|
  tk_c (show TrOk D (d + 1) mi_X2_isOpen 18 (tr_goto 22) from ok_goto (show decode mi_X2_isOpen.2.1 18 = .ok (.goto 4, 3) from by decide +kernel) (by decide)) <|
  tk_c (show TrOk D (d + 1) mi_X2_isOpen 21 (tr_ic 22 0) from ok_iconst (show decode mi_X2_isOpen.2.1 21 = .ok (.iconst 0, 1) from by decide +kernel) rfl) <|
  tk_c (show TrOk D (d + 1) mi_X2_isOpen 22 (tr_zret) from ok_zret (show decode mi_X2_isOpen.2.1 22 = .ok (.ireturn, 1) from by decide +kernel) rfl) <|
  tk_n
def tb_X2_isOpen (C : Nat → Sp) : Tab := tb_X2_isOpen_0 C
theorem tbk_X2_isOpen {D : DD} {d : Nat} {C : Nat → Sp} (hC : Snd D d C) : ∀ e ∈ tb_X2_isOpen C, TrOk D (d + 1) mi_X2_isOpen e.1 e.2 := tbk_X2_isOpen_0 hC
theorem a_X2_isOpen_0 (C : Nat → Sp) : ta (tb_X2_isOpen C) 0 = tr_aload 1 0 := rfl
theorem a_X2_isOpen_1 (C : Nat → Sp) : ta (tb_X2_isOpen C) 1 = tr_iload 2 1 := rfl
theorem a_X2_isOpen_2 (C : Nat → Sp) : ta (tb_X2_isOpen C) 2 = tr_callV (C 17) 5 3 1 := rfl
theorem a_X2_isOpen_5 (C : Nat → Sp) : ta (tb_X2_isOpen C) 5 = tr_ifeq 8 21 := rfl
theorem a_X2_isOpen_8 (C : Nat → Sp) : ta (tb_X2_isOpen C) 8 = tr_aload 9 0 := rfl
theorem a_X2_isOpen_9 (C : Nat → Sp) : ta (tb_X2_isOpen C) 9 = tr_getR 12 3 202 := rfl
theorem a_X2_isOpen_12 (C : Nat → Sp) : ta (tb_X2_isOpen C) 12 = tr_iload 13 1 := rfl
theorem a_X2_isOpen_13 (C : Nat → Sp) : ta (tb_X2_isOpen C) 13 = tr_bald 14 := rfl
theorem a_X2_isOpen_14 (C : Nat → Sp) : ta (tb_X2_isOpen C) 14 = tr_ifeq 17 21 := rfl
theorem a_X2_isOpen_17 (C : Nat → Sp) : ta (tb_X2_isOpen C) 17 = tr_ic 18 1 := rfl
theorem a_X2_isOpen_18 (C : Nat → Sp) : ta (tb_X2_isOpen C) 18 = tr_goto 22 := rfl
theorem a_X2_isOpen_21 (C : Nat → Sp) : ta (tb_X2_isOpen C) 21 = tr_ic 22 0 := rfl
theorem a_X2_isOpen_22 (C : Nat → Sp) : ta (tb_X2_isOpen C) 22 = tr_zret := rfl

def tb_X2_admits_0 (C : Nat → Sp) : Tab := [(0, tr_iload 1 1), (1, tr_ic 3 (-4)), (3, tr_iceq 6 14), (6, tr_aload 7 0), (7, tr_iload 8 1), (8, tr_callV (C 18) 11 3 1), (11, tr_ifeq 14 18), (14, tr_ic 15 1), (15, tr_goto 19), (18, tr_ic 19 0), (19, tr_zret)]
set_option maxRecDepth 20000 in
theorem tbk_X2_admits_0 {D : DD} {d : Nat} {C : Nat → Sp} (hC : Snd D d C) : ∀ e ∈ tb_X2_admits_0 C, TrOk D (d + 1) mi_X2_admits e.1 e.2 :=
  tk_c (show TrOk D (d + 1) mi_X2_admits 0 (tr_iload 1 1) from ok_iload_n (show decode mi_X2_admits.2.1 0 = .ok (.iload_n 1, 1) from by decide +kernel) rfl) <|
  tk_c (show TrOk D (d + 1) mi_X2_admits 1 (tr_ic 3 (-4)) from ok_bipush (show decode mi_X2_admits.2.1 1 = .ok (.bipush (-4), 2) from by decide +kernel) rfl) <|
  tk_c (show TrOk D (d + 1) mi_X2_admits 3 (tr_iceq 6 14) from ok_iceq (show decode mi_X2_admits.2.1 3 = .ok (.if_icmp .eq 11, 3) from by decide +kernel) (by decide)) <|
  tk_c (show TrOk D (d + 1) mi_X2_admits 6 (tr_aload 7 0) from ok_aload_n (show decode mi_X2_admits.2.1 6 = .ok (.aload_n 0, 1) from by decide +kernel) rfl) <|
  tk_c (show TrOk D (d + 1) mi_X2_admits 7 (tr_iload 8 1) from ok_iload_n (show decode mi_X2_admits.2.1 7 = .ok (.iload_n 1, 1) from by decide +kernel) rfl) <|
  tk_c (show TrOk D (d + 1) mi_X2_admits 8 (tr_callV (C 18) 11 3 1) from ok_callV (ci := 2) (show decode mi_X2_admits.2.1 8 = .ok (.invokevirtual 122, 3) from by decide +kernel) mok_X2_isOpen rfl rfl (gm 364 (by decide +kernel) rfl) (gm 356 (by decide +kernel) rfl) (gm 357 (by decide +kernel) rfl) (hC 18)) <|
  tk_c (show TrOk D (d + 1) mi_X2_admits 11 (tr_ifeq 14 18) from ok_ifeq (show decode mi_X2_admits.2.1 11 = .ok (.ifCond .eq 7, 3) from by decide +kernel) (by decide)) <|
  tk_c (show TrOk D (d + 1) mi_X2_admits 14 (tr_ic 15 1) from ok_iconst (show decode mi_X2_admits.2.1 14 = .ok (.iconst 1, 1) from by decide +kernel) rfl) <|
  tk_c (show TrOk D (d + 1) mi_X2_admits 15 (tr_goto 19) from ok_goto (show decode mi_X2_admits.2.1 15 = .ok (.goto 4, 3) from by decide +kernel) (by decide)) <|
  tk_c (show TrOk D (d + 1) mi_X2_admits 18 (tr_ic 19 0) from ok_iconst (show decode mi_X2_admits.2.1 18 = .ok (.iconst 0, 1) from by decide +kernel) rfl) <|
  tk_c (show TrOk D (d + 1) mi_X2_admits 19 (tr_zret) from ok_zret (show decode mi_X2_admits.2.1 19 = .ok (.ireturn, 1) from by decide +kernel) rfl) <|
  tk_n
def tb_X2_admits (C : Nat → Sp) : Tab := tb_X2_admits_0 C
theorem tbk_X2_admits {D : DD} {d : Nat} {C : Nat → Sp} (hC : Snd D d C) : ∀ e ∈ tb_X2_admits C, TrOk D (d + 1) mi_X2_admits e.1 e.2 := tbk_X2_admits_0 hC
theorem a_X2_admits_0 (C : Nat → Sp) : ta (tb_X2_admits C) 0 = tr_iload 1 1 := rfl
theorem a_X2_admits_1 (C : Nat → Sp) : ta (tb_X2_admits C) 1 = tr_ic 3 (-4) := rfl
theorem a_X2_admits_3 (C : Nat → Sp) : ta (tb_X2_admits C) 3 = tr_iceq 6 14 := rfl
theorem a_X2_admits_6 (C : Nat → Sp) : ta (tb_X2_admits C) 6 = tr_aload 7 0 := rfl
theorem a_X2_admits_7 (C : Nat → Sp) : ta (tb_X2_admits C) 7 = tr_iload 8 1 := rfl
theorem a_X2_admits_8 (C : Nat → Sp) : ta (tb_X2_admits C) 8 = tr_callV (C 18) 11 3 1 := rfl
theorem a_X2_admits_11 (C : Nat → Sp) : ta (tb_X2_admits C) 11 = tr_ifeq 14 18 := rfl
theorem a_X2_admits_14 (C : Nat → Sp) : ta (tb_X2_admits C) 14 = tr_ic 15 1 := rfl
theorem a_X2_admits_15 (C : Nat → Sp) : ta (tb_X2_admits C) 15 = tr_goto 19 := rfl
theorem a_X2_admits_18 (C : Nat → Sp) : ta (tb_X2_admits C) 18 = tr_ic 19 0 := rfl
theorem a_X2_admits_19 (C : Nat → Sp) : ta (tb_X2_admits C) 19 = tr_zret := rfl

def tb_X2_shut_0 (C : Nat → Sp) : Tab := [(0, tr_aload 1 0), (1, tr_iload 2 1), (2, tr_callV (C 18) 5 3 1), (5, tr_ifne 8 10), (8, tr_ic 9 0), (9, tr_iret), (10, tr_aload 11 0), (11, tr_getR 14 3 202), (14, tr_iload 15 1), (15, tr_ic 16 0), (16, tr_bast 17), (17, tr_aload 18 0), (18, tr_dup 19), (19, tr_getI 22 3 206), (22, tr_ic 23 1), (23, tr_isub 24), (24, tr_putI 27 3 206), (27, tr_aload 28 0), (28, tr_getI 31 3 204), (31, tr_istore 32 2), (32, tr_ic 33 0), (33, tr_istore 34 3), (34, tr_iload 35 3), (35, tr_aload 36 0), (36, tr_getI 39 3 203), (39, tr_icge 42 76), (42, tr_aload 43 0), (43, tr_getR 46 3 200), (46, tr_iload 47 3), (47, tr_aald 48 6), (48, tr_astore 50 4), (50, tr_aload 52 4), (52, tr_ifnull 55 70), (55, tr_aload 57 4), (57, tr_getI 60 6 504), (60, tr_iload 61 1), (61, tr_icne 64 70), (64, tr_aload 65 0), (65, tr_aload 67 4), (67, tr_callV (C 13) 70 3 1)]
set_option maxRecDepth 20000 in
theorem tbk_X2_shut_0 {D : DD} {d : Nat} {C : Nat → Sp} (hC : Snd D d C) : ∀ e ∈ tb_X2_shut_0 C, TrOk D (d + 1) mi_X2_shut e.1 e.2 :=
  tk_c (show TrOk D (d + 1) mi_X2_shut 0 (tr_aload 1 0) from ok_aload_n (show decode mi_X2_shut.2.1 0 = .ok (.aload_n 0, 1) from by decide +kernel) rfl) <|
  tk_c (show TrOk D (d + 1) mi_X2_shut 1 (tr_iload 2 1) from ok_iload_n (show decode mi_X2_shut.2.1 1 = .ok (.iload_n 1, 1) from by decide +kernel) rfl) <|
  tk_c (show TrOk D (d + 1) mi_X2_shut 2 (tr_callV (C 18) 5 3 1) from ok_callV (ci := 2) (show decode mi_X2_shut.2.1 2 = .ok (.invokevirtual 122, 3) from by decide +kernel) mok_X2_isOpen rfl rfl (gm 364 (by decide +kernel) rfl) (gm 356 (by decide +kernel) rfl) (gm 357 (by decide +kernel) rfl) (hC 18)) <|
  tk_c (show TrOk D (d + 1) mi_X2_shut 5 (tr_ifne 8 10) from ok_ifne (show decode mi_X2_shut.2.1 5 = .ok (.ifCond .ne 5, 3) from by decide +kernel) (by decide)) <|
  tk_c (show TrOk D (d + 1) mi_X2_shut 8 (tr_ic 9 0) from ok_iconst (show decode mi_X2_shut.2.1 8 = .ok (.iconst 0, 1) from by decide +kernel) rfl) <|
  tk_c (show TrOk D (d + 1) mi_X2_shut 9 (tr_iret) from ok_iret (show decode mi_X2_shut.2.1 9 = .ok (.ireturn, 1) from by decide +kernel) rfl) <|
  tk_c (show TrOk D (d + 1) mi_X2_shut 10 (tr_aload 11 0) from ok_aload_n (show decode mi_X2_shut.2.1 10 = .ok (.aload_n 0, 1) from by decide +kernel) rfl) <|
  tk_c (show TrOk D (d + 1) mi_X2_shut 11 (tr_getR 14 3 202) from ok_getR (ci := 2) (k := 2) (show decode mi_X2_shut.2.1 11 = .ok (.getfield 20, 3) from by decide +kernel) rfl (by decide) (gm 78 (by decide +kernel) rfl) rfl) <|
  tk_c (show TrOk D (d + 1) mi_X2_shut 14 (tr_iload 15 1) from ok_iload_n (show decode mi_X2_shut.2.1 14 = .ok (.iload_n 1, 1) from by decide +kernel) rfl) <|
  tk_c (show TrOk D (d + 1) mi_X2_shut 15 (tr_ic 16 0) from ok_iconst (show decode mi_X2_shut.2.1 15 = .ok (.iconst 0, 1) from by decide +kernel) rfl) <|
  tk_c (show TrOk D (d + 1) mi_X2_shut 16 (tr_bast 17) from ok_bast (show decode mi_X2_shut.2.1 16 = .ok (.bastore, 1) from by decide +kernel)) <|
  tk_c (show TrOk D (d + 1) mi_X2_shut 17 (tr_aload 18 0) from ok_aload_n (show decode mi_X2_shut.2.1 17 = .ok (.aload_n 0, 1) from by decide +kernel) rfl) <|
  tk_c (show TrOk D (d + 1) mi_X2_shut 18 (tr_dup 19) from ok_dup (show decode mi_X2_shut.2.1 18 = .ok (.dup, 1) from by decide +kernel)) <|
  tk_c (show TrOk D (d + 1) mi_X2_shut 19 (tr_getI 22 3 206) from ok_getI (ci := 2) (k := 6) (show decode mi_X2_shut.2.1 19 = .ok (.getfield 116, 3) from by decide +kernel) rfl (by decide) (gm 86 (by decide +kernel) rfl) rfl) <|
  tk_c (show TrOk D (d + 1) mi_X2_shut 22 (tr_ic 23 1) from ok_iconst (show decode mi_X2_shut.2.1 22 = .ok (.iconst 1, 1) from by decide +kernel) rfl) <|
  tk_c (show TrOk D (d + 1) mi_X2_shut 23 (tr_isub 24) from ok_isub (show decode mi_X2_shut.2.1 23 = .ok (.isub, 1) from by decide +kernel)) <|
  tk_c (show TrOk D (d + 1) mi_X2_shut 24 (tr_putI 27 3 206) from ok_putI (ci := 2) (k := 6) (show decode mi_X2_shut.2.1 24 = .ok (.putfield 116, 3) from by decide +kernel) rfl (by decide) (gm 86 (by decide +kernel) rfl) rfl (Or.inl rfl)) <|
  tk_c (show TrOk D (d + 1) mi_X2_shut 27 (tr_aload 28 0) from ok_aload_n (show decode mi_X2_shut.2.1 27 = .ok (.aload_n 0, 1) from by decide +kernel) rfl) <|
  tk_c (show TrOk D (d + 1) mi_X2_shut 28 (tr_getI 31 3 204) from ok_getI (ci := 2) (k := 4) (show decode mi_X2_shut.2.1 28 = .ok (.getfield 39, 3) from by decide +kernel) rfl (by decide) (gm 82 (by decide +kernel) rfl) rfl) <|
  tk_c (show TrOk D (d + 1) mi_X2_shut 31 (tr_istore 32 2) from ok_istore_n (show decode mi_X2_shut.2.1 31 = .ok (.istore_n 2, 1) from by decide +kernel) rfl (by decide)) <|
  tk_c (show TrOk D (d + 1) mi_X2_shut 32 (tr_ic 33 0) from ok_iconst (show decode mi_X2_shut.2.1 32 = .ok (.iconst 0, 1) from by decide +kernel) rfl) <|
  tk_c (show TrOk D (d + 1) mi_X2_shut 33 (tr_istore 34 3) from ok_istore_n (show decode mi_X2_shut.2.1 33 = .ok (.istore_n 3, 1) from by decide +kernel) rfl (by decide)) <|
  tk_c (show TrOk D (d + 1) mi_X2_shut 34 (tr_iload 35 3) from ok_iload_n (show decode mi_X2_shut.2.1 34 = .ok (.iload_n 3, 1) from by decide +kernel) rfl) <|
  tk_c (show TrOk D (d + 1) mi_X2_shut 35 (tr_aload 36 0) from ok_aload_n (show decode mi_X2_shut.2.1 35 = .ok (.aload_n 0, 1) from by decide +kernel) rfl) <|
  tk_c (show TrOk D (d + 1) mi_X2_shut 36 (tr_getI 39 3 203) from ok_getI (ci := 2) (k := 3) (show decode mi_X2_shut.2.1 36 = .ok (.getfield 24, 3) from by decide +kernel) rfl (by decide) (gm 79 (by decide +kernel) rfl) rfl) <|
  tk_c (show TrOk D (d + 1) mi_X2_shut 39 (tr_icge 42 76) from ok_icge (show decode mi_X2_shut.2.1 39 = .ok (.if_icmp .ge 37, 3) from by decide +kernel) (by decide)) <|
  tk_c (show TrOk D (d + 1) mi_X2_shut 42 (tr_aload 43 0) from ok_aload_n (show decode mi_X2_shut.2.1 42 = .ok (.aload_n 0, 1) from by decide +kernel) rfl) <|
  tk_c (show TrOk D (d + 1) mi_X2_shut 43 (tr_getR 46 3 200) from ok_getR (ci := 2) (k := 0) (show decode mi_X2_shut.2.1 43 = .ok (.getfield 11, 3) from by decide +kernel) rfl (by decide) (gm 76 (by decide +kernel) rfl) rfl) <|
  tk_c (show TrOk D (d + 1) mi_X2_shut 46 (tr_iload 47 3) from ok_iload_n (show decode mi_X2_shut.2.1 46 = .ok (.iload_n 3, 1) from by decide +kernel) rfl) <|
  tk_c (show TrOk D (d + 1) mi_X2_shut 47 (tr_aald 48 6) from ok_aald (by decide) (by decide) (show decode mi_X2_shut.2.1 47 = .ok (.aaload, 1) from by decide +kernel)) <|
  tk_c (show TrOk D (d + 1) mi_X2_shut 48 (tr_astore 50 4) from ok_astore (show decode mi_X2_shut.2.1 48 = .ok (.astore 4, 2) from by decide +kernel) (by decide)) <|
  tk_c (show TrOk D (d + 1) mi_X2_shut 50 (tr_aload 52 4) from ok_aload (show decode mi_X2_shut.2.1 50 = .ok (.aload 4, 2) from by decide +kernel)) <|
  tk_c (show TrOk D (d + 1) mi_X2_shut 52 (tr_ifnull 55 70) from ok_ifnull (show decode mi_X2_shut.2.1 52 = .ok (.ifnull 18, 3) from by decide +kernel) (by decide)) <|
  tk_c (show TrOk D (d + 1) mi_X2_shut 55 (tr_aload 57 4) from ok_aload (show decode mi_X2_shut.2.1 55 = .ok (.aload 4, 2) from by decide +kernel)) <|
  tk_c (show TrOk D (d + 1) mi_X2_shut 57 (tr_getI 60 6 504) from ok_getI (ci := 5) (k := 4) (show decode mi_X2_shut.2.1 57 = .ok (.getfield 58, 3) from by decide +kernel) rfl (by decide) (gm 426 (by decide +kernel) rfl) rfl) <|
  tk_c (show TrOk D (d + 1) mi_X2_shut 60 (tr_iload 61 1) from ok_iload_n (show decode mi_X2_shut.2.1 60 = .ok (.iload_n 1, 1) from by decide +kernel) rfl) <|
  tk_c (show TrOk D (d + 1) mi_X2_shut 61 (tr_icne 64 70) from ok_icne (show decode mi_X2_shut.2.1 61 = .ok (.if_icmp .ne 9, 3) from by decide +kernel) (by decide)) <|
  tk_c (show TrOk D (d + 1) mi_X2_shut 64 (tr_aload 65 0) from ok_aload_n (show decode mi_X2_shut.2.1 64 = .ok (.aload_n 0, 1) from by decide +kernel) rfl) <|
  tk_c (show TrOk D (d + 1) mi_X2_shut 65 (tr_aload 67 4) from ok_aload (show decode mi_X2_shut.2.1 65 = .ok (.aload 4, 2) from by decide +kernel)) <|
  tk_c (show TrOk D (d + 1) mi_X2_shut 67 (tr_callV (C 13) 70 3 1) from ok_callV (ci := 2) (show decode mi_X2_shut.2.1 67 = .ok (.invokevirtual 100, 3) from by decide +kernel) mok_X2_letGo rfl rfl (gm 365 (by decide +kernel) rfl) (gm 366 (by decide +kernel) rfl) (gm 367 (by decide +kernel) rfl) (hC 13)) <|
  tk_n
def tb_X2_shut_1 (C : Nat → Sp) : Tab := [(70, tr_iinc 73 3 1), (73, tr_goto 34), (76, tr_iload 77 2), (77, tr_aload 78 0), (78, tr_getI 81 3 204), (81, tr_isub 82), (82, tr_iret)]
set_option maxRecDepth 20000 in
theorem tbk_X2_shut_1 {D : DD} {d : Nat} {C : Nat → Sp} (hC : Snd D d C) : ∀ e ∈ tb_X2_shut_1 C, TrOk D (d + 1) mi_X2_shut e.1 e.2 :=
  tk_c (show TrOk D (d + 1) mi_X2_shut 70 (tr_iinc 73 3 1) from ok_iinc (show decode mi_X2_shut.2.1 70 = .ok (.iinc 3 1, 3) from by decide +kernel) rfl (by decide)) <|
  tk_c (show TrOk D (d + 1) mi_X2_shut 73 (tr_goto 34) from ok_goto (show decode mi_X2_shut.2.1 73 = .ok (.goto (-39), 3) from by decide +kernel) (by decide)) <|
  tk_c (show TrOk D (d + 1) mi_X2_shut 76 (tr_iload 77 2) from ok_iload_n (show decode mi_X2_shut.2.1 76 = .ok (.iload_n 2, 1) from by decide +kernel) rfl) <|
  tk_c (show TrOk D (d + 1) mi_X2_shut 77 (tr_aload 78 0) from ok_aload_n (show decode mi_X2_shut.2.1 77 = .ok (.aload_n 0, 1) from by decide +kernel) rfl) <|
  tk_c (show TrOk D (d + 1) mi_X2_shut 78 (tr_getI 81 3 204) from ok_getI (ci := 2) (k := 4) (show decode mi_X2_shut.2.1 78 = .ok (.getfield 39, 3) from by decide +kernel) rfl (by decide) (gm 82 (by decide +kernel) rfl) rfl) <|
  tk_c (show TrOk D (d + 1) mi_X2_shut 81 (tr_isub 82) from ok_isub (show decode mi_X2_shut.2.1 81 = .ok (.isub, 1) from by decide +kernel)) <|
  tk_c (show TrOk D (d + 1) mi_X2_shut 82 (tr_iret) from ok_iret (show decode mi_X2_shut.2.1 82 = .ok (.ireturn, 1) from by decide +kernel) rfl) <|
  tk_n
def tb_X2_shut (C : Nat → Sp) : Tab := tb_X2_shut_0 C ++ (tb_X2_shut_1 C)
theorem tbk_X2_shut {D : DD} {d : Nat} {C : Nat → Sp} (hC : Snd D d C) : ∀ e ∈ tb_X2_shut C, TrOk D (d + 1) mi_X2_shut e.1 e.2 := tk_a (tbk_X2_shut_0 hC) (tbk_X2_shut_1 hC)
theorem a_X2_shut_0 (C : Nat → Sp) : ta (tb_X2_shut C) 0 = tr_aload 1 0 := rfl
theorem a_X2_shut_1 (C : Nat → Sp) : ta (tb_X2_shut C) 1 = tr_iload 2 1 := rfl
theorem a_X2_shut_2 (C : Nat → Sp) : ta (tb_X2_shut C) 2 = tr_callV (C 18) 5 3 1 := rfl
theorem a_X2_shut_5 (C : Nat → Sp) : ta (tb_X2_shut C) 5 = tr_ifne 8 10 := rfl
theorem a_X2_shut_8 (C : Nat → Sp) : ta (tb_X2_shut C) 8 = tr_ic 9 0 := rfl
theorem a_X2_shut_9 (C : Nat → Sp) : ta (tb_X2_shut C) 9 = tr_iret := rfl
theorem a_X2_shut_10 (C : Nat → Sp) : ta (tb_X2_shut C) 10 = tr_aload 11 0 := rfl
theorem a_X2_shut_11 (C : Nat → Sp) : ta (tb_X2_shut C) 11 = tr_getR 14 3 202 := rfl
theorem a_X2_shut_14 (C : Nat → Sp) : ta (tb_X2_shut C) 14 = tr_iload 15 1 := rfl
theorem a_X2_shut_15 (C : Nat → Sp) : ta (tb_X2_shut C) 15 = tr_ic 16 0 := rfl
theorem a_X2_shut_16 (C : Nat → Sp) : ta (tb_X2_shut C) 16 = tr_bast 17 := rfl
theorem a_X2_shut_17 (C : Nat → Sp) : ta (tb_X2_shut C) 17 = tr_aload 18 0 := rfl
theorem a_X2_shut_18 (C : Nat → Sp) : ta (tb_X2_shut C) 18 = tr_dup 19 := rfl
theorem a_X2_shut_19 (C : Nat → Sp) : ta (tb_X2_shut C) 19 = tr_getI 22 3 206 := rfl
theorem a_X2_shut_22 (C : Nat → Sp) : ta (tb_X2_shut C) 22 = tr_ic 23 1 := rfl
theorem a_X2_shut_23 (C : Nat → Sp) : ta (tb_X2_shut C) 23 = tr_isub 24 := rfl
theorem a_X2_shut_24 (C : Nat → Sp) : ta (tb_X2_shut C) 24 = tr_putI 27 3 206 := rfl
theorem a_X2_shut_27 (C : Nat → Sp) : ta (tb_X2_shut C) 27 = tr_aload 28 0 := rfl
theorem a_X2_shut_28 (C : Nat → Sp) : ta (tb_X2_shut C) 28 = tr_getI 31 3 204 := rfl
theorem a_X2_shut_31 (C : Nat → Sp) : ta (tb_X2_shut C) 31 = tr_istore 32 2 := rfl
theorem a_X2_shut_32 (C : Nat → Sp) : ta (tb_X2_shut C) 32 = tr_ic 33 0 := rfl
theorem a_X2_shut_33 (C : Nat → Sp) : ta (tb_X2_shut C) 33 = tr_istore 34 3 := rfl
theorem a_X2_shut_34 (C : Nat → Sp) : ta (tb_X2_shut C) 34 = tr_iload 35 3 := rfl
theorem a_X2_shut_35 (C : Nat → Sp) : ta (tb_X2_shut C) 35 = tr_aload 36 0 := rfl
theorem a_X2_shut_36 (C : Nat → Sp) : ta (tb_X2_shut C) 36 = tr_getI 39 3 203 := rfl
theorem a_X2_shut_39 (C : Nat → Sp) : ta (tb_X2_shut C) 39 = tr_icge 42 76 := rfl
theorem a_X2_shut_42 (C : Nat → Sp) : ta (tb_X2_shut C) 42 = tr_aload 43 0 := rfl
theorem a_X2_shut_43 (C : Nat → Sp) : ta (tb_X2_shut C) 43 = tr_getR 46 3 200 := rfl
theorem a_X2_shut_46 (C : Nat → Sp) : ta (tb_X2_shut C) 46 = tr_iload 47 3 := rfl
theorem a_X2_shut_47 (C : Nat → Sp) : ta (tb_X2_shut C) 47 = tr_aald 48 6 := rfl
theorem a_X2_shut_48 (C : Nat → Sp) : ta (tb_X2_shut C) 48 = tr_astore 50 4 := rfl
theorem a_X2_shut_50 (C : Nat → Sp) : ta (tb_X2_shut C) 50 = tr_aload 52 4 := rfl
theorem a_X2_shut_52 (C : Nat → Sp) : ta (tb_X2_shut C) 52 = tr_ifnull 55 70 := rfl
theorem a_X2_shut_55 (C : Nat → Sp) : ta (tb_X2_shut C) 55 = tr_aload 57 4 := rfl
theorem a_X2_shut_57 (C : Nat → Sp) : ta (tb_X2_shut C) 57 = tr_getI 60 6 504 := rfl
theorem a_X2_shut_60 (C : Nat → Sp) : ta (tb_X2_shut C) 60 = tr_iload 61 1 := rfl
theorem a_X2_shut_61 (C : Nat → Sp) : ta (tb_X2_shut C) 61 = tr_icne 64 70 := rfl
theorem a_X2_shut_64 (C : Nat → Sp) : ta (tb_X2_shut C) 64 = tr_aload 65 0 := rfl
theorem a_X2_shut_65 (C : Nat → Sp) : ta (tb_X2_shut C) 65 = tr_aload 67 4 := rfl
theorem a_X2_shut_67 (C : Nat → Sp) : ta (tb_X2_shut C) 67 = tr_callV (C 13) 70 3 1 := rfl
theorem a_X2_shut_70 (C : Nat → Sp) : ta (tb_X2_shut C) 70 = tr_iinc 73 3 1 := rfl
theorem a_X2_shut_73 (C : Nat → Sp) : ta (tb_X2_shut C) 73 = tr_goto 34 := rfl
theorem a_X2_shut_76 (C : Nat → Sp) : ta (tb_X2_shut C) 76 = tr_iload 77 2 := rfl
theorem a_X2_shut_77 (C : Nat → Sp) : ta (tb_X2_shut C) 77 = tr_aload 78 0 := rfl
theorem a_X2_shut_78 (C : Nat → Sp) : ta (tb_X2_shut C) 78 = tr_getI 81 3 204 := rfl
theorem a_X2_shut_81 (C : Nat → Sp) : ta (tb_X2_shut C) 81 = tr_isub 82 := rfl
theorem a_X2_shut_82 (C : Nat → Sp) : ta (tb_X2_shut C) 82 = tr_iret := rfl

def tb_X3_init_0 (C : Nat → Sp) : Tab := [(0, tr_aload 1 0), (1, tr_obj 4), (4, tr_aload 5 0), (5, tr_iload 6 1), (6, tr_putI 9 4 300), (9, tr_aload 10 0), (10, tr_aload 11 2), (11, tr_ifnonnull 14 18), (14, tr_ic 15 0), (15, tr_goto 24), (18, tr_aload 19 2), (19, tr_getI 22 4 301), (22, tr_ic 23 1), (23, tr_iadd 24), (24, tr_putI 27 4 301), (27, tr_aload 28 0), (28, tr_lc 29 1), (29, tr_iload 30 1), (30, tr_lshl 31), (31, tr_aload 32 2), (32, tr_ifnonnull 35 39), (35, tr_lc 36 0), (36, tr_goto 43), (39, tr_aload 40 2), (40, tr_getL 43 4 302), (43, tr_lor 44), (44, tr_putL 47 4 302), (47, tr_ret)]
set_option maxRecDepth 20000 in
theorem tbk_X3_init_0 {D : DD} {d : Nat} {C : Nat → Sp} (hC : Snd D d C) : ∀ e ∈ tb_X3_init_0 C, TrOk D (d + 1) mi_X3_init e.1 e.2 :=
  tk_c (show TrOk D (d + 1) mi_X3_init 0 (tr_aload 1 0) from ok_aload_n (show decode mi_X3_init.2.1 0 = .ok (.aload_n 0, 1) from by decide +kernel) rfl) <|
  tk_c (show TrOk D (d + 1) mi_X3_init 1 (tr_obj 4) from ok_obj (show decode mi_X3_init.2.1 1 = .ok (.invokespecial 1, 3) from by decide +kernel) (gm 321 (by decide +kernel) rfl) (gm 50 (by decide +kernel) rfl) (gm 51 rfl rfl)) <|
  tk_c (show TrOk D (d + 1) mi_X3_init 4 (tr_aload 5 0) from ok_aload_n (show decode mi_X3_init.2.1 4 = .ok (.aload_n 0, 1) from by decide +kernel) rfl) <|
  tk_c (show TrOk D (d + 1) mi_X3_init 5 (tr_iload 6 1) from ok_iload_n (show decode mi_X3_init.2.1 5 = .ok (.iload_n 1, 1) from by decide +kernel) rfl) <|
  tk_c (show TrOk D (d + 1) mi_X3_init 6 (tr_putI 9 4 300) from ok_putI (ci := 3) (k := 0) (show decode mi_X3_init.2.1 6 = .ok (.putfield 7, 3) from by decide +kernel) rfl (by decide) (gm 322 (by decide +kernel) rfl) rfl (Or.inr ⟨rfl, rfl, rfl⟩)) <|
  tk_c (show TrOk D (d + 1) mi_X3_init 9 (tr_aload 10 0) from ok_aload_n (show decode mi_X3_init.2.1 9 = .ok (.aload_n 0, 1) from by decide +kernel) rfl) <|
  tk_c (show TrOk D (d + 1) mi_X3_init 10 (tr_aload 11 2) from ok_aload_n (show decode mi_X3_init.2.1 10 = .ok (.aload_n 2, 1) from by decide +kernel) rfl) <|
  tk_c (show TrOk D (d + 1) mi_X3_init 11 (tr_ifnonnull 14 18) from ok_ifnonnull (show decode mi_X3_init.2.1 11 = .ok (.ifnonnull 7, 3) from by decide +kernel) (by decide)) <|
  tk_c (show TrOk D (d + 1) mi_X3_init 14 (tr_ic 15 0) from ok_iconst (show decode mi_X3_init.2.1 14 = .ok (.iconst 0, 1) from by decide +kernel) rfl) <|
  tk_c (show TrOk D (d + 1) mi_X3_init 15 (tr_goto 24) from ok_goto (show decode mi_X3_init.2.1 15 = .ok (.goto 9, 3) from by decide +kernel) (by decide)) <|
  tk_c (show TrOk D (d + 1) mi_X3_init 18 (tr_aload 19 2) from ok_aload_n (show decode mi_X3_init.2.1 18 = .ok (.aload_n 2, 1) from by decide +kernel) rfl) <|
  tk_c (show TrOk D (d + 1) mi_X3_init 19 (tr_getI 22 4 301) from ok_getI (ci := 3) (k := 1) (show decode mi_X3_init.2.1 19 = .ok (.getfield 13, 3) from by decide +kernel) rfl (by decide) (gm 324 (by decide +kernel) rfl) rfl) <|
  tk_c (show TrOk D (d + 1) mi_X3_init 22 (tr_ic 23 1) from ok_iconst (show decode mi_X3_init.2.1 22 = .ok (.iconst 1, 1) from by decide +kernel) rfl) <|
  tk_c (show TrOk D (d + 1) mi_X3_init 23 (tr_iadd 24) from ok_iadd (show decode mi_X3_init.2.1 23 = .ok (.iadd, 1) from by decide +kernel)) <|
  tk_c (show TrOk D (d + 1) mi_X3_init 24 (tr_putI 27 4 301) from ok_putI (ci := 3) (k := 1) (show decode mi_X3_init.2.1 24 = .ok (.putfield 13, 3) from by decide +kernel) rfl (by decide) (gm 324 (by decide +kernel) rfl) rfl (Or.inr ⟨rfl, rfl, rfl⟩)) <|
  tk_c (show TrOk D (d + 1) mi_X3_init 27 (tr_aload 28 0) from ok_aload_n (show decode mi_X3_init.2.1 27 = .ok (.aload_n 0, 1) from by decide +kernel) rfl) <|
  tk_c (show TrOk D (d + 1) mi_X3_init 28 (tr_lc 29 1) from ok_lconst (show decode mi_X3_init.2.1 28 = .ok (.lconst 1, 1) from by decide +kernel) rfl) <|
  tk_c (show TrOk D (d + 1) mi_X3_init 29 (tr_iload 30 1) from ok_iload_n (show decode mi_X3_init.2.1 29 = .ok (.iload_n 1, 1) from by decide +kernel) rfl) <|
  tk_c (show TrOk D (d + 1) mi_X3_init 30 (tr_lshl 31) from ok_lshl (show decode mi_X3_init.2.1 30 = .ok (.lshl, 1) from by decide +kernel)) <|
  tk_c (show TrOk D (d + 1) mi_X3_init 31 (tr_aload 32 2) from ok_aload_n (show decode mi_X3_init.2.1 31 = .ok (.aload_n 2, 1) from by decide +kernel) rfl) <|
  tk_c (show TrOk D (d + 1) mi_X3_init 32 (tr_ifnonnull 35 39) from ok_ifnonnull (show decode mi_X3_init.2.1 32 = .ok (.ifnonnull 7, 3) from by decide +kernel) (by decide)) <|
  tk_c (show TrOk D (d + 1) mi_X3_init 35 (tr_lc 36 0) from ok_lconst (show decode mi_X3_init.2.1 35 = .ok (.lconst 0, 1) from by decide +kernel) rfl) <|
  tk_c (show TrOk D (d + 1) mi_X3_init 36 (tr_goto 43) from ok_goto (show decode mi_X3_init.2.1 36 = .ok (.goto 7, 3) from by decide +kernel) (by decide)) <|
  tk_c (show TrOk D (d + 1) mi_X3_init 39 (tr_aload 40 2) from ok_aload_n (show decode mi_X3_init.2.1 39 = .ok (.aload_n 2, 1) from by decide +kernel) rfl) <|
  tk_c (show TrOk D (d + 1) mi_X3_init 40 (tr_getL 43 4 302) from ok_getL (ci := 3) (k := 2) (show decode mi_X3_init.2.1 40 = .ok (.getfield 16, 3) from by decide +kernel) rfl (by decide) (gm 327 (by decide +kernel) rfl) rfl) <|
  tk_c (show TrOk D (d + 1) mi_X3_init 43 (tr_lor 44) from ok_lor (show decode mi_X3_init.2.1 43 = .ok (.lor, 1) from by decide +kernel)) <|
  tk_c (show TrOk D (d + 1) mi_X3_init 44 (tr_putL 47 4 302) from ok_putL (ci := 3) (k := 2) (show decode mi_X3_init.2.1 44 = .ok (.putfield 16, 3) from by decide +kernel) rfl (by decide) (gm 327 (by decide +kernel) rfl) rfl (Or.inr ⟨rfl, rfl, rfl⟩)) <|
  tk_c (show TrOk D (d + 1) mi_X3_init 47 (tr_ret) from ok_ret (show decode mi_X3_init.2.1 47 = .ok (.return_, 1) from by decide +kernel) rfl) <|
  tk_n
def tb_X3_init (C : Nat → Sp) : Tab := tb_X3_init_0 C
theorem tbk_X3_init {D : DD} {d : Nat} {C : Nat → Sp} (hC : Snd D d C) : ∀ e ∈ tb_X3_init C, TrOk D (d + 1) mi_X3_init e.1 e.2 := tbk_X3_init_0 hC
theorem a_X3_init_0 (C : Nat → Sp) : ta (tb_X3_init C) 0 = tr_aload 1 0 := rfl
theorem a_X3_init_1 (C : Nat → Sp) : ta (tb_X3_init C) 1 = tr_obj 4 := rfl
theorem a_X3_init_4 (C : Nat → Sp) : ta (tb_X3_init C) 4 = tr_aload 5 0 := rfl
theorem a_X3_init_5 (C : Nat → Sp) : ta (tb_X3_init C) 5 = tr_iload 6 1 := rfl
theorem a_X3_init_6 (C : Nat → Sp) : ta (tb_X3_init C) 6 = tr_putI 9 4 300 := rfl
theorem a_X3_init_9 (C : Nat → Sp) : ta (tb_X3_init C) 9 = tr_aload 10 0 := rfl
theorem a_X3_init_10 (C : Nat → Sp) : ta (tb_X3_init C) 10 = tr_aload 11 2 := rfl
theorem a_X3_init_11 (C : Nat → Sp) : ta (tb_X3_init C) 11 = tr_ifnonnull 14 18 := rfl
theorem a_X3_init_14 (C : Nat → Sp) : ta (tb_X3_init C) 14 = tr_ic 15 0 := rfl
theorem a_X3_init_15 (C : Nat → Sp) : ta (tb_X3_init C) 15 = tr_goto 24 := rfl
theorem a_X3_init_18 (C : Nat → Sp) : ta (tb_X3_init C) 18 = tr_aload 19 2 := rfl
theorem a_X3_init_19 (C : Nat → Sp) : ta (tb_X3_init C) 19 = tr_getI 22 4 301 := rfl
theorem a_X3_init_22 (C : Nat → Sp) : ta (tb_X3_init C) 22 = tr_ic 23 1 := rfl
theorem a_X3_init_23 (C : Nat → Sp) : ta (tb_X3_init C) 23 = tr_iadd 24 := rfl
theorem a_X3_init_24 (C : Nat → Sp) : ta (tb_X3_init C) 24 = tr_putI 27 4 301 := rfl
theorem a_X3_init_27 (C : Nat → Sp) : ta (tb_X3_init C) 27 = tr_aload 28 0 := rfl
theorem a_X3_init_28 (C : Nat → Sp) : ta (tb_X3_init C) 28 = tr_lc 29 1 := rfl
theorem a_X3_init_29 (C : Nat → Sp) : ta (tb_X3_init C) 29 = tr_iload 30 1 := rfl
theorem a_X3_init_30 (C : Nat → Sp) : ta (tb_X3_init C) 30 = tr_lshl 31 := rfl
theorem a_X3_init_31 (C : Nat → Sp) : ta (tb_X3_init C) 31 = tr_aload 32 2 := rfl
theorem a_X3_init_32 (C : Nat → Sp) : ta (tb_X3_init C) 32 = tr_ifnonnull 35 39 := rfl
theorem a_X3_init_35 (C : Nat → Sp) : ta (tb_X3_init C) 35 = tr_lc 36 0 := rfl
theorem a_X3_init_36 (C : Nat → Sp) : ta (tb_X3_init C) 36 = tr_goto 43 := rfl
theorem a_X3_init_39 (C : Nat → Sp) : ta (tb_X3_init C) 39 = tr_aload 40 2 := rfl
theorem a_X3_init_40 (C : Nat → Sp) : ta (tb_X3_init C) 40 = tr_getL 43 4 302 := rfl
theorem a_X3_init_43 (C : Nat → Sp) : ta (tb_X3_init C) 43 = tr_lor 44 := rfl
theorem a_X3_init_44 (C : Nat → Sp) : ta (tb_X3_init C) 44 = tr_putL 47 4 302 := rfl
theorem a_X3_init_47 (C : Nat → Sp) : ta (tb_X3_init C) 47 = tr_ret := rfl

def tb_X3_isUnder_0 (C : Nat → Sp) : Tab := [(0, tr_aload 1 0), (1, tr_getL 4 4 302), (4, tr_lc 5 1), (5, tr_aload 6 1), (6, tr_getI 9 4 300), (9, tr_lshl 10), (10, tr_land 11), (11, tr_lc 12 0), (12, tr_lcmp 13), (13, tr_ifeq 16 20), (16, tr_ic 17 1), (17, tr_goto 21), (20, tr_ic 21 0), (21, tr_zret)]
set_option maxRecDepth 20000 in
theorem tbk_X3_isUnder_0 {D : DD} {d : Nat} {C : Nat → Sp} (hC : Snd D d C) : ∀ e ∈ tb_X3_isUnder_0 C, TrOk D (d + 1) mi_X3_isUnder e.1 e.2 :=
  tk_c (show TrOk D (d + 1) mi_X3_isUnder 0 (tr_aload 1 0) from ok_aload_n (show decode mi_X3_isUnder.2.1 0 = .ok (.aload_n 0, 1) from by decide +kernel) rfl) <|
  tk_c (show TrOk D (d + 1) mi_X3_isUnder 1 (tr_getL 4 4 302) from ok_getL (ci := 3) (k := 2) (show decode mi_X3_isUnder.2.1 1 = .ok (.getfield 16, 3) from by decide +kernel) rfl (by decide) (gm 327 (by decide +kernel) rfl) rfl) <|
  tk_c (show TrOk D (d + 1) mi_X3_isUnder 4 (tr_lc 5 1) from ok_lconst (show decode mi_X3_isUnder.2.1 4 = .ok (.lconst 1, 1) from by decide +kernel) rfl) <|
  tk_c (show TrOk D (d + 1) mi_X3_isUnder 5 (tr_aload 6 1) from ok_aload_n (show decode mi_X3_isUnder.2.1 5 = .ok (.aload_n 1, 1) from by decide +kernel) rfl) <|
  tk_c (show TrOk D (d + 1) mi_X3_isUnder 6 (tr_getI 9 4 300) from ok_getI (ci := 3) (k := 0) (show decode mi_X3_isUnder.2.1 6 = .ok (.getfield 7, 3) from by decide +kernel) rfl (by decide) (gm 322 (by decide +kernel) rfl) rfl) <|
  tk_c (show TrOk D (d + 1) mi_X3_isUnder 9 (tr_lshl 10) from ok_lshl (show decode mi_X3_isUnder.2.1 9 = .ok (.lshl, 1) from by decide +kernel)) <|
  tk_c (show TrOk D (d + 1) mi_X3_isUnder 10 (tr_land 11) from ok_land (show decode mi_X3_isUnder.2.1 10 = .ok (.land, 1) from by decide +kernel)) <|
  tk_c (show TrOk D (d + 1) mi_X3_isUnder 11 (tr_lc 12 0) from ok_lconst (show decode mi_X3_isUnder.2.1 11 = .ok (.lconst 0, 1) from by decide +kernel) rfl) <|
  tk_c (show TrOk D (d + 1) mi_X3_isUnder 12 (tr_lcmp 13) from ok_lcmp (show decode mi_X3_isUnder.2.1 12 = .ok (.lcmp, 1) from by decide +kernel)) <|
  tk_c (show TrOk D (d + 1) mi_X3_isUnder 13 (tr_ifeq 16 20) from ok_ifeq (show decode mi_X3_isUnder.2.1 13 = .ok (.ifCond .eq 7, 3) from by decide +kernel) (by decide)) <|
  tk_c (show TrOk D (d + 1) mi_X3_isUnder 16 (tr_ic 17 1) from ok_iconst (show decode mi_X3_isUnder.2.1 16 = .ok (.iconst 1, 1) from by decide +kernel) rfl) <|
  tk_c (show TrOk D (d + 1) mi_X3_isUnder 17 (tr_goto 21) from ok_goto (show decode mi_X3_isUnder.2.1 17 = .ok (.goto 4, 3) from by decide +kernel) (by decide)) <|
  tk_c (show TrOk D (d + 1) mi_X3_isUnder 20 (tr_ic 21 0) from ok_iconst (show decode mi_X3_isUnder.2.1 20 = .ok (.iconst 0, 1) from by decide +kernel) rfl) <|
  tk_c (show TrOk D (d + 1) mi_X3_isUnder 21 (tr_zret) from ok_zret (show decode mi_X3_isUnder.2.1 21 = .ok (.ireturn, 1) from by decide +kernel) rfl) <|
  tk_n
def tb_X3_isUnder (C : Nat → Sp) : Tab := tb_X3_isUnder_0 C
theorem tbk_X3_isUnder {D : DD} {d : Nat} {C : Nat → Sp} (hC : Snd D d C) : ∀ e ∈ tb_X3_isUnder C, TrOk D (d + 1) mi_X3_isUnder e.1 e.2 := tbk_X3_isUnder_0 hC
theorem a_X3_isUnder_0 (C : Nat → Sp) : ta (tb_X3_isUnder C) 0 = tr_aload 1 0 := rfl
theorem a_X3_isUnder_1 (C : Nat → Sp) : ta (tb_X3_isUnder C) 1 = tr_getL 4 4 302 := rfl
theorem a_X3_isUnder_4 (C : Nat → Sp) : ta (tb_X3_isUnder C) 4 = tr_lc 5 1 := rfl
theorem a_X3_isUnder_5 (C : Nat → Sp) : ta (tb_X3_isUnder C) 5 = tr_aload 6 1 := rfl
theorem a_X3_isUnder_6 (C : Nat → Sp) : ta (tb_X3_isUnder C) 6 = tr_getI 9 4 300 := rfl
theorem a_X3_isUnder_9 (C : Nat → Sp) : ta (tb_X3_isUnder C) 9 = tr_lshl 10 := rfl
theorem a_X3_isUnder_10 (C : Nat → Sp) : ta (tb_X3_isUnder C) 10 = tr_land 11 := rfl
theorem a_X3_isUnder_11 (C : Nat → Sp) : ta (tb_X3_isUnder C) 11 = tr_lc 12 0 := rfl
theorem a_X3_isUnder_12 (C : Nat → Sp) : ta (tb_X3_isUnder C) 12 = tr_lcmp 13 := rfl
theorem a_X3_isUnder_13 (C : Nat → Sp) : ta (tb_X3_isUnder C) 13 = tr_ifeq 16 20 := rfl
theorem a_X3_isUnder_16 (C : Nat → Sp) : ta (tb_X3_isUnder C) 16 = tr_ic 17 1 := rfl
theorem a_X3_isUnder_17 (C : Nat → Sp) : ta (tb_X3_isUnder C) 17 = tr_goto 21 := rfl
theorem a_X3_isUnder_20 (C : Nat → Sp) : ta (tb_X3_isUnder C) 20 = tr_ic 21 0 := rfl
theorem a_X3_isUnder_21 (C : Nat → Sp) : ta (tb_X3_isUnder C) 21 = tr_zret := rfl

def tb_X4_init_0 (C : Nat → Sp) : Tab := [(0, tr_aload 1 0), (1, tr_obj 4), (4, tr_aload 5 0), (5, tr_ic 7 40), (7, tr_anew 10 5023007 40 40), (10, tr_putR 13 5 400), (13, tr_ret)]
set_option maxRecDepth 20000 in
theorem tbk_X4_init_0 {D : DD} {d : Nat} {C : Nat → Sp} (hC : Snd D d C) : ∀ e ∈ tb_X4_init_0 C, TrOk D (d + 1) mi_X4_init e.1 e.2 :=
  tk_c (show TrOk D (d + 1) mi_X4_init 0 (tr_aload 1 0) from ok_aload_n (show decode mi_X4_init.2.1 0 = .ok (.aload_n 0, 1) from by decide +kernel) rfl) <|
  tk_c (show TrOk D (d + 1) mi_X4_init 1 (tr_obj 4) from ok_obj (show decode mi_X4_init.2.1 1 = .ok (.invokespecial 3, 3) from by decide +kernel) (gm 57 (by decide +kernel) rfl) (gm 50 (by decide +kernel) rfl) (gm 51 rfl rfl)) <|
  tk_c (show TrOk D (d + 1) mi_X4_init 4 (tr_aload 5 0) from ok_aload_n (show decode mi_X4_init.2.1 4 = .ok (.aload_n 0, 1) from by decide +kernel) rfl) <|
  tk_c (show TrOk D (d + 1) mi_X4_init 5 (tr_ic 7 40) from ok_bipush (show decode mi_X4_init.2.1 5 = .ok (.bipush 40, 2) from by decide +kernel) rfl) <|
  tk_c (show TrOk D (d + 1) mi_X4_init 7 (tr_anew 10 5023007 40 40) from ok_anew (t := 5) (show decode mi_X4_init.2.1 7 = .ok (.anewarray 9, 3) from by decide +kernel) (by decide) (by decide) (gm 58 (by decide +kernel) rfl) (by decide) (by decide) (by decide) (by decide)) <|
  tk_c (show TrOk D (d + 1) mi_X4_init 10 (tr_putR 13 5 400) from ok_putR (ci := 4) (k := 0) (show decode mi_X4_init.2.1 10 = .ok (.putfield 11, 3) from by decide +kernel) rfl (by decide) (gm 60 (by decide +kernel) rfl) rfl (Or.inr ⟨rfl, rfl, rfl⟩)) <|
  tk_c (show TrOk D (d + 1) mi_X4_init 13 (tr_ret) from ok_ret (show decode mi_X4_init.2.1 13 = .ok (.return_, 1) from by decide +kernel) rfl) <|
  tk_n
def tb_X4_init (C : Nat → Sp) : Tab := tb_X4_init_0 C
theorem tbk_X4_init {D : DD} {d : Nat} {C : Nat → Sp} (hC : Snd D d C) : ∀ e ∈ tb_X4_init C, TrOk D (d + 1) mi_X4_init e.1 e.2 := tbk_X4_init_0 hC
theorem a_X4_init_0 (C : Nat → Sp) : ta (tb_X4_init C) 0 = tr_aload 1 0 := rfl
theorem a_X4_init_1 (C : Nat → Sp) : ta (tb_X4_init C) 1 = tr_obj 4 := rfl
theorem a_X4_init_4 (C : Nat → Sp) : ta (tb_X4_init C) 4 = tr_aload 5 0 := rfl
theorem a_X4_init_5 (C : Nat → Sp) : ta (tb_X4_init C) 5 = tr_ic 7 40 := rfl
theorem a_X4_init_7 (C : Nat → Sp) : ta (tb_X4_init C) 7 = tr_anew 10 5023007 40 40 := rfl
theorem a_X4_init_10 (C : Nat → Sp) : ta (tb_X4_init C) 10 = tr_putR 13 5 400 := rfl
theorem a_X4_init_13 (C : Nat → Sp) : ta (tb_X4_init C) 13 = tr_ret := rfl

def tb_X4_find_0 (C : Nat → Sp) : Tab := [(0, tr_iload 1 1), (1, tr_iflt 4 21), (4, tr_iload 5 1), (5, tr_aload 6 0), (6, tr_getI 9 5 401), (9, tr_icge 12 21), (12, tr_aload 13 0), (13, tr_getR 16 5 400), (16, tr_iload 17 1), (17, tr_aald 18 5), (18, tr_goto 22), (21, tr_null 22), (22, tr_aret)]
set_option maxRecDepth 20000 in
theorem tbk_X4_find_0 {D : DD} {d : Nat} {C : Nat → Sp} (hC : Snd D d C) : ∀ e ∈ tb_X4_find_0 C, TrOk D (d + 1) mi_X4_find e.1 e.2 :=
  tk_c (show TrOk D (d + 1) mi_X4_find 0 (tr_iload 1 1) from ok_iload_n (show decode mi_X4_find.2.1 0 = .ok (.iload_n 1, 1) from by decide +kernel) rfl) <|
  tk_c (show TrOk D (d + 1) mi_X4_find 1 (tr_iflt 4 21) from ok_iflt (show decode mi_X4_find.2.1 1 = .ok (.ifCond .lt 20, 3) from by decide +kernel) (by decide)) <|
  tk_c (show TrOk D (d + 1) mi_X4_find 4 (tr_iload 5 1) from ok_iload_n (show decode mi_X4_find.2.1 4 = .ok (.iload_n 1, 1) from by decide +kernel) rfl) <|
  tk_c (show TrOk D (d + 1) mi_X4_find 5 (tr_aload 6 0) from ok_aload_n (show decode mi_X4_find.2.1 5 = .ok (.aload_n 0, 1) from by decide +kernel) rfl) <|
  tk_c (show TrOk D (d + 1) mi_X4_find 6 (tr_getI 9 5 401) from ok_getI (ci := 4) (k := 1) (show decode mi_X4_find.2.1 6 = .ok (.getfield 17, 3) from by decide +kernel) rfl (by decide) (gm 61 (by decide +kernel) rfl) rfl) <|
  tk_c (show TrOk D (d + 1) mi_X4_find 9 (tr_icge 12 21) from ok_icge (show decode mi_X4_find.2.1 9 = .ok (.if_icmp .ge 12, 3) from by decide +kernel) (by decide)) <|
  tk_c (show TrOk D (d + 1) mi_X4_find 12 (tr_aload 13 0) from ok_aload_n (show decode mi_X4_find.2.1 12 = .ok (.aload_n 0, 1) from by decide +kernel) rfl) <|
  tk_c (show TrOk D (d + 1) mi_X4_find 13 (tr_getR 16 5 400) from ok_getR (ci := 4) (k := 0) (show decode mi_X4_find.2.1 13 = .ok (.getfield 11, 3) from by decide +kernel) rfl (by decide) (gm 60 (by decide +kernel) rfl) rfl) <|
  tk_c (show TrOk D (d + 1) mi_X4_find 16 (tr_iload 17 1) from ok_iload_n (show decode mi_X4_find.2.1 16 = .ok (.iload_n 1, 1) from by decide +kernel) rfl) <|
  tk_c (show TrOk D (d + 1) mi_X4_find 17 (tr_aald 18 5) from ok_aald (by decide) (by decide) (show decode mi_X4_find.2.1 17 = .ok (.aaload, 1) from by decide +kernel)) <|
  tk_c (show TrOk D (d + 1) mi_X4_find 18 (tr_goto 22) from ok_goto (show decode mi_X4_find.2.1 18 = .ok (.goto 4, 3) from by decide +kernel) (by decide)) <|
  tk_c (show TrOk D (d + 1) mi_X4_find 21 (tr_null 22) from ok_null (show decode mi_X4_find.2.1 21 = .ok (.aconst_null, 1) from by decide +kernel)) <|
  tk_c (show TrOk D (d + 1) mi_X4_find 22 (tr_aret) from ok_aret (show decode mi_X4_find.2.1 22 = .ok (.areturn, 1) from by decide +kernel) rfl) <|
  tk_n
def tb_X4_find (C : Nat → Sp) : Tab := tb_X4_find_0 C
theorem tbk_X4_find {D : DD} {d : Nat} {C : Nat → Sp} (hC : Snd D d C) : ∀ e ∈ tb_X4_find C, TrOk D (d + 1) mi_X4_find e.1 e.2 := tbk_X4_find_0 hC
theorem a_X4_find_0 (C : Nat → Sp) : ta (tb_X4_find C) 0 = tr_iload 1 1 := rfl
theorem a_X4_find_1 (C : Nat → Sp) : ta (tb_X4_find C) 1 = tr_iflt 4 21 := rfl
theorem a_X4_find_4 (C : Nat → Sp) : ta (tb_X4_find C) 4 = tr_iload 5 1 := rfl
theorem a_X4_find_5 (C : Nat → Sp) : ta (tb_X4_find C) 5 = tr_aload 6 0 := rfl
theorem a_X4_find_6 (C : Nat → Sp) : ta (tb_X4_find C) 6 = tr_getI 9 5 401 := rfl
theorem a_X4_find_9 (C : Nat → Sp) : ta (tb_X4_find C) 9 = tr_icge 12 21 := rfl
theorem a_X4_find_12 (C : Nat → Sp) : ta (tb_X4_find C) 12 = tr_aload 13 0 := rfl
theorem a_X4_find_13 (C : Nat → Sp) : ta (tb_X4_find C) 13 = tr_getR 16 5 400 := rfl
theorem a_X4_find_16 (C : Nat → Sp) : ta (tb_X4_find C) 16 = tr_iload 17 1 := rfl
theorem a_X4_find_17 (C : Nat → Sp) : ta (tb_X4_find C) 17 = tr_aald 18 5 := rfl
theorem a_X4_find_18 (C : Nat → Sp) : ta (tb_X4_find C) 18 = tr_goto 22 := rfl
theorem a_X4_find_21 (C : Nat → Sp) : ta (tb_X4_find C) 21 = tr_null 22 := rfl
theorem a_X4_find_22 (C : Nat → Sp) : ta (tb_X4_find C) 22 = tr_aret := rfl

def tb_X4_add_0 (C : Nat → Sp) : Tab := [(0, tr_aload 1 0), (1, tr_getI 4 5 401), (4, tr_ic 6 40), (6, tr_iclt 9 12), (9, tr_ic 11 (-3)), (11, tr_iret), (12, tr_aload 13 0), (13, tr_getR 16 5 400), (16, tr_aload 17 0), (17, tr_getI 20 5 401), (20, tr_new 23 4 4), (23, tr_dup 24), (24, tr_aload 25 0), (25, tr_getI 28 5 401), (28, tr_aload 29 1), (29, tr_callI (C 21) 32 2), (32, tr_aast 33 5), (33, tr_aload 34 0), (34, tr_dup 35), (35, tr_getI 38 5 401), (38, tr_ic 39 1), (39, tr_iadd 40), (40, tr_putI 43 5 401), (43, tr_aload 44 0), (44, tr_getI 47 5 401), (47, tr_ic 48 1), (48, tr_isub 49), (49, tr_iret)]
set_option maxRecDepth 20000 in
theorem tbk_X4_add_0 {D : DD} {d : Nat} {C : Nat → Sp} (hC : Snd D d C) : ∀ e ∈ tb_X4_add_0 C, TrOk D (d + 1) mi_X4_add e.1 e.2 :=
  tk_c (show TrOk D (d + 1) mi_X4_add 0 (tr_aload 1 0) from ok_aload_n (show decode mi_X4_add.2.1 0 = .ok (.aload_n 0, 1) from by decide +kernel) rfl) <|
  tk_c (show TrOk D (d + 1) mi_X4_add 1 (tr_getI 4 5 401) from ok_getI (ci := 4) (k := 1) (show decode mi_X4_add.2.1 1 = .ok (.getfield 17, 3) from by decide +kernel) rfl (by decide) (gm 61 (by decide +kernel) rfl) rfl) <|
  tk_c (show TrOk D (d + 1) mi_X4_add 4 (tr_ic 6 40) from ok_bipush (show decode mi_X4_add.2.1 4 = .ok (.bipush 40, 2) from by decide +kernel) rfl) <|
  tk_c (show TrOk D (d + 1) mi_X4_add 6 (tr_iclt 9 12) from ok_iclt (show decode mi_X4_add.2.1 6 = .ok (.if_icmp .lt 6, 3) from by decide +kernel) (by decide)) <|
  tk_c (show TrOk D (d + 1) mi_X4_add 9 (tr_ic 11 (-3)) from ok_bipush (show decode mi_X4_add.2.1 9 = .ok (.bipush (-3), 2) from by decide +kernel) rfl) <|
  tk_c (show TrOk D (d + 1) mi_X4_add 11 (tr_iret) from ok_iret (show decode mi_X4_add.2.1 11 = .ok (.ireturn, 1) from by decide +kernel) rfl) <|
  tk_c (show TrOk D (d + 1) mi_X4_add 12 (tr_aload 13 0) from ok_aload_n (show decode mi_X4_add.2.1 12 = .ok (.aload_n 0, 1) from by decide +kernel) rfl) <|
  tk_c (show TrOk D (d + 1) mi_X4_add 13 (tr_getR 16 5 400) from ok_getR (ci := 4) (k := 0) (show decode mi_X4_add.2.1 13 = .ok (.getfield 11, 3) from by decide +kernel) rfl (by decide) (gm 60 (by decide +kernel) rfl) rfl) <|
  tk_c (show TrOk D (d + 1) mi_X4_add 16 (tr_aload 17 0) from ok_aload_n (show decode mi_X4_add.2.1 16 = .ok (.aload_n 0, 1) from by decide +kernel) rfl) <|
  tk_c (show TrOk D (d + 1) mi_X4_add 17 (tr_getI 20 5 401) from ok_getI (ci := 4) (k := 1) (show decode mi_X4_add.2.1 17 = .ok (.getfield 17, 3) from by decide +kernel) rfl (by decide) (gm 61 (by decide +kernel) rfl) rfl) <|
  tk_c (show TrOk D (d + 1) mi_X4_add 20 (tr_new 23 4 4) from ok_new (ci := 3) (show decode mi_X4_add.2.1 20 = .ok (.new 9, 3) from by decide +kernel) rfl (gm 58 (by decide +kernel) rfl) (gm 317 (by decide +kernel) rfl) (gm 40 (by decide +kernel) rfl)) <|
  tk_c (show TrOk D (d + 1) mi_X4_add 23 (tr_dup 24) from ok_dup (show decode mi_X4_add.2.1 23 = .ok (.dup, 1) from by decide +kernel)) <|
  tk_c (show TrOk D (d + 1) mi_X4_add 24 (tr_aload 25 0) from ok_aload_n (show decode mi_X4_add.2.1 24 = .ok (.aload_n 0, 1) from by decide +kernel) rfl) <|
  tk_c (show TrOk D (d + 1) mi_X4_add 25 (tr_getI 28 5 401) from ok_getI (ci := 4) (k := 1) (show decode mi_X4_add.2.1 25 = .ok (.getfield 17, 3) from by decide +kernel) rfl (by decide) (gm 61 (by decide +kernel) rfl) rfl) <|
  tk_c (show TrOk D (d + 1) mi_X4_add 28 (tr_aload 29 1) from ok_aload_n (show decode mi_X4_add.2.1 28 = .ok (.aload_n 1, 1) from by decide +kernel) rfl) <|
  tk_c (show TrOk D (d + 1) mi_X4_add 29 (tr_callI (C 21) 32 2) from ok_callI (show decode mi_X4_add.2.1 29 = .ok (.invokespecial 21, 3) from by decide +kernel) mok_X3_init rfl rfl (gm 318 (by decide +kernel) rfl) (gm 319 (by decide +kernel) rfl) (hC 21)) <|
  tk_c (show TrOk D (d + 1) mi_X4_add 32 (tr_aast 33 5) from ok_aast (by decide) (by decide) (show decode mi_X4_add.2.1 32 = .ok (.aastore, 1) from by decide +kernel)) <|
  tk_c (show TrOk D (d + 1) mi_X4_add 33 (tr_aload 34 0) from ok_aload_n (show decode mi_X4_add.2.1 33 = .ok (.aload_n 0, 1) from by decide +kernel) rfl) <|
  tk_c (show TrOk D (d + 1) mi_X4_add 34 (tr_dup 35) from ok_dup (show decode mi_X4_add.2.1 34 = .ok (.dup, 1) from by decide +kernel)) <|
  tk_c (show TrOk D (d + 1) mi_X4_add 35 (tr_getI 38 5 401) from ok_getI (ci := 4) (k := 1) (show decode mi_X4_add.2.1 35 = .ok (.getfield 17, 3) from by decide +kernel) rfl (by decide) (gm 61 (by decide +kernel) rfl) rfl) <|
  tk_c (show TrOk D (d + 1) mi_X4_add 38 (tr_ic 39 1) from ok_iconst (show decode mi_X4_add.2.1 38 = .ok (.iconst 1, 1) from by decide +kernel) rfl) <|
  tk_c (show TrOk D (d + 1) mi_X4_add 39 (tr_iadd 40) from ok_iadd (show decode mi_X4_add.2.1 39 = .ok (.iadd, 1) from by decide +kernel)) <|
  tk_c (show TrOk D (d + 1) mi_X4_add 40 (tr_putI 43 5 401) from ok_putI (ci := 4) (k := 1) (show decode mi_X4_add.2.1 40 = .ok (.putfield 17, 3) from by decide +kernel) rfl (by decide) (gm 61 (by decide +kernel) rfl) rfl (Or.inl rfl)) <|
  tk_c (show TrOk D (d + 1) mi_X4_add 43 (tr_aload 44 0) from ok_aload_n (show decode mi_X4_add.2.1 43 = .ok (.aload_n 0, 1) from by decide +kernel) rfl) <|
  tk_c (show TrOk D (d + 1) mi_X4_add 44 (tr_getI 47 5 401) from ok_getI (ci := 4) (k := 1) (show decode mi_X4_add.2.1 44 = .ok (.getfield 17, 3) from by decide +kernel) rfl (by decide) (gm 61 (by decide +kernel) rfl) rfl) <|
  tk_c (show TrOk D (d + 1) mi_X4_add 47 (tr_ic 48 1) from ok_iconst (show decode mi_X4_add.2.1 47 = .ok (.iconst 1, 1) from by decide +kernel) rfl) <|
  tk_c (show TrOk D (d + 1) mi_X4_add 48 (tr_isub 49) from ok_isub (show decode mi_X4_add.2.1 48 = .ok (.isub, 1) from by decide +kernel)) <|
  tk_c (show TrOk D (d + 1) mi_X4_add 49 (tr_iret) from ok_iret (show decode mi_X4_add.2.1 49 = .ok (.ireturn, 1) from by decide +kernel) rfl) <|
  tk_n
def tb_X4_add (C : Nat → Sp) : Tab := tb_X4_add_0 C
theorem tbk_X4_add {D : DD} {d : Nat} {C : Nat → Sp} (hC : Snd D d C) : ∀ e ∈ tb_X4_add C, TrOk D (d + 1) mi_X4_add e.1 e.2 := tbk_X4_add_0 hC
theorem a_X4_add_0 (C : Nat → Sp) : ta (tb_X4_add C) 0 = tr_aload 1 0 := rfl
theorem a_X4_add_1 (C : Nat → Sp) : ta (tb_X4_add C) 1 = tr_getI 4 5 401 := rfl
theorem a_X4_add_4 (C : Nat → Sp) : ta (tb_X4_add C) 4 = tr_ic 6 40 := rfl
theorem a_X4_add_6 (C : Nat → Sp) : ta (tb_X4_add C) 6 = tr_iclt 9 12 := rfl
theorem a_X4_add_9 (C : Nat → Sp) : ta (tb_X4_add C) 9 = tr_ic 11 (-3) := rfl
theorem a_X4_add_11 (C : Nat → Sp) : ta (tb_X4_add C) 11 = tr_iret := rfl
theorem a_X4_add_12 (C : Nat → Sp) : ta (tb_X4_add C) 12 = tr_aload 13 0 := rfl
theorem a_X4_add_13 (C : Nat → Sp) : ta (tb_X4_add C) 13 = tr_getR 16 5 400 := rfl
theorem a_X4_add_16 (C : Nat → Sp) : ta (tb_X4_add C) 16 = tr_aload 17 0 := rfl
theorem a_X4_add_17 (C : Nat → Sp) : ta (tb_X4_add C) 17 = tr_getI 20 5 401 := rfl
theorem a_X4_add_20 (C : Nat → Sp) : ta (tb_X4_add C) 20 = tr_new 23 4 4 := rfl
theorem a_X4_add_23 (C : Nat → Sp) : ta (tb_X4_add C) 23 = tr_dup 24 := rfl
theorem a_X4_add_24 (C : Nat → Sp) : ta (tb_X4_add C) 24 = tr_aload 25 0 := rfl
theorem a_X4_add_25 (C : Nat → Sp) : ta (tb_X4_add C) 25 = tr_getI 28 5 401 := rfl
theorem a_X4_add_28 (C : Nat → Sp) : ta (tb_X4_add C) 28 = tr_aload 29 1 := rfl
theorem a_X4_add_29 (C : Nat → Sp) : ta (tb_X4_add C) 29 = tr_callI (C 21) 32 2 := rfl
theorem a_X4_add_32 (C : Nat → Sp) : ta (tb_X4_add C) 32 = tr_aast 33 5 := rfl
theorem a_X4_add_33 (C : Nat → Sp) : ta (tb_X4_add C) 33 = tr_aload 34 0 := rfl
theorem a_X4_add_34 (C : Nat → Sp) : ta (tb_X4_add C) 34 = tr_dup 35 := rfl
theorem a_X4_add_35 (C : Nat → Sp) : ta (tb_X4_add C) 35 = tr_getI 38 5 401 := rfl
theorem a_X4_add_38 (C : Nat → Sp) : ta (tb_X4_add C) 38 = tr_ic 39 1 := rfl
theorem a_X4_add_39 (C : Nat → Sp) : ta (tb_X4_add C) 39 = tr_iadd 40 := rfl
theorem a_X4_add_40 (C : Nat → Sp) : ta (tb_X4_add C) 40 = tr_putI 43 5 401 := rfl
theorem a_X4_add_43 (C : Nat → Sp) : ta (tb_X4_add C) 43 = tr_aload 44 0 := rfl
theorem a_X4_add_44 (C : Nat → Sp) : ta (tb_X4_add C) 44 = tr_getI 47 5 401 := rfl
theorem a_X4_add_47 (C : Nat → Sp) : ta (tb_X4_add C) 47 = tr_ic 48 1 := rfl
theorem a_X4_add_48 (C : Nat → Sp) : ta (tb_X4_add C) 48 = tr_isub 49 := rfl
theorem a_X4_add_49 (C : Nat → Sp) : ta (tb_X4_add C) 49 = tr_iret := rfl

def tb_X5_init_0 (C : Nat → Sp) : Tab := [(0, tr_aload 1 0), (1, tr_obj 4), (4, tr_aload 5 0), (5, tr_new 8 7 3), (8, tr_dup 9), (9, tr_callI (C 30) 12 0), (12, tr_putR 15 6 505), (15, tr_aload 16 0), (16, tr_lc 19 (-9223372036854775808)), (19, tr_putL 22 6 506), (22, tr_aload 23 0), (23, tr_lc 26 9223372036854775807), (26, tr_putL 29 6 507), (29, tr_aload 30 0), (30, tr_ic 31 1), (31, tr_putZ 34 6 509), (34, tr_aload 35 0), (35, tr_iload 36 1), (36, tr_putI 39 6 500), (39, tr_aload 40 0), (40, tr_aload 41 2), (41, tr_putR 44 6 501), (44, tr_aload 45 0), (45, tr_iload 46 3), (46, tr_putI 49 6 502), (49, tr_aload 50 0), (50, tr_iload 52 4), (52, tr_putI 55 6 503), (55, tr_aload 56 0), (56, tr_iload 58 5), (58, tr_putI 61 6 504), (61, tr_ret)]
set_option maxRecDepth 20000 in
theorem tbk_X5_init_0 {D : DD} {d : Nat} {C : Nat → Sp} (hC : Snd D d C) : ∀ e ∈ tb_X5_init_0 C, TrOk D (d + 1) mi_X5_init e.1 e.2 :=
  tk_c (show TrOk D (d + 1) mi_X5_init 0 (tr_aload 1 0) from ok_aload_n (show decode mi_X5_init.2.1 0 = .ok (.aload_n 0, 1) from by decide +kernel) rfl) <|
  tk_c (show TrOk D (d + 1) mi_X5_init 1 (tr_obj 4) from ok_obj (show decode mi_X5_init.2.1 1 = .ok (.invokespecial 1, 3) from by decide +kernel) (gm 389 (by decide +kernel) rfl) (gm 50 (by decide +kernel) rfl) (gm 51 rfl rfl)) <|
  tk_c (show TrOk D (d + 1) mi_X5_init 4 (tr_aload 5 0) from ok_aload_n (show decode mi_X5_init.2.1 4 = .ok (.aload_n 0, 1) from by decide +kernel) rfl) <|
  tk_c (show TrOk D (d + 1) mi_X5_init 5 (tr_new 8 7 3) from ok_new (ci := 6) (show decode mi_X5_init.2.1 5 = .ok (.new 7, 3) from by decide +kernel) rfl (gm 390 (by decide +kernel) rfl) (gm 391 (by decide +kernel) rfl) (gm 42 (by decide +kernel) rfl)) <|
  tk_c (show TrOk D (d + 1) mi_X5_init 8 (tr_dup 9) from ok_dup (show decode mi_X5_init.2.1 8 = .ok (.dup, 1) from by decide +kernel)) <|
  tk_c (show TrOk D (d + 1) mi_X5_init 9 (tr_callI (C 30) 12 0) from ok_callIN (host := "ShowDesk") (show decode mi_X5_init.2.1 9 = .ok (.invokespecial 9, 3) from by decide +kernel) mok_X6_init rfl rfl (by decide +kernel) (gm 393 (by decide +kernel) rfl) (hC 30)) <|
  tk_c (show TrOk D (d + 1) mi_X5_init 12 (tr_putR 15 6 505) from ok_putR (ci := 5) (k := 5) (show decode mi_X5_init.2.1 12 = .ok (.putfield 10, 3) from by decide +kernel) rfl (by decide) (gm 428 (by decide +kernel) rfl) rfl (Or.inr ⟨rfl, rfl, rfl⟩)) <|
  tk_c (show TrOk D (d + 1) mi_X5_init 15 (tr_aload 16 0) from ok_aload_n (show decode mi_X5_init.2.1 15 = .ok (.aload_n 0, 1) from by decide +kernel) rfl) <|
  tk_c (show TrOk D (d + 1) mi_X5_init 16 (tr_lc 19 (-9223372036854775808)) from ok_ldc2 (show decode mi_X5_init.2.1 16 = .ok (.ldc2_w 18, 3) from by decide +kernel) (gm 410 (by decide +kernel) rfl)) <|
  tk_c (show TrOk D (d + 1) mi_X5_init 19 (tr_putL 22 6 506) from ok_putL (ci := 5) (k := 6) (show decode mi_X5_init.2.1 19 = .ok (.putfield 20, 3) from by decide +kernel) rfl (by decide) (gm 432 (by decide +kernel) rfl) rfl (Or.inl rfl)) <|
  tk_c (show TrOk D (d + 1) mi_X5_init 22 (tr_aload 23 0) from ok_aload_n (show decode mi_X5_init.2.1 22 = .ok (.aload_n 0, 1) from by decide +kernel) rfl) <|
  tk_c (show TrOk D (d + 1) mi_X5_init 23 (tr_lc 26 9223372036854775807) from ok_ldc2 (show decode mi_X5_init.2.1 23 = .ok (.ldc2_w 24, 3) from by decide +kernel) (gm 411 (by decide +kernel) rfl)) <|
  tk_c (show TrOk D (d + 1) mi_X5_init 26 (tr_putL 29 6 507) from ok_putL (ci := 5) (k := 7) (show decode mi_X5_init.2.1 26 = .ok (.putfield 26, 3) from by decide +kernel) rfl (by decide) (gm 435 (by decide +kernel) rfl) rfl (Or.inl rfl)) <|
  tk_c (show TrOk D (d + 1) mi_X5_init 29 (tr_aload 30 0) from ok_aload_n (show decode mi_X5_init.2.1 29 = .ok (.aload_n 0, 1) from by decide +kernel) rfl) <|
  tk_c (show TrOk D (d + 1) mi_X5_init 30 (tr_ic 31 1) from ok_iconst (show decode mi_X5_init.2.1 30 = .ok (.iconst 1, 1) from by decide +kernel) rfl) <|
  tk_c (show TrOk D (d + 1) mi_X5_init 31 (tr_putZ 34 6 509) from ok_putZ (ci := 5) (k := 9) (show decode mi_X5_init.2.1 31 = .ok (.putfield 29, 3) from by decide +kernel) rfl (by decide) (gm 441 (by decide +kernel) rfl) rfl (Or.inl rfl)) <|
  tk_c (show TrOk D (d + 1) mi_X5_init 34 (tr_aload 35 0) from ok_aload_n (show decode mi_X5_init.2.1 34 = .ok (.aload_n 0, 1) from by decide +kernel) rfl) <|
  tk_c (show TrOk D (d + 1) mi_X5_init 35 (tr_iload 36 1) from ok_iload_n (show decode mi_X5_init.2.1 35 = .ok (.iload_n 1, 1) from by decide +kernel) rfl) <|
  tk_c (show TrOk D (d + 1) mi_X5_init 36 (tr_putI 39 6 500) from ok_putI (ci := 5) (k := 0) (show decode mi_X5_init.2.1 36 = .ok (.putfield 33, 3) from by decide +kernel) rfl (by decide) (gm 412 (by decide +kernel) rfl) rfl (Or.inr ⟨rfl, rfl, rfl⟩)) <|
  tk_c (show TrOk D (d + 1) mi_X5_init 39 (tr_aload 40 0) from ok_aload_n (show decode mi_X5_init.2.1 39 = .ok (.aload_n 0, 1) from by decide +kernel) rfl) <|
  tk_c (show TrOk D (d + 1) mi_X5_init 40 (tr_aload 41 2) from ok_aload_n (show decode mi_X5_init.2.1 40 = .ok (.aload_n 2, 1) from by decide +kernel) rfl) <|
  tk_c (show TrOk D (d + 1) mi_X5_init 41 (tr_putR 44 6 501) from ok_putR (ci := 5) (k := 1) (show decode mi_X5_init.2.1 41 = .ok (.putfield 37, 3) from by decide +kernel) rfl (by decide) (gm 416 (by decide +kernel) rfl) rfl (Or.inr ⟨rfl, rfl, rfl⟩)) <|
  tk_c (show TrOk D (d + 1) mi_X5_init 44 (tr_aload 45 0) from ok_aload_n (show decode mi_X5_init.2.1 44 = .ok (.aload_n 0, 1) from by decide +kernel) rfl) <|
  tk_c (show TrOk D (d + 1) mi_X5_init 45 (tr_iload 46 3) from ok_iload_n (show decode mi_X5_init.2.1 45 = .ok (.iload_n 3, 1) from by decide +kernel) rfl) <|
  tk_c (show TrOk D (d + 1) mi_X5_init 46 (tr_putI 49 6 502) from ok_putI (ci := 5) (k := 2) (show decode mi_X5_init.2.1 46 = .ok (.putfield 41, 3) from by decide +kernel) rfl (by decide) (gm 419 (by decide +kernel) rfl) rfl (Or.inr ⟨rfl, rfl, rfl⟩)) <|
  tk_c (show TrOk D (d + 1) mi_X5_init 49 (tr_aload 50 0) from ok_aload_n (show decode mi_X5_init.2.1 49 = .ok (.aload_n 0, 1) from by decide +kernel) rfl) <|
  tk_c (show TrOk D (d + 1) mi_X5_init 50 (tr_iload 52 4) from ok_iload (show decode mi_X5_init.2.1 50 = .ok (.iload 4, 2) from by decide +kernel)) <|
  tk_c (show TrOk D (d + 1) mi_X5_init 52 (tr_putI 55 6 503) from ok_putI (ci := 5) (k := 3) (show decode mi_X5_init.2.1 52 = .ok (.putfield 44, 3) from by decide +kernel) rfl (by decide) (gm 422 (by decide +kernel) rfl) rfl (Or.inr ⟨rfl, rfl, rfl⟩)) <|
  tk_c (show TrOk D (d + 1) mi_X5_init 55 (tr_aload 56 0) from ok_aload_n (show decode mi_X5_init.2.1 55 = .ok (.aload_n 0, 1) from by decide +kernel) rfl) <|
  tk_c (show TrOk D (d + 1) mi_X5_init 56 (tr_iload 58 5) from ok_iload (show decode mi_X5_init.2.1 56 = .ok (.iload 5, 2) from by decide +kernel)) <|
  tk_c (show TrOk D (d + 1) mi_X5_init 58 (tr_putI 61 6 504) from ok_putI (ci := 5) (k := 4) (show decode mi_X5_init.2.1 58 = .ok (.putfield 47, 3) from by decide +kernel) rfl (by decide) (gm 425 (by decide +kernel) rfl) rfl (Or.inr ⟨rfl, rfl, rfl⟩)) <|
  tk_c (show TrOk D (d + 1) mi_X5_init 61 (tr_ret) from ok_ret (show decode mi_X5_init.2.1 61 = .ok (.return_, 1) from by decide +kernel) rfl) <|
  tk_n
def tb_X5_init (C : Nat → Sp) : Tab := tb_X5_init_0 C
theorem tbk_X5_init {D : DD} {d : Nat} {C : Nat → Sp} (hC : Snd D d C) : ∀ e ∈ tb_X5_init C, TrOk D (d + 1) mi_X5_init e.1 e.2 := tbk_X5_init_0 hC
theorem a_X5_init_0 (C : Nat → Sp) : ta (tb_X5_init C) 0 = tr_aload 1 0 := rfl
theorem a_X5_init_1 (C : Nat → Sp) : ta (tb_X5_init C) 1 = tr_obj 4 := rfl
theorem a_X5_init_4 (C : Nat → Sp) : ta (tb_X5_init C) 4 = tr_aload 5 0 := rfl
theorem a_X5_init_5 (C : Nat → Sp) : ta (tb_X5_init C) 5 = tr_new 8 7 3 := rfl
theorem a_X5_init_8 (C : Nat → Sp) : ta (tb_X5_init C) 8 = tr_dup 9 := rfl
theorem a_X5_init_9 (C : Nat → Sp) : ta (tb_X5_init C) 9 = tr_callI (C 30) 12 0 := rfl
theorem a_X5_init_12 (C : Nat → Sp) : ta (tb_X5_init C) 12 = tr_putR 15 6 505 := rfl
theorem a_X5_init_15 (C : Nat → Sp) : ta (tb_X5_init C) 15 = tr_aload 16 0 := rfl
theorem a_X5_init_16 (C : Nat → Sp) : ta (tb_X5_init C) 16 = tr_lc 19 (-9223372036854775808) := rfl
theorem a_X5_init_19 (C : Nat → Sp) : ta (tb_X5_init C) 19 = tr_putL 22 6 506 := rfl
theorem a_X5_init_22 (C : Nat → Sp) : ta (tb_X5_init C) 22 = tr_aload 23 0 := rfl
theorem a_X5_init_23 (C : Nat → Sp) : ta (tb_X5_init C) 23 = tr_lc 26 9223372036854775807 := rfl
theorem a_X5_init_26 (C : Nat → Sp) : ta (tb_X5_init C) 26 = tr_putL 29 6 507 := rfl
theorem a_X5_init_29 (C : Nat → Sp) : ta (tb_X5_init C) 29 = tr_aload 30 0 := rfl
theorem a_X5_init_30 (C : Nat → Sp) : ta (tb_X5_init C) 30 = tr_ic 31 1 := rfl
theorem a_X5_init_31 (C : Nat → Sp) : ta (tb_X5_init C) 31 = tr_putZ 34 6 509 := rfl
theorem a_X5_init_34 (C : Nat → Sp) : ta (tb_X5_init C) 34 = tr_aload 35 0 := rfl
theorem a_X5_init_35 (C : Nat → Sp) : ta (tb_X5_init C) 35 = tr_iload 36 1 := rfl
theorem a_X5_init_36 (C : Nat → Sp) : ta (tb_X5_init C) 36 = tr_putI 39 6 500 := rfl
theorem a_X5_init_39 (C : Nat → Sp) : ta (tb_X5_init C) 39 = tr_aload 40 0 := rfl
theorem a_X5_init_40 (C : Nat → Sp) : ta (tb_X5_init C) 40 = tr_aload 41 2 := rfl
theorem a_X5_init_41 (C : Nat → Sp) : ta (tb_X5_init C) 41 = tr_putR 44 6 501 := rfl
theorem a_X5_init_44 (C : Nat → Sp) : ta (tb_X5_init C) 44 = tr_aload 45 0 := rfl
theorem a_X5_init_45 (C : Nat → Sp) : ta (tb_X5_init C) 45 = tr_iload 46 3 := rfl
theorem a_X5_init_46 (C : Nat → Sp) : ta (tb_X5_init C) 46 = tr_putI 49 6 502 := rfl
theorem a_X5_init_49 (C : Nat → Sp) : ta (tb_X5_init C) 49 = tr_aload 50 0 := rfl
theorem a_X5_init_50 (C : Nat → Sp) : ta (tb_X5_init C) 50 = tr_iload 52 4 := rfl
theorem a_X5_init_52 (C : Nat → Sp) : ta (tb_X5_init C) 52 = tr_putI 55 6 503 := rfl
theorem a_X5_init_55 (C : Nat → Sp) : ta (tb_X5_init C) 55 = tr_aload 56 0 := rfl
theorem a_X5_init_56 (C : Nat → Sp) : ta (tb_X5_init C) 56 = tr_iload 58 5 := rfl
theorem a_X5_init_58 (C : Nat → Sp) : ta (tb_X5_init C) 58 = tr_putI 61 6 504 := rfl
theorem a_X5_init_61 (C : Nat → Sp) : ta (tb_X5_init C) 61 = tr_ret := rfl

def tb_X5_hears_0 (C : Nat → Sp) : Tab := [(0, tr_aload 1 0), (1, tr_getI 4 6 509), (4, tr_ifeq 7 22), (7, tr_aload 8 1), (8, tr_aload 9 0), (9, tr_getR 12 6 501), (12, tr_callV (C 22) 15 4 1), (15, tr_ifeq 18 22), (18, tr_ic 19 1), (19, tr_goto 23), (22, tr_ic 23 0), (23, tr_zret)]
set_option maxRecDepth 20000 in
theorem tbk_X5_hears_0 {D : DD} {d : Nat} {C : Nat → Sp} (hC : Snd D d C) : ∀ e ∈ tb_X5_hears_0 C, TrOk D (d + 1) mi_X5_hears e.1 e.2 :=
  tk_c (show TrOk D (d + 1) mi_X5_hears 0 (tr_aload 1 0) from ok_aload_n (show decode mi_X5_hears.2.1 0 = .ok (.aload_n 0, 1) from by decide +kernel) rfl) <|
  tk_c (show TrOk D (d + 1) mi_X5_hears 1 (tr_getI 4 6 509) from ok_getI (ci := 5) (k := 9) (show decode mi_X5_hears.2.1 1 = .ok (.getfield 29, 3) from by decide +kernel) rfl (by decide) (gm 441 (by decide +kernel) rfl) rfl) <|
  tk_c (show TrOk D (d + 1) mi_X5_hears 4 (tr_ifeq 7 22) from ok_ifeq (show decode mi_X5_hears.2.1 4 = .ok (.ifCond .eq 18, 3) from by decide +kernel) (by decide)) <|
  tk_c (show TrOk D (d + 1) mi_X5_hears 7 (tr_aload 8 1) from ok_aload_n (show decode mi_X5_hears.2.1 7 = .ok (.aload_n 1, 1) from by decide +kernel) rfl) <|
  tk_c (show TrOk D (d + 1) mi_X5_hears 8 (tr_aload 9 0) from ok_aload_n (show decode mi_X5_hears.2.1 8 = .ok (.aload_n 0, 1) from by decide +kernel) rfl) <|
  tk_c (show TrOk D (d + 1) mi_X5_hears 9 (tr_getR 12 6 501) from ok_getR (ci := 5) (k := 1) (show decode mi_X5_hears.2.1 9 = .ok (.getfield 37, 3) from by decide +kernel) rfl (by decide) (gm 416 (by decide +kernel) rfl) rfl) <|
  tk_c (show TrOk D (d + 1) mi_X5_hears 12 (tr_callV (C 22) 15 4 1) from ok_callV (ci := 3) (show decode mi_X5_hears.2.1 12 = .ok (.invokevirtual 50, 3) from by decide +kernel) mok_X3_isUnder rfl rfl (gm 603 (by decide +kernel) rfl) (gm 604 (by decide +kernel) rfl) (gm 605 (by decide +kernel) rfl) (hC 22)) <|
  tk_c (show TrOk D (d + 1) mi_X5_hears 15 (tr_ifeq 18 22) from ok_ifeq (show decode mi_X5_hears.2.1 15 = .ok (.ifCond .eq 7, 3) from by decide +kernel) (by decide)) <|
  tk_c (show TrOk D (d + 1) mi_X5_hears 18 (tr_ic 19 1) from ok_iconst (show decode mi_X5_hears.2.1 18 = .ok (.iconst 1, 1) from by decide +kernel) rfl) <|
  tk_c (show TrOk D (d + 1) mi_X5_hears 19 (tr_goto 23) from ok_goto (show decode mi_X5_hears.2.1 19 = .ok (.goto 4, 3) from by decide +kernel) (by decide)) <|
  tk_c (show TrOk D (d + 1) mi_X5_hears 22 (tr_ic 23 0) from ok_iconst (show decode mi_X5_hears.2.1 22 = .ok (.iconst 0, 1) from by decide +kernel) rfl) <|
  tk_c (show TrOk D (d + 1) mi_X5_hears 23 (tr_zret) from ok_zret (show decode mi_X5_hears.2.1 23 = .ok (.ireturn, 1) from by decide +kernel) rfl) <|
  tk_n
def tb_X5_hears (C : Nat → Sp) : Tab := tb_X5_hears_0 C
theorem tbk_X5_hears {D : DD} {d : Nat} {C : Nat → Sp} (hC : Snd D d C) : ∀ e ∈ tb_X5_hears C, TrOk D (d + 1) mi_X5_hears e.1 e.2 := tbk_X5_hears_0 hC
theorem a_X5_hears_0 (C : Nat → Sp) : ta (tb_X5_hears C) 0 = tr_aload 1 0 := rfl
theorem a_X5_hears_1 (C : Nat → Sp) : ta (tb_X5_hears C) 1 = tr_getI 4 6 509 := rfl
theorem a_X5_hears_4 (C : Nat → Sp) : ta (tb_X5_hears C) 4 = tr_ifeq 7 22 := rfl
theorem a_X5_hears_7 (C : Nat → Sp) : ta (tb_X5_hears C) 7 = tr_aload 8 1 := rfl
theorem a_X5_hears_8 (C : Nat → Sp) : ta (tb_X5_hears C) 8 = tr_aload 9 0 := rfl
theorem a_X5_hears_9 (C : Nat → Sp) : ta (tb_X5_hears C) 9 = tr_getR 12 6 501 := rfl
theorem a_X5_hears_12 (C : Nat → Sp) : ta (tb_X5_hears C) 12 = tr_callV (C 22) 15 4 1 := rfl
theorem a_X5_hears_15 (C : Nat → Sp) : ta (tb_X5_hears C) 15 = tr_ifeq 18 22 := rfl
theorem a_X5_hears_18 (C : Nat → Sp) : ta (tb_X5_hears C) 18 = tr_ic 19 1 := rfl
theorem a_X5_hears_19 (C : Nat → Sp) : ta (tb_X5_hears C) 19 = tr_goto 23 := rfl
theorem a_X5_hears_22 (C : Nat → Sp) : ta (tb_X5_hears C) 22 = tr_ic 23 0 := rfl
theorem a_X5_hears_23 (C : Nat → Sp) : ta (tb_X5_hears C) 23 = tr_zret := rfl

def tb_X5_lets_0 (C : Nat → Sp) : Tab := [(0, tr_aload 1 0), (1, tr_getL 4 6 506), (4, tr_lload 5 1), (5, tr_lcmp 6), (6, tr_ifgt 9 22), (9, tr_lload 10 1), (10, tr_aload 11 0), (11, tr_getL 14 6 507), (14, tr_lcmp 15), (15, tr_ifgt 18 22), (18, tr_ic 19 1), (19, tr_goto 23), (22, tr_ic 23 0), (23, tr_zret)]
set_option maxRecDepth 20000 in
theorem tbk_X5_lets_0 {D : DD} {d : Nat} {C : Nat → Sp} (hC : Snd D d C) : ∀ e ∈ tb_X5_lets_0 C, TrOk D (d + 1) mi_X5_lets e.1 e.2 :=
  tk_c (show TrOk D (d + 1) mi_X5_lets 0 (tr_aload 1 0) from ok_aload_n (show decode mi_X5_lets.2.1 0 = .ok (.aload_n 0, 1) from by decide +kernel) rfl) <|
  tk_c (show TrOk D (d + 1) mi_X5_lets 1 (tr_getL 4 6 506) from ok_getL (ci := 5) (k := 6) (show decode mi_X5_lets.2.1 1 = .ok (.getfield 20, 3) from by decide +kernel) rfl (by decide) (gm 432 (by decide +kernel) rfl) rfl) <|
  tk_c (show TrOk D (d + 1) mi_X5_lets 4 (tr_lload 5 1) from ok_lload_n (show decode mi_X5_lets.2.1 4 = .ok (.lload_n 1, 1) from by decide +kernel) rfl) <|
  tk_c (show TrOk D (d + 1) mi_X5_lets 5 (tr_lcmp 6) from ok_lcmp (show decode mi_X5_lets.2.1 5 = .ok (.lcmp, 1) from by decide +kernel)) <|
  tk_c (show TrOk D (d + 1) mi_X5_lets 6 (tr_ifgt 9 22) from ok_ifgt (show decode mi_X5_lets.2.1 6 = .ok (.ifCond .gt 16, 3) from by decide +kernel) (by decide)) <|
  tk_c (show TrOk D (d + 1) mi_X5_lets 9 (tr_lload 10 1) from ok_lload_n (show decode mi_X5_lets.2.1 9 = .ok (.lload_n 1, 1) from by decide +kernel) rfl) <|
  tk_c (show TrOk D (d + 1) mi_X5_lets 10 (tr_aload 11 0) from ok_aload_n (show decode mi_X5_lets.2.1 10 = .ok (.aload_n 0, 1) from by decide +kernel) rfl) <|
  tk_c (show TrOk D (d + 1) mi_X5_lets 11 (tr_getL 14 6 507) from ok_getL (ci := 5) (k := 7) (show decode mi_X5_lets.2.1 11 = .ok (.getfield 26, 3) from by decide +kernel) rfl (by decide) (gm 435 (by decide +kernel) rfl) rfl) <|
  tk_c (show TrOk D (d + 1) mi_X5_lets 14 (tr_lcmp 15) from ok_lcmp (show decode mi_X5_lets.2.1 14 = .ok (.lcmp, 1) from by decide +kernel)) <|
  tk_c (show TrOk D (d + 1) mi_X5_lets 15 (tr_ifgt 18 22) from ok_ifgt (show decode mi_X5_lets.2.1 15 = .ok (.ifCond .gt 7, 3) from by decide +kernel) (by decide)) <|
  tk_c (show TrOk D (d + 1) mi_X5_lets 18 (tr_ic 19 1) from ok_iconst (show decode mi_X5_lets.2.1 18 = .ok (.iconst 1, 1) from by decide +kernel) rfl) <|
  tk_c (show TrOk D (d + 1) mi_X5_lets 19 (tr_goto 23) from ok_goto (show decode mi_X5_lets.2.1 19 = .ok (.goto 4, 3) from by decide +kernel) (by decide)) <|
  tk_c (show TrOk D (d + 1) mi_X5_lets 22 (tr_ic 23 0) from ok_iconst (show decode mi_X5_lets.2.1 22 = .ok (.iconst 0, 1) from by decide +kernel) rfl) <|
  tk_c (show TrOk D (d + 1) mi_X5_lets 23 (tr_zret) from ok_zret (show decode mi_X5_lets.2.1 23 = .ok (.ireturn, 1) from by decide +kernel) rfl) <|
  tk_n
def tb_X5_lets (C : Nat → Sp) : Tab := tb_X5_lets_0 C
theorem tbk_X5_lets {D : DD} {d : Nat} {C : Nat → Sp} (hC : Snd D d C) : ∀ e ∈ tb_X5_lets C, TrOk D (d + 1) mi_X5_lets e.1 e.2 := tbk_X5_lets_0 hC
theorem a_X5_lets_0 (C : Nat → Sp) : ta (tb_X5_lets C) 0 = tr_aload 1 0 := rfl
theorem a_X5_lets_1 (C : Nat → Sp) : ta (tb_X5_lets C) 1 = tr_getL 4 6 506 := rfl
theorem a_X5_lets_4 (C : Nat → Sp) : ta (tb_X5_lets C) 4 = tr_lload 5 1 := rfl
theorem a_X5_lets_5 (C : Nat → Sp) : ta (tb_X5_lets C) 5 = tr_lcmp 6 := rfl
theorem a_X5_lets_6 (C : Nat → Sp) : ta (tb_X5_lets C) 6 = tr_ifgt 9 22 := rfl
theorem a_X5_lets_9 (C : Nat → Sp) : ta (tb_X5_lets C) 9 = tr_lload 10 1 := rfl
theorem a_X5_lets_10 (C : Nat → Sp) : ta (tb_X5_lets C) 10 = tr_aload 11 0 := rfl
theorem a_X5_lets_11 (C : Nat → Sp) : ta (tb_X5_lets C) 11 = tr_getL 14 6 507 := rfl
theorem a_X5_lets_14 (C : Nat → Sp) : ta (tb_X5_lets C) 14 = tr_lcmp 15 := rfl
theorem a_X5_lets_15 (C : Nat → Sp) : ta (tb_X5_lets C) 15 = tr_ifgt 18 22 := rfl
theorem a_X5_lets_18 (C : Nat → Sp) : ta (tb_X5_lets C) 18 = tr_ic 19 1 := rfl
theorem a_X5_lets_19 (C : Nat → Sp) : ta (tb_X5_lets C) 19 = tr_goto 23 := rfl
theorem a_X5_lets_22 (C : Nat → Sp) : ta (tb_X5_lets C) 22 = tr_ic 23 0 := rfl
theorem a_X5_lets_23 (C : Nat → Sp) : ta (tb_X5_lets C) 23 = tr_zret := rfl

def tb_X5_isAheadOf_0 (C : Nat → Sp) : Tab := [(0, tr_aload 1 0), (1, tr_getI 4 6 503), (4, tr_aload 5 1), (5, tr_getI 8 6 503), (8, tr_iceq 11 28), (11, tr_aload 12 0), (12, tr_getI 15 6 503), (15, tr_aload 16 1), (16, tr_getI 19 6 503), (19, tr_icle 22 26), (22, tr_ic 23 1), (23, tr_goto 27), (26, tr_ic 27 0), (27, tr_zret), (28, tr_aload 29 0), (29, tr_getR 32 6 501), (32, tr_getI 35 4 301), (35, tr_aload 36 1), (36, tr_getR 39 6 501), (39, tr_getI 42 4 301), (42, tr_icle 45 49), (45, tr_ic 46 1), (46, tr_goto 50), (49, tr_ic 50 0), (50, tr_zret)]
set_option maxRecDepth 20000 in
theorem tbk_X5_isAheadOf_0 {D : DD} {d : Nat} {C : Nat → Sp} (hC : Snd D d C) : ∀ e ∈ tb_X5_isAheadOf_0 C, TrOk D (d + 1) mi_X5_isAheadOf e.1 e.2 :=
  tk_c (show TrOk D (d + 1) mi_X5_isAheadOf 0 (tr_aload 1 0) from ok_aload_n (show decode mi_X5_isAheadOf.2.1 0 = .ok (.aload_n 0, 1) from by decide +kernel) rfl) <|
  tk_c (show TrOk D (d + 1) mi_X5_isAheadOf 1 (tr_getI 4 6 503) from ok_getI (ci := 5) (k := 3) (show decode mi_X5_isAheadOf.2.1 1 = .ok (.getfield 44, 3) from by decide +kernel) rfl (by decide) (gm 422 (by decide +kernel) rfl) rfl) <|
  tk_c (show TrOk D (d + 1) mi_X5_isAheadOf 4 (tr_aload 5 1) from ok_aload_n (show decode mi_X5_isAheadOf.2.1 4 = .ok (.aload_n 1, 1) from by decide +kernel) rfl) <|
  tk_c (show TrOk D (d + 1) mi_X5_isAheadOf 5 (tr_getI 8 6 503) from ok_getI (ci := 5) (k := 3) (show decode mi_X5_isAheadOf.2.1 5 = .ok (.getfield 44, 3) from by decide +kernel) rfl (by decide) (gm 422 (by decide +kernel) rfl) rfl) <|
  tk_c (show TrOk D (d + 1) mi_X5_isAheadOf 8 (tr_iceq 11 28) from ok_iceq (show decode mi_X5_isAheadOf.2.1 8 = .ok (.if_icmp .eq 20, 3) from by decide +kernel) (by decide)) <|
  tk_c (show TrOk D (d + 1) mi_X5_isAheadOf 11 (tr_aload 12 0) from ok_aload_n (show decode mi_X5_isAheadOf.2.1 11 = .ok (.aload_n 0, 1) from by decide +kernel) rfl) <|
  tk_c (show TrOk D (d + 1) mi_X5_isAheadOf 12 (tr_getI 15 6 503) from ok_getI (ci := 5) (k := 3) (show decode mi_X5_isAheadOf.2.1 12 = .ok (.getfield 44, 3) from by decide +kernel) rfl (by decide) (gm 422 (by decide +kernel) rfl) rfl) <|
  tk_c (show TrOk D (d + 1) mi_X5_isAheadOf 15 (tr_aload 16 1) from ok_aload_n (show decode mi_X5_isAheadOf.2.1 15 = .ok (.aload_n 1, 1) from by decide +kernel) rfl) <|
  tk_c (show TrOk D (d + 1) mi_X5_isAheadOf 16 (tr_getI 19 6 503) from ok_getI (ci := 5) (k := 3) (show decode mi_X5_isAheadOf.2.1 16 = .ok (.getfield 44, 3) from by decide +kernel) rfl (by decide) (gm 422 (by decide +kernel) rfl) rfl) <|
  tk_c (show TrOk D (d + 1) mi_X5_isAheadOf 19 (tr_icle 22 26) from ok_icle (show decode mi_X5_isAheadOf.2.1 19 = .ok (.if_icmp .le 7, 3) from by decide +kernel) (by decide)) <|
  tk_c (show TrOk D (d + 1) mi_X5_isAheadOf 22 (tr_ic 23 1) from ok_iconst (show decode mi_X5_isAheadOf.2.1 22 = .ok (.iconst 1, 1) from by decide +kernel) rfl) <|
  tk_c (show TrOk D (d + 1) mi_X5_isAheadOf 23 (tr_goto 27) from ok_goto (show decode mi_X5_isAheadOf.2.1 23 = .ok (.goto 4, 3) from by decide +kernel) (by decide)) <|
  tk_c (show TrOk D (d + 1) mi_X5_isAheadOf 26 (tr_ic 27 0) from ok_iconst (show decode mi_X5_isAheadOf.2.1 26 = .ok (.iconst 0, 1) from by decide +kernel) rfl) <|
  tk_c (show TrOk D (d + 1) mi_X5_isAheadOf 27 (tr_zret) from ok_zret (show decode mi_X5_isAheadOf.2.1 27 = .ok (.ireturn, 1) from by decide +kernel) rfl) <|
  tk_c (show TrOk D (d + 1) mi_X5_isAheadOf 28 (tr_aload 29 0) from ok_aload_n (show decode mi_X5_isAheadOf.2.1 28 = .ok (.aload_n 0, 1) from by decide +kernel) rfl) <|
  tk_c (show TrOk D (d + 1) mi_X5_isAheadOf 29 (tr_getR 32 6 501) from ok_getR (ci := 5) (k := 1) (show decode mi_X5_isAheadOf.2.1 29 = .ok (.getfield 37, 3) from by decide +kernel) rfl (by decide) (gm 416 (by decide +kernel) rfl) rfl) <|
  tk_c (show TrOk D (d + 1) mi_X5_isAheadOf 32 (tr_getI 35 4 301) from ok_getI (ci := 3) (k := 1) (show decode mi_X5_isAheadOf.2.1 32 = .ok (.getfield 56, 3) from by decide +kernel) rfl (by decide) (gm 326 (by decide +kernel) rfl) rfl) <|
  tk_c (show TrOk D (d + 1) mi_X5_isAheadOf 35 (tr_aload 36 1) from ok_aload_n (show decode mi_X5_isAheadOf.2.1 35 = .ok (.aload_n 1, 1) from by decide +kernel) rfl) <|
  tk_c (show TrOk D (d + 1) mi_X5_isAheadOf 36 (tr_getR 39 6 501) from ok_getR (ci := 5) (k := 1) (show decode mi_X5_isAheadOf.2.1 36 = .ok (.getfield 37, 3) from by decide +kernel) rfl (by decide) (gm 416 (by decide +kernel) rfl) rfl) <|
  tk_c (show TrOk D (d + 1) mi_X5_isAheadOf 39 (tr_getI 42 4 301) from ok_getI (ci := 3) (k := 1) (show decode mi_X5_isAheadOf.2.1 39 = .ok (.getfield 56, 3) from by decide +kernel) rfl (by decide) (gm 326 (by decide +kernel) rfl) rfl) <|
  tk_c (show TrOk D (d + 1) mi_X5_isAheadOf 42 (tr_icle 45 49) from ok_icle (show decode mi_X5_isAheadOf.2.1 42 = .ok (.if_icmp .le 7, 3) from by decide +kernel) (by decide)) <|
  tk_c (show TrOk D (d + 1) mi_X5_isAheadOf 45 (tr_ic 46 1) from ok_iconst (show decode mi_X5_isAheadOf.2.1 45 = .ok (.iconst 1, 1) from by decide +kernel) rfl) <|
  tk_c (show TrOk D (d + 1) mi_X5_isAheadOf 46 (tr_goto 50) from ok_goto (show decode mi_X5_isAheadOf.2.1 46 = .ok (.goto 4, 3) from by decide +kernel) (by decide)) <|
  tk_c (show TrOk D (d + 1) mi_X5_isAheadOf 49 (tr_ic 50 0) from ok_iconst (show decode mi_X5_isAheadOf.2.1 49 = .ok (.iconst 0, 1) from by decide +kernel) rfl) <|
  tk_c (show TrOk D (d + 1) mi_X5_isAheadOf 50 (tr_zret) from ok_zret (show decode mi_X5_isAheadOf.2.1 50 = .ok (.ireturn, 1) from by decide +kernel) rfl) <|
  tk_n
def tb_X5_isAheadOf (C : Nat → Sp) : Tab := tb_X5_isAheadOf_0 C
theorem tbk_X5_isAheadOf {D : DD} {d : Nat} {C : Nat → Sp} (hC : Snd D d C) : ∀ e ∈ tb_X5_isAheadOf C, TrOk D (d + 1) mi_X5_isAheadOf e.1 e.2 := tbk_X5_isAheadOf_0 hC
theorem a_X5_isAheadOf_0 (C : Nat → Sp) : ta (tb_X5_isAheadOf C) 0 = tr_aload 1 0 := rfl
theorem a_X5_isAheadOf_1 (C : Nat → Sp) : ta (tb_X5_isAheadOf C) 1 = tr_getI 4 6 503 := rfl
theorem a_X5_isAheadOf_4 (C : Nat → Sp) : ta (tb_X5_isAheadOf C) 4 = tr_aload 5 1 := rfl
theorem a_X5_isAheadOf_5 (C : Nat → Sp) : ta (tb_X5_isAheadOf C) 5 = tr_getI 8 6 503 := rfl
theorem a_X5_isAheadOf_8 (C : Nat → Sp) : ta (tb_X5_isAheadOf C) 8 = tr_iceq 11 28 := rfl
theorem a_X5_isAheadOf_11 (C : Nat → Sp) : ta (tb_X5_isAheadOf C) 11 = tr_aload 12 0 := rfl
theorem a_X5_isAheadOf_12 (C : Nat → Sp) : ta (tb_X5_isAheadOf C) 12 = tr_getI 15 6 503 := rfl
theorem a_X5_isAheadOf_15 (C : Nat → Sp) : ta (tb_X5_isAheadOf C) 15 = tr_aload 16 1 := rfl
theorem a_X5_isAheadOf_16 (C : Nat → Sp) : ta (tb_X5_isAheadOf C) 16 = tr_getI 19 6 503 := rfl
theorem a_X5_isAheadOf_19 (C : Nat → Sp) : ta (tb_X5_isAheadOf C) 19 = tr_icle 22 26 := rfl
theorem a_X5_isAheadOf_22 (C : Nat → Sp) : ta (tb_X5_isAheadOf C) 22 = tr_ic 23 1 := rfl
theorem a_X5_isAheadOf_23 (C : Nat → Sp) : ta (tb_X5_isAheadOf C) 23 = tr_goto 27 := rfl
theorem a_X5_isAheadOf_26 (C : Nat → Sp) : ta (tb_X5_isAheadOf C) 26 = tr_ic 27 0 := rfl
theorem a_X5_isAheadOf_27 (C : Nat → Sp) : ta (tb_X5_isAheadOf C) 27 = tr_zret := rfl
theorem a_X5_isAheadOf_28 (C : Nat → Sp) : ta (tb_X5_isAheadOf C) 28 = tr_aload 29 0 := rfl
theorem a_X5_isAheadOf_29 (C : Nat → Sp) : ta (tb_X5_isAheadOf C) 29 = tr_getR 32 6 501 := rfl
theorem a_X5_isAheadOf_32 (C : Nat → Sp) : ta (tb_X5_isAheadOf C) 32 = tr_getI 35 4 301 := rfl
theorem a_X5_isAheadOf_35 (C : Nat → Sp) : ta (tb_X5_isAheadOf C) 35 = tr_aload 36 1 := rfl
theorem a_X5_isAheadOf_36 (C : Nat → Sp) : ta (tb_X5_isAheadOf C) 36 = tr_getR 39 6 501 := rfl
theorem a_X5_isAheadOf_39 (C : Nat → Sp) : ta (tb_X5_isAheadOf C) 39 = tr_getI 42 4 301 := rfl
theorem a_X5_isAheadOf_42 (C : Nat → Sp) : ta (tb_X5_isAheadOf C) 42 = tr_icle 45 49 := rfl
theorem a_X5_isAheadOf_45 (C : Nat → Sp) : ta (tb_X5_isAheadOf C) 45 = tr_ic 46 1 := rfl
theorem a_X5_isAheadOf_46 (C : Nat → Sp) : ta (tb_X5_isAheadOf C) 46 = tr_goto 50 := rfl
theorem a_X5_isAheadOf_49 (C : Nat → Sp) : ta (tb_X5_isAheadOf C) 49 = tr_ic 50 0 := rfl
theorem a_X5_isAheadOf_50 (C : Nat → Sp) : ta (tb_X5_isAheadOf C) 50 = tr_zret := rfl

def tb_X6_init_0 (C : Nat → Sp) : Tab := [(0, tr_aload 1 0), (1, tr_obj 4), (4, tr_aload 5 0), (5, tr_ic 7 10), (7, tr_newa 9 1030007 10 10), (9, tr_putR 12 7 600), (12, tr_aload 13 0), (13, tr_ic 15 10), (15, tr_newa 17 1030015 10 10), (17, tr_putR 20 7 601), (20, tr_ret)]
set_option maxRecDepth 20000 in
theorem tbk_X6_init_0 {D : DD} {d : Nat} {C : Nat → Sp} (hC : Snd D d C) : ∀ e ∈ tb_X6_init_0 C, TrOk D (d + 1) mi_X6_init e.1 e.2 :=
  tk_c (show TrOk D (d + 1) mi_X6_init 0 (tr_aload 1 0) from ok_aload_n (show decode mi_X6_init.2.1 0 = .ok (.aload_n 0, 1) from by decide +kernel) rfl) <|
  tk_c (show TrOk D (d + 1) mi_X6_init 1 (tr_obj 4) from ok_obj (show decode mi_X6_init.2.1 1 = .ok (.invokespecial 3, 3) from by decide +kernel) (gm 395 (by decide +kernel) rfl) (gm 50 (by decide +kernel) rfl) (gm 51 rfl rfl)) <|
  tk_c (show TrOk D (d + 1) mi_X6_init 4 (tr_aload 5 0) from ok_aload_n (show decode mi_X6_init.2.1 4 = .ok (.aload_n 0, 1) from by decide +kernel) rfl) <|
  tk_c (show TrOk D (d + 1) mi_X6_init 5 (tr_ic 7 10) from ok_bipush (show decode mi_X6_init.2.1 5 = .ok (.bipush 10, 2) from by decide +kernel) rfl) <|
  tk_c (show TrOk D (d + 1) mi_X6_init 7 (tr_newa 9 1030007 10 10) from ok_newa (t := 1) (show decode mi_X6_init.2.1 7 = .ok (.newarray .int, 2) from by decide +kernel) rfl (by decide) (gm 187 (by decide +kernel) rfl) (by decide) (by decide) (by decide) (by decide)) <|
  tk_c (show TrOk D (d + 1) mi_X6_init 9 (tr_putR 12 7 600) from ok_putR (ci := 6) (k := 0) (show decode mi_X6_init.2.1 9 = .ok (.putfield 9, 3) from by decide +kernel) rfl (by decide) (gm 396 (by decide +kernel) rfl) rfl (Or.inr ⟨rfl, rfl, rfl⟩)) <|
  tk_c (show TrOk D (d + 1) mi_X6_init 12 (tr_aload 13 0) from ok_aload_n (show decode mi_X6_init.2.1 12 = .ok (.aload_n 0, 1) from by decide +kernel) rfl) <|
  tk_c (show TrOk D (d + 1) mi_X6_init 13 (tr_ic 15 10) from ok_bipush (show decode mi_X6_init.2.1 13 = .ok (.bipush 10, 2) from by decide +kernel) rfl) <|
  tk_c (show TrOk D (d + 1) mi_X6_init 15 (tr_newa 17 1030015 10 10) from ok_newa (t := 1) (show decode mi_X6_init.2.1 15 = .ok (.newarray .int, 2) from by decide +kernel) rfl (by decide) (gm 187 (by decide +kernel) rfl) (by decide) (by decide) (by decide) (by decide)) <|
  tk_c (show TrOk D (d + 1) mi_X6_init 17 (tr_putR 20 7 601) from ok_putR (ci := 6) (k := 1) (show decode mi_X6_init.2.1 17 = .ok (.putfield 15, 3) from by decide +kernel) rfl (by decide) (gm 398 (by decide +kernel) rfl) rfl (Or.inr ⟨rfl, rfl, rfl⟩)) <|
  tk_c (show TrOk D (d + 1) mi_X6_init 20 (tr_ret) from ok_ret (show decode mi_X6_init.2.1 20 = .ok (.return_, 1) from by decide +kernel) rfl) <|
  tk_n
def tb_X6_init (C : Nat → Sp) : Tab := tb_X6_init_0 C
theorem tbk_X6_init {D : DD} {d : Nat} {C : Nat → Sp} (hC : Snd D d C) : ∀ e ∈ tb_X6_init C, TrOk D (d + 1) mi_X6_init e.1 e.2 := tbk_X6_init_0 hC
theorem a_X6_init_0 (C : Nat → Sp) : ta (tb_X6_init C) 0 = tr_aload 1 0 := rfl
theorem a_X6_init_1 (C : Nat → Sp) : ta (tb_X6_init C) 1 = tr_obj 4 := rfl
theorem a_X6_init_4 (C : Nat → Sp) : ta (tb_X6_init C) 4 = tr_aload 5 0 := rfl
theorem a_X6_init_5 (C : Nat → Sp) : ta (tb_X6_init C) 5 = tr_ic 7 10 := rfl
theorem a_X6_init_7 (C : Nat → Sp) : ta (tb_X6_init C) 7 = tr_newa 9 1030007 10 10 := rfl
theorem a_X6_init_9 (C : Nat → Sp) : ta (tb_X6_init C) 9 = tr_putR 12 7 600 := rfl
theorem a_X6_init_12 (C : Nat → Sp) : ta (tb_X6_init C) 12 = tr_aload 13 0 := rfl
theorem a_X6_init_13 (C : Nat → Sp) : ta (tb_X6_init C) 13 = tr_ic 15 10 := rfl
theorem a_X6_init_15 (C : Nat → Sp) : ta (tb_X6_init C) 15 = tr_newa 17 1030015 10 10 := rfl
theorem a_X6_init_17 (C : Nat → Sp) : ta (tb_X6_init C) 17 = tr_putR 20 7 601 := rfl
theorem a_X6_init_20 (C : Nat → Sp) : ta (tb_X6_init C) 20 = tr_ret := rfl

def tb_X6_isFull_0 (C : Nat → Sp) : Tab := [(0, tr_aload 1 0), (1, tr_getI 4 7 602), (4, tr_ic 6 10), (6, tr_iclt 9 13), (9, tr_ic 10 1), (10, tr_goto 14), (13, tr_ic 14 0), (14, tr_zret)]
set_option maxRecDepth 20000 in
theorem tbk_X6_isFull_0 {D : DD} {d : Nat} {C : Nat → Sp} (hC : Snd D d C) : ∀ e ∈ tb_X6_isFull_0 C, TrOk D (d + 1) mi_X6_isFull e.1 e.2 :=
  tk_c (show TrOk D (d + 1) mi_X6_isFull 0 (tr_aload 1 0) from ok_aload_n (show decode mi_X6_isFull.2.1 0 = .ok (.aload_n 0, 1) from by decide +kernel) rfl) <|
  tk_c (show TrOk D (d + 1) mi_X6_isFull 1 (tr_getI 4 7 602) from ok_getI (ci := 6) (k := 2) (show decode mi_X6_isFull.2.1 1 = .ok (.getfield 18, 3) from by decide +kernel) rfl (by decide) (gm 400 (by decide +kernel) rfl) rfl) <|
  tk_c (show TrOk D (d + 1) mi_X6_isFull 4 (tr_ic 6 10) from ok_bipush (show decode mi_X6_isFull.2.1 4 = .ok (.bipush 10, 2) from by decide +kernel) rfl) <|
  tk_c (show TrOk D (d + 1) mi_X6_isFull 6 (tr_iclt 9 13) from ok_iclt (show decode mi_X6_isFull.2.1 6 = .ok (.if_icmp .lt 7, 3) from by decide +kernel) (by decide)) <|
  tk_c (show TrOk D (d + 1) mi_X6_isFull 9 (tr_ic 10 1) from ok_iconst (show decode mi_X6_isFull.2.1 9 = .ok (.iconst 1, 1) from by decide +kernel) rfl) <|
  tk_c (show TrOk D (d + 1) mi_X6_isFull 10 (tr_goto 14) from ok_goto (show decode mi_X6_isFull.2.1 10 = .ok (.goto 4, 3) from by decide +kernel) (by decide)) <|
  tk_c (show TrOk D (d + 1) mi_X6_isFull 13 (tr_ic 14 0) from ok_iconst (show decode mi_X6_isFull.2.1 13 = .ok (.iconst 0, 1) from by decide +kernel) rfl) <|
  tk_c (show TrOk D (d + 1) mi_X6_isFull 14 (tr_zret) from ok_zret (show decode mi_X6_isFull.2.1 14 = .ok (.ireturn, 1) from by decide +kernel) rfl) <|
  tk_n
def tb_X6_isFull (C : Nat → Sp) : Tab := tb_X6_isFull_0 C
theorem tbk_X6_isFull {D : DD} {d : Nat} {C : Nat → Sp} (hC : Snd D d C) : ∀ e ∈ tb_X6_isFull C, TrOk D (d + 1) mi_X6_isFull e.1 e.2 := tbk_X6_isFull_0 hC
theorem a_X6_isFull_0 (C : Nat → Sp) : ta (tb_X6_isFull C) 0 = tr_aload 1 0 := rfl
theorem a_X6_isFull_1 (C : Nat → Sp) : ta (tb_X6_isFull C) 1 = tr_getI 4 7 602 := rfl
theorem a_X6_isFull_4 (C : Nat → Sp) : ta (tb_X6_isFull C) 4 = tr_ic 6 10 := rfl
theorem a_X6_isFull_6 (C : Nat → Sp) : ta (tb_X6_isFull C) 6 = tr_iclt 9 13 := rfl
theorem a_X6_isFull_9 (C : Nat → Sp) : ta (tb_X6_isFull C) 9 = tr_ic 10 1 := rfl
theorem a_X6_isFull_10 (C : Nat → Sp) : ta (tb_X6_isFull C) 10 = tr_goto 14 := rfl
theorem a_X6_isFull_13 (C : Nat → Sp) : ta (tb_X6_isFull C) 13 = tr_ic 14 0 := rfl
theorem a_X6_isFull_14 (C : Nat → Sp) : ta (tb_X6_isFull C) 14 = tr_zret := rfl

def tb_X6_add_0 (C : Nat → Sp) : Tab := [(0, tr_aload 1 0), (1, tr_callV (C 31) 4 7 0), (4, tr_ifeq 7 8), (7, tr_ret), (8, tr_aload 9 0), (9, tr_getR 12 7 600), (12, tr_aload 13 0), (13, tr_getI 16 7 602), (16, tr_iload 17 1), (17, tr_iast 18), (18, tr_aload 19 0), (19, tr_getR 22 7 601), (22, tr_aload 23 0), (23, tr_getI 26 7 602), (26, tr_iload 27 2), (27, tr_iast 28), (28, tr_aload 29 0), (29, tr_dup 30), (30, tr_getI 33 7 602), (33, tr_ic 34 1), (34, tr_iadd 35), (35, tr_putI 38 7 602), (38, tr_ret)]
set_option maxRecDepth 20000 in
theorem tbk_X6_add_0 {D : DD} {d : Nat} {C : Nat → Sp} (hC : Snd D d C) : ∀ e ∈ tb_X6_add_0 C, TrOk D (d + 1) mi_X6_add e.1 e.2 :=
  tk_c (show TrOk D (d + 1) mi_X6_add 0 (tr_aload 1 0) from ok_aload_n (show decode mi_X6_add.2.1 0 = .ok (.aload_n 0, 1) from by decide +kernel) rfl) <|
  tk_c (show TrOk D (d + 1) mi_X6_add 1 (tr_callV (C 31) 4 7 0) from ok_callV (ci := 6) (show decode mi_X6_add.2.1 1 = .ok (.invokevirtual 22, 3) from by decide +kernel) mok_X6_isFull rfl rfl (gm 518 (by decide +kernel) rfl) (gm 511 (by decide +kernel) rfl) (gm 512 (by decide +kernel) rfl) (hC 31)) <|
  tk_c (show TrOk D (d + 1) mi_X6_add 4 (tr_ifeq 7 8) from ok_ifeq (show decode mi_X6_add.2.1 4 = .ok (.ifCond .eq 4, 3) from by decide +kernel) (by decide)) <|
  tk_c (show TrOk D (d + 1) mi_X6_add 7 (tr_ret) from ok_ret (show decode mi_X6_add.2.1 7 = .ok (.return_, 1) from by decide +kernel) rfl) <|
  tk_c (show TrOk D (d + 1) mi_X6_add 8 (tr_aload 9 0) from ok_aload_n (show decode mi_X6_add.2.1 8 = .ok (.aload_n 0, 1) from by decide +kernel) rfl) <|
  tk_c (show TrOk D (d + 1) mi_X6_add 9 (tr_getR 12 7 600) from ok_getR (ci := 6) (k := 0) (show decode mi_X6_add.2.1 9 = .ok (.getfield 9, 3) from by decide +kernel) rfl (by decide) (gm 396 (by decide +kernel) rfl) rfl) <|
  tk_c (show TrOk D (d + 1) mi_X6_add 12 (tr_aload 13 0) from ok_aload_n (show decode mi_X6_add.2.1 12 = .ok (.aload_n 0, 1) from by decide +kernel) rfl) <|
  tk_c (show TrOk D (d + 1) mi_X6_add 13 (tr_getI 16 7 602) from ok_getI (ci := 6) (k := 2) (show decode mi_X6_add.2.1 13 = .ok (.getfield 18, 3) from by decide +kernel) rfl (by decide) (gm 400 (by decide +kernel) rfl) rfl) <|
  tk_c (show TrOk D (d + 1) mi_X6_add 16 (tr_iload 17 1) from ok_iload_n (show decode mi_X6_add.2.1 16 = .ok (.iload_n 1, 1) from by decide +kernel) rfl) <|
  tk_c (show TrOk D (d + 1) mi_X6_add 17 (tr_iast 18) from ok_iast (show decode mi_X6_add.2.1 17 = .ok (.iastore, 1) from by decide +kernel)) <|
  tk_c (show TrOk D (d + 1) mi_X6_add 18 (tr_aload 19 0) from ok_aload_n (show decode mi_X6_add.2.1 18 = .ok (.aload_n 0, 1) from by decide +kernel) rfl) <|
  tk_c (show TrOk D (d + 1) mi_X6_add 19 (tr_getR 22 7 601) from ok_getR (ci := 6) (k := 1) (show decode mi_X6_add.2.1 19 = .ok (.getfield 15, 3) from by decide +kernel) rfl (by decide) (gm 398 (by decide +kernel) rfl) rfl) <|
  tk_c (show TrOk D (d + 1) mi_X6_add 22 (tr_aload 23 0) from ok_aload_n (show decode mi_X6_add.2.1 22 = .ok (.aload_n 0, 1) from by decide +kernel) rfl) <|
  tk_c (show TrOk D (d + 1) mi_X6_add 23 (tr_getI 26 7 602) from ok_getI (ci := 6) (k := 2) (show decode mi_X6_add.2.1 23 = .ok (.getfield 18, 3) from by decide +kernel) rfl (by decide) (gm 400 (by decide +kernel) rfl) rfl) <|
  tk_c (show TrOk D (d + 1) mi_X6_add 26 (tr_iload 27 2) from ok_iload_n (show decode mi_X6_add.2.1 26 = .ok (.iload_n 2, 1) from by decide +kernel) rfl) <|
  tk_c (show TrOk D (d + 1) mi_X6_add 27 (tr_iast 28) from ok_iast (show decode mi_X6_add.2.1 27 = .ok (.iastore, 1) from by decide +kernel)) <|
  tk_c (show TrOk D (d + 1) mi_X6_add 28 (tr_aload 29 0) from ok_aload_n (show decode mi_X6_add.2.1 28 = .ok (.aload_n 0, 1) from by decide +kernel) rfl) <|
  tk_c (show TrOk D (d + 1) mi_X6_add 29 (tr_dup 30) from ok_dup (show decode mi_X6_add.2.1 29 = .ok (.dup, 1) from by decide +kernel)) <|
  tk_c (show TrOk D (d + 1) mi_X6_add 30 (tr_getI 33 7 602) from ok_getI (ci := 6) (k := 2) (show decode mi_X6_add.2.1 30 = .ok (.getfield 18, 3) from by decide +kernel) rfl (by decide) (gm 400 (by decide +kernel) rfl) rfl) <|
  tk_c (show TrOk D (d + 1) mi_X6_add 33 (tr_ic 34 1) from ok_iconst (show decode mi_X6_add.2.1 33 = .ok (.iconst 1, 1) from by decide +kernel) rfl) <|
  tk_c (show TrOk D (d + 1) mi_X6_add 34 (tr_iadd 35) from ok_iadd (show decode mi_X6_add.2.1 34 = .ok (.iadd, 1) from by decide +kernel)) <|
  tk_c (show TrOk D (d + 1) mi_X6_add 35 (tr_putI 38 7 602) from ok_putI (ci := 6) (k := 2) (show decode mi_X6_add.2.1 35 = .ok (.putfield 18, 3) from by decide +kernel) rfl (by decide) (gm 400 (by decide +kernel) rfl) rfl (Or.inl rfl)) <|
  tk_c (show TrOk D (d + 1) mi_X6_add 38 (tr_ret) from ok_ret (show decode mi_X6_add.2.1 38 = .ok (.return_, 1) from by decide +kernel) rfl) <|
  tk_n
def tb_X6_add (C : Nat → Sp) : Tab := tb_X6_add_0 C
theorem tbk_X6_add {D : DD} {d : Nat} {C : Nat → Sp} (hC : Snd D d C) : ∀ e ∈ tb_X6_add C, TrOk D (d + 1) mi_X6_add e.1 e.2 := tbk_X6_add_0 hC
theorem a_X6_add_0 (C : Nat → Sp) : ta (tb_X6_add C) 0 = tr_aload 1 0 := rfl
theorem a_X6_add_1 (C : Nat → Sp) : ta (tb_X6_add C) 1 = tr_callV (C 31) 4 7 0 := rfl
theorem a_X6_add_4 (C : Nat → Sp) : ta (tb_X6_add C) 4 = tr_ifeq 7 8 := rfl
theorem a_X6_add_7 (C : Nat → Sp) : ta (tb_X6_add C) 7 = tr_ret := rfl
theorem a_X6_add_8 (C : Nat → Sp) : ta (tb_X6_add C) 8 = tr_aload 9 0 := rfl
theorem a_X6_add_9 (C : Nat → Sp) : ta (tb_X6_add C) 9 = tr_getR 12 7 600 := rfl
theorem a_X6_add_12 (C : Nat → Sp) : ta (tb_X6_add C) 12 = tr_aload 13 0 := rfl
theorem a_X6_add_13 (C : Nat → Sp) : ta (tb_X6_add C) 13 = tr_getI 16 7 602 := rfl
theorem a_X6_add_16 (C : Nat → Sp) : ta (tb_X6_add C) 16 = tr_iload 17 1 := rfl
theorem a_X6_add_17 (C : Nat → Sp) : ta (tb_X6_add C) 17 = tr_iast 18 := rfl
theorem a_X6_add_18 (C : Nat → Sp) : ta (tb_X6_add C) 18 = tr_aload 19 0 := rfl
theorem a_X6_add_19 (C : Nat → Sp) : ta (tb_X6_add C) 19 = tr_getR 22 7 601 := rfl
theorem a_X6_add_22 (C : Nat → Sp) : ta (tb_X6_add C) 22 = tr_aload 23 0 := rfl
theorem a_X6_add_23 (C : Nat → Sp) : ta (tb_X6_add C) 23 = tr_getI 26 7 602 := rfl
theorem a_X6_add_26 (C : Nat → Sp) : ta (tb_X6_add C) 26 = tr_iload 27 2 := rfl
theorem a_X6_add_27 (C : Nat → Sp) : ta (tb_X6_add C) 27 = tr_iast 28 := rfl
theorem a_X6_add_28 (C : Nat → Sp) : ta (tb_X6_add C) 28 = tr_aload 29 0 := rfl
theorem a_X6_add_29 (C : Nat → Sp) : ta (tb_X6_add C) 29 = tr_dup 30 := rfl
theorem a_X6_add_30 (C : Nat → Sp) : ta (tb_X6_add C) 30 = tr_getI 33 7 602 := rfl
theorem a_X6_add_33 (C : Nat → Sp) : ta (tb_X6_add C) 33 = tr_ic 34 1 := rfl
theorem a_X6_add_34 (C : Nat → Sp) : ta (tb_X6_add C) 34 = tr_iadd 35 := rfl
theorem a_X6_add_35 (C : Nat → Sp) : ta (tb_X6_add C) 35 = tr_putI 38 7 602 := rfl
theorem a_X6_add_38 (C : Nat → Sp) : ta (tb_X6_add C) 38 = tr_ret := rfl

def tb_X6_takeOver_0 (C : Nat → Sp) : Tab := [(0, tr_ic 1 0), (1, tr_istore 2 2), (2, tr_iload 3 2), (3, tr_aload 4 1), (4, tr_getI 7 7 602), (7, tr_icge 10 32), (10, tr_aload 11 0), (11, tr_aload 12 1), (12, tr_getR 15 7 600), (15, tr_iload 16 2), (16, tr_iald 17), (17, tr_aload 18 1), (18, tr_getR 21 7 601), (21, tr_iload 22 2), (22, tr_iald 23), (23, tr_callV (C 32) 26 7 2), (26, tr_iinc 29 2 1), (29, tr_goto 2), (32, tr_ret)]
set_option maxRecDepth 20000 in
theorem tbk_X6_takeOver_0 {D : DD} {d : Nat} {C : Nat → Sp} (hC : Snd D d C) : ∀ e ∈ tb_X6_takeOver_0 C, TrOk D (d + 1) mi_X6_takeOver e.1 e.2 :=
  tk_c (show TrOk D (d + 1) mi_X6_takeOver 0 (tr_ic 1 0) from ok_iconst (show decode mi_X6_takeOver.2.1 0 = .ok (.iconst 0, 1) from by decide +kernel) rfl) <|
  tk_c (show TrOk D (d + 1) mi_X6_takeOver 1 (tr_istore 2 2) from ok_istore_n (show decode mi_X6_takeOver.2.1 1 = .ok (.istore_n 2, 1) from by decide +kernel) rfl (by decide)) <|
  tk_c (show TrOk D (d + 1) mi_X6_takeOver 2 (tr_iload 3 2) from ok_iload_n (show decode mi_X6_takeOver.2.1 2 = .ok (.iload_n 2, 1) from by decide +kernel) rfl) <|
  tk_c (show TrOk D (d + 1) mi_X6_takeOver 3 (tr_aload 4 1) from ok_aload_n (show decode mi_X6_takeOver.2.1 3 = .ok (.aload_n 1, 1) from by decide +kernel) rfl) <|
  tk_c (show TrOk D (d + 1) mi_X6_takeOver 4 (tr_getI 7 7 602) from ok_getI (ci := 6) (k := 2) (show decode mi_X6_takeOver.2.1 4 = .ok (.getfield 18, 3) from by decide +kernel) rfl (by decide) (gm 400 (by decide +kernel) rfl) rfl) <|
  tk_c (show TrOk D (d + 1) mi_X6_takeOver 7 (tr_icge 10 32) from ok_icge (show decode mi_X6_takeOver.2.1 7 = .ok (.if_icmp .ge 25, 3) from by decide +kernel) (by decide)) <|
  tk_c (show TrOk D (d + 1) mi_X6_takeOver 10 (tr_aload 11 0) from ok_aload_n (show decode mi_X6_takeOver.2.1 10 = .ok (.aload_n 0, 1) from by decide +kernel) rfl) <|
  tk_c (show TrOk D (d + 1) mi_X6_takeOver 11 (tr_aload 12 1) from ok_aload_n (show decode mi_X6_takeOver.2.1 11 = .ok (.aload_n 1, 1) from by decide +kernel) rfl) <|
  tk_c (show TrOk D (d + 1) mi_X6_takeOver 12 (tr_getR 15 7 600) from ok_getR (ci := 6) (k := 0) (show decode mi_X6_takeOver.2.1 12 = .ok (.getfield 9, 3) from by decide +kernel) rfl (by decide) (gm 396 (by decide +kernel) rfl) rfl) <|
  tk_c (show TrOk D (d + 1) mi_X6_takeOver 15 (tr_iload 16 2) from ok_iload_n (show decode mi_X6_takeOver.2.1 15 = .ok (.iload_n 2, 1) from by decide +kernel) rfl) <|
  tk_c (show TrOk D (d + 1) mi_X6_takeOver 16 (tr_iald 17) from ok_iald (show decode mi_X6_takeOver.2.1 16 = .ok (.iaload, 1) from by decide +kernel)) <|
  tk_c (show TrOk D (d + 1) mi_X6_takeOver 17 (tr_aload 18 1) from ok_aload_n (show decode mi_X6_takeOver.2.1 17 = .ok (.aload_n 1, 1) from by decide +kernel) rfl) <|
  tk_c (show TrOk D (d + 1) mi_X6_takeOver 18 (tr_getR 21 7 601) from ok_getR (ci := 6) (k := 1) (show decode mi_X6_takeOver.2.1 18 = .ok (.getfield 15, 3) from by decide +kernel) rfl (by decide) (gm 398 (by decide +kernel) rfl) rfl) <|
  tk_c (show TrOk D (d + 1) mi_X6_takeOver 21 (tr_iload 22 2) from ok_iload_n (show decode mi_X6_takeOver.2.1 21 = .ok (.iload_n 2, 1) from by decide +kernel) rfl) <|
  tk_c (show TrOk D (d + 1) mi_X6_takeOver 22 (tr_iald 23) from ok_iald (show decode mi_X6_takeOver.2.1 22 = .ok (.iaload, 1) from by decide +kernel)) <|
  tk_c (show TrOk D (d + 1) mi_X6_takeOver 23 (tr_callV (C 32) 26 7 2) from ok_callV (ci := 6) (show decode mi_X6_takeOver.2.1 23 = .ok (.invokevirtual 26, 3) from by decide +kernel) mok_X6_add rfl rfl (gm 643 (by decide +kernel) rfl) (gm 515 (by decide +kernel) rfl) (gm 516 (by decide +kernel) rfl) (hC 32)) <|
  tk_c (show TrOk D (d + 1) mi_X6_takeOver 26 (tr_iinc 29 2 1) from ok_iinc (show decode mi_X6_takeOver.2.1 26 = .ok (.iinc 2 1, 3) from by decide +kernel) rfl (by decide)) <|
  tk_c (show TrOk D (d + 1) mi_X6_takeOver 29 (tr_goto 2) from ok_goto (show decode mi_X6_takeOver.2.1 29 = .ok (.goto (-27), 3) from by decide +kernel) (by decide)) <|
  tk_c (show TrOk D (d + 1) mi_X6_takeOver 32 (tr_ret) from ok_ret (show decode mi_X6_takeOver.2.1 32 = .ok (.return_, 1) from by decide +kernel) rfl) <|
  tk_n
def tb_X6_takeOver (C : Nat → Sp) : Tab := tb_X6_takeOver_0 C
theorem tbk_X6_takeOver {D : DD} {d : Nat} {C : Nat → Sp} (hC : Snd D d C) : ∀ e ∈ tb_X6_takeOver C, TrOk D (d + 1) mi_X6_takeOver e.1 e.2 := tbk_X6_takeOver_0 hC
theorem a_X6_takeOver_0 (C : Nat → Sp) : ta (tb_X6_takeOver C) 0 = tr_ic 1 0 := rfl
theorem a_X6_takeOver_1 (C : Nat → Sp) : ta (tb_X6_takeOver C) 1 = tr_istore 2 2 := rfl
theorem a_X6_takeOver_2 (C : Nat → Sp) : ta (tb_X6_takeOver C) 2 = tr_iload 3 2 := rfl
theorem a_X6_takeOver_3 (C : Nat → Sp) : ta (tb_X6_takeOver C) 3 = tr_aload 4 1 := rfl
theorem a_X6_takeOver_4 (C : Nat → Sp) : ta (tb_X6_takeOver C) 4 = tr_getI 7 7 602 := rfl
theorem a_X6_takeOver_7 (C : Nat → Sp) : ta (tb_X6_takeOver C) 7 = tr_icge 10 32 := rfl
theorem a_X6_takeOver_10 (C : Nat → Sp) : ta (tb_X6_takeOver C) 10 = tr_aload 11 0 := rfl
theorem a_X6_takeOver_11 (C : Nat → Sp) : ta (tb_X6_takeOver C) 11 = tr_aload 12 1 := rfl
theorem a_X6_takeOver_12 (C : Nat → Sp) : ta (tb_X6_takeOver C) 12 = tr_getR 15 7 600 := rfl
theorem a_X6_takeOver_15 (C : Nat → Sp) : ta (tb_X6_takeOver C) 15 = tr_iload 16 2 := rfl
theorem a_X6_takeOver_16 (C : Nat → Sp) : ta (tb_X6_takeOver C) 16 = tr_iald 17 := rfl
theorem a_X6_takeOver_17 (C : Nat → Sp) : ta (tb_X6_takeOver C) 17 = tr_aload 18 1 := rfl
theorem a_X6_takeOver_18 (C : Nat → Sp) : ta (tb_X6_takeOver C) 18 = tr_getR 21 7 601 := rfl
theorem a_X6_takeOver_21 (C : Nat → Sp) : ta (tb_X6_takeOver C) 21 = tr_iload 22 2 := rfl
theorem a_X6_takeOver_22 (C : Nat → Sp) : ta (tb_X6_takeOver C) 22 = tr_iald 23 := rfl
theorem a_X6_takeOver_23 (C : Nat → Sp) : ta (tb_X6_takeOver C) 23 = tr_callV (C 32) 26 7 2 := rfl
theorem a_X6_takeOver_26 (C : Nat → Sp) : ta (tb_X6_takeOver C) 26 = tr_iinc 29 2 1 := rfl
theorem a_X6_takeOver_29 (C : Nat → Sp) : ta (tb_X6_takeOver C) 29 = tr_goto 2 := rfl
theorem a_X6_takeOver_32 (C : Nat → Sp) : ta (tb_X6_takeOver C) 32 = tr_ret := rfl

def tb_X7_init_0 (C : Nat → Sp) : Tab := [(0, tr_aload 1 0), (1, tr_obj 4), (4, tr_aload 5 0), (5, tr_ic 7 100), (7, tr_newa 9 2034007 100 100), (9, tr_putR 12 8 700), (12, tr_aload 13 0), (13, tr_ic 15 35), (15, tr_newa 17 1034015 35 35), (17, tr_putR 20 8 701), (20, tr_aload 21 0), (21, tr_ic 23 35), (23, tr_newa 25 1034023 35 35), (25, tr_putR 28 8 702), (28, tr_aload 29 0), (29, tr_ic 31 35), (31, tr_newa 33 1034031 35 35), (33, tr_putR 36 8 703), (36, tr_aload 37 0), (37, tr_ic 39 (-4)), (39, tr_putI 42 8 710), (42, tr_ret)]
set_option maxRecDepth 20000 in
theorem tbk_X7_init_0 {D : DD} {d : Nat} {C : Nat → Sp} (hC : Snd D d C) : ∀ e ∈ tb_X7_init_0 C, TrOk D (d + 1) mi_X7_init e.1 e.2 :=
  tk_c (show TrOk D (d + 1) mi_X7_init 0 (tr_aload 1 0) from ok_aload_n (show decode mi_X7_init.2.1 0 = .ok (.aload_n 0, 1) from by decide +kernel) rfl) <|
  tk_c (show TrOk D (d + 1) mi_X7_init 1 (tr_obj 4) from ok_obj (show decode mi_X7_init.2.1 1 = .ok (.invokespecial 3, 3) from by decide +kernel) (gm 133 (by decide +kernel) rfl) (gm 50 (by decide +kernel) rfl) (gm 51 rfl rfl)) <|
  tk_c (show TrOk D (d + 1) mi_X7_init 4 (tr_aload 5 0) from ok_aload_n (show decode mi_X7_init.2.1 4 = .ok (.aload_n 0, 1) from by decide +kernel) rfl) <|
  tk_c (show TrOk D (d + 1) mi_X7_init 5 (tr_ic 7 100) from ok_bipush (show decode mi_X7_init.2.1 5 = .ok (.bipush 100, 2) from by decide +kernel) rfl) <|
  tk_c (show TrOk D (d + 1) mi_X7_init 7 (tr_newa 9 2034007 100 100) from ok_newa (t := 2) (show decode mi_X7_init.2.1 7 = .ok (.newarray .long, 2) from by decide +kernel) rfl (by decide) (gm 127 (by decide +kernel) rfl) (by decide) (by decide) (by decide) (by decide)) <|
  tk_c (show TrOk D (d + 1) mi_X7_init 9 (tr_putR 12 8 700) from ok_putR (ci := 7) (k := 0) (show decode mi_X7_init.2.1 9 = .ok (.putfield 9, 3) from by decide +kernel) rfl (by decide) (gm 134 (by decide +kernel) rfl) rfl (Or.inr ⟨rfl, rfl, rfl⟩)) <|
  tk_c (show TrOk D (d + 1) mi_X7_init 12 (tr_aload 13 0) from ok_aload_n (show decode mi_X7_init.2.1 12 = .ok (.aload_n 0, 1) from by decide +kernel) rfl) <|
  tk_c (show TrOk D (d + 1) mi_X7_init 13 (tr_ic 15 35) from ok_bipush (show decode mi_X7_init.2.1 13 = .ok (.bipush 35, 2) from by decide +kernel) rfl) <|
  tk_c (show TrOk D (d + 1) mi_X7_init 15 (tr_newa 17 1034015 35 35) from ok_newa (t := 1) (show decode mi_X7_init.2.1 15 = .ok (.newarray .int, 2) from by decide +kernel) rfl (by decide) (gm 187 (by decide +kernel) rfl) (by decide) (by decide) (by decide) (by decide)) <|
  tk_c (show TrOk D (d + 1) mi_X7_init 17 (tr_putR 20 8 701) from ok_putR (ci := 7) (k := 1) (show decode mi_X7_init.2.1 17 = .ok (.putfield 15, 3) from by decide +kernel) rfl (by decide) (gm 136 (by decide +kernel) rfl) rfl (Or.inr ⟨rfl, rfl, rfl⟩)) <|
  tk_c (show TrOk D (d + 1) mi_X7_init 20 (tr_aload 21 0) from ok_aload_n (show decode mi_X7_init.2.1 20 = .ok (.aload_n 0, 1) from by decide +kernel) rfl) <|
  tk_c (show TrOk D (d + 1) mi_X7_init 21 (tr_ic 23 35) from ok_bipush (show decode mi_X7_init.2.1 21 = .ok (.bipush 35, 2) from by decide +kernel) rfl) <|
  tk_c (show TrOk D (d + 1) mi_X7_init 23 (tr_newa 25 1034023 35 35) from ok_newa (t := 1) (show decode mi_X7_init.2.1 23 = .ok (.newarray .int, 2) from by decide +kernel) rfl (by decide) (gm 187 (by decide +kernel) rfl) (by decide) (by decide) (by decide) (by decide)) <|
  tk_c (show TrOk D (d + 1) mi_X7_init 25 (tr_putR 28 8 702) from ok_putR (ci := 7) (k := 2) (show decode mi_X7_init.2.1 25 = .ok (.putfield 19, 3) from by decide +kernel) rfl (by decide) (gm 138 (by decide +kernel) rfl) rfl (Or.inr ⟨rfl, rfl, rfl⟩)) <|
  tk_c (show TrOk D (d + 1) mi_X7_init 28 (tr_aload 29 0) from ok_aload_n (show decode mi_X7_init.2.1 28 = .ok (.aload_n 0, 1) from by decide +kernel) rfl) <|
  tk_c (show TrOk D (d + 1) mi_X7_init 29 (tr_ic 31 35) from ok_bipush (show decode mi_X7_init.2.1 29 = .ok (.bipush 35, 2) from by decide +kernel) rfl) <|
  tk_c (show TrOk D (d + 1) mi_X7_init 31 (tr_newa 33 1034031 35 35) from ok_newa (t := 1) (show decode mi_X7_init.2.1 31 = .ok (.newarray .int, 2) from by decide +kernel) rfl (by decide) (gm 187 (by decide +kernel) rfl) (by decide) (by decide) (by decide) (by decide)) <|
  tk_c (show TrOk D (d + 1) mi_X7_init 33 (tr_putR 36 8 703) from ok_putR (ci := 7) (k := 3) (show decode mi_X7_init.2.1 33 = .ok (.putfield 22, 3) from by decide +kernel) rfl (by decide) (gm 140 (by decide +kernel) rfl) rfl (Or.inr ⟨rfl, rfl, rfl⟩)) <|
  tk_c (show TrOk D (d + 1) mi_X7_init 36 (tr_aload 37 0) from ok_aload_n (show decode mi_X7_init.2.1 36 = .ok (.aload_n 0, 1) from by decide +kernel) rfl) <|
  tk_c (show TrOk D (d + 1) mi_X7_init 37 (tr_ic 39 (-4)) from ok_bipush (show decode mi_X7_init.2.1 37 = .ok (.bipush (-4), 2) from by decide +kernel) rfl) <|
  tk_c (show TrOk D (d + 1) mi_X7_init 39 (tr_putI 42 8 710) from ok_putI (ci := 7) (k := 10) (show decode mi_X7_init.2.1 39 = .ok (.putfield 25, 3) from by decide +kernel) rfl (by decide) (gm 157 (by decide +kernel) rfl) rfl (Or.inl rfl)) <|
  tk_c (show TrOk D (d + 1) mi_X7_init 42 (tr_ret) from ok_ret (show decode mi_X7_init.2.1 42 = .ok (.return_, 1) from by decide +kernel) rfl) <|
  tk_n
def tb_X7_init (C : Nat → Sp) : Tab := tb_X7_init_0 C
theorem tbk_X7_init {D : DD} {d : Nat} {C : Nat → Sp} (hC : Snd D d C) : ∀ e ∈ tb_X7_init C, TrOk D (d + 1) mi_X7_init e.1 e.2 := tbk_X7_init_0 hC
theorem a_X7_init_0 (C : Nat → Sp) : ta (tb_X7_init C) 0 = tr_aload 1 0 := rfl
theorem a_X7_init_1 (C : Nat → Sp) : ta (tb_X7_init C) 1 = tr_obj 4 := rfl
theorem a_X7_init_4 (C : Nat → Sp) : ta (tb_X7_init C) 4 = tr_aload 5 0 := rfl
theorem a_X7_init_5 (C : Nat → Sp) : ta (tb_X7_init C) 5 = tr_ic 7 100 := rfl
theorem a_X7_init_7 (C : Nat → Sp) : ta (tb_X7_init C) 7 = tr_newa 9 2034007 100 100 := rfl
theorem a_X7_init_9 (C : Nat → Sp) : ta (tb_X7_init C) 9 = tr_putR 12 8 700 := rfl
theorem a_X7_init_12 (C : Nat → Sp) : ta (tb_X7_init C) 12 = tr_aload 13 0 := rfl
theorem a_X7_init_13 (C : Nat → Sp) : ta (tb_X7_init C) 13 = tr_ic 15 35 := rfl
theorem a_X7_init_15 (C : Nat → Sp) : ta (tb_X7_init C) 15 = tr_newa 17 1034015 35 35 := rfl
theorem a_X7_init_17 (C : Nat → Sp) : ta (tb_X7_init C) 17 = tr_putR 20 8 701 := rfl
theorem a_X7_init_20 (C : Nat → Sp) : ta (tb_X7_init C) 20 = tr_aload 21 0 := rfl
theorem a_X7_init_21 (C : Nat → Sp) : ta (tb_X7_init C) 21 = tr_ic 23 35 := rfl
theorem a_X7_init_23 (C : Nat → Sp) : ta (tb_X7_init C) 23 = tr_newa 25 1034023 35 35 := rfl
theorem a_X7_init_25 (C : Nat → Sp) : ta (tb_X7_init C) 25 = tr_putR 28 8 702 := rfl
theorem a_X7_init_28 (C : Nat → Sp) : ta (tb_X7_init C) 28 = tr_aload 29 0 := rfl
theorem a_X7_init_29 (C : Nat → Sp) : ta (tb_X7_init C) 29 = tr_ic 31 35 := rfl
theorem a_X7_init_31 (C : Nat → Sp) : ta (tb_X7_init C) 31 = tr_newa 33 1034031 35 35 := rfl
theorem a_X7_init_33 (C : Nat → Sp) : ta (tb_X7_init C) 33 = tr_putR 36 8 703 := rfl
theorem a_X7_init_36 (C : Nat → Sp) : ta (tb_X7_init C) 36 = tr_aload 37 0 := rfl
theorem a_X7_init_37 (C : Nat → Sp) : ta (tb_X7_init C) 37 = tr_ic 39 (-4) := rfl
theorem a_X7_init_39 (C : Nat → Sp) : ta (tb_X7_init C) 39 = tr_putI 42 8 710 := rfl
theorem a_X7_init_42 (C : Nat → Sp) : ta (tb_X7_init C) 42 = tr_ret := rfl

def tb_X7_begin_0 (C : Nat → Sp) : Tab := [(0, tr_aload 1 0), (1, tr_ic 2 0), (2, tr_putI 5 8 704), (5, tr_aload 6 0), (6, tr_ic 7 0), (7, tr_putI 10 8 705), (10, tr_aload 11 0), (11, tr_ic 12 0), (12, tr_putI 15 8 706), (15, tr_aload 16 0), (16, tr_ic 17 0), (17, tr_putI 20 8 707), (20, tr_aload 21 0), (21, tr_ic 22 0), (22, tr_putI 25 8 708), (25, tr_aload 26 0), (26, tr_ic 27 0), (27, tr_putI 30 8 709), (30, tr_ret)]
set_option maxRecDepth 20000 in
theorem tbk_X7_begin_0 {D : DD} {d : Nat} {C : Nat → Sp} (hC : Snd D d C) : ∀ e ∈ tb_X7_begin_0 C, TrOk D (d + 1) mi_X7_begin e.1 e.2 :=
  tk_c (show TrOk D (d + 1) mi_X7_begin 0 (tr_aload 1 0) from ok_aload_n (show decode mi_X7_begin.2.1 0 = .ok (.aload_n 0, 1) from by decide +kernel) rfl) <|
  tk_c (show TrOk D (d + 1) mi_X7_begin 1 (tr_ic 2 0) from ok_iconst (show decode mi_X7_begin.2.1 1 = .ok (.iconst 0, 1) from by decide +kernel) rfl) <|
  tk_c (show TrOk D (d + 1) mi_X7_begin 2 (tr_putI 5 8 704) from ok_putI (ci := 7) (k := 4) (show decode mi_X7_begin.2.1 2 = .ok (.putfield 29, 3) from by decide +kernel) rfl (by decide) (gm 142 (by decide +kernel) rfl) rfl (Or.inl rfl)) <|
  tk_c (show TrOk D (d + 1) mi_X7_begin 5 (tr_aload 6 0) from ok_aload_n (show decode mi_X7_begin.2.1 5 = .ok (.aload_n 0, 1) from by decide +kernel) rfl) <|
  tk_c (show TrOk D (d + 1) mi_X7_begin 6 (tr_ic 7 0) from ok_iconst (show decode mi_X7_begin.2.1 6 = .ok (.iconst 0, 1) from by decide +kernel) rfl) <|
  tk_c (show TrOk D (d + 1) mi_X7_begin 7 (tr_putI 10 8 705) from ok_putI (ci := 7) (k := 5) (show decode mi_X7_begin.2.1 7 = .ok (.putfield 32, 3) from by decide +kernel) rfl (by decide) (gm 145 (by decide +kernel) rfl) rfl (Or.inl rfl)) <|
  tk_c (show TrOk D (d + 1) mi_X7_begin 10 (tr_aload 11 0) from ok_aload_n (show decode mi_X7_begin.2.1 10 = .ok (.aload_n 0, 1) from by decide +kernel) rfl) <|
  tk_c (show TrOk D (d + 1) mi_X7_begin 11 (tr_ic 12 0) from ok_iconst (show decode mi_X7_begin.2.1 11 = .ok (.iconst 0, 1) from by decide +kernel) rfl) <|
  tk_c (show TrOk D (d + 1) mi_X7_begin 12 (tr_putI 15 8 706) from ok_putI (ci := 7) (k := 6) (show decode mi_X7_begin.2.1 12 = .ok (.putfield 35, 3) from by decide +kernel) rfl (by decide) (gm 148 (by decide +kernel) rfl) rfl (Or.inl rfl)) <|
  tk_c (show TrOk D (d + 1) mi_X7_begin 15 (tr_aload 16 0) from ok_aload_n (show decode mi_X7_begin.2.1 15 = .ok (.aload_n 0, 1) from by decide +kernel) rfl) <|
  tk_c (show TrOk D (d + 1) mi_X7_begin 16 (tr_ic 17 0) from ok_iconst (show decode mi_X7_begin.2.1 16 = .ok (.iconst 0, 1) from by decide +kernel) rfl) <|
  tk_c (show TrOk D (d + 1) mi_X7_begin 17 (tr_putI 20 8 707) from ok_putI (ci := 7) (k := 7) (show decode mi_X7_begin.2.1 17 = .ok (.putfield 38, 3) from by decide +kernel) rfl (by decide) (gm 150 (by decide +kernel) rfl) rfl (Or.inl rfl)) <|
  tk_c (show TrOk D (d + 1) mi_X7_begin 20 (tr_aload 21 0) from ok_aload_n (show decode mi_X7_begin.2.1 20 = .ok (.aload_n 0, 1) from by decide +kernel) rfl) <|
  tk_c (show TrOk D (d + 1) mi_X7_begin 21 (tr_ic 22 0) from ok_iconst (show decode mi_X7_begin.2.1 21 = .ok (.iconst 0, 1) from by decide +kernel) rfl) <|
  tk_c (show TrOk D (d + 1) mi_X7_begin 22 (tr_putI 25 8 708) from ok_putI (ci := 7) (k := 8) (show decode mi_X7_begin.2.1 22 = .ok (.putfield 41, 3) from by decide +kernel) rfl (by decide) (gm 152 (by decide +kernel) rfl) rfl (Or.inl rfl)) <|
  tk_c (show TrOk D (d + 1) mi_X7_begin 25 (tr_aload 26 0) from ok_aload_n (show decode mi_X7_begin.2.1 25 = .ok (.aload_n 0, 1) from by decide +kernel) rfl) <|
  tk_c (show TrOk D (d + 1) mi_X7_begin 26 (tr_ic 27 0) from ok_iconst (show decode mi_X7_begin.2.1 26 = .ok (.iconst 0, 1) from by decide +kernel) rfl) <|
  tk_c (show TrOk D (d + 1) mi_X7_begin 27 (tr_putI 30 8 709) from ok_putI (ci := 7) (k := 9) (show decode mi_X7_begin.2.1 27 = .ok (.putfield 44, 3) from by decide +kernel) rfl (by decide) (gm 155 (by decide +kernel) rfl) rfl (Or.inl rfl)) <|
  tk_c (show TrOk D (d + 1) mi_X7_begin 30 (tr_ret) from ok_ret (show decode mi_X7_begin.2.1 30 = .ok (.return_, 1) from by decide +kernel) rfl) <|
  tk_n
def tb_X7_begin (C : Nat → Sp) : Tab := tb_X7_begin_0 C
theorem tbk_X7_begin {D : DD} {d : Nat} {C : Nat → Sp} (hC : Snd D d C) : ∀ e ∈ tb_X7_begin C, TrOk D (d + 1) mi_X7_begin e.1 e.2 := tbk_X7_begin_0 hC
theorem a_X7_begin_0 (C : Nat → Sp) : ta (tb_X7_begin C) 0 = tr_aload 1 0 := rfl
theorem a_X7_begin_1 (C : Nat → Sp) : ta (tb_X7_begin C) 1 = tr_ic 2 0 := rfl
theorem a_X7_begin_2 (C : Nat → Sp) : ta (tb_X7_begin C) 2 = tr_putI 5 8 704 := rfl
theorem a_X7_begin_5 (C : Nat → Sp) : ta (tb_X7_begin C) 5 = tr_aload 6 0 := rfl
theorem a_X7_begin_6 (C : Nat → Sp) : ta (tb_X7_begin C) 6 = tr_ic 7 0 := rfl
theorem a_X7_begin_7 (C : Nat → Sp) : ta (tb_X7_begin C) 7 = tr_putI 10 8 705 := rfl
theorem a_X7_begin_10 (C : Nat → Sp) : ta (tb_X7_begin C) 10 = tr_aload 11 0 := rfl
theorem a_X7_begin_11 (C : Nat → Sp) : ta (tb_X7_begin C) 11 = tr_ic 12 0 := rfl
theorem a_X7_begin_12 (C : Nat → Sp) : ta (tb_X7_begin C) 12 = tr_putI 15 8 706 := rfl
theorem a_X7_begin_15 (C : Nat → Sp) : ta (tb_X7_begin C) 15 = tr_aload 16 0 := rfl
theorem a_X7_begin_16 (C : Nat → Sp) : ta (tb_X7_begin C) 16 = tr_ic 17 0 := rfl
theorem a_X7_begin_17 (C : Nat → Sp) : ta (tb_X7_begin C) 17 = tr_putI 20 8 707 := rfl
theorem a_X7_begin_20 (C : Nat → Sp) : ta (tb_X7_begin C) 20 = tr_aload 21 0 := rfl
theorem a_X7_begin_21 (C : Nat → Sp) : ta (tb_X7_begin C) 21 = tr_ic 22 0 := rfl
theorem a_X7_begin_22 (C : Nat → Sp) : ta (tb_X7_begin C) 22 = tr_putI 25 8 708 := rfl
theorem a_X7_begin_25 (C : Nat → Sp) : ta (tb_X7_begin C) 25 = tr_aload 26 0 := rfl
theorem a_X7_begin_26 (C : Nat → Sp) : ta (tb_X7_begin C) 26 = tr_ic 27 0 := rfl
theorem a_X7_begin_27 (C : Nat → Sp) : ta (tb_X7_begin C) 27 = tr_putI 30 8 709 := rfl
theorem a_X7_begin_30 (C : Nat → Sp) : ta (tb_X7_begin C) 30 = tr_ret := rfl

def tb_X7_addCue_0 (C : Nat → Sp) : Tab := [(0, tr_aload 1 0), (1, tr_dup 2), (2, tr_getI 5 8 704), (5, tr_ic 6 1), (6, tr_iadd 7), (7, tr_putI 10 8 704), (10, tr_aload 11 0), (11, tr_aload 12 0), (12, tr_getI 15 8 709), (15, tr_iload 16 1), (16, tr_callS (C 137) 19 2), (19, tr_putI 22 8 709), (22, tr_ret)]
set_option maxRecDepth 20000 in
theorem tbk_X7_addCue_0 {D : DD} {d : Nat} {C : Nat → Sp} (hC : Snd D d C) : ∀ e ∈ tb_X7_addCue_0 C, TrOk D (d + 1) mi_X7_addCue e.1 e.2 :=
  tk_c (show TrOk D (d + 1) mi_X7_addCue 0 (tr_aload 1 0) from ok_aload_n (show decode mi_X7_addCue.2.1 0 = .ok (.aload_n 0, 1) from by decide +kernel) rfl) <|
  tk_c (show TrOk D (d + 1) mi_X7_addCue 1 (tr_dup 2) from ok_dup (show decode mi_X7_addCue.2.1 1 = .ok (.dup, 1) from by decide +kernel)) <|
  tk_c (show TrOk D (d + 1) mi_X7_addCue 2 (tr_getI 5 8 704) from ok_getI (ci := 7) (k := 4) (show decode mi_X7_addCue.2.1 2 = .ok (.getfield 29, 3) from by decide +kernel) rfl (by decide) (gm 142 (by decide +kernel) rfl) rfl) <|
  tk_c (show TrOk D (d + 1) mi_X7_addCue 5 (tr_ic 6 1) from ok_iconst (show decode mi_X7_addCue.2.1 5 = .ok (.iconst 1, 1) from by decide +kernel) rfl) <|
  tk_c (show TrOk D (d + 1) mi_X7_addCue 6 (tr_iadd 7) from ok_iadd (show decode mi_X7_addCue.2.1 6 = .ok (.iadd, 1) from by decide +kernel)) <|
  tk_c (show TrOk D (d + 1) mi_X7_addCue 7 (tr_putI 10 8 704) from ok_putI (ci := 7) (k := 4) (show decode mi_X7_addCue.2.1 7 = .ok (.putfield 29, 3) from by decide +kernel) rfl (by decide) (gm 142 (by decide +kernel) rfl) rfl (Or.inl rfl)) <|
  tk_c (show TrOk D (d + 1) mi_X7_addCue 10 (tr_aload 11 0) from ok_aload_n (show decode mi_X7_addCue.2.1 10 = .ok (.aload_n 0, 1) from by decide +kernel) rfl) <|
  tk_c (show TrOk D (d + 1) mi_X7_addCue 11 (tr_aload 12 0) from ok_aload_n (show decode mi_X7_addCue.2.1 11 = .ok (.aload_n 0, 1) from by decide +kernel) rfl) <|
  tk_c (show TrOk D (d + 1) mi_X7_addCue 12 (tr_getI 15 8 709) from ok_getI (ci := 7) (k := 9) (show decode mi_X7_addCue.2.1 12 = .ok (.getfield 44, 3) from by decide +kernel) rfl (by decide) (gm 155 (by decide +kernel) rfl) rfl) <|
  tk_c (show TrOk D (d + 1) mi_X7_addCue 15 (tr_iload 16 1) from ok_iload_n (show decode mi_X7_addCue.2.1 15 = .ok (.iload_n 1, 1) from by decide +kernel) rfl) <|
  tk_c (show TrOk D (d + 1) mi_X7_addCue 16 (tr_callS (C 137) 19 2) from ok_callS (show decode mi_X7_addCue.2.1 16 = .ok (.invokestatic 47, 3) from by decide +kernel) mok_Math_max (gm 580 (by decide +kernel) rfl) (gm 581 (by decide +kernel) rfl) (hC 137)) <|
  tk_c (show TrOk D (d + 1) mi_X7_addCue 19 (tr_putI 22 8 709) from ok_putI (ci := 7) (k := 9) (show decode mi_X7_addCue.2.1 19 = .ok (.putfield 44, 3) from by decide +kernel) rfl (by decide) (gm 155 (by decide +kernel) rfl) rfl (Or.inl rfl)) <|
  tk_c (show TrOk D (d + 1) mi_X7_addCue 22 (tr_ret) from ok_ret (show decode mi_X7_addCue.2.1 22 = .ok (.return_, 1) from by decide +kernel) rfl) <|
  tk_n
def tb_X7_addCue (C : Nat → Sp) : Tab := tb_X7_addCue_0 C
theorem tbk_X7_addCue {D : DD} {d : Nat} {C : Nat → Sp} (hC : Snd D d C) : ∀ e ∈ tb_X7_addCue C, TrOk D (d + 1) mi_X7_addCue e.1 e.2 := tbk_X7_addCue_0 hC
theorem a_X7_addCue_0 (C : Nat → Sp) : ta (tb_X7_addCue C) 0 = tr_aload 1 0 := rfl
theorem a_X7_addCue_1 (C : Nat → Sp) : ta (tb_X7_addCue C) 1 = tr_dup 2 := rfl
theorem a_X7_addCue_2 (C : Nat → Sp) : ta (tb_X7_addCue C) 2 = tr_getI 5 8 704 := rfl
theorem a_X7_addCue_5 (C : Nat → Sp) : ta (tb_X7_addCue C) 5 = tr_ic 6 1 := rfl
theorem a_X7_addCue_6 (C : Nat → Sp) : ta (tb_X7_addCue C) 6 = tr_iadd 7 := rfl
theorem a_X7_addCue_7 (C : Nat → Sp) : ta (tb_X7_addCue C) 7 = tr_putI 10 8 704 := rfl
theorem a_X7_addCue_10 (C : Nat → Sp) : ta (tb_X7_addCue C) 10 = tr_aload 11 0 := rfl
theorem a_X7_addCue_11 (C : Nat → Sp) : ta (tb_X7_addCue C) 11 = tr_aload 12 0 := rfl
theorem a_X7_addCue_12 (C : Nat → Sp) : ta (tb_X7_addCue C) 12 = tr_getI 15 8 709 := rfl
theorem a_X7_addCue_15 (C : Nat → Sp) : ta (tb_X7_addCue C) 15 = tr_iload 16 1 := rfl
theorem a_X7_addCue_16 (C : Nat → Sp) : ta (tb_X7_addCue C) 16 = tr_callS (C 137) 19 2 := rfl
theorem a_X7_addCue_19 (C : Nat → Sp) : ta (tb_X7_addCue C) 19 = tr_putI 22 8 709 := rfl
theorem a_X7_addCue_22 (C : Nat → Sp) : ta (tb_X7_addCue C) 22 = tr_ret := rfl

def tb_X7_addLogged_0 (C : Nat → Sp) : Tab := [(0, tr_aload 1 0), (1, tr_getI 4 8 706), (4, tr_ic 6 100), (6, tr_icge 9 19), (9, tr_aload 10 0), (10, tr_getR 13 8 700), (13, tr_aload 14 0), (14, tr_getI 17 8 706), (17, tr_lload 18 1), (18, tr_last 19), (19, tr_aload 20 0), (20, tr_dup 21), (21, tr_getI 24 8 706), (24, tr_ic 25 1), (25, tr_iadd 26), (26, tr_putI 29 8 706), (29, tr_ret)]
set_option maxRecDepth 20000 in
theorem tbk_X7_addLogged_0 {D : DD} {d : Nat} {C : Nat → Sp} (hC : Snd D d C) : ∀ e ∈ tb_X7_addLogged_0 C, TrOk D (d + 1) mi_X7_addLogged e.1 e.2 :=
  tk_c (show TrOk D (d + 1) mi_X7_addLogged 0 (tr_aload 1 0) from ok_aload_n (show decode mi_X7_addLogged.2.1 0 = .ok (.aload_n 0, 1) from by decide +kernel) rfl) <|
  tk_c (show TrOk D (d + 1) mi_X7_addLogged 1 (tr_getI 4 8 706) from ok_getI (ci := 7) (k := 6) (show decode mi_X7_addLogged.2.1 1 = .ok (.getfield 35, 3) from by decide +kernel) rfl (by decide) (gm 148 (by decide +kernel) rfl) rfl) <|
  tk_c (show TrOk D (d + 1) mi_X7_addLogged 4 (tr_ic 6 100) from ok_bipush (show decode mi_X7_addLogged.2.1 4 = .ok (.bipush 100, 2) from by decide +kernel) rfl) <|
  tk_c (show TrOk D (d + 1) mi_X7_addLogged 6 (tr_icge 9 19) from ok_icge (show decode mi_X7_addLogged.2.1 6 = .ok (.if_icmp .ge 13, 3) from by decide +kernel) (by decide)) <|
  tk_c (show TrOk D (d + 1) mi_X7_addLogged 9 (tr_aload 10 0) from ok_aload_n (show decode mi_X7_addLogged.2.1 9 = .ok (.aload_n 0, 1) from by decide +kernel) rfl) <|
  tk_c (show TrOk D (d + 1) mi_X7_addLogged 10 (tr_getR 13 8 700) from ok_getR (ci := 7) (k := 0) (show decode mi_X7_addLogged.2.1 10 = .ok (.getfield 9, 3) from by decide +kernel) rfl (by decide) (gm 134 (by decide +kernel) rfl) rfl) <|
  tk_c (show TrOk D (d + 1) mi_X7_addLogged 13 (tr_aload 14 0) from ok_aload_n (show decode mi_X7_addLogged.2.1 13 = .ok (.aload_n 0, 1) from by decide +kernel) rfl) <|
  tk_c (show TrOk D (d + 1) mi_X7_addLogged 14 (tr_getI 17 8 706) from ok_getI (ci := 7) (k := 6) (show decode mi_X7_addLogged.2.1 14 = .ok (.getfield 35, 3) from by decide +kernel) rfl (by decide) (gm 148 (by decide +kernel) rfl) rfl) <|
  tk_c (show TrOk D (d + 1) mi_X7_addLogged 17 (tr_lload 18 1) from ok_lload_n (show decode mi_X7_addLogged.2.1 17 = .ok (.lload_n 1, 1) from by decide +kernel) rfl) <|
  tk_c (show TrOk D (d + 1) mi_X7_addLogged 18 (tr_last 19) from ok_last (show decode mi_X7_addLogged.2.1 18 = .ok (.lastore, 1) from by decide +kernel)) <|
  tk_c (show TrOk D (d + 1) mi_X7_addLogged 19 (tr_aload 20 0) from ok_aload_n (show decode mi_X7_addLogged.2.1 19 = .ok (.aload_n 0, 1) from by decide +kernel) rfl) <|
  tk_c (show TrOk D (d + 1) mi_X7_addLogged 20 (tr_dup 21) from ok_dup (show decode mi_X7_addLogged.2.1 20 = .ok (.dup, 1) from by decide +kernel)) <|
  tk_c (show TrOk D (d + 1) mi_X7_addLogged 21 (tr_getI 24 8 706) from ok_getI (ci := 7) (k := 6) (show decode mi_X7_addLogged.2.1 21 = .ok (.getfield 35, 3) from by decide +kernel) rfl (by decide) (gm 148 (by decide +kernel) rfl) rfl) <|
  tk_c (show TrOk D (d + 1) mi_X7_addLogged 24 (tr_ic 25 1) from ok_iconst (show decode mi_X7_addLogged.2.1 24 = .ok (.iconst 1, 1) from by decide +kernel) rfl) <|
  tk_c (show TrOk D (d + 1) mi_X7_addLogged 25 (tr_iadd 26) from ok_iadd (show decode mi_X7_addLogged.2.1 25 = .ok (.iadd, 1) from by decide +kernel)) <|
  tk_c (show TrOk D (d + 1) mi_X7_addLogged 26 (tr_putI 29 8 706) from ok_putI (ci := 7) (k := 6) (show decode mi_X7_addLogged.2.1 26 = .ok (.putfield 35, 3) from by decide +kernel) rfl (by decide) (gm 148 (by decide +kernel) rfl) rfl (Or.inl rfl)) <|
  tk_c (show TrOk D (d + 1) mi_X7_addLogged 29 (tr_ret) from ok_ret (show decode mi_X7_addLogged.2.1 29 = .ok (.return_, 1) from by decide +kernel) rfl) <|
  tk_n
def tb_X7_addLogged (C : Nat → Sp) : Tab := tb_X7_addLogged_0 C
theorem tbk_X7_addLogged {D : DD} {d : Nat} {C : Nat → Sp} (hC : Snd D d C) : ∀ e ∈ tb_X7_addLogged C, TrOk D (d + 1) mi_X7_addLogged e.1 e.2 := tbk_X7_addLogged_0 hC
theorem a_X7_addLogged_0 (C : Nat → Sp) : ta (tb_X7_addLogged C) 0 = tr_aload 1 0 := rfl
theorem a_X7_addLogged_1 (C : Nat → Sp) : ta (tb_X7_addLogged C) 1 = tr_getI 4 8 706 := rfl
theorem a_X7_addLogged_4 (C : Nat → Sp) : ta (tb_X7_addLogged C) 4 = tr_ic 6 100 := rfl
theorem a_X7_addLogged_6 (C : Nat → Sp) : ta (tb_X7_addLogged C) 6 = tr_icge 9 19 := rfl
theorem a_X7_addLogged_9 (C : Nat → Sp) : ta (tb_X7_addLogged C) 9 = tr_aload 10 0 := rfl
theorem a_X7_addLogged_10 (C : Nat → Sp) : ta (tb_X7_addLogged C) 10 = tr_getR 13 8 700 := rfl
theorem a_X7_addLogged_13 (C : Nat → Sp) : ta (tb_X7_addLogged C) 13 = tr_aload 14 0 := rfl
theorem a_X7_addLogged_14 (C : Nat → Sp) : ta (tb_X7_addLogged C) 14 = tr_getI 17 8 706 := rfl
theorem a_X7_addLogged_17 (C : Nat → Sp) : ta (tb_X7_addLogged C) 17 = tr_lload 18 1 := rfl
theorem a_X7_addLogged_18 (C : Nat → Sp) : ta (tb_X7_addLogged C) 18 = tr_last 19 := rfl
theorem a_X7_addLogged_19 (C : Nat → Sp) : ta (tb_X7_addLogged C) 19 = tr_aload 20 0 := rfl
theorem a_X7_addLogged_20 (C : Nat → Sp) : ta (tb_X7_addLogged C) 20 = tr_dup 21 := rfl
theorem a_X7_addLogged_21 (C : Nat → Sp) : ta (tb_X7_addLogged C) 21 = tr_getI 24 8 706 := rfl
theorem a_X7_addLogged_24 (C : Nat → Sp) : ta (tb_X7_addLogged C) 24 = tr_ic 25 1 := rfl
theorem a_X7_addLogged_25 (C : Nat → Sp) : ta (tb_X7_addLogged C) 25 = tr_iadd 26 := rfl
theorem a_X7_addLogged_26 (C : Nat → Sp) : ta (tb_X7_addLogged C) 26 = tr_putI 29 8 706 := rfl
theorem a_X7_addLogged_29 (C : Nat → Sp) : ta (tb_X7_addLogged C) 29 = tr_ret := rfl

def tb_X7_addFailure_0 (C : Nat → Sp) : Tab := [(0, tr_aload 1 0), (1, tr_getI 4 8 707), (4, tr_ic 6 35), (6, tr_iclt 9 10), (9, tr_ret), (10, tr_aload 11 0), (11, tr_getR 14 8 701), (14, tr_aload 15 0), (15, tr_getI 18 8 707), (18, tr_iload 19 1), (19, tr_iast 20), (20, tr_aload 21 0), (21, tr_getR 24 8 702), (24, tr_aload 25 0), (25, tr_getI 28 8 707), (28, tr_iload 29 2), (29, tr_iast 30), (30, tr_aload 31 0), (31, tr_getR 34 8 703), (34, tr_aload 35 0), (35, tr_getI 38 8 707), (38, tr_iload 39 3), (39, tr_iast 40), (40, tr_aload 41 0), (41, tr_dup 42), (42, tr_getI 45 8 707), (45, tr_ic 46 1), (46, tr_iadd 47), (47, tr_putI 50 8 707), (50, tr_ret)]
set_option maxRecDepth 20000 in
theorem tbk_X7_addFailure_0 {D : DD} {d : Nat} {C : Nat → Sp} (hC : Snd D d C) : ∀ e ∈ tb_X7_addFailure_0 C, TrOk D (d + 1) mi_X7_addFailure e.1 e.2 :=
  tk_c (show TrOk D (d + 1) mi_X7_addFailure 0 (tr_aload 1 0) from ok_aload_n (show decode mi_X7_addFailure.2.1 0 = .ok (.aload_n 0, 1) from by decide +kernel) rfl) <|
  tk_c (show TrOk D (d + 1) mi_X7_addFailure 1 (tr_getI 4 8 707) from ok_getI (ci := 7) (k := 7) (show decode mi_X7_addFailure.2.1 1 = .ok (.getfield 38, 3) from by decide +kernel) rfl (by decide) (gm 150 (by decide +kernel) rfl) rfl) <|
  tk_c (show TrOk D (d + 1) mi_X7_addFailure 4 (tr_ic 6 35) from ok_bipush (show decode mi_X7_addFailure.2.1 4 = .ok (.bipush 35, 2) from by decide +kernel) rfl) <|
  tk_c (show TrOk D (d + 1) mi_X7_addFailure 6 (tr_iclt 9 10) from ok_iclt (show decode mi_X7_addFailure.2.1 6 = .ok (.if_icmp .lt 4, 3) from by decide +kernel) (by decide)) <|
  tk_c (show TrOk D (d + 1) mi_X7_addFailure 9 (tr_ret) from ok_ret (show decode mi_X7_addFailure.2.1 9 = .ok (.return_, 1) from by decide +kernel) rfl) <|
  tk_c (show TrOk D (d + 1) mi_X7_addFailure 10 (tr_aload 11 0) from ok_aload_n (show decode mi_X7_addFailure.2.1 10 = .ok (.aload_n 0, 1) from by decide +kernel) rfl) <|
  tk_c (show TrOk D (d + 1) mi_X7_addFailure 11 (tr_getR 14 8 701) from ok_getR (ci := 7) (k := 1) (show decode mi_X7_addFailure.2.1 11 = .ok (.getfield 15, 3) from by decide +kernel) rfl (by decide) (gm 136 (by decide +kernel) rfl) rfl) <|
  tk_c (show TrOk D (d + 1) mi_X7_addFailure 14 (tr_aload 15 0) from ok_aload_n (show decode mi_X7_addFailure.2.1 14 = .ok (.aload_n 0, 1) from by decide +kernel) rfl) <|
  tk_c (show TrOk D (d + 1) mi_X7_addFailure 15 (tr_getI 18 8 707) from ok_getI (ci := 7) (k := 7) (show decode mi_X7_addFailure.2.1 15 = .ok (.getfield 38, 3) from by decide +kernel) rfl (by decide) (gm 150 (by decide +kernel) rfl) rfl) <|
  tk_c (show TrOk D (d + 1) mi_X7_addFailure 18 (tr_iload 19 1) from ok_iload_n (show decode mi_X7_addFailure.2.1 18 = .ok (.iload_n 1, 1) from by decide +kernel) rfl) <|
  tk_c (show TrOk D (d + 1) mi_X7_addFailure 19 (tr_iast 20) from ok_iast (show decode mi_X7_addFailure.2.1 19 = .ok (.iastore, 1) from by decide +kernel)) <|
  tk_c (show TrOk D (d + 1) mi_X7_addFailure 20 (tr_aload 21 0) from ok_aload_n (show decode mi_X7_addFailure.2.1 20 = .ok (.aload_n 0, 1) from by decide +kernel) rfl) <|
  tk_c (show TrOk D (d + 1) mi_X7_addFailure 21 (tr_getR 24 8 702) from ok_getR (ci := 7) (k := 2) (show decode mi_X7_addFailure.2.1 21 = .ok (.getfield 19, 3) from by decide +kernel) rfl (by decide) (gm 138 (by decide +kernel) rfl) rfl) <|
  tk_c (show TrOk D (d + 1) mi_X7_addFailure 24 (tr_aload 25 0) from ok_aload_n (show decode mi_X7_addFailure.2.1 24 = .ok (.aload_n 0, 1) from by decide +kernel) rfl) <|
  tk_c (show TrOk D (d + 1) mi_X7_addFailure 25 (tr_getI 28 8 707) from ok_getI (ci := 7) (k := 7) (show decode mi_X7_addFailure.2.1 25 = .ok (.getfield 38, 3) from by decide +kernel) rfl (by decide) (gm 150 (by decide +kernel) rfl) rfl) <|
  tk_c (show TrOk D (d + 1) mi_X7_addFailure 28 (tr_iload 29 2) from ok_iload_n (show decode mi_X7_addFailure.2.1 28 = .ok (.iload_n 2, 1) from by decide +kernel) rfl) <|
  tk_c (show TrOk D (d + 1) mi_X7_addFailure 29 (tr_iast 30) from ok_iast (show decode mi_X7_addFailure.2.1 29 = .ok (.iastore, 1) from by decide +kernel)) <|
  tk_c (show TrOk D (d + 1) mi_X7_addFailure 30 (tr_aload 31 0) from ok_aload_n (show decode mi_X7_addFailure.2.1 30 = .ok (.aload_n 0, 1) from by decide +kernel) rfl) <|
  tk_c (show TrOk D (d + 1) mi_X7_addFailure 31 (tr_getR 34 8 703) from ok_getR (ci := 7) (k := 3) (show decode mi_X7_addFailure.2.1 31 = .ok (.getfield 22, 3) from by decide +kernel) rfl (by decide) (gm 140 (by decide +kernel) rfl) rfl) <|
  tk_c (show TrOk D (d + 1) mi_X7_addFailure 34 (tr_aload 35 0) from ok_aload_n (show decode mi_X7_addFailure.2.1 34 = .ok (.aload_n 0, 1) from by decide +kernel) rfl) <|
  tk_c (show TrOk D (d + 1) mi_X7_addFailure 35 (tr_getI 38 8 707) from ok_getI (ci := 7) (k := 7) (show decode mi_X7_addFailure.2.1 35 = .ok (.getfield 38, 3) from by decide +kernel) rfl (by decide) (gm 150 (by decide +kernel) rfl) rfl) <|
  tk_c (show TrOk D (d + 1) mi_X7_addFailure 38 (tr_iload 39 3) from ok_iload_n (show decode mi_X7_addFailure.2.1 38 = .ok (.iload_n 3, 1) from by decide +kernel) rfl) <|
  tk_c (show TrOk D (d + 1) mi_X7_addFailure 39 (tr_iast 40) from ok_iast (show decode mi_X7_addFailure.2.1 39 = .ok (.iastore, 1) from by decide +kernel)) <|
  tk_c (show TrOk D (d + 1) mi_X7_addFailure 40 (tr_aload 41 0) from ok_aload_n (show decode mi_X7_addFailure.2.1 40 = .ok (.aload_n 0, 1) from by decide +kernel) rfl) <|
  tk_c (show TrOk D (d + 1) mi_X7_addFailure 41 (tr_dup 42) from ok_dup (show decode mi_X7_addFailure.2.1 41 = .ok (.dup, 1) from by decide +kernel)) <|
  tk_c (show TrOk D (d + 1) mi_X7_addFailure 42 (tr_getI 45 8 707) from ok_getI (ci := 7) (k := 7) (show decode mi_X7_addFailure.2.1 42 = .ok (.getfield 38, 3) from by decide +kernel) rfl (by decide) (gm 150 (by decide +kernel) rfl) rfl) <|
  tk_c (show TrOk D (d + 1) mi_X7_addFailure 45 (tr_ic 46 1) from ok_iconst (show decode mi_X7_addFailure.2.1 45 = .ok (.iconst 1, 1) from by decide +kernel) rfl) <|
  tk_c (show TrOk D (d + 1) mi_X7_addFailure 46 (tr_iadd 47) from ok_iadd (show decode mi_X7_addFailure.2.1 46 = .ok (.iadd, 1) from by decide +kernel)) <|
  tk_c (show TrOk D (d + 1) mi_X7_addFailure 47 (tr_putI 50 8 707) from ok_putI (ci := 7) (k := 7) (show decode mi_X7_addFailure.2.1 47 = .ok (.putfield 38, 3) from by decide +kernel) rfl (by decide) (gm 150 (by decide +kernel) rfl) rfl (Or.inl rfl)) <|
  tk_c (show TrOk D (d + 1) mi_X7_addFailure 50 (tr_ret) from ok_ret (show decode mi_X7_addFailure.2.1 50 = .ok (.return_, 1) from by decide +kernel) rfl) <|
  tk_n
def tb_X7_addFailure (C : Nat → Sp) : Tab := tb_X7_addFailure_0 C
theorem tbk_X7_addFailure {D : DD} {d : Nat} {C : Nat → Sp} (hC : Snd D d C) : ∀ e ∈ tb_X7_addFailure C, TrOk D (d + 1) mi_X7_addFailure e.1 e.2 := tbk_X7_addFailure_0 hC
theorem a_X7_addFailure_0 (C : Nat → Sp) : ta (tb_X7_addFailure C) 0 = tr_aload 1 0 := rfl
theorem a_X7_addFailure_1 (C : Nat → Sp) : ta (tb_X7_addFailure C) 1 = tr_getI 4 8 707 := rfl
theorem a_X7_addFailure_4 (C : Nat → Sp) : ta (tb_X7_addFailure C) 4 = tr_ic 6 35 := rfl
theorem a_X7_addFailure_6 (C : Nat → Sp) : ta (tb_X7_addFailure C) 6 = tr_iclt 9 10 := rfl
theorem a_X7_addFailure_9 (C : Nat → Sp) : ta (tb_X7_addFailure C) 9 = tr_ret := rfl
theorem a_X7_addFailure_10 (C : Nat → Sp) : ta (tb_X7_addFailure C) 10 = tr_aload 11 0 := rfl
theorem a_X7_addFailure_11 (C : Nat → Sp) : ta (tb_X7_addFailure C) 11 = tr_getR 14 8 701 := rfl
theorem a_X7_addFailure_14 (C : Nat → Sp) : ta (tb_X7_addFailure C) 14 = tr_aload 15 0 := rfl
theorem a_X7_addFailure_15 (C : Nat → Sp) : ta (tb_X7_addFailure C) 15 = tr_getI 18 8 707 := rfl
theorem a_X7_addFailure_18 (C : Nat → Sp) : ta (tb_X7_addFailure C) 18 = tr_iload 19 1 := rfl
theorem a_X7_addFailure_19 (C : Nat → Sp) : ta (tb_X7_addFailure C) 19 = tr_iast 20 := rfl
theorem a_X7_addFailure_20 (C : Nat → Sp) : ta (tb_X7_addFailure C) 20 = tr_aload 21 0 := rfl
theorem a_X7_addFailure_21 (C : Nat → Sp) : ta (tb_X7_addFailure C) 21 = tr_getR 24 8 702 := rfl
theorem a_X7_addFailure_24 (C : Nat → Sp) : ta (tb_X7_addFailure C) 24 = tr_aload 25 0 := rfl
theorem a_X7_addFailure_25 (C : Nat → Sp) : ta (tb_X7_addFailure C) 25 = tr_getI 28 8 707 := rfl
theorem a_X7_addFailure_28 (C : Nat → Sp) : ta (tb_X7_addFailure C) 28 = tr_iload 29 2 := rfl
theorem a_X7_addFailure_29 (C : Nat → Sp) : ta (tb_X7_addFailure C) 29 = tr_iast 30 := rfl
theorem a_X7_addFailure_30 (C : Nat → Sp) : ta (tb_X7_addFailure C) 30 = tr_aload 31 0 := rfl
theorem a_X7_addFailure_31 (C : Nat → Sp) : ta (tb_X7_addFailure C) 31 = tr_getR 34 8 703 := rfl
theorem a_X7_addFailure_34 (C : Nat → Sp) : ta (tb_X7_addFailure C) 34 = tr_aload 35 0 := rfl
theorem a_X7_addFailure_35 (C : Nat → Sp) : ta (tb_X7_addFailure C) 35 = tr_getI 38 8 707 := rfl
theorem a_X7_addFailure_38 (C : Nat → Sp) : ta (tb_X7_addFailure C) 38 = tr_iload 39 3 := rfl
theorem a_X7_addFailure_39 (C : Nat → Sp) : ta (tb_X7_addFailure C) 39 = tr_iast 40 := rfl
theorem a_X7_addFailure_40 (C : Nat → Sp) : ta (tb_X7_addFailure C) 40 = tr_aload 41 0 := rfl
theorem a_X7_addFailure_41 (C : Nat → Sp) : ta (tb_X7_addFailure C) 41 = tr_dup 42 := rfl
theorem a_X7_addFailure_42 (C : Nat → Sp) : ta (tb_X7_addFailure C) 42 = tr_getI 45 8 707 := rfl
theorem a_X7_addFailure_45 (C : Nat → Sp) : ta (tb_X7_addFailure C) 45 = tr_ic 46 1 := rfl
theorem a_X7_addFailure_46 (C : Nat → Sp) : ta (tb_X7_addFailure C) 46 = tr_iadd 47 := rfl
theorem a_X7_addFailure_47 (C : Nat → Sp) : ta (tb_X7_addFailure C) 47 = tr_putI 50 8 707 := rfl
theorem a_X7_addFailure_50 (C : Nat → Sp) : ta (tb_X7_addFailure C) 50 = tr_ret := rfl

def tb_X7_isHushed_0 (C : Nat → Sp) : Tab := [(0, tr_aload 1 0), (1, tr_getI 4 8 707), (4, tr_ic 6 24), (6, tr_iclt 9 13), (9, tr_ic 10 1), (10, tr_goto 14), (13, tr_ic 14 0), (14, tr_zret)]
set_option maxRecDepth 20000 in
theorem tbk_X7_isHushed_0 {D : DD} {d : Nat} {C : Nat → Sp} (hC : Snd D d C) : ∀ e ∈ tb_X7_isHushed_0 C, TrOk D (d + 1) mi_X7_isHushed e.1 e.2 :=
  tk_c (show TrOk D (d + 1) mi_X7_isHushed 0 (tr_aload 1 0) from ok_aload_n (show decode mi_X7_isHushed.2.1 0 = .ok (.aload_n 0, 1) from by decide +kernel) rfl) <|
  tk_c (show TrOk D (d + 1) mi_X7_isHushed 1 (tr_getI 4 8 707) from ok_getI (ci := 7) (k := 7) (show decode mi_X7_isHushed.2.1 1 = .ok (.getfield 38, 3) from by decide +kernel) rfl (by decide) (gm 150 (by decide +kernel) rfl) rfl) <|
  tk_c (show TrOk D (d + 1) mi_X7_isHushed 4 (tr_ic 6 24) from ok_bipush (show decode mi_X7_isHushed.2.1 4 = .ok (.bipush 24, 2) from by decide +kernel) rfl) <|
  tk_c (show TrOk D (d + 1) mi_X7_isHushed 6 (tr_iclt 9 13) from ok_iclt (show decode mi_X7_isHushed.2.1 6 = .ok (.if_icmp .lt 7, 3) from by decide +kernel) (by decide)) <|
  tk_c (show TrOk D (d + 1) mi_X7_isHushed 9 (tr_ic 10 1) from ok_iconst (show decode mi_X7_isHushed.2.1 9 = .ok (.iconst 1, 1) from by decide +kernel) rfl) <|
  tk_c (show TrOk D (d + 1) mi_X7_isHushed 10 (tr_goto 14) from ok_goto (show decode mi_X7_isHushed.2.1 10 = .ok (.goto 4, 3) from by decide +kernel) (by decide)) <|
  tk_c (show TrOk D (d + 1) mi_X7_isHushed 13 (tr_ic 14 0) from ok_iconst (show decode mi_X7_isHushed.2.1 13 = .ok (.iconst 0, 1) from by decide +kernel) rfl) <|
  tk_c (show TrOk D (d + 1) mi_X7_isHushed 14 (tr_zret) from ok_zret (show decode mi_X7_isHushed.2.1 14 = .ok (.ireturn, 1) from by decide +kernel) rfl) <|
  tk_n
def tb_X7_isHushed (C : Nat → Sp) : Tab := tb_X7_isHushed_0 C
theorem tbk_X7_isHushed {D : DD} {d : Nat} {C : Nat → Sp} (hC : Snd D d C) : ∀ e ∈ tb_X7_isHushed C, TrOk D (d + 1) mi_X7_isHushed e.1 e.2 := tbk_X7_isHushed_0 hC
theorem a_X7_isHushed_0 (C : Nat → Sp) : ta (tb_X7_isHushed C) 0 = tr_aload 1 0 := rfl
theorem a_X7_isHushed_1 (C : Nat → Sp) : ta (tb_X7_isHushed C) 1 = tr_getI 4 8 707 := rfl
theorem a_X7_isHushed_4 (C : Nat → Sp) : ta (tb_X7_isHushed C) 4 = tr_ic 6 24 := rfl
theorem a_X7_isHushed_6 (C : Nat → Sp) : ta (tb_X7_isHushed C) 6 = tr_iclt 9 13 := rfl
theorem a_X7_isHushed_9 (C : Nat → Sp) : ta (tb_X7_isHushed C) 9 = tr_ic 10 1 := rfl
theorem a_X7_isHushed_10 (C : Nat → Sp) : ta (tb_X7_isHushed C) 10 = tr_goto 14 := rfl
theorem a_X7_isHushed_13 (C : Nat → Sp) : ta (tb_X7_isHushed C) 13 = tr_ic 14 0 := rfl
theorem a_X7_isHushed_14 (C : Nat → Sp) : ta (tb_X7_isHushed C) 14 = tr_zret := rfl

def tb_X8_init_0 (C : Nat → Sp) : Tab := [(0, tr_aload 1 0), (1, tr_obj 4), (4, tr_aload 5 0), (5, tr_new 8 11 4), (8, tr_dup 9), (9, tr_callI (C 61) 12 0), (12, tr_putR 15 9 805), (15, tr_aload 16 0), (16, tr_ic 18 12), (18, tr_anew 21 4040018 12 12), (21, tr_putR 24 9 806), (24, tr_aload 25 0), (25, tr_aload 26 1), (26, tr_putR 29 9 800), (29, tr_aload 30 0), (30, tr_aload 31 2), (31, tr_putR 34 9 801), (34, tr_aload 35 0), (35, tr_aload 36 3), (36, tr_putR 39 9 802), (39, tr_aload 40 0), (40, tr_aload 42 4), (42, tr_putR 45 9 803), (45, tr_aload 46 0), (46, tr_aload 48 5), (48, tr_putR 51 9 804), (51, tr_ic 52 0), (52, tr_istore 54 6), (54, tr_iload 56 6), (56, tr_ic 58 12), (58, tr_icge 61 85), (61, tr_aload 62 0), (62, tr_getR 65 9 806), (65, tr_iload 67 6), (67, tr_new 70 2 6), (70, tr_dup 71), (71, tr_iload 73 6), (73, tr_ic 74 1), (74, tr_iadd 75), (75, tr_callI (C 3) 78 1)]
set_option maxRecDepth 20000 in
theorem tbk_X8_init_0 {D : DD} {d : Nat} {C : Nat → Sp} (hC : Snd D d C) : ∀ e ∈ tb_X8_init_0 C, TrOk D (d + 1) mi_X8_init e.1 e.2 :=
  tk_c (show TrOk D (d + 1) mi_X8_init 0 (tr_aload 1 0) from ok_aload_n (show decode mi_X8_init.2.1 0 = .ok (.aload_n 0, 1) from by decide +kernel) rfl) <|
  tk_c (show TrOk D (d + 1) mi_X8_init 1 (tr_obj 4) from ok_obj (show decode mi_X8_init.2.1 1 = .ok (.invokespecial 3, 3) from by decide +kernel) (gm 193 (by decide +kernel) rfl) (gm 50 (by decide +kernel) rfl) (gm 51 rfl rfl)) <|
  tk_c (show TrOk D (d + 1) mi_X8_init 4 (tr_aload 5 0) from ok_aload_n (show decode mi_X8_init.2.1 4 = .ok (.aload_n 0, 1) from by decide +kernel) rfl) <|
  tk_c (show TrOk D (d + 1) mi_X8_init 5 (tr_new 8 11 4) from ok_new (ci := 10) (show decode mi_X8_init.2.1 5 = .ok (.new 9, 3) from by decide +kernel) rfl (gm 194 (by decide +kernel) rfl) (gm 195 (by decide +kernel) rfl) (gm 36 (by decide +kernel) rfl)) <|
  tk_c (show TrOk D (d + 1) mi_X8_init 8 (tr_dup 9) from ok_dup (show decode mi_X8_init.2.1 8 = .ok (.dup, 1) from by decide +kernel)) <|
  tk_c (show TrOk D (d + 1) mi_X8_init 9 (tr_callI (C 61) 12 0) from ok_callIN (host := "ShowDesk") (show decode mi_X8_init.2.1 9 = .ok (.invokespecial 11, 3) from by decide +kernel) mok_X10_init rfl rfl (by decide +kernel) (gm 197 (by decide +kernel) rfl) (hC 61)) <|
  tk_c (show TrOk D (d + 1) mi_X8_init 12 (tr_putR 15 9 805) from ok_putR (ci := 8) (k := 5) (show decode mi_X8_init.2.1 12 = .ok (.putfield 12, 3) from by decide +kernel) rfl (by decide) (gm 250 (by decide +kernel) rfl) rfl (Or.inr ⟨rfl, rfl, rfl⟩)) <|
  tk_c (show TrOk D (d + 1) mi_X8_init 15 (tr_aload 16 0) from ok_aload_n (show decode mi_X8_init.2.1 15 = .ok (.aload_n 0, 1) from by decide +kernel) rfl) <|
  tk_c (show TrOk D (d + 1) mi_X8_init 16 (tr_ic 18 12) from ok_bipush (show decode mi_X8_init.2.1 16 = .ok (.bipush 12, 2) from by decide +kernel) rfl) <|
  tk_c (show TrOk D (d + 1) mi_X8_init 18 (tr_anew 21 4040018 12 12) from ok_anew (t := 4) (show decode mi_X8_init.2.1 18 = .ok (.anewarray 18, 3) from by decide +kernel) (by decide) (by decide) (gm 215 (by decide +kernel) rfl) (by decide) (by decide) (by decide) (by decide)) <|
  tk_c (show TrOk D (d + 1) mi_X8_init 21 (tr_putR 24 9 806) from ok_putR (ci := 8) (k := 6) (show decode mi_X8_init.2.1 21 = .ok (.putfield 20, 3) from by decide +kernel) rfl (by decide) (gm 251 (by decide +kernel) rfl) rfl (Or.inr ⟨rfl, rfl, rfl⟩)) <|
  tk_c (show TrOk D (d + 1) mi_X8_init 24 (tr_aload 25 0) from ok_aload_n (show decode mi_X8_init.2.1 24 = .ok (.aload_n 0, 1) from by decide +kernel) rfl) <|
  tk_c (show TrOk D (d + 1) mi_X8_init 25 (tr_aload 26 1) from ok_aload_n (show decode mi_X8_init.2.1 25 = .ok (.aload_n 1, 1) from by decide +kernel) rfl) <|
  tk_c (show TrOk D (d + 1) mi_X8_init 26 (tr_putR 29 9 800) from ok_putR (ci := 8) (k := 0) (show decode mi_X8_init.2.1 26 = .ok (.putfield 24, 3) from by decide +kernel) rfl (by decide) (gm 245 (by decide +kernel) rfl) rfl (Or.inr ⟨rfl, rfl, rfl⟩)) <|
  tk_c (show TrOk D (d + 1) mi_X8_init 29 (tr_aload 30 0) from ok_aload_n (show decode mi_X8_init.2.1 29 = .ok (.aload_n 0, 1) from by decide +kernel) rfl) <|
  tk_c (show TrOk D (d + 1) mi_X8_init 30 (tr_aload 31 2) from ok_aload_n (show decode mi_X8_init.2.1 30 = .ok (.aload_n 2, 1) from by decide +kernel) rfl) <|
  tk_c (show TrOk D (d + 1) mi_X8_init 31 (tr_putR 34 9 801) from ok_putR (ci := 8) (k := 1) (show decode mi_X8_init.2.1 31 = .ok (.putfield 28, 3) from by decide +kernel) rfl (by decide) (gm 246 (by decide +kernel) rfl) rfl (Or.inr ⟨rfl, rfl, rfl⟩)) <|
  tk_c (show TrOk D (d + 1) mi_X8_init 34 (tr_aload 35 0) from ok_aload_n (show decode mi_X8_init.2.1 34 = .ok (.aload_n 0, 1) from by decide +kernel) rfl) <|
  tk_c (show TrOk D (d + 1) mi_X8_init 35 (tr_aload 36 3) from ok_aload_n (show decode mi_X8_init.2.1 35 = .ok (.aload_n 3, 1) from by decide +kernel) rfl) <|
  tk_c (show TrOk D (d + 1) mi_X8_init 36 (tr_putR 39 9 802) from ok_putR (ci := 8) (k := 2) (show decode mi_X8_init.2.1 36 = .ok (.putfield 32, 3) from by decide +kernel) rfl (by decide) (gm 247 (by decide +kernel) rfl) rfl (Or.inr ⟨rfl, rfl, rfl⟩)) <|
  tk_c (show TrOk D (d + 1) mi_X8_init 39 (tr_aload 40 0) from ok_aload_n (show decode mi_X8_init.2.1 39 = .ok (.aload_n 0, 1) from by decide +kernel) rfl) <|
  tk_c (show TrOk D (d + 1) mi_X8_init 40 (tr_aload 42 4) from ok_aload (show decode mi_X8_init.2.1 40 = .ok (.aload 4, 2) from by decide +kernel)) <|
  tk_c (show TrOk D (d + 1) mi_X8_init 42 (tr_putR 45 9 803) from ok_putR (ci := 8) (k := 3) (show decode mi_X8_init.2.1 42 = .ok (.putfield 36, 3) from by decide +kernel) rfl (by decide) (gm 248 (by decide +kernel) rfl) rfl (Or.inr ⟨rfl, rfl, rfl⟩)) <|
  tk_c (show TrOk D (d + 1) mi_X8_init 45 (tr_aload 46 0) from ok_aload_n (show decode mi_X8_init.2.1 45 = .ok (.aload_n 0, 1) from by decide +kernel) rfl) <|
  tk_c (show TrOk D (d + 1) mi_X8_init 46 (tr_aload 48 5) from ok_aload (show decode mi_X8_init.2.1 46 = .ok (.aload 5, 2) from by decide +kernel)) <|
  tk_c (show TrOk D (d + 1) mi_X8_init 48 (tr_putR 51 9 804) from ok_putR (ci := 8) (k := 4) (show decode mi_X8_init.2.1 48 = .ok (.putfield 40, 3) from by decide +kernel) rfl (by decide) (gm 249 (by decide +kernel) rfl) rfl (Or.inr ⟨rfl, rfl, rfl⟩)) <|
  tk_c (show TrOk D (d + 1) mi_X8_init 51 (tr_ic 52 0) from ok_iconst (show decode mi_X8_init.2.1 51 = .ok (.iconst 0, 1) from by decide +kernel) rfl) <|
  tk_c (show TrOk D (d + 1) mi_X8_init 52 (tr_istore 54 6) from ok_istore (show decode mi_X8_init.2.1 52 = .ok (.istore 6, 2) from by decide +kernel) (by decide)) <|
  tk_c (show TrOk D (d + 1) mi_X8_init 54 (tr_iload 56 6) from ok_iload (show decode mi_X8_init.2.1 54 = .ok (.iload 6, 2) from by decide +kernel)) <|
  tk_c (show TrOk D (d + 1) mi_X8_init 56 (tr_ic 58 12) from ok_bipush (show decode mi_X8_init.2.1 56 = .ok (.bipush 12, 2) from by decide +kernel) rfl) <|
  tk_c (show TrOk D (d + 1) mi_X8_init 58 (tr_icge 61 85) from ok_icge (show decode mi_X8_init.2.1 58 = .ok (.if_icmp .ge 27, 3) from by decide +kernel) (by decide)) <|
  tk_c (show TrOk D (d + 1) mi_X8_init 61 (tr_aload 62 0) from ok_aload_n (show decode mi_X8_init.2.1 61 = .ok (.aload_n 0, 1) from by decide +kernel) rfl) <|
  tk_c (show TrOk D (d + 1) mi_X8_init 62 (tr_getR 65 9 806) from ok_getR (ci := 8) (k := 6) (show decode mi_X8_init.2.1 62 = .ok (.getfield 20, 3) from by decide +kernel) rfl (by decide) (gm 251 (by decide +kernel) rfl) rfl) <|
  tk_c (show TrOk D (d + 1) mi_X8_init 65 (tr_iload 67 6) from ok_iload (show decode mi_X8_init.2.1 65 = .ok (.iload 6, 2) from by decide +kernel)) <|
  tk_c (show TrOk D (d + 1) mi_X8_init 67 (tr_new 70 2 6) from ok_new (ci := 1) (show decode mi_X8_init.2.1 67 = .ok (.new 18, 3) from by decide +kernel) rfl (gm 215 (by decide +kernel) rfl) (gm 217 (by decide +kernel) rfl) (gm 37 (by decide +kernel) rfl)) <|
  tk_c (show TrOk D (d + 1) mi_X8_init 70 (tr_dup 71) from ok_dup (show decode mi_X8_init.2.1 70 = .ok (.dup, 1) from by decide +kernel)) <|
  tk_c (show TrOk D (d + 1) mi_X8_init 71 (tr_iload 73 6) from ok_iload (show decode mi_X8_init.2.1 71 = .ok (.iload 6, 2) from by decide +kernel)) <|
  tk_c (show TrOk D (d + 1) mi_X8_init 73 (tr_ic 74 1) from ok_iconst (show decode mi_X8_init.2.1 73 = .ok (.iconst 1, 1) from by decide +kernel) rfl) <|
  tk_c (show TrOk D (d + 1) mi_X8_init 74 (tr_iadd 75) from ok_iadd (show decode mi_X8_init.2.1 74 = .ok (.iadd, 1) from by decide +kernel)) <|
  tk_c (show TrOk D (d + 1) mi_X8_init 75 (tr_callI (C 3) 78 1) from ok_callI (show decode mi_X8_init.2.1 75 = .ok (.invokespecial 44, 3) from by decide +kernel) mok_X1_init rfl rfl (gm 218 (by decide +kernel) rfl) (gm 219 (by decide +kernel) rfl) (hC 3)) <|
  tk_n
def tb_X8_init_1 (C : Nat → Sp) : Tab := [(78, tr_aast 79 4), (79, tr_iinc 82 6 1), (82, tr_goto 54), (85, tr_ret)]
set_option maxRecDepth 20000 in
theorem tbk_X8_init_1 {D : DD} {d : Nat} {C : Nat → Sp} (hC : Snd D d C) : ∀ e ∈ tb_X8_init_1 C, TrOk D (d + 1) mi_X8_init e.1 e.2 :=
  tk_c (show TrOk D (d + 1) mi_X8_init 78 (tr_aast 79 4) from ok_aast (by decide) (by decide) (show decode mi_X8_init.2.1 78 = .ok (.aastore, 1) from by decide +kernel)) <|
  tk_c (show TrOk D (d + 1) mi_X8_init 79 (tr_iinc 82 6 1) from ok_iinc (show decode mi_X8_init.2.1 79 = .ok (.iinc 6 1, 3) from by decide +kernel) rfl (by decide)) <|
  tk_c (show TrOk D (d + 1) mi_X8_init 82 (tr_goto 54) from ok_goto (show decode mi_X8_init.2.1 82 = .ok (.goto (-28), 3) from by decide +kernel) (by decide)) <|
  tk_c (show TrOk D (d + 1) mi_X8_init 85 (tr_ret) from ok_ret (show decode mi_X8_init.2.1 85 = .ok (.return_, 1) from by decide +kernel) rfl) <|
  tk_n
def tb_X8_init (C : Nat → Sp) : Tab := tb_X8_init_0 C ++ (tb_X8_init_1 C)
theorem tbk_X8_init {D : DD} {d : Nat} {C : Nat → Sp} (hC : Snd D d C) : ∀ e ∈ tb_X8_init C, TrOk D (d + 1) mi_X8_init e.1 e.2 := tk_a (tbk_X8_init_0 hC) (tbk_X8_init_1 hC)
theorem a_X8_init_0 (C : Nat → Sp) : ta (tb_X8_init C) 0 = tr_aload 1 0 := rfl
theorem a_X8_init_1 (C : Nat → Sp) : ta (tb_X8_init C) 1 = tr_obj 4 := rfl
theorem a_X8_init_4 (C : Nat → Sp) : ta (tb_X8_init C) 4 = tr_aload 5 0 := rfl
theorem a_X8_init_5 (C : Nat → Sp) : ta (tb_X8_init C) 5 = tr_new 8 11 4 := rfl
theorem a_X8_init_8 (C : Nat → Sp) : ta (tb_X8_init C) 8 = tr_dup 9 := rfl
theorem a_X8_init_9 (C : Nat → Sp) : ta (tb_X8_init C) 9 = tr_callI (C 61) 12 0 := rfl
theorem a_X8_init_12 (C : Nat → Sp) : ta (tb_X8_init C) 12 = tr_putR 15 9 805 := rfl
theorem a_X8_init_15 (C : Nat → Sp) : ta (tb_X8_init C) 15 = tr_aload 16 0 := rfl
theorem a_X8_init_16 (C : Nat → Sp) : ta (tb_X8_init C) 16 = tr_ic 18 12 := rfl
theorem a_X8_init_18 (C : Nat → Sp) : ta (tb_X8_init C) 18 = tr_anew 21 4040018 12 12 := rfl
theorem a_X8_init_21 (C : Nat → Sp) : ta (tb_X8_init C) 21 = tr_putR 24 9 806 := rfl
theorem a_X8_init_24 (C : Nat → Sp) : ta (tb_X8_init C) 24 = tr_aload 25 0 := rfl
theorem a_X8_init_25 (C : Nat → Sp) : ta (tb_X8_init C) 25 = tr_aload 26 1 := rfl
theorem a_X8_init_26 (C : Nat → Sp) : ta (tb_X8_init C) 26 = tr_putR 29 9 800 := rfl
theorem a_X8_init_29 (C : Nat → Sp) : ta (tb_X8_init C) 29 = tr_aload 30 0 := rfl
theorem a_X8_init_30 (C : Nat → Sp) : ta (tb_X8_init C) 30 = tr_aload 31 2 := rfl
theorem a_X8_init_31 (C : Nat → Sp) : ta (tb_X8_init C) 31 = tr_putR 34 9 801 := rfl
theorem a_X8_init_34 (C : Nat → Sp) : ta (tb_X8_init C) 34 = tr_aload 35 0 := rfl
theorem a_X8_init_35 (C : Nat → Sp) : ta (tb_X8_init C) 35 = tr_aload 36 3 := rfl
theorem a_X8_init_36 (C : Nat → Sp) : ta (tb_X8_init C) 36 = tr_putR 39 9 802 := rfl
theorem a_X8_init_39 (C : Nat → Sp) : ta (tb_X8_init C) 39 = tr_aload 40 0 := rfl
theorem a_X8_init_40 (C : Nat → Sp) : ta (tb_X8_init C) 40 = tr_aload 42 4 := rfl
theorem a_X8_init_42 (C : Nat → Sp) : ta (tb_X8_init C) 42 = tr_putR 45 9 803 := rfl
theorem a_X8_init_45 (C : Nat → Sp) : ta (tb_X8_init C) 45 = tr_aload 46 0 := rfl
theorem a_X8_init_46 (C : Nat → Sp) : ta (tb_X8_init C) 46 = tr_aload 48 5 := rfl
theorem a_X8_init_48 (C : Nat → Sp) : ta (tb_X8_init C) 48 = tr_putR 51 9 804 := rfl
theorem a_X8_init_51 (C : Nat → Sp) : ta (tb_X8_init C) 51 = tr_ic 52 0 := rfl
theorem a_X8_init_52 (C : Nat → Sp) : ta (tb_X8_init C) 52 = tr_istore 54 6 := rfl
theorem a_X8_init_54 (C : Nat → Sp) : ta (tb_X8_init C) 54 = tr_iload 56 6 := rfl
theorem a_X8_init_56 (C : Nat → Sp) : ta (tb_X8_init C) 56 = tr_ic 58 12 := rfl
theorem a_X8_init_58 (C : Nat → Sp) : ta (tb_X8_init C) 58 = tr_icge 61 85 := rfl
theorem a_X8_init_61 (C : Nat → Sp) : ta (tb_X8_init C) 61 = tr_aload 62 0 := rfl
theorem a_X8_init_62 (C : Nat → Sp) : ta (tb_X8_init C) 62 = tr_getR 65 9 806 := rfl
theorem a_X8_init_65 (C : Nat → Sp) : ta (tb_X8_init C) 65 = tr_iload 67 6 := rfl
theorem a_X8_init_67 (C : Nat → Sp) : ta (tb_X8_init C) 67 = tr_new 70 2 6 := rfl
theorem a_X8_init_70 (C : Nat → Sp) : ta (tb_X8_init C) 70 = tr_dup 71 := rfl
theorem a_X8_init_71 (C : Nat → Sp) : ta (tb_X8_init C) 71 = tr_iload 73 6 := rfl
theorem a_X8_init_73 (C : Nat → Sp) : ta (tb_X8_init C) 73 = tr_ic 74 1 := rfl
theorem a_X8_init_74 (C : Nat → Sp) : ta (tb_X8_init C) 74 = tr_iadd 75 := rfl
theorem a_X8_init_75 (C : Nat → Sp) : ta (tb_X8_init C) 75 = tr_callI (C 3) 78 1 := rfl
theorem a_X8_init_78 (C : Nat → Sp) : ta (tb_X8_init C) 78 = tr_aast 79 4 := rfl
theorem a_X8_init_79 (C : Nat → Sp) : ta (tb_X8_init C) 79 = tr_iinc 82 6 1 := rfl
theorem a_X8_init_82 (C : Nat → Sp) : ta (tb_X8_init C) 82 = tr_goto 54 := rfl
theorem a_X8_init_85 (C : Nat → Sp) : ta (tb_X8_init C) 85 = tr_ret := rfl

def tb_X8_tellAll_0 (C : Nat → Sp) : Tab := [(0, tr_aload 1 0), (1, tr_getR 4 9 806), (4, tr_ic 5 0), (5, tr_aald 6 4), (6, tr_astore 8 4), (8, tr_aload 9 0), (9, tr_getR 12 9 804), (12, tr_callV (C 35) 15 8 0), (15, tr_aload 16 0), (16, tr_aload 18 4), (18, tr_aload 19 1), (19, tr_lload 20 2), (20, tr_callV (C 42) 23 9 3), (23, tr_aload 24 0), (24, tr_getR 27 9 804), (27, tr_aload 29 4), (29, tr_getL 32 2 103), (32, tr_putL 35 8 711), (35, tr_aload 36 0), (36, tr_getR 39 9 804), (39, tr_aload 41 4), (41, tr_getI 44 2 105), (44, tr_putI 47 8 710), (47, tr_ic 48 1), (48, tr_istore 50 5), (50, tr_iload 52 5), (52, tr_ic 54 60), (54, tr_icge 57 128), (57, tr_aload 58 0), (58, tr_getR 61 9 805), (61, tr_getI 64 11 1003), (64, tr_ifeq 67 128), (67, tr_aload 68 0), (68, tr_getR 71 9 804), (71, tr_getI 74 8 704), (74, tr_ic 76 60), (76, tr_iclt 79 82), (79, tr_goto 128), (82, tr_aload 83 0), (83, tr_getR 86 9 805)]
set_option maxRecDepth 20000 in
theorem tbk_X8_tellAll_0 {D : DD} {d : Nat} {C : Nat → Sp} (hC : Snd D d C) : ∀ e ∈ tb_X8_tellAll_0 C, TrOk D (d + 1) mi_X8_tellAll e.1 e.2 :=
  tk_c (show TrOk D (d + 1) mi_X8_tellAll 0 (tr_aload 1 0) from ok_aload_n (show decode mi_X8_tellAll.2.1 0 = .ok (.aload_n 0, 1) from by decide +kernel) rfl) <|
  tk_c (show TrOk D (d + 1) mi_X8_tellAll 1 (tr_getR 4 9 806) from ok_getR (ci := 8) (k := 6) (show decode mi_X8_tellAll.2.1 1 = .ok (.getfield 20, 3) from by decide +kernel) rfl (by decide) (gm 251 (by decide +kernel) rfl) rfl) <|
  tk_c (show TrOk D (d + 1) mi_X8_tellAll 4 (tr_ic 5 0) from ok_iconst (show decode mi_X8_tellAll.2.1 4 = .ok (.iconst 0, 1) from by decide +kernel) rfl) <|
  tk_c (show TrOk D (d + 1) mi_X8_tellAll 5 (tr_aald 6 4) from ok_aald (by decide) (by decide) (show decode mi_X8_tellAll.2.1 5 = .ok (.aaload, 1) from by decide +kernel)) <|
  tk_c (show TrOk D (d + 1) mi_X8_tellAll 6 (tr_astore 8 4) from ok_astore (show decode mi_X8_tellAll.2.1 6 = .ok (.astore 4, 2) from by decide +kernel) (by decide)) <|
  tk_c (show TrOk D (d + 1) mi_X8_tellAll 8 (tr_aload 9 0) from ok_aload_n (show decode mi_X8_tellAll.2.1 8 = .ok (.aload_n 0, 1) from by decide +kernel) rfl) <|
  tk_c (show TrOk D (d + 1) mi_X8_tellAll 9 (tr_getR 12 9 804) from ok_getR (ci := 8) (k := 4) (show decode mi_X8_tellAll.2.1 9 = .ok (.getfield 40, 3) from by decide +kernel) rfl (by decide) (gm 249 (by decide +kernel) rfl) rfl) <|
  tk_c (show TrOk D (d + 1) mi_X8_tellAll 12 (tr_callV (C 35) 15 8 0) from ok_callV (ci := 7) (show decode mi_X8_tellAll.2.1 12 = .ok (.invokevirtual 47, 3) from by decide +kernel) mok_X7_begin rfl rfl (gm 564 (by decide +kernel) rfl) (gm 565 (by decide +kernel) rfl) (gm 566 (by decide +kernel) rfl) (hC 35)) <|
  tk_c (show TrOk D (d + 1) mi_X8_tellAll 15 (tr_aload 16 0) from ok_aload_n (show decode mi_X8_tellAll.2.1 15 = .ok (.aload_n 0, 1) from by decide +kernel) rfl) <|
  tk_c (show TrOk D (d + 1) mi_X8_tellAll 16 (tr_aload 18 4) from ok_aload (show decode mi_X8_tellAll.2.1 16 = .ok (.aload 4, 2) from by decide +kernel)) <|
  tk_c (show TrOk D (d + 1) mi_X8_tellAll 18 (tr_aload 19 1) from ok_aload_n (show decode mi_X8_tellAll.2.1 18 = .ok (.aload_n 1, 1) from by decide +kernel) rfl) <|
  tk_c (show TrOk D (d + 1) mi_X8_tellAll 19 (tr_lload 20 2) from ok_lload_n (show decode mi_X8_tellAll.2.1 19 = .ok (.lload_n 2, 1) from by decide +kernel) rfl) <|
  tk_c (show TrOk D (d + 1) mi_X8_tellAll 20 (tr_callV (C 42) 23 9 3) from ok_callV (ci := 8) (show decode mi_X8_tellAll.2.1 20 = .ok (.invokevirtual 52, 3) from by decide +kernel) mok_X8_tell rfl rfl (gm 568 (by decide +kernel) rfl) (gm 570 (by decide +kernel) rfl) (gm 1 (by decide +kernel) rfl) (hC 42)) <|
  tk_c (show TrOk D (d + 1) mi_X8_tellAll 23 (tr_aload 24 0) from ok_aload_n (show decode mi_X8_tellAll.2.1 23 = .ok (.aload_n 0, 1) from by decide +kernel) rfl) <|
  tk_c (show TrOk D (d + 1) mi_X8_tellAll 24 (tr_getR 27 9 804) from ok_getR (ci := 8) (k := 4) (show decode mi_X8_tellAll.2.1 24 = .ok (.getfield 40, 3) from by decide +kernel) rfl (by decide) (gm 249 (by decide +kernel) rfl) rfl) <|
  tk_c (show TrOk D (d + 1) mi_X8_tellAll 27 (tr_aload 29 4) from ok_aload (show decode mi_X8_tellAll.2.1 27 = .ok (.aload 4, 2) from by decide +kernel)) <|
  tk_c (show TrOk D (d + 1) mi_X8_tellAll 29 (tr_getL 32 2 103) from ok_getL (ci := 1) (k := 3) (show decode mi_X8_tellAll.2.1 29 = .ok (.getfield 56, 3) from by decide +kernel) rfl (by decide) (gm 228 (by decide +kernel) rfl) rfl) <|
  tk_c (show TrOk D (d + 1) mi_X8_tellAll 32 (tr_putL 35 8 711) from ok_putL (ci := 7) (k := 11) (show decode mi_X8_tellAll.2.1 32 = .ok (.putfield 60, 3) from by decide +kernel) rfl (by decide) (gm 160 (by decide +kernel) rfl) rfl (Or.inl rfl)) <|
  tk_c (show TrOk D (d + 1) mi_X8_tellAll 35 (tr_aload 36 0) from ok_aload_n (show decode mi_X8_tellAll.2.1 35 = .ok (.aload_n 0, 1) from by decide +kernel) rfl) <|
  tk_c (show TrOk D (d + 1) mi_X8_tellAll 36 (tr_getR 39 9 804) from ok_getR (ci := 8) (k := 4) (show decode mi_X8_tellAll.2.1 36 = .ok (.getfield 40, 3) from by decide +kernel) rfl (by decide) (gm 249 (by decide +kernel) rfl) rfl) <|
  tk_c (show TrOk D (d + 1) mi_X8_tellAll 39 (tr_aload 41 4) from ok_aload (show decode mi_X8_tellAll.2.1 39 = .ok (.aload 4, 2) from by decide +kernel)) <|
  tk_c (show TrOk D (d + 1) mi_X8_tellAll 41 (tr_getI 44 2 105) from ok_getI (ci := 1) (k := 5) (show decode mi_X8_tellAll.2.1 41 = .ok (.getfield 61, 3) from by decide +kernel) rfl (by decide) (gm 231 (by decide +kernel) rfl) rfl) <|
  tk_c (show TrOk D (d + 1) mi_X8_tellAll 44 (tr_putI 47 8 710) from ok_putI (ci := 7) (k := 10) (show decode mi_X8_tellAll.2.1 44 = .ok (.putfield 65, 3) from by decide +kernel) rfl (by decide) (gm 158 (by decide +kernel) rfl) rfl (Or.inl rfl)) <|
  tk_c (show TrOk D (d + 1) mi_X8_tellAll 47 (tr_ic 48 1) from ok_iconst (show decode mi_X8_tellAll.2.1 47 = .ok (.iconst 1, 1) from by decide +kernel) rfl) <|
  tk_c (show TrOk D (d + 1) mi_X8_tellAll 48 (tr_istore 50 5) from ok_istore (show decode mi_X8_tellAll.2.1 48 = .ok (.istore 5, 2) from by decide +kernel) (by decide)) <|
  tk_c (show TrOk D (d + 1) mi_X8_tellAll 50 (tr_iload 52 5) from ok_iload (show decode mi_X8_tellAll.2.1 50 = .ok (.iload 5, 2) from by decide +kernel)) <|
  tk_c (show TrOk D (d + 1) mi_X8_tellAll 52 (tr_ic 54 60) from ok_bipush (show decode mi_X8_tellAll.2.1 52 = .ok (.bipush 60, 2) from by decide +kernel) rfl) <|
  tk_c (show TrOk D (d + 1) mi_X8_tellAll 54 (tr_icge 57 128) from ok_icge (show decode mi_X8_tellAll.2.1 54 = .ok (.if_icmp .ge 74, 3) from by decide +kernel) (by decide)) <|
  tk_c (show TrOk D (d + 1) mi_X8_tellAll 57 (tr_aload 58 0) from ok_aload_n (show decode mi_X8_tellAll.2.1 57 = .ok (.aload_n 0, 1) from by decide +kernel) rfl) <|
  tk_c (show TrOk D (d + 1) mi_X8_tellAll 58 (tr_getR 61 9 805) from ok_getR (ci := 8) (k := 5) (show decode mi_X8_tellAll.2.1 58 = .ok (.getfield 12, 3) from by decide +kernel) rfl (by decide) (gm 250 (by decide +kernel) rfl) rfl) <|
  tk_c (show TrOk D (d + 1) mi_X8_tellAll 61 (tr_getI 64 11 1003) from ok_getI (ci := 10) (k := 3) (show decode mi_X8_tellAll.2.1 61 = .ok (.getfield 66, 3) from by decide +kernel) rfl (by decide) (gm 205 (by decide +kernel) rfl) rfl) <|
  tk_c (show TrOk D (d + 1) mi_X8_tellAll 64 (tr_ifeq 67 128) from ok_ifeq (show decode mi_X8_tellAll.2.1 64 = .ok (.ifCond .eq 64, 3) from by decide +kernel) (by decide)) <|
  tk_c (show TrOk D (d + 1) mi_X8_tellAll 67 (tr_aload 68 0) from ok_aload_n (show decode mi_X8_tellAll.2.1 67 = .ok (.aload_n 0, 1) from by decide +kernel) rfl) <|
  tk_c (show TrOk D (d + 1) mi_X8_tellAll 68 (tr_getR 71 9 804) from ok_getR (ci := 8) (k := 4) (show decode mi_X8_tellAll.2.1 68 = .ok (.getfield 40, 3) from by decide +kernel) rfl (by decide) (gm 249 (by decide +kernel) rfl) rfl) <|
  tk_c (show TrOk D (d + 1) mi_X8_tellAll 71 (tr_getI 74 8 704) from ok_getI (ci := 7) (k := 4) (show decode mi_X8_tellAll.2.1 71 = .ok (.getfield 69, 3) from by decide +kernel) rfl (by decide) (gm 143 (by decide +kernel) rfl) rfl) <|
  tk_c (show TrOk D (d + 1) mi_X8_tellAll 74 (tr_ic 76 60) from ok_bipush (show decode mi_X8_tellAll.2.1 74 = .ok (.bipush 60, 2) from by decide +kernel) rfl) <|
  tk_c (show TrOk D (d + 1) mi_X8_tellAll 76 (tr_iclt 79 82) from ok_iclt (show decode mi_X8_tellAll.2.1 76 = .ok (.if_icmp .lt 6, 3) from by decide +kernel) (by decide)) <|
  tk_c (show TrOk D (d + 1) mi_X8_tellAll 79 (tr_goto 128) from ok_goto (show decode mi_X8_tellAll.2.1 79 = .ok (.goto 49, 3) from by decide +kernel) (by decide)) <|
  tk_c (show TrOk D (d + 1) mi_X8_tellAll 82 (tr_aload 83 0) from ok_aload_n (show decode mi_X8_tellAll.2.1 82 = .ok (.aload_n 0, 1) from by decide +kernel) rfl) <|
  tk_c (show TrOk D (d + 1) mi_X8_tellAll 83 (tr_getR 86 9 805) from ok_getR (ci := 8) (k := 5) (show decode mi_X8_tellAll.2.1 83 = .ok (.getfield 12, 3) from by decide +kernel) rfl (by decide) (gm 250 (by decide +kernel) rfl) rfl) <|
  tk_n
def tb_X8_tellAll_1 (C : Nat → Sp) : Tab := [(86, tr_callV (C 64) 89 11 0), (89, tr_astore 91 6), (91, tr_aload 92 0), (92, tr_getR 95 9 805), (95, tr_callV (C 65) 98 11 0), (98, tr_lstore 100 7), (100, tr_aload 101 0), (101, tr_getR 104 9 805), (104, tr_callV (C 66) 107 11 0), (107, tr_aload 109 6), (109, tr_ifnull 112 122), (112, tr_aload 113 0), (113, tr_aload 115 4), (115, tr_aload 117 6), (117, tr_lload 119 7), (119, tr_callV (C 42) 122 9 3), (122, tr_iinc 125 5 1), (125, tr_goto 50), (128, tr_aload 129 0), (129, tr_getR 132 9 805), (132, tr_callV (C 67) 135 11 0), (135, tr_aload 136 0), (136, tr_getR 139 9 804), (139, tr_getI 142 8 704), (142, tr_iret)]
set_option maxRecDepth 20000 in
theorem tbk_X8_tellAll_1 {D : DD} {d : Nat} {C : Nat → Sp} (hC : Snd D d C) : ∀ e ∈ tb_X8_tellAll_1 C, TrOk D (d + 1) mi_X8_tellAll e.1 e.2 :=
  tk_c (show TrOk D (d + 1) mi_X8_tellAll 86 (tr_callV (C 64) 89 11 0) from ok_callV (ci := 10) (show decode mi_X8_tellAll.2.1 86 = .ok (.invokevirtual 71, 3) from by decide +kernel) mok_X10_firstKind rfl rfl (gm 705 (by decide +kernel) rfl) (gm 706 (by decide +kernel) rfl) (gm 707 (by decide +kernel) rfl) (hC 64)) <|
  tk_c (show TrOk D (d + 1) mi_X8_tellAll 89 (tr_astore 91 6) from ok_astore (show decode mi_X8_tellAll.2.1 89 = .ok (.astore 6, 2) from by decide +kernel) (by decide)) <|
  tk_c (show TrOk D (d + 1) mi_X8_tellAll 91 (tr_aload 92 0) from ok_aload_n (show decode mi_X8_tellAll.2.1 91 = .ok (.aload_n 0, 1) from by decide +kernel) rfl) <|
  tk_c (show TrOk D (d + 1) mi_X8_tellAll 92 (tr_getR 95 9 805) from ok_getR (ci := 8) (k := 5) (show decode mi_X8_tellAll.2.1 92 = .ok (.getfield 12, 3) from by decide +kernel) rfl (by decide) (gm 250 (by decide +kernel) rfl) rfl) <|
  tk_c (show TrOk D (d + 1) mi_X8_tellAll 95 (tr_callV (C 65) 98 11 0) from ok_callV (ci := 10) (show decode mi_X8_tellAll.2.1 95 = .ok (.invokevirtual 75, 3) from by decide +kernel) mok_X10_firstValue rfl rfl (gm 709 (by decide +kernel) rfl) (gm 710 (by decide +kernel) rfl) (gm 711 (by decide +kernel) rfl) (hC 65)) <|
  tk_c (show TrOk D (d + 1) mi_X8_tellAll 98 (tr_lstore 100 7) from ok_lstore (show decode mi_X8_tellAll.2.1 98 = .ok (.lstore 7, 2) from by decide +kernel) (by decide)) <|
  tk_c (show TrOk D (d + 1) mi_X8_tellAll 100 (tr_aload 101 0) from ok_aload_n (show decode mi_X8_tellAll.2.1 100 = .ok (.aload_n 0, 1) from by decide +kernel) rfl) <|
  tk_c (show TrOk D (d + 1) mi_X8_tellAll 101 (tr_getR 104 9 805) from ok_getR (ci := 8) (k := 5) (show decode mi_X8_tellAll.2.1 101 = .ok (.getfield 12, 3) from by decide +kernel) rfl (by decide) (gm 250 (by decide +kernel) rfl) rfl) <|
  tk_c (show TrOk D (d + 1) mi_X8_tellAll 104 (tr_callV (C 66) 107 11 0) from ok_callV (ci := 10) (show decode mi_X8_tellAll.2.1 104 = .ok (.invokevirtual 79, 3) from by decide +kernel) mok_X10_dropFirst rfl rfl (gm 713 (by decide +kernel) rfl) (gm 714 (by decide +kernel) rfl) (gm 715 (by decide +kernel) rfl) (hC 66)) <|
  tk_c (show TrOk D (d + 1) mi_X8_tellAll 107 (tr_aload 109 6) from ok_aload (show decode mi_X8_tellAll.2.1 107 = .ok (.aload 6, 2) from by decide +kernel)) <|
  tk_c (show TrOk D (d + 1) mi_X8_tellAll 109 (tr_ifnull 112 122) from ok_ifnull (show decode mi_X8_tellAll.2.1 109 = .ok (.ifnull 13, 3) from by decide +kernel) (by decide)) <|
  tk_c (show TrOk D (d + 1) mi_X8_tellAll 112 (tr_aload 113 0) from ok_aload_n (show decode mi_X8_tellAll.2.1 112 = .ok (.aload_n 0, 1) from by decide +kernel) rfl) <|
  tk_c (show TrOk D (d + 1) mi_X8_tellAll 113 (tr_aload 115 4) from ok_aload (show decode mi_X8_tellAll.2.1 113 = .ok (.aload 4, 2) from by decide +kernel)) <|
  tk_c (show TrOk D (d + 1) mi_X8_tellAll 115 (tr_aload 117 6) from ok_aload (show decode mi_X8_tellAll.2.1 115 = .ok (.aload 6, 2) from by decide +kernel)) <|
  tk_c (show TrOk D (d + 1) mi_X8_tellAll 117 (tr_lload 119 7) from ok_lload (show decode mi_X8_tellAll.2.1 117 = .ok (.lload 7, 2) from by decide +kernel)) <|
  tk_c (show TrOk D (d + 1) mi_X8_tellAll 119 (tr_callV (C 42) 122 9 3) from ok_callV (ci := 8) (show decode mi_X8_tellAll.2.1 119 = .ok (.invokevirtual 52, 3) from by decide +kernel) mok_X8_tell rfl rfl (gm 568 (by decide +kernel) rfl) (gm 570 (by decide +kernel) rfl) (gm 1 (by decide +kernel) rfl) (hC 42)) <|
  tk_c (show TrOk D (d + 1) mi_X8_tellAll 122 (tr_iinc 125 5 1) from ok_iinc (show decode mi_X8_tellAll.2.1 122 = .ok (.iinc 5 1, 3) from by decide +kernel) rfl (by decide)) <|
  tk_c (show TrOk D (d + 1) mi_X8_tellAll 125 (tr_goto 50) from ok_goto (show decode mi_X8_tellAll.2.1 125 = .ok (.goto (-75), 3) from by decide +kernel) (by decide)) <|
  tk_c (show TrOk D (d + 1) mi_X8_tellAll 128 (tr_aload 129 0) from ok_aload_n (show decode mi_X8_tellAll.2.1 128 = .ok (.aload_n 0, 1) from by decide +kernel) rfl) <|
  tk_c (show TrOk D (d + 1) mi_X8_tellAll 129 (tr_getR 132 9 805) from ok_getR (ci := 8) (k := 5) (show decode mi_X8_tellAll.2.1 129 = .ok (.getfield 12, 3) from by decide +kernel) rfl (by decide) (gm 250 (by decide +kernel) rfl) rfl) <|
  tk_c (show TrOk D (d + 1) mi_X8_tellAll 132 (tr_callV (C 67) 135 11 0) from ok_callV (ci := 10) (show decode mi_X8_tellAll.2.1 132 = .ok (.invokevirtual 82, 3) from by decide +kernel) mok_X10_forget rfl rfl (gm 717 (by decide +kernel) rfl) (gm 718 (by decide +kernel) rfl) (gm 719 (by decide +kernel) rfl) (hC 67)) <|
  tk_c (show TrOk D (d + 1) mi_X8_tellAll 135 (tr_aload 136 0) from ok_aload_n (show decode mi_X8_tellAll.2.1 135 = .ok (.aload_n 0, 1) from by decide +kernel) rfl) <|
  tk_c (show TrOk D (d + 1) mi_X8_tellAll 136 (tr_getR 139 9 804) from ok_getR (ci := 8) (k := 4) (show decode mi_X8_tellAll.2.1 136 = .ok (.getfield 40, 3) from by decide +kernel) rfl (by decide) (gm 249 (by decide +kernel) rfl) rfl) <|
  tk_c (show TrOk D (d + 1) mi_X8_tellAll 139 (tr_getI 142 8 704) from ok_getI (ci := 7) (k := 4) (show decode mi_X8_tellAll.2.1 139 = .ok (.getfield 69, 3) from by decide +kernel) rfl (by decide) (gm 143 (by decide +kernel) rfl) rfl) <|
  tk_c (show TrOk D (d + 1) mi_X8_tellAll 142 (tr_iret) from ok_iret (show decode mi_X8_tellAll.2.1 142 = .ok (.ireturn, 1) from by decide +kernel) rfl) <|
  tk_n
def tb_X8_tellAll (C : Nat → Sp) : Tab := tb_X8_tellAll_0 C ++ (tb_X8_tellAll_1 C)
theorem tbk_X8_tellAll {D : DD} {d : Nat} {C : Nat → Sp} (hC : Snd D d C) : ∀ e ∈ tb_X8_tellAll C, TrOk D (d + 1) mi_X8_tellAll e.1 e.2 := tk_a (tbk_X8_tellAll_0 hC) (tbk_X8_tellAll_1 hC)
theorem a_X8_tellAll_0 (C : Nat → Sp) : ta (tb_X8_tellAll C) 0 = tr_aload 1 0 := rfl
theorem a_X8_tellAll_1 (C : Nat → Sp) : ta (tb_X8_tellAll C) 1 = tr_getR 4 9 806 := rfl
theorem a_X8_tellAll_4 (C : Nat → Sp) : ta (tb_X8_tellAll C) 4 = tr_ic 5 0 := rfl
theorem a_X8_tellAll_5 (C : Nat → Sp) : ta (tb_X8_tellAll C) 5 = tr_aald 6 4 := rfl
theorem a_X8_tellAll_6 (C : Nat → Sp) : ta (tb_X8_tellAll C) 6 = tr_astore 8 4 := rfl
theorem a_X8_tellAll_8 (C : Nat → Sp) : ta (tb_X8_tellAll C) 8 = tr_aload 9 0 := rfl
theorem a_X8_tellAll_9 (C : Nat → Sp) : ta (tb_X8_tellAll C) 9 = tr_getR 12 9 804 := rfl
theorem a_X8_tellAll_12 (C : Nat → Sp) : ta (tb_X8_tellAll C) 12 = tr_callV (C 35) 15 8 0 := rfl
theorem a_X8_tellAll_15 (C : Nat → Sp) : ta (tb_X8_tellAll C) 15 = tr_aload 16 0 := rfl
theorem a_X8_tellAll_16 (C : Nat → Sp) : ta (tb_X8_tellAll C) 16 = tr_aload 18 4 := rfl
theorem a_X8_tellAll_18 (C : Nat → Sp) : ta (tb_X8_tellAll C) 18 = tr_aload 19 1 := rfl
theorem a_X8_tellAll_19 (C : Nat → Sp) : ta (tb_X8_tellAll C) 19 = tr_lload 20 2 := rfl
theorem a_X8_tellAll_20 (C : Nat → Sp) : ta (tb_X8_tellAll C) 20 = tr_callV (C 42) 23 9 3 := rfl
theorem a_X8_tellAll_23 (C : Nat → Sp) : ta (tb_X8_tellAll C) 23 = tr_aload 24 0 := rfl
theorem a_X8_tellAll_24 (C : Nat → Sp) : ta (tb_X8_tellAll C) 24 = tr_getR 27 9 804 := rfl
theorem a_X8_tellAll_27 (C : Nat → Sp) : ta (tb_X8_tellAll C) 27 = tr_aload 29 4 := rfl
theorem a_X8_tellAll_29 (C : Nat → Sp) : ta (tb_X8_tellAll C) 29 = tr_getL 32 2 103 := rfl
theorem a_X8_tellAll_32 (C : Nat → Sp) : ta (tb_X8_tellAll C) 32 = tr_putL 35 8 711 := rfl
theorem a_X8_tellAll_35 (C : Nat → Sp) : ta (tb_X8_tellAll C) 35 = tr_aload 36 0 := rfl
theorem a_X8_tellAll_36 (C : Nat → Sp) : ta (tb_X8_tellAll C) 36 = tr_getR 39 9 804 := rfl
theorem a_X8_tellAll_39 (C : Nat → Sp) : ta (tb_X8_tellAll C) 39 = tr_aload 41 4 := rfl
theorem a_X8_tellAll_41 (C : Nat → Sp) : ta (tb_X8_tellAll C) 41 = tr_getI 44 2 105 := rfl
theorem a_X8_tellAll_44 (C : Nat → Sp) : ta (tb_X8_tellAll C) 44 = tr_putI 47 8 710 := rfl
theorem a_X8_tellAll_47 (C : Nat → Sp) : ta (tb_X8_tellAll C) 47 = tr_ic 48 1 := rfl
theorem a_X8_tellAll_48 (C : Nat → Sp) : ta (tb_X8_tellAll C) 48 = tr_istore 50 5 := rfl
theorem a_X8_tellAll_50 (C : Nat → Sp) : ta (tb_X8_tellAll C) 50 = tr_iload 52 5 := rfl
theorem a_X8_tellAll_52 (C : Nat → Sp) : ta (tb_X8_tellAll C) 52 = tr_ic 54 60 := rfl
theorem a_X8_tellAll_54 (C : Nat → Sp) : ta (tb_X8_tellAll C) 54 = tr_icge 57 128 := rfl
theorem a_X8_tellAll_57 (C : Nat → Sp) : ta (tb_X8_tellAll C) 57 = tr_aload 58 0 := rfl
theorem a_X8_tellAll_58 (C : Nat → Sp) : ta (tb_X8_tellAll C) 58 = tr_getR 61 9 805 := rfl
theorem a_X8_tellAll_61 (C : Nat → Sp) : ta (tb_X8_tellAll C) 61 = tr_getI 64 11 1003 := rfl
theorem a_X8_tellAll_64 (C : Nat → Sp) : ta (tb_X8_tellAll C) 64 = tr_ifeq 67 128 := rfl
theorem a_X8_tellAll_67 (C : Nat → Sp) : ta (tb_X8_tellAll C) 67 = tr_aload 68 0 := rfl
theorem a_X8_tellAll_68 (C : Nat → Sp) : ta (tb_X8_tellAll C) 68 = tr_getR 71 9 804 := rfl
theorem a_X8_tellAll_71 (C : Nat → Sp) : ta (tb_X8_tellAll C) 71 = tr_getI 74 8 704 := rfl
theorem a_X8_tellAll_74 (C : Nat → Sp) : ta (tb_X8_tellAll C) 74 = tr_ic 76 60 := rfl
theorem a_X8_tellAll_76 (C : Nat → Sp) : ta (tb_X8_tellAll C) 76 = tr_iclt 79 82 := rfl
theorem a_X8_tellAll_79 (C : Nat → Sp) : ta (tb_X8_tellAll C) 79 = tr_goto 128 := rfl
theorem a_X8_tellAll_82 (C : Nat → Sp) : ta (tb_X8_tellAll C) 82 = tr_aload 83 0 := rfl
theorem a_X8_tellAll_83 (C : Nat → Sp) : ta (tb_X8_tellAll C) 83 = tr_getR 86 9 805 := rfl
theorem a_X8_tellAll_86 (C : Nat → Sp) : ta (tb_X8_tellAll C) 86 = tr_callV (C 64) 89 11 0 := rfl
theorem a_X8_tellAll_89 (C : Nat → Sp) : ta (tb_X8_tellAll C) 89 = tr_astore 91 6 := rfl
theorem a_X8_tellAll_91 (C : Nat → Sp) : ta (tb_X8_tellAll C) 91 = tr_aload 92 0 := rfl
theorem a_X8_tellAll_92 (C : Nat → Sp) : ta (tb_X8_tellAll C) 92 = tr_getR 95 9 805 := rfl
theorem a_X8_tellAll_95 (C : Nat → Sp) : ta (tb_X8_tellAll C) 95 = tr_callV (C 65) 98 11 0 := rfl
theorem a_X8_tellAll_98 (C : Nat → Sp) : ta (tb_X8_tellAll C) 98 = tr_lstore 100 7 := rfl
theorem a_X8_tellAll_100 (C : Nat → Sp) : ta (tb_X8_tellAll C) 100 = tr_aload 101 0 := rfl
theorem a_X8_tellAll_101 (C : Nat → Sp) : ta (tb_X8_tellAll C) 101 = tr_getR 104 9 805 := rfl
theorem a_X8_tellAll_104 (C : Nat → Sp) : ta (tb_X8_tellAll C) 104 = tr_callV (C 66) 107 11 0 := rfl
theorem a_X8_tellAll_107 (C : Nat → Sp) : ta (tb_X8_tellAll C) 107 = tr_aload 109 6 := rfl
theorem a_X8_tellAll_109 (C : Nat → Sp) : ta (tb_X8_tellAll C) 109 = tr_ifnull 112 122 := rfl
theorem a_X8_tellAll_112 (C : Nat → Sp) : ta (tb_X8_tellAll C) 112 = tr_aload 113 0 := rfl
theorem a_X8_tellAll_113 (C : Nat → Sp) : ta (tb_X8_tellAll C) 113 = tr_aload 115 4 := rfl
theorem a_X8_tellAll_115 (C : Nat → Sp) : ta (tb_X8_tellAll C) 115 = tr_aload 117 6 := rfl
theorem a_X8_tellAll_117 (C : Nat → Sp) : ta (tb_X8_tellAll C) 117 = tr_lload 119 7 := rfl
theorem a_X8_tellAll_119 (C : Nat → Sp) : ta (tb_X8_tellAll C) 119 = tr_callV (C 42) 122 9 3 := rfl
theorem a_X8_tellAll_122 (C : Nat → Sp) : ta (tb_X8_tellAll C) 122 = tr_iinc 125 5 1 := rfl
theorem a_X8_tellAll_125 (C : Nat → Sp) : ta (tb_X8_tellAll C) 125 = tr_goto 50 := rfl
theorem a_X8_tellAll_128 (C : Nat → Sp) : ta (tb_X8_tellAll C) 128 = tr_aload 129 0 := rfl
theorem a_X8_tellAll_129 (C : Nat → Sp) : ta (tb_X8_tellAll C) 129 = tr_getR 132 9 805 := rfl
set_option maxRecDepth 20000 in
theorem a_X8_tellAll_132 (C : Nat → Sp) : ta (tb_X8_tellAll C) 132 = tr_callV (C 67) 135 11 0 := rfl
set_option maxRecDepth 20000 in
theorem a_X8_tellAll_135 (C : Nat → Sp) : ta (tb_X8_tellAll C) 135 = tr_aload 136 0 := rfl
set_option maxRecDepth 20000 in
theorem a_X8_tellAll_136 (C : Nat → Sp) : ta (tb_X8_tellAll C) 136 = tr_getR 139 9 804 := rfl
set_option maxRecDepth 20000 in
theorem a_X8_tellAll_139 (C : Nat → Sp) : ta (tb_X8_tellAll C) 139 = tr_getI 142 8 704 := rfl
set_option maxRecDepth 20000 in
theorem a_X8_tellAll_142 (C : Nat → Sp) : ta (tb_X8_tellAll C) 142 = tr_iret := rfl

def tb_X8_tell_0 (C : Nat → Sp) : Tab := [(0, tr_aload 1 1), (1, tr_aload 2 2), (2, tr_lload 3 3), (3, tr_callV (C 4) 6 2 2), (6, tr_aload 7 0), (7, tr_getR 10 9 804), (10, tr_aload 11 1), (11, tr_getI 14 2 100), (14, tr_callV (C 36) 17 8 1), (17, tr_aload 18 0), (18, tr_aload 19 1), (19, tr_ic 20 0), (20, tr_callV (C 43) 23 9 2), (23, tr_aload 24 1), (24, tr_callV (C 5) 27 2 0), (27, tr_ifeq 30 31), (30, tr_ret), (31, tr_aload 32 0), (32, tr_getR 35 9 803), (35, tr_aload 36 2), (36, tr_aload 37 1), (37, tr_getL 40 2 103), (40, tr_callV (C 1) 43 1 2), (43, tr_aload 44 0), (44, tr_aload 45 1), (45, tr_ic 46 1), (46, tr_callV (C 43) 49 9 2), (49, tr_aload 50 0), (50, tr_aload 51 1), (51, tr_ic 52 2), (52, tr_callV (C 43) 55 9 2), (55, tr_ret)]
set_option maxRecDepth 20000 in
theorem tbk_X8_tell_0 {D : DD} {d : Nat} {C : Nat → Sp} (hC : Snd D d C) : ∀ e ∈ tb_X8_tell_0 C, TrOk D (d + 1) mi_X8_tell e.1 e.2 :=
  tk_c (show TrOk D (d + 1) mi_X8_tell 0 (tr_aload 1 1) from ok_aload_n (show decode mi_X8_tell.2.1 0 = .ok (.aload_n 1, 1) from by decide +kernel) rfl) <|
  tk_c (show TrOk D (d + 1) mi_X8_tell 1 (tr_aload 2 2) from ok_aload_n (show decode mi_X8_tell.2.1 1 = .ok (.aload_n 2, 1) from by decide +kernel) rfl) <|
  tk_c (show TrOk D (d + 1) mi_X8_tell 2 (tr_lload 3 3) from ok_lload_n (show decode mi_X8_tell.2.1 2 = .ok (.lload_n 3, 1) from by decide +kernel) rfl) <|
  tk_c (show TrOk D (d + 1) mi_X8_tell 3 (tr_callV (C 4) 6 2 2) from ok_callV (ci := 1) (show decode mi_X8_tell.2.1 3 = .ok (.invokevirtual 85, 3) from by decide +kernel) mok_X1_begin rfl rfl (gm 572 (by decide +kernel) rfl) (gm 573 (by decide +kernel) rfl) (gm 574 (by decide +kernel) rfl) (hC 4)) <|
  tk_c (show TrOk D (d + 1) mi_X8_tell 6 (tr_aload 7 0) from ok_aload_n (show decode mi_X8_tell.2.1 6 = .ok (.aload_n 0, 1) from by decide +kernel) rfl) <|
  tk_c (show TrOk D (d + 1) mi_X8_tell 7 (tr_getR 10 9 804) from ok_getR (ci := 8) (k := 4) (show decode mi_X8_tell.2.1 7 = .ok (.getfield 40, 3) from by decide +kernel) rfl (by decide) (gm 249 (by decide +kernel) rfl) rfl) <|
  tk_c (show TrOk D (d + 1) mi_X8_tell 10 (tr_aload 11 1) from ok_aload_n (show decode mi_X8_tell.2.1 10 = .ok (.aload_n 1, 1) from by decide +kernel) rfl) <|
  tk_c (show TrOk D (d + 1) mi_X8_tell 11 (tr_getI 14 2 100) from ok_getI (ci := 1) (k := 0) (show decode mi_X8_tell.2.1 11 = .ok (.getfield 88, 3) from by decide +kernel) rfl (by decide) (gm 223 (by decide +kernel) rfl) rfl) <|
  tk_c (show TrOk D (d + 1) mi_X8_tell 14 (tr_callV (C 36) 17 8 1) from ok_callV (ci := 7) (show decode mi_X8_tell.2.1 14 = .ok (.invokevirtual 91, 3) from by decide +kernel) mok_X7_addCue rfl rfl (gm 576 (by decide +kernel) rfl) (gm 577 (by decide +kernel) rfl) (gm 578 (by decide +kernel) rfl) (hC 36)) <|
  tk_c (show TrOk D (d + 1) mi_X8_tell 17 (tr_aload 18 0) from ok_aload_n (show decode mi_X8_tell.2.1 17 = .ok (.aload_n 0, 1) from by decide +kernel) rfl) <|
  tk_c (show TrOk D (d + 1) mi_X8_tell 18 (tr_aload 19 1) from ok_aload_n (show decode mi_X8_tell.2.1 18 = .ok (.aload_n 1, 1) from by decide +kernel) rfl) <|
  tk_c (show TrOk D (d + 1) mi_X8_tell 19 (tr_ic 20 0) from ok_iconst (show decode mi_X8_tell.2.1 19 = .ok (.iconst 0, 1) from by decide +kernel) rfl) <|
  tk_c (show TrOk D (d + 1) mi_X8_tell 20 (tr_callV (C 43) 23 9 2) from ok_callV (ci := 8) (show decode mi_X8_tell.2.1 20 = .ok (.invokevirtual 94, 3) from by decide +kernel) mok_X8_tellPhase rfl rfl (gm 583 (by decide +kernel) rfl) (gm 585 (by decide +kernel) rfl) (gm 2 (by decide +kernel) rfl) (hC 43)) <|
  tk_c (show TrOk D (d + 1) mi_X8_tell 23 (tr_aload 24 1) from ok_aload_n (show decode mi_X8_tell.2.1 23 = .ok (.aload_n 1, 1) from by decide +kernel) rfl) <|
  tk_c (show TrOk D (d + 1) mi_X8_tell 24 (tr_callV (C 5) 27 2 0) from ok_callV (ci := 1) (show decode mi_X8_tell.2.1 24 = .ok (.invokevirtual 98, 3) from by decide +kernel) mok_X1_isVetoed rfl rfl (gm 591 (by decide +kernel) rfl) (gm 592 (by decide +kernel) rfl) (gm 593 (by decide +kernel) rfl) (hC 5)) <|
  tk_c (show TrOk D (d + 1) mi_X8_tell 27 (tr_ifeq 30 31) from ok_ifeq (show decode mi_X8_tell.2.1 27 = .ok (.ifCond .eq 4, 3) from by decide +kernel) (by decide)) <|
  tk_c (show TrOk D (d + 1) mi_X8_tell 30 (tr_ret) from ok_ret (show decode mi_X8_tell.2.1 30 = .ok (.return_, 1) from by decide +kernel) rfl) <|
  tk_c (show TrOk D (d + 1) mi_X8_tell 31 (tr_aload 32 0) from ok_aload_n (show decode mi_X8_tell.2.1 31 = .ok (.aload_n 0, 1) from by decide +kernel) rfl) <|
  tk_c (show TrOk D (d + 1) mi_X8_tell 32 (tr_getR 35 9 803) from ok_getR (ci := 8) (k := 3) (show decode mi_X8_tell.2.1 32 = .ok (.getfield 36, 3) from by decide +kernel) rfl (by decide) (gm 248 (by decide +kernel) rfl) rfl) <|
  tk_c (show TrOk D (d + 1) mi_X8_tell 35 (tr_aload 36 2) from ok_aload_n (show decode mi_X8_tell.2.1 35 = .ok (.aload_n 2, 1) from by decide +kernel) rfl) <|
  tk_c (show TrOk D (d + 1) mi_X8_tell 36 (tr_aload 37 1) from ok_aload_n (show decode mi_X8_tell.2.1 36 = .ok (.aload_n 1, 1) from by decide +kernel) rfl) <|
  tk_c (show TrOk D (d + 1) mi_X8_tell 37 (tr_getL 40 2 103) from ok_getL (ci := 1) (k := 3) (show decode mi_X8_tell.2.1 37 = .ok (.getfield 56, 3) from by decide +kernel) rfl (by decide) (gm 228 (by decide +kernel) rfl) rfl) <|
  tk_c (show TrOk D (d + 1) mi_X8_tell 40 (tr_callV (C 1) 43 1 2) from ok_callV (ci := 0) (show decode mi_X8_tell.2.1 40 = .ok (.invokevirtual 102, 3) from by decide +kernel) mok_X0_make rfl rfl (gm 701 (by decide +kernel) rfl) (gm 702 (by decide +kernel) rfl) (gm 703 (by decide +kernel) rfl) (hC 1)) <|
  tk_c (show TrOk D (d + 1) mi_X8_tell 43 (tr_aload 44 0) from ok_aload_n (show decode mi_X8_tell.2.1 43 = .ok (.aload_n 0, 1) from by decide +kernel) rfl) <|
  tk_c (show TrOk D (d + 1) mi_X8_tell 44 (tr_aload 45 1) from ok_aload_n (show decode mi_X8_tell.2.1 44 = .ok (.aload_n 1, 1) from by decide +kernel) rfl) <|
  tk_c (show TrOk D (d + 1) mi_X8_tell 45 (tr_ic 46 1) from ok_iconst (show decode mi_X8_tell.2.1 45 = .ok (.iconst 1, 1) from by decide +kernel) rfl) <|
  tk_c (show TrOk D (d + 1) mi_X8_tell 46 (tr_callV (C 43) 49 9 2) from ok_callV (ci := 8) (show decode mi_X8_tell.2.1 46 = .ok (.invokevirtual 94, 3) from by decide +kernel) mok_X8_tellPhase rfl rfl (gm 583 (by decide +kernel) rfl) (gm 585 (by decide +kernel) rfl) (gm 2 (by decide +kernel) rfl) (hC 43)) <|
  tk_c (show TrOk D (d + 1) mi_X8_tell 49 (tr_aload 50 0) from ok_aload_n (show decode mi_X8_tell.2.1 49 = .ok (.aload_n 0, 1) from by decide +kernel) rfl) <|
  tk_c (show TrOk D (d + 1) mi_X8_tell 50 (tr_aload 51 1) from ok_aload_n (show decode mi_X8_tell.2.1 50 = .ok (.aload_n 1, 1) from by decide +kernel) rfl) <|
  tk_c (show TrOk D (d + 1) mi_X8_tell 51 (tr_ic 52 2) from ok_iconst (show decode mi_X8_tell.2.1 51 = .ok (.iconst 2, 1) from by decide +kernel) rfl) <|
  tk_c (show TrOk D (d + 1) mi_X8_tell 52 (tr_callV (C 43) 55 9 2) from ok_callV (ci := 8) (show decode mi_X8_tell.2.1 52 = .ok (.invokevirtual 94, 3) from by decide +kernel) mok_X8_tellPhase rfl rfl (gm 583 (by decide +kernel) rfl) (gm 585 (by decide +kernel) rfl) (gm 2 (by decide +kernel) rfl) (hC 43)) <|
  tk_c (show TrOk D (d + 1) mi_X8_tell 55 (tr_ret) from ok_ret (show decode mi_X8_tell.2.1 55 = .ok (.return_, 1) from by decide +kernel) rfl) <|
  tk_n
def tb_X8_tell (C : Nat → Sp) : Tab := tb_X8_tell_0 C
theorem tbk_X8_tell {D : DD} {d : Nat} {C : Nat → Sp} (hC : Snd D d C) : ∀ e ∈ tb_X8_tell C, TrOk D (d + 1) mi_X8_tell e.1 e.2 := tbk_X8_tell_0 hC
theorem a_X8_tell_0 (C : Nat → Sp) : ta (tb_X8_tell C) 0 = tr_aload 1 1 := rfl
theorem a_X8_tell_1 (C : Nat → Sp) : ta (tb_X8_tell C) 1 = tr_aload 2 2 := rfl
theorem a_X8_tell_2 (C : Nat → Sp) : ta (tb_X8_tell C) 2 = tr_lload 3 3 := rfl
theorem a_X8_tell_3 (C : Nat → Sp) : ta (tb_X8_tell C) 3 = tr_callV (C 4) 6 2 2 := rfl
theorem a_X8_tell_6 (C : Nat → Sp) : ta (tb_X8_tell C) 6 = tr_aload 7 0 := rfl
theorem a_X8_tell_7 (C : Nat → Sp) : ta (tb_X8_tell C) 7 = tr_getR 10 9 804 := rfl
theorem a_X8_tell_10 (C : Nat → Sp) : ta (tb_X8_tell C) 10 = tr_aload 11 1 := rfl
theorem a_X8_tell_11 (C : Nat → Sp) : ta (tb_X8_tell C) 11 = tr_getI 14 2 100 := rfl
theorem a_X8_tell_14 (C : Nat → Sp) : ta (tb_X8_tell C) 14 = tr_callV (C 36) 17 8 1 := rfl
theorem a_X8_tell_17 (C : Nat → Sp) : ta (tb_X8_tell C) 17 = tr_aload 18 0 := rfl
theorem a_X8_tell_18 (C : Nat → Sp) : ta (tb_X8_tell C) 18 = tr_aload 19 1 := rfl
theorem a_X8_tell_19 (C : Nat → Sp) : ta (tb_X8_tell C) 19 = tr_ic 20 0 := rfl
theorem a_X8_tell_20 (C : Nat → Sp) : ta (tb_X8_tell C) 20 = tr_callV (C 43) 23 9 2 := rfl
theorem a_X8_tell_23 (C : Nat → Sp) : ta (tb_X8_tell C) 23 = tr_aload 24 1 := rfl
theorem a_X8_tell_24 (C : Nat → Sp) : ta (tb_X8_tell C) 24 = tr_callV (C 5) 27 2 0 := rfl
theorem a_X8_tell_27 (C : Nat → Sp) : ta (tb_X8_tell C) 27 = tr_ifeq 30 31 := rfl
theorem a_X8_tell_30 (C : Nat → Sp) : ta (tb_X8_tell C) 30 = tr_ret := rfl
theorem a_X8_tell_31 (C : Nat → Sp) : ta (tb_X8_tell C) 31 = tr_aload 32 0 := rfl
theorem a_X8_tell_32 (C : Nat → Sp) : ta (tb_X8_tell C) 32 = tr_getR 35 9 803 := rfl
theorem a_X8_tell_35 (C : Nat → Sp) : ta (tb_X8_tell C) 35 = tr_aload 36 2 := rfl
theorem a_X8_tell_36 (C : Nat → Sp) : ta (tb_X8_tell C) 36 = tr_aload 37 1 := rfl
theorem a_X8_tell_37 (C : Nat → Sp) : ta (tb_X8_tell C) 37 = tr_getL 40 2 103 := rfl
theorem a_X8_tell_40 (C : Nat → Sp) : ta (tb_X8_tell C) 40 = tr_callV (C 1) 43 1 2 := rfl
theorem a_X8_tell_43 (C : Nat → Sp) : ta (tb_X8_tell C) 43 = tr_aload 44 0 := rfl
theorem a_X8_tell_44 (C : Nat → Sp) : ta (tb_X8_tell C) 44 = tr_aload 45 1 := rfl
theorem a_X8_tell_45 (C : Nat → Sp) : ta (tb_X8_tell C) 45 = tr_ic 46 1 := rfl
theorem a_X8_tell_46 (C : Nat → Sp) : ta (tb_X8_tell C) 46 = tr_callV (C 43) 49 9 2 := rfl
theorem a_X8_tell_49 (C : Nat → Sp) : ta (tb_X8_tell C) 49 = tr_aload 50 0 := rfl
theorem a_X8_tell_50 (C : Nat → Sp) : ta (tb_X8_tell C) 50 = tr_aload 51 1 := rfl
theorem a_X8_tell_51 (C : Nat → Sp) : ta (tb_X8_tell C) 51 = tr_ic 52 2 := rfl
theorem a_X8_tell_52 (C : Nat → Sp) : ta (tb_X8_tell C) 52 = tr_callV (C 43) 55 9 2 := rfl
theorem a_X8_tell_55 (C : Nat → Sp) : ta (tb_X8_tell C) 55 = tr_ret := rfl

def tb_X8_tellPhase_0 (C : Nat → Sp) : Tab := [(0, tr_aload 1 1), (1, tr_iload 2 2), (2, tr_putI 5 2 102), (5, tr_aload 6 0), (6, tr_getR 9 9 801), (9, tr_getI 12 3 203), (12, tr_istore 13 3), (13, tr_aload 14 0), (14, tr_getR 17 9 801), (17, tr_iload 18 2), (18, tr_callV (C 8) 21 3 1), (21, tr_astore 23 4), (23, tr_aload 25 4), (25, tr_ifnull 28 96), (28, tr_aload 29 1), (29, tr_callV (C 5) 32 2 0), (32, tr_ifne 35 45), (35, tr_aload 36 0), (36, tr_getR 39 9 804), (39, tr_callV (C 39) 42 8 0), (42, tr_ifeq 45 46), (45, tr_ret), (46, tr_aload 48 4), (48, tr_getI 51 6 500), (51, tr_iload 52 3), (52, tr_icge 55 86), (55, tr_aload 57 4), (57, tr_aload 58 1), (58, tr_getR 61 2 101), (61, tr_callV (C 27) 64 6 1), (64, tr_ifeq 67 86), (67, tr_aload 69 4), (69, tr_aload 70 1), (70, tr_getL 73 2 103), (73, tr_callV (C 28) 76 6 1), (76, tr_ifeq 79 86), (79, tr_aload 80 0), (80, tr_aload 81 1), (81, tr_aload 83 4), (83, tr_callV (C 44) 86 9 2)]
set_option maxRecDepth 20000 in
theorem tbk_X8_tellPhase_0 {D : DD} {d : Nat} {C : Nat → Sp} (hC : Snd D d C) : ∀ e ∈ tb_X8_tellPhase_0 C, TrOk D (d + 1) mi_X8_tellPhase e.1 e.2 :=
  tk_c (show TrOk D (d + 1) mi_X8_tellPhase 0 (tr_aload 1 1) from ok_aload_n (show decode mi_X8_tellPhase.2.1 0 = .ok (.aload_n 1, 1) from by decide +kernel) rfl) <|
  tk_c (show TrOk D (d + 1) mi_X8_tellPhase 1 (tr_iload 2 2) from ok_iload_n (show decode mi_X8_tellPhase.2.1 1 = .ok (.iload_n 2, 1) from by decide +kernel) rfl) <|
  tk_c (show TrOk D (d + 1) mi_X8_tellPhase 2 (tr_putI 5 2 102) from ok_putI (ci := 1) (k := 2) (show decode mi_X8_tellPhase.2.1 2 = .ok (.putfield 107, 3) from by decide +kernel) rfl (by decide) (gm 226 (by decide +kernel) rfl) rfl (Or.inl rfl)) <|
  tk_c (show TrOk D (d + 1) mi_X8_tellPhase 5 (tr_aload 6 0) from ok_aload_n (show decode mi_X8_tellPhase.2.1 5 = .ok (.aload_n 0, 1) from by decide +kernel) rfl) <|
  tk_c (show TrOk D (d + 1) mi_X8_tellPhase 6 (tr_getR 9 9 801) from ok_getR (ci := 8) (k := 1) (show decode mi_X8_tellPhase.2.1 6 = .ok (.getfield 28, 3) from by decide +kernel) rfl (by decide) (gm 246 (by decide +kernel) rfl) rfl) <|
  tk_c (show TrOk D (d + 1) mi_X8_tellPhase 9 (tr_getI 12 3 203) from ok_getI (ci := 2) (k := 3) (show decode mi_X8_tellPhase.2.1 9 = .ok (.getfield 110, 3) from by decide +kernel) rfl (by decide) (gm 80 (by decide +kernel) rfl) rfl) <|
  tk_c (show TrOk D (d + 1) mi_X8_tellPhase 12 (tr_istore 13 3) from ok_istore_n (show decode mi_X8_tellPhase.2.1 12 = .ok (.istore_n 3, 1) from by decide +kernel) rfl (by decide)) <|
  tk_c (show TrOk D (d + 1) mi_X8_tellPhase 13 (tr_aload 14 0) from ok_aload_n (show decode mi_X8_tellPhase.2.1 13 = .ok (.aload_n 0, 1) from by decide +kernel) rfl) <|
  tk_c (show TrOk D (d + 1) mi_X8_tellPhase 14 (tr_getR 17 9 801) from ok_getR (ci := 8) (k := 1) (show decode mi_X8_tellPhase.2.1 14 = .ok (.getfield 28, 3) from by decide +kernel) rfl (by decide) (gm 246 (by decide +kernel) rfl) rfl) <|
  tk_c (show TrOk D (d + 1) mi_X8_tellPhase 17 (tr_iload 18 2) from ok_iload_n (show decode mi_X8_tellPhase.2.1 17 = .ok (.iload_n 2, 1) from by decide +kernel) rfl) <|
  tk_c (show TrOk D (d + 1) mi_X8_tellPhase 18 (tr_callV (C 8) 21 3 1) from ok_callV (ci := 2) (show decode mi_X8_tellPhase.2.1 18 = .ok (.invokevirtual 115, 3) from by decide +kernel) mok_X2_findFirst rfl rfl (gm 587 (by decide +kernel) rfl) (gm 588 (by decide +kernel) rfl) (gm 589 (by decide +kernel) rfl) (hC 8)) <|
  tk_c (show TrOk D (d + 1) mi_X8_tellPhase 21 (tr_astore 23 4) from ok_astore (show decode mi_X8_tellPhase.2.1 21 = .ok (.astore 4, 2) from by decide +kernel) (by decide)) <|
  tk_c (show TrOk D (d + 1) mi_X8_tellPhase 23 (tr_aload 25 4) from ok_aload (show decode mi_X8_tellPhase.2.1 23 = .ok (.aload 4, 2) from by decide +kernel)) <|
  tk_c (show TrOk D (d + 1) mi_X8_tellPhase 25 (tr_ifnull 28 96) from ok_ifnull (show decode mi_X8_tellPhase.2.1 25 = .ok (.ifnull 71, 3) from by decide +kernel) (by decide)) <|
  tk_c (show TrOk D (d + 1) mi_X8_tellPhase 28 (tr_aload 29 1) from ok_aload_n (show decode mi_X8_tellPhase.2.1 28 = .ok (.aload_n 1, 1) from by decide +kernel) rfl) <|
  tk_c (show TrOk D (d + 1) mi_X8_tellPhase 29 (tr_callV (C 5) 32 2 0) from ok_callV (ci := 1) (show decode mi_X8_tellPhase.2.1 29 = .ok (.invokevirtual 98, 3) from by decide +kernel) mok_X1_isVetoed rfl rfl (gm 591 (by decide +kernel) rfl) (gm 592 (by decide +kernel) rfl) (gm 593 (by decide +kernel) rfl) (hC 5)) <|
  tk_c (show TrOk D (d + 1) mi_X8_tellPhase 32 (tr_ifne 35 45) from ok_ifne (show decode mi_X8_tellPhase.2.1 32 = .ok (.ifCond .ne 13, 3) from by decide +kernel) (by decide)) <|
  tk_c (show TrOk D (d + 1) mi_X8_tellPhase 35 (tr_aload 36 0) from ok_aload_n (show decode mi_X8_tellPhase.2.1 35 = .ok (.aload_n 0, 1) from by decide +kernel) rfl) <|
  tk_c (show TrOk D (d + 1) mi_X8_tellPhase 36 (tr_getR 39 9 804) from ok_getR (ci := 8) (k := 4) (show decode mi_X8_tellPhase.2.1 36 = .ok (.getfield 40, 3) from by decide +kernel) rfl (by decide) (gm 249 (by decide +kernel) rfl) rfl) <|
  tk_c (show TrOk D (d + 1) mi_X8_tellPhase 39 (tr_callV (C 39) 42 8 0) from ok_callV (ci := 7) (show decode mi_X8_tellPhase.2.1 39 = .ok (.invokevirtual 119, 3) from by decide +kernel) mok_X7_isHushed rfl rfl (gm 595 (by decide +kernel) rfl) (gm 596 (by decide +kernel) rfl) (gm 597 (by decide +kernel) rfl) (hC 39)) <|
  tk_c (show TrOk D (d + 1) mi_X8_tellPhase 42 (tr_ifeq 45 46) from ok_ifeq (show decode mi_X8_tellPhase.2.1 42 = .ok (.ifCond .eq 4, 3) from by decide +kernel) (by decide)) <|
  tk_c (show TrOk D (d + 1) mi_X8_tellPhase 45 (tr_ret) from ok_ret (show decode mi_X8_tellPhase.2.1 45 = .ok (.return_, 1) from by decide +kernel) rfl) <|
  tk_c (show TrOk D (d + 1) mi_X8_tellPhase 46 (tr_aload 48 4) from ok_aload (show decode mi_X8_tellPhase.2.1 46 = .ok (.aload 4, 2) from by decide +kernel)) <|
  tk_c (show TrOk D (d + 1) mi_X8_tellPhase 48 (tr_getI 51 6 500) from ok_getI (ci := 5) (k := 0) (show decode mi_X8_tellPhase.2.1 48 = .ok (.getfield 122, 3) from by decide +kernel) rfl (by decide) (gm 413 (by decide +kernel) rfl) rfl) <|
  tk_c (show TrOk D (d + 1) mi_X8_tellPhase 51 (tr_iload 52 3) from ok_iload_n (show decode mi_X8_tellPhase.2.1 51 = .ok (.iload_n 3, 1) from by decide +kernel) rfl) <|
  tk_c (show TrOk D (d + 1) mi_X8_tellPhase 52 (tr_icge 55 86) from ok_icge (show decode mi_X8_tellPhase.2.1 52 = .ok (.if_icmp .ge 34, 3) from by decide +kernel) (by decide)) <|
  tk_c (show TrOk D (d + 1) mi_X8_tellPhase 55 (tr_aload 57 4) from ok_aload (show decode mi_X8_tellPhase.2.1 55 = .ok (.aload 4, 2) from by decide +kernel)) <|
  tk_c (show TrOk D (d + 1) mi_X8_tellPhase 57 (tr_aload 58 1) from ok_aload_n (show decode mi_X8_tellPhase.2.1 57 = .ok (.aload_n 1, 1) from by decide +kernel) rfl) <|
  tk_c (show TrOk D (d + 1) mi_X8_tellPhase 58 (tr_getR 61 2 101) from ok_getR (ci := 1) (k := 1) (show decode mi_X8_tellPhase.2.1 58 = .ok (.getfield 127, 3) from by decide +kernel) rfl (by decide) (gm 225 (by decide +kernel) rfl) rfl) <|
  tk_c (show TrOk D (d + 1) mi_X8_tellPhase 61 (tr_callV (C 27) 64 6 1) from ok_callV (ci := 5) (show decode mi_X8_tellPhase.2.1 61 = .ok (.invokevirtual 131, 3) from by decide +kernel) mok_X5_hears rfl rfl (gm 599 (by decide +kernel) rfl) (gm 600 (by decide +kernel) rfl) (gm 601 (by decide +kernel) rfl) (hC 27)) <|
  tk_c (show TrOk D (d + 1) mi_X8_tellPhase 64 (tr_ifeq 67 86) from ok_ifeq (show decode mi_X8_tellPhase.2.1 64 = .ok (.ifCond .eq 22, 3) from by decide +kernel) (by decide)) <|
  tk_c (show TrOk D (d + 1) mi_X8_tellPhase 67 (tr_aload 69 4) from ok_aload (show decode mi_X8_tellPhase.2.1 67 = .ok (.aload 4, 2) from by decide +kernel)) <|
  tk_c (show TrOk D (d + 1) mi_X8_tellPhase 69 (tr_aload 70 1) from ok_aload_n (show decode mi_X8_tellPhase.2.1 69 = .ok (.aload_n 1, 1) from by decide +kernel) rfl) <|
  tk_c (show TrOk D (d + 1) mi_X8_tellPhase 70 (tr_getL 73 2 103) from ok_getL (ci := 1) (k := 3) (show decode mi_X8_tellPhase.2.1 70 = .ok (.getfield 56, 3) from by decide +kernel) rfl (by decide) (gm 228 (by decide +kernel) rfl) rfl) <|
  tk_c (show TrOk D (d + 1) mi_X8_tellPhase 73 (tr_callV (C 28) 76 6 1) from ok_callV (ci := 5) (show decode mi_X8_tellPhase.2.1 73 = .ok (.invokevirtual 135, 3) from by decide +kernel) mok_X5_lets rfl rfl (gm 607 (by decide +kernel) rfl) (gm 608 (by decide +kernel) rfl) (gm 609 (by decide +kernel) rfl) (hC 28)) <|
  tk_c (show TrOk D (d + 1) mi_X8_tellPhase 76 (tr_ifeq 79 86) from ok_ifeq (show decode mi_X8_tellPhase.2.1 76 = .ok (.ifCond .eq 10, 3) from by decide +kernel) (by decide)) <|
  tk_c (show TrOk D (d + 1) mi_X8_tellPhase 79 (tr_aload 80 0) from ok_aload_n (show decode mi_X8_tellPhase.2.1 79 = .ok (.aload_n 0, 1) from by decide +kernel) rfl) <|
  tk_c (show TrOk D (d + 1) mi_X8_tellPhase 80 (tr_aload 81 1) from ok_aload_n (show decode mi_X8_tellPhase.2.1 80 = .ok (.aload_n 1, 1) from by decide +kernel) rfl) <|
  tk_c (show TrOk D (d + 1) mi_X8_tellPhase 81 (tr_aload 83 4) from ok_aload (show decode mi_X8_tellPhase.2.1 81 = .ok (.aload 4, 2) from by decide +kernel)) <|
  tk_c (show TrOk D (d + 1) mi_X8_tellPhase 83 (tr_callV (C 44) 86 9 2) from ok_callV (ci := 8) (show decode mi_X8_tellPhase.2.1 83 = .ok (.invokevirtual 139, 3) from by decide +kernel) mok_X8_tellListener rfl rfl (gm 611 (by decide +kernel) rfl) (gm 613 (by decide +kernel) rfl) (gm 3 (by decide +kernel) rfl) (hC 44)) <|
  tk_n
def tb_X8_tellPhase_1 (C : Nat → Sp) : Tab := [(86, tr_aload 88 4), (88, tr_getR 91 6 512), (91, tr_astore 93 4), (93, tr_goto 23), (96, tr_ret)]
set_option maxRecDepth 20000 in
theorem tbk_X8_tellPhase_1 {D : DD} {d : Nat} {C : Nat → Sp} (hC : Snd D d C) : ∀ e ∈ tb_X8_tellPhase_1 C, TrOk D (d + 1) mi_X8_tellPhase e.1 e.2 :=
  tk_c (show TrOk D (d + 1) mi_X8_tellPhase 86 (tr_aload 88 4) from ok_aload (show decode mi_X8_tellPhase.2.1 86 = .ok (.aload 4, 2) from by decide +kernel)) <|
  tk_c (show TrOk D (d + 1) mi_X8_tellPhase 88 (tr_getR 91 6 512) from ok_getR (ci := 5) (k := 12) (show decode mi_X8_tellPhase.2.1 88 = .ok (.getfield 143, 3) from by decide +kernel) rfl (by decide) (gm 448 (by decide +kernel) rfl) rfl) <|
  tk_c (show TrOk D (d + 1) mi_X8_tellPhase 91 (tr_astore 93 4) from ok_astore (show decode mi_X8_tellPhase.2.1 91 = .ok (.astore 4, 2) from by decide +kernel) (by decide)) <|
  tk_c (show TrOk D (d + 1) mi_X8_tellPhase 93 (tr_goto 23) from ok_goto (show decode mi_X8_tellPhase.2.1 93 = .ok (.goto (-70), 3) from by decide +kernel) (by decide)) <|
  tk_c (show TrOk D (d + 1) mi_X8_tellPhase 96 (tr_ret) from ok_ret (show decode mi_X8_tellPhase.2.1 96 = .ok (.return_, 1) from by decide +kernel) rfl) <|
  tk_n
def tb_X8_tellPhase (C : Nat → Sp) : Tab := tb_X8_tellPhase_0 C ++ (tb_X8_tellPhase_1 C)
theorem tbk_X8_tellPhase {D : DD} {d : Nat} {C : Nat → Sp} (hC : Snd D d C) : ∀ e ∈ tb_X8_tellPhase C, TrOk D (d + 1) mi_X8_tellPhase e.1 e.2 := tk_a (tbk_X8_tellPhase_0 hC) (tbk_X8_tellPhase_1 hC)
theorem a_X8_tellPhase_0 (C : Nat → Sp) : ta (tb_X8_tellPhase C) 0 = tr_aload 1 1 := rfl
theorem a_X8_tellPhase_1 (C : Nat → Sp) : ta (tb_X8_tellPhase C) 1 = tr_iload 2 2 := rfl
theorem a_X8_tellPhase_2 (C : Nat → Sp) : ta (tb_X8_tellPhase C) 2 = tr_putI 5 2 102 := rfl
theorem a_X8_tellPhase_5 (C : Nat → Sp) : ta (tb_X8_tellPhase C) 5 = tr_aload 6 0 := rfl
theorem a_X8_tellPhase_6 (C : Nat → Sp) : ta (tb_X8_tellPhase C) 6 = tr_getR 9 9 801 := rfl
theorem a_X8_tellPhase_9 (C : Nat → Sp) : ta (tb_X8_tellPhase C) 9 = tr_getI 12 3 203 := rfl
theorem a_X8_tellPhase_12 (C : Nat → Sp) : ta (tb_X8_tellPhase C) 12 = tr_istore 13 3 := rfl
theorem a_X8_tellPhase_13 (C : Nat → Sp) : ta (tb_X8_tellPhase C) 13 = tr_aload 14 0 := rfl
theorem a_X8_tellPhase_14 (C : Nat → Sp) : ta (tb_X8_tellPhase C) 14 = tr_getR 17 9 801 := rfl
theorem a_X8_tellPhase_17 (C : Nat → Sp) : ta (tb_X8_tellPhase C) 17 = tr_iload 18 2 := rfl
theorem a_X8_tellPhase_18 (C : Nat → Sp) : ta (tb_X8_tellPhase C) 18 = tr_callV (C 8) 21 3 1 := rfl
theorem a_X8_tellPhase_21 (C : Nat → Sp) : ta (tb_X8_tellPhase C) 21 = tr_astore 23 4 := rfl
theorem a_X8_tellPhase_23 (C : Nat → Sp) : ta (tb_X8_tellPhase C) 23 = tr_aload 25 4 := rfl
theorem a_X8_tellPhase_25 (C : Nat → Sp) : ta (tb_X8_tellPhase C) 25 = tr_ifnull 28 96 := rfl
theorem a_X8_tellPhase_28 (C : Nat → Sp) : ta (tb_X8_tellPhase C) 28 = tr_aload 29 1 := rfl
theorem a_X8_tellPhase_29 (C : Nat → Sp) : ta (tb_X8_tellPhase C) 29 = tr_callV (C 5) 32 2 0 := rfl
theorem a_X8_tellPhase_32 (C : Nat → Sp) : ta (tb_X8_tellPhase C) 32 = tr_ifne 35 45 := rfl
theorem a_X8_tellPhase_35 (C : Nat → Sp) : ta (tb_X8_tellPhase C) 35 = tr_aload 36 0 := rfl
theorem a_X8_tellPhase_36 (C : Nat → Sp) : ta (tb_X8_tellPhase C) 36 = tr_getR 39 9 804 := rfl
theorem a_X8_tellPhase_39 (C : Nat → Sp) : ta (tb_X8_tellPhase C) 39 = tr_callV (C 39) 42 8 0 := rfl
theorem a_X8_tellPhase_42 (C : Nat → Sp) : ta (tb_X8_tellPhase C) 42 = tr_ifeq 45 46 := rfl
theorem a_X8_tellPhase_45 (C : Nat → Sp) : ta (tb_X8_tellPhase C) 45 = tr_ret := rfl
theorem a_X8_tellPhase_46 (C : Nat → Sp) : ta (tb_X8_tellPhase C) 46 = tr_aload 48 4 := rfl
theorem a_X8_tellPhase_48 (C : Nat → Sp) : ta (tb_X8_tellPhase C) 48 = tr_getI 51 6 500 := rfl
theorem a_X8_tellPhase_51 (C : Nat → Sp) : ta (tb_X8_tellPhase C) 51 = tr_iload 52 3 := rfl
theorem a_X8_tellPhase_52 (C : Nat → Sp) : ta (tb_X8_tellPhase C) 52 = tr_icge 55 86 := rfl
theorem a_X8_tellPhase_55 (C : Nat → Sp) : ta (tb_X8_tellPhase C) 55 = tr_aload 57 4 := rfl
theorem a_X8_tellPhase_57 (C : Nat → Sp) : ta (tb_X8_tellPhase C) 57 = tr_aload 58 1 := rfl
theorem a_X8_tellPhase_58 (C : Nat → Sp) : ta (tb_X8_tellPhase C) 58 = tr_getR 61 2 101 := rfl
theorem a_X8_tellPhase_61 (C : Nat → Sp) : ta (tb_X8_tellPhase C) 61 = tr_callV (C 27) 64 6 1 := rfl
theorem a_X8_tellPhase_64 (C : Nat → Sp) : ta (tb_X8_tellPhase C) 64 = tr_ifeq 67 86 := rfl
theorem a_X8_tellPhase_67 (C : Nat → Sp) : ta (tb_X8_tellPhase C) 67 = tr_aload 69 4 := rfl
theorem a_X8_tellPhase_69 (C : Nat → Sp) : ta (tb_X8_tellPhase C) 69 = tr_aload 70 1 := rfl
theorem a_X8_tellPhase_70 (C : Nat → Sp) : ta (tb_X8_tellPhase C) 70 = tr_getL 73 2 103 := rfl
theorem a_X8_tellPhase_73 (C : Nat → Sp) : ta (tb_X8_tellPhase C) 73 = tr_callV (C 28) 76 6 1 := rfl
theorem a_X8_tellPhase_76 (C : Nat → Sp) : ta (tb_X8_tellPhase C) 76 = tr_ifeq 79 86 := rfl
theorem a_X8_tellPhase_79 (C : Nat → Sp) : ta (tb_X8_tellPhase C) 79 = tr_aload 80 0 := rfl
theorem a_X8_tellPhase_80 (C : Nat → Sp) : ta (tb_X8_tellPhase C) 80 = tr_aload 81 1 := rfl
theorem a_X8_tellPhase_81 (C : Nat → Sp) : ta (tb_X8_tellPhase C) 81 = tr_aload 83 4 := rfl
theorem a_X8_tellPhase_83 (C : Nat → Sp) : ta (tb_X8_tellPhase C) 83 = tr_callV (C 44) 86 9 2 := rfl
theorem a_X8_tellPhase_86 (C : Nat → Sp) : ta (tb_X8_tellPhase C) 86 = tr_aload 88 4 := rfl
theorem a_X8_tellPhase_88 (C : Nat → Sp) : ta (tb_X8_tellPhase C) 88 = tr_getR 91 6 512 := rfl
theorem a_X8_tellPhase_91 (C : Nat → Sp) : ta (tb_X8_tellPhase C) 91 = tr_astore 93 4 := rfl
theorem a_X8_tellPhase_93 (C : Nat → Sp) : ta (tb_X8_tellPhase C) 93 = tr_goto 23 := rfl
theorem a_X8_tellPhase_96 (C : Nat → Sp) : ta (tb_X8_tellPhase C) 96 = tr_ret := rfl

def tb_X8_tellListener_0 (C : Nat → Sp) : Tab := [(0, tr_aload 1 2), (1, tr_getR 4 6 505), (4, tr_astore 5 3), (5, tr_aload 6 2), (6, tr_getI 9 6 508), (9, tr_ifeq 12 20), (12, tr_aload 13 0), (13, tr_getR 16 9 801), (16, tr_aload 17 2), (17, tr_callV (C 13) 20 3 1), (20, tr_aload 21 2), (21, tr_dup 22), (22, tr_getI 25 6 510), (25, tr_ic 26 1), (26, tr_iadd 27), (27, tr_putI 30 6 510), (30, tr_aload 31 0), (31, tr_getR 34 9 804), (34, tr_dup 35), (35, tr_getI 38 8 705), (38, tr_ic 39 1), (39, tr_iadd 40), (40, tr_putI 43 8 705), (43, tr_aload 44 1), (44, tr_aload 45 1), (45, tr_getL 48 2 103), (48, tr_putL 51 2 104), (51, tr_ic 52 0), (52, tr_istore 54 4), (54, tr_iload 56 4), (56, tr_aload 57 3), (57, tr_getI 60 7 602), (60, tr_icge 63 160), (63, tr_aload 64 0), (64, tr_aload 65 1), (65, tr_aload 66 2), (66, tr_aload 67 3), (67, tr_getR 70 7 600), (70, tr_iload 72 4), (72, tr_iald 73)]
set_option maxRecDepth 20000 in
theorem tbk_X8_tellListener_0 {D : DD} {d : Nat} {C : Nat → Sp} (hC : Snd D d C) : ∀ e ∈ tb_X8_tellListener_0 C, TrOk D (d + 1) mi_X8_tellListener e.1 e.2 :=
  tk_c (show TrOk D (d + 1) mi_X8_tellListener 0 (tr_aload 1 2) from ok_aload_n (show decode mi_X8_tellListener.2.1 0 = .ok (.aload_n 2, 1) from by decide +kernel) rfl) <|
  tk_c (show TrOk D (d + 1) mi_X8_tellListener 1 (tr_getR 4 6 505) from ok_getR (ci := 5) (k := 5) (show decode mi_X8_tellListener.2.1 1 = .ok (.getfield 147, 3) from by decide +kernel) rfl (by decide) (gm 429 (by decide +kernel) rfl) rfl) <|
  tk_c (show TrOk D (d + 1) mi_X8_tellListener 4 (tr_astore 5 3) from ok_astore_n (show decode mi_X8_tellListener.2.1 4 = .ok (.astore_n 3, 1) from by decide +kernel) rfl (by decide)) <|
  tk_c (show TrOk D (d + 1) mi_X8_tellListener 5 (tr_aload 6 2) from ok_aload_n (show decode mi_X8_tellListener.2.1 5 = .ok (.aload_n 2, 1) from by decide +kernel) rfl) <|
  tk_c (show TrOk D (d + 1) mi_X8_tellListener 6 (tr_getI 9 6 508) from ok_getI (ci := 5) (k := 8) (show decode mi_X8_tellListener.2.1 6 = .ok (.getfield 151, 3) from by decide +kernel) rfl (by decide) (gm 438 (by decide +kernel) rfl) rfl) <|
  tk_c (show TrOk D (d + 1) mi_X8_tellListener 9 (tr_ifeq 12 20) from ok_ifeq (show decode mi_X8_tellListener.2.1 9 = .ok (.ifCond .eq 11, 3) from by decide +kernel) (by decide)) <|
  tk_c (show TrOk D (d + 1) mi_X8_tellListener 12 (tr_aload 13 0) from ok_aload_n (show decode mi_X8_tellListener.2.1 12 = .ok (.aload_n 0, 1) from by decide +kernel) rfl) <|
  tk_c (show TrOk D (d + 1) mi_X8_tellListener 13 (tr_getR 16 9 801) from ok_getR (ci := 8) (k := 1) (show decode mi_X8_tellListener.2.1 13 = .ok (.getfield 28, 3) from by decide +kernel) rfl (by decide) (gm 246 (by decide +kernel) rfl) rfl) <|
  tk_c (show TrOk D (d + 1) mi_X8_tellListener 16 (tr_aload 17 2) from ok_aload_n (show decode mi_X8_tellListener.2.1 16 = .ok (.aload_n 2, 1) from by decide +kernel) rfl) <|
  tk_c (show TrOk D (d + 1) mi_X8_tellListener 17 (tr_callV (C 13) 20 3 1) from ok_callV (ci := 2) (show decode mi_X8_tellListener.2.1 17 = .ok (.invokevirtual 155, 3) from by decide +kernel) mok_X2_letGo rfl rfl (gm 615 (by decide +kernel) rfl) (gm 366 (by decide +kernel) rfl) (gm 367 (by decide +kernel) rfl) (hC 13)) <|
  tk_c (show TrOk D (d + 1) mi_X8_tellListener 20 (tr_aload 21 2) from ok_aload_n (show decode mi_X8_tellListener.2.1 20 = .ok (.aload_n 2, 1) from by decide +kernel) rfl) <|
  tk_c (show TrOk D (d + 1) mi_X8_tellListener 21 (tr_dup 22) from ok_dup (show decode mi_X8_tellListener.2.1 21 = .ok (.dup, 1) from by decide +kernel)) <|
  tk_c (show TrOk D (d + 1) mi_X8_tellListener 22 (tr_getI 25 6 510) from ok_getI (ci := 5) (k := 10) (show decode mi_X8_tellListener.2.1 22 = .ok (.getfield 159, 3) from by decide +kernel) rfl (by decide) (gm 444 (by decide +kernel) rfl) rfl) <|
  tk_c (show TrOk D (d + 1) mi_X8_tellListener 25 (tr_ic 26 1) from ok_iconst (show decode mi_X8_tellListener.2.1 25 = .ok (.iconst 1, 1) from by decide +kernel) rfl) <|
  tk_c (show TrOk D (d + 1) mi_X8_tellListener 26 (tr_iadd 27) from ok_iadd (show decode mi_X8_tellListener.2.1 26 = .ok (.iadd, 1) from by decide +kernel)) <|
  tk_c (show TrOk D (d + 1) mi_X8_tellListener 27 (tr_putI 30 6 510) from ok_putI (ci := 5) (k := 10) (show decode mi_X8_tellListener.2.1 27 = .ok (.putfield 159, 3) from by decide +kernel) rfl (by decide) (gm 444 (by decide +kernel) rfl) rfl (Or.inl rfl)) <|
  tk_c (show TrOk D (d + 1) mi_X8_tellListener 30 (tr_aload 31 0) from ok_aload_n (show decode mi_X8_tellListener.2.1 30 = .ok (.aload_n 0, 1) from by decide +kernel) rfl) <|
  tk_c (show TrOk D (d + 1) mi_X8_tellListener 31 (tr_getR 34 9 804) from ok_getR (ci := 8) (k := 4) (show decode mi_X8_tellListener.2.1 31 = .ok (.getfield 40, 3) from by decide +kernel) rfl (by decide) (gm 249 (by decide +kernel) rfl) rfl) <|
  tk_c (show TrOk D (d + 1) mi_X8_tellListener 34 (tr_dup 35) from ok_dup (show decode mi_X8_tellListener.2.1 34 = .ok (.dup, 1) from by decide +kernel)) <|
  tk_c (show TrOk D (d + 1) mi_X8_tellListener 35 (tr_getI 38 8 705) from ok_getI (ci := 7) (k := 5) (show decode mi_X8_tellListener.2.1 35 = .ok (.getfield 162, 3) from by decide +kernel) rfl (by decide) (gm 146 (by decide +kernel) rfl) rfl) <|
  tk_c (show TrOk D (d + 1) mi_X8_tellListener 38 (tr_ic 39 1) from ok_iconst (show decode mi_X8_tellListener.2.1 38 = .ok (.iconst 1, 1) from by decide +kernel) rfl) <|
  tk_c (show TrOk D (d + 1) mi_X8_tellListener 39 (tr_iadd 40) from ok_iadd (show decode mi_X8_tellListener.2.1 39 = .ok (.iadd, 1) from by decide +kernel)) <|
  tk_c (show TrOk D (d + 1) mi_X8_tellListener 40 (tr_putI 43 8 705) from ok_putI (ci := 7) (k := 5) (show decode mi_X8_tellListener.2.1 40 = .ok (.putfield 162, 3) from by decide +kernel) rfl (by decide) (gm 146 (by decide +kernel) rfl) rfl (Or.inl rfl)) <|
  tk_c (show TrOk D (d + 1) mi_X8_tellListener 43 (tr_aload 44 1) from ok_aload_n (show decode mi_X8_tellListener.2.1 43 = .ok (.aload_n 1, 1) from by decide +kernel) rfl) <|
  tk_c (show TrOk D (d + 1) mi_X8_tellListener 44 (tr_aload 45 1) from ok_aload_n (show decode mi_X8_tellListener.2.1 44 = .ok (.aload_n 1, 1) from by decide +kernel) rfl) <|
  tk_c (show TrOk D (d + 1) mi_X8_tellListener 45 (tr_getL 48 2 103) from ok_getL (ci := 1) (k := 3) (show decode mi_X8_tellListener.2.1 45 = .ok (.getfield 56, 3) from by decide +kernel) rfl (by decide) (gm 228 (by decide +kernel) rfl) rfl) <|
  tk_c (show TrOk D (d + 1) mi_X8_tellListener 48 (tr_putL 51 2 104) from ok_putL (ci := 1) (k := 4) (show decode mi_X8_tellListener.2.1 48 = .ok (.putfield 165, 3) from by decide +kernel) rfl (by decide) (gm 229 (by decide +kernel) rfl) rfl (Or.inl rfl)) <|
  tk_c (show TrOk D (d + 1) mi_X8_tellListener 51 (tr_ic 52 0) from ok_iconst (show decode mi_X8_tellListener.2.1 51 = .ok (.iconst 0, 1) from by decide +kernel) rfl) <|
  tk_c (show TrOk D (d + 1) mi_X8_tellListener 52 (tr_istore 54 4) from ok_istore (show decode mi_X8_tellListener.2.1 52 = .ok (.istore 4, 2) from by decide +kernel) (by decide)) <|
  tk_c (show TrOk D (d + 1) mi_X8_tellListener 54 (tr_iload 56 4) from ok_iload (show decode mi_X8_tellListener.2.1 54 = .ok (.iload 4, 2) from by decide +kernel)) <|
  tk_c (show TrOk D (d + 1) mi_X8_tellListener 56 (tr_aload 57 3) from ok_aload_n (show decode mi_X8_tellListener.2.1 56 = .ok (.aload_n 3, 1) from by decide +kernel) rfl) <|
  tk_c (show TrOk D (d + 1) mi_X8_tellListener 57 (tr_getI 60 7 602) from ok_getI (ci := 6) (k := 2) (show decode mi_X8_tellListener.2.1 57 = .ok (.getfield 168, 3) from by decide +kernel) rfl (by decide) (gm 401 (by decide +kernel) rfl) rfl) <|
  tk_c (show TrOk D (d + 1) mi_X8_tellListener 60 (tr_icge 63 160) from ok_icge (show decode mi_X8_tellListener.2.1 60 = .ok (.if_icmp .ge 100, 3) from by decide +kernel) (by decide)) <|
  tk_c (show TrOk D (d + 1) mi_X8_tellListener 63 (tr_aload 64 0) from ok_aload_n (show decode mi_X8_tellListener.2.1 63 = .ok (.aload_n 0, 1) from by decide +kernel) rfl) <|
  tk_c (show TrOk D (d + 1) mi_X8_tellListener 64 (tr_aload 65 1) from ok_aload_n (show decode mi_X8_tellListener.2.1 64 = .ok (.aload_n 1, 1) from by decide +kernel) rfl) <|
  tk_c (show TrOk D (d + 1) mi_X8_tellListener 65 (tr_aload 66 2) from ok_aload_n (show decode mi_X8_tellListener.2.1 65 = .ok (.aload_n 2, 1) from by decide +kernel) rfl) <|
  tk_c (show TrOk D (d + 1) mi_X8_tellListener 66 (tr_aload 67 3) from ok_aload_n (show decode mi_X8_tellListener.2.1 66 = .ok (.aload_n 3, 1) from by decide +kernel) rfl) <|
  tk_c (show TrOk D (d + 1) mi_X8_tellListener 67 (tr_getR 70 7 600) from ok_getR (ci := 6) (k := 0) (show decode mi_X8_tellListener.2.1 67 = .ok (.getfield 171, 3) from by decide +kernel) rfl (by decide) (gm 397 (by decide +kernel) rfl) rfl) <|
  tk_c (show TrOk D (d + 1) mi_X8_tellListener 70 (tr_iload 72 4) from ok_iload (show decode mi_X8_tellListener.2.1 70 = .ok (.iload 4, 2) from by decide +kernel)) <|
  tk_c (show TrOk D (d + 1) mi_X8_tellListener 72 (tr_iald 73) from ok_iald (show decode mi_X8_tellListener.2.1 72 = .ok (.iaload, 1) from by decide +kernel)) <|
  tk_n
def tb_X8_tellListener_1 (C : Nat → Sp) : Tab := [(73, tr_aload 74 3), (74, tr_getR 77 7 601), (77, tr_iload 79 4), (79, tr_iald 80), (80, tr_callV (C 45) 83 9 4), (83, tr_istore 85 5), (85, tr_iload 87 5), (87, tr_ifle 90 106), (90, tr_aload 91 0), (91, tr_getR 94 9 804), (94, tr_iload 96 5), (96, tr_aload 97 2), (97, tr_getI 100 6 500), (100, tr_iload 102 4), (102, tr_callV (C 38) 105 8 3), (105, tr_ret), (106, tr_iload 108 5), (108, tr_ic 110 (-3)), (110, tr_icne 113 135), (113, tr_aload 114 1), (114, tr_aload 115 2), (115, tr_getI 118 6 500), (118, tr_putI 121 2 105), (121, tr_aload 122 0), (122, tr_getR 125 9 804), (125, tr_dup 126), (126, tr_getI 129 8 708), (129, tr_ic 130 1), (130, tr_iadd 131), (131, tr_putI 134 8 708), (134, tr_ret), (135, tr_iload 137 5), (137, tr_ic 139 (-2)), (139, tr_icne 142 145), (142, tr_goto 160), (145, tr_iload 147 5), (147, tr_ic 148 (-1)), (148, tr_icne 151 154), (151, tr_iinc 154 4 1), (154, tr_iinc 157 4 1)]
set_option maxRecDepth 20000 in
theorem tbk_X8_tellListener_1 {D : DD} {d : Nat} {C : Nat → Sp} (hC : Snd D d C) : ∀ e ∈ tb_X8_tellListener_1 C, TrOk D (d + 1) mi_X8_tellListener e.1 e.2 :=
  tk_c (show TrOk D (d + 1) mi_X8_tellListener 73 (tr_aload 74 3) from ok_aload_n (show decode mi_X8_tellListener.2.1 73 = .ok (.aload_n 3, 1) from by decide +kernel) rfl) <|
  tk_c (show TrOk D (d + 1) mi_X8_tellListener 74 (tr_getR 77 7 601) from ok_getR (ci := 6) (k := 1) (show decode mi_X8_tellListener.2.1 74 = .ok (.getfield 175, 3) from by decide +kernel) rfl (by decide) (gm 399 (by decide +kernel) rfl) rfl) <|
  tk_c (show TrOk D (d + 1) mi_X8_tellListener 77 (tr_iload 79 4) from ok_iload (show decode mi_X8_tellListener.2.1 77 = .ok (.iload 4, 2) from by decide +kernel)) <|
  tk_c (show TrOk D (d + 1) mi_X8_tellListener 79 (tr_iald 80) from ok_iald (show decode mi_X8_tellListener.2.1 79 = .ok (.iaload, 1) from by decide +kernel)) <|
  tk_c (show TrOk D (d + 1) mi_X8_tellListener 80 (tr_callV (C 45) 83 9 4) from ok_callV (ci := 8) (show decode mi_X8_tellListener.2.1 80 = .ok (.invokevirtual 178, 3) from by decide +kernel) mok_X8_doStep rfl rfl (gm 616 (by decide +kernel) rfl) (gm 618 (by decide +kernel) rfl) (gm 4 (by decide +kernel) rfl) (hC 45)) <|
  tk_c (show TrOk D (d + 1) mi_X8_tellListener 83 (tr_istore 85 5) from ok_istore (show decode mi_X8_tellListener.2.1 83 = .ok (.istore 5, 2) from by decide +kernel) (by decide)) <|
  tk_c (show TrOk D (d + 1) mi_X8_tellListener 85 (tr_iload 87 5) from ok_iload (show decode mi_X8_tellListener.2.1 85 = .ok (.iload 5, 2) from by decide +kernel)) <|
  tk_c (show TrOk D (d + 1) mi_X8_tellListener 87 (tr_ifle 90 106) from ok_ifle (show decode mi_X8_tellListener.2.1 87 = .ok (.ifCond .le 19, 3) from by decide +kernel) (by decide)) <|
  tk_c (show TrOk D (d + 1) mi_X8_tellListener 90 (tr_aload 91 0) from ok_aload_n (show decode mi_X8_tellListener.2.1 90 = .ok (.aload_n 0, 1) from by decide +kernel) rfl) <|
  tk_c (show TrOk D (d + 1) mi_X8_tellListener 91 (tr_getR 94 9 804) from ok_getR (ci := 8) (k := 4) (show decode mi_X8_tellListener.2.1 91 = .ok (.getfield 40, 3) from by decide +kernel) rfl (by decide) (gm 249 (by decide +kernel) rfl) rfl) <|
  tk_c (show TrOk D (d + 1) mi_X8_tellListener 94 (tr_iload 96 5) from ok_iload (show decode mi_X8_tellListener.2.1 94 = .ok (.iload 5, 2) from by decide +kernel)) <|
  tk_c (show TrOk D (d + 1) mi_X8_tellListener 96 (tr_aload 97 2) from ok_aload_n (show decode mi_X8_tellListener.2.1 96 = .ok (.aload_n 2, 1) from by decide +kernel) rfl) <|
  tk_c (show TrOk D (d + 1) mi_X8_tellListener 97 (tr_getI 100 6 500) from ok_getI (ci := 5) (k := 0) (show decode mi_X8_tellListener.2.1 97 = .ok (.getfield 122, 3) from by decide +kernel) rfl (by decide) (gm 413 (by decide +kernel) rfl) rfl) <|
  tk_c (show TrOk D (d + 1) mi_X8_tellListener 100 (tr_iload 102 4) from ok_iload (show decode mi_X8_tellListener.2.1 100 = .ok (.iload 4, 2) from by decide +kernel)) <|
  tk_c (show TrOk D (d + 1) mi_X8_tellListener 102 (tr_callV (C 38) 105 8 3) from ok_callV (ci := 7) (show decode mi_X8_tellListener.2.1 102 = .ok (.invokevirtual 182, 3) from by decide +kernel) mok_X7_addFailure rfl rfl (gm 697 (by decide +kernel) rfl) (gm 698 (by decide +kernel) rfl) (gm 699 (by decide +kernel) rfl) (hC 38)) <|
  tk_c (show TrOk D (d + 1) mi_X8_tellListener 105 (tr_ret) from ok_ret (show decode mi_X8_tellListener.2.1 105 = .ok (.return_, 1) from by decide +kernel) rfl) <|
  tk_c (show TrOk D (d + 1) mi_X8_tellListener 106 (tr_iload 108 5) from ok_iload (show decode mi_X8_tellListener.2.1 106 = .ok (.iload 5, 2) from by decide +kernel)) <|
  tk_c (show TrOk D (d + 1) mi_X8_tellListener 108 (tr_ic 110 (-3)) from ok_bipush (show decode mi_X8_tellListener.2.1 108 = .ok (.bipush (-3), 2) from by decide +kernel) rfl) <|
  tk_c (show TrOk D (d + 1) mi_X8_tellListener 110 (tr_icne 113 135) from ok_icne (show decode mi_X8_tellListener.2.1 110 = .ok (.if_icmp .ne 25, 3) from by decide +kernel) (by decide)) <|
  tk_c (show TrOk D (d + 1) mi_X8_tellListener 113 (tr_aload 114 1) from ok_aload_n (show decode mi_X8_tellListener.2.1 113 = .ok (.aload_n 1, 1) from by decide +kernel) rfl) <|
  tk_c (show TrOk D (d + 1) mi_X8_tellListener 114 (tr_aload 115 2) from ok_aload_n (show decode mi_X8_tellListener.2.1 114 = .ok (.aload_n 2, 1) from by decide +kernel) rfl) <|
  tk_c (show TrOk D (d + 1) mi_X8_tellListener 115 (tr_getI 118 6 500) from ok_getI (ci := 5) (k := 0) (show decode mi_X8_tellListener.2.1 115 = .ok (.getfield 122, 3) from by decide +kernel) rfl (by decide) (gm 413 (by decide +kernel) rfl) rfl) <|
  tk_c (show TrOk D (d + 1) mi_X8_tellListener 118 (tr_putI 121 2 105) from ok_putI (ci := 1) (k := 5) (show decode mi_X8_tellListener.2.1 118 = .ok (.putfield 61, 3) from by decide +kernel) rfl (by decide) (gm 231 (by decide +kernel) rfl) rfl (Or.inl rfl)) <|
  tk_c (show TrOk D (d + 1) mi_X8_tellListener 121 (tr_aload 122 0) from ok_aload_n (show decode mi_X8_tellListener.2.1 121 = .ok (.aload_n 0, 1) from by decide +kernel) rfl) <|
  tk_c (show TrOk D (d + 1) mi_X8_tellListener 122 (tr_getR 125 9 804) from ok_getR (ci := 8) (k := 4) (show decode mi_X8_tellListener.2.1 122 = .ok (.getfield 40, 3) from by decide +kernel) rfl (by decide) (gm 249 (by decide +kernel) rfl) rfl) <|
  tk_c (show TrOk D (d + 1) mi_X8_tellListener 125 (tr_dup 126) from ok_dup (show decode mi_X8_tellListener.2.1 125 = .ok (.dup, 1) from by decide +kernel)) <|
  tk_c (show TrOk D (d + 1) mi_X8_tellListener 126 (tr_getI 129 8 708) from ok_getI (ci := 7) (k := 8) (show decode mi_X8_tellListener.2.1 126 = .ok (.getfield 186, 3) from by decide +kernel) rfl (by decide) (gm 153 (by decide +kernel) rfl) rfl) <|
  tk_c (show TrOk D (d + 1) mi_X8_tellListener 129 (tr_ic 130 1) from ok_iconst (show decode mi_X8_tellListener.2.1 129 = .ok (.iconst 1, 1) from by decide +kernel) rfl) <|
  tk_c (show TrOk D (d + 1) mi_X8_tellListener 130 (tr_iadd 131) from ok_iadd (show decode mi_X8_tellListener.2.1 130 = .ok (.iadd, 1) from by decide +kernel)) <|
  tk_c (show TrOk D (d + 1) mi_X8_tellListener 131 (tr_putI 134 8 708) from ok_putI (ci := 7) (k := 8) (show decode mi_X8_tellListener.2.1 131 = .ok (.putfield 186, 3) from by decide +kernel) rfl (by decide) (gm 153 (by decide +kernel) rfl) rfl (Or.inl rfl)) <|
  tk_c (show TrOk D (d + 1) mi_X8_tellListener 134 (tr_ret) from ok_ret (show decode mi_X8_tellListener.2.1 134 = .ok (.return_, 1) from by decide +kernel) rfl) <|
  tk_c (show TrOk D (d + 1) mi_X8_tellListener 135 (tr_iload 137 5) from ok_iload (show decode mi_X8_tellListener.2.1 135 = .ok (.iload 5, 2) from by decide +kernel)) <|
  tk_c (show TrOk D (d + 1) mi_X8_tellListener 137 (tr_ic 139 (-2)) from ok_bipush (show decode mi_X8_tellListener.2.1 137 = .ok (.bipush (-2), 2) from by decide +kernel) rfl) <|
  tk_c (show TrOk D (d + 1) mi_X8_tellListener 139 (tr_icne 142 145) from ok_icne (show decode mi_X8_tellListener.2.1 139 = .ok (.if_icmp .ne 6, 3) from by decide +kernel) (by decide)) <|
  tk_c (show TrOk D (d + 1) mi_X8_tellListener 142 (tr_goto 160) from ok_goto (show decode mi_X8_tellListener.2.1 142 = .ok (.goto 18, 3) from by decide +kernel) (by decide)) <|
  tk_c (show TrOk D (d + 1) mi_X8_tellListener 145 (tr_iload 147 5) from ok_iload (show decode mi_X8_tellListener.2.1 145 = .ok (.iload 5, 2) from by decide +kernel)) <|
  tk_c (show TrOk D (d + 1) mi_X8_tellListener 147 (tr_ic 148 (-1)) from ok_iconst (show decode mi_X8_tellListener.2.1 147 = .ok (.iconst (-1), 1) from by decide +kernel) rfl) <|
  tk_c (show TrOk D (d + 1) mi_X8_tellListener 148 (tr_icne 151 154) from ok_icne (show decode mi_X8_tellListener.2.1 148 = .ok (.if_icmp .ne 6, 3) from by decide +kernel) (by decide)) <|
  tk_c (show TrOk D (d + 1) mi_X8_tellListener 151 (tr_iinc 154 4 1) from ok_iinc (show decode mi_X8_tellListener.2.1 151 = .ok (.iinc 4 1, 3) from by decide +kernel) rfl (by decide)) <|
  tk_c (show TrOk D (d + 1) mi_X8_tellListener 154 (tr_iinc 157 4 1) from ok_iinc (show decode mi_X8_tellListener.2.1 154 = .ok (.iinc 4 1, 3) from by decide +kernel) rfl (by decide)) <|
  tk_n
def tb_X8_tellListener_2 (C : Nat → Sp) : Tab := [(157, tr_goto 54), (160, tr_aload 161 1), (161, tr_aload 162 1), (162, tr_getL 165 2 104), (165, tr_putL 168 2 103), (168, tr_ret)]
set_option maxRecDepth 20000 in
theorem tbk_X8_tellListener_2 {D : DD} {d : Nat} {C : Nat → Sp} (hC : Snd D d C) : ∀ e ∈ tb_X8_tellListener_2 C, TrOk D (d + 1) mi_X8_tellListener e.1 e.2 :=
  tk_c (show TrOk D (d + 1) mi_X8_tellListener 157 (tr_goto 54) from ok_goto (show decode mi_X8_tellListener.2.1 157 = .ok (.goto (-103), 3) from by decide +kernel) (by decide)) <|
  tk_c (show TrOk D (d + 1) mi_X8_tellListener 160 (tr_aload 161 1) from ok_aload_n (show decode mi_X8_tellListener.2.1 160 = .ok (.aload_n 1, 1) from by decide +kernel) rfl) <|
  tk_c (show TrOk D (d + 1) mi_X8_tellListener 161 (tr_aload 162 1) from ok_aload_n (show decode mi_X8_tellListener.2.1 161 = .ok (.aload_n 1, 1) from by decide +kernel) rfl) <|
  tk_c (show TrOk D (d + 1) mi_X8_tellListener 162 (tr_getL 165 2 104) from ok_getL (ci := 1) (k := 4) (show decode mi_X8_tellListener.2.1 162 = .ok (.getfield 165, 3) from by decide +kernel) rfl (by decide) (gm 229 (by decide +kernel) rfl) rfl) <|
  tk_c (show TrOk D (d + 1) mi_X8_tellListener 165 (tr_putL 168 2 103) from ok_putL (ci := 1) (k := 3) (show decode mi_X8_tellListener.2.1 165 = .ok (.putfield 56, 3) from by decide +kernel) rfl (by decide) (gm 228 (by decide +kernel) rfl) rfl (Or.inl rfl)) <|
  tk_c (show TrOk D (d + 1) mi_X8_tellListener 168 (tr_ret) from ok_ret (show decode mi_X8_tellListener.2.1 168 = .ok (.return_, 1) from by decide +kernel) rfl) <|
  tk_n
def tb_X8_tellListener (C : Nat → Sp) : Tab := tb_X8_tellListener_0 C ++ (tb_X8_tellListener_1 C ++ (tb_X8_tellListener_2 C))
theorem tbk_X8_tellListener {D : DD} {d : Nat} {C : Nat → Sp} (hC : Snd D d C) : ∀ e ∈ tb_X8_tellListener C, TrOk D (d + 1) mi_X8_tellListener e.1 e.2 := tk_a (tbk_X8_tellListener_0 hC) (tk_a (tbk_X8_tellListener_1 hC) (tbk_X8_tellListener_2 hC))
theorem a_X8_tellListener_0 (C : Nat → Sp) : ta (tb_X8_tellListener C) 0 = tr_aload 1 2 := rfl
theorem a_X8_tellListener_1 (C : Nat → Sp) : ta (tb_X8_tellListener C) 1 = tr_getR 4 6 505 := rfl
theorem a_X8_tellListener_4 (C : Nat → Sp) : ta (tb_X8_tellListener C) 4 = tr_astore 5 3 := rfl
theorem a_X8_tellListener_5 (C : Nat → Sp) : ta (tb_X8_tellListener C) 5 = tr_aload 6 2 := rfl
theorem a_X8_tellListener_6 (C : Nat → Sp) : ta (tb_X8_tellListener C) 6 = tr_getI 9 6 508 := rfl
theorem a_X8_tellListener_9 (C : Nat → Sp) : ta (tb_X8_tellListener C) 9 = tr_ifeq 12 20 := rfl
theorem a_X8_tellListener_12 (C : Nat → Sp) : ta (tb_X8_tellListener C) 12 = tr_aload 13 0 := rfl
theorem a_X8_tellListener_13 (C : Nat → Sp) : ta (tb_X8_tellListener C) 13 = tr_getR 16 9 801 := rfl
theorem a_X8_tellListener_16 (C : Nat → Sp) : ta (tb_X8_tellListener C) 16 = tr_aload 17 2 := rfl
theorem a_X8_tellListener_17 (C : Nat → Sp) : ta (tb_X8_tellListener C) 17 = tr_callV (C 13) 20 3 1 := rfl
theorem a_X8_tellListener_20 (C : Nat → Sp) : ta (tb_X8_tellListener C) 20 = tr_aload 21 2 := rfl
theorem a_X8_tellListener_21 (C : Nat → Sp) : ta (tb_X8_tellListener C) 21 = tr_dup 22 := rfl
theorem a_X8_tellListener_22 (C : Nat → Sp) : ta (tb_X8_tellListener C) 22 = tr_getI 25 6 510 := rfl
theorem a_X8_tellListener_25 (C : Nat → Sp) : ta (tb_X8_tellListener C) 25 = tr_ic 26 1 := rfl
theorem a_X8_tellListener_26 (C : Nat → Sp) : ta (tb_X8_tellListener C) 26 = tr_iadd 27 := rfl
theorem a_X8_tellListener_27 (C : Nat → Sp) : ta (tb_X8_tellListener C) 27 = tr_putI 30 6 510 := rfl
theorem a_X8_tellListener_30 (C : Nat → Sp) : ta (tb_X8_tellListener C) 30 = tr_aload 31 0 := rfl
theorem a_X8_tellListener_31 (C : Nat → Sp) : ta (tb_X8_tellListener C) 31 = tr_getR 34 9 804 := rfl
theorem a_X8_tellListener_34 (C : Nat → Sp) : ta (tb_X8_tellListener C) 34 = tr_dup 35 := rfl
theorem a_X8_tellListener_35 (C : Nat → Sp) : ta (tb_X8_tellListener C) 35 = tr_getI 38 8 705 := rfl
theorem a_X8_tellListener_38 (C : Nat → Sp) : ta (tb_X8_tellListener C) 38 = tr_ic 39 1 := rfl
theorem a_X8_tellListener_39 (C : Nat → Sp) : ta (tb_X8_tellListener C) 39 = tr_iadd 40 := rfl
theorem a_X8_tellListener_40 (C : Nat → Sp) : ta (tb_X8_tellListener C) 40 = tr_putI 43 8 705 := rfl
theorem a_X8_tellListener_43 (C : Nat → Sp) : ta (tb_X8_tellListener C) 43 = tr_aload 44 1 := rfl
theorem a_X8_tellListener_44 (C : Nat → Sp) : ta (tb_X8_tellListener C) 44 = tr_aload 45 1 := rfl
theorem a_X8_tellListener_45 (C : Nat → Sp) : ta (tb_X8_tellListener C) 45 = tr_getL 48 2 103 := rfl
theorem a_X8_tellListener_48 (C : Nat → Sp) : ta (tb_X8_tellListener C) 48 = tr_putL 51 2 104 := rfl
theorem a_X8_tellListener_51 (C : Nat → Sp) : ta (tb_X8_tellListener C) 51 = tr_ic 52 0 := rfl
theorem a_X8_tellListener_52 (C : Nat → Sp) : ta (tb_X8_tellListener C) 52 = tr_istore 54 4 := rfl
theorem a_X8_tellListener_54 (C : Nat → Sp) : ta (tb_X8_tellListener C) 54 = tr_iload 56 4 := rfl
theorem a_X8_tellListener_56 (C : Nat → Sp) : ta (tb_X8_tellListener C) 56 = tr_aload 57 3 := rfl
theorem a_X8_tellListener_57 (C : Nat → Sp) : ta (tb_X8_tellListener C) 57 = tr_getI 60 7 602 := rfl
theorem a_X8_tellListener_60 (C : Nat → Sp) : ta (tb_X8_tellListener C) 60 = tr_icge 63 160 := rfl
theorem a_X8_tellListener_63 (C : Nat → Sp) : ta (tb_X8_tellListener C) 63 = tr_aload 64 0 := rfl
theorem a_X8_tellListener_64 (C : Nat → Sp) : ta (tb_X8_tellListener C) 64 = tr_aload 65 1 := rfl
theorem a_X8_tellListener_65 (C : Nat → Sp) : ta (tb_X8_tellListener C) 65 = tr_aload 66 2 := rfl
theorem a_X8_tellListener_66 (C : Nat → Sp) : ta (tb_X8_tellListener C) 66 = tr_aload 67 3 := rfl
theorem a_X8_tellListener_67 (C : Nat → Sp) : ta (tb_X8_tellListener C) 67 = tr_getR 70 7 600 := rfl
theorem a_X8_tellListener_70 (C : Nat → Sp) : ta (tb_X8_tellListener C) 70 = tr_iload 72 4 := rfl
theorem a_X8_tellListener_72 (C : Nat → Sp) : ta (tb_X8_tellListener C) 72 = tr_iald 73 := rfl
theorem a_X8_tellListener_73 (C : Nat → Sp) : ta (tb_X8_tellListener C) 73 = tr_aload 74 3 := rfl
theorem a_X8_tellListener_74 (C : Nat → Sp) : ta (tb_X8_tellListener C) 74 = tr_getR 77 7 601 := rfl
theorem a_X8_tellListener_77 (C : Nat → Sp) : ta (tb_X8_tellListener C) 77 = tr_iload 79 4 := rfl
theorem a_X8_tellListener_79 (C : Nat → Sp) : ta (tb_X8_tellListener C) 79 = tr_iald 80 := rfl
theorem a_X8_tellListener_80 (C : Nat → Sp) : ta (tb_X8_tellListener C) 80 = tr_callV (C 45) 83 9 4 := rfl
theorem a_X8_tellListener_83 (C : Nat → Sp) : ta (tb_X8_tellListener C) 83 = tr_istore 85 5 := rfl
theorem a_X8_tellListener_85 (C : Nat → Sp) : ta (tb_X8_tellListener C) 85 = tr_iload 87 5 := rfl
theorem a_X8_tellListener_87 (C : Nat → Sp) : ta (tb_X8_tellListener C) 87 = tr_ifle 90 106 := rfl
theorem a_X8_tellListener_90 (C : Nat → Sp) : ta (tb_X8_tellListener C) 90 = tr_aload 91 0 := rfl
theorem a_X8_tellListener_91 (C : Nat → Sp) : ta (tb_X8_tellListener C) 91 = tr_getR 94 9 804 := rfl
theorem a_X8_tellListener_94 (C : Nat → Sp) : ta (tb_X8_tellListener C) 94 = tr_iload 96 5 := rfl
theorem a_X8_tellListener_96 (C : Nat → Sp) : ta (tb_X8_tellListener C) 96 = tr_aload 97 2 := rfl
theorem a_X8_tellListener_97 (C : Nat → Sp) : ta (tb_X8_tellListener C) 97 = tr_getI 100 6 500 := rfl
theorem a_X8_tellListener_100 (C : Nat → Sp) : ta (tb_X8_tellListener C) 100 = tr_iload 102 4 := rfl
theorem a_X8_tellListener_102 (C : Nat → Sp) : ta (tb_X8_tellListener C) 102 = tr_callV (C 38) 105 8 3 := rfl
theorem a_X8_tellListener_105 (C : Nat → Sp) : ta (tb_X8_tellListener C) 105 = tr_ret := rfl
theorem a_X8_tellListener_106 (C : Nat → Sp) : ta (tb_X8_tellListener C) 106 = tr_iload 108 5 := rfl
theorem a_X8_tellListener_108 (C : Nat → Sp) : ta (tb_X8_tellListener C) 108 = tr_ic 110 (-3) := rfl
theorem a_X8_tellListener_110 (C : Nat → Sp) : ta (tb_X8_tellListener C) 110 = tr_icne 113 135 := rfl
theorem a_X8_tellListener_113 (C : Nat → Sp) : ta (tb_X8_tellListener C) 113 = tr_aload 114 1 := rfl
set_option maxRecDepth 20000 in
theorem a_X8_tellListener_114 (C : Nat → Sp) : ta (tb_X8_tellListener C) 114 = tr_aload 115 2 := rfl
set_option maxRecDepth 20000 in
theorem a_X8_tellListener_115 (C : Nat → Sp) : ta (tb_X8_tellListener C) 115 = tr_getI 118 6 500 := rfl
set_option maxRecDepth 20000 in
theorem a_X8_tellListener_118 (C : Nat → Sp) : ta (tb_X8_tellListener C) 118 = tr_putI 121 2 105 := rfl
set_option maxRecDepth 20000 in
theorem a_X8_tellListener_121 (C : Nat → Sp) : ta (tb_X8_tellListener C) 121 = tr_aload 122 0 := rfl
set_option maxRecDepth 20000 in
theorem a_X8_tellListener_122 (C : Nat → Sp) : ta (tb_X8_tellListener C) 122 = tr_getR 125 9 804 := rfl
set_option maxRecDepth 20000 in
theorem a_X8_tellListener_125 (C : Nat → Sp) : ta (tb_X8_tellListener C) 125 = tr_dup 126 := rfl
set_option maxRecDepth 20000 in
theorem a_X8_tellListener_126 (C : Nat → Sp) : ta (tb_X8_tellListener C) 126 = tr_getI 129 8 708 := rfl
set_option maxRecDepth 20000 in
theorem a_X8_tellListener_129 (C : Nat → Sp) : ta (tb_X8_tellListener C) 129 = tr_ic 130 1 := rfl
set_option maxRecDepth 20000 in
theorem a_X8_tellListener_130 (C : Nat → Sp) : ta (tb_X8_tellListener C) 130 = tr_iadd 131 := rfl
set_option maxRecDepth 20000 in
theorem a_X8_tellListener_131 (C : Nat → Sp) : ta (tb_X8_tellListener C) 131 = tr_putI 134 8 708 := rfl
set_option maxRecDepth 20000 in
theorem a_X8_tellListener_134 (C : Nat → Sp) : ta (tb_X8_tellListener C) 134 = tr_ret := rfl
set_option maxRecDepth 20000 in
theorem a_X8_tellListener_135 (C : Nat → Sp) : ta (tb_X8_tellListener C) 135 = tr_iload 137 5 := rfl
set_option maxRecDepth 20000 in
theorem a_X8_tellListener_137 (C : Nat → Sp) : ta (tb_X8_tellListener C) 137 = tr_ic 139 (-2) := rfl
set_option maxRecDepth 20000 in
theorem a_X8_tellListener_139 (C : Nat → Sp) : ta (tb_X8_tellListener C) 139 = tr_icne 142 145 := rfl
set_option maxRecDepth 20000 in
theorem a_X8_tellListener_142 (C : Nat → Sp) : ta (tb_X8_tellListener C) 142 = tr_goto 160 := rfl
set_option maxRecDepth 20000 in
theorem a_X8_tellListener_145 (C : Nat → Sp) : ta (tb_X8_tellListener C) 145 = tr_iload 147 5 := rfl
set_option maxRecDepth 20000 in
theorem a_X8_tellListener_147 (C : Nat → Sp) : ta (tb_X8_tellListener C) 147 = tr_ic 148 (-1) := rfl
set_option maxRecDepth 20000 in
theorem a_X8_tellListener_148 (C : Nat → Sp) : ta (tb_X8_tellListener C) 148 = tr_icne 151 154 := rfl
set_option maxRecDepth 20000 in
theorem a_X8_tellListener_151 (C : Nat → Sp) : ta (tb_X8_tellListener C) 151 = tr_iinc 154 4 1 := rfl
set_option maxRecDepth 20000 in
theorem a_X8_tellListener_154 (C : Nat → Sp) : ta (tb_X8_tellListener C) 154 = tr_iinc 157 4 1 := rfl
set_option maxRecDepth 20000 in
theorem a_X8_tellListener_157 (C : Nat → Sp) : ta (tb_X8_tellListener C) 157 = tr_goto 54 := rfl
set_option maxRecDepth 20000 in
theorem a_X8_tellListener_160 (C : Nat → Sp) : ta (tb_X8_tellListener C) 160 = tr_aload 161 1 := rfl
set_option maxRecDepth 20000 in
theorem a_X8_tellListener_161 (C : Nat → Sp) : ta (tb_X8_tellListener C) 161 = tr_aload 162 1 := rfl
set_option maxRecDepth 20000 in
theorem a_X8_tellListener_162 (C : Nat → Sp) : ta (tb_X8_tellListener C) 162 = tr_getL 165 2 104 := rfl
set_option maxRecDepth 20000 in
theorem a_X8_tellListener_165 (C : Nat → Sp) : ta (tb_X8_tellListener C) 165 = tr_putL 168 2 103 := rfl
set_option maxRecDepth 20000 in
theorem a_X8_tellListener_168 (C : Nat → Sp) : ta (tb_X8_tellListener C) 168 = tr_ret := rfl

def tb_X8_doStep_0 (C : Nat → Sp) : Tab := [(0, tr_iload 1 3), (1, tr_sw 0 [72, 86, 95, 110, 113, 121, 129, 146, 149, 162, 172, 182, 190, 198] 205), (72, tr_aload 73 1), (73, tr_dup 74), (74, tr_getL 77 2 104), (77, tr_iload 79 4), (79, tr_i2l 80), (80, tr_ladd 81), (81, tr_putL 84 2 104), (84, tr_ic 85 0), (85, tr_iret), (86, tr_aload 87 1), (87, tr_iload 89 4), (89, tr_i2l 90), (90, tr_putL 93 2 104), (93, tr_ic 94 0), (94, tr_iret), (95, tr_aload 96 1), (96, tr_getI 99 2 102), (99, tr_ifne 102 107), (102, tr_ic 104 (-3)), (104, tr_goto 109), (107, tr_ic 109 8), (109, tr_iret), (110, tr_iload 112 4), (112, tr_iret), (113, tr_aload 114 0), (114, tr_aload 115 1), (115, tr_iload 117 4), (117, tr_callV (C 46) 120 9 2), (120, tr_iret), (121, tr_aload 122 0), (122, tr_aload 123 1), (123, tr_iload 125 4), (125, tr_callV (C 47) 128 9 2), (128, tr_iret), (129, tr_aload 130 1), (130, tr_getL 133 2 104), (133, tr_iload 135 4), (135, tr_i2l 136)]
set_option maxRecDepth 20000 in
theorem tbk_X8_doStep_0 {D : DD} {d : Nat} {C : Nat → Sp} (hC : Snd D d C) : ∀ e ∈ tb_X8_doStep_0 C, TrOk D (d + 1) mi_X8_doStep e.1 e.2 :=
  tk_c (show TrOk D (d + 1) mi_X8_doStep 0 (tr_iload 1 3) from ok_iload_n (show decode mi_X8_doStep.2.1 0 = .ok (.iload_n 3, 1) from by decide +kernel) rfl) <|
  tk_c (show TrOk D (d + 1) mi_X8_doStep 1 (tr_sw 0 [72, 86, 95, 110, 113, 121, 129, 146, 149, 162, 172, 182, 190, 198] 205) from ok_sw 0 (show decode mi_X8_doStep.2.1 1 = .ok (.tableswitch 204 0 13 #[71, 85, 94, 109, 112, 120, 128, 145, 148, 161, 171, 181, 189, 197], 71) from by decide +kernel) rfl rfl (by decide) (by decide) (by decide) (by decide +kernel)) <|
  tk_c (show TrOk D (d + 1) mi_X8_doStep 72 (tr_aload 73 1) from ok_aload_n (show decode mi_X8_doStep.2.1 72 = .ok (.aload_n 1, 1) from by decide +kernel) rfl) <|
  tk_c (show TrOk D (d + 1) mi_X8_doStep 73 (tr_dup 74) from ok_dup (show decode mi_X8_doStep.2.1 73 = .ok (.dup, 1) from by decide +kernel)) <|
  tk_c (show TrOk D (d + 1) mi_X8_doStep 74 (tr_getL 77 2 104) from ok_getL (ci := 1) (k := 4) (show decode mi_X8_doStep.2.1 74 = .ok (.getfield 165, 3) from by decide +kernel) rfl (by decide) (gm 229 (by decide +kernel) rfl) rfl) <|
  tk_c (show TrOk D (d + 1) mi_X8_doStep 77 (tr_iload 79 4) from ok_iload (show decode mi_X8_doStep.2.1 77 = .ok (.iload 4, 2) from by decide +kernel)) <|
  tk_c (show TrOk D (d + 1) mi_X8_doStep 79 (tr_i2l 80) from ok_i2l (show decode mi_X8_doStep.2.1 79 = .ok (.i2l, 1) from by decide +kernel)) <|
  tk_c (show TrOk D (d + 1) mi_X8_doStep 80 (tr_ladd 81) from ok_ladd (show decode mi_X8_doStep.2.1 80 = .ok (.ladd, 1) from by decide +kernel)) <|
  tk_c (show TrOk D (d + 1) mi_X8_doStep 81 (tr_putL 84 2 104) from ok_putL (ci := 1) (k := 4) (show decode mi_X8_doStep.2.1 81 = .ok (.putfield 165, 3) from by decide +kernel) rfl (by decide) (gm 229 (by decide +kernel) rfl) rfl (Or.inl rfl)) <|
  tk_c (show TrOk D (d + 1) mi_X8_doStep 84 (tr_ic 85 0) from ok_iconst (show decode mi_X8_doStep.2.1 84 = .ok (.iconst 0, 1) from by decide +kernel) rfl) <|
  tk_c (show TrOk D (d + 1) mi_X8_doStep 85 (tr_iret) from ok_iret (show decode mi_X8_doStep.2.1 85 = .ok (.ireturn, 1) from by decide +kernel) rfl) <|
  tk_c (show TrOk D (d + 1) mi_X8_doStep 86 (tr_aload 87 1) from ok_aload_n (show decode mi_X8_doStep.2.1 86 = .ok (.aload_n 1, 1) from by decide +kernel) rfl) <|
  tk_c (show TrOk D (d + 1) mi_X8_doStep 87 (tr_iload 89 4) from ok_iload (show decode mi_X8_doStep.2.1 87 = .ok (.iload 4, 2) from by decide +kernel)) <|
  tk_c (show TrOk D (d + 1) mi_X8_doStep 89 (tr_i2l 90) from ok_i2l (show decode mi_X8_doStep.2.1 89 = .ok (.i2l, 1) from by decide +kernel)) <|
  tk_c (show TrOk D (d + 1) mi_X8_doStep 90 (tr_putL 93 2 104) from ok_putL (ci := 1) (k := 4) (show decode mi_X8_doStep.2.1 90 = .ok (.putfield 165, 3) from by decide +kernel) rfl (by decide) (gm 229 (by decide +kernel) rfl) rfl (Or.inl rfl)) <|
  tk_c (show TrOk D (d + 1) mi_X8_doStep 93 (tr_ic 94 0) from ok_iconst (show decode mi_X8_doStep.2.1 93 = .ok (.iconst 0, 1) from by decide +kernel) rfl) <|
  tk_c (show TrOk D (d + 1) mi_X8_doStep 94 (tr_iret) from ok_iret (show decode mi_X8_doStep.2.1 94 = .ok (.ireturn, 1) from by decide +kernel) rfl) <|
  tk_c (show TrOk D (d + 1) mi_X8_doStep 95 (tr_aload 96 1) from ok_aload_n (show decode mi_X8_doStep.2.1 95 = .ok (.aload_n 1, 1) from by decide +kernel) rfl) <|
  tk_c (show TrOk D (d + 1) mi_X8_doStep 96 (tr_getI 99 2 102) from ok_getI (ci := 1) (k := 2) (show decode mi_X8_doStep.2.1 96 = .ok (.getfield 107, 3) from by decide +kernel) rfl (by decide) (gm 226 (by decide +kernel) rfl) rfl) <|
  tk_c (show TrOk D (d + 1) mi_X8_doStep 99 (tr_ifne 102 107) from ok_ifne (show decode mi_X8_doStep.2.1 99 = .ok (.ifCond .ne 8, 3) from by decide +kernel) (by decide)) <|
  tk_c (show TrOk D (d + 1) mi_X8_doStep 102 (tr_ic 104 (-3)) from ok_bipush (show decode mi_X8_doStep.2.1 102 = .ok (.bipush (-3), 2) from by decide +kernel) rfl) <|
  tk_c (show TrOk D (d + 1) mi_X8_doStep 104 (tr_goto 109) from ok_goto (show decode mi_X8_doStep.2.1 104 = .ok (.goto 5, 3) from by decide +kernel) (by decide)) <|
  tk_c (show TrOk D (d + 1) mi_X8_doStep 107 (tr_ic 109 8) from ok_bipush (show decode mi_X8_doStep.2.1 107 = .ok (.bipush 8, 2) from by decide +kernel) rfl) <|
  tk_c (show TrOk D (d + 1) mi_X8_doStep 109 (tr_iret) from ok_iret (show decode mi_X8_doStep.2.1 109 = .ok (.ireturn, 1) from by decide +kernel) rfl) <|
  tk_c (show TrOk D (d + 1) mi_X8_doStep 110 (tr_iload 112 4) from ok_iload (show decode mi_X8_doStep.2.1 110 = .ok (.iload 4, 2) from by decide +kernel)) <|
  tk_c (show TrOk D (d + 1) mi_X8_doStep 112 (tr_iret) from ok_iret (show decode mi_X8_doStep.2.1 112 = .ok (.ireturn, 1) from by decide +kernel) rfl) <|
  tk_c (show TrOk D (d + 1) mi_X8_doStep 113 (tr_aload 114 0) from ok_aload_n (show decode mi_X8_doStep.2.1 113 = .ok (.aload_n 0, 1) from by decide +kernel) rfl) <|
  tk_c (show TrOk D (d + 1) mi_X8_doStep 114 (tr_aload 115 1) from ok_aload_n (show decode mi_X8_doStep.2.1 114 = .ok (.aload_n 1, 1) from by decide +kernel) rfl) <|
  tk_c (show TrOk D (d + 1) mi_X8_doStep 115 (tr_iload 117 4) from ok_iload (show decode mi_X8_doStep.2.1 115 = .ok (.iload 4, 2) from by decide +kernel)) <|
  tk_c (show TrOk D (d + 1) mi_X8_doStep 117 (tr_callV (C 46) 120 9 2) from ok_callV (ci := 8) (show decode mi_X8_doStep.2.1 117 = .ok (.invokevirtual 189, 3) from by decide +kernel) mok_X8_divide rfl rfl (gm 620 (by decide +kernel) rfl) (gm 622 (by decide +kernel) rfl) (gm 5 (by decide +kernel) rfl) (hC 46)) <|
  tk_c (show TrOk D (d + 1) mi_X8_doStep 120 (tr_iret) from ok_iret (show decode mi_X8_doStep.2.1 120 = .ok (.ireturn, 1) from by decide +kernel) rfl) <|
  tk_c (show TrOk D (d + 1) mi_X8_doStep 121 (tr_aload 122 0) from ok_aload_n (show decode mi_X8_doStep.2.1 121 = .ok (.aload_n 0, 1) from by decide +kernel) rfl) <|
  tk_c (show TrOk D (d + 1) mi_X8_doStep 122 (tr_aload 123 1) from ok_aload_n (show decode mi_X8_doStep.2.1 122 = .ok (.aload_n 1, 1) from by decide +kernel) rfl) <|
  tk_c (show TrOk D (d + 1) mi_X8_doStep 123 (tr_iload 125 4) from ok_iload (show decode mi_X8_doStep.2.1 123 = .ok (.iload 4, 2) from by decide +kernel)) <|
  tk_c (show TrOk D (d + 1) mi_X8_doStep 125 (tr_callV (C 47) 128 9 2) from ok_callV (ci := 8) (show decode mi_X8_doStep.2.1 125 = .ok (.invokevirtual 193, 3) from by decide +kernel) mok_X8_takeRemainder rfl rfl (gm 624 (by decide +kernel) rfl) (gm 626 (by decide +kernel) rfl) (gm 6 (by decide +kernel) rfl) (hC 47)) <|
  tk_c (show TrOk D (d + 1) mi_X8_doStep 128 (tr_iret) from ok_iret (show decode mi_X8_doStep.2.1 128 = .ok (.ireturn, 1) from by decide +kernel) rfl) <|
  tk_c (show TrOk D (d + 1) mi_X8_doStep 129 (tr_aload 130 1) from ok_aload_n (show decode mi_X8_doStep.2.1 129 = .ok (.aload_n 1, 1) from by decide +kernel) rfl) <|
  tk_c (show TrOk D (d + 1) mi_X8_doStep 130 (tr_getL 133 2 104) from ok_getL (ci := 1) (k := 4) (show decode mi_X8_doStep.2.1 130 = .ok (.getfield 165, 3) from by decide +kernel) rfl (by decide) (gm 229 (by decide +kernel) rfl) rfl) <|
  tk_c (show TrOk D (d + 1) mi_X8_doStep 133 (tr_iload 135 4) from ok_iload (show decode mi_X8_doStep.2.1 133 = .ok (.iload 4, 2) from by decide +kernel)) <|
  tk_c (show TrOk D (d + 1) mi_X8_doStep 135 (tr_i2l 136) from ok_i2l (show decode mi_X8_doStep.2.1 135 = .ok (.i2l, 1) from by decide +kernel)) <|
  tk_n
def tb_X8_doStep_1 (C : Nat → Sp) : Tab := [(136, tr_lcmp 137), (137, tr_ifge 140 144), (140, tr_ic 141 (-1)), (141, tr_goto 145), (144, tr_ic 145 0), (145, tr_iret), (146, tr_ic 148 (-2)), (148, tr_iret), (149, tr_aload 150 0), (150, tr_getR 153 9 804), (153, tr_aload 154 1), (154, tr_getL 157 2 104), (157, tr_callV (C 37) 160 8 1), (160, tr_ic 161 0), (161, tr_iret), (162, tr_aload 163 0), (163, tr_getR 166 9 801), (166, tr_iload 168 4), (168, tr_callV (C 12) 171 3 1), (171, tr_iret), (172, tr_aload 173 0), (173, tr_getR 176 9 801), (176, tr_iload 178 4), (178, tr_callV (C 14) 181 3 1), (181, tr_iret), (182, tr_aload 183 0), (183, tr_aload 184 1), (184, tr_iload 186 4), (186, tr_callV (C 48) 189 9 2), (189, tr_iret), (190, tr_aload 191 0), (191, tr_aload 192 1), (192, tr_iload 194 4), (194, tr_callV (C 49) 197 9 2), (197, tr_iret), (198, tr_aload 199 0), (199, tr_iload 201 4), (201, tr_callV (C 50) 204 9 1), (204, tr_iret), (205, tr_aload 206 0)]
set_option maxRecDepth 20000 in
theorem tbk_X8_doStep_1 {D : DD} {d : Nat} {C : Nat → Sp} (hC : Snd D d C) : ∀ e ∈ tb_X8_doStep_1 C, TrOk D (d + 1) mi_X8_doStep e.1 e.2 :=
  tk_c (show TrOk D (d + 1) mi_X8_doStep 136 (tr_lcmp 137) from ok_lcmp (show decode mi_X8_doStep.2.1 136 = .ok (.lcmp, 1) from by decide +kernel)) <|
  tk_c (show TrOk D (d + 1) mi_X8_doStep 137 (tr_ifge 140 144) from ok_ifge (show decode mi_X8_doStep.2.1 137 = .ok (.ifCond .ge 7, 3) from by decide +kernel) (by decide)) <|
  tk_c (show TrOk D (d + 1) mi_X8_doStep 140 (tr_ic 141 (-1)) from ok_iconst (show decode mi_X8_doStep.2.1 140 = .ok (.iconst (-1), 1) from by decide +kernel) rfl) <|
  tk_c (show TrOk D (d + 1) mi_X8_doStep 141 (tr_goto 145) from ok_goto (show decode mi_X8_doStep.2.1 141 = .ok (.goto 4, 3) from by decide +kernel) (by decide)) <|
  tk_c (show TrOk D (d + 1) mi_X8_doStep 144 (tr_ic 145 0) from ok_iconst (show decode mi_X8_doStep.2.1 144 = .ok (.iconst 0, 1) from by decide +kernel) rfl) <|
  tk_c (show TrOk D (d + 1) mi_X8_doStep 145 (tr_iret) from ok_iret (show decode mi_X8_doStep.2.1 145 = .ok (.ireturn, 1) from by decide +kernel) rfl) <|
  tk_c (show TrOk D (d + 1) mi_X8_doStep 146 (tr_ic 148 (-2)) from ok_bipush (show decode mi_X8_doStep.2.1 146 = .ok (.bipush (-2), 2) from by decide +kernel) rfl) <|
  tk_c (show TrOk D (d + 1) mi_X8_doStep 148 (tr_iret) from ok_iret (show decode mi_X8_doStep.2.1 148 = .ok (.ireturn, 1) from by decide +kernel) rfl) <|
  tk_c (show TrOk D (d + 1) mi_X8_doStep 149 (tr_aload 150 0) from ok_aload_n (show decode mi_X8_doStep.2.1 149 = .ok (.aload_n 0, 1) from by decide +kernel) rfl) <|
  tk_c (show TrOk D (d + 1) mi_X8_doStep 150 (tr_getR 153 9 804) from ok_getR (ci := 8) (k := 4) (show decode mi_X8_doStep.2.1 150 = .ok (.getfield 40, 3) from by decide +kernel) rfl (by decide) (gm 249 (by decide +kernel) rfl) rfl) <|
  tk_c (show TrOk D (d + 1) mi_X8_doStep 153 (tr_aload 154 1) from ok_aload_n (show decode mi_X8_doStep.2.1 153 = .ok (.aload_n 1, 1) from by decide +kernel) rfl) <|
  tk_c (show TrOk D (d + 1) mi_X8_doStep 154 (tr_getL 157 2 104) from ok_getL (ci := 1) (k := 4) (show decode mi_X8_doStep.2.1 154 = .ok (.getfield 165, 3) from by decide +kernel) rfl (by decide) (gm 229 (by decide +kernel) rfl) rfl) <|
  tk_c (show TrOk D (d + 1) mi_X8_doStep 157 (tr_callV (C 37) 160 8 1) from ok_callV (ci := 7) (show decode mi_X8_doStep.2.1 157 = .ok (.invokevirtual 196, 3) from by decide +kernel) mok_X7_addLogged rfl rfl (gm 628 (by decide +kernel) rfl) (gm 629 (by decide +kernel) rfl) (gm 630 (by decide +kernel) rfl) (hC 37)) <|
  tk_c (show TrOk D (d + 1) mi_X8_doStep 160 (tr_ic 161 0) from ok_iconst (show decode mi_X8_doStep.2.1 160 = .ok (.iconst 0, 1) from by decide +kernel) rfl) <|
  tk_c (show TrOk D (d + 1) mi_X8_doStep 161 (tr_iret) from ok_iret (show decode mi_X8_doStep.2.1 161 = .ok (.ireturn, 1) from by decide +kernel) rfl) <|
  tk_c (show TrOk D (d + 1) mi_X8_doStep 162 (tr_aload 163 0) from ok_aload_n (show decode mi_X8_doStep.2.1 162 = .ok (.aload_n 0, 1) from by decide +kernel) rfl) <|
  tk_c (show TrOk D (d + 1) mi_X8_doStep 163 (tr_getR 166 9 801) from ok_getR (ci := 8) (k := 1) (show decode mi_X8_doStep.2.1 163 = .ok (.getfield 28, 3) from by decide +kernel) rfl (by decide) (gm 246 (by decide +kernel) rfl) rfl) <|
  tk_c (show TrOk D (d + 1) mi_X8_doStep 166 (tr_iload 168 4) from ok_iload (show decode mi_X8_doStep.2.1 166 = .ok (.iload 4, 2) from by decide +kernel)) <|
  tk_c (show TrOk D (d + 1) mi_X8_doStep 168 (tr_callV (C 12) 171 3 1) from ok_callV (ci := 2) (show decode mi_X8_doStep.2.1 168 = .ok (.invokevirtual 200, 3) from by decide +kernel) mok_X2_seatLike rfl rfl (gm 632 (by decide +kernel) rfl) (gm 633 (by decide +kernel) rfl) (gm 634 (by decide +kernel) rfl) (hC 12)) <|
  tk_c (show TrOk D (d + 1) mi_X8_doStep 171 (tr_iret) from ok_iret (show decode mi_X8_doStep.2.1 171 = .ok (.ireturn, 1) from by decide +kernel) rfl) <|
  tk_c (show TrOk D (d + 1) mi_X8_doStep 172 (tr_aload 173 0) from ok_aload_n (show decode mi_X8_doStep.2.1 172 = .ok (.aload_n 0, 1) from by decide +kernel) rfl) <|
  tk_c (show TrOk D (d + 1) mi_X8_doStep 173 (tr_getR 176 9 801) from ok_getR (ci := 8) (k := 1) (show decode mi_X8_doStep.2.1 173 = .ok (.getfield 28, 3) from by decide +kernel) rfl (by decide) (gm 246 (by decide +kernel) rfl) rfl) <|
  tk_c (show TrOk D (d + 1) mi_X8_doStep 176 (tr_iload 178 4) from ok_iload (show decode mi_X8_doStep.2.1 176 = .ok (.iload 4, 2) from by decide +kernel)) <|
  tk_c (show TrOk D (d + 1) mi_X8_doStep 178 (tr_callV (C 14) 181 3 1) from ok_callV (ci := 2) (show decode mi_X8_doStep.2.1 178 = .ok (.invokevirtual 204, 3) from by decide +kernel) mok_X2_sendAway rfl rfl (gm 645 (by decide +kernel) rfl) (gm 646 (by decide +kernel) rfl) (gm 647 (by decide +kernel) rfl) (hC 14)) <|
  tk_c (show TrOk D (d + 1) mi_X8_doStep 181 (tr_iret) from ok_iret (show decode mi_X8_doStep.2.1 181 = .ok (.ireturn, 1) from by decide +kernel) rfl) <|
  tk_c (show TrOk D (d + 1) mi_X8_doStep 182 (tr_aload 183 0) from ok_aload_n (show decode mi_X8_doStep.2.1 182 = .ok (.aload_n 0, 1) from by decide +kernel) rfl) <|
  tk_c (show TrOk D (d + 1) mi_X8_doStep 183 (tr_aload 184 1) from ok_aload_n (show decode mi_X8_doStep.2.1 183 = .ok (.aload_n 1, 1) from by decide +kernel) rfl) <|
  tk_c (show TrOk D (d + 1) mi_X8_doStep 184 (tr_iload 186 4) from ok_iload (show decode mi_X8_doStep.2.1 184 = .ok (.iload 4, 2) from by decide +kernel)) <|
  tk_c (show TrOk D (d + 1) mi_X8_doStep 186 (tr_callV (C 48) 189 9 2) from ok_callV (ci := 8) (show decode mi_X8_doStep.2.1 186 = .ok (.invokevirtual 207, 3) from by decide +kernel) mok_X8_tellNow rfl rfl (gm 649 (by decide +kernel) rfl) (gm 651 (by decide +kernel) rfl) (gm 7 (by decide +kernel) rfl) (hC 48)) <|
  tk_c (show TrOk D (d + 1) mi_X8_doStep 189 (tr_iret) from ok_iret (show decode mi_X8_doStep.2.1 189 = .ok (.ireturn, 1) from by decide +kernel) rfl) <|
  tk_c (show TrOk D (d + 1) mi_X8_doStep 190 (tr_aload 191 0) from ok_aload_n (show decode mi_X8_doStep.2.1 190 = .ok (.aload_n 0, 1) from by decide +kernel) rfl) <|
  tk_c (show TrOk D (d + 1) mi_X8_doStep 191 (tr_aload 192 1) from ok_aload_n (show decode mi_X8_doStep.2.1 191 = .ok (.aload_n 1, 1) from by decide +kernel) rfl) <|
  tk_c (show TrOk D (d + 1) mi_X8_doStep 192 (tr_iload 194 4) from ok_iload (show decode mi_X8_doStep.2.1 192 = .ok (.iload 4, 2) from by decide +kernel)) <|
  tk_c (show TrOk D (d + 1) mi_X8_doStep 194 (tr_callV (C 49) 197 9 2) from ok_callV (ci := 8) (show decode mi_X8_doStep.2.1 194 = .ok (.invokevirtual 210, 3) from by decide +kernel) mok_X8_tellLater rfl rfl (gm 654 (by decide +kernel) rfl) (gm 656 (by decide +kernel) rfl) (gm 8 (by decide +kernel) rfl) (hC 49)) <|
  tk_c (show TrOk D (d + 1) mi_X8_doStep 197 (tr_iret) from ok_iret (show decode mi_X8_doStep.2.1 197 = .ok (.ireturn, 1) from by decide +kernel) rfl) <|
  tk_c (show TrOk D (d + 1) mi_X8_doStep 198 (tr_aload 199 0) from ok_aload_n (show decode mi_X8_doStep.2.1 198 = .ok (.aload_n 0, 1) from by decide +kernel) rfl) <|
  tk_c (show TrOk D (d + 1) mi_X8_doStep 199 (tr_iload 201 4) from ok_iload (show decode mi_X8_doStep.2.1 199 = .ok (.iload 4, 2) from by decide +kernel)) <|
  tk_c (show TrOk D (d + 1) mi_X8_doStep 201 (tr_callV (C 50) 204 9 1) from ok_callV (ci := 8) (show decode mi_X8_doStep.2.1 201 = .ok (.invokevirtual 213, 3) from by decide +kernel) mok_X8_closeScene rfl rfl (gm 667 (by decide +kernel) rfl) (gm 669 (by decide +kernel) rfl) (gm 9 (by decide +kernel) rfl) (hC 50)) <|
  tk_c (show TrOk D (d + 1) mi_X8_doStep 204 (tr_iret) from ok_iret (show decode mi_X8_doStep.2.1 204 = .ok (.ireturn, 1) from by decide +kernel) rfl) <|
  tk_c (show TrOk D (d + 1) mi_X8_doStep 205 (tr_aload 206 0) from ok_aload_n (show decode mi_X8_doStep.2.1 205 = .ok (.aload_n 0, 1) from by decide +kernel) rfl) <|
  tk_n
def tb_X8_doStep_2 (C : Nat → Sp) : Tab := [(206, tr_aload 207 1), (207, tr_aload 208 2), (208, tr_iload 209 3), (209, tr_iload 211 4), (211, tr_callV (C 51) 214 9 4), (214, tr_iret)]
set_option maxRecDepth 20000 in
theorem tbk_X8_doStep_2 {D : DD} {d : Nat} {C : Nat → Sp} (hC : Snd D d C) : ∀ e ∈ tb_X8_doStep_2 C, TrOk D (d + 1) mi_X8_doStep e.1 e.2 :=
  tk_c (show TrOk D (d + 1) mi_X8_doStep 206 (tr_aload 207 1) from ok_aload_n (show decode mi_X8_doStep.2.1 206 = .ok (.aload_n 1, 1) from by decide +kernel) rfl) <|
  tk_c (show TrOk D (d + 1) mi_X8_doStep 207 (tr_aload 208 2) from ok_aload_n (show decode mi_X8_doStep.2.1 207 = .ok (.aload_n 2, 1) from by decide +kernel) rfl) <|
  tk_c (show TrOk D (d + 1) mi_X8_doStep 208 (tr_iload 209 3) from ok_iload_n (show decode mi_X8_doStep.2.1 208 = .ok (.iload_n 3, 1) from by decide +kernel) rfl) <|
  tk_c (show TrOk D (d + 1) mi_X8_doStep 209 (tr_iload 211 4) from ok_iload (show decode mi_X8_doStep.2.1 209 = .ok (.iload 4, 2) from by decide +kernel)) <|
  tk_c (show TrOk D (d + 1) mi_X8_doStep 211 (tr_callV (C 51) 214 9 4) from ok_callV (ci := 8) (show decode mi_X8_doStep.2.1 211 = .ok (.invokevirtual 216, 3) from by decide +kernel) mok_X8_touchTray rfl rfl (gm 673 (by decide +kernel) rfl) (gm 675 (by decide +kernel) rfl) (gm 10 (by decide +kernel) rfl) (hC 51)) <|
  tk_c (show TrOk D (d + 1) mi_X8_doStep 214 (tr_iret) from ok_iret (show decode mi_X8_doStep.2.1 214 = .ok (.ireturn, 1) from by decide +kernel) rfl) <|
  tk_n
def tb_X8_doStep (C : Nat → Sp) : Tab := tb_X8_doStep_0 C ++ (tb_X8_doStep_1 C ++ (tb_X8_doStep_2 C))
theorem tbk_X8_doStep {D : DD} {d : Nat} {C : Nat → Sp} (hC : Snd D d C) : ∀ e ∈ tb_X8_doStep C, TrOk D (d + 1) mi_X8_doStep e.1 e.2 := tk_a (tbk_X8_doStep_0 hC) (tk_a (tbk_X8_doStep_1 hC) (tbk_X8_doStep_2 hC))
theorem a_X8_doStep_0 (C : Nat → Sp) : ta (tb_X8_doStep C) 0 = tr_iload 1 3 := rfl
theorem a_X8_doStep_1 (C : Nat → Sp) : ta (tb_X8_doStep C) 1 = tr_sw 0 [72, 86, 95, 110, 113, 121, 129, 146, 149, 162, 172, 182, 190, 198] 205 := rfl
theorem a_X8_doStep_72 (C : Nat → Sp) : ta (tb_X8_doStep C) 72 = tr_aload 73 1 := rfl
theorem a_X8_doStep_73 (C : Nat → Sp) : ta (tb_X8_doStep C) 73 = tr_dup 74 := rfl
theorem a_X8_doStep_74 (C : Nat → Sp) : ta (tb_X8_doStep C) 74 = tr_getL 77 2 104 := rfl
theorem a_X8_doStep_77 (C : Nat → Sp) : ta (tb_X8_doStep C) 77 = tr_iload 79 4 := rfl
theorem a_X8_doStep_79 (C : Nat → Sp) : ta (tb_X8_doStep C) 79 = tr_i2l 80 := rfl
theorem a_X8_doStep_80 (C : Nat → Sp) : ta (tb_X8_doStep C) 80 = tr_ladd 81 := rfl
theorem a_X8_doStep_81 (C : Nat → Sp) : ta (tb_X8_doStep C) 81 = tr_putL 84 2 104 := rfl
theorem a_X8_doStep_84 (C : Nat → Sp) : ta (tb_X8_doStep C) 84 = tr_ic 85 0 := rfl
theorem a_X8_doStep_85 (C : Nat → Sp) : ta (tb_X8_doStep C) 85 = tr_iret := rfl
theorem a_X8_doStep_86 (C : Nat → Sp) : ta (tb_X8_doStep C) 86 = tr_aload 87 1 := rfl
theorem a_X8_doStep_87 (C : Nat → Sp) : ta (tb_X8_doStep C) 87 = tr_iload 89 4 := rfl
theorem a_X8_doStep_89 (C : Nat → Sp) : ta (tb_X8_doStep C) 89 = tr_i2l 90 := rfl
theorem a_X8_doStep_90 (C : Nat → Sp) : ta (tb_X8_doStep C) 90 = tr_putL 93 2 104 := rfl
theorem a_X8_doStep_93 (C : Nat → Sp) : ta (tb_X8_doStep C) 93 = tr_ic 94 0 := rfl
theorem a_X8_doStep_94 (C : Nat → Sp) : ta (tb_X8_doStep C) 94 = tr_iret := rfl
theorem a_X8_doStep_95 (C : Nat → Sp) : ta (tb_X8_doStep C) 95 = tr_aload 96 1 := rfl
theorem a_X8_doStep_96 (C : Nat → Sp) : ta (tb_X8_doStep C) 96 = tr_getI 99 2 102 := rfl
theorem a_X8_doStep_99 (C : Nat → Sp) : ta (tb_X8_doStep C) 99 = tr_ifne 102 107 := rfl
theorem a_X8_doStep_102 (C : Nat → Sp) : ta (tb_X8_doStep C) 102 = tr_ic 104 (-3) := rfl
theorem a_X8_doStep_104 (C : Nat → Sp) : ta (tb_X8_doStep C) 104 = tr_goto 109 := rfl
theorem a_X8_doStep_107 (C : Nat → Sp) : ta (tb_X8_doStep C) 107 = tr_ic 109 8 := rfl
theorem a_X8_doStep_109 (C : Nat → Sp) : ta (tb_X8_doStep C) 109 = tr_iret := rfl
theorem a_X8_doStep_110 (C : Nat → Sp) : ta (tb_X8_doStep C) 110 = tr_iload 112 4 := rfl
theorem a_X8_doStep_112 (C : Nat → Sp) : ta (tb_X8_doStep C) 112 = tr_iret := rfl
theorem a_X8_doStep_113 (C : Nat → Sp) : ta (tb_X8_doStep C) 113 = tr_aload 114 0 := rfl
theorem a_X8_doStep_114 (C : Nat → Sp) : ta (tb_X8_doStep C) 114 = tr_aload 115 1 := rfl
theorem a_X8_doStep_115 (C : Nat → Sp) : ta (tb_X8_doStep C) 115 = tr_iload 117 4 := rfl
theorem a_X8_doStep_117 (C : Nat → Sp) : ta (tb_X8_doStep C) 117 = tr_callV (C 46) 120 9 2 := rfl
theorem a_X8_doStep_120 (C : Nat → Sp) : ta (tb_X8_doStep C) 120 = tr_iret := rfl
theorem a_X8_doStep_121 (C : Nat → Sp) : ta (tb_X8_doStep C) 121 = tr_aload 122 0 := rfl
theorem a_X8_doStep_122 (C : Nat → Sp) : ta (tb_X8_doStep C) 122 = tr_aload 123 1 := rfl
theorem a_X8_doStep_123 (C : Nat → Sp) : ta (tb_X8_doStep C) 123 = tr_iload 125 4 := rfl
theorem a_X8_doStep_125 (C : Nat → Sp) : ta (tb_X8_doStep C) 125 = tr_callV (C 47) 128 9 2 := rfl
theorem a_X8_doStep_128 (C : Nat → Sp) : ta (tb_X8_doStep C) 128 = tr_iret := rfl
theorem a_X8_doStep_129 (C : Nat → Sp) : ta (tb_X8_doStep C) 129 = tr_aload 130 1 := rfl
theorem a_X8_doStep_130 (C : Nat → Sp) : ta (tb_X8_doStep C) 130 = tr_getL 133 2 104 := rfl
theorem a_X8_doStep_133 (C : Nat → Sp) : ta (tb_X8_doStep C) 133 = tr_iload 135 4 := rfl
theorem a_X8_doStep_135 (C : Nat → Sp) : ta (tb_X8_doStep C) 135 = tr_i2l 136 := rfl
theorem a_X8_doStep_136 (C : Nat → Sp) : ta (tb_X8_doStep C) 136 = tr_lcmp 137 := rfl
theorem a_X8_doStep_137 (C : Nat → Sp) : ta (tb_X8_doStep C) 137 = tr_ifge 140 144 := rfl
theorem a_X8_doStep_140 (C : Nat → Sp) : ta (tb_X8_doStep C) 140 = tr_ic 141 (-1) := rfl
theorem a_X8_doStep_141 (C : Nat → Sp) : ta (tb_X8_doStep C) 141 = tr_goto 145 := rfl
theorem a_X8_doStep_144 (C : Nat → Sp) : ta (tb_X8_doStep C) 144 = tr_ic 145 0 := rfl
theorem a_X8_doStep_145 (C : Nat → Sp) : ta (tb_X8_doStep C) 145 = tr_iret := rfl
theorem a_X8_doStep_146 (C : Nat → Sp) : ta (tb_X8_doStep C) 146 = tr_ic 148 (-2) := rfl
theorem a_X8_doStep_148 (C : Nat → Sp) : ta (tb_X8_doStep C) 148 = tr_iret := rfl
theorem a_X8_doStep_149 (C : Nat → Sp) : ta (tb_X8_doStep C) 149 = tr_aload 150 0 := rfl
theorem a_X8_doStep_150 (C : Nat → Sp) : ta (tb_X8_doStep C) 150 = tr_getR 153 9 804 := rfl
theorem a_X8_doStep_153 (C : Nat → Sp) : ta (tb_X8_doStep C) 153 = tr_aload 154 1 := rfl
theorem a_X8_doStep_154 (C : Nat → Sp) : ta (tb_X8_doStep C) 154 = tr_getL 157 2 104 := rfl
theorem a_X8_doStep_157 (C : Nat → Sp) : ta (tb_X8_doStep C) 157 = tr_callV (C 37) 160 8 1 := rfl
theorem a_X8_doStep_160 (C : Nat → Sp) : ta (tb_X8_doStep C) 160 = tr_ic 161 0 := rfl
theorem a_X8_doStep_161 (C : Nat → Sp) : ta (tb_X8_doStep C) 161 = tr_iret := rfl
theorem a_X8_doStep_162 (C : Nat → Sp) : ta (tb_X8_doStep C) 162 = tr_aload 163 0 := rfl
theorem a_X8_doStep_163 (C : Nat → Sp) : ta (tb_X8_doStep C) 163 = tr_getR 166 9 801 := rfl
theorem a_X8_doStep_166 (C : Nat → Sp) : ta (tb_X8_doStep C) 166 = tr_iload 168 4 := rfl
theorem a_X8_doStep_168 (C : Nat → Sp) : ta (tb_X8_doStep C) 168 = tr_callV (C 12) 171 3 1 := rfl
theorem a_X8_doStep_171 (C : Nat → Sp) : ta (tb_X8_doStep C) 171 = tr_iret := rfl
set_option maxRecDepth 20000 in
theorem a_X8_doStep_172 (C : Nat → Sp) : ta (tb_X8_doStep C) 172 = tr_aload 173 0 := rfl
set_option maxRecDepth 20000 in
theorem a_X8_doStep_173 (C : Nat → Sp) : ta (tb_X8_doStep C) 173 = tr_getR 176 9 801 := rfl
set_option maxRecDepth 20000 in
theorem a_X8_doStep_176 (C : Nat → Sp) : ta (tb_X8_doStep C) 176 = tr_iload 178 4 := rfl
set_option maxRecDepth 20000 in
theorem a_X8_doStep_178 (C : Nat → Sp) : ta (tb_X8_doStep C) 178 = tr_callV (C 14) 181 3 1 := rfl
set_option maxRecDepth 20000 in
theorem a_X8_doStep_181 (C : Nat → Sp) : ta (tb_X8_doStep C) 181 = tr_iret := rfl
set_option maxRecDepth 20000 in
theorem a_X8_doStep_182 (C : Nat → Sp) : ta (tb_X8_doStep C) 182 = tr_aload 183 0 := rfl
set_option maxRecDepth 20000 in
theorem a_X8_doStep_183 (C : Nat → Sp) : ta (tb_X8_doStep C) 183 = tr_aload 184 1 := rfl
set_option maxRecDepth 20000 in
theorem a_X8_doStep_184 (C : Nat → Sp) : ta (tb_X8_doStep C) 184 = tr_iload 186 4 := rfl
set_option maxRecDepth 20000 in
theorem a_X8_doStep_186 (C : Nat → Sp) : ta (tb_X8_doStep C) 186 = tr_callV (C 48) 189 9 2 := rfl
set_option maxRecDepth 20000 in
theorem a_X8_doStep_189 (C : Nat → Sp) : ta (tb_X8_doStep C) 189 = tr_iret := rfl
set_option maxRecDepth 20000 in
theorem a_X8_doStep_190 (C : Nat → Sp) : ta (tb_X8_doStep C) 190 = tr_aload 191 0 := rfl
set_option maxRecDepth 20000 in
theorem a_X8_doStep_191 (C : Nat → Sp) : ta (tb_X8_doStep C) 191 = tr_aload 192 1 := rfl
set_option maxRecDepth 20000 in
theorem a_X8_doStep_192 (C : Nat → Sp) : ta (tb_X8_doStep C) 192 = tr_iload 194 4 := rfl
set_option maxRecDepth 20000 in
theorem a_X8_doStep_194 (C : Nat → Sp) : ta (tb_X8_doStep C) 194 = tr_callV (C 49) 197 9 2 := rfl
set_option maxRecDepth 20000 in
theorem a_X8_doStep_197 (C : Nat → Sp) : ta (tb_X8_doStep C) 197 = tr_iret := rfl
set_option maxRecDepth 20000 in
theorem a_X8_doStep_198 (C : Nat → Sp) : ta (tb_X8_doStep C) 198 = tr_aload 199 0 := rfl
set_option maxRecDepth 20000 in
theorem a_X8_doStep_199 (C : Nat → Sp) : ta (tb_X8_doStep C) 199 = tr_iload 201 4 := rfl
set_option maxRecDepth 20000 in
theorem a_X8_doStep_201 (C : Nat → Sp) : ta (tb_X8_doStep C) 201 = tr_callV (C 50) 204 9 1 := rfl
set_option maxRecDepth 20000 in
theorem a_X8_doStep_204 (C : Nat → Sp) : ta (tb_X8_doStep C) 204 = tr_iret := rfl
set_option maxRecDepth 20000 in
theorem a_X8_doStep_205 (C : Nat → Sp) : ta (tb_X8_doStep C) 205 = tr_aload 206 0 := rfl
set_option maxRecDepth 20000 in
theorem a_X8_doStep_206 (C : Nat → Sp) : ta (tb_X8_doStep C) 206 = tr_aload 207 1 := rfl
set_option maxRecDepth 20000 in
theorem a_X8_doStep_207 (C : Nat → Sp) : ta (tb_X8_doStep C) 207 = tr_aload 208 2 := rfl
set_option maxRecDepth 20000 in
theorem a_X8_doStep_208 (C : Nat → Sp) : ta (tb_X8_doStep C) 208 = tr_iload 209 3 := rfl
set_option maxRecDepth 20000 in
theorem a_X8_doStep_209 (C : Nat → Sp) : ta (tb_X8_doStep C) 209 = tr_iload 211 4 := rfl
set_option maxRecDepth 20000 in
theorem a_X8_doStep_211 (C : Nat → Sp) : ta (tb_X8_doStep C) 211 = tr_callV (C 51) 214 9 4 := rfl
set_option maxRecDepth 20000 in
theorem a_X8_doStep_214 (C : Nat → Sp) : ta (tb_X8_doStep C) 214 = tr_iret := rfl

def tb_X8_divide_0 (C : Nat → Sp) : Tab := [(0, tr_iload 1 2), (1, tr_ifne 4 6), (4, tr_ic 5 5), (5, tr_iret), (6, tr_aload 7 1), (7, tr_dup 8), (8, tr_getL 11 2 104), (11, tr_iload 12 2), (12, tr_i2l 13), (13, tr_ldiv 14), (14, tr_putL 17 2 104), (17, tr_ic 18 0), (18, tr_iret)]
set_option maxRecDepth 20000 in
theorem tbk_X8_divide_0 {D : DD} {d : Nat} {C : Nat → Sp} (hC : Snd D d C) : ∀ e ∈ tb_X8_divide_0 C, TrOk D (d + 1) mi_X8_divide e.1 e.2 :=
  tk_c (show TrOk D (d + 1) mi_X8_divide 0 (tr_iload 1 2) from ok_iload_n (show decode mi_X8_divide.2.1 0 = .ok (.iload_n 2, 1) from by decide +kernel) rfl) <|
  tk_c (show TrOk D (d + 1) mi_X8_divide 1 (tr_ifne 4 6) from ok_ifne (show decode mi_X8_divide.2.1 1 = .ok (.ifCond .ne 5, 3) from by decide +kernel) (by decide)) <|
  tk_c (show TrOk D (d + 1) mi_X8_divide 4 (tr_ic 5 5) from ok_iconst (show decode mi_X8_divide.2.1 4 = .ok (.iconst 5, 1) from by decide +kernel) rfl) <|
  tk_c (show TrOk D (d + 1) mi_X8_divide 5 (tr_iret) from ok_iret (show decode mi_X8_divide.2.1 5 = .ok (.ireturn, 1) from by decide +kernel) rfl) <|
  tk_c (show TrOk D (d + 1) mi_X8_divide 6 (tr_aload 7 1) from ok_aload_n (show decode mi_X8_divide.2.1 6 = .ok (.aload_n 1, 1) from by decide +kernel) rfl) <|
  tk_c (show TrOk D (d + 1) mi_X8_divide 7 (tr_dup 8) from ok_dup (show decode mi_X8_divide.2.1 7 = .ok (.dup, 1) from by decide +kernel)) <|
  tk_c (show TrOk D (d + 1) mi_X8_divide 8 (tr_getL 11 2 104) from ok_getL (ci := 1) (k := 4) (show decode mi_X8_divide.2.1 8 = .ok (.getfield 165, 3) from by decide +kernel) rfl (by decide) (gm 229 (by decide +kernel) rfl) rfl) <|
  tk_c (show TrOk D (d + 1) mi_X8_divide 11 (tr_iload 12 2) from ok_iload_n (show decode mi_X8_divide.2.1 11 = .ok (.iload_n 2, 1) from by decide +kernel) rfl) <|
  tk_c (show TrOk D (d + 1) mi_X8_divide 12 (tr_i2l 13) from ok_i2l (show decode mi_X8_divide.2.1 12 = .ok (.i2l, 1) from by decide +kernel)) <|
  tk_c (show TrOk D (d + 1) mi_X8_divide 13 (tr_ldiv 14) from ok_ldiv (show decode mi_X8_divide.2.1 13 = .ok (.ldiv, 1) from by decide +kernel)) <|
  tk_c (show TrOk D (d + 1) mi_X8_divide 14 (tr_putL 17 2 104) from ok_putL (ci := 1) (k := 4) (show decode mi_X8_divide.2.1 14 = .ok (.putfield 165, 3) from by decide +kernel) rfl (by decide) (gm 229 (by decide +kernel) rfl) rfl (Or.inl rfl)) <|
  tk_c (show TrOk D (d + 1) mi_X8_divide 17 (tr_ic 18 0) from ok_iconst (show decode mi_X8_divide.2.1 17 = .ok (.iconst 0, 1) from by decide +kernel) rfl) <|
  tk_c (show TrOk D (d + 1) mi_X8_divide 18 (tr_iret) from ok_iret (show decode mi_X8_divide.2.1 18 = .ok (.ireturn, 1) from by decide +kernel) rfl) <|
  tk_n
def tb_X8_divide (C : Nat → Sp) : Tab := tb_X8_divide_0 C
theorem tbk_X8_divide {D : DD} {d : Nat} {C : Nat → Sp} (hC : Snd D d C) : ∀ e ∈ tb_X8_divide C, TrOk D (d + 1) mi_X8_divide e.1 e.2 := tbk_X8_divide_0 hC
theorem a_X8_divide_0 (C : Nat → Sp) : ta (tb_X8_divide C) 0 = tr_iload 1 2 := rfl
theorem a_X8_divide_1 (C : Nat → Sp) : ta (tb_X8_divide C) 1 = tr_ifne 4 6 := rfl
theorem a_X8_divide_4 (C : Nat → Sp) : ta (tb_X8_divide C) 4 = tr_ic 5 5 := rfl
theorem a_X8_divide_5 (C : Nat → Sp) : ta (tb_X8_divide C) 5 = tr_iret := rfl
theorem a_X8_divide_6 (C : Nat → Sp) : ta (tb_X8_divide C) 6 = tr_aload 7 1 := rfl
theorem a_X8_divide_7 (C : Nat → Sp) : ta (tb_X8_divide C) 7 = tr_dup 8 := rfl
theorem a_X8_divide_8 (C : Nat → Sp) : ta (tb_X8_divide C) 8 = tr_getL 11 2 104 := rfl
theorem a_X8_divide_11 (C : Nat → Sp) : ta (tb_X8_divide C) 11 = tr_iload 12 2 := rfl
theorem a_X8_divide_12 (C : Nat → Sp) : ta (tb_X8_divide C) 12 = tr_i2l 13 := rfl
theorem a_X8_divide_13 (C : Nat → Sp) : ta (tb_X8_divide C) 13 = tr_ldiv 14 := rfl
theorem a_X8_divide_14 (C : Nat → Sp) : ta (tb_X8_divide C) 14 = tr_putL 17 2 104 := rfl
theorem a_X8_divide_17 (C : Nat → Sp) : ta (tb_X8_divide C) 17 = tr_ic 18 0 := rfl
theorem a_X8_divide_18 (C : Nat → Sp) : ta (tb_X8_divide C) 18 = tr_iret := rfl

def tb_X8_takeRemainder_0 (C : Nat → Sp) : Tab := [(0, tr_iload 1 2), (1, tr_ifne 4 6), (4, tr_ic 5 5), (5, tr_iret), (6, tr_aload 7 1), (7, tr_dup 8), (8, tr_getL 11 2 104), (11, tr_iload 12 2), (12, tr_i2l 13), (13, tr_lrem 14), (14, tr_putL 17 2 104), (17, tr_ic 18 0), (18, tr_iret)]
set_option maxRecDepth 20000 in
theorem tbk_X8_takeRemainder_0 {D : DD} {d : Nat} {C : Nat → Sp} (hC : Snd D d C) : ∀ e ∈ tb_X8_takeRemainder_0 C, TrOk D (d + 1) mi_X8_takeRemainder e.1 e.2 :=
  tk_c (show TrOk D (d + 1) mi_X8_takeRemainder 0 (tr_iload 1 2) from ok_iload_n (show decode mi_X8_takeRemainder.2.1 0 = .ok (.iload_n 2, 1) from by decide +kernel) rfl) <|
  tk_c (show TrOk D (d + 1) mi_X8_takeRemainder 1 (tr_ifne 4 6) from ok_ifne (show decode mi_X8_takeRemainder.2.1 1 = .ok (.ifCond .ne 5, 3) from by decide +kernel) (by decide)) <|
  tk_c (show TrOk D (d + 1) mi_X8_takeRemainder 4 (tr_ic 5 5) from ok_iconst (show decode mi_X8_takeRemainder.2.1 4 = .ok (.iconst 5, 1) from by decide +kernel) rfl) <|
  tk_c (show TrOk D (d + 1) mi_X8_takeRemainder 5 (tr_iret) from ok_iret (show decode mi_X8_takeRemainder.2.1 5 = .ok (.ireturn, 1) from by decide +kernel) rfl) <|
  tk_c (show TrOk D (d + 1) mi_X8_takeRemainder 6 (tr_aload 7 1) from ok_aload_n (show decode mi_X8_takeRemainder.2.1 6 = .ok (.aload_n 1, 1) from by decide +kernel) rfl) <|
  tk_c (show TrOk D (d + 1) mi_X8_takeRemainder 7 (tr_dup 8) from ok_dup (show decode mi_X8_takeRemainder.2.1 7 = .ok (.dup, 1) from by decide +kernel)) <|
  tk_c (show TrOk D (d + 1) mi_X8_takeRemainder 8 (tr_getL 11 2 104) from ok_getL (ci := 1) (k := 4) (show decode mi_X8_takeRemainder.2.1 8 = .ok (.getfield 165, 3) from by decide +kernel) rfl (by decide) (gm 229 (by decide +kernel) rfl) rfl) <|
  tk_c (show TrOk D (d + 1) mi_X8_takeRemainder 11 (tr_iload 12 2) from ok_iload_n (show decode mi_X8_takeRemainder.2.1 11 = .ok (.iload_n 2, 1) from by decide +kernel) rfl) <|
  tk_c (show TrOk D (d + 1) mi_X8_takeRemainder 12 (tr_i2l 13) from ok_i2l (show decode mi_X8_takeRemainder.2.1 12 = .ok (.i2l, 1) from by decide +kernel)) <|
  tk_c (show TrOk D (d + 1) mi_X8_takeRemainder 13 (tr_lrem 14) from ok_lrem (show decode mi_X8_takeRemainder.2.1 13 = .ok (.lrem, 1) from by decide +kernel)) <|
  tk_c (show TrOk D (d + 1) mi_X8_takeRemainder 14 (tr_putL 17 2 104) from ok_putL (ci := 1) (k := 4) (show decode mi_X8_takeRemainder.2.1 14 = .ok (.putfield 165, 3) from by decide +kernel) rfl (by decide) (gm 229 (by decide +kernel) rfl) rfl (Or.inl rfl)) <|
  tk_c (show TrOk D (d + 1) mi_X8_takeRemainder 17 (tr_ic 18 0) from ok_iconst (show decode mi_X8_takeRemainder.2.1 17 = .ok (.iconst 0, 1) from by decide +kernel) rfl) <|
  tk_c (show TrOk D (d + 1) mi_X8_takeRemainder 18 (tr_iret) from ok_iret (show decode mi_X8_takeRemainder.2.1 18 = .ok (.ireturn, 1) from by decide +kernel) rfl) <|
  tk_n
def tb_X8_takeRemainder (C : Nat → Sp) : Tab := tb_X8_takeRemainder_0 C
theorem tbk_X8_takeRemainder {D : DD} {d : Nat} {C : Nat → Sp} (hC : Snd D d C) : ∀ e ∈ tb_X8_takeRemainder C, TrOk D (d + 1) mi_X8_takeRemainder e.1 e.2 := tbk_X8_takeRemainder_0 hC
theorem a_X8_takeRemainder_0 (C : Nat → Sp) : ta (tb_X8_takeRemainder C) 0 = tr_iload 1 2 := rfl
theorem a_X8_takeRemainder_1 (C : Nat → Sp) : ta (tb_X8_takeRemainder C) 1 = tr_ifne 4 6 := rfl
theorem a_X8_takeRemainder_4 (C : Nat → Sp) : ta (tb_X8_takeRemainder C) 4 = tr_ic 5 5 := rfl
theorem a_X8_takeRemainder_5 (C : Nat → Sp) : ta (tb_X8_takeRemainder C) 5 = tr_iret := rfl
theorem a_X8_takeRemainder_6 (C : Nat → Sp) : ta (tb_X8_takeRemainder C) 6 = tr_aload 7 1 := rfl
theorem a_X8_takeRemainder_7 (C : Nat → Sp) : ta (tb_X8_takeRemainder C) 7 = tr_dup 8 := rfl
theorem a_X8_takeRemainder_8 (C : Nat → Sp) : ta (tb_X8_takeRemainder C) 8 = tr_getL 11 2 104 := rfl
theorem a_X8_takeRemainder_11 (C : Nat → Sp) : ta (tb_X8_takeRemainder C) 11 = tr_iload 12 2 := rfl
theorem a_X8_takeRemainder_12 (C : Nat → Sp) : ta (tb_X8_takeRemainder C) 12 = tr_i2l 13 := rfl
theorem a_X8_takeRemainder_13 (C : Nat → Sp) : ta (tb_X8_takeRemainder C) 13 = tr_lrem 14 := rfl
theorem a_X8_takeRemainder_14 (C : Nat → Sp) : ta (tb_X8_takeRemainder C) 14 = tr_putL 17 2 104 := rfl
theorem a_X8_takeRemainder_17 (C : Nat → Sp) : ta (tb_X8_takeRemainder C) 17 = tr_ic 18 0 := rfl
theorem a_X8_takeRemainder_18 (C : Nat → Sp) : ta (tb_X8_takeRemainder C) 18 = tr_iret := rfl

def tb_X8_tellNow_0 (C : Nat → Sp) : Tab := [(0, tr_aload 1 0), (1, tr_getR 4 9 800), (4, tr_iload 5 2), (5, tr_callV (C 24) 8 5 1), (8, tr_astore 9 3), (9, tr_aload 10 3), (10, tr_ifnonnull 13 15), (13, tr_ic 14 1), (14, tr_iret), (15, tr_aload 16 1), (16, tr_getI 19 2 100), (19, tr_ic 21 12), (21, tr_iclt 24 27), (24, tr_ic 26 7), (26, tr_iret), (27, tr_aload 28 0), (28, tr_getR 31 9 804), (31, tr_getI 34 8 704), (34, tr_ic 36 60), (36, tr_iclt 39 42), (39, tr_ic 41 9), (41, tr_iret), (42, tr_aload 43 0), (43, tr_getR 46 9 806), (46, tr_aload 47 1), (47, tr_getI 50 2 100), (50, tr_aald 51 4), (51, tr_astore 53 4), (53, tr_aload 54 0), (54, tr_aload 56 4), (56, tr_aload 57 3), (57, tr_aload 58 1), (58, tr_getL 61 2 104), (61, tr_callV (C 42) 64 9 3), (64, tr_aload 66 4), (66, tr_callV (C 5) 69 2 0), (69, tr_ifne 72 81), (72, tr_aload 73 1), (73, tr_aload 75 4), (75, tr_getL 78 2 103)]
set_option maxRecDepth 20000 in
theorem tbk_X8_tellNow_0 {D : DD} {d : Nat} {C : Nat → Sp} (hC : Snd D d C) : ∀ e ∈ tb_X8_tellNow_0 C, TrOk D (d + 1) mi_X8_tellNow e.1 e.2 :=
  tk_c (show TrOk D (d + 1) mi_X8_tellNow 0 (tr_aload 1 0) from ok_aload_n (show decode mi_X8_tellNow.2.1 0 = .ok (.aload_n 0, 1) from by decide +kernel) rfl) <|
  tk_c (show TrOk D (d + 1) mi_X8_tellNow 1 (tr_getR 4 9 800) from ok_getR (ci := 8) (k := 0) (show decode mi_X8_tellNow.2.1 1 = .ok (.getfield 24, 3) from by decide +kernel) rfl (by decide) (gm 245 (by decide +kernel) rfl) rfl) <|
  tk_c (show TrOk D (d + 1) mi_X8_tellNow 4 (tr_iload 5 2) from ok_iload_n (show decode mi_X8_tellNow.2.1 4 = .ok (.iload_n 2, 1) from by decide +kernel) rfl) <|
  tk_c (show TrOk D (d + 1) mi_X8_tellNow 5 (tr_callV (C 24) 8 5 1) from ok_callV (ci := 4) (show decode mi_X8_tellNow.2.1 5 = .ok (.invokevirtual 219, 3) from by decide +kernel) mok_X4_find rfl rfl (gm 653 (by decide +kernel) rfl) (gm 310 (by decide +kernel) rfl) (gm 311 (by decide +kernel) rfl) (hC 24)) <|
  tk_c (show TrOk D (d + 1) mi_X8_tellNow 8 (tr_astore 9 3) from ok_astore_n (show decode mi_X8_tellNow.2.1 8 = .ok (.astore_n 3, 1) from by decide +kernel) rfl (by decide)) <|
  tk_c (show TrOk D (d + 1) mi_X8_tellNow 9 (tr_aload 10 3) from ok_aload_n (show decode mi_X8_tellNow.2.1 9 = .ok (.aload_n 3, 1) from by decide +kernel) rfl) <|
  tk_c (show TrOk D (d + 1) mi_X8_tellNow 10 (tr_ifnonnull 13 15) from ok_ifnonnull (show decode mi_X8_tellNow.2.1 10 = .ok (.ifnonnull 5, 3) from by decide +kernel) (by decide)) <|
  tk_c (show TrOk D (d + 1) mi_X8_tellNow 13 (tr_ic 14 1) from ok_iconst (show decode mi_X8_tellNow.2.1 13 = .ok (.iconst 1, 1) from by decide +kernel) rfl) <|
  tk_c (show TrOk D (d + 1) mi_X8_tellNow 14 (tr_iret) from ok_iret (show decode mi_X8_tellNow.2.1 14 = .ok (.ireturn, 1) from by decide +kernel) rfl) <|
  tk_c (show TrOk D (d + 1) mi_X8_tellNow 15 (tr_aload 16 1) from ok_aload_n (show decode mi_X8_tellNow.2.1 15 = .ok (.aload_n 1, 1) from by decide +kernel) rfl) <|
  tk_c (show TrOk D (d + 1) mi_X8_tellNow 16 (tr_getI 19 2 100) from ok_getI (ci := 1) (k := 0) (show decode mi_X8_tellNow.2.1 16 = .ok (.getfield 88, 3) from by decide +kernel) rfl (by decide) (gm 223 (by decide +kernel) rfl) rfl) <|
  tk_c (show TrOk D (d + 1) mi_X8_tellNow 19 (tr_ic 21 12) from ok_bipush (show decode mi_X8_tellNow.2.1 19 = .ok (.bipush 12, 2) from by decide +kernel) rfl) <|
  tk_c (show TrOk D (d + 1) mi_X8_tellNow 21 (tr_iclt 24 27) from ok_iclt (show decode mi_X8_tellNow.2.1 21 = .ok (.if_icmp .lt 6, 3) from by decide +kernel) (by decide)) <|
  tk_c (show TrOk D (d + 1) mi_X8_tellNow 24 (tr_ic 26 7) from ok_bipush (show decode mi_X8_tellNow.2.1 24 = .ok (.bipush 7, 2) from by decide +kernel) rfl) <|
  tk_c (show TrOk D (d + 1) mi_X8_tellNow 26 (tr_iret) from ok_iret (show decode mi_X8_tellNow.2.1 26 = .ok (.ireturn, 1) from by decide +kernel) rfl) <|
  tk_c (show TrOk D (d + 1) mi_X8_tellNow 27 (tr_aload 28 0) from ok_aload_n (show decode mi_X8_tellNow.2.1 27 = .ok (.aload_n 0, 1) from by decide +kernel) rfl) <|
  tk_c (show TrOk D (d + 1) mi_X8_tellNow 28 (tr_getR 31 9 804) from ok_getR (ci := 8) (k := 4) (show decode mi_X8_tellNow.2.1 28 = .ok (.getfield 40, 3) from by decide +kernel) rfl (by decide) (gm 249 (by decide +kernel) rfl) rfl) <|
  tk_c (show TrOk D (d + 1) mi_X8_tellNow 31 (tr_getI 34 8 704) from ok_getI (ci := 7) (k := 4) (show decode mi_X8_tellNow.2.1 31 = .ok (.getfield 69, 3) from by decide +kernel) rfl (by decide) (gm 143 (by decide +kernel) rfl) rfl) <|
  tk_c (show TrOk D (d + 1) mi_X8_tellNow 34 (tr_ic 36 60) from ok_bipush (show decode mi_X8_tellNow.2.1 34 = .ok (.bipush 60, 2) from by decide +kernel) rfl) <|
  tk_c (show TrOk D (d + 1) mi_X8_tellNow 36 (tr_iclt 39 42) from ok_iclt (show decode mi_X8_tellNow.2.1 36 = .ok (.if_icmp .lt 6, 3) from by decide +kernel) (by decide)) <|
  tk_c (show TrOk D (d + 1) mi_X8_tellNow 39 (tr_ic 41 9) from ok_bipush (show decode mi_X8_tellNow.2.1 39 = .ok (.bipush 9, 2) from by decide +kernel) rfl) <|
  tk_c (show TrOk D (d + 1) mi_X8_tellNow 41 (tr_iret) from ok_iret (show decode mi_X8_tellNow.2.1 41 = .ok (.ireturn, 1) from by decide +kernel) rfl) <|
  tk_c (show TrOk D (d + 1) mi_X8_tellNow 42 (tr_aload 43 0) from ok_aload_n (show decode mi_X8_tellNow.2.1 42 = .ok (.aload_n 0, 1) from by decide +kernel) rfl) <|
  tk_c (show TrOk D (d + 1) mi_X8_tellNow 43 (tr_getR 46 9 806) from ok_getR (ci := 8) (k := 6) (show decode mi_X8_tellNow.2.1 43 = .ok (.getfield 20, 3) from by decide +kernel) rfl (by decide) (gm 251 (by decide +kernel) rfl) rfl) <|
  tk_c (show TrOk D (d + 1) mi_X8_tellNow 46 (tr_aload 47 1) from ok_aload_n (show decode mi_X8_tellNow.2.1 46 = .ok (.aload_n 1, 1) from by decide +kernel) rfl) <|
  tk_c (show TrOk D (d + 1) mi_X8_tellNow 47 (tr_getI 50 2 100) from ok_getI (ci := 1) (k := 0) (show decode mi_X8_tellNow.2.1 47 = .ok (.getfield 88, 3) from by decide +kernel) rfl (by decide) (gm 223 (by decide +kernel) rfl) rfl) <|
  tk_c (show TrOk D (d + 1) mi_X8_tellNow 50 (tr_aald 51 4) from ok_aald (by decide) (by decide) (show decode mi_X8_tellNow.2.1 50 = .ok (.aaload, 1) from by decide +kernel)) <|
  tk_c (show TrOk D (d + 1) mi_X8_tellNow 51 (tr_astore 53 4) from ok_astore (show decode mi_X8_tellNow.2.1 51 = .ok (.astore 4, 2) from by decide +kernel) (by decide)) <|
  tk_c (show TrOk D (d + 1) mi_X8_tellNow 53 (tr_aload 54 0) from ok_aload_n (show decode mi_X8_tellNow.2.1 53 = .ok (.aload_n 0, 1) from by decide +kernel) rfl) <|
  tk_c (show TrOk D (d + 1) mi_X8_tellNow 54 (tr_aload 56 4) from ok_aload (show decode mi_X8_tellNow.2.1 54 = .ok (.aload 4, 2) from by decide +kernel)) <|
  tk_c (show TrOk D (d + 1) mi_X8_tellNow 56 (tr_aload 57 3) from ok_aload_n (show decode mi_X8_tellNow.2.1 56 = .ok (.aload_n 3, 1) from by decide +kernel) rfl) <|
  tk_c (show TrOk D (d + 1) mi_X8_tellNow 57 (tr_aload 58 1) from ok_aload_n (show decode mi_X8_tellNow.2.1 57 = .ok (.aload_n 1, 1) from by decide +kernel) rfl) <|
  tk_c (show TrOk D (d + 1) mi_X8_tellNow 58 (tr_getL 61 2 104) from ok_getL (ci := 1) (k := 4) (show decode mi_X8_tellNow.2.1 58 = .ok (.getfield 165, 3) from by decide +kernel) rfl (by decide) (gm 229 (by decide +kernel) rfl) rfl) <|
  tk_c (show TrOk D (d + 1) mi_X8_tellNow 61 (tr_callV (C 42) 64 9 3) from ok_callV (ci := 8) (show decode mi_X8_tellNow.2.1 61 = .ok (.invokevirtual 52, 3) from by decide +kernel) mok_X8_tell rfl rfl (gm 568 (by decide +kernel) rfl) (gm 570 (by decide +kernel) rfl) (gm 1 (by decide +kernel) rfl) (hC 42)) <|
  tk_c (show TrOk D (d + 1) mi_X8_tellNow 64 (tr_aload 66 4) from ok_aload (show decode mi_X8_tellNow.2.1 64 = .ok (.aload 4, 2) from by decide +kernel)) <|
  tk_c (show TrOk D (d + 1) mi_X8_tellNow 66 (tr_callV (C 5) 69 2 0) from ok_callV (ci := 1) (show decode mi_X8_tellNow.2.1 66 = .ok (.invokevirtual 98, 3) from by decide +kernel) mok_X1_isVetoed rfl rfl (gm 591 (by decide +kernel) rfl) (gm 592 (by decide +kernel) rfl) (gm 593 (by decide +kernel) rfl) (hC 5)) <|
  tk_c (show TrOk D (d + 1) mi_X8_tellNow 69 (tr_ifne 72 81) from ok_ifne (show decode mi_X8_tellNow.2.1 69 = .ok (.ifCond .ne 12, 3) from by decide +kernel) (by decide)) <|
  tk_c (show TrOk D (d + 1) mi_X8_tellNow 72 (tr_aload 73 1) from ok_aload_n (show decode mi_X8_tellNow.2.1 72 = .ok (.aload_n 1, 1) from by decide +kernel) rfl) <|
  tk_c (show TrOk D (d + 1) mi_X8_tellNow 73 (tr_aload 75 4) from ok_aload (show decode mi_X8_tellNow.2.1 73 = .ok (.aload 4, 2) from by decide +kernel)) <|
  tk_c (show TrOk D (d + 1) mi_X8_tellNow 75 (tr_getL 78 2 103) from ok_getL (ci := 1) (k := 3) (show decode mi_X8_tellNow.2.1 75 = .ok (.getfield 56, 3) from by decide +kernel) rfl (by decide) (gm 228 (by decide +kernel) rfl) rfl) <|
  tk_n
def tb_X8_tellNow_1 (C : Nat → Sp) : Tab := [(78, tr_putL 81 2 104), (81, tr_ic 82 0), (82, tr_iret)]
set_option maxRecDepth 20000 in
theorem tbk_X8_tellNow_1 {D : DD} {d : Nat} {C : Nat → Sp} (hC : Snd D d C) : ∀ e ∈ tb_X8_tellNow_1 C, TrOk D (d + 1) mi_X8_tellNow e.1 e.2 :=
  tk_c (show TrOk D (d + 1) mi_X8_tellNow 78 (tr_putL 81 2 104) from ok_putL (ci := 1) (k := 4) (show decode mi_X8_tellNow.2.1 78 = .ok (.putfield 165, 3) from by decide +kernel) rfl (by decide) (gm 229 (by decide +kernel) rfl) rfl (Or.inl rfl)) <|
  tk_c (show TrOk D (d + 1) mi_X8_tellNow 81 (tr_ic 82 0) from ok_iconst (show decode mi_X8_tellNow.2.1 81 = .ok (.iconst 0, 1) from by decide +kernel) rfl) <|
  tk_c (show TrOk D (d + 1) mi_X8_tellNow 82 (tr_iret) from ok_iret (show decode mi_X8_tellNow.2.1 82 = .ok (.ireturn, 1) from by decide +kernel) rfl) <|
  tk_n
def tb_X8_tellNow (C : Nat → Sp) : Tab := tb_X8_tellNow_0 C ++ (tb_X8_tellNow_1 C)
theorem tbk_X8_tellNow {D : DD} {d : Nat} {C : Nat → Sp} (hC : Snd D d C) : ∀ e ∈ tb_X8_tellNow C, TrOk D (d + 1) mi_X8_tellNow e.1 e.2 := tk_a (tbk_X8_tellNow_0 hC) (tbk_X8_tellNow_1 hC)
theorem a_X8_tellNow_0 (C : Nat → Sp) : ta (tb_X8_tellNow C) 0 = tr_aload 1 0 := rfl
theorem a_X8_tellNow_1 (C : Nat → Sp) : ta (tb_X8_tellNow C) 1 = tr_getR 4 9 800 := rfl
theorem a_X8_tellNow_4 (C : Nat → Sp) : ta (tb_X8_tellNow C) 4 = tr_iload 5 2 := rfl
theorem a_X8_tellNow_5 (C : Nat → Sp) : ta (tb_X8_tellNow C) 5 = tr_callV (C 24) 8 5 1 := rfl
theorem a_X8_tellNow_8 (C : Nat → Sp) : ta (tb_X8_tellNow C) 8 = tr_astore 9 3 := rfl
theorem a_X8_tellNow_9 (C : Nat → Sp) : ta (tb_X8_tellNow C) 9 = tr_aload 10 3 := rfl
theorem a_X8_tellNow_10 (C : Nat → Sp) : ta (tb_X8_tellNow C) 10 = tr_ifnonnull 13 15 := rfl
theorem a_X8_tellNow_13 (C : Nat → Sp) : ta (tb_X8_tellNow C) 13 = tr_ic 14 1 := rfl
theorem a_X8_tellNow_14 (C : Nat → Sp) : ta (tb_X8_tellNow C) 14 = tr_iret := rfl
theorem a_X8_tellNow_15 (C : Nat → Sp) : ta (tb_X8_tellNow C) 15 = tr_aload 16 1 := rfl
theorem a_X8_tellNow_16 (C : Nat → Sp) : ta (tb_X8_tellNow C) 16 = tr_getI 19 2 100 := rfl
theorem a_X8_tellNow_19 (C : Nat → Sp) : ta (tb_X8_tellNow C) 19 = tr_ic 21 12 := rfl
theorem a_X8_tellNow_21 (C : Nat → Sp) : ta (tb_X8_tellNow C) 21 = tr_iclt 24 27 := rfl
theorem a_X8_tellNow_24 (C : Nat → Sp) : ta (tb_X8_tellNow C) 24 = tr_ic 26 7 := rfl
theorem a_X8_tellNow_26 (C : Nat → Sp) : ta (tb_X8_tellNow C) 26 = tr_iret := rfl
theorem a_X8_tellNow_27 (C : Nat → Sp) : ta (tb_X8_tellNow C) 27 = tr_aload 28 0 := rfl
theorem a_X8_tellNow_28 (C : Nat → Sp) : ta (tb_X8_tellNow C) 28 = tr_getR 31 9 804 := rfl
theorem a_X8_tellNow_31 (C : Nat → Sp) : ta (tb_X8_tellNow C) 31 = tr_getI 34 8 704 := rfl
theorem a_X8_tellNow_34 (C : Nat → Sp) : ta (tb_X8_tellNow C) 34 = tr_ic 36 60 := rfl
theorem a_X8_tellNow_36 (C : Nat → Sp) : ta (tb_X8_tellNow C) 36 = tr_iclt 39 42 := rfl
theorem a_X8_tellNow_39 (C : Nat → Sp) : ta (tb_X8_tellNow C) 39 = tr_ic 41 9 := rfl
theorem a_X8_tellNow_41 (C : Nat → Sp) : ta (tb_X8_tellNow C) 41 = tr_iret := rfl
theorem a_X8_tellNow_42 (C : Nat → Sp) : ta (tb_X8_tellNow C) 42 = tr_aload 43 0 := rfl
theorem a_X8_tellNow_43 (C : Nat → Sp) : ta (tb_X8_tellNow C) 43 = tr_getR 46 9 806 := rfl
theorem a_X8_tellNow_46 (C : Nat → Sp) : ta (tb_X8_tellNow C) 46 = tr_aload 47 1 := rfl
theorem a_X8_tellNow_47 (C : Nat → Sp) : ta (tb_X8_tellNow C) 47 = tr_getI 50 2 100 := rfl
theorem a_X8_tellNow_50 (C : Nat → Sp) : ta (tb_X8_tellNow C) 50 = tr_aald 51 4 := rfl
theorem a_X8_tellNow_51 (C : Nat → Sp) : ta (tb_X8_tellNow C) 51 = tr_astore 53 4 := rfl
theorem a_X8_tellNow_53 (C : Nat → Sp) : ta (tb_X8_tellNow C) 53 = tr_aload 54 0 := rfl
theorem a_X8_tellNow_54 (C : Nat → Sp) : ta (tb_X8_tellNow C) 54 = tr_aload 56 4 := rfl
theorem a_X8_tellNow_56 (C : Nat → Sp) : ta (tb_X8_tellNow C) 56 = tr_aload 57 3 := rfl
theorem a_X8_tellNow_57 (C : Nat → Sp) : ta (tb_X8_tellNow C) 57 = tr_aload 58 1 := rfl
theorem a_X8_tellNow_58 (C : Nat → Sp) : ta (tb_X8_tellNow C) 58 = tr_getL 61 2 104 := rfl
theorem a_X8_tellNow_61 (C : Nat → Sp) : ta (tb_X8_tellNow C) 61 = tr_callV (C 42) 64 9 3 := rfl
theorem a_X8_tellNow_64 (C : Nat → Sp) : ta (tb_X8_tellNow C) 64 = tr_aload 66 4 := rfl
theorem a_X8_tellNow_66 (C : Nat → Sp) : ta (tb_X8_tellNow C) 66 = tr_callV (C 5) 69 2 0 := rfl
theorem a_X8_tellNow_69 (C : Nat → Sp) : ta (tb_X8_tellNow C) 69 = tr_ifne 72 81 := rfl
theorem a_X8_tellNow_72 (C : Nat → Sp) : ta (tb_X8_tellNow C) 72 = tr_aload 73 1 := rfl
theorem a_X8_tellNow_73 (C : Nat → Sp) : ta (tb_X8_tellNow C) 73 = tr_aload 75 4 := rfl
theorem a_X8_tellNow_75 (C : Nat → Sp) : ta (tb_X8_tellNow C) 75 = tr_getL 78 2 103 := rfl
theorem a_X8_tellNow_78 (C : Nat → Sp) : ta (tb_X8_tellNow C) 78 = tr_putL 81 2 104 := rfl
theorem a_X8_tellNow_81 (C : Nat → Sp) : ta (tb_X8_tellNow C) 81 = tr_ic 82 0 := rfl
theorem a_X8_tellNow_82 (C : Nat → Sp) : ta (tb_X8_tellNow C) 82 = tr_iret := rfl

def tb_X8_tellLater_0 (C : Nat → Sp) : Tab := [(0, tr_aload 1 0), (1, tr_getR 4 9 800), (4, tr_iload 5 2), (5, tr_callV (C 24) 8 5 1), (8, tr_astore 9 3), (9, tr_aload 10 3), (10, tr_ifnonnull 13 15), (13, tr_ic 14 1), (14, tr_iret), (15, tr_aload 16 0), (16, tr_getR 19 9 805), (19, tr_callV (C 62) 22 11 0), (22, tr_ifeq 25 28), (25, tr_ic 27 6), (27, tr_iret), (28, tr_aload 29 0), (29, tr_getR 32 9 805), (32, tr_aload 33 3), (33, tr_aload 34 1), (34, tr_getL 37 2 104), (37, tr_callV (C 63) 40 11 2), (40, tr_ic 41 0), (41, tr_iret)]
set_option maxRecDepth 20000 in
theorem tbk_X8_tellLater_0 {D : DD} {d : Nat} {C : Nat → Sp} (hC : Snd D d C) : ∀ e ∈ tb_X8_tellLater_0 C, TrOk D (d + 1) mi_X8_tellLater e.1 e.2 :=
  tk_c (show TrOk D (d + 1) mi_X8_tellLater 0 (tr_aload 1 0) from ok_aload_n (show decode mi_X8_tellLater.2.1 0 = .ok (.aload_n 0, 1) from by decide +kernel) rfl) <|
  tk_c (show TrOk D (d + 1) mi_X8_tellLater 1 (tr_getR 4 9 800) from ok_getR (ci := 8) (k := 0) (show decode mi_X8_tellLater.2.1 1 = .ok (.getfield 24, 3) from by decide +kernel) rfl (by decide) (gm 245 (by decide +kernel) rfl) rfl) <|
  tk_c (show TrOk D (d + 1) mi_X8_tellLater 4 (tr_iload 5 2) from ok_iload_n (show decode mi_X8_tellLater.2.1 4 = .ok (.iload_n 2, 1) from by decide +kernel) rfl) <|
  tk_c (show TrOk D (d + 1) mi_X8_tellLater 5 (tr_callV (C 24) 8 5 1) from ok_callV (ci := 4) (show decode mi_X8_tellLater.2.1 5 = .ok (.invokevirtual 219, 3) from by decide +kernel) mok_X4_find rfl rfl (gm 653 (by decide +kernel) rfl) (gm 310 (by decide +kernel) rfl) (gm 311 (by decide +kernel) rfl) (hC 24)) <|
  tk_c (show TrOk D (d + 1) mi_X8_tellLater 8 (tr_astore 9 3) from ok_astore_n (show decode mi_X8_tellLater.2.1 8 = .ok (.astore_n 3, 1) from by decide +kernel) rfl (by decide)) <|
  tk_c (show TrOk D (d + 1) mi_X8_tellLater 9 (tr_aload 10 3) from ok_aload_n (show decode mi_X8_tellLater.2.1 9 = .ok (.aload_n 3, 1) from by decide +kernel) rfl) <|
  tk_c (show TrOk D (d + 1) mi_X8_tellLater 10 (tr_ifnonnull 13 15) from ok_ifnonnull (show decode mi_X8_tellLater.2.1 10 = .ok (.ifnonnull 5, 3) from by decide +kernel) (by decide)) <|
  tk_c (show TrOk D (d + 1) mi_X8_tellLater 13 (tr_ic 14 1) from ok_iconst (show decode mi_X8_tellLater.2.1 13 = .ok (.iconst 1, 1) from by decide +kernel) rfl) <|
  tk_c (show TrOk D (d + 1) mi_X8_tellLater 14 (tr_iret) from ok_iret (show decode mi_X8_tellLater.2.1 14 = .ok (.ireturn, 1) from by decide +kernel) rfl) <|
  tk_c (show TrOk D (d + 1) mi_X8_tellLater 15 (tr_aload 16 0) from ok_aload_n (show decode mi_X8_tellLater.2.1 15 = .ok (.aload_n 0, 1) from by decide +kernel) rfl) <|
  tk_c (show TrOk D (d + 1) mi_X8_tellLater 16 (tr_getR 19 9 805) from ok_getR (ci := 8) (k := 5) (show decode mi_X8_tellLater.2.1 16 = .ok (.getfield 12, 3) from by decide +kernel) rfl (by decide) (gm 250 (by decide +kernel) rfl) rfl) <|
  tk_c (show TrOk D (d + 1) mi_X8_tellLater 19 (tr_callV (C 62) 22 11 0) from ok_callV (ci := 10) (show decode mi_X8_tellLater.2.1 19 = .ok (.invokevirtual 225, 3) from by decide +kernel) mok_X10_isFull rfl rfl (gm 658 (by decide +kernel) rfl) (gm 659 (by decide +kernel) rfl) (gm 660 (by decide +kernel) rfl) (hC 62)) <|
  tk_c (show TrOk D (d + 1) mi_X8_tellLater 22 (tr_ifeq 25 28) from ok_ifeq (show decode mi_X8_tellLater.2.1 22 = .ok (.ifCond .eq 6, 3) from by decide +kernel) (by decide)) <|
  tk_c (show TrOk D (d + 1) mi_X8_tellLater 25 (tr_ic 27 6) from ok_bipush (show decode mi_X8_tellLater.2.1 25 = .ok (.bipush 6, 2) from by decide +kernel) rfl) <|
  tk_c (show TrOk D (d + 1) mi_X8_tellLater 27 (tr_iret) from ok_iret (show decode mi_X8_tellLater.2.1 27 = .ok (.ireturn, 1) from by decide +kernel) rfl) <|
  tk_c (show TrOk D (d + 1) mi_X8_tellLater 28 (tr_aload 29 0) from ok_aload_n (show decode mi_X8_tellLater.2.1 28 = .ok (.aload_n 0, 1) from by decide +kernel) rfl) <|
  tk_c (show TrOk D (d + 1) mi_X8_tellLater 29 (tr_getR 32 9 805) from ok_getR (ci := 8) (k := 5) (show decode mi_X8_tellLater.2.1 29 = .ok (.getfield 12, 3) from by decide +kernel) rfl (by decide) (gm 250 (by decide +kernel) rfl) rfl) <|
  tk_c (show TrOk D (d + 1) mi_X8_tellLater 32 (tr_aload 33 3) from ok_aload_n (show decode mi_X8_tellLater.2.1 32 = .ok (.aload_n 3, 1) from by decide +kernel) rfl) <|
  tk_c (show TrOk D (d + 1) mi_X8_tellLater 33 (tr_aload 34 1) from ok_aload_n (show decode mi_X8_tellLater.2.1 33 = .ok (.aload_n 1, 1) from by decide +kernel) rfl) <|
  tk_c (show TrOk D (d + 1) mi_X8_tellLater 34 (tr_getL 37 2 104) from ok_getL (ci := 1) (k := 4) (show decode mi_X8_tellLater.2.1 34 = .ok (.getfield 165, 3) from by decide +kernel) rfl (by decide) (gm 229 (by decide +kernel) rfl) rfl) <|
  tk_c (show TrOk D (d + 1) mi_X8_tellLater 37 (tr_callV (C 63) 40 11 2) from ok_callV (ci := 10) (show decode mi_X8_tellLater.2.1 37 = .ok (.invokevirtual 228, 3) from by decide +kernel) mok_X10_add rfl rfl (gm 662 (by decide +kernel) rfl) (gm 663 (by decide +kernel) rfl) (gm 664 (by decide +kernel) rfl) (hC 63)) <|
  tk_c (show TrOk D (d + 1) mi_X8_tellLater 40 (tr_ic 41 0) from ok_iconst (show decode mi_X8_tellLater.2.1 40 = .ok (.iconst 0, 1) from by decide +kernel) rfl) <|
  tk_c (show TrOk D (d + 1) mi_X8_tellLater 41 (tr_iret) from ok_iret (show decode mi_X8_tellLater.2.1 41 = .ok (.ireturn, 1) from by decide +kernel) rfl) <|
  tk_n
def tb_X8_tellLater (C : Nat → Sp) : Tab := tb_X8_tellLater_0 C
theorem tbk_X8_tellLater {D : DD} {d : Nat} {C : Nat → Sp} (hC : Snd D d C) : ∀ e ∈ tb_X8_tellLater C, TrOk D (d + 1) mi_X8_tellLater e.1 e.2 := tbk_X8_tellLater_0 hC
theorem a_X8_tellLater_0 (C : Nat → Sp) : ta (tb_X8_tellLater C) 0 = tr_aload 1 0 := rfl
theorem a_X8_tellLater_1 (C : Nat → Sp) : ta (tb_X8_tellLater C) 1 = tr_getR 4 9 800 := rfl
theorem a_X8_tellLater_4 (C : Nat → Sp) : ta (tb_X8_tellLater C) 4 = tr_iload 5 2 := rfl
theorem a_X8_tellLater_5 (C : Nat → Sp) : ta (tb_X8_tellLater C) 5 = tr_callV (C 24) 8 5 1 := rfl
theorem a_X8_tellLater_8 (C : Nat → Sp) : ta (tb_X8_tellLater C) 8 = tr_astore 9 3 := rfl
theorem a_X8_tellLater_9 (C : Nat → Sp) : ta (tb_X8_tellLater C) 9 = tr_aload 10 3 := rfl
theorem a_X8_tellLater_10 (C : Nat → Sp) : ta (tb_X8_tellLater C) 10 = tr_ifnonnull 13 15 := rfl
theorem a_X8_tellLater_13 (C : Nat → Sp) : ta (tb_X8_tellLater C) 13 = tr_ic 14 1 := rfl
theorem a_X8_tellLater_14 (C : Nat → Sp) : ta (tb_X8_tellLater C) 14 = tr_iret := rfl
theorem a_X8_tellLater_15 (C : Nat → Sp) : ta (tb_X8_tellLater C) 15 = tr_aload 16 0 := rfl
theorem a_X8_tellLater_16 (C : Nat → Sp) : ta (tb_X8_tellLater C) 16 = tr_getR 19 9 805 := rfl
theorem a_X8_tellLater_19 (C : Nat → Sp) : ta (tb_X8_tellLater C) 19 = tr_callV (C 62) 22 11 0 := rfl
theorem a_X8_tellLater_22 (C : Nat → Sp) : ta (tb_X8_tellLater C) 22 = tr_ifeq 25 28 := rfl
theorem a_X8_tellLater_25 (C : Nat → Sp) : ta (tb_X8_tellLater C) 25 = tr_ic 27 6 := rfl
theorem a_X8_tellLater_27 (C : Nat → Sp) : ta (tb_X8_tellLater C) 27 = tr_iret := rfl
theorem a_X8_tellLater_28 (C : Nat → Sp) : ta (tb_X8_tellLater C) 28 = tr_aload 29 0 := rfl
theorem a_X8_tellLater_29 (C : Nat → Sp) : ta (tb_X8_tellLater C) 29 = tr_getR 32 9 805 := rfl
theorem a_X8_tellLater_32 (C : Nat → Sp) : ta (tb_X8_tellLater C) 32 = tr_aload 33 3 := rfl
theorem a_X8_tellLater_33 (C : Nat → Sp) : ta (tb_X8_tellLater C) 33 = tr_aload 34 1 := rfl
theorem a_X8_tellLater_34 (C : Nat → Sp) : ta (tb_X8_tellLater C) 34 = tr_getL 37 2 104 := rfl
theorem a_X8_tellLater_37 (C : Nat → Sp) : ta (tb_X8_tellLater C) 37 = tr_callV (C 63) 40 11 2 := rfl
theorem a_X8_tellLater_40 (C : Nat → Sp) : ta (tb_X8_tellLater C) 40 = tr_ic 41 0 := rfl
theorem a_X8_tellLater_41 (C : Nat → Sp) : ta (tb_X8_tellLater C) 41 = tr_iret := rfl

def tb_X8_closeScene_0 (C : Nat → Sp) : Tab := [(0, tr_aload 1 0), (1, tr_getR 4 9 801), (4, tr_iload 5 1), (5, tr_callV (C 18) 8 3 1), (8, tr_ifne 11 13), (11, tr_ic 12 1), (12, tr_iret), (13, tr_aload 14 0), (14, tr_getR 17 9 801), (17, tr_iload 18 1), (18, tr_callV (C 20) 21 3 1), (21, tr_pop 22), (22, tr_ic 23 0), (23, tr_iret)]
set_option maxRecDepth 20000 in
theorem tbk_X8_closeScene_0 {D : DD} {d : Nat} {C : Nat → Sp} (hC : Snd D d C) : ∀ e ∈ tb_X8_closeScene_0 C, TrOk D (d + 1) mi_X8_closeScene e.1 e.2 :=
  tk_c (show TrOk D (d + 1) mi_X8_closeScene 0 (tr_aload 1 0) from ok_aload_n (show decode mi_X8_closeScene.2.1 0 = .ok (.aload_n 0, 1) from by decide +kernel) rfl) <|
  tk_c (show TrOk D (d + 1) mi_X8_closeScene 1 (tr_getR 4 9 801) from ok_getR (ci := 8) (k := 1) (show decode mi_X8_closeScene.2.1 1 = .ok (.getfield 28, 3) from by decide +kernel) rfl (by decide) (gm 246 (by decide +kernel) rfl) rfl) <|
  tk_c (show TrOk D (d + 1) mi_X8_closeScene 4 (tr_iload 5 1) from ok_iload_n (show decode mi_X8_closeScene.2.1 4 = .ok (.iload_n 1, 1) from by decide +kernel) rfl) <|
  tk_c (show TrOk D (d + 1) mi_X8_closeScene 5 (tr_callV (C 18) 8 3 1) from ok_callV (ci := 2) (show decode mi_X8_closeScene.2.1 5 = .ok (.invokevirtual 231, 3) from by decide +kernel) mok_X2_isOpen rfl rfl (gm 671 (by decide +kernel) rfl) (gm 356 (by decide +kernel) rfl) (gm 357 (by decide +kernel) rfl) (hC 18)) <|
  tk_c (show TrOk D (d + 1) mi_X8_closeScene 8 (tr_ifne 11 13) from ok_ifne (show decode mi_X8_closeScene.2.1 8 = .ok (.ifCond .ne 5, 3) from by decide +kernel) (by decide)) <|
  tk_c (show TrOk D (d + 1) mi_X8_closeScene 11 (tr_ic 12 1) from ok_iconst (show decode mi_X8_closeScene.2.1 11 = .ok (.iconst 1, 1) from by decide +kernel) rfl) <|
  tk_c (show TrOk D (d + 1) mi_X8_closeScene 12 (tr_iret) from ok_iret (show decode mi_X8_closeScene.2.1 12 = .ok (.ireturn, 1) from by decide +kernel) rfl) <|
  tk_c (show TrOk D (d + 1) mi_X8_closeScene 13 (tr_aload 14 0) from ok_aload_n (show decode mi_X8_closeScene.2.1 13 = .ok (.aload_n 0, 1) from by decide +kernel) rfl) <|
  tk_c (show TrOk D (d + 1) mi_X8_closeScene 14 (tr_getR 17 9 801) from ok_getR (ci := 8) (k := 1) (show decode mi_X8_closeScene.2.1 14 = .ok (.getfield 28, 3) from by decide +kernel) rfl (by decide) (gm 246 (by decide +kernel) rfl) rfl) <|
  tk_c (show TrOk D (d + 1) mi_X8_closeScene 17 (tr_iload 18 1) from ok_iload_n (show decode mi_X8_closeScene.2.1 17 = .ok (.iload_n 1, 1) from by decide +kernel) rfl) <|
  tk_c (show TrOk D (d + 1) mi_X8_closeScene 18 (tr_callV (C 20) 21 3 1) from ok_callV (ci := 2) (show decode mi_X8_closeScene.2.1 18 = .ok (.invokevirtual 235, 3) from by decide +kernel) mok_X2_shut rfl rfl (gm 672 (by decide +kernel) rfl) (gm 361 (by decide +kernel) rfl) (gm 362 (by decide +kernel) rfl) (hC 20)) <|
  tk_c (show TrOk D (d + 1) mi_X8_closeScene 21 (tr_pop 22) from ok_pop (show decode mi_X8_closeScene.2.1 21 = .ok (.pop, 1) from by decide +kernel)) <|
  tk_c (show TrOk D (d + 1) mi_X8_closeScene 22 (tr_ic 23 0) from ok_iconst (show decode mi_X8_closeScene.2.1 22 = .ok (.iconst 0, 1) from by decide +kernel) rfl) <|
  tk_c (show TrOk D (d + 1) mi_X8_closeScene 23 (tr_iret) from ok_iret (show decode mi_X8_closeScene.2.1 23 = .ok (.ireturn, 1) from by decide +kernel) rfl) <|
  tk_n
def tb_X8_closeScene (C : Nat → Sp) : Tab := tb_X8_closeScene_0 C
theorem tbk_X8_closeScene {D : DD} {d : Nat} {C : Nat → Sp} (hC : Snd D d C) : ∀ e ∈ tb_X8_closeScene C, TrOk D (d + 1) mi_X8_closeScene e.1 e.2 := tbk_X8_closeScene_0 hC
theorem a_X8_closeScene_0 (C : Nat → Sp) : ta (tb_X8_closeScene C) 0 = tr_aload 1 0 := rfl
theorem a_X8_closeScene_1 (C : Nat → Sp) : ta (tb_X8_closeScene C) 1 = tr_getR 4 9 801 := rfl
theorem a_X8_closeScene_4 (C : Nat → Sp) : ta (tb_X8_closeScene C) 4 = tr_iload 5 1 := rfl
theorem a_X8_closeScene_5 (C : Nat → Sp) : ta (tb_X8_closeScene C) 5 = tr_callV (C 18) 8 3 1 := rfl
theorem a_X8_closeScene_8 (C : Nat → Sp) : ta (tb_X8_closeScene C) 8 = tr_ifne 11 13 := rfl
theorem a_X8_closeScene_11 (C : Nat → Sp) : ta (tb_X8_closeScene C) 11 = tr_ic 12 1 := rfl
theorem a_X8_closeScene_12 (C : Nat → Sp) : ta (tb_X8_closeScene C) 12 = tr_iret := rfl
theorem a_X8_closeScene_13 (C : Nat → Sp) : ta (tb_X8_closeScene C) 13 = tr_aload 14 0 := rfl
theorem a_X8_closeScene_14 (C : Nat → Sp) : ta (tb_X8_closeScene C) 14 = tr_getR 17 9 801 := rfl
theorem a_X8_closeScene_17 (C : Nat → Sp) : ta (tb_X8_closeScene C) 17 = tr_iload 18 1 := rfl
theorem a_X8_closeScene_18 (C : Nat → Sp) : ta (tb_X8_closeScene C) 18 = tr_callV (C 20) 21 3 1 := rfl
theorem a_X8_closeScene_21 (C : Nat → Sp) : ta (tb_X8_closeScene C) 21 = tr_pop 22 := rfl
theorem a_X8_closeScene_22 (C : Nat → Sp) : ta (tb_X8_closeScene C) 22 = tr_ic 23 0 := rfl
theorem a_X8_closeScene_23 (C : Nat → Sp) : ta (tb_X8_closeScene C) 23 = tr_iret := rfl

def tb_X8_touchTray_0 (C : Nat → Sp) : Tab := [(0, tr_aload 1 0), (1, tr_getR 4 9 802), (4, tr_aload 5 2), (5, tr_getI 8 6 511), (8, tr_callS (C 93) 11 2), (11, tr_astore 13 5), (13, tr_aload 15 5), (15, tr_ifnonnull 18 20), (18, tr_ic 19 1), (19, tr_iret), (20, tr_iload 21 3), (21, tr_sw 14 [52, 61, 70, 78] 86), (52, tr_aload 53 1), (53, tr_aload 55 5), (55, tr_iload 57 4), (57, tr_callS (C 52) 60 3), (60, tr_iret), (61, tr_aload 62 1), (62, tr_aload 64 5), (64, tr_iload 66 4), (66, tr_callS (C 53) 69 3), (69, tr_iret), (70, tr_aload 71 0), (71, tr_aload 72 2), (72, tr_iload 74 4), (74, tr_callV (C 54) 77 9 2), (77, tr_iret), (78, tr_aload 80 5), (80, tr_iload 82 4), (82, tr_callS (C 55) 85 2), (85, tr_iret), (86, tr_ic 87 0), (87, tr_iret)]
set_option maxRecDepth 20000 in
theorem tbk_X8_touchTray_0 {D : DD} {d : Nat} {C : Nat → Sp} (hC : Snd D d C) : ∀ e ∈ tb_X8_touchTray_0 C, TrOk D (d + 1) mi_X8_touchTray e.1 e.2 :=
  tk_c (show TrOk D (d + 1) mi_X8_touchTray 0 (tr_aload 1 0) from ok_aload_n (show decode mi_X8_touchTray.2.1 0 = .ok (.aload_n 0, 1) from by decide +kernel) rfl) <|
  tk_c (show TrOk D (d + 1) mi_X8_touchTray 1 (tr_getR 4 9 802) from ok_getR (ci := 8) (k := 2) (show decode mi_X8_touchTray.2.1 1 = .ok (.getfield 32, 3) from by decide +kernel) rfl (by decide) (gm 247 (by decide +kernel) rfl) rfl) <|
  tk_c (show TrOk D (d + 1) mi_X8_touchTray 4 (tr_aload 5 2) from ok_aload_n (show decode mi_X8_touchTray.2.1 4 = .ok (.aload_n 2, 1) from by decide +kernel) rfl) <|
  tk_c (show TrOk D (d + 1) mi_X8_touchTray 5 (tr_getI 8 6 511) from ok_getI (ci := 5) (k := 11) (show decode mi_X8_touchTray.2.1 5 = .ok (.getfield 238, 3) from by decide +kernel) rfl (by decide) (gm 446 (by decide +kernel) rfl) rfl) <|
  tk_c (show TrOk D (d + 1) mi_X8_touchTray 8 (tr_callS (C 93) 11 2) from ok_callSN (host := "ShowDesk") (show decode mi_X8_touchTray.2.1 8 = .ok (.invokestatic 241, 3) from by decide +kernel) mok_X11_findTray (by decide +kernel) (gm 529 (by decide +kernel) rfl) (hC 93)) <|
  tk_c (show TrOk D (d + 1) mi_X8_touchTray 11 (tr_astore 13 5) from ok_astore (show decode mi_X8_touchTray.2.1 11 = .ok (.astore 5, 2) from by decide +kernel) (by decide)) <|
  tk_c (show TrOk D (d + 1) mi_X8_touchTray 13 (tr_aload 15 5) from ok_aload (show decode mi_X8_touchTray.2.1 13 = .ok (.aload 5, 2) from by decide +kernel)) <|
  tk_c (show TrOk D (d + 1) mi_X8_touchTray 15 (tr_ifnonnull 18 20) from ok_ifnonnull (show decode mi_X8_touchTray.2.1 15 = .ok (.ifnonnull 5, 3) from by decide +kernel) (by decide)) <|
  tk_c (show TrOk D (d + 1) mi_X8_touchTray 18 (tr_ic 19 1) from ok_iconst (show decode mi_X8_touchTray.2.1 18 = .ok (.iconst 1, 1) from by decide +kernel) rfl) <|
  tk_c (show TrOk D (d + 1) mi_X8_touchTray 19 (tr_iret) from ok_iret (show decode mi_X8_touchTray.2.1 19 = .ok (.ireturn, 1) from by decide +kernel) rfl) <|
  tk_c (show TrOk D (d + 1) mi_X8_touchTray 20 (tr_iload 21 3) from ok_iload_n (show decode mi_X8_touchTray.2.1 20 = .ok (.iload_n 3, 1) from by decide +kernel) rfl) <|
  tk_c (show TrOk D (d + 1) mi_X8_touchTray 21 (tr_sw 14 [52, 61, 70, 78] 86) from ok_sw 14 (show decode mi_X8_touchTray.2.1 21 = .ok (.tableswitch 65 14 17 #[31, 40, 49, 57], 31) from by decide +kernel) rfl rfl (by decide) (by decide) (by decide) (by decide +kernel)) <|
  tk_c (show TrOk D (d + 1) mi_X8_touchTray 52 (tr_aload 53 1) from ok_aload_n (show decode mi_X8_touchTray.2.1 52 = .ok (.aload_n 1, 1) from by decide +kernel) rfl) <|
  tk_c (show TrOk D (d + 1) mi_X8_touchTray 53 (tr_aload 55 5) from ok_aload (show decode mi_X8_touchTray.2.1 53 = .ok (.aload 5, 2) from by decide +kernel)) <|
  tk_c (show TrOk D (d + 1) mi_X8_touchTray 55 (tr_iload 57 4) from ok_iload (show decode mi_X8_touchTray.2.1 55 = .ok (.iload 4, 2) from by decide +kernel)) <|
  tk_c (show TrOk D (d + 1) mi_X8_touchTray 57 (tr_callS (C 52) 60 3) from ok_callS (show decode mi_X8_touchTray.2.1 57 = .ok (.invokestatic 245, 3) from by decide +kernel) mok_X8_readCell (gm 678 (by decide +kernel) rfl) (gm 679 (by decide +kernel) rfl) (hC 52)) <|
  tk_c (show TrOk D (d + 1) mi_X8_touchTray 60 (tr_iret) from ok_iret (show decode mi_X8_touchTray.2.1 60 = .ok (.ireturn, 1) from by decide +kernel) rfl) <|
  tk_c (show TrOk D (d + 1) mi_X8_touchTray 61 (tr_aload 62 1) from ok_aload_n (show decode mi_X8_touchTray.2.1 61 = .ok (.aload_n 1, 1) from by decide +kernel) rfl) <|
  tk_c (show TrOk D (d + 1) mi_X8_touchTray 62 (tr_aload 64 5) from ok_aload (show decode mi_X8_touchTray.2.1 62 = .ok (.aload 5, 2) from by decide +kernel)) <|
  tk_c (show TrOk D (d + 1) mi_X8_touchTray 64 (tr_iload 66 4) from ok_iload (show decode mi_X8_touchTray.2.1 64 = .ok (.iload 4, 2) from by decide +kernel)) <|
  tk_c (show TrOk D (d + 1) mi_X8_touchTray 66 (tr_callS (C 53) 69 3) from ok_callS (show decode mi_X8_touchTray.2.1 66 = .ok (.invokestatic 249, 3) from by decide +kernel) mok_X8_writeCell (gm 685 (by decide +kernel) rfl) (gm 686 (by decide +kernel) rfl) (hC 53)) <|
  tk_c (show TrOk D (d + 1) mi_X8_touchTray 69 (tr_iret) from ok_iret (show decode mi_X8_touchTray.2.1 69 = .ok (.ireturn, 1) from by decide +kernel) rfl) <|
  tk_c (show TrOk D (d + 1) mi_X8_touchTray 70 (tr_aload 71 0) from ok_aload_n (show decode mi_X8_touchTray.2.1 70 = .ok (.aload_n 0, 1) from by decide +kernel) rfl) <|
  tk_c (show TrOk D (d + 1) mi_X8_touchTray 71 (tr_aload 72 2) from ok_aload_n (show decode mi_X8_touchTray.2.1 71 = .ok (.aload_n 2, 1) from by decide +kernel) rfl) <|
  tk_c (show TrOk D (d + 1) mi_X8_touchTray 72 (tr_iload 74 4) from ok_iload (show decode mi_X8_touchTray.2.1 72 = .ok (.iload 4, 2) from by decide +kernel)) <|
  tk_c (show TrOk D (d + 1) mi_X8_touchTray 74 (tr_callV (C 54) 77 9 2) from ok_callV (ci := 8) (show decode mi_X8_touchTray.2.1 74 = .ok (.invokevirtual 252, 3) from by decide +kernel) mok_X8_chooseTray rfl rfl (gm 689 (by decide +kernel) rfl) (gm 691 (by decide +kernel) rfl) (gm 11 (by decide +kernel) rfl) (hC 54)) <|
  tk_c (show TrOk D (d + 1) mi_X8_touchTray 77 (tr_iret) from ok_iret (show decode mi_X8_touchTray.2.1 77 = .ok (.ireturn, 1) from by decide +kernel) rfl) <|
  tk_c (show TrOk D (d + 1) mi_X8_touchTray 78 (tr_aload 80 5) from ok_aload (show decode mi_X8_touchTray.2.1 78 = .ok (.aload 5, 2) from by decide +kernel)) <|
  tk_c (show TrOk D (d + 1) mi_X8_touchTray 80 (tr_iload 82 4) from ok_iload (show decode mi_X8_touchTray.2.1 80 = .ok (.iload 4, 2) from by decide +kernel)) <|
  tk_c (show TrOk D (d + 1) mi_X8_touchTray 82 (tr_callS (C 55) 85 2) from ok_callS (show decode mi_X8_touchTray.2.1 82 = .ok (.invokestatic 256, 3) from by decide +kernel) mok_X8_layTray (gm 693 (by decide +kernel) rfl) (gm 694 (by decide +kernel) rfl) (hC 55)) <|
  tk_c (show TrOk D (d + 1) mi_X8_touchTray 85 (tr_iret) from ok_iret (show decode mi_X8_touchTray.2.1 85 = .ok (.ireturn, 1) from by decide +kernel) rfl) <|
  tk_c (show TrOk D (d + 1) mi_X8_touchTray 86 (tr_ic 87 0) from ok_iconst (show decode mi_X8_touchTray.2.1 86 = .ok (.iconst 0, 1) from by decide +kernel) rfl) <|
  tk_c (show TrOk D (d + 1) mi_X8_touchTray 87 (tr_iret) from ok_iret (show decode mi_X8_touchTray.2.1 87 = .ok (.ireturn, 1) from by decide +kernel) rfl) <|
  tk_n
def tb_X8_touchTray (C : Nat → Sp) : Tab := tb_X8_touchTray_0 C
theorem tbk_X8_touchTray {D : DD} {d : Nat} {C : Nat → Sp} (hC : Snd D d C) : ∀ e ∈ tb_X8_touchTray C, TrOk D (d + 1) mi_X8_touchTray e.1 e.2 := tbk_X8_touchTray_0 hC
theorem a_X8_touchTray_0 (C : Nat → Sp) : ta (tb_X8_touchTray C) 0 = tr_aload 1 0 := rfl
theorem a_X8_touchTray_1 (C : Nat → Sp) : ta (tb_X8_touchTray C) 1 = tr_getR 4 9 802 := rfl
theorem a_X8_touchTray_4 (C : Nat → Sp) : ta (tb_X8_touchTray C) 4 = tr_aload 5 2 := rfl
theorem a_X8_touchTray_5 (C : Nat → Sp) : ta (tb_X8_touchTray C) 5 = tr_getI 8 6 511 := rfl
theorem a_X8_touchTray_8 (C : Nat → Sp) : ta (tb_X8_touchTray C) 8 = tr_callS (C 93) 11 2 := rfl
theorem a_X8_touchTray_11 (C : Nat → Sp) : ta (tb_X8_touchTray C) 11 = tr_astore 13 5 := rfl
theorem a_X8_touchTray_13 (C : Nat → Sp) : ta (tb_X8_touchTray C) 13 = tr_aload 15 5 := rfl
theorem a_X8_touchTray_15 (C : Nat → Sp) : ta (tb_X8_touchTray C) 15 = tr_ifnonnull 18 20 := rfl
theorem a_X8_touchTray_18 (C : Nat → Sp) : ta (tb_X8_touchTray C) 18 = tr_ic 19 1 := rfl
theorem a_X8_touchTray_19 (C : Nat → Sp) : ta (tb_X8_touchTray C) 19 = tr_iret := rfl
theorem a_X8_touchTray_20 (C : Nat → Sp) : ta (tb_X8_touchTray C) 20 = tr_iload 21 3 := rfl
theorem a_X8_touchTray_21 (C : Nat → Sp) : ta (tb_X8_touchTray C) 21 = tr_sw 14 [52, 61, 70, 78] 86 := rfl
theorem a_X8_touchTray_52 (C : Nat → Sp) : ta (tb_X8_touchTray C) 52 = tr_aload 53 1 := rfl
theorem a_X8_touchTray_53 (C : Nat → Sp) : ta (tb_X8_touchTray C) 53 = tr_aload 55 5 := rfl
theorem a_X8_touchTray_55 (C : Nat → Sp) : ta (tb_X8_touchTray C) 55 = tr_iload 57 4 := rfl
theorem a_X8_touchTray_57 (C : Nat → Sp) : ta (tb_X8_touchTray C) 57 = tr_callS (C 52) 60 3 := rfl
theorem a_X8_touchTray_60 (C : Nat → Sp) : ta (tb_X8_touchTray C) 60 = tr_iret := rfl
theorem a_X8_touchTray_61 (C : Nat → Sp) : ta (tb_X8_touchTray C) 61 = tr_aload 62 1 := rfl
theorem a_X8_touchTray_62 (C : Nat → Sp) : ta (tb_X8_touchTray C) 62 = tr_aload 64 5 := rfl
theorem a_X8_touchTray_64 (C : Nat → Sp) : ta (tb_X8_touchTray C) 64 = tr_iload 66 4 := rfl
theorem a_X8_touchTray_66 (C : Nat → Sp) : ta (tb_X8_touchTray C) 66 = tr_callS (C 53) 69 3 := rfl
theorem a_X8_touchTray_69 (C : Nat → Sp) : ta (tb_X8_touchTray C) 69 = tr_iret := rfl
theorem a_X8_touchTray_70 (C : Nat → Sp) : ta (tb_X8_touchTray C) 70 = tr_aload 71 0 := rfl
theorem a_X8_touchTray_71 (C : Nat → Sp) : ta (tb_X8_touchTray C) 71 = tr_aload 72 2 := rfl
theorem a_X8_touchTray_72 (C : Nat → Sp) : ta (tb_X8_touchTray C) 72 = tr_iload 74 4 := rfl
theorem a_X8_touchTray_74 (C : Nat → Sp) : ta (tb_X8_touchTray C) 74 = tr_callV (C 54) 77 9 2 := rfl
theorem a_X8_touchTray_77 (C : Nat → Sp) : ta (tb_X8_touchTray C) 77 = tr_iret := rfl
theorem a_X8_touchTray_78 (C : Nat → Sp) : ta (tb_X8_touchTray C) 78 = tr_aload 80 5 := rfl
theorem a_X8_touchTray_80 (C : Nat → Sp) : ta (tb_X8_touchTray C) 80 = tr_iload 82 4 := rfl
theorem a_X8_touchTray_82 (C : Nat → Sp) : ta (tb_X8_touchTray C) 82 = tr_callS (C 55) 85 2 := rfl
theorem a_X8_touchTray_85 (C : Nat → Sp) : ta (tb_X8_touchTray C) 85 = tr_iret := rfl
theorem a_X8_touchTray_86 (C : Nat → Sp) : ta (tb_X8_touchTray C) 86 = tr_ic 87 0 := rfl
theorem a_X8_touchTray_87 (C : Nat → Sp) : ta (tb_X8_touchTray C) 87 = tr_iret := rfl

def tb_X8_readCell_0 (C : Nat → Sp) : Tab := [(0, tr_aload 1 1), (1, tr_iload 2 2), (2, tr_callV (C 60) 5 10 1), (5, tr_istore 6 3), (6, tr_iload 7 3), (7, tr_ifne 10 20), (10, tr_aload 11 0), (11, tr_aload 12 1), (12, tr_getR 15 10 900), (15, tr_iload 16 2), (16, tr_lald 17), (17, tr_putL 20 2 104), (20, tr_iload 21 3), (21, tr_iret)]
set_option maxRecDepth 20000 in
theorem tbk_X8_readCell_0 {D : DD} {d : Nat} {C : Nat → Sp} (hC : Snd D d C) : ∀ e ∈ tb_X8_readCell_0 C, TrOk D (d + 1) mi_X8_readCell e.1 e.2 :=
  tk_c (show TrOk D (d + 1) mi_X8_readCell 0 (tr_aload 1 1) from ok_aload_n (show decode mi_X8_readCell.2.1 0 = .ok (.aload_n 1, 1) from by decide +kernel) rfl) <|
  tk_c (show TrOk D (d + 1) mi_X8_readCell 1 (tr_iload 2 2) from ok_iload_n (show decode mi_X8_readCell.2.1 1 = .ok (.iload_n 2, 1) from by decide +kernel) rfl) <|
  tk_c (show TrOk D (d + 1) mi_X8_readCell 2 (tr_callV (C 60) 5 10 1) from ok_callV (ci := 9) (show decode mi_X8_readCell.2.1 2 = .ok (.invokevirtual 260, 3) from by decide +kernel) mok_X9_faultAsInts rfl rfl (gm 681 (by decide +kernel) rfl) (gm 682 (by decide +kernel) rfl) (gm 683 (by decide +kernel) rfl) (hC 60)) <|
  tk_c (show TrOk D (d + 1) mi_X8_readCell 5 (tr_istore 6 3) from ok_istore_n (show decode mi_X8_readCell.2.1 5 = .ok (.istore_n 3, 1) from by decide +kernel) rfl (by decide)) <|
  tk_c (show TrOk D (d + 1) mi_X8_readCell 6 (tr_iload 7 3) from ok_iload_n (show decode mi_X8_readCell.2.1 6 = .ok (.iload_n 3, 1) from by decide +kernel) rfl) <|
  tk_c (show TrOk D (d + 1) mi_X8_readCell 7 (tr_ifne 10 20) from ok_ifne (show decode mi_X8_readCell.2.1 7 = .ok (.ifCond .ne 13, 3) from by decide +kernel) (by decide)) <|
  tk_c (show TrOk D (d + 1) mi_X8_readCell 10 (tr_aload 11 0) from ok_aload_n (show decode mi_X8_readCell.2.1 10 = .ok (.aload_n 0, 1) from by decide +kernel) rfl) <|
  tk_c (show TrOk D (d + 1) mi_X8_readCell 11 (tr_aload 12 1) from ok_aload_n (show decode mi_X8_readCell.2.1 11 = .ok (.aload_n 1, 1) from by decide +kernel) rfl) <|
  tk_c (show TrOk D (d + 1) mi_X8_readCell 12 (tr_getR 15 10 900) from ok_getR (ci := 9) (k := 0) (show decode mi_X8_readCell.2.1 12 = .ok (.getfield 265, 3) from by decide +kernel) rfl (by decide) (gm 274 (by decide +kernel) rfl) rfl) <|
  tk_c (show TrOk D (d + 1) mi_X8_readCell 15 (tr_iload 16 2) from ok_iload_n (show decode mi_X8_readCell.2.1 15 = .ok (.iload_n 2, 1) from by decide +kernel) rfl) <|
  tk_c (show TrOk D (d + 1) mi_X8_readCell 16 (tr_lald 17) from ok_lald (show decode mi_X8_readCell.2.1 16 = .ok (.laload, 1) from by decide +kernel)) <|
  tk_c (show TrOk D (d + 1) mi_X8_readCell 17 (tr_putL 20 2 104) from ok_putL (ci := 1) (k := 4) (show decode mi_X8_readCell.2.1 17 = .ok (.putfield 165, 3) from by decide +kernel) rfl (by decide) (gm 229 (by decide +kernel) rfl) rfl (Or.inl rfl)) <|
  tk_c (show TrOk D (d + 1) mi_X8_readCell 20 (tr_iload 21 3) from ok_iload_n (show decode mi_X8_readCell.2.1 20 = .ok (.iload_n 3, 1) from by decide +kernel) rfl) <|
  tk_c (show TrOk D (d + 1) mi_X8_readCell 21 (tr_iret) from ok_iret (show decode mi_X8_readCell.2.1 21 = .ok (.ireturn, 1) from by decide +kernel) rfl) <|
  tk_n
def tb_X8_readCell (C : Nat → Sp) : Tab := tb_X8_readCell_0 C
theorem tbk_X8_readCell {D : DD} {d : Nat} {C : Nat → Sp} (hC : Snd D d C) : ∀ e ∈ tb_X8_readCell C, TrOk D (d + 1) mi_X8_readCell e.1 e.2 := tbk_X8_readCell_0 hC
theorem a_X8_readCell_0 (C : Nat → Sp) : ta (tb_X8_readCell C) 0 = tr_aload 1 1 := rfl
theorem a_X8_readCell_1 (C : Nat → Sp) : ta (tb_X8_readCell C) 1 = tr_iload 2 2 := rfl
theorem a_X8_readCell_2 (C : Nat → Sp) : ta (tb_X8_readCell C) 2 = tr_callV (C 60) 5 10 1 := rfl
theorem a_X8_readCell_5 (C : Nat → Sp) : ta (tb_X8_readCell C) 5 = tr_istore 6 3 := rfl
theorem a_X8_readCell_6 (C : Nat → Sp) : ta (tb_X8_readCell C) 6 = tr_iload 7 3 := rfl
theorem a_X8_readCell_7 (C : Nat → Sp) : ta (tb_X8_readCell C) 7 = tr_ifne 10 20 := rfl
theorem a_X8_readCell_10 (C : Nat → Sp) : ta (tb_X8_readCell C) 10 = tr_aload 11 0 := rfl
theorem a_X8_readCell_11 (C : Nat → Sp) : ta (tb_X8_readCell C) 11 = tr_aload 12 1 := rfl
theorem a_X8_readCell_12 (C : Nat → Sp) : ta (tb_X8_readCell C) 12 = tr_getR 15 10 900 := rfl
theorem a_X8_readCell_15 (C : Nat → Sp) : ta (tb_X8_readCell C) 15 = tr_iload 16 2 := rfl
theorem a_X8_readCell_16 (C : Nat → Sp) : ta (tb_X8_readCell C) 16 = tr_lald 17 := rfl
theorem a_X8_readCell_17 (C : Nat → Sp) : ta (tb_X8_readCell C) 17 = tr_putL 20 2 104 := rfl
theorem a_X8_readCell_20 (C : Nat → Sp) : ta (tb_X8_readCell C) 20 = tr_iload 21 3 := rfl
theorem a_X8_readCell_21 (C : Nat → Sp) : ta (tb_X8_readCell C) 21 = tr_iret := rfl

def tb_X8_writeCell_0 (C : Nat → Sp) : Tab := [(0, tr_aload 1 1), (1, tr_iload 2 2), (2, tr_callV (C 60) 5 10 1), (5, tr_istore 6 3), (6, tr_iload 7 3), (7, tr_ifne 10 19), (10, tr_aload 11 1), (11, tr_iload 12 2), (12, tr_aload 13 0), (13, tr_getL 16 2 104), (16, tr_callV (C 59) 19 10 2), (19, tr_iload 20 3), (20, tr_iret)]
set_option maxRecDepth 20000 in
theorem tbk_X8_writeCell_0 {D : DD} {d : Nat} {C : Nat → Sp} (hC : Snd D d C) : ∀ e ∈ tb_X8_writeCell_0 C, TrOk D (d + 1) mi_X8_writeCell e.1 e.2 :=
  tk_c (show TrOk D (d + 1) mi_X8_writeCell 0 (tr_aload 1 1) from ok_aload_n (show decode mi_X8_writeCell.2.1 0 = .ok (.aload_n 1, 1) from by decide +kernel) rfl) <|
  tk_c (show TrOk D (d + 1) mi_X8_writeCell 1 (tr_iload 2 2) from ok_iload_n (show decode mi_X8_writeCell.2.1 1 = .ok (.iload_n 2, 1) from by decide +kernel) rfl) <|
  tk_c (show TrOk D (d + 1) mi_X8_writeCell 2 (tr_callV (C 60) 5 10 1) from ok_callV (ci := 9) (show decode mi_X8_writeCell.2.1 2 = .ok (.invokevirtual 260, 3) from by decide +kernel) mok_X9_faultAsInts rfl rfl (gm 681 (by decide +kernel) rfl) (gm 682 (by decide +kernel) rfl) (gm 683 (by decide +kernel) rfl) (hC 60)) <|
  tk_c (show TrOk D (d + 1) mi_X8_writeCell 5 (tr_istore 6 3) from ok_istore_n (show decode mi_X8_writeCell.2.1 5 = .ok (.istore_n 3, 1) from by decide +kernel) rfl (by decide)) <|
  tk_c (show TrOk D (d + 1) mi_X8_writeCell 6 (tr_iload 7 3) from ok_iload_n (show decode mi_X8_writeCell.2.1 6 = .ok (.iload_n 3, 1) from by decide +kernel) rfl) <|
  tk_c (show TrOk D (d + 1) mi_X8_writeCell 7 (tr_ifne 10 19) from ok_ifne (show decode mi_X8_writeCell.2.1 7 = .ok (.ifCond .ne 12, 3) from by decide +kernel) (by decide)) <|
  tk_c (show TrOk D (d + 1) mi_X8_writeCell 10 (tr_aload 11 1) from ok_aload_n (show decode mi_X8_writeCell.2.1 10 = .ok (.aload_n 1, 1) from by decide +kernel) rfl) <|
  tk_c (show TrOk D (d + 1) mi_X8_writeCell 11 (tr_iload 12 2) from ok_iload_n (show decode mi_X8_writeCell.2.1 11 = .ok (.iload_n 2, 1) from by decide +kernel) rfl) <|
  tk_c (show TrOk D (d + 1) mi_X8_writeCell 12 (tr_aload 13 0) from ok_aload_n (show decode mi_X8_writeCell.2.1 12 = .ok (.aload_n 0, 1) from by decide +kernel) rfl) <|
  tk_c (show TrOk D (d + 1) mi_X8_writeCell 13 (tr_getL 16 2 104) from ok_getL (ci := 1) (k := 4) (show decode mi_X8_writeCell.2.1 13 = .ok (.getfield 165, 3) from by decide +kernel) rfl (by decide) (gm 229 (by decide +kernel) rfl) rfl) <|
  tk_c (show TrOk D (d + 1) mi_X8_writeCell 16 (tr_callV (C 59) 19 10 2) from ok_callV (ci := 9) (show decode mi_X8_writeCell.2.1 16 = .ok (.invokevirtual 269, 3) from by decide +kernel) mok_X9_put rfl rfl (gm 688 (by decide +kernel) rfl) (gm 544 (by decide +kernel) rfl) (gm 545 (by decide +kernel) rfl) (hC 59)) <|
  tk_c (show TrOk D (d + 1) mi_X8_writeCell 19 (tr_iload 20 3) from ok_iload_n (show decode mi_X8_writeCell.2.1 19 = .ok (.iload_n 3, 1) from by decide +kernel) rfl) <|
  tk_c (show TrOk D (d + 1) mi_X8_writeCell 20 (tr_iret) from ok_iret (show decode mi_X8_writeCell.2.1 20 = .ok (.ireturn, 1) from by decide +kernel) rfl) <|
  tk_n
def tb_X8_writeCell (C : Nat → Sp) : Tab := tb_X8_writeCell_0 C
theorem tbk_X8_writeCell {D : DD} {d : Nat} {C : Nat → Sp} (hC : Snd D d C) : ∀ e ∈ tb_X8_writeCell C, TrOk D (d + 1) mi_X8_writeCell e.1 e.2 := tbk_X8_writeCell_0 hC
theorem a_X8_writeCell_0 (C : Nat → Sp) : ta (tb_X8_writeCell C) 0 = tr_aload 1 1 := rfl
theorem a_X8_writeCell_1 (C : Nat → Sp) : ta (tb_X8_writeCell C) 1 = tr_iload 2 2 := rfl
theorem a_X8_writeCell_2 (C : Nat → Sp) : ta (tb_X8_writeCell C) 2 = tr_callV (C 60) 5 10 1 := rfl
theorem a_X8_writeCell_5 (C : Nat → Sp) : ta (tb_X8_writeCell C) 5 = tr_istore 6 3 := rfl
theorem a_X8_writeCell_6 (C : Nat → Sp) : ta (tb_X8_writeCell C) 6 = tr_iload 7 3 := rfl
theorem a_X8_writeCell_7 (C : Nat → Sp) : ta (tb_X8_writeCell C) 7 = tr_ifne 10 19 := rfl
theorem a_X8_writeCell_10 (C : Nat → Sp) : ta (tb_X8_writeCell C) 10 = tr_aload 11 1 := rfl
theorem a_X8_writeCell_11 (C : Nat → Sp) : ta (tb_X8_writeCell C) 11 = tr_iload 12 2 := rfl
theorem a_X8_writeCell_12 (C : Nat → Sp) : ta (tb_X8_writeCell C) 12 = tr_aload 13 0 := rfl
theorem a_X8_writeCell_13 (C : Nat → Sp) : ta (tb_X8_writeCell C) 13 = tr_getL 16 2 104 := rfl
theorem a_X8_writeCell_16 (C : Nat → Sp) : ta (tb_X8_writeCell C) 16 = tr_callV (C 59) 19 10 2 := rfl
theorem a_X8_writeCell_19 (C : Nat → Sp) : ta (tb_X8_writeCell C) 19 = tr_iload 20 3 := rfl
theorem a_X8_writeCell_20 (C : Nat → Sp) : ta (tb_X8_writeCell C) 20 = tr_iret := rfl

def tb_X8_chooseTray_0 (C : Nat → Sp) : Tab := [(0, tr_aload 1 0), (1, tr_getR 4 9 802), (4, tr_iload 5 2), (5, tr_callS (C 93) 8 2), (8, tr_ifnonnull 11 13), (11, tr_ic 12 2), (12, tr_iret), (13, tr_aload 14 1), (14, tr_iload 15 2), (15, tr_putI 18 6 511), (18, tr_ic 19 0), (19, tr_iret)]
set_option maxRecDepth 20000 in
theorem tbk_X8_chooseTray_0 {D : DD} {d : Nat} {C : Nat → Sp} (hC : Snd D d C) : ∀ e ∈ tb_X8_chooseTray_0 C, TrOk D (d + 1) mi_X8_chooseTray e.1 e.2 :=
  tk_c (show TrOk D (d + 1) mi_X8_chooseTray 0 (tr_aload 1 0) from ok_aload_n (show decode mi_X8_chooseTray.2.1 0 = .ok (.aload_n 0, 1) from by decide +kernel) rfl) <|
  tk_c (show TrOk D (d + 1) mi_X8_chooseTray 1 (tr_getR 4 9 802) from ok_getR (ci := 8) (k := 2) (show decode mi_X8_chooseTray.2.1 1 = .ok (.getfield 32, 3) from by decide +kernel) rfl (by decide) (gm 247 (by decide +kernel) rfl) rfl) <|
  tk_c (show TrOk D (d + 1) mi_X8_chooseTray 4 (tr_iload 5 2) from ok_iload_n (show decode mi_X8_chooseTray.2.1 4 = .ok (.iload_n 2, 1) from by decide +kernel) rfl) <|
  tk_c (show TrOk D (d + 1) mi_X8_chooseTray 5 (tr_callS (C 93) 8 2) from ok_callSN (host := "ShowDesk") (show decode mi_X8_chooseTray.2.1 5 = .ok (.invokestatic 241, 3) from by decide +kernel) mok_X11_findTray (by decide +kernel) (gm 529 (by decide +kernel) rfl) (hC 93)) <|
  tk_c (show TrOk D (d + 1) mi_X8_chooseTray 8 (tr_ifnonnull 11 13) from ok_ifnonnull (show decode mi_X8_chooseTray.2.1 8 = .ok (.ifnonnull 5, 3) from by decide +kernel) (by decide)) <|
  tk_c (show TrOk D (d + 1) mi_X8_chooseTray 11 (tr_ic 12 2) from ok_iconst (show decode mi_X8_chooseTray.2.1 11 = .ok (.iconst 2, 1) from by decide +kernel) rfl) <|
  tk_c (show TrOk D (d + 1) mi_X8_chooseTray 12 (tr_iret) from ok_iret (show decode mi_X8_chooseTray.2.1 12 = .ok (.ireturn, 1) from by decide +kernel) rfl) <|
  tk_c (show TrOk D (d + 1) mi_X8_chooseTray 13 (tr_aload 14 1) from ok_aload_n (show decode mi_X8_chooseTray.2.1 13 = .ok (.aload_n 1, 1) from by decide +kernel) rfl) <|
  tk_c (show TrOk D (d + 1) mi_X8_chooseTray 14 (tr_iload 15 2) from ok_iload_n (show decode mi_X8_chooseTray.2.1 14 = .ok (.iload_n 2, 1) from by decide +kernel) rfl) <|
  tk_c (show TrOk D (d + 1) mi_X8_chooseTray 15 (tr_putI 18 6 511) from ok_putI (ci := 5) (k := 11) (show decode mi_X8_chooseTray.2.1 15 = .ok (.putfield 238, 3) from by decide +kernel) rfl (by decide) (gm 446 (by decide +kernel) rfl) rfl (Or.inl rfl)) <|
  tk_c (show TrOk D (d + 1) mi_X8_chooseTray 18 (tr_ic 19 0) from ok_iconst (show decode mi_X8_chooseTray.2.1 18 = .ok (.iconst 0, 1) from by decide +kernel) rfl) <|
  tk_c (show TrOk D (d + 1) mi_X8_chooseTray 19 (tr_iret) from ok_iret (show decode mi_X8_chooseTray.2.1 19 = .ok (.ireturn, 1) from by decide +kernel) rfl) <|
  tk_n
def tb_X8_chooseTray (C : Nat → Sp) : Tab := tb_X8_chooseTray_0 C
theorem tbk_X8_chooseTray {D : DD} {d : Nat} {C : Nat → Sp} (hC : Snd D d C) : ∀ e ∈ tb_X8_chooseTray C, TrOk D (d + 1) mi_X8_chooseTray e.1 e.2 := tbk_X8_chooseTray_0 hC
theorem a_X8_chooseTray_0 (C : Nat → Sp) : ta (tb_X8_chooseTray C) 0 = tr_aload 1 0 := rfl
theorem a_X8_chooseTray_1 (C : Nat → Sp) : ta (tb_X8_chooseTray C) 1 = tr_getR 4 9 802 := rfl
theorem a_X8_chooseTray_4 (C : Nat → Sp) : ta (tb_X8_chooseTray C) 4 = tr_iload 5 2 := rfl
theorem a_X8_chooseTray_5 (C : Nat → Sp) : ta (tb_X8_chooseTray C) 5 = tr_callS (C 93) 8 2 := rfl
theorem a_X8_chooseTray_8 (C : Nat → Sp) : ta (tb_X8_chooseTray C) 8 = tr_ifnonnull 11 13 := rfl
theorem a_X8_chooseTray_11 (C : Nat → Sp) : ta (tb_X8_chooseTray C) 11 = tr_ic 12 2 := rfl
theorem a_X8_chooseTray_12 (C : Nat → Sp) : ta (tb_X8_chooseTray C) 12 = tr_iret := rfl
theorem a_X8_chooseTray_13 (C : Nat → Sp) : ta (tb_X8_chooseTray C) 13 = tr_aload 14 1 := rfl
theorem a_X8_chooseTray_14 (C : Nat → Sp) : ta (tb_X8_chooseTray C) 14 = tr_iload 15 2 := rfl
theorem a_X8_chooseTray_15 (C : Nat → Sp) : ta (tb_X8_chooseTray C) 15 = tr_putI 18 6 511 := rfl
theorem a_X8_chooseTray_18 (C : Nat → Sp) : ta (tb_X8_chooseTray C) 18 = tr_ic 19 0 := rfl
theorem a_X8_chooseTray_19 (C : Nat → Sp) : ta (tb_X8_chooseTray C) 19 = tr_iret := rfl

def tb_X8_layTray_0 (C : Nat → Sp) : Tab := [(0, tr_iload 1 1), (1, tr_ifge 4 6), (4, tr_ic 5 4), (5, tr_iret), (6, tr_iload 7 1), (7, tr_ic 9 16), (9, tr_icle 12 15), (12, tr_ic 14 6), (14, tr_iret), (15, tr_aload 16 0), (16, tr_ic 17 1), (17, tr_iload 18 1), (18, tr_callV (C 57) 21 10 2), (21, tr_ic 22 0), (22, tr_iret)]
set_option maxRecDepth 20000 in
theorem tbk_X8_layTray_0 {D : DD} {d : Nat} {C : Nat → Sp} (hC : Snd D d C) : ∀ e ∈ tb_X8_layTray_0 C, TrOk D (d + 1) mi_X8_layTray e.1 e.2 :=
  tk_c (show TrOk D (d + 1) mi_X8_layTray 0 (tr_iload 1 1) from ok_iload_n (show decode mi_X8_layTray.2.1 0 = .ok (.iload_n 1, 1) from by decide +kernel) rfl) <|
  tk_c (show TrOk D (d + 1) mi_X8_layTray 1 (tr_ifge 4 6) from ok_ifge (show decode mi_X8_layTray.2.1 1 = .ok (.ifCond .ge 5, 3) from by decide +kernel) (by decide)) <|
  tk_c (show TrOk D (d + 1) mi_X8_layTray 4 (tr_ic 5 4) from ok_iconst (show decode mi_X8_layTray.2.1 4 = .ok (.iconst 4, 1) from by decide +kernel) rfl) <|
  tk_c (show TrOk D (d + 1) mi_X8_layTray 5 (tr_iret) from ok_iret (show decode mi_X8_layTray.2.1 5 = .ok (.ireturn, 1) from by decide +kernel) rfl) <|
  tk_c (show TrOk D (d + 1) mi_X8_layTray 6 (tr_iload 7 1) from ok_iload_n (show decode mi_X8_layTray.2.1 6 = .ok (.iload_n 1, 1) from by decide +kernel) rfl) <|
  tk_c (show TrOk D (d + 1) mi_X8_layTray 7 (tr_ic 9 16) from ok_bipush (show decode mi_X8_layTray.2.1 7 = .ok (.bipush 16, 2) from by decide +kernel) rfl) <|
  tk_c (show TrOk D (d + 1) mi_X8_layTray 9 (tr_icle 12 15) from ok_icle (show decode mi_X8_layTray.2.1 9 = .ok (.if_icmp .le 6, 3) from by decide +kernel) (by decide)) <|
  tk_c (show TrOk D (d + 1) mi_X8_layTray 12 (tr_ic 14 6) from ok_bipush (show decode mi_X8_layTray.2.1 12 = .ok (.bipush 6, 2) from by decide +kernel) rfl) <|
  tk_c (show TrOk D (d + 1) mi_X8_layTray 14 (tr_iret) from ok_iret (show decode mi_X8_layTray.2.1 14 = .ok (.ireturn, 1) from by decide +kernel) rfl) <|
  tk_c (show TrOk D (d + 1) mi_X8_layTray 15 (tr_aload 16 0) from ok_aload_n (show decode mi_X8_layTray.2.1 15 = .ok (.aload_n 0, 1) from by decide +kernel) rfl) <|
  tk_c (show TrOk D (d + 1) mi_X8_layTray 16 (tr_ic 17 1) from ok_iconst (show decode mi_X8_layTray.2.1 16 = .ok (.iconst 1, 1) from by decide +kernel) rfl) <|
  tk_c (show TrOk D (d + 1) mi_X8_layTray 17 (tr_iload 18 1) from ok_iload_n (show decode mi_X8_layTray.2.1 17 = .ok (.iload_n 1, 1) from by decide +kernel) rfl) <|
  tk_c (show TrOk D (d + 1) mi_X8_layTray 18 (tr_callV (C 57) 21 10 2) from ok_callV (ci := 9) (show decode mi_X8_layTray.2.1 18 = .ok (.invokevirtual 273, 3) from by decide +kernel) mok_X9_renew rfl rfl (gm 696 (by decide +kernel) rfl) (gm 532 (by decide +kernel) rfl) (gm 533 (by decide +kernel) rfl) (hC 57)) <|
  tk_c (show TrOk D (d + 1) mi_X8_layTray 21 (tr_ic 22 0) from ok_iconst (show decode mi_X8_layTray.2.1 21 = .ok (.iconst 0, 1) from by decide +kernel) rfl) <|
  tk_c (show TrOk D (d + 1) mi_X8_layTray 22 (tr_iret) from ok_iret (show decode mi_X8_layTray.2.1 22 = .ok (.ireturn, 1) from by decide +kernel) rfl) <|
  tk_n
def tb_X8_layTray (C : Nat → Sp) : Tab := tb_X8_layTray_0 C
theorem tbk_X8_layTray {D : DD} {d : Nat} {C : Nat → Sp} (hC : Snd D d C) : ∀ e ∈ tb_X8_layTray C, TrOk D (d + 1) mi_X8_layTray e.1 e.2 := tbk_X8_layTray_0 hC
theorem a_X8_layTray_0 (C : Nat → Sp) : ta (tb_X8_layTray C) 0 = tr_iload 1 1 := rfl
theorem a_X8_layTray_1 (C : Nat → Sp) : ta (tb_X8_layTray C) 1 = tr_ifge 4 6 := rfl
theorem a_X8_layTray_4 (C : Nat → Sp) : ta (tb_X8_layTray C) 4 = tr_ic 5 4 := rfl
theorem a_X8_layTray_5 (C : Nat → Sp) : ta (tb_X8_layTray C) 5 = tr_iret := rfl
theorem a_X8_layTray_6 (C : Nat → Sp) : ta (tb_X8_layTray C) 6 = tr_iload 7 1 := rfl
theorem a_X8_layTray_7 (C : Nat → Sp) : ta (tb_X8_layTray C) 7 = tr_ic 9 16 := rfl
theorem a_X8_layTray_9 (C : Nat → Sp) : ta (tb_X8_layTray C) 9 = tr_icle 12 15 := rfl
theorem a_X8_layTray_12 (C : Nat → Sp) : ta (tb_X8_layTray C) 12 = tr_ic 14 6 := rfl
theorem a_X8_layTray_14 (C : Nat → Sp) : ta (tb_X8_layTray C) 14 = tr_iret := rfl
theorem a_X8_layTray_15 (C : Nat → Sp) : ta (tb_X8_layTray C) 15 = tr_aload 16 0 := rfl
theorem a_X8_layTray_16 (C : Nat → Sp) : ta (tb_X8_layTray C) 16 = tr_ic 17 1 := rfl
theorem a_X8_layTray_17 (C : Nat → Sp) : ta (tb_X8_layTray C) 17 = tr_iload 18 1 := rfl
theorem a_X8_layTray_18 (C : Nat → Sp) : ta (tb_X8_layTray C) 18 = tr_callV (C 57) 21 10 2 := rfl
theorem a_X8_layTray_21 (C : Nat → Sp) : ta (tb_X8_layTray C) 21 = tr_ic 22 0 := rfl
theorem a_X8_layTray_22 (C : Nat → Sp) : ta (tb_X8_layTray C) 22 = tr_iret := rfl

def tb_X9_init_0 (C : Nat → Sp) : Tab := [(0, tr_aload 1 0), (1, tr_obj 4), (4, tr_aload 5 0), (5, tr_ic 7 16), (7, tr_newa 9 2056007 16 16), (9, tr_putR 12 10 900), (12, tr_aload 13 0), (13, tr_ic 14 (-1)), (14, tr_putI 17 10 901), (17, tr_ret)]
set_option maxRecDepth 20000 in
theorem tbk_X9_init_0 {D : DD} {d : Nat} {C : Nat → Sp} (hC : Snd D d C) : ∀ e ∈ tb_X9_init_0 C, TrOk D (d + 1) mi_X9_init e.1 e.2 :=
  tk_c (show TrOk D (d + 1) mi_X9_init 0 (tr_aload 1 0) from ok_aload_n (show decode mi_X9_init.2.1 0 = .ok (.aload_n 0, 1) from by decide +kernel) rfl) <|
  tk_c (show TrOk D (d + 1) mi_X9_init 1 (tr_obj 4) from ok_obj (show decode mi_X9_init.2.1 1 = .ok (.invokespecial 3, 3) from by decide +kernel) (gm 271 (by decide +kernel) rfl) (gm 50 (by decide +kernel) rfl) (gm 51 rfl rfl)) <|
  tk_c (show TrOk D (d + 1) mi_X9_init 4 (tr_aload 5 0) from ok_aload_n (show decode mi_X9_init.2.1 4 = .ok (.aload_n 0, 1) from by decide +kernel) rfl) <|
  tk_c (show TrOk D (d + 1) mi_X9_init 5 (tr_ic 7 16) from ok_bipush (show decode mi_X9_init.2.1 5 = .ok (.bipush 16, 2) from by decide +kernel) rfl) <|
  tk_c (show TrOk D (d + 1) mi_X9_init 7 (tr_newa 9 2056007 16 16) from ok_newa (t := 2) (show decode mi_X9_init.2.1 7 = .ok (.newarray .long, 2) from by decide +kernel) rfl (by decide) (gm 127 (by decide +kernel) rfl) (by decide) (by decide) (by decide) (by decide)) <|
  tk_c (show TrOk D (d + 1) mi_X9_init 9 (tr_putR 12 10 900) from ok_putR (ci := 9) (k := 0) (show decode mi_X9_init.2.1 9 = .ok (.putfield 9, 3) from by decide +kernel) rfl (by decide) (gm 272 (by decide +kernel) rfl) rfl (Or.inr ⟨rfl, rfl, rfl⟩)) <|
  tk_c (show TrOk D (d + 1) mi_X9_init 12 (tr_aload 13 0) from ok_aload_n (show decode mi_X9_init.2.1 12 = .ok (.aload_n 0, 1) from by decide +kernel) rfl) <|
  tk_c (show TrOk D (d + 1) mi_X9_init 13 (tr_ic 14 (-1)) from ok_iconst (show decode mi_X9_init.2.1 13 = .ok (.iconst (-1), 1) from by decide +kernel) rfl) <|
  tk_c (show TrOk D (d + 1) mi_X9_init 14 (tr_putI 17 10 901) from ok_putI (ci := 9) (k := 1) (show decode mi_X9_init.2.1 14 = .ok (.putfield 15, 3) from by decide +kernel) rfl (by decide) (gm 275 (by decide +kernel) rfl) rfl (Or.inl rfl)) <|
  tk_c (show TrOk D (d + 1) mi_X9_init 17 (tr_ret) from ok_ret (show decode mi_X9_init.2.1 17 = .ok (.return_, 1) from by decide +kernel) rfl) <|
  tk_n
def tb_X9_init (C : Nat → Sp) : Tab := tb_X9_init_0 C
theorem tbk_X9_init {D : DD} {d : Nat} {C : Nat → Sp} (hC : Snd D d C) : ∀ e ∈ tb_X9_init C, TrOk D (d + 1) mi_X9_init e.1 e.2 := tbk_X9_init_0 hC
theorem a_X9_init_0 (C : Nat → Sp) : ta (tb_X9_init C) 0 = tr_aload 1 0 := rfl
theorem a_X9_init_1 (C : Nat → Sp) : ta (tb_X9_init C) 1 = tr_obj 4 := rfl
theorem a_X9_init_4 (C : Nat → Sp) : ta (tb_X9_init C) 4 = tr_aload 5 0 := rfl
theorem a_X9_init_5 (C : Nat → Sp) : ta (tb_X9_init C) 5 = tr_ic 7 16 := rfl
theorem a_X9_init_7 (C : Nat → Sp) : ta (tb_X9_init C) 7 = tr_newa 9 2056007 16 16 := rfl
theorem a_X9_init_9 (C : Nat → Sp) : ta (tb_X9_init C) 9 = tr_putR 12 10 900 := rfl
theorem a_X9_init_12 (C : Nat → Sp) : ta (tb_X9_init C) 12 = tr_aload 13 0 := rfl
theorem a_X9_init_13 (C : Nat → Sp) : ta (tb_X9_init C) 13 = tr_ic 14 (-1) := rfl
theorem a_X9_init_14 (C : Nat → Sp) : ta (tb_X9_init C) 14 = tr_putI 17 10 901 := rfl
theorem a_X9_init_17 (C : Nat → Sp) : ta (tb_X9_init C) 17 = tr_ret := rfl

def tb_X9_renew_0 (C : Nat → Sp) : Tab := [(0, tr_iload 1 2), (1, tr_iflt 4 10), (4, tr_iload 5 2), (5, tr_ic 7 16), (7, tr_icle 10 11), (10, tr_ret), (11, tr_aload 12 0), (12, tr_iload 13 1), (13, tr_putI 16 10 901), (16, tr_aload 17 0), (17, tr_iload 18 2), (18, tr_putI 21 10 902), (21, tr_ic 22 0), (22, tr_istore 23 3), (23, tr_iload 24 3), (24, tr_iload 25 2), (25, tr_icge 28 41), (28, tr_aload 29 0), (29, tr_getR 32 10 900), (32, tr_iload 33 3), (33, tr_lc 34 0), (34, tr_last 35), (35, tr_iinc 38 3 1), (38, tr_goto 23), (41, tr_ret)]
set_option maxRecDepth 20000 in
theorem tbk_X9_renew_0 {D : DD} {d : Nat} {C : Nat → Sp} (hC : Snd D d C) : ∀ e ∈ tb_X9_renew_0 C, TrOk D (d + 1) mi_X9_renew e.1 e.2 :=
  tk_c (show TrOk D (d + 1) mi_X9_renew 0 (tr_iload 1 2) from ok_iload_n (show decode mi_X9_renew.2.1 0 = .ok (.iload_n 2, 1) from by decide +kernel) rfl) <|
  tk_c (show TrOk D (d + 1) mi_X9_renew 1 (tr_iflt 4 10) from ok_iflt (show decode mi_X9_renew.2.1 1 = .ok (.ifCond .lt 9, 3) from by decide +kernel) (by decide)) <|
  tk_c (show TrOk D (d + 1) mi_X9_renew 4 (tr_iload 5 2) from ok_iload_n (show decode mi_X9_renew.2.1 4 = .ok (.iload_n 2, 1) from by decide +kernel) rfl) <|
  tk_c (show TrOk D (d + 1) mi_X9_renew 5 (tr_ic 7 16) from ok_bipush (show decode mi_X9_renew.2.1 5 = .ok (.bipush 16, 2) from by decide +kernel) rfl) <|
  tk_c (show TrOk D (d + 1) mi_X9_renew 7 (tr_icle 10 11) from ok_icle (show decode mi_X9_renew.2.1 7 = .ok (.if_icmp .le 4, 3) from by decide +kernel) (by decide)) <|
  tk_c (show TrOk D (d + 1) mi_X9_renew 10 (tr_ret) from ok_ret (show decode mi_X9_renew.2.1 10 = .ok (.return_, 1) from by decide +kernel) rfl) <|
  tk_c (show TrOk D (d + 1) mi_X9_renew 11 (tr_aload 12 0) from ok_aload_n (show decode mi_X9_renew.2.1 11 = .ok (.aload_n 0, 1) from by decide +kernel) rfl) <|
  tk_c (show TrOk D (d + 1) mi_X9_renew 12 (tr_iload 13 1) from ok_iload_n (show decode mi_X9_renew.2.1 12 = .ok (.iload_n 1, 1) from by decide +kernel) rfl) <|
  tk_c (show TrOk D (d + 1) mi_X9_renew 13 (tr_putI 16 10 901) from ok_putI (ci := 9) (k := 1) (show decode mi_X9_renew.2.1 13 = .ok (.putfield 15, 3) from by decide +kernel) rfl (by decide) (gm 275 (by decide +kernel) rfl) rfl (Or.inl rfl)) <|
  tk_c (show TrOk D (d + 1) mi_X9_renew 16 (tr_aload 17 0) from ok_aload_n (show decode mi_X9_renew.2.1 16 = .ok (.aload_n 0, 1) from by decide +kernel) rfl) <|
  tk_c (show TrOk D (d + 1) mi_X9_renew 17 (tr_iload 18 2) from ok_iload_n (show decode mi_X9_renew.2.1 17 = .ok (.iload_n 2, 1) from by decide +kernel) rfl) <|
  tk_c (show TrOk D (d + 1) mi_X9_renew 18 (tr_putI 21 10 902) from ok_putI (ci := 9) (k := 2) (show decode mi_X9_renew.2.1 18 = .ok (.putfield 19, 3) from by decide +kernel) rfl (by decide) (gm 277 (by decide +kernel) rfl) rfl (Or.inl rfl)) <|
  tk_c (show TrOk D (d + 1) mi_X9_renew 21 (tr_ic 22 0) from ok_iconst (show decode mi_X9_renew.2.1 21 = .ok (.iconst 0, 1) from by decide +kernel) rfl) <|
  tk_c (show TrOk D (d + 1) mi_X9_renew 22 (tr_istore 23 3) from ok_istore_n (show decode mi_X9_renew.2.1 22 = .ok (.istore_n 3, 1) from by decide +kernel) rfl (by decide)) <|
  tk_c (show TrOk D (d + 1) mi_X9_renew 23 (tr_iload 24 3) from ok_iload_n (show decode mi_X9_renew.2.1 23 = .ok (.iload_n 3, 1) from by decide +kernel) rfl) <|
  tk_c (show TrOk D (d + 1) mi_X9_renew 24 (tr_iload 25 2) from ok_iload_n (show decode mi_X9_renew.2.1 24 = .ok (.iload_n 2, 1) from by decide +kernel) rfl) <|
  tk_c (show TrOk D (d + 1) mi_X9_renew 25 (tr_icge 28 41) from ok_icge (show decode mi_X9_renew.2.1 25 = .ok (.if_icmp .ge 16, 3) from by decide +kernel) (by decide)) <|
  tk_c (show TrOk D (d + 1) mi_X9_renew 28 (tr_aload 29 0) from ok_aload_n (show decode mi_X9_renew.2.1 28 = .ok (.aload_n 0, 1) from by decide +kernel) rfl) <|
  tk_c (show TrOk D (d + 1) mi_X9_renew 29 (tr_getR 32 10 900) from ok_getR (ci := 9) (k := 0) (show decode mi_X9_renew.2.1 29 = .ok (.getfield 9, 3) from by decide +kernel) rfl (by decide) (gm 272 (by decide +kernel) rfl) rfl) <|
  tk_c (show TrOk D (d + 1) mi_X9_renew 32 (tr_iload 33 3) from ok_iload_n (show decode mi_X9_renew.2.1 32 = .ok (.iload_n 3, 1) from by decide +kernel) rfl) <|
  tk_c (show TrOk D (d + 1) mi_X9_renew 33 (tr_lc 34 0) from ok_lconst (show decode mi_X9_renew.2.1 33 = .ok (.lconst 0, 1) from by decide +kernel) rfl) <|
  tk_c (show TrOk D (d + 1) mi_X9_renew 34 (tr_last 35) from ok_last (show decode mi_X9_renew.2.1 34 = .ok (.lastore, 1) from by decide +kernel)) <|
  tk_c (show TrOk D (d + 1) mi_X9_renew 35 (tr_iinc 38 3 1) from ok_iinc (show decode mi_X9_renew.2.1 35 = .ok (.iinc 3 1, 3) from by decide +kernel) rfl (by decide)) <|
  tk_c (show TrOk D (d + 1) mi_X9_renew 38 (tr_goto 23) from ok_goto (show decode mi_X9_renew.2.1 38 = .ok (.goto (-15), 3) from by decide +kernel) (by decide)) <|
  tk_c (show TrOk D (d + 1) mi_X9_renew 41 (tr_ret) from ok_ret (show decode mi_X9_renew.2.1 41 = .ok (.return_, 1) from by decide +kernel) rfl) <|
  tk_n
def tb_X9_renew (C : Nat → Sp) : Tab := tb_X9_renew_0 C
theorem tbk_X9_renew {D : DD} {d : Nat} {C : Nat → Sp} (hC : Snd D d C) : ∀ e ∈ tb_X9_renew C, TrOk D (d + 1) mi_X9_renew e.1 e.2 := tbk_X9_renew_0 hC
theorem a_X9_renew_0 (C : Nat → Sp) : ta (tb_X9_renew C) 0 = tr_iload 1 2 := rfl
theorem a_X9_renew_1 (C : Nat → Sp) : ta (tb_X9_renew C) 1 = tr_iflt 4 10 := rfl
theorem a_X9_renew_4 (C : Nat → Sp) : ta (tb_X9_renew C) 4 = tr_iload 5 2 := rfl
theorem a_X9_renew_5 (C : Nat → Sp) : ta (tb_X9_renew C) 5 = tr_ic 7 16 := rfl
theorem a_X9_renew_7 (C : Nat → Sp) : ta (tb_X9_renew C) 7 = tr_icle 10 11 := rfl
theorem a_X9_renew_10 (C : Nat → Sp) : ta (tb_X9_renew C) 10 = tr_ret := rfl
theorem a_X9_renew_11 (C : Nat → Sp) : ta (tb_X9_renew C) 11 = tr_aload 12 0 := rfl
theorem a_X9_renew_12 (C : Nat → Sp) : ta (tb_X9_renew C) 12 = tr_iload 13 1 := rfl
theorem a_X9_renew_13 (C : Nat → Sp) : ta (tb_X9_renew C) 13 = tr_putI 16 10 901 := rfl
theorem a_X9_renew_16 (C : Nat → Sp) : ta (tb_X9_renew C) 16 = tr_aload 17 0 := rfl
theorem a_X9_renew_17 (C : Nat → Sp) : ta (tb_X9_renew C) 17 = tr_iload 18 2 := rfl
theorem a_X9_renew_18 (C : Nat → Sp) : ta (tb_X9_renew C) 18 = tr_putI 21 10 902 := rfl
theorem a_X9_renew_21 (C : Nat → Sp) : ta (tb_X9_renew C) 21 = tr_ic 22 0 := rfl
theorem a_X9_renew_22 (C : Nat → Sp) : ta (tb_X9_renew C) 22 = tr_istore 23 3 := rfl
theorem a_X9_renew_23 (C : Nat → Sp) : ta (tb_X9_renew C) 23 = tr_iload 24 3 := rfl
theorem a_X9_renew_24 (C : Nat → Sp) : ta (tb_X9_renew C) 24 = tr_iload 25 2 := rfl
theorem a_X9_renew_25 (C : Nat → Sp) : ta (tb_X9_renew C) 25 = tr_icge 28 41 := rfl
theorem a_X9_renew_28 (C : Nat → Sp) : ta (tb_X9_renew C) 28 = tr_aload 29 0 := rfl
theorem a_X9_renew_29 (C : Nat → Sp) : ta (tb_X9_renew C) 29 = tr_getR 32 10 900 := rfl
theorem a_X9_renew_32 (C : Nat → Sp) : ta (tb_X9_renew C) 32 = tr_iload 33 3 := rfl
theorem a_X9_renew_33 (C : Nat → Sp) : ta (tb_X9_renew C) 33 = tr_lc 34 0 := rfl
theorem a_X9_renew_34 (C : Nat → Sp) : ta (tb_X9_renew C) 34 = tr_last 35 := rfl
theorem a_X9_renew_35 (C : Nat → Sp) : ta (tb_X9_renew C) 35 = tr_iinc 38 3 1 := rfl
theorem a_X9_renew_38 (C : Nat → Sp) : ta (tb_X9_renew C) 38 = tr_goto 23 := rfl
theorem a_X9_renew_41 (C : Nat → Sp) : ta (tb_X9_renew C) 41 = tr_ret := rfl

def tb_X9_hasCell_0 (C : Nat → Sp) : Tab := [(0, tr_iload 1 1), (1, tr_iflt 4 16), (4, tr_iload 5 1), (5, tr_aload 6 0), (6, tr_getI 9 10 902), (9, tr_icge 12 16), (12, tr_ic 13 1), (13, tr_goto 17), (16, tr_ic 17 0), (17, tr_zret)]
set_option maxRecDepth 20000 in
theorem tbk_X9_hasCell_0 {D : DD} {d : Nat} {C : Nat → Sp} (hC : Snd D d C) : ∀ e ∈ tb_X9_hasCell_0 C, TrOk D (d + 1) mi_X9_hasCell e.1 e.2 :=
  tk_c (show TrOk D (d + 1) mi_X9_hasCell 0 (tr_iload 1 1) from ok_iload_n (show decode mi_X9_hasCell.2.1 0 = .ok (.iload_n 1, 1) from by decide +kernel) rfl) <|
  tk_c (show TrOk D (d + 1) mi_X9_hasCell 1 (tr_iflt 4 16) from ok_iflt (show decode mi_X9_hasCell.2.1 1 = .ok (.ifCond .lt 15, 3) from by decide +kernel) (by decide)) <|
  tk_c (show TrOk D (d + 1) mi_X9_hasCell 4 (tr_iload 5 1) from ok_iload_n (show decode mi_X9_hasCell.2.1 4 = .ok (.iload_n 1, 1) from by decide +kernel) rfl) <|
  tk_c (show TrOk D (d + 1) mi_X9_hasCell 5 (tr_aload 6 0) from ok_aload_n (show decode mi_X9_hasCell.2.1 5 = .ok (.aload_n 0, 1) from by decide +kernel) rfl) <|
  tk_c (show TrOk D (d + 1) mi_X9_hasCell 6 (tr_getI 9 10 902) from ok_getI (ci := 9) (k := 2) (show decode mi_X9_hasCell.2.1 6 = .ok (.getfield 19, 3) from by decide +kernel) rfl (by decide) (gm 277 (by decide +kernel) rfl) rfl) <|
  tk_c (show TrOk D (d + 1) mi_X9_hasCell 9 (tr_icge 12 16) from ok_icge (show decode mi_X9_hasCell.2.1 9 = .ok (.if_icmp .ge 7, 3) from by decide +kernel) (by decide)) <|
  tk_c (show TrOk D (d + 1) mi_X9_hasCell 12 (tr_ic 13 1) from ok_iconst (show decode mi_X9_hasCell.2.1 12 = .ok (.iconst 1, 1) from by decide +kernel) rfl) <|
  tk_c (show TrOk D (d + 1) mi_X9_hasCell 13 (tr_goto 17) from ok_goto (show decode mi_X9_hasCell.2.1 13 = .ok (.goto 4, 3) from by decide +kernel) (by decide)) <|
  tk_c (show TrOk D (d + 1) mi_X9_hasCell 16 (tr_ic 17 0) from ok_iconst (show decode mi_X9_hasCell.2.1 16 = .ok (.iconst 0, 1) from by decide +kernel) rfl) <|
  tk_c (show TrOk D (d + 1) mi_X9_hasCell 17 (tr_zret) from ok_zret (show decode mi_X9_hasCell.2.1 17 = .ok (.ireturn, 1) from by decide +kernel) rfl) <|
  tk_n
def tb_X9_hasCell (C : Nat → Sp) : Tab := tb_X9_hasCell_0 C
theorem tbk_X9_hasCell {D : DD} {d : Nat} {C : Nat → Sp} (hC : Snd D d C) : ∀ e ∈ tb_X9_hasCell C, TrOk D (d + 1) mi_X9_hasCell e.1 e.2 := tbk_X9_hasCell_0 hC
theorem a_X9_hasCell_0 (C : Nat → Sp) : ta (tb_X9_hasCell C) 0 = tr_iload 1 1 := rfl
theorem a_X9_hasCell_1 (C : Nat → Sp) : ta (tb_X9_hasCell C) 1 = tr_iflt 4 16 := rfl
theorem a_X9_hasCell_4 (C : Nat → Sp) : ta (tb_X9_hasCell C) 4 = tr_iload 5 1 := rfl
theorem a_X9_hasCell_5 (C : Nat → Sp) : ta (tb_X9_hasCell C) 5 = tr_aload 6 0 := rfl
theorem a_X9_hasCell_6 (C : Nat → Sp) : ta (tb_X9_hasCell C) 6 = tr_getI 9 10 902 := rfl
theorem a_X9_hasCell_9 (C : Nat → Sp) : ta (tb_X9_hasCell C) 9 = tr_icge 12 16 := rfl
theorem a_X9_hasCell_12 (C : Nat → Sp) : ta (tb_X9_hasCell C) 12 = tr_ic 13 1 := rfl
theorem a_X9_hasCell_13 (C : Nat → Sp) : ta (tb_X9_hasCell C) 13 = tr_goto 17 := rfl
theorem a_X9_hasCell_16 (C : Nat → Sp) : ta (tb_X9_hasCell C) 16 = tr_ic 17 0 := rfl
theorem a_X9_hasCell_17 (C : Nat → Sp) : ta (tb_X9_hasCell C) 17 = tr_zret := rfl

def tb_X9_put_0 (C : Nat → Sp) : Tab := [(0, tr_aload 1 0), (1, tr_iload 2 1), (2, tr_callV (C 58) 5 10 1), (5, tr_ifne 8 9), (8, tr_ret), (9, tr_aload 10 0), (10, tr_getI 13 10 901), (13, tr_ifne 16 29), (16, tr_aload 17 0), (17, tr_getR 20 10 900), (20, tr_iload 21 1), (21, tr_lload 22 2), (22, tr_l2i 23), (23, tr_i2b 24), (24, tr_i2l 25), (25, tr_last 26), (26, tr_goto 56), (29, tr_aload 30 0), (30, tr_getI 33 10 901), (33, tr_ic 34 1), (34, tr_icne 37 49), (37, tr_aload 38 0), (38, tr_getR 41 10 900), (41, tr_iload 42 1), (42, tr_lload 43 2), (43, tr_l2i 44), (44, tr_i2l 45), (45, tr_last 46), (46, tr_goto 56), (49, tr_aload 50 0), (50, tr_getR 53 10 900), (53, tr_iload 54 1), (54, tr_lload 55 2), (55, tr_last 56), (56, tr_ret)]
set_option maxRecDepth 20000 in
theorem tbk_X9_put_0 {D : DD} {d : Nat} {C : Nat → Sp} (hC : Snd D d C) : ∀ e ∈ tb_X9_put_0 C, TrOk D (d + 1) mi_X9_put e.1 e.2 :=
  tk_c (show TrOk D (d + 1) mi_X9_put 0 (tr_aload 1 0) from ok_aload_n (show decode mi_X9_put.2.1 0 = .ok (.aload_n 0, 1) from by decide +kernel) rfl) <|
  tk_c (show TrOk D (d + 1) mi_X9_put 1 (tr_iload 2 1) from ok_iload_n (show decode mi_X9_put.2.1 1 = .ok (.iload_n 1, 1) from by decide +kernel) rfl) <|
  tk_c (show TrOk D (d + 1) mi_X9_put 2 (tr_callV (C 58) 5 10 1) from ok_callV (ci := 9) (show decode mi_X9_put.2.1 2 = .ok (.invokevirtual 22, 3) from by decide +kernel) mok_X9_hasCell rfl rfl (gm 547 (by decide +kernel) rfl) (gm 540 (by decide +kernel) rfl) (gm 541 (by decide +kernel) rfl) (hC 58)) <|
  tk_c (show TrOk D (d + 1) mi_X9_put 5 (tr_ifne 8 9) from ok_ifne (show decode mi_X9_put.2.1 5 = .ok (.ifCond .ne 4, 3) from by decide +kernel) (by decide)) <|
  tk_c (show TrOk D (d + 1) mi_X9_put 8 (tr_ret) from ok_ret (show decode mi_X9_put.2.1 8 = .ok (.return_, 1) from by decide +kernel) rfl) <|
  tk_c (show TrOk D (d + 1) mi_X9_put 9 (tr_aload 10 0) from ok_aload_n (show decode mi_X9_put.2.1 9 = .ok (.aload_n 0, 1) from by decide +kernel) rfl) <|
  tk_c (show TrOk D (d + 1) mi_X9_put 10 (tr_getI 13 10 901) from ok_getI (ci := 9) (k := 1) (show decode mi_X9_put.2.1 10 = .ok (.getfield 15, 3) from by decide +kernel) rfl (by decide) (gm 275 (by decide +kernel) rfl) rfl) <|
  tk_c (show TrOk D (d + 1) mi_X9_put 13 (tr_ifne 16 29) from ok_ifne (show decode mi_X9_put.2.1 13 = .ok (.ifCond .ne 16, 3) from by decide +kernel) (by decide)) <|
  tk_c (show TrOk D (d + 1) mi_X9_put 16 (tr_aload 17 0) from ok_aload_n (show decode mi_X9_put.2.1 16 = .ok (.aload_n 0, 1) from by decide +kernel) rfl) <|
  tk_c (show TrOk D (d + 1) mi_X9_put 17 (tr_getR 20 10 900) from ok_getR (ci := 9) (k := 0) (show decode mi_X9_put.2.1 17 = .ok (.getfield 9, 3) from by decide +kernel) rfl (by decide) (gm 272 (by decide +kernel) rfl) rfl) <|
  tk_c (show TrOk D (d + 1) mi_X9_put 20 (tr_iload 21 1) from ok_iload_n (show decode mi_X9_put.2.1 20 = .ok (.iload_n 1, 1) from by decide +kernel) rfl) <|
  tk_c (show TrOk D (d + 1) mi_X9_put 21 (tr_lload 22 2) from ok_lload_n (show decode mi_X9_put.2.1 21 = .ok (.lload_n 2, 1) from by decide +kernel) rfl) <|
  tk_c (show TrOk D (d + 1) mi_X9_put 22 (tr_l2i 23) from ok_l2i (show decode mi_X9_put.2.1 22 = .ok (.l2i, 1) from by decide +kernel)) <|
  tk_c (show TrOk D (d + 1) mi_X9_put 23 (tr_i2b 24) from ok_i2b (show decode mi_X9_put.2.1 23 = .ok (.i2b, 1) from by decide +kernel)) <|
  tk_c (show TrOk D (d + 1) mi_X9_put 24 (tr_i2l 25) from ok_i2l (show decode mi_X9_put.2.1 24 = .ok (.i2l, 1) from by decide +kernel)) <|
  tk_c (show TrOk D (d + 1) mi_X9_put 25 (tr_last 26) from ok_last (show decode mi_X9_put.2.1 25 = .ok (.lastore, 1) from by decide +kernel)) <|
  tk_c (show TrOk D (d + 1) mi_X9_put 26 (tr_goto 56) from ok_goto (show decode mi_X9_put.2.1 26 = .ok (.goto 30, 3) from by decide +kernel) (by decide)) <|
  tk_c (show TrOk D (d + 1) mi_X9_put 29 (tr_aload 30 0) from ok_aload_n (show decode mi_X9_put.2.1 29 = .ok (.aload_n 0, 1) from by decide +kernel) rfl) <|
  tk_c (show TrOk D (d + 1) mi_X9_put 30 (tr_getI 33 10 901) from ok_getI (ci := 9) (k := 1) (show decode mi_X9_put.2.1 30 = .ok (.getfield 15, 3) from by decide +kernel) rfl (by decide) (gm 275 (by decide +kernel) rfl) rfl) <|
  tk_c (show TrOk D (d + 1) mi_X9_put 33 (tr_ic 34 1) from ok_iconst (show decode mi_X9_put.2.1 33 = .ok (.iconst 1, 1) from by decide +kernel) rfl) <|
  tk_c (show TrOk D (d + 1) mi_X9_put 34 (tr_icne 37 49) from ok_icne (show decode mi_X9_put.2.1 34 = .ok (.if_icmp .ne 15, 3) from by decide +kernel) (by decide)) <|
  tk_c (show TrOk D (d + 1) mi_X9_put 37 (tr_aload 38 0) from ok_aload_n (show decode mi_X9_put.2.1 37 = .ok (.aload_n 0, 1) from by decide +kernel) rfl) <|
  tk_c (show TrOk D (d + 1) mi_X9_put 38 (tr_getR 41 10 900) from ok_getR (ci := 9) (k := 0) (show decode mi_X9_put.2.1 38 = .ok (.getfield 9, 3) from by decide +kernel) rfl (by decide) (gm 272 (by decide +kernel) rfl) rfl) <|
  tk_c (show TrOk D (d + 1) mi_X9_put 41 (tr_iload 42 1) from ok_iload_n (show decode mi_X9_put.2.1 41 = .ok (.iload_n 1, 1) from by decide +kernel) rfl) <|
  tk_c (show TrOk D (d + 1) mi_X9_put 42 (tr_lload 43 2) from ok_lload_n (show decode mi_X9_put.2.1 42 = .ok (.lload_n 2, 1) from by decide +kernel) rfl) <|
  tk_c (show TrOk D (d + 1) mi_X9_put 43 (tr_l2i 44) from ok_l2i (show decode mi_X9_put.2.1 43 = .ok (.l2i, 1) from by decide +kernel)) <|
  tk_c (show TrOk D (d + 1) mi_X9_put 44 (tr_i2l 45) from ok_i2l (show decode mi_X9_put.2.1 44 = .ok (.i2l, 1) from by decide +kernel)) <|
  tk_c (show TrOk D (d + 1) mi_X9_put 45 (tr_last 46) from ok_last (show decode mi_X9_put.2.1 45 = .ok (.lastore, 1) from by decide +kernel)) <|
  tk_c (show TrOk D (d + 1) mi_X9_put 46 (tr_goto 56) from ok_goto (show decode mi_X9_put.2.1 46 = .ok (.goto 10, 3) from by decide +kernel) (by decide)) <|
  tk_c (show TrOk D (d + 1) mi_X9_put 49 (tr_aload 50 0) from ok_aload_n (show decode mi_X9_put.2.1 49 = .ok (.aload_n 0, 1) from by decide +kernel) rfl) <|
  tk_c (show TrOk D (d + 1) mi_X9_put 50 (tr_getR 53 10 900) from ok_getR (ci := 9) (k := 0) (show decode mi_X9_put.2.1 50 = .ok (.getfield 9, 3) from by decide +kernel) rfl (by decide) (gm 272 (by decide +kernel) rfl) rfl) <|
  tk_c (show TrOk D (d + 1) mi_X9_put 53 (tr_iload 54 1) from ok_iload_n (show decode mi_X9_put.2.1 53 = .ok (.iload_n 1, 1) from by decide +kernel) rfl) <|
  tk_c (show TrOk D (d + 1) mi_X9_put 54 (tr_lload 55 2) from ok_lload_n (show decode mi_X9_put.2.1 54 = .ok (.lload_n 2, 1) from by decide +kernel) rfl) <|
  tk_c (show TrOk D (d + 1) mi_X9_put 55 (tr_last 56) from ok_last (show decode mi_X9_put.2.1 55 = .ok (.lastore, 1) from by decide +kernel)) <|
  tk_c (show TrOk D (d + 1) mi_X9_put 56 (tr_ret) from ok_ret (show decode mi_X9_put.2.1 56 = .ok (.return_, 1) from by decide +kernel) rfl) <|
  tk_n
def tb_X9_put (C : Nat → Sp) : Tab := tb_X9_put_0 C
theorem tbk_X9_put {D : DD} {d : Nat} {C : Nat → Sp} (hC : Snd D d C) : ∀ e ∈ tb_X9_put C, TrOk D (d + 1) mi_X9_put e.1 e.2 := tbk_X9_put_0 hC
theorem a_X9_put_0 (C : Nat → Sp) : ta (tb_X9_put C) 0 = tr_aload 1 0 := rfl
theorem a_X9_put_1 (C : Nat → Sp) : ta (tb_X9_put C) 1 = tr_iload 2 1 := rfl
theorem a_X9_put_2 (C : Nat → Sp) : ta (tb_X9_put C) 2 = tr_callV (C 58) 5 10 1 := rfl
theorem a_X9_put_5 (C : Nat → Sp) : ta (tb_X9_put C) 5 = tr_ifne 8 9 := rfl
theorem a_X9_put_8 (C : Nat → Sp) : ta (tb_X9_put C) 8 = tr_ret := rfl
theorem a_X9_put_9 (C : Nat → Sp) : ta (tb_X9_put C) 9 = tr_aload 10 0 := rfl
theorem a_X9_put_10 (C : Nat → Sp) : ta (tb_X9_put C) 10 = tr_getI 13 10 901 := rfl
theorem a_X9_put_13 (C : Nat → Sp) : ta (tb_X9_put C) 13 = tr_ifne 16 29 := rfl
theorem a_X9_put_16 (C : Nat → Sp) : ta (tb_X9_put C) 16 = tr_aload 17 0 := rfl
theorem a_X9_put_17 (C : Nat → Sp) : ta (tb_X9_put C) 17 = tr_getR 20 10 900 := rfl
theorem a_X9_put_20 (C : Nat → Sp) : ta (tb_X9_put C) 20 = tr_iload 21 1 := rfl
theorem a_X9_put_21 (C : Nat → Sp) : ta (tb_X9_put C) 21 = tr_lload 22 2 := rfl
theorem a_X9_put_22 (C : Nat → Sp) : ta (tb_X9_put C) 22 = tr_l2i 23 := rfl
theorem a_X9_put_23 (C : Nat → Sp) : ta (tb_X9_put C) 23 = tr_i2b 24 := rfl
theorem a_X9_put_24 (C : Nat → Sp) : ta (tb_X9_put C) 24 = tr_i2l 25 := rfl
theorem a_X9_put_25 (C : Nat → Sp) : ta (tb_X9_put C) 25 = tr_last 26 := rfl
theorem a_X9_put_26 (C : Nat → Sp) : ta (tb_X9_put C) 26 = tr_goto 56 := rfl
theorem a_X9_put_29 (C : Nat → Sp) : ta (tb_X9_put C) 29 = tr_aload 30 0 := rfl
theorem a_X9_put_30 (C : Nat → Sp) : ta (tb_X9_put C) 30 = tr_getI 33 10 901 := rfl
theorem a_X9_put_33 (C : Nat → Sp) : ta (tb_X9_put C) 33 = tr_ic 34 1 := rfl
theorem a_X9_put_34 (C : Nat → Sp) : ta (tb_X9_put C) 34 = tr_icne 37 49 := rfl
theorem a_X9_put_37 (C : Nat → Sp) : ta (tb_X9_put C) 37 = tr_aload 38 0 := rfl
theorem a_X9_put_38 (C : Nat → Sp) : ta (tb_X9_put C) 38 = tr_getR 41 10 900 := rfl
theorem a_X9_put_41 (C : Nat → Sp) : ta (tb_X9_put C) 41 = tr_iload 42 1 := rfl
theorem a_X9_put_42 (C : Nat → Sp) : ta (tb_X9_put C) 42 = tr_lload 43 2 := rfl
theorem a_X9_put_43 (C : Nat → Sp) : ta (tb_X9_put C) 43 = tr_l2i 44 := rfl
theorem a_X9_put_44 (C : Nat → Sp) : ta (tb_X9_put C) 44 = tr_i2l 45 := rfl
theorem a_X9_put_45 (C : Nat → Sp) : ta (tb_X9_put C) 45 = tr_last 46 := rfl
theorem a_X9_put_46 (C : Nat → Sp) : ta (tb_X9_put C) 46 = tr_goto 56 := rfl
theorem a_X9_put_49 (C : Nat → Sp) : ta (tb_X9_put C) 49 = tr_aload 50 0 := rfl
theorem a_X9_put_50 (C : Nat → Sp) : ta (tb_X9_put C) 50 = tr_getR 53 10 900 := rfl
theorem a_X9_put_53 (C : Nat → Sp) : ta (tb_X9_put C) 53 = tr_iload 54 1 := rfl
theorem a_X9_put_54 (C : Nat → Sp) : ta (tb_X9_put C) 54 = tr_lload 55 2 := rfl
theorem a_X9_put_55 (C : Nat → Sp) : ta (tb_X9_put C) 55 = tr_last 56 := rfl
theorem a_X9_put_56 (C : Nat → Sp) : ta (tb_X9_put C) 56 = tr_ret := rfl

def tb_X9_faultAsInts_0 (C : Nat → Sp) : Tab := [(0, tr_aload 1 0), (1, tr_getI 4 10 901), (4, tr_ic 5 (-1)), (5, tr_icne 8 10), (8, tr_ic 9 1), (9, tr_iret), (10, tr_aload 11 0), (11, tr_getI 14 10 901), (14, tr_ic 15 1), (15, tr_iceq 18 20), (18, tr_ic 19 3), (19, tr_iret), (20, tr_aload 21 0), (21, tr_iload 22 1), (22, tr_callV (C 58) 25 10 1), (25, tr_ifeq 28 32), (28, tr_ic 29 0), (29, tr_goto 33), (32, tr_ic 33 2), (33, tr_iret)]
set_option maxRecDepth 20000 in
theorem tbk_X9_faultAsInts_0 {D : DD} {d : Nat} {C : Nat → Sp} (hC : Snd D d C) : ∀ e ∈ tb_X9_faultAsInts_0 C, TrOk D (d + 1) mi_X9_faultAsInts e.1 e.2 :=
  tk_c (show TrOk D (d + 1) mi_X9_faultAsInts 0 (tr_aload 1 0) from ok_aload_n (show decode mi_X9_faultAsInts.2.1 0 = .ok (.aload_n 0, 1) from by decide +kernel) rfl) <|
  tk_c (show TrOk D (d + 1) mi_X9_faultAsInts 1 (tr_getI 4 10 901) from ok_getI (ci := 9) (k := 1) (show decode mi_X9_faultAsInts.2.1 1 = .ok (.getfield 15, 3) from by decide +kernel) rfl (by decide) (gm 275 (by decide +kernel) rfl) rfl) <|
  tk_c (show TrOk D (d + 1) mi_X9_faultAsInts 4 (tr_ic 5 (-1)) from ok_iconst (show decode mi_X9_faultAsInts.2.1 4 = .ok (.iconst (-1), 1) from by decide +kernel) rfl) <|
  tk_c (show TrOk D (d + 1) mi_X9_faultAsInts 5 (tr_icne 8 10) from ok_icne (show decode mi_X9_faultAsInts.2.1 5 = .ok (.if_icmp .ne 5, 3) from by decide +kernel) (by decide)) <|
  tk_c (show TrOk D (d + 1) mi_X9_faultAsInts 8 (tr_ic 9 1) from ok_iconst (show decode mi_X9_faultAsInts.2.1 8 = .ok (.iconst 1, 1) from by decide +kernel) rfl) <|
  tk_c (show TrOk D (d + 1) mi_X9_faultAsInts 9 (tr_iret) from ok_iret (show decode mi_X9_faultAsInts.2.1 9 = .ok (.ireturn, 1) from by decide +kernel) rfl) <|
  tk_c (show TrOk D (d + 1) mi_X9_faultAsInts 10 (tr_aload 11 0) from ok_aload_n (show decode mi_X9_faultAsInts.2.1 10 = .ok (.aload_n 0, 1) from by decide +kernel) rfl) <|
  tk_c (show TrOk D (d + 1) mi_X9_faultAsInts 11 (tr_getI 14 10 901) from ok_getI (ci := 9) (k := 1) (show decode mi_X9_faultAsInts.2.1 11 = .ok (.getfield 15, 3) from by decide +kernel) rfl (by decide) (gm 275 (by decide +kernel) rfl) rfl) <|
  tk_c (show TrOk D (d + 1) mi_X9_faultAsInts 14 (tr_ic 15 1) from ok_iconst (show decode mi_X9_faultAsInts.2.1 14 = .ok (.iconst 1, 1) from by decide +kernel) rfl) <|
  tk_c (show TrOk D (d + 1) mi_X9_faultAsInts 15 (tr_iceq 18 20) from ok_iceq (show decode mi_X9_faultAsInts.2.1 15 = .ok (.if_icmp .eq 5, 3) from by decide +kernel) (by decide)) <|
  tk_c (show TrOk D (d + 1) mi_X9_faultAsInts 18 (tr_ic 19 3) from ok_iconst (show decode mi_X9_faultAsInts.2.1 18 = .ok (.iconst 3, 1) from by decide +kernel) rfl) <|
  tk_c (show TrOk D (d + 1) mi_X9_faultAsInts 19 (tr_iret) from ok_iret (show decode mi_X9_faultAsInts.2.1 19 = .ok (.ireturn, 1) from by decide +kernel) rfl) <|
  tk_c (show TrOk D (d + 1) mi_X9_faultAsInts 20 (tr_aload 21 0) from ok_aload_n (show decode mi_X9_faultAsInts.2.1 20 = .ok (.aload_n 0, 1) from by decide +kernel) rfl) <|
  tk_c (show TrOk D (d + 1) mi_X9_faultAsInts 21 (tr_iload 22 1) from ok_iload_n (show decode mi_X9_faultAsInts.2.1 21 = .ok (.iload_n 1, 1) from by decide +kernel) rfl) <|
  tk_c (show TrOk D (d + 1) mi_X9_faultAsInts 22 (tr_callV (C 58) 25 10 1) from ok_callV (ci := 9) (show decode mi_X9_faultAsInts.2.1 22 = .ok (.invokevirtual 22, 3) from by decide +kernel) mok_X9_hasCell rfl rfl (gm 547 (by decide +kernel) rfl) (gm 540 (by decide +kernel) rfl) (gm 541 (by decide +kernel) rfl) (hC 58)) <|
  tk_c (show TrOk D (d + 1) mi_X9_faultAsInts 25 (tr_ifeq 28 32) from ok_ifeq (show decode mi_X9_faultAsInts.2.1 25 = .ok (.ifCond .eq 7, 3) from by decide +kernel) (by decide)) <|
  tk_c (show TrOk D (d + 1) mi_X9_faultAsInts 28 (tr_ic 29 0) from ok_iconst (show decode mi_X9_faultAsInts.2.1 28 = .ok (.iconst 0, 1) from by decide +kernel) rfl) <|
  tk_c (show TrOk D (d + 1) mi_X9_faultAsInts 29 (tr_goto 33) from ok_goto (show decode mi_X9_faultAsInts.2.1 29 = .ok (.goto 4, 3) from by decide +kernel) (by decide)) <|
  tk_c (show TrOk D (d + 1) mi_X9_faultAsInts 32 (tr_ic 33 2) from ok_iconst (show decode mi_X9_faultAsInts.2.1 32 = .ok (.iconst 2, 1) from by decide +kernel) rfl) <|
  tk_c (show TrOk D (d + 1) mi_X9_faultAsInts 33 (tr_iret) from ok_iret (show decode mi_X9_faultAsInts.2.1 33 = .ok (.ireturn, 1) from by decide +kernel) rfl) <|
  tk_n
def tb_X9_faultAsInts (C : Nat → Sp) : Tab := tb_X9_faultAsInts_0 C
theorem tbk_X9_faultAsInts {D : DD} {d : Nat} {C : Nat → Sp} (hC : Snd D d C) : ∀ e ∈ tb_X9_faultAsInts C, TrOk D (d + 1) mi_X9_faultAsInts e.1 e.2 := tbk_X9_faultAsInts_0 hC
theorem a_X9_faultAsInts_0 (C : Nat → Sp) : ta (tb_X9_faultAsInts C) 0 = tr_aload 1 0 := rfl
theorem a_X9_faultAsInts_1 (C : Nat → Sp) : ta (tb_X9_faultAsInts C) 1 = tr_getI 4 10 901 := rfl
theorem a_X9_faultAsInts_4 (C : Nat → Sp) : ta (tb_X9_faultAsInts C) 4 = tr_ic 5 (-1) := rfl
theorem a_X9_faultAsInts_5 (C : Nat → Sp) : ta (tb_X9_faultAsInts C) 5 = tr_icne 8 10 := rfl
theorem a_X9_faultAsInts_8 (C : Nat → Sp) : ta (tb_X9_faultAsInts C) 8 = tr_ic 9 1 := rfl
theorem a_X9_faultAsInts_9 (C : Nat → Sp) : ta (tb_X9_faultAsInts C) 9 = tr_iret := rfl
theorem a_X9_faultAsInts_10 (C : Nat → Sp) : ta (tb_X9_faultAsInts C) 10 = tr_aload 11 0 := rfl
theorem a_X9_faultAsInts_11 (C : Nat → Sp) : ta (tb_X9_faultAsInts C) 11 = tr_getI 14 10 901 := rfl
theorem a_X9_faultAsInts_14 (C : Nat → Sp) : ta (tb_X9_faultAsInts C) 14 = tr_ic 15 1 := rfl
theorem a_X9_faultAsInts_15 (C : Nat → Sp) : ta (tb_X9_faultAsInts C) 15 = tr_iceq 18 20 := rfl
theorem a_X9_faultAsInts_18 (C : Nat → Sp) : ta (tb_X9_faultAsInts C) 18 = tr_ic 19 3 := rfl
theorem a_X9_faultAsInts_19 (C : Nat → Sp) : ta (tb_X9_faultAsInts C) 19 = tr_iret := rfl
theorem a_X9_faultAsInts_20 (C : Nat → Sp) : ta (tb_X9_faultAsInts C) 20 = tr_aload 21 0 := rfl
theorem a_X9_faultAsInts_21 (C : Nat → Sp) : ta (tb_X9_faultAsInts C) 21 = tr_iload 22 1 := rfl
theorem a_X9_faultAsInts_22 (C : Nat → Sp) : ta (tb_X9_faultAsInts C) 22 = tr_callV (C 58) 25 10 1 := rfl
theorem a_X9_faultAsInts_25 (C : Nat → Sp) : ta (tb_X9_faultAsInts C) 25 = tr_ifeq 28 32 := rfl
theorem a_X9_faultAsInts_28 (C : Nat → Sp) : ta (tb_X9_faultAsInts C) 28 = tr_ic 29 0 := rfl
theorem a_X9_faultAsInts_29 (C : Nat → Sp) : ta (tb_X9_faultAsInts C) 29 = tr_goto 33 := rfl
theorem a_X9_faultAsInts_32 (C : Nat → Sp) : ta (tb_X9_faultAsInts C) 32 = tr_ic 33 2 := rfl
theorem a_X9_faultAsInts_33 (C : Nat → Sp) : ta (tb_X9_faultAsInts C) 33 = tr_iret := rfl

def tb_X10_init_0 (C : Nat → Sp) : Tab := [(0, tr_aload 1 0), (1, tr_obj 4), (4, tr_aload 5 0), (5, tr_ic 7 40), (7, tr_anew 10 5061007 40 40), (10, tr_putR 13 11 1000), (13, tr_aload 14 0), (14, tr_ic 16 40), (16, tr_newa 18 2061016 40 40), (18, tr_putR 21 11 1001), (21, tr_ret)]
set_option maxRecDepth 20000 in
theorem tbk_X10_init_0 {D : DD} {d : Nat} {C : Nat → Sp} (hC : Snd D d C) : ∀ e ∈ tb_X10_init_0 C, TrOk D (d + 1) mi_X10_init e.1 e.2 :=
  tk_c (show TrOk D (d + 1) mi_X10_init 0 (tr_aload 1 0) from ok_aload_n (show decode mi_X10_init.2.1 0 = .ok (.aload_n 0, 1) from by decide +kernel) rfl) <|
  tk_c (show TrOk D (d + 1) mi_X10_init 1 (tr_obj 4) from ok_obj (show decode mi_X10_init.2.1 1 = .ok (.invokespecial 3, 3) from by decide +kernel) (gm 199 (by decide +kernel) rfl) (gm 50 (by decide +kernel) rfl) (gm 51 rfl rfl)) <|
  tk_c (show TrOk D (d + 1) mi_X10_init 4 (tr_aload 5 0) from ok_aload_n (show decode mi_X10_init.2.1 4 = .ok (.aload_n 0, 1) from by decide +kernel) rfl) <|
  tk_c (show TrOk D (d + 1) mi_X10_init 5 (tr_ic 7 40) from ok_bipush (show decode mi_X10_init.2.1 5 = .ok (.bipush 40, 2) from by decide +kernel) rfl) <|
  tk_c (show TrOk D (d + 1) mi_X10_init 7 (tr_anew 10 5061007 40 40) from ok_anew (t := 5) (show decode mi_X10_init.2.1 7 = .ok (.anewarray 9, 3) from by decide +kernel) (by decide) (by decide) (gm 200 (by decide +kernel) rfl) (by decide) (by decide) (by decide) (by decide)) <|
  tk_c (show TrOk D (d + 1) mi_X10_init 10 (tr_putR 13 11 1000) from ok_putR (ci := 10) (k := 0) (show decode mi_X10_init.2.1 10 = .ok (.putfield 11, 3) from by decide +kernel) rfl (by decide) (gm 201 (by decide +kernel) rfl) rfl (Or.inr ⟨rfl, rfl, rfl⟩)) <|
  tk_c (show TrOk D (d + 1) mi_X10_init 13 (tr_aload 14 0) from ok_aload_n (show decode mi_X10_init.2.1 13 = .ok (.aload_n 0, 1) from by decide +kernel) rfl) <|
  tk_c (show TrOk D (d + 1) mi_X10_init 14 (tr_ic 16 40) from ok_bipush (show decode mi_X10_init.2.1 14 = .ok (.bipush 40, 2) from by decide +kernel) rfl) <|
  tk_c (show TrOk D (d + 1) mi_X10_init 16 (tr_newa 18 2061016 40 40) from ok_newa (t := 2) (show decode mi_X10_init.2.1 16 = .ok (.newarray .long, 2) from by decide +kernel) rfl (by decide) (gm 127 (by decide +kernel) rfl) (by decide) (by decide) (by decide) (by decide)) <|
  tk_c (show TrOk D (d + 1) mi_X10_init 18 (tr_putR 21 11 1001) from ok_putR (ci := 10) (k := 1) (show decode mi_X10_init.2.1 18 = .ok (.putfield 17, 3) from by decide +kernel) rfl (by decide) (gm 202 (by decide +kernel) rfl) rfl (Or.inr ⟨rfl, rfl, rfl⟩)) <|
  tk_c (show TrOk D (d + 1) mi_X10_init 21 (tr_ret) from ok_ret (show decode mi_X10_init.2.1 21 = .ok (.return_, 1) from by decide +kernel) rfl) <|
  tk_n
def tb_X10_init (C : Nat → Sp) : Tab := tb_X10_init_0 C
theorem tbk_X10_init {D : DD} {d : Nat} {C : Nat → Sp} (hC : Snd D d C) : ∀ e ∈ tb_X10_init C, TrOk D (d + 1) mi_X10_init e.1 e.2 := tbk_X10_init_0 hC
theorem a_X10_init_0 (C : Nat → Sp) : ta (tb_X10_init C) 0 = tr_aload 1 0 := rfl
theorem a_X10_init_1 (C : Nat → Sp) : ta (tb_X10_init C) 1 = tr_obj 4 := rfl
theorem a_X10_init_4 (C : Nat → Sp) : ta (tb_X10_init C) 4 = tr_aload 5 0 := rfl
theorem a_X10_init_5 (C : Nat → Sp) : ta (tb_X10_init C) 5 = tr_ic 7 40 := rfl
theorem a_X10_init_7 (C : Nat → Sp) : ta (tb_X10_init C) 7 = tr_anew 10 5061007 40 40 := rfl
theorem a_X10_init_10 (C : Nat → Sp) : ta (tb_X10_init C) 10 = tr_putR 13 11 1000 := rfl
theorem a_X10_init_13 (C : Nat → Sp) : ta (tb_X10_init C) 13 = tr_aload 14 0 := rfl
theorem a_X10_init_14 (C : Nat → Sp) : ta (tb_X10_init C) 14 = tr_ic 16 40 := rfl
theorem a_X10_init_16 (C : Nat → Sp) : ta (tb_X10_init C) 16 = tr_newa 18 2061016 40 40 := rfl
theorem a_X10_init_18 (C : Nat → Sp) : ta (tb_X10_init C) 18 = tr_putR 21 11 1001 := rfl
theorem a_X10_init_21 (C : Nat → Sp) : ta (tb_X10_init C) 21 = tr_ret := rfl

def tb_X10_isFull_0 (C : Nat → Sp) : Tab := [(0, tr_aload 1 0), (1, tr_getI 4 11 1003), (4, tr_ic 6 40), (6, tr_iclt 9 13), (9, tr_ic 10 1), (10, tr_goto 14), (13, tr_ic 14 0), (14, tr_zret)]
set_option maxRecDepth 20000 in
theorem tbk_X10_isFull_0 {D : DD} {d : Nat} {C : Nat → Sp} (hC : Snd D d C) : ∀ e ∈ tb_X10_isFull_0 C, TrOk D (d + 1) mi_X10_isFull e.1 e.2 :=
  tk_c (show TrOk D (d + 1) mi_X10_isFull 0 (tr_aload 1 0) from ok_aload_n (show decode mi_X10_isFull.2.1 0 = .ok (.aload_n 0, 1) from by decide +kernel) rfl) <|
  tk_c (show TrOk D (d + 1) mi_X10_isFull 1 (tr_getI 4 11 1003) from ok_getI (ci := 10) (k := 3) (show decode mi_X10_isFull.2.1 1 = .ok (.getfield 21, 3) from by decide +kernel) rfl (by decide) (gm 204 (by decide +kernel) rfl) rfl) <|
  tk_c (show TrOk D (d + 1) mi_X10_isFull 4 (tr_ic 6 40) from ok_bipush (show decode mi_X10_isFull.2.1 4 = .ok (.bipush 40, 2) from by decide +kernel) rfl) <|
  tk_c (show TrOk D (d + 1) mi_X10_isFull 6 (tr_iclt 9 13) from ok_iclt (show decode mi_X10_isFull.2.1 6 = .ok (.if_icmp .lt 7, 3) from by decide +kernel) (by decide)) <|
  tk_c (show TrOk D (d + 1) mi_X10_isFull 9 (tr_ic 10 1) from ok_iconst (show decode mi_X10_isFull.2.1 9 = .ok (.iconst 1, 1) from by decide +kernel) rfl) <|
  tk_c (show TrOk D (d + 1) mi_X10_isFull 10 (tr_goto 14) from ok_goto (show decode mi_X10_isFull.2.1 10 = .ok (.goto 4, 3) from by decide +kernel) (by decide)) <|
  tk_c (show TrOk D (d + 1) mi_X10_isFull 13 (tr_ic 14 0) from ok_iconst (show decode mi_X10_isFull.2.1 13 = .ok (.iconst 0, 1) from by decide +kernel) rfl) <|
  tk_c (show TrOk D (d + 1) mi_X10_isFull 14 (tr_zret) from ok_zret (show decode mi_X10_isFull.2.1 14 = .ok (.ireturn, 1) from by decide +kernel) rfl) <|
  tk_n
def tb_X10_isFull (C : Nat → Sp) : Tab := tb_X10_isFull_0 C
theorem tbk_X10_isFull {D : DD} {d : Nat} {C : Nat → Sp} (hC : Snd D d C) : ∀ e ∈ tb_X10_isFull C, TrOk D (d + 1) mi_X10_isFull e.1 e.2 := tbk_X10_isFull_0 hC
theorem a_X10_isFull_0 (C : Nat → Sp) : ta (tb_X10_isFull C) 0 = tr_aload 1 0 := rfl
theorem a_X10_isFull_1 (C : Nat → Sp) : ta (tb_X10_isFull C) 1 = tr_getI 4 11 1003 := rfl
theorem a_X10_isFull_4 (C : Nat → Sp) : ta (tb_X10_isFull C) 4 = tr_ic 6 40 := rfl
theorem a_X10_isFull_6 (C : Nat → Sp) : ta (tb_X10_isFull C) 6 = tr_iclt 9 13 := rfl
theorem a_X10_isFull_9 (C : Nat → Sp) : ta (tb_X10_isFull C) 9 = tr_ic 10 1 := rfl
theorem a_X10_isFull_10 (C : Nat → Sp) : ta (tb_X10_isFull C) 10 = tr_goto 14 := rfl
theorem a_X10_isFull_13 (C : Nat → Sp) : ta (tb_X10_isFull C) 13 = tr_ic 14 0 := rfl
theorem a_X10_isFull_14 (C : Nat → Sp) : ta (tb_X10_isFull C) 14 = tr_zret := rfl

def tb_X10_add_0 (C : Nat → Sp) : Tab := [(0, tr_aload 1 0), (1, tr_callV (C 62) 4 11 0), (4, tr_ifeq 7 8), (7, tr_ret), (8, tr_aload 9 0), (9, tr_getI 12 11 1002), (12, tr_aload 13 0), (13, tr_getI 16 11 1003), (16, tr_iadd 17), (17, tr_ic 19 40), (19, tr_irem 20), (20, tr_istore 22 4), (22, tr_aload 23 0), (23, tr_getR 26 11 1000), (26, tr_iload 28 4), (28, tr_aload 29 1), (29, tr_aast 30 5), (30, tr_aload 31 0), (31, tr_getR 34 11 1001), (34, tr_iload 36 4), (36, tr_lload 37 2), (37, tr_last 38), (38, tr_aload 39 0), (39, tr_dup 40), (40, tr_getI 43 11 1003), (43, tr_ic 44 1), (44, tr_iadd 45), (45, tr_putI 48 11 1003), (48, tr_ret)]
set_option maxRecDepth 20000 in
theorem tbk_X10_add_0 {D : DD} {d : Nat} {C : Nat → Sp} (hC : Snd D d C) : ∀ e ∈ tb_X10_add_0 C, TrOk D (d + 1) mi_X10_add e.1 e.2 :=
  tk_c (show TrOk D (d + 1) mi_X10_add 0 (tr_aload 1 0) from ok_aload_n (show decode mi_X10_add.2.1 0 = .ok (.aload_n 0, 1) from by decide +kernel) rfl) <|
  tk_c (show TrOk D (d + 1) mi_X10_add 1 (tr_callV (C 62) 4 11 0) from ok_callV (ci := 10) (show decode mi_X10_add.2.1 1 = .ok (.invokevirtual 25, 3) from by decide +kernel) mok_X10_isFull rfl rfl (gm 666 (by decide +kernel) rfl) (gm 659 (by decide +kernel) rfl) (gm 660 (by decide +kernel) rfl) (hC 62)) <|
  tk_c (show TrOk D (d + 1) mi_X10_add 4 (tr_ifeq 7 8) from ok_ifeq (show decode mi_X10_add.2.1 4 = .ok (.ifCond .eq 4, 3) from by decide +kernel) (by decide)) <|
  tk_c (show TrOk D (d + 1) mi_X10_add 7 (tr_ret) from ok_ret (show decode mi_X10_add.2.1 7 = .ok (.return_, 1) from by decide +kernel) rfl) <|
  tk_c (show TrOk D (d + 1) mi_X10_add 8 (tr_aload 9 0) from ok_aload_n (show decode mi_X10_add.2.1 8 = .ok (.aload_n 0, 1) from by decide +kernel) rfl) <|
  tk_c (show TrOk D (d + 1) mi_X10_add 9 (tr_getI 12 11 1002) from ok_getI (ci := 10) (k := 2) (show decode mi_X10_add.2.1 9 = .ok (.getfield 29, 3) from by decide +kernel) rfl (by decide) (gm 203 (by decide +kernel) rfl) rfl) <|
  tk_c (show TrOk D (d + 1) mi_X10_add 12 (tr_aload 13 0) from ok_aload_n (show decode mi_X10_add.2.1 12 = .ok (.aload_n 0, 1) from by decide +kernel) rfl) <|
  tk_c (show TrOk D (d + 1) mi_X10_add 13 (tr_getI 16 11 1003) from ok_getI (ci := 10) (k := 3) (show decode mi_X10_add.2.1 13 = .ok (.getfield 21, 3) from by decide +kernel) rfl (by decide) (gm 204 (by decide +kernel) rfl) rfl) <|
  tk_c (show TrOk D (d + 1) mi_X10_add 16 (tr_iadd 17) from ok_iadd (show decode mi_X10_add.2.1 16 = .ok (.iadd, 1) from by decide +kernel)) <|
  tk_c (show TrOk D (d + 1) mi_X10_add 17 (tr_ic 19 40) from ok_bipush (show decode mi_X10_add.2.1 17 = .ok (.bipush 40, 2) from by decide +kernel) rfl) <|
  tk_c (show TrOk D (d + 1) mi_X10_add 19 (tr_irem 20) from ok_irem (show decode mi_X10_add.2.1 19 = .ok (.irem, 1) from by decide +kernel)) <|
  tk_c (show TrOk D (d + 1) mi_X10_add 20 (tr_istore 22 4) from ok_istore (show decode mi_X10_add.2.1 20 = .ok (.istore 4, 2) from by decide +kernel) (by decide)) <|
  tk_c (show TrOk D (d + 1) mi_X10_add 22 (tr_aload 23 0) from ok_aload_n (show decode mi_X10_add.2.1 22 = .ok (.aload_n 0, 1) from by decide +kernel) rfl) <|
  tk_c (show TrOk D (d + 1) mi_X10_add 23 (tr_getR 26 11 1000) from ok_getR (ci := 10) (k := 0) (show decode mi_X10_add.2.1 23 = .ok (.getfield 11, 3) from by decide +kernel) rfl (by decide) (gm 201 (by decide +kernel) rfl) rfl) <|
  tk_c (show TrOk D (d + 1) mi_X10_add 26 (tr_iload 28 4) from ok_iload (show decode mi_X10_add.2.1 26 = .ok (.iload 4, 2) from by decide +kernel)) <|
  tk_c (show TrOk D (d + 1) mi_X10_add 28 (tr_aload 29 1) from ok_aload_n (show decode mi_X10_add.2.1 28 = .ok (.aload_n 1, 1) from by decide +kernel) rfl) <|
  tk_c (show TrOk D (d + 1) mi_X10_add 29 (tr_aast 30 5) from ok_aast (by decide) (by decide) (show decode mi_X10_add.2.1 29 = .ok (.aastore, 1) from by decide +kernel)) <|
  tk_c (show TrOk D (d + 1) mi_X10_add 30 (tr_aload 31 0) from ok_aload_n (show decode mi_X10_add.2.1 30 = .ok (.aload_n 0, 1) from by decide +kernel) rfl) <|
  tk_c (show TrOk D (d + 1) mi_X10_add 31 (tr_getR 34 11 1001) from ok_getR (ci := 10) (k := 1) (show decode mi_X10_add.2.1 31 = .ok (.getfield 17, 3) from by decide +kernel) rfl (by decide) (gm 202 (by decide +kernel) rfl) rfl) <|
  tk_c (show TrOk D (d + 1) mi_X10_add 34 (tr_iload 36 4) from ok_iload (show decode mi_X10_add.2.1 34 = .ok (.iload 4, 2) from by decide +kernel)) <|
  tk_c (show TrOk D (d + 1) mi_X10_add 36 (tr_lload 37 2) from ok_lload_n (show decode mi_X10_add.2.1 36 = .ok (.lload_n 2, 1) from by decide +kernel) rfl) <|
  tk_c (show TrOk D (d + 1) mi_X10_add 37 (tr_last 38) from ok_last (show decode mi_X10_add.2.1 37 = .ok (.lastore, 1) from by decide +kernel)) <|
  tk_c (show TrOk D (d + 1) mi_X10_add 38 (tr_aload 39 0) from ok_aload_n (show decode mi_X10_add.2.1 38 = .ok (.aload_n 0, 1) from by decide +kernel) rfl) <|
  tk_c (show TrOk D (d + 1) mi_X10_add 39 (tr_dup 40) from ok_dup (show decode mi_X10_add.2.1 39 = .ok (.dup, 1) from by decide +kernel)) <|
  tk_c (show TrOk D (d + 1) mi_X10_add 40 (tr_getI 43 11 1003) from ok_getI (ci := 10) (k := 3) (show decode mi_X10_add.2.1 40 = .ok (.getfield 21, 3) from by decide +kernel) rfl (by decide) (gm 204 (by decide +kernel) rfl) rfl) <|
  tk_c (show TrOk D (d + 1) mi_X10_add 43 (tr_ic 44 1) from ok_iconst (show decode mi_X10_add.2.1 43 = .ok (.iconst 1, 1) from by decide +kernel) rfl) <|
  tk_c (show TrOk D (d + 1) mi_X10_add 44 (tr_iadd 45) from ok_iadd (show decode mi_X10_add.2.1 44 = .ok (.iadd, 1) from by decide +kernel)) <|
  tk_c (show TrOk D (d + 1) mi_X10_add 45 (tr_putI 48 11 1003) from ok_putI (ci := 10) (k := 3) (show decode mi_X10_add.2.1 45 = .ok (.putfield 21, 3) from by decide +kernel) rfl (by decide) (gm 204 (by decide +kernel) rfl) rfl (Or.inl rfl)) <|
  tk_c (show TrOk D (d + 1) mi_X10_add 48 (tr_ret) from ok_ret (show decode mi_X10_add.2.1 48 = .ok (.return_, 1) from by decide +kernel) rfl) <|
  tk_n
def tb_X10_add (C : Nat → Sp) : Tab := tb_X10_add_0 C
theorem tbk_X10_add {D : DD} {d : Nat} {C : Nat → Sp} (hC : Snd D d C) : ∀ e ∈ tb_X10_add C, TrOk D (d + 1) mi_X10_add e.1 e.2 := tbk_X10_add_0 hC
theorem a_X10_add_0 (C : Nat → Sp) : ta (tb_X10_add C) 0 = tr_aload 1 0 := rfl
theorem a_X10_add_1 (C : Nat → Sp) : ta (tb_X10_add C) 1 = tr_callV (C 62) 4 11 0 := rfl
theorem a_X10_add_4 (C : Nat → Sp) : ta (tb_X10_add C) 4 = tr_ifeq 7 8 := rfl
theorem a_X10_add_7 (C : Nat → Sp) : ta (tb_X10_add C) 7 = tr_ret := rfl
theorem a_X10_add_8 (C : Nat → Sp) : ta (tb_X10_add C) 8 = tr_aload 9 0 := rfl
theorem a_X10_add_9 (C : Nat → Sp) : ta (tb_X10_add C) 9 = tr_getI 12 11 1002 := rfl
theorem a_X10_add_12 (C : Nat → Sp) : ta (tb_X10_add C) 12 = tr_aload 13 0 := rfl
theorem a_X10_add_13 (C : Nat → Sp) : ta (tb_X10_add C) 13 = tr_getI 16 11 1003 := rfl
theorem a_X10_add_16 (C : Nat → Sp) : ta (tb_X10_add C) 16 = tr_iadd 17 := rfl
theorem a_X10_add_17 (C : Nat → Sp) : ta (tb_X10_add C) 17 = tr_ic 19 40 := rfl
theorem a_X10_add_19 (C : Nat → Sp) : ta (tb_X10_add C) 19 = tr_irem 20 := rfl
theorem a_X10_add_20 (C : Nat → Sp) : ta (tb_X10_add C) 20 = tr_istore 22 4 := rfl
theorem a_X10_add_22 (C : Nat → Sp) : ta (tb_X10_add C) 22 = tr_aload 23 0 := rfl
theorem a_X10_add_23 (C : Nat → Sp) : ta (tb_X10_add C) 23 = tr_getR 26 11 1000 := rfl
theorem a_X10_add_26 (C : Nat → Sp) : ta (tb_X10_add C) 26 = tr_iload 28 4 := rfl
theorem a_X10_add_28 (C : Nat → Sp) : ta (tb_X10_add C) 28 = tr_aload 29 1 := rfl
theorem a_X10_add_29 (C : Nat → Sp) : ta (tb_X10_add C) 29 = tr_aast 30 5 := rfl
theorem a_X10_add_30 (C : Nat → Sp) : ta (tb_X10_add C) 30 = tr_aload 31 0 := rfl
theorem a_X10_add_31 (C : Nat → Sp) : ta (tb_X10_add C) 31 = tr_getR 34 11 1001 := rfl
theorem a_X10_add_34 (C : Nat → Sp) : ta (tb_X10_add C) 34 = tr_iload 36 4 := rfl
theorem a_X10_add_36 (C : Nat → Sp) : ta (tb_X10_add C) 36 = tr_lload 37 2 := rfl
theorem a_X10_add_37 (C : Nat → Sp) : ta (tb_X10_add C) 37 = tr_last 38 := rfl
theorem a_X10_add_38 (C : Nat → Sp) : ta (tb_X10_add C) 38 = tr_aload 39 0 := rfl
theorem a_X10_add_39 (C : Nat → Sp) : ta (tb_X10_add C) 39 = tr_dup 40 := rfl
theorem a_X10_add_40 (C : Nat → Sp) : ta (tb_X10_add C) 40 = tr_getI 43 11 1003 := rfl
theorem a_X10_add_43 (C : Nat → Sp) : ta (tb_X10_add C) 43 = tr_ic 44 1 := rfl
theorem a_X10_add_44 (C : Nat → Sp) : ta (tb_X10_add C) 44 = tr_iadd 45 := rfl
theorem a_X10_add_45 (C : Nat → Sp) : ta (tb_X10_add C) 45 = tr_putI 48 11 1003 := rfl
theorem a_X10_add_48 (C : Nat → Sp) : ta (tb_X10_add C) 48 = tr_ret := rfl

def tb_X10_firstKind_0 (C : Nat → Sp) : Tab := [(0, tr_aload 1 0), (1, tr_getR 4 11 1000), (4, tr_aload 5 0), (5, tr_getI 8 11 1002), (8, tr_aald 9 5), (9, tr_aret)]
set_option maxRecDepth 20000 in
theorem tbk_X10_firstKind_0 {D : DD} {d : Nat} {C : Nat → Sp} (hC : Snd D d C) : ∀ e ∈ tb_X10_firstKind_0 C, TrOk D (d + 1) mi_X10_firstKind e.1 e.2 :=
  tk_c (show TrOk D (d + 1) mi_X10_firstKind 0 (tr_aload 1 0) from ok_aload_n (show decode mi_X10_firstKind.2.1 0 = .ok (.aload_n 0, 1) from by decide +kernel) rfl) <|
  tk_c (show TrOk D (d + 1) mi_X10_firstKind 1 (tr_getR 4 11 1000) from ok_getR (ci := 10) (k := 0) (show decode mi_X10_firstKind.2.1 1 = .ok (.getfield 11, 3) from by decide +kernel) rfl (by decide) (gm 201 (by decide +kernel) rfl) rfl) <|
  tk_c (show TrOk D (d + 1) mi_X10_firstKind 4 (tr_aload 5 0) from ok_aload_n (show decode mi_X10_firstKind.2.1 4 = .ok (.aload_n 0, 1) from by decide +kernel) rfl) <|
  tk_c (show TrOk D (d + 1) mi_X10_firstKind 5 (tr_getI 8 11 1002) from ok_getI (ci := 10) (k := 2) (show decode mi_X10_firstKind.2.1 5 = .ok (.getfield 29, 3) from by decide +kernel) rfl (by decide) (gm 203 (by decide +kernel) rfl) rfl) <|
  tk_c (show TrOk D (d + 1) mi_X10_firstKind 8 (tr_aald 9 5) from ok_aald (by decide) (by decide) (show decode mi_X10_firstKind.2.1 8 = .ok (.aaload, 1) from by decide +kernel)) <|
  tk_c (show TrOk D (d + 1) mi_X10_firstKind 9 (tr_aret) from ok_aret (show decode mi_X10_firstKind.2.1 9 = .ok (.areturn, 1) from by decide +kernel) rfl) <|
  tk_n
def tb_X10_firstKind (C : Nat → Sp) : Tab := tb_X10_firstKind_0 C
theorem tbk_X10_firstKind {D : DD} {d : Nat} {C : Nat → Sp} (hC : Snd D d C) : ∀ e ∈ tb_X10_firstKind C, TrOk D (d + 1) mi_X10_firstKind e.1 e.2 := tbk_X10_firstKind_0 hC
theorem a_X10_firstKind_0 (C : Nat → Sp) : ta (tb_X10_firstKind C) 0 = tr_aload 1 0 := rfl
theorem a_X10_firstKind_1 (C : Nat → Sp) : ta (tb_X10_firstKind C) 1 = tr_getR 4 11 1000 := rfl
theorem a_X10_firstKind_4 (C : Nat → Sp) : ta (tb_X10_firstKind C) 4 = tr_aload 5 0 := rfl
theorem a_X10_firstKind_5 (C : Nat → Sp) : ta (tb_X10_firstKind C) 5 = tr_getI 8 11 1002 := rfl
theorem a_X10_firstKind_8 (C : Nat → Sp) : ta (tb_X10_firstKind C) 8 = tr_aald 9 5 := rfl
theorem a_X10_firstKind_9 (C : Nat → Sp) : ta (tb_X10_firstKind C) 9 = tr_aret := rfl

def tb_X10_firstValue_0 (C : Nat → Sp) : Tab := [(0, tr_aload 1 0), (1, tr_getR 4 11 1001), (4, tr_aload 5 0), (5, tr_getI 8 11 1002), (8, tr_lald 9), (9, tr_lret)]
set_option maxRecDepth 20000 in
theorem tbk_X10_firstValue_0 {D : DD} {d : Nat} {C : Nat → Sp} (hC : Snd D d C) : ∀ e ∈ tb_X10_firstValue_0 C, TrOk D (d + 1) mi_X10_firstValue e.1 e.2 :=
  tk_c (show TrOk D (d + 1) mi_X10_firstValue 0 (tr_aload 1 0) from ok_aload_n (show decode mi_X10_firstValue.2.1 0 = .ok (.aload_n 0, 1) from by decide +kernel) rfl) <|
  tk_c (show TrOk D (d + 1) mi_X10_firstValue 1 (tr_getR 4 11 1001) from ok_getR (ci := 10) (k := 1) (show decode mi_X10_firstValue.2.1 1 = .ok (.getfield 17, 3) from by decide +kernel) rfl (by decide) (gm 202 (by decide +kernel) rfl) rfl) <|
  tk_c (show TrOk D (d + 1) mi_X10_firstValue 4 (tr_aload 5 0) from ok_aload_n (show decode mi_X10_firstValue.2.1 4 = .ok (.aload_n 0, 1) from by decide +kernel) rfl) <|
  tk_c (show TrOk D (d + 1) mi_X10_firstValue 5 (tr_getI 8 11 1002) from ok_getI (ci := 10) (k := 2) (show decode mi_X10_firstValue.2.1 5 = .ok (.getfield 29, 3) from by decide +kernel) rfl (by decide) (gm 203 (by decide +kernel) rfl) rfl) <|
  tk_c (show TrOk D (d + 1) mi_X10_firstValue 8 (tr_lald 9) from ok_lald (show decode mi_X10_firstValue.2.1 8 = .ok (.laload, 1) from by decide +kernel)) <|
  tk_c (show TrOk D (d + 1) mi_X10_firstValue 9 (tr_lret) from ok_lret (show decode mi_X10_firstValue.2.1 9 = .ok (.lreturn, 1) from by decide +kernel) rfl) <|
  tk_n
def tb_X10_firstValue (C : Nat → Sp) : Tab := tb_X10_firstValue_0 C
theorem tbk_X10_firstValue {D : DD} {d : Nat} {C : Nat → Sp} (hC : Snd D d C) : ∀ e ∈ tb_X10_firstValue C, TrOk D (d + 1) mi_X10_firstValue e.1 e.2 := tbk_X10_firstValue_0 hC
theorem a_X10_firstValue_0 (C : Nat → Sp) : ta (tb_X10_firstValue C) 0 = tr_aload 1 0 := rfl
theorem a_X10_firstValue_1 (C : Nat → Sp) : ta (tb_X10_firstValue C) 1 = tr_getR 4 11 1001 := rfl
theorem a_X10_firstValue_4 (C : Nat → Sp) : ta (tb_X10_firstValue C) 4 = tr_aload 5 0 := rfl
theorem a_X10_firstValue_5 (C : Nat → Sp) : ta (tb_X10_firstValue C) 5 = tr_getI 8 11 1002 := rfl
theorem a_X10_firstValue_8 (C : Nat → Sp) : ta (tb_X10_firstValue C) 8 = tr_lald 9 := rfl
theorem a_X10_firstValue_9 (C : Nat → Sp) : ta (tb_X10_firstValue C) 9 = tr_lret := rfl

def tb_X10_dropFirst_0 (C : Nat → Sp) : Tab := [(0, tr_aload 1 0), (1, tr_getI 4 11 1003), (4, tr_ifne 7 8), (7, tr_ret), (8, tr_aload 9 0), (9, tr_aload 10 0), (10, tr_getI 13 11 1002), (13, tr_ic 14 1), (14, tr_iadd 15), (15, tr_ic 17 40), (17, tr_irem 18), (18, tr_putI 21 11 1002), (21, tr_aload 22 0), (22, tr_dup 23), (23, tr_getI 26 11 1003), (26, tr_ic 27 1), (27, tr_isub 28), (28, tr_putI 31 11 1003), (31, tr_ret)]
set_option maxRecDepth 20000 in
theorem tbk_X10_dropFirst_0 {D : DD} {d : Nat} {C : Nat → Sp} (hC : Snd D d C) : ∀ e ∈ tb_X10_dropFirst_0 C, TrOk D (d + 1) mi_X10_dropFirst e.1 e.2 :=
  tk_c (show TrOk D (d + 1) mi_X10_dropFirst 0 (tr_aload 1 0) from ok_aload_n (show decode mi_X10_dropFirst.2.1 0 = .ok (.aload_n 0, 1) from by decide +kernel) rfl) <|
  tk_c (show TrOk D (d + 1) mi_X10_dropFirst 1 (tr_getI 4 11 1003) from ok_getI (ci := 10) (k := 3) (show decode mi_X10_dropFirst.2.1 1 = .ok (.getfield 21, 3) from by decide +kernel) rfl (by decide) (gm 204 (by decide +kernel) rfl) rfl) <|
  tk_c (show TrOk D (d + 1) mi_X10_dropFirst 4 (tr_ifne 7 8) from ok_ifne (show decode mi_X10_dropFirst.2.1 4 = .ok (.ifCond .ne 4, 3) from by decide +kernel) (by decide)) <|
  tk_c (show TrOk D (d + 1) mi_X10_dropFirst 7 (tr_ret) from ok_ret (show decode mi_X10_dropFirst.2.1 7 = .ok (.return_, 1) from by decide +kernel) rfl) <|
  tk_c (show TrOk D (d + 1) mi_X10_dropFirst 8 (tr_aload 9 0) from ok_aload_n (show decode mi_X10_dropFirst.2.1 8 = .ok (.aload_n 0, 1) from by decide +kernel) rfl) <|
  tk_c (show TrOk D (d + 1) mi_X10_dropFirst 9 (tr_aload 10 0) from ok_aload_n (show decode mi_X10_dropFirst.2.1 9 = .ok (.aload_n 0, 1) from by decide +kernel) rfl) <|
  tk_c (show TrOk D (d + 1) mi_X10_dropFirst 10 (tr_getI 13 11 1002) from ok_getI (ci := 10) (k := 2) (show decode mi_X10_dropFirst.2.1 10 = .ok (.getfield 29, 3) from by decide +kernel) rfl (by decide) (gm 203 (by decide +kernel) rfl) rfl) <|
  tk_c (show TrOk D (d + 1) mi_X10_dropFirst 13 (tr_ic 14 1) from ok_iconst (show decode mi_X10_dropFirst.2.1 13 = .ok (.iconst 1, 1) from by decide +kernel) rfl) <|
  tk_c (show TrOk D (d + 1) mi_X10_dropFirst 14 (tr_iadd 15) from ok_iadd (show decode mi_X10_dropFirst.2.1 14 = .ok (.iadd, 1) from by decide +kernel)) <|
  tk_c (show TrOk D (d + 1) mi_X10_dropFirst 15 (tr_ic 17 40) from ok_bipush (show decode mi_X10_dropFirst.2.1 15 = .ok (.bipush 40, 2) from by decide +kernel) rfl) <|
  tk_c (show TrOk D (d + 1) mi_X10_dropFirst 17 (tr_irem 18) from ok_irem (show decode mi_X10_dropFirst.2.1 17 = .ok (.irem, 1) from by decide +kernel)) <|
  tk_c (show TrOk D (d + 1) mi_X10_dropFirst 18 (tr_putI 21 11 1002) from ok_putI (ci := 10) (k := 2) (show decode mi_X10_dropFirst.2.1 18 = .ok (.putfield 29, 3) from by decide +kernel) rfl (by decide) (gm 203 (by decide +kernel) rfl) rfl (Or.inl rfl)) <|
  tk_c (show TrOk D (d + 1) mi_X10_dropFirst 21 (tr_aload 22 0) from ok_aload_n (show decode mi_X10_dropFirst.2.1 21 = .ok (.aload_n 0, 1) from by decide +kernel) rfl) <|
  tk_c (show TrOk D (d + 1) mi_X10_dropFirst 22 (tr_dup 23) from ok_dup (show decode mi_X10_dropFirst.2.1 22 = .ok (.dup, 1) from by decide +kernel)) <|
  tk_c (show TrOk D (d + 1) mi_X10_dropFirst 23 (tr_getI 26 11 1003) from ok_getI (ci := 10) (k := 3) (show decode mi_X10_dropFirst.2.1 23 = .ok (.getfield 21, 3) from by decide +kernel) rfl (by decide) (gm 204 (by decide +kernel) rfl) rfl) <|
  tk_c (show TrOk D (d + 1) mi_X10_dropFirst 26 (tr_ic 27 1) from ok_iconst (show decode mi_X10_dropFirst.2.1 26 = .ok (.iconst 1, 1) from by decide +kernel) rfl) <|
  tk_c (show TrOk D (d + 1) mi_X10_dropFirst 27 (tr_isub 28) from ok_isub (show decode mi_X10_dropFirst.2.1 27 = .ok (.isub, 1) from by decide +kernel)) <|
  tk_c (show TrOk D (d + 1) mi_X10_dropFirst 28 (tr_putI 31 11 1003) from ok_putI (ci := 10) (k := 3) (show decode mi_X10_dropFirst.2.1 28 = .ok (.putfield 21, 3) from by decide +kernel) rfl (by decide) (gm 204 (by decide +kernel) rfl) rfl (Or.inl rfl)) <|
  tk_c (show TrOk D (d + 1) mi_X10_dropFirst 31 (tr_ret) from ok_ret (show decode mi_X10_dropFirst.2.1 31 = .ok (.return_, 1) from by decide +kernel) rfl) <|
  tk_n
def tb_X10_dropFirst (C : Nat → Sp) : Tab := tb_X10_dropFirst_0 C
theorem tbk_X10_dropFirst {D : DD} {d : Nat} {C : Nat → Sp} (hC : Snd D d C) : ∀ e ∈ tb_X10_dropFirst C, TrOk D (d + 1) mi_X10_dropFirst e.1 e.2 := tbk_X10_dropFirst_0 hC
theorem a_X10_dropFirst_0 (C : Nat → Sp) : ta (tb_X10_dropFirst C) 0 = tr_aload 1 0 := rfl
theorem a_X10_dropFirst_1 (C : Nat → Sp) : ta (tb_X10_dropFirst C) 1 = tr_getI 4 11 1003 := rfl
theorem a_X10_dropFirst_4 (C : Nat → Sp) : ta (tb_X10_dropFirst C) 4 = tr_ifne 7 8 := rfl
theorem a_X10_dropFirst_7 (C : Nat → Sp) : ta (tb_X10_dropFirst C) 7 = tr_ret := rfl
theorem a_X10_dropFirst_8 (C : Nat → Sp) : ta (tb_X10_dropFirst C) 8 = tr_aload 9 0 := rfl
theorem a_X10_dropFirst_9 (C : Nat → Sp) : ta (tb_X10_dropFirst C) 9 = tr_aload 10 0 := rfl
theorem a_X10_dropFirst_10 (C : Nat → Sp) : ta (tb_X10_dropFirst C) 10 = tr_getI 13 11 1002 := rfl
theorem a_X10_dropFirst_13 (C : Nat → Sp) : ta (tb_X10_dropFirst C) 13 = tr_ic 14 1 := rfl
theorem a_X10_dropFirst_14 (C : Nat → Sp) : ta (tb_X10_dropFirst C) 14 = tr_iadd 15 := rfl
theorem a_X10_dropFirst_15 (C : Nat → Sp) : ta (tb_X10_dropFirst C) 15 = tr_ic 17 40 := rfl
theorem a_X10_dropFirst_17 (C : Nat → Sp) : ta (tb_X10_dropFirst C) 17 = tr_irem 18 := rfl
theorem a_X10_dropFirst_18 (C : Nat → Sp) : ta (tb_X10_dropFirst C) 18 = tr_putI 21 11 1002 := rfl
theorem a_X10_dropFirst_21 (C : Nat → Sp) : ta (tb_X10_dropFirst C) 21 = tr_aload 22 0 := rfl
theorem a_X10_dropFirst_22 (C : Nat → Sp) : ta (tb_X10_dropFirst C) 22 = tr_dup 23 := rfl
theorem a_X10_dropFirst_23 (C : Nat → Sp) : ta (tb_X10_dropFirst C) 23 = tr_getI 26 11 1003 := rfl
theorem a_X10_dropFirst_26 (C : Nat → Sp) : ta (tb_X10_dropFirst C) 26 = tr_ic 27 1 := rfl
theorem a_X10_dropFirst_27 (C : Nat → Sp) : ta (tb_X10_dropFirst C) 27 = tr_isub 28 := rfl
theorem a_X10_dropFirst_28 (C : Nat → Sp) : ta (tb_X10_dropFirst C) 28 = tr_putI 31 11 1003 := rfl
theorem a_X10_dropFirst_31 (C : Nat → Sp) : ta (tb_X10_dropFirst C) 31 = tr_ret := rfl

def tb_X10_forget_0 (C : Nat → Sp) : Tab := [(0, tr_aload 1 0), (1, tr_ic 2 0), (2, tr_putI 5 11 1003), (5, tr_ret)]
set_option maxRecDepth 20000 in
theorem tbk_X10_forget_0 {D : DD} {d : Nat} {C : Nat → Sp} (hC : Snd D d C) : ∀ e ∈ tb_X10_forget_0 C, TrOk D (d + 1) mi_X10_forget e.1 e.2 :=
  tk_c (show TrOk D (d + 1) mi_X10_forget 0 (tr_aload 1 0) from ok_aload_n (show decode mi_X10_forget.2.1 0 = .ok (.aload_n 0, 1) from by decide +kernel) rfl) <|
  tk_c (show TrOk D (d + 1) mi_X10_forget 1 (tr_ic 2 0) from ok_iconst (show decode mi_X10_forget.2.1 1 = .ok (.iconst 0, 1) from by decide +kernel) rfl) <|
  tk_c (show TrOk D (d + 1) mi_X10_forget 2 (tr_putI 5 11 1003) from ok_putI (ci := 10) (k := 3) (show decode mi_X10_forget.2.1 2 = .ok (.putfield 21, 3) from by decide +kernel) rfl (by decide) (gm 204 (by decide +kernel) rfl) rfl (Or.inl rfl)) <|
  tk_c (show TrOk D (d + 1) mi_X10_forget 5 (tr_ret) from ok_ret (show decode mi_X10_forget.2.1 5 = .ok (.return_, 1) from by decide +kernel) rfl) <|
  tk_n
def tb_X10_forget (C : Nat → Sp) : Tab := tb_X10_forget_0 C
theorem tbk_X10_forget {D : DD} {d : Nat} {C : Nat → Sp} (hC : Snd D d C) : ∀ e ∈ tb_X10_forget C, TrOk D (d + 1) mi_X10_forget e.1 e.2 := tbk_X10_forget_0 hC
theorem a_X10_forget_0 (C : Nat → Sp) : ta (tb_X10_forget C) 0 = tr_aload 1 0 := rfl
theorem a_X10_forget_1 (C : Nat → Sp) : ta (tb_X10_forget C) 1 = tr_ic 2 0 := rfl
theorem a_X10_forget_2 (C : Nat → Sp) : ta (tb_X10_forget C) 2 = tr_putI 5 11 1003 := rfl
theorem a_X10_forget_5 (C : Nat → Sp) : ta (tb_X10_forget C) 5 = tr_ret := rfl

def tb_Math_max_0 (C : Nat → Sp) : Tab := [(0, tr_iload 1 0), (1, tr_iload 2 1), (2, tr_iclt 5 9), (5, tr_iload 6 0), (6, tr_goto 10), (9, tr_iload 10 1), (10, tr_iret)]
set_option maxRecDepth 20000 in
theorem tbk_Math_max_0 {D : DD} {d : Nat} {C : Nat → Sp} (hC : Snd D d C) : ∀ e ∈ tb_Math_max_0 C, TrOk D (d + 1) mi_Math_max e.1 e.2 :=
  tk_c (show TrOk D (d + 1) mi_Math_max 0 (tr_iload 1 0) from ok_iload_n (show decode mi_Math_max.2.1 0 = .ok (.iload_n 0, 1) from by decide +kernel) rfl) <|
  tk_c (show TrOk D (d + 1) mi_Math_max 1 (tr_iload 2 1) from ok_iload_n (show decode mi_Math_max.2.1 1 = .ok (.iload_n 1, 1) from by decide +kernel) rfl) <|
  tk_c (show TrOk D (d + 1) mi_Math_max 2 (tr_iclt 5 9) from ok_iclt (show decode mi_Math_max.2.1 2 = .ok (.if_icmp .lt 7, 3) from by decide +kernel) (by decide)) <|
  tk_c (show TrOk D (d + 1) mi_Math_max 5 (tr_iload 6 0) from ok_iload_n (show decode mi_Math_max.2.1 5 = .ok (.iload_n 0, 1) from by decide +kernel) rfl) <|
  tk_c (show TrOk D (d + 1) mi_Math_max 6 (tr_goto 10) from ok_goto (show decode mi_Math_max.2.1 6 = .ok (.goto 4, 3) from by decide +kernel) (by decide)) <|
  tk_c (show TrOk D (d + 1) mi_Math_max 9 (tr_iload 10 1) from ok_iload_n (show decode mi_Math_max.2.1 9 = .ok (.iload_n 1, 1) from by decide +kernel) rfl) <|
  tk_c (show TrOk D (d + 1) mi_Math_max 10 (tr_iret) from ok_iret (show decode mi_Math_max.2.1 10 = .ok (.ireturn, 1) from by decide +kernel) rfl) <|
  tk_n
def tb_Math_max (C : Nat → Sp) : Tab := tb_Math_max_0 C
theorem tbk_Math_max {D : DD} {d : Nat} {C : Nat → Sp} (hC : Snd D d C) : ∀ e ∈ tb_Math_max C, TrOk D (d + 1) mi_Math_max e.1 e.2 := tbk_Math_max_0 hC
theorem a_Math_max_0 (C : Nat → Sp) : ta (tb_Math_max C) 0 = tr_iload 1 0 := rfl
theorem a_Math_max_1 (C : Nat → Sp) : ta (tb_Math_max C) 1 = tr_iload 2 1 := rfl
theorem a_Math_max_2 (C : Nat → Sp) : ta (tb_Math_max C) 2 = tr_iclt 5 9 := rfl
theorem a_Math_max_5 (C : Nat → Sp) : ta (tb_Math_max C) 5 = tr_iload 6 0 := rfl
theorem a_Math_max_6 (C : Nat → Sp) : ta (tb_Math_max C) 6 = tr_goto 10 := rfl
theorem a_Math_max_9 (C : Nat → Sp) : ta (tb_Math_max C) 9 = tr_iload 10 1 := rfl
theorem a_Math_max_10 (C : Nat → Sp) : ta (tb_Math_max C) 10 = tr_iret := rfl

def tb_Math_min_0 (C : Nat → Sp) : Tab := [(0, tr_iload 1 0), (1, tr_iload 2 1), (2, tr_icgt 5 9), (5, tr_iload 6 0), (6, tr_goto 10), (9, tr_iload 10 1), (10, tr_iret)]
set_option maxRecDepth 20000 in
theorem tbk_Math_min_0 {D : DD} {d : Nat} {C : Nat → Sp} (hC : Snd D d C) : ∀ e ∈ tb_Math_min_0 C, TrOk D (d + 1) mi_Math_min e.1 e.2 :=
  tk_c (show TrOk D (d + 1) mi_Math_min 0 (tr_iload 1 0) from ok_iload_n (show decode mi_Math_min.2.1 0 = .ok (.iload_n 0, 1) from by decide +kernel) rfl) <|
  tk_c (show TrOk D (d + 1) mi_Math_min 1 (tr_iload 2 1) from ok_iload_n (show decode mi_Math_min.2.1 1 = .ok (.iload_n 1, 1) from by decide +kernel) rfl) <|
  tk_c (show TrOk D (d + 1) mi_Math_min 2 (tr_icgt 5 9) from ok_icgt (show decode mi_Math_min.2.1 2 = .ok (.if_icmp .gt 7, 3) from by decide +kernel) (by decide)) <|
  tk_c (show TrOk D (d + 1) mi_Math_min 5 (tr_iload 6 0) from ok_iload_n (show decode mi_Math_min.2.1 5 = .ok (.iload_n 0, 1) from by decide +kernel) rfl) <|
  tk_c (show TrOk D (d + 1) mi_Math_min 6 (tr_goto 10) from ok_goto (show decode mi_Math_min.2.1 6 = .ok (.goto 4, 3) from by decide +kernel) (by decide)) <|
  tk_c (show TrOk D (d + 1) mi_Math_min 9 (tr_iload 10 1) from ok_iload_n (show decode mi_Math_min.2.1 9 = .ok (.iload_n 1, 1) from by decide +kernel) rfl) <|
  tk_c (show TrOk D (d + 1) mi_Math_min 10 (tr_iret) from ok_iret (show decode mi_Math_min.2.1 10 = .ok (.ireturn, 1) from by decide +kernel) rfl) <|
  tk_n
def tb_Math_min (C : Nat → Sp) : Tab := tb_Math_min_0 C
theorem tbk_Math_min {D : DD} {d : Nat} {C : Nat → Sp} (hC : Snd D d C) : ∀ e ∈ tb_Math_min C, TrOk D (d + 1) mi_Math_min e.1 e.2 := tbk_Math_min_0 hC
theorem a_Math_min_0 (C : Nat → Sp) : ta (tb_Math_min C) 0 = tr_iload 1 0 := rfl
theorem a_Math_min_1 (C : Nat → Sp) : ta (tb_Math_min C) 1 = tr_iload 2 1 := rfl
theorem a_Math_min_2 (C : Nat → Sp) : ta (tb_Math_min C) 2 = tr_icgt 5 9 := rfl
theorem a_Math_min_5 (C : Nat → Sp) : ta (tb_Math_min C) 5 = tr_iload 6 0 := rfl
theorem a_Math_min_6 (C : Nat → Sp) : ta (tb_Math_min C) 6 = tr_goto 10 := rfl
theorem a_Math_min_9 (C : Nat → Sp) : ta (tb_Math_min C) 9 = tr_iload 10 1 := rfl
theorem a_Math_min_10 (C : Nat → Sp) : ta (tb_Math_min C) 10 = tr_iret := rfl
