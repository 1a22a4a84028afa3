def tb_X11_init_0 (C : Nat → Sp) : Tab := [(0, tr_aload 1 0), (1, tr_obj 4), (4, tr_aload 5 0), (5, tr_new 8 5 2), (8, tr_dup 9), (9, tr_callI (C 23) 12 0), (12, tr_putR 15 12 1100), (15, tr_aload 16 0), (16, tr_new 19 3 7), (19, tr_dup 20), (20, tr_callI (C 6) 23 0), (23, tr_putR 26 12 1101), (26, tr_aload 27 0), (27, tr_ic 29 8), (29, tr_anew 32 7068029 8 8), (32, tr_putR 35 12 1102), (35, tr_aload 36 0), (36, tr_new 39 1 4), (39, tr_dup 40), (40, tr_callI (C 0) 43 0), (43, tr_putR 46 12 1103), (46, tr_aload 47 0), (47, tr_new 50 8 12), (50, tr_dup 51), (51, tr_callI (C 34) 54 0), (54, tr_putR 57 12 1104), (57, tr_aload 58 0), (58, tr_new 61 9 7), (61, tr_dup 62), (62, tr_aload 63 0), (63, tr_getR 66 12 1100), (66, tr_aload 67 0), (67, tr_getR 70 12 1101), (70, tr_aload 71 0), (71, tr_getR 74 12 1102), (74, tr_aload 75 0), (75, tr_getR 78 12 1103), (78, tr_aload 79 0), (79, tr_getR 82 12 1104), (82, tr_callI (C 40) 85 5)]
set_option maxRecDepth 20000 in
theorem tbk_X11_init_0 {D : DD} {d : Nat} {C : Nat → Sp} (hC : Snd D d C) : ∀ e ∈ tb_X11_init_0 C, TrOk D (d + 1) mi_X11_init e.1 e.2 :=
  tk_c (show TrOk D (d + 1) mi_X11_init 0 (tr_aload 1 0) from ok_aload_n (show decode mi_X11_init.2.1 0 = .ok (.aload_n 0, 1) from by decide +kernel) rfl) <|
  tk_c (show TrOk D (d + 1) mi_X11_init 1 (tr_obj 4) from ok_obj (show decode mi_X11_init.2.1 1 = .ok (.invokespecial 3, 3) from by decide +kernel) (gm 49 (by decide +kernel) rfl) (gm 50 (by decide +kernel) rfl) (gm 51 rfl rfl)) <|
  tk_c (show TrOk D (d + 1) mi_X11_init 4 (tr_aload 5 0) from ok_aload_n (show decode mi_X11_init.2.1 4 = .ok (.aload_n 0, 1) from by decide +kernel) rfl) <|
  tk_c (show TrOk D (d + 1) mi_X11_init 5 (tr_new 8 5 2) from ok_new (ci := 4) (show decode mi_X11_init.2.1 5 = .ok (.new 9, 3) from by decide +kernel) rfl (gm 52 (by decide +kernel) rfl) (gm 53 (by decide +kernel) rfl) (gm 31 (by decide +kernel) rfl)) <|
  tk_c (show TrOk D (d + 1) mi_X11_init 8 (tr_dup 9) from ok_dup (show decode mi_X11_init.2.1 8 = .ok (.dup, 1) from by decide +kernel)) <|
  tk_c (show TrOk D (d + 1) mi_X11_init 9 (tr_callI (C 23) 12 0) from ok_callIN (host := "ShowDesk") (show decode mi_X11_init.2.1 9 = .ok (.invokespecial 11, 3) from by decide +kernel) mok_X4_init rfl rfl (by decide +kernel) (gm 55 (by decide +kernel) rfl) (hC 23)) <|
  tk_c (show TrOk D (d + 1) mi_X11_init 12 (tr_putR 15 12 1100) from ok_putR (ci := 11) (k := 0) (show decode mi_X11_init.2.1 12 = .ok (.putfield 12, 3) from by decide +kernel) rfl (by decide) (gm 286 (by decide +kernel) rfl) rfl (Or.inr ⟨rfl, rfl, rfl⟩)) <|
  tk_c (show TrOk D (d + 1) mi_X11_init 15 (tr_aload 16 0) from ok_aload_n (show decode mi_X11_init.2.1 15 = .ok (.aload_n 0, 1) from by decide +kernel) rfl) <|
  tk_c (show TrOk D (d + 1) mi_X11_init 16 (tr_new 19 3 7) from ok_new (ci := 2) (show decode mi_X11_init.2.1 16 = .ok (.new 16, 3) from by decide +kernel) rfl (gm 68 (by decide +kernel) rfl) (gm 69 (by decide +kernel) rfl) (gm 32 (by decide +kernel) rfl)) <|
  tk_c (show TrOk D (d + 1) mi_X11_init 19 (tr_dup 20) from ok_dup (show decode mi_X11_init.2.1 19 = .ok (.dup, 1) from by decide +kernel)) <|
  tk_c (show TrOk D (d + 1) mi_X11_init 20 (tr_callI (C 6) 23 0) from ok_callIN (host := "ShowDesk") (show decode mi_X11_init.2.1 20 = .ok (.invokespecial 18, 3) from by decide +kernel) mok_X2_init rfl rfl (by decide +kernel) (gm 71 (by decide +kernel) rfl) (hC 6)) <|
  tk_c (show TrOk D (d + 1) mi_X11_init 23 (tr_putR 26 12 1101) from ok_putR (ci := 11) (k := 1) (show decode mi_X11_init.2.1 23 = .ok (.putfield 19, 3) from by decide +kernel) rfl (by decide) (gm 287 (by decide +kernel) rfl) rfl (Or.inr ⟨rfl, rfl, rfl⟩)) <|
  tk_c (show TrOk D (d + 1) mi_X11_init 26 (tr_aload 27 0) from ok_aload_n (show decode mi_X11_init.2.1 26 = .ok (.aload_n 0, 1) from by decide +kernel) rfl) <|
  tk_c (show TrOk D (d + 1) mi_X11_init 27 (tr_ic 29 8) from ok_bipush (show decode mi_X11_init.2.1 27 = .ok (.bipush 8, 2) from by decide +kernel) rfl) <|
  tk_c (show TrOk D (d + 1) mi_X11_init 29 (tr_anew 32 7068029 8 8) from ok_anew (t := 7) (show decode mi_X11_init.2.1 29 = .ok (.anewarray 23, 3) from by decide +kernel) (by decide) (by decide) (gm 104 (by decide +kernel) rfl) (by decide) (by decide) (by decide) (by decide)) <|
  tk_c (show TrOk D (d + 1) mi_X11_init 32 (tr_putR 35 12 1102) from ok_putR (ci := 11) (k := 2) (show decode mi_X11_init.2.1 32 = .ok (.putfield 25, 3) from by decide +kernel) rfl (by decide) (gm 288 (by decide +kernel) rfl) rfl (Or.inr ⟨rfl, rfl, rfl⟩)) <|
  tk_c (show TrOk D (d + 1) mi_X11_init 35 (tr_aload 36 0) from ok_aload_n (show decode mi_X11_init.2.1 35 = .ok (.aload_n 0, 1) from by decide +kernel) rfl) <|
  tk_c (show TrOk D (d + 1) mi_X11_init 36 (tr_new 39 1 4) from ok_new (ci := 0) (show decode mi_X11_init.2.1 36 = .ok (.new 29, 3) from by decide +kernel) rfl (gm 106 (by decide +kernel) rfl) (gm 107 (by decide +kernel) rfl) (gm 33 (by decide +kernel) rfl)) <|
  tk_c (show TrOk D (d + 1) mi_X11_init 39 (tr_dup 40) from ok_dup (show decode mi_X11_init.2.1 39 = .ok (.dup, 1) from by decide +kernel)) <|
  tk_c (show TrOk D (d + 1) mi_X11_init 40 (tr_callI (C 0) 43 0) from ok_callIN (host := "ShowDesk") (show decode mi_X11_init.2.1 40 = .ok (.invokespecial 31, 3) from by decide +kernel) mok_X0_init rfl rfl (by decide +kernel) (gm 109 (by decide +kernel) rfl) (hC 0)) <|
  tk_c (show TrOk D (d + 1) mi_X11_init 43 (tr_putR 46 12 1103) from ok_putR (ci := 11) (k := 3) (show decode mi_X11_init.2.1 43 = .ok (.putfield 32, 3) from by decide +kernel) rfl (by decide) (gm 289 (by decide +kernel) rfl) rfl (Or.inr ⟨rfl, rfl, rfl⟩)) <|
  tk_c (show TrOk D (d + 1) mi_X11_init 46 (tr_aload 47 0) from ok_aload_n (show decode mi_X11_init.2.1 46 = .ok (.aload_n 0, 1) from by decide +kernel) rfl) <|
  tk_c (show TrOk D (d + 1) mi_X11_init 47 (tr_new 50 8 12) from ok_new (ci := 7) (show decode mi_X11_init.2.1 47 = .ok (.new 36, 3) from by decide +kernel) rfl (gm 128 (by decide +kernel) rfl) (gm 129 (by decide +kernel) rfl) (gm 34 (by decide +kernel) rfl)) <|
  tk_c (show TrOk D (d + 1) mi_X11_init 50 (tr_dup 51) from ok_dup (show decode mi_X11_init.2.1 50 = .ok (.dup, 1) from by decide +kernel)) <|
  tk_c (show TrOk D (d + 1) mi_X11_init 51 (tr_callI (C 34) 54 0) from ok_callIN (host := "ShowDesk") (show decode mi_X11_init.2.1 51 = .ok (.invokespecial 38, 3) from by decide +kernel) mok_X7_init rfl rfl (by decide +kernel) (gm 131 (by decide +kernel) rfl) (hC 34)) <|
  tk_c (show TrOk D (d + 1) mi_X11_init 54 (tr_putR 57 12 1104) from ok_putR (ci := 11) (k := 4) (show decode mi_X11_init.2.1 54 = .ok (.putfield 39, 3) from by decide +kernel) rfl (by decide) (gm 290 (by decide +kernel) rfl) rfl (Or.inr ⟨rfl, rfl, rfl⟩)) <|
  tk_c (show TrOk D (d + 1) mi_X11_init 57 (tr_aload 58 0) from ok_aload_n (show decode mi_X11_init.2.1 57 = .ok (.aload_n 0, 1) from by decide +kernel) rfl) <|
  tk_c (show TrOk D (d + 1) mi_X11_init 58 (tr_new 61 9 7) from ok_new (ci := 8) (show decode mi_X11_init.2.1 58 = .ok (.new 43, 3) from by decide +kernel) rfl (gm 188 (by decide +kernel) rfl) (gm 189 (by decide +kernel) rfl) (gm 35 (by decide +kernel) rfl)) <|
  tk_c (show TrOk D (d + 1) mi_X11_init 61 (tr_dup 62) from ok_dup (show decode mi_X11_init.2.1 61 = .ok (.dup, 1) from by decide +kernel)) <|
  tk_c (show TrOk D (d + 1) mi_X11_init 62 (tr_aload 63 0) from ok_aload_n (show decode mi_X11_init.2.1 62 = .ok (.aload_n 0, 1) from by decide +kernel) rfl) <|
  tk_c (show TrOk D (d + 1) mi_X11_init 63 (tr_getR 66 12 1100) from ok_getR (ci := 11) (k := 0) (show decode mi_X11_init.2.1 63 = .ok (.getfield 12, 3) from by decide +kernel) rfl (by decide) (gm 286 (by decide +kernel) rfl) rfl) <|
  tk_c (show TrOk D (d + 1) mi_X11_init 66 (tr_aload 67 0) from ok_aload_n (show decode mi_X11_init.2.1 66 = .ok (.aload_n 0, 1) from by decide +kernel) rfl) <|
  tk_c (show TrOk D (d + 1) mi_X11_init 67 (tr_getR 70 12 1101) from ok_getR (ci := 11) (k := 1) (show decode mi_X11_init.2.1 67 = .ok (.getfield 19, 3) from by decide +kernel) rfl (by decide) (gm 287 (by decide +kernel) rfl) rfl) <|
  tk_c (show TrOk D (d + 1) mi_X11_init 70 (tr_aload 71 0) from ok_aload_n (show decode mi_X11_init.2.1 70 = .ok (.aload_n 0, 1) from by decide +kernel) rfl) <|
  tk_c (show TrOk D (d + 1) mi_X11_init 71 (tr_getR 74 12 1102) from ok_getR (ci := 11) (k := 2) (show decode mi_X11_init.2.1 71 = .ok (.getfield 25, 3) from by decide +kernel) rfl (by decide) (gm 288 (by decide +kernel) rfl) rfl) <|
  tk_c (show TrOk D (d + 1) mi_X11_init 74 (tr_aload 75 0) from ok_aload_n (show decode mi_X11_init.2.1 74 = .ok (.aload_n 0, 1) from by decide +kernel) rfl) <|
  tk_c (show TrOk D (d + 1) mi_X11_init 75 (tr_getR 78 12 1103) from ok_getR (ci := 11) (k := 3) (show decode mi_X11_init.2.1 75 = .ok (.getfield 32, 3) from by decide +kernel) rfl (by decide) (gm 289 (by decide +kernel) rfl) rfl) <|
  tk_c (show TrOk D (d + 1) mi_X11_init 78 (tr_aload 79 0) from ok_aload_n (show decode mi_X11_init.2.1 78 = .ok (.aload_n 0, 1) from by decide +kernel) rfl) <|
  tk_c (show TrOk D (d + 1) mi_X11_init 79 (tr_getR 82 12 1104) from ok_getR (ci := 11) (k := 4) (show decode mi_X11_init.2.1 79 = .ok (.getfield 39, 3) from by decide +kernel) rfl (by decide) (gm 290 (by decide +kernel) rfl) rfl) <|
  tk_c (show TrOk D (d + 1) mi_X11_init 82 (tr_callI (C 40) 85 5) from ok_callI (show decode mi_X11_init.2.1 82 = .ok (.invokespecial 45, 3) from by decide +kernel) mok_X8_init rfl rfl (gm 190 (by decide +kernel) rfl) (gm 191 (by decide +kernel) rfl) (hC 40)) <|
  tk_n
def tb_X11_init_1 (C : Nat → Sp) : Tab := [(85, tr_putR 88 12 1105), (88, tr_ic 89 0), (89, tr_istore 90 1), (90, tr_iload 91 1), (91, tr_ic 93 8), (93, tr_icge 96 115), (96, tr_aload 97 0), (97, tr_getR 100 12 1102), (100, tr_iload 101 1), (101, tr_new 104 10 3), (104, tr_dup 105), (105, tr_callI (C 56) 108 0), (108, tr_aast 109 7), (109, tr_iinc 112 1 1), (112, tr_goto 90), (115, tr_ret)]
set_option maxRecDepth 20000 in
theorem tbk_X11_init_1 {D : DD} {d : Nat} {C : Nat → Sp} (hC : Snd D d C) : ∀ e ∈ tb_X11_init_1 C, TrOk D (d + 1) mi_X11_init e.1 e.2 :=
  tk_c (show TrOk D (d + 1) mi_X11_init 85 (tr_putR 88 12 1105) from ok_putR (ci := 11) (k := 5) (show decode mi_X11_init.2.1 85 = .ok (.putfield 48, 3) from by decide +kernel) rfl (by decide) (gm 291 (by decide +kernel) rfl) rfl (Or.inr ⟨rfl, rfl, rfl⟩)) <|
  tk_c (show TrOk D (d + 1) mi_X11_init 88 (tr_ic 89 0) from ok_iconst (show decode mi_X11_init.2.1 88 = .ok (.iconst 0, 1) from by decide +kernel) rfl) <|
  tk_c (show TrOk D (d + 1) mi_X11_init 89 (tr_istore 90 1) from ok_istore_n (show decode mi_X11_init.2.1 89 = .ok (.istore_n 1, 1) from by decide +kernel) rfl (by decide)) <|
  tk_c (show TrOk D (d + 1) mi_X11_init 90 (tr_iload 91 1) from ok_iload_n (show decode mi_X11_init.2.1 90 = .ok (.iload_n 1, 1) from by decide +kernel) rfl) <|
  tk_c (show TrOk D (d + 1) mi_X11_init 91 (tr_ic 93 8) from ok_bipush (show decode mi_X11_init.2.1 91 = .ok (.bipush 8, 2) from by decide +kernel) rfl) <|
  tk_c (show TrOk D (d + 1) mi_X11_init 93 (tr_icge 96 115) from ok_icge (show decode mi_X11_init.2.1 93 = .ok (.if_icmp .ge 22, 3) from by decide +kernel) (by decide)) <|
  tk_c (show TrOk D (d + 1) mi_X11_init 96 (tr_aload 97 0) from ok_aload_n (show decode mi_X11_init.2.1 96 = .ok (.aload_n 0, 1) from by decide +kernel) rfl) <|
  tk_c (show TrOk D (d + 1) mi_X11_init 97 (tr_getR 100 12 1102) from ok_getR (ci := 11) (k := 2) (show decode mi_X11_init.2.1 97 = .ok (.getfield 25, 3) from by decide +kernel) rfl (by decide) (gm 288 (by decide +kernel) rfl) rfl) <|
  tk_c (show TrOk D (d + 1) mi_X11_init 100 (tr_iload 101 1) from ok_iload_n (show decode mi_X11_init.2.1 100 = .ok (.iload_n 1, 1) from by decide +kernel) rfl) <|
  tk_c (show TrOk D (d + 1) mi_X11_init 101 (tr_new 104 10 3) from ok_new (ci := 9) (show decode mi_X11_init.2.1 101 = .ok (.new 23, 3) from by decide +kernel) rfl (gm 104 (by decide +kernel) rfl) (gm 267 (by decide +kernel) rfl) (gm 38 (by decide +kernel) rfl)) <|
  tk_c (show TrOk D (d + 1) mi_X11_init 104 (tr_dup 105) from ok_dup (show decode mi_X11_init.2.1 104 = .ok (.dup, 1) from by decide +kernel)) <|
  tk_c (show TrOk D (d + 1) mi_X11_init 105 (tr_callI (C 56) 108 0) from ok_callIN (host := "ShowDesk") (show decode mi_X11_init.2.1 105 = .ok (.invokespecial 52, 3) from by decide +kernel) mok_X9_init rfl rfl (by decide +kernel) (gm 269 (by decide +kernel) rfl) (hC 56)) <|
  tk_c (show TrOk D (d + 1) mi_X11_init 108 (tr_aast 109 7) from ok_aast (by decide) (by decide) (show decode mi_X11_init.2.1 108 = .ok (.aastore, 1) from by decide +kernel)) <|
  tk_c (show TrOk D (d + 1) mi_X11_init 109 (tr_iinc 112 1 1) from ok_iinc (show decode mi_X11_init.2.1 109 = .ok (.iinc 1 1, 3) from by decide +kernel) rfl (by decide)) <|
  tk_c (show TrOk D (d + 1) mi_X11_init 112 (tr_goto 90) from ok_goto (show decode mi_X11_init.2.1 112 = .ok (.goto (-22), 3) from by decide +kernel) (by decide)) <|
  tk_c (show TrOk D (d + 1) mi_X11_init 115 (tr_ret) from ok_ret (show decode mi_X11_init.2.1 115 = .ok (.return_, 1) from by decide +kernel) rfl) <|
  tk_n
def tb_X11_init (C : Nat → Sp) : Tab := tb_X11_init_0 C ++ (tb_X11_init_1 C)
theorem tbk_X11_init {D : DD} {d : Nat} {C : Nat → Sp} (hC : Snd D d C) : ∀ e ∈ tb_X11_init C, TrOk D (d + 1) mi_X11_init e.1 e.2 := tk_a (tbk_X11_init_0 hC) (tbk_X11_init_1 hC)
theorem a_X11_init_0 (C : Nat → Sp) : ta (tb_X11_init C) 0 = tr_aload 1 0 := rfl
theorem a_X11_init_1 (C : Nat → Sp) : ta (tb_X11_init C) 1 = tr_obj 4 := rfl
theorem a_X11_init_4 (C : Nat → Sp) : ta (tb_X11_init C) 4 = tr_aload 5 0 := rfl
theorem a_X11_init_5 (C : Nat → Sp) : ta (tb_X11_init C) 5 = tr_new 8 5 2 := rfl
theorem a_X11_init_8 (C : Nat → Sp) : ta (tb_X11_init C) 8 = tr_dup 9 := rfl
theorem a_X11_init_9 (C : Nat → Sp) : ta (tb_X11_init C) 9 = tr_callI (C 23) 12 0 := rfl
theorem a_X11_init_12 (C : Nat → Sp) : ta (tb_X11_init C) 12 = tr_putR 15 12 1100 := rfl
theorem a_X11_init_15 (C : Nat → Sp) : ta (tb_X11_init C) 15 = tr_aload 16 0 := rfl
theorem a_X11_init_16 (C : Nat → Sp) : ta (tb_X11_init C) 16 = tr_new 19 3 7 := rfl
theorem a_X11_init_19 (C : Nat → Sp) : ta (tb_X11_init C) 19 = tr_dup 20 := rfl
theorem a_X11_init_20 (C : Nat → Sp) : ta (tb_X11_init C) 20 = tr_callI (C 6) 23 0 := rfl
theorem a_X11_init_23 (C : Nat → Sp) : ta (tb_X11_init C) 23 = tr_putR 26 12 1101 := rfl
theorem a_X11_init_26 (C : Nat → Sp) : ta (tb_X11_init C) 26 = tr_aload 27 0 := rfl
theorem a_X11_init_27 (C : Nat → Sp) : ta (tb_X11_init C) 27 = tr_ic 29 8 := rfl
theorem a_X11_init_29 (C : Nat → Sp) : ta (tb_X11_init C) 29 = tr_anew 32 7068029 8 8 := rfl
theorem a_X11_init_32 (C : Nat → Sp) : ta (tb_X11_init C) 32 = tr_putR 35 12 1102 := rfl
theorem a_X11_init_35 (C : Nat → Sp) : ta (tb_X11_init C) 35 = tr_aload 36 0 := rfl
theorem a_X11_init_36 (C : Nat → Sp) : ta (tb_X11_init C) 36 = tr_new 39 1 4 := rfl
theorem a_X11_init_39 (C : Nat → Sp) : ta (tb_X11_init C) 39 = tr_dup 40 := rfl
theorem a_X11_init_40 (C : Nat → Sp) : ta (tb_X11_init C) 40 = tr_callI (C 0) 43 0 := rfl
theorem a_X11_init_43 (C : Nat → Sp) : ta (tb_X11_init C) 43 = tr_putR 46 12 1103 := rfl
theorem a_X11_init_46 (C : Nat → Sp) : ta (tb_X11_init C) 46 = tr_aload 47 0 := rfl
theorem a_X11_init_47 (C : Nat → Sp) : ta (tb_X11_init C) 47 = tr_new 50 8 12 := rfl
theorem a_X11_init_50 (C : Nat → Sp) : ta (tb_X11_init C) 50 = tr_dup 51 := rfl
theorem a_X11_init_51 (C : Nat → Sp) : ta (tb_X11_init C) 51 = tr_callI (C 34) 54 0 := rfl
theorem a_X11_init_54 (C : Nat → Sp) : ta (tb_X11_init C) 54 = tr_putR 57 12 1104 := rfl
theorem a_X11_init_57 (C : Nat → Sp) : ta (tb_X11_init C) 57 = tr_aload 58 0 := rfl
theorem a_X11_init_58 (C : Nat → Sp) : ta (tb_X11_init C) 58 = tr_new 61 9 7 := rfl
theorem a_X11_init_61 (C : Nat → Sp) : ta (tb_X11_init C) 61 = tr_dup 62 := rfl
theorem a_X11_init_62 (C : Nat → Sp) : ta (tb_X11_init C) 62 = tr_aload 63 0 := rfl
theorem a_X11_init_63 (C : Nat → Sp) : ta (tb_X11_init C) 63 = tr_getR 66 12 1100 := rfl
theorem a_X11_init_66 (C : Nat → Sp) : ta (tb_X11_init C) 66 = tr_aload 67 0 := rfl
theorem a_X11_init_67 (C : Nat → Sp) : ta (tb_X11_init C) 67 = tr_getR 70 12 1101 := rfl
theorem a_X11_init_70 (C : Nat → Sp) : ta (tb_X11_init C) 70 = tr_aload 71 0 := rfl
theorem a_X11_init_71 (C : Nat → Sp) : ta (tb_X11_init C) 71 = tr_getR 74 12 1102 := rfl
theorem a_X11_init_74 (C : Nat → Sp) : ta (tb_X11_init C) 74 = tr_aload 75 0 := rfl
theorem a_X11_init_75 (C : Nat → Sp) : ta (tb_X11_init C) 75 = tr_getR 78 12 1103 := rfl
theorem a_X11_init_78 (C : Nat → Sp) : ta (tb_X11_init C) 78 = tr_aload 79 0 := rfl
theorem a_X11_init_79 (C : Nat → Sp) : ta (tb_X11_init C) 79 = tr_getR 82 12 1104 := rfl
theorem a_X11_init_82 (C : Nat → Sp) : ta (tb_X11_init C) 82 = tr_callI (C 40) 85 5 := rfl
theorem a_X11_init_85 (C : Nat → Sp) : ta (tb_X11_init C) 85 = tr_putR 88 12 1105 := rfl
theorem a_X11_init_88 (C : Nat → Sp) : ta (tb_X11_init C) 88 = tr_ic 89 0 := rfl
theorem a_X11_init_89 (C : Nat → Sp) : ta (tb_X11_init C) 89 = tr_istore 90 1 := rfl
theorem a_X11_init_90 (C : Nat → Sp) : ta (tb_X11_init C) 90 = tr_iload 91 1 := rfl
theorem a_X11_init_91 (C : Nat → Sp) : ta (tb_X11_init C) 91 = tr_ic 93 8 := rfl
theorem a_X11_init_93 (C : Nat → Sp) : ta (tb_X11_init C) 93 = tr_icge 96 115 := rfl
theorem a_X11_init_96 (C : Nat → Sp) : ta (tb_X11_init C) 96 = tr_aload 97 0 := rfl
theorem a_X11_init_97 (C : Nat → Sp) : ta (tb_X11_init C) 97 = tr_getR 100 12 1102 := rfl
theorem a_X11_init_100 (C : Nat → Sp) : ta (tb_X11_init C) 100 = tr_iload 101 1 := rfl
theorem a_X11_init_101 (C : Nat → Sp) : ta (tb_X11_init C) 101 = tr_new 104 10 3 := rfl
theorem a_X11_init_104 (C : Nat → Sp) : ta (tb_X11_init C) 104 = tr_dup 105 := rfl
theorem a_X11_init_105 (C : Nat → Sp) : ta (tb_X11_init C) 105 = tr_callI (C 56) 108 0 := rfl
theorem a_X11_init_108 (C : Nat → Sp) : ta (tb_X11_init C) 108 = tr_aast 109 7 := rfl
theorem a_X11_init_109 (C : Nat → Sp) : ta (tb_X11_init C) 109 = tr_iinc 112 1 1 := rfl
theorem a_X11_init_112 (C : Nat → Sp) : ta (tb_X11_init C) 112 = tr_goto 90 := rfl
theorem a_X11_init_115 (C : Nat → Sp) : ta (tb_X11_init C) 115 = tr_ret := rfl

def tb_X11_kind_0 (C : Nat → Sp) : Tab := [(0, tr_aload 1 0), (1, tr_getR 4 12 1100), (4, tr_iload 5 1), (5, tr_callV (C 24) 8 5 1), (8, tr_astore 9 2), (9, tr_aload 10 2), (10, tr_ifnonnull 13 21), (13, tr_iload 14 1), (14, tr_ic 16 (-4)), (16, tr_iceq 19 21), (19, tr_ic 20 (-1)), (20, tr_iret), (21, tr_aload 22 2), (22, tr_ifnull 25 37), (25, tr_aload 26 2), (26, tr_getI 29 4 301), (29, tr_ic 31 10), (31, tr_iclt 34 37), (34, tr_ic 36 (-2)), (36, tr_iret), (37, tr_aload 38 0), (38, tr_getR 41 12 1100), (41, tr_aload 42 2), (42, tr_callV (C 25) 45 5 1), (45, tr_iret)]
set_option maxRecDepth 20000 in
theorem tbk_X11_kind_0 {D : DD} {d : Nat} {C : Nat → Sp} (hC : Snd D d C) : ∀ e ∈ tb_X11_kind_0 C, TrOk D (d + 1) mi_X11_kind e.1 e.2 :=
  tk_c (show TrOk D (d + 1) mi_X11_kind 0 (tr_aload 1 0) from ok_aload_n (show decode mi_X11_kind.2.1 0 = .ok (.aload_n 0, 1) from by decide +kernel) rfl) <|
  tk_c (show TrOk D (d + 1) mi_X11_kind 1 (tr_getR 4 12 1100) from ok_getR (ci := 11) (k := 0) (show decode mi_X11_kind.2.1 1 = .ok (.getfield 12, 3) from by decide +kernel) rfl (by decide) (gm 286 (by decide +kernel) rfl) rfl) <|
  tk_c (show TrOk D (d + 1) mi_X11_kind 4 (tr_iload 5 1) from ok_iload_n (show decode mi_X11_kind.2.1 4 = .ok (.iload_n 1, 1) from by decide +kernel) rfl) <|
  tk_c (show TrOk D (d + 1) mi_X11_kind 5 (tr_callV (C 24) 8 5 1) from ok_callV (ci := 4) (show decode mi_X11_kind.2.1 5 = .ok (.invokevirtual 53, 3) from by decide +kernel) mok_X4_find rfl rfl (gm 309 (by decide +kernel) rfl) (gm 310 (by decide +kernel) rfl) (gm 311 (by decide +kernel) rfl) (hC 24)) <|
  tk_c (show TrOk D (d + 1) mi_X11_kind 8 (tr_astore 9 2) from ok_astore_n (show decode mi_X11_kind.2.1 8 = .ok (.astore_n 2, 1) from by decide +kernel) rfl (by decide)) <|
  tk_c (show TrOk D (d + 1) mi_X11_kind 9 (tr_aload 10 2) from ok_aload_n (show decode mi_X11_kind.2.1 9 = .ok (.aload_n 2, 1) from by decide +kernel) rfl) <|
  tk_c (show TrOk D (d + 1) mi_X11_kind 10 (tr_ifnonnull 13 21) from ok_ifnonnull (show decode mi_X11_kind.2.1 10 = .ok (.ifnonnull 11, 3) from by decide +kernel) (by decide)) <|
  tk_c (show TrOk D (d + 1) mi_X11_kind 13 (tr_iload 14 1) from ok_iload_n (show decode mi_X11_kind.2.1 13 = .ok (.iload_n 1, 1) from by decide +kernel) rfl) <|
  tk_c (show TrOk D (d + 1) mi_X11_kind 14 (tr_ic 16 (-4)) from ok_bipush (show decode mi_X11_kind.2.1 14 = .ok (.bipush (-4), 2) from by decide +kernel) rfl) <|
  tk_c (show TrOk D (d + 1) mi_X11_kind 16 (tr_iceq 19 21) from ok_iceq (show decode mi_X11_kind.2.1 16 = .ok (.if_icmp .eq 5, 3) from by decide +kernel) (by decide)) <|
  tk_c (show TrOk D (d + 1) mi_X11_kind 19 (tr_ic 20 (-1)) from ok_iconst (show decode mi_X11_kind.2.1 19 = .ok (.iconst (-1), 1) from by decide +kernel) rfl) <|
  tk_c (show TrOk D (d + 1) mi_X11_kind 20 (tr_iret) from ok_iret (show decode mi_X11_kind.2.1 20 = .ok (.ireturn, 1) from by decide +kernel) rfl) <|
  tk_c (show TrOk D (d + 1) mi_X11_kind 21 (tr_aload 22 2) from ok_aload_n (show decode mi_X11_kind.2.1 21 = .ok (.aload_n 2, 1) from by decide +kernel) rfl) <|
  tk_c (show TrOk D (d + 1) mi_X11_kind 22 (tr_ifnull 25 37) from ok_ifnull (show decode mi_X11_kind.2.1 22 = .ok (.ifnull 15, 3) from by decide +kernel) (by decide)) <|
  tk_c (show TrOk D (d + 1) mi_X11_kind 25 (tr_aload 26 2) from ok_aload_n (show decode mi_X11_kind.2.1 25 = .ok (.aload_n 2, 1) from by decide +kernel) rfl) <|
  tk_c (show TrOk D (d + 1) mi_X11_kind 26 (tr_getI 29 4 301) from ok_getI (ci := 3) (k := 1) (show decode mi_X11_kind.2.1 26 = .ok (.getfield 57, 3) from by decide +kernel) rfl (by decide) (gm 325 (by decide +kernel) rfl) rfl) <|
  tk_c (show TrOk D (d + 1) mi_X11_kind 29 (tr_ic 31 10) from ok_bipush (show decode mi_X11_kind.2.1 29 = .ok (.bipush 10, 2) from by decide +kernel) rfl) <|
  tk_c (show TrOk D (d + 1) mi_X11_kind 31 (tr_iclt 34 37) from ok_iclt (show decode mi_X11_kind.2.1 31 = .ok (.if_icmp .lt 6, 3) from by decide +kernel) (by decide)) <|
  tk_c (show TrOk D (d + 1) mi_X11_kind 34 (tr_ic 36 (-2)) from ok_bipush (show decode mi_X11_kind.2.1 34 = .ok (.bipush (-2), 2) from by decide +kernel) rfl) <|
  tk_c (show TrOk D (d + 1) mi_X11_kind 36 (tr_iret) from ok_iret (show decode mi_X11_kind.2.1 36 = .ok (.ireturn, 1) from by decide +kernel) rfl) <|
  tk_c (show TrOk D (d + 1) mi_X11_kind 37 (tr_aload 38 0) from ok_aload_n (show decode mi_X11_kind.2.1 37 = .ok (.aload_n 0, 1) from by decide +kernel) rfl) <|
  tk_c (show TrOk D (d + 1) mi_X11_kind 38 (tr_getR 41 12 1100) from ok_getR (ci := 11) (k := 0) (show decode mi_X11_kind.2.1 38 = .ok (.getfield 12, 3) from by decide +kernel) rfl (by decide) (gm 286 (by decide +kernel) rfl) rfl) <|
  tk_c (show TrOk D (d + 1) mi_X11_kind 41 (tr_aload 42 2) from ok_aload_n (show decode mi_X11_kind.2.1 41 = .ok (.aload_n 2, 1) from by decide +kernel) rfl) <|
  tk_c (show TrOk D (d + 1) mi_X11_kind 42 (tr_callV (C 25) 45 5 1) from ok_callV (ci := 4) (show decode mi_X11_kind.2.1 42 = .ok (.invokevirtual 63, 3) from by decide +kernel) mok_X4_add rfl rfl (gm 313 (by decide +kernel) rfl) (gm 314 (by decide +kernel) rfl) (gm 315 (by decide +kernel) rfl) (hC 25)) <|
  tk_c (show TrOk D (d + 1) mi_X11_kind 45 (tr_iret) from ok_iret (show decode mi_X11_kind.2.1 45 = .ok (.ireturn, 1) from by decide +kernel) rfl) <|
  tk_n
def tb_X11_kind (C : Nat → Sp) : Tab := tb_X11_kind_0 C
theorem tbk_X11_kind {D : DD} {d : Nat} {C : Nat → Sp} (hC : Snd D d C) : ∀ e ∈ tb_X11_kind C, TrOk D (d + 1) mi_X11_kind e.1 e.2 := tbk_X11_kind_0 hC
theorem a_X11_kind_0 (C : Nat → Sp) : ta (tb_X11_kind C) 0 = tr_aload 1 0 := rfl
theorem a_X11_kind_1 (C : Nat → Sp) : ta (tb_X11_kind C) 1 = tr_getR 4 12 1100 := rfl
theorem a_X11_kind_4 (C : Nat → Sp) : ta (tb_X11_kind C) 4 = tr_iload 5 1 := rfl
theorem a_X11_kind_5 (C : Nat → Sp) : ta (tb_X11_kind C) 5 = tr_callV (C 24) 8 5 1 := rfl
theorem a_X11_kind_8 (C : Nat → Sp) : ta (tb_X11_kind C) 8 = tr_astore 9 2 := rfl
theorem a_X11_kind_9 (C : Nat → Sp) : ta (tb_X11_kind C) 9 = tr_aload 10 2 := rfl
theorem a_X11_kind_10 (C : Nat → Sp) : ta (tb_X11_kind C) 10 = tr_ifnonnull 13 21 := rfl
theorem a_X11_kind_13 (C : Nat → Sp) : ta (tb_X11_kind C) 13 = tr_iload 14 1 := rfl
theorem a_X11_kind_14 (C : Nat → Sp) : ta (tb_X11_kind C) 14 = tr_ic 16 (-4) := rfl
theorem a_X11_kind_16 (C : Nat → Sp) : ta (tb_X11_kind C) 16 = tr_iceq 19 21 := rfl
theorem a_X11_kind_19 (C : Nat → Sp) : ta (tb_X11_kind C) 19 = tr_ic 20 (-1) := rfl
theorem a_X11_kind_20 (C : Nat → Sp) : ta (tb_X11_kind C) 20 = tr_iret := rfl
theorem a_X11_kind_21 (C : Nat → Sp) : ta (tb_X11_kind C) 21 = tr_aload 22 2 := rfl
theorem a_X11_kind_22 (C : Nat → Sp) : ta (tb_X11_kind C) 22 = tr_ifnull 25 37 := rfl
theorem a_X11_kind_25 (C : Nat → Sp) : ta (tb_X11_kind C) 25 = tr_aload 26 2 := rfl
theorem a_X11_kind_26 (C : Nat → Sp) : ta (tb_X11_kind C) 26 = tr_getI 29 4 301 := rfl
theorem a_X11_kind_29 (C : Nat → Sp) : ta (tb_X11_kind C) 29 = tr_ic 31 10 := rfl
theorem a_X11_kind_31 (C : Nat → Sp) : ta (tb_X11_kind C) 31 = tr_iclt 34 37 := rfl
theorem a_X11_kind_34 (C : Nat → Sp) : ta (tb_X11_kind C) 34 = tr_ic 36 (-2) := rfl
theorem a_X11_kind_36 (C : Nat → Sp) : ta (tb_X11_kind C) 36 = tr_iret := rfl
theorem a_X11_kind_37 (C : Nat → Sp) : ta (tb_X11_kind C) 37 = tr_aload 38 0 := rfl
theorem a_X11_kind_38 (C : Nat → Sp) : ta (tb_X11_kind C) 38 = tr_getR 41 12 1100 := rfl
theorem a_X11_kind_41 (C : Nat → Sp) : ta (tb_X11_kind C) 41 = tr_aload 42 2 := rfl
theorem a_X11_kind_42 (C : Nat → Sp) : ta (tb_X11_kind C) 42 = tr_callV (C 25) 45 5 1 := rfl
theorem a_X11_kind_45 (C : Nat → Sp) : ta (tb_X11_kind C) 45 = tr_iret := rfl

def tb_X11_scene_0 (C : Nat → Sp) : Tab := [(0, tr_aload 1 0), (1, tr_getR 4 12 1101), (4, tr_callV (C 16) 7 3 0), (7, tr_iret)]
set_option maxRecDepth 20000 in
theorem tbk_X11_scene_0 {D : DD} {d : Nat} {C : Nat → Sp} (hC : Snd D d C) : ∀ e ∈ tb_X11_scene_0 C, TrOk D (d + 1) mi_X11_scene e.1 e.2 :=
  tk_c (show TrOk D (d + 1) mi_X11_scene 0 (tr_aload 1 0) from ok_aload_n (show decode mi_X11_scene.2.1 0 = .ok (.aload_n 0, 1) from by decide +kernel) rfl) <|
  tk_c (show TrOk D (d + 1) mi_X11_scene 1 (tr_getR 4 12 1101) from ok_getR (ci := 11) (k := 1) (show decode mi_X11_scene.2.1 1 = .ok (.getfield 19, 3) from by decide +kernel) rfl (by decide) (gm 287 (by decide +kernel) rfl) rfl) <|
  tk_c (show TrOk D (d + 1) mi_X11_scene 4 (tr_callV (C 16) 7 3 0) from ok_callV (ci := 2) (show decode mi_X11_scene.2.1 4 = .ok (.invokevirtual 67, 3) from by decide +kernel) mok_X2_openScene rfl rfl (gm 343 (by decide +kernel) rfl) (gm 344 (by decide +kernel) rfl) (gm 345 (by decide +kernel) rfl) (hC 16)) <|
  tk_c (show TrOk D (d + 1) mi_X11_scene 7 (tr_iret) from ok_iret (show decode mi_X11_scene.2.1 7 = .ok (.ireturn, 1) from by decide +kernel) rfl) <|
  tk_n
def tb_X11_scene (C : Nat → Sp) : Tab := tb_X11_scene_0 C
theorem tbk_X11_scene {D : DD} {d : Nat} {C : Nat → Sp} (hC : Snd D d C) : ∀ e ∈ tb_X11_scene C, TrOk D (d + 1) mi_X11_scene e.1 e.2 := tbk_X11_scene_0 hC
theorem a_X11_scene_0 (C : Nat → Sp) : ta (tb_X11_scene C) 0 = tr_aload 1 0 := rfl
theorem a_X11_scene_1 (C : Nat → Sp) : ta (tb_X11_scene C) 1 = tr_getR 4 12 1101 := rfl
theorem a_X11_scene_4 (C : Nat → Sp) : ta (tb_X11_scene C) 4 = tr_callV (C 16) 7 3 0 := rfl
theorem a_X11_scene_7 (C : Nat → Sp) : ta (tb_X11_scene C) 7 = tr_iret := rfl

def tb_X11_close_0 (C : Nat → Sp) : Tab := [(0, tr_aload 1 0), (1, tr_getR 4 12 1101), (4, tr_iload 5 1), (5, tr_callV (C 17) 8 3 1), (8, tr_ifne 11 13), (11, tr_ic 12 (-1)), (12, tr_iret), (13, tr_aload 14 0), (14, tr_getR 17 12 1101), (17, tr_iload 18 1), (18, tr_callV (C 18) 21 3 1), (21, tr_ifne 24 27), (24, tr_ic 26 (-2)), (26, tr_iret), (27, tr_aload 28 0), (28, tr_getR 31 12 1101), (31, tr_iload 32 1), (32, tr_callV (C 20) 35 3 1), (35, tr_iret)]
set_option maxRecDepth 20000 in
theorem tbk_X11_close_0 {D : DD} {d : Nat} {C : Nat → Sp} (hC : Snd D d C) : ∀ e ∈ tb_X11_close_0 C, TrOk D (d + 1) mi_X11_close e.1 e.2 :=
  tk_c (show TrOk D (d + 1) mi_X11_close 0 (tr_aload 1 0) from ok_aload_n (show decode mi_X11_close.2.1 0 = .ok (.aload_n 0, 1) from by decide +kernel) rfl) <|
  tk_c (show TrOk D (d + 1) mi_X11_close 1 (tr_getR 4 12 1101) from ok_getR (ci := 11) (k := 1) (show decode mi_X11_close.2.1 1 = .ok (.getfield 19, 3) from by decide +kernel) rfl (by decide) (gm 287 (by decide +kernel) rfl) rfl) <|
  tk_c (show TrOk D (d + 1) mi_X11_close 4 (tr_iload 5 1) from ok_iload_n (show decode mi_X11_close.2.1 4 = .ok (.iload_n 1, 1) from by decide +kernel) rfl) <|
  tk_c (show TrOk D (d + 1) mi_X11_close 5 (tr_callV (C 17) 8 3 1) from ok_callV (ci := 2) (show decode mi_X11_close.2.1 5 = .ok (.invokevirtual 71, 3) from by decide +kernel) mok_X2_hadScene rfl rfl (gm 351 (by decide +kernel) rfl) (gm 352 (by decide +kernel) rfl) (gm 353 (by decide +kernel) rfl) (hC 17)) <|
  tk_c (show TrOk D (d + 1) mi_X11_close 8 (tr_ifne 11 13) from ok_ifne (show decode mi_X11_close.2.1 8 = .ok (.ifCond .ne 5, 3) from by decide +kernel) (by decide)) <|
  tk_c (show TrOk D (d + 1) mi_X11_close 11 (tr_ic 12 (-1)) from ok_iconst (show decode mi_X11_close.2.1 11 = .ok (.iconst (-1), 1) from by decide +kernel) rfl) <|
  tk_c (show TrOk D (d + 1) mi_X11_close 12 (tr_iret) from ok_iret (show decode mi_X11_close.2.1 12 = .ok (.ireturn, 1) from by decide +kernel) rfl) <|
  tk_c (show TrOk D (d + 1) mi_X11_close 13 (tr_aload 14 0) from ok_aload_n (show decode mi_X11_close.2.1 13 = .ok (.aload_n 0, 1) from by decide +kernel) rfl) <|
  tk_c (show TrOk D (d + 1) mi_X11_close 14 (tr_getR 17 12 1101) from ok_getR (ci := 11) (k := 1) (show decode mi_X11_close.2.1 14 = .ok (.getfield 19, 3) from by decide +kernel) rfl (by decide) (gm 287 (by decide +kernel) rfl) rfl) <|
  tk_c (show TrOk D (d + 1) mi_X11_close 17 (tr_iload 18 1) from ok_iload_n (show decode mi_X11_close.2.1 17 = .ok (.iload_n 1, 1) from by decide +kernel) rfl) <|
  tk_c (show TrOk D (d + 1) mi_X11_close 18 (tr_callV (C 18) 21 3 1) from ok_callV (ci := 2) (show decode mi_X11_close.2.1 18 = .ok (.invokevirtual 75, 3) from by decide +kernel) mok_X2_isOpen rfl rfl (gm 355 (by decide +kernel) rfl) (gm 356 (by decide +kernel) rfl) (gm 357 (by decide +kernel) rfl) (hC 18)) <|
  tk_c (show TrOk D (d + 1) mi_X11_close 21 (tr_ifne 24 27) from ok_ifne (show decode mi_X11_close.2.1 21 = .ok (.ifCond .ne 6, 3) from by decide +kernel) (by decide)) <|
  tk_c (show TrOk D (d + 1) mi_X11_close 24 (tr_ic 26 (-2)) from ok_bipush (show decode mi_X11_close.2.1 24 = .ok (.bipush (-2), 2) from by decide +kernel) rfl) <|
  tk_c (show TrOk D (d + 1) mi_X11_close 26 (tr_iret) from ok_iret (show decode mi_X11_close.2.1 26 = .ok (.ireturn, 1) from by decide +kernel) rfl) <|
  tk_c (show TrOk D (d + 1) mi_X11_close 27 (tr_aload 28 0) from ok_aload_n (show decode mi_X11_close.2.1 27 = .ok (.aload_n 0, 1) from by decide +kernel) rfl) <|
  tk_c (show TrOk D (d + 1) mi_X11_close 28 (tr_getR 31 12 1101) from ok_getR (ci := 11) (k := 1) (show decode mi_X11_close.2.1 28 = .ok (.getfield 19, 3) from by decide +kernel) rfl (by decide) (gm 287 (by decide +kernel) rfl) rfl) <|
  tk_c (show TrOk D (d + 1) mi_X11_close 31 (tr_iload 32 1) from ok_iload_n (show decode mi_X11_close.2.1 31 = .ok (.iload_n 1, 1) from by decide +kernel) rfl) <|
  tk_c (show TrOk D (d + 1) mi_X11_close 32 (tr_callV (C 20) 35 3 1) from ok_callV (ci := 2) (show decode mi_X11_close.2.1 32 = .ok (.invokevirtual 78, 3) from by decide +kernel) mok_X2_shut rfl rfl (gm 360 (by decide +kernel) rfl) (gm 361 (by decide +kernel) rfl) (gm 362 (by decide +kernel) rfl) (hC 20)) <|
  tk_c (show TrOk D (d + 1) mi_X11_close 35 (tr_iret) from ok_iret (show decode mi_X11_close.2.1 35 = .ok (.ireturn, 1) from by decide +kernel) rfl) <|
  tk_n
def tb_X11_close (C : Nat → Sp) : Tab := tb_X11_close_0 C
theorem tbk_X11_close {D : DD} {d : Nat} {C : Nat → Sp} (hC : Snd D d C) : ∀ e ∈ tb_X11_close C, TrOk D (d + 1) mi_X11_close e.1 e.2 := tbk_X11_close_0 hC
theorem a_X11_close_0 (C : Nat → Sp) : ta (tb_X11_close C) 0 = tr_aload 1 0 := rfl
theorem a_X11_close_1 (C : Nat → Sp) : ta (tb_X11_close C) 1 = tr_getR 4 12 1101 := rfl
theorem a_X11_close_4 (C : Nat → Sp) : ta (tb_X11_close C) 4 = tr_iload 5 1 := rfl
theorem a_X11_close_5 (C : Nat → Sp) : ta (tb_X11_close C) 5 = tr_callV (C 17) 8 3 1 := rfl
theorem a_X11_close_8 (C : Nat → Sp) : ta (tb_X11_close C) 8 = tr_ifne 11 13 := rfl
theorem a_X11_close_11 (C : Nat → Sp) : ta (tb_X11_close C) 11 = tr_ic 12 (-1) := rfl
theorem a_X11_close_12 (C : Nat → Sp) : ta (tb_X11_close C) 12 = tr_iret := rfl
theorem a_X11_close_13 (C : Nat → Sp) : ta (tb_X11_close C) 13 = tr_aload 14 0 := rfl
theorem a_X11_close_14 (C : Nat → Sp) : ta (tb_X11_close C) 14 = tr_getR 17 12 1101 := rfl
theorem a_X11_close_17 (C : Nat → Sp) : ta (tb_X11_close C) 17 = tr_iload 18 1 := rfl
theorem a_X11_close_18 (C : Nat → Sp) : ta (tb_X11_close C) 18 = tr_callV (C 18) 21 3 1 := rfl
theorem a_X11_close_21 (C : Nat → Sp) : ta (tb_X11_close C) 21 = tr_ifne 24 27 := rfl
theorem a_X11_close_24 (C : Nat → Sp) : ta (tb_X11_close C) 24 = tr_ic 26 (-2) := rfl
theorem a_X11_close_26 (C : Nat → Sp) : ta (tb_X11_close C) 26 = tr_iret := rfl
theorem a_X11_close_27 (C : Nat → Sp) : ta (tb_X11_close C) 27 = tr_aload 28 0 := rfl
theorem a_X11_close_28 (C : Nat → Sp) : ta (tb_X11_close C) 28 = tr_getR 31 12 1101 := rfl
theorem a_X11_close_31 (C : Nat → Sp) : ta (tb_X11_close C) 31 = tr_iload 32 1 := rfl
theorem a_X11_close_32 (C : Nat → Sp) : ta (tb_X11_close C) 32 = tr_callV (C 20) 35 3 1 := rfl
theorem a_X11_close_35 (C : Nat → Sp) : ta (tb_X11_close C) 35 = tr_iret := rfl

def tb_X11_listen_0 (C : Nat → Sp) : Tab := [(0, tr_aload 1 0), (1, tr_getR 4 12 1100), (4, tr_iload 5 1), (5, tr_callV (C 24) 8 5 1), (8, tr_astore 10 5), (10, tr_aload 12 5), (12, tr_ifnull 15 22), (15, tr_iload 16 2), (16, tr_callS (C 92) 19 1), (19, tr_ifne 22 24), (22, tr_ic 23 (-1)), (23, tr_iret), (24, tr_iload 26 4), (26, tr_ic 28 (-4)), (28, tr_iceq 31 45), (31, tr_aload 32 0), (32, tr_getR 35 12 1101), (35, tr_iload 37 4), (37, tr_callV (C 17) 40 3 1), (40, tr_ifne 43 45), (43, tr_ic 44 (-1)), (44, tr_iret), (45, tr_aload 46 0), (46, tr_getR 49 12 1101), (49, tr_iload 51 4), (51, tr_callV (C 19) 54 3 1), (54, tr_ifne 57 60), (57, tr_ic 59 (-2)), (59, tr_iret), (60, tr_aload 61 0), (61, tr_getR 64 12 1101), (64, tr_callV (C 9) 67 3 0), (67, tr_ifeq 70 73), (70, tr_ic 72 (-3)), (72, tr_iret), (73, tr_new 76 6 13), (76, tr_dup 77), (77, tr_aload 78 0), (78, tr_getR 81 12 1101), (81, tr_getI 84 3 203)]
set_option maxRecDepth 20000 in
theorem tbk_X11_listen_0 {D : DD} {d : Nat} {C : Nat → Sp} (hC : Snd D d C) : ∀ e ∈ tb_X11_listen_0 C, TrOk D (d + 1) mi_X11_listen e.1 e.2 :=
  tk_c (show TrOk D (d + 1) mi_X11_listen 0 (tr_aload 1 0) from ok_aload_n (show decode mi_X11_listen.2.1 0 = .ok (.aload_n 0, 1) from by decide +kernel) rfl) <|
  tk_c (show TrOk D (d + 1) mi_X11_listen 1 (tr_getR 4 12 1100) from ok_getR (ci := 11) (k := 0) (show decode mi_X11_listen.2.1 1 = .ok (.getfield 12, 3) from by decide +kernel) rfl (by decide) (gm 286 (by decide +kernel) rfl) rfl) <|
  tk_c (show TrOk D (d + 1) mi_X11_listen 4 (tr_iload 5 1) from ok_iload_n (show decode mi_X11_listen.2.1 4 = .ok (.iload_n 1, 1) from by decide +kernel) rfl) <|
  tk_c (show TrOk D (d + 1) mi_X11_listen 5 (tr_callV (C 24) 8 5 1) from ok_callV (ci := 4) (show decode mi_X11_listen.2.1 5 = .ok (.invokevirtual 53, 3) from by decide +kernel) mok_X4_find rfl rfl (gm 309 (by decide +kernel) rfl) (gm 310 (by decide +kernel) rfl) (gm 311 (by decide +kernel) rfl) (hC 24)) <|
  tk_c (show TrOk D (d + 1) mi_X11_listen 8 (tr_astore 10 5) from ok_astore (show decode mi_X11_listen.2.1 8 = .ok (.astore 5, 2) from by decide +kernel) (by decide)) <|
  tk_c (show TrOk D (d + 1) mi_X11_listen 10 (tr_aload 12 5) from ok_aload (show decode mi_X11_listen.2.1 10 = .ok (.aload 5, 2) from by decide +kernel)) <|
  tk_c (show TrOk D (d + 1) mi_X11_listen 12 (tr_ifnull 15 22) from ok_ifnull (show decode mi_X11_listen.2.1 12 = .ok (.ifnull 10, 3) from by decide +kernel) (by decide)) <|
  tk_c (show TrOk D (d + 1) mi_X11_listen 15 (tr_iload 16 2) from ok_iload_n (show decode mi_X11_listen.2.1 15 = .ok (.iload_n 2, 1) from by decide +kernel) rfl) <|
  tk_c (show TrOk D (d + 1) mi_X11_listen 16 (tr_callS (C 92) 19 1) from ok_callS (show decode mi_X11_listen.2.1 16 = .ok (.invokestatic 82, 3) from by decide +kernel) mok_X11_isPhase (gm 373 (by decide +kernel) rfl) (gm 374 (by decide +kernel) rfl) (hC 92)) <|
  tk_c (show TrOk D (d + 1) mi_X11_listen 19 (tr_ifne 22 24) from ok_ifne (show decode mi_X11_listen.2.1 19 = .ok (.ifCond .ne 5, 3) from by decide +kernel) (by decide)) <|
  tk_c (show TrOk D (d + 1) mi_X11_listen 22 (tr_ic 23 (-1)) from ok_iconst (show decode mi_X11_listen.2.1 22 = .ok (.iconst (-1), 1) from by decide +kernel) rfl) <|
  tk_c (show TrOk D (d + 1) mi_X11_listen 23 (tr_iret) from ok_iret (show decode mi_X11_listen.2.1 23 = .ok (.ireturn, 1) from by decide +kernel) rfl) <|
  tk_c (show TrOk D (d + 1) mi_X11_listen 24 (tr_iload 26 4) from ok_iload (show decode mi_X11_listen.2.1 24 = .ok (.iload 4, 2) from by decide +kernel)) <|
  tk_c (show TrOk D (d + 1) mi_X11_listen 26 (tr_ic 28 (-4)) from ok_bipush (show decode mi_X11_listen.2.1 26 = .ok (.bipush (-4), 2) from by decide +kernel) rfl) <|
  tk_c (show TrOk D (d + 1) mi_X11_listen 28 (tr_iceq 31 45) from ok_iceq (show decode mi_X11_listen.2.1 28 = .ok (.if_icmp .eq 17, 3) from by decide +kernel) (by decide)) <|
  tk_c (show TrOk D (d + 1) mi_X11_listen 31 (tr_aload 32 0) from ok_aload_n (show decode mi_X11_listen.2.1 31 = .ok (.aload_n 0, 1) from by decide +kernel) rfl) <|
  tk_c (show TrOk D (d + 1) mi_X11_listen 32 (tr_getR 35 12 1101) from ok_getR (ci := 11) (k := 1) (show decode mi_X11_listen.2.1 32 = .ok (.getfield 19, 3) from by decide +kernel) rfl (by decide) (gm 287 (by decide +kernel) rfl) rfl) <|
  tk_c (show TrOk D (d + 1) mi_X11_listen 35 (tr_iload 37 4) from ok_iload (show decode mi_X11_listen.2.1 35 = .ok (.iload 4, 2) from by decide +kernel)) <|
  tk_c (show TrOk D (d + 1) mi_X11_listen 37 (tr_callV (C 17) 40 3 1) from ok_callV (ci := 2) (show decode mi_X11_listen.2.1 37 = .ok (.invokevirtual 71, 3) from by decide +kernel) mok_X2_hadScene rfl rfl (gm 351 (by decide +kernel) rfl) (gm 352 (by decide +kernel) rfl) (gm 353 (by decide +kernel) rfl) (hC 17)) <|
  tk_c (show TrOk D (d + 1) mi_X11_listen 40 (tr_ifne 43 45) from ok_ifne (show decode mi_X11_listen.2.1 40 = .ok (.ifCond .ne 5, 3) from by decide +kernel) (by decide)) <|
  tk_c (show TrOk D (d + 1) mi_X11_listen 43 (tr_ic 44 (-1)) from ok_iconst (show decode mi_X11_listen.2.1 43 = .ok (.iconst (-1), 1) from by decide +kernel) rfl) <|
  tk_c (show TrOk D (d + 1) mi_X11_listen 44 (tr_iret) from ok_iret (show decode mi_X11_listen.2.1 44 = .ok (.ireturn, 1) from by decide +kernel) rfl) <|
  tk_c (show TrOk D (d + 1) mi_X11_listen 45 (tr_aload 46 0) from ok_aload_n (show decode mi_X11_listen.2.1 45 = .ok (.aload_n 0, 1) from by decide +kernel) rfl) <|
  tk_c (show TrOk D (d + 1) mi_X11_listen 46 (tr_getR 49 12 1101) from ok_getR (ci := 11) (k := 1) (show decode mi_X11_listen.2.1 46 = .ok (.getfield 19, 3) from by decide +kernel) rfl (by decide) (gm 287 (by decide +kernel) rfl) rfl) <|
  tk_c (show TrOk D (d + 1) mi_X11_listen 49 (tr_iload 51 4) from ok_iload (show decode mi_X11_listen.2.1 49 = .ok (.iload 4, 2) from by decide +kernel)) <|
  tk_c (show TrOk D (d + 1) mi_X11_listen 51 (tr_callV (C 19) 54 3 1) from ok_callV (ci := 2) (show decode mi_X11_listen.2.1 51 = .ok (.invokevirtual 85, 3) from by decide +kernel) mok_X2_admits rfl rfl (gm 376 (by decide +kernel) rfl) (gm 377 (by decide +kernel) rfl) (gm 378 (by decide +kernel) rfl) (hC 19)) <|
  tk_c (show TrOk D (d + 1) mi_X11_listen 54 (tr_ifne 57 60) from ok_ifne (show decode mi_X11_listen.2.1 54 = .ok (.ifCond .ne 6, 3) from by decide +kernel) (by decide)) <|
  tk_c (show TrOk D (d + 1) mi_X11_listen 57 (tr_ic 59 (-2)) from ok_bipush (show decode mi_X11_listen.2.1 57 = .ok (.bipush (-2), 2) from by decide +kernel) rfl) <|
  tk_c (show TrOk D (d + 1) mi_X11_listen 59 (tr_iret) from ok_iret (show decode mi_X11_listen.2.1 59 = .ok (.ireturn, 1) from by decide +kernel) rfl) <|
  tk_c (show TrOk D (d + 1) mi_X11_listen 60 (tr_aload 61 0) from ok_aload_n (show decode mi_X11_listen.2.1 60 = .ok (.aload_n 0, 1) from by decide +kernel) rfl) <|
  tk_c (show TrOk D (d + 1) mi_X11_listen 61 (tr_getR 64 12 1101) from ok_getR (ci := 11) (k := 1) (show decode mi_X11_listen.2.1 61 = .ok (.getfield 19, 3) from by decide +kernel) rfl (by decide) (gm 287 (by decide +kernel) rfl) rfl) <|
  tk_c (show TrOk D (d + 1) mi_X11_listen 64 (tr_callV (C 9) 67 3 0) from ok_callV (ci := 2) (show decode mi_X11_listen.2.1 64 = .ok (.invokevirtual 88, 3) from by decide +kernel) mok_X2_isFull rfl rfl (gm 380 (by decide +kernel) rfl) (gm 381 (by decide +kernel) rfl) (gm 382 (by decide +kernel) rfl) (hC 9)) <|
  tk_c (show TrOk D (d + 1) mi_X11_listen 67 (tr_ifeq 70 73) from ok_ifeq (show decode mi_X11_listen.2.1 67 = .ok (.ifCond .eq 6, 3) from by decide +kernel) (by decide)) <|
  tk_c (show TrOk D (d + 1) mi_X11_listen 70 (tr_ic 72 (-3)) from ok_bipush (show decode mi_X11_listen.2.1 70 = .ok (.bipush (-3), 2) from by decide +kernel) rfl) <|
  tk_c (show TrOk D (d + 1) mi_X11_listen 72 (tr_iret) from ok_iret (show decode mi_X11_listen.2.1 72 = .ok (.ireturn, 1) from by decide +kernel) rfl) <|
  tk_c (show TrOk D (d + 1) mi_X11_listen 73 (tr_new 76 6 13) from ok_new (ci := 5) (show decode mi_X11_listen.2.1 73 = .ok (.new 92, 3) from by decide +kernel) rfl (gm 384 (by decide +kernel) rfl) (gm 385 (by decide +kernel) rfl) (gm 41 (by decide +kernel) rfl)) <|
  tk_c (show TrOk D (d + 1) mi_X11_listen 76 (tr_dup 77) from ok_dup (show decode mi_X11_listen.2.1 76 = .ok (.dup, 1) from by decide +kernel)) <|
  tk_c (show TrOk D (d + 1) mi_X11_listen 77 (tr_aload 78 0) from ok_aload_n (show decode mi_X11_listen.2.1 77 = .ok (.aload_n 0, 1) from by decide +kernel) rfl) <|
  tk_c (show TrOk D (d + 1) mi_X11_listen 78 (tr_getR 81 12 1101) from ok_getR (ci := 11) (k := 1) (show decode mi_X11_listen.2.1 78 = .ok (.getfield 19, 3) from by decide +kernel) rfl (by decide) (gm 287 (by decide +kernel) rfl) rfl) <|
  tk_c (show TrOk D (d + 1) mi_X11_listen 81 (tr_getI 84 3 203) from ok_getI (ci := 2) (k := 3) (show decode mi_X11_listen.2.1 81 = .ok (.getfield 94, 3) from by decide +kernel) rfl (by decide) (gm 81 (by decide +kernel) rfl) rfl) <|
  tk_n
def tb_X11_listen_1 (C : Nat → Sp) : Tab := [(84, tr_aload 86 5), (86, tr_iload 87 2), (87, tr_iload 88 3), (88, tr_iload 90 4), (90, tr_callI (C 26) 93 5), (93, tr_astore 95 6), (95, tr_aload 96 0), (96, tr_getR 99 12 1101), (99, tr_aload 101 6), (101, tr_callV (C 10) 104 3 1), (104, tr_aload 106 6), (106, tr_getI 109 6 500), (109, tr_iret)]
set_option maxRecDepth 20000 in
theorem tbk_X11_listen_1 {D : DD} {d : Nat} {C : Nat → Sp} (hC : Snd D d C) : ∀ e ∈ tb_X11_listen_1 C, TrOk D (d + 1) mi_X11_listen e.1 e.2 :=
  tk_c (show TrOk D (d + 1) mi_X11_listen 84 (tr_aload 86 5) from ok_aload (show decode mi_X11_listen.2.1 84 = .ok (.aload 5, 2) from by decide +kernel)) <|
  tk_c (show TrOk D (d + 1) mi_X11_listen 86 (tr_iload 87 2) from ok_iload_n (show decode mi_X11_listen.2.1 86 = .ok (.iload_n 2, 1) from by decide +kernel) rfl) <|
  tk_c (show TrOk D (d + 1) mi_X11_listen 87 (tr_iload 88 3) from ok_iload_n (show decode mi_X11_listen.2.1 87 = .ok (.iload_n 3, 1) from by decide +kernel) rfl) <|
  tk_c (show TrOk D (d + 1) mi_X11_listen 88 (tr_iload 90 4) from ok_iload (show decode mi_X11_listen.2.1 88 = .ok (.iload 4, 2) from by decide +kernel)) <|
  tk_c (show TrOk D (d + 1) mi_X11_listen 90 (tr_callI (C 26) 93 5) from ok_callI (show decode mi_X11_listen.2.1 90 = .ok (.invokespecial 97, 3) from by decide +kernel) mok_X5_init rfl rfl (gm 386 (by decide +kernel) rfl) (gm 387 (by decide +kernel) rfl) (hC 26)) <|
  tk_c (show TrOk D (d + 1) mi_X11_listen 93 (tr_astore 95 6) from ok_astore (show decode mi_X11_listen.2.1 93 = .ok (.astore 6, 2) from by decide +kernel) (by decide)) <|
  tk_c (show TrOk D (d + 1) mi_X11_listen 95 (tr_aload 96 0) from ok_aload_n (show decode mi_X11_listen.2.1 95 = .ok (.aload_n 0, 1) from by decide +kernel) rfl) <|
  tk_c (show TrOk D (d + 1) mi_X11_listen 96 (tr_getR 99 12 1101) from ok_getR (ci := 11) (k := 1) (show decode mi_X11_listen.2.1 96 = .ok (.getfield 19, 3) from by decide +kernel) rfl (by decide) (gm 287 (by decide +kernel) rfl) rfl) <|
  tk_c (show TrOk D (d + 1) mi_X11_listen 99 (tr_aload 101 6) from ok_aload (show decode mi_X11_listen.2.1 99 = .ok (.aload 6, 2) from by decide +kernel)) <|
  tk_c (show TrOk D (d + 1) mi_X11_listen 101 (tr_callV (C 10) 104 3 1) from ok_callV (ci := 2) (show decode mi_X11_listen.2.1 101 = .ok (.invokevirtual 100, 3) from by decide +kernel) mok_X2_seat rfl rfl (gm 477 (by decide +kernel) rfl) (gm 478 (by decide +kernel) rfl) (gm 479 (by decide +kernel) rfl) (hC 10)) <|
  tk_c (show TrOk D (d + 1) mi_X11_listen 104 (tr_aload 106 6) from ok_aload (show decode mi_X11_listen.2.1 104 = .ok (.aload 6, 2) from by decide +kernel)) <|
  tk_c (show TrOk D (d + 1) mi_X11_listen 106 (tr_getI 109 6 500) from ok_getI (ci := 5) (k := 0) (show decode mi_X11_listen.2.1 106 = .ok (.getfield 104, 3) from by decide +kernel) rfl (by decide) (gm 414 (by decide +kernel) rfl) rfl) <|
  tk_c (show TrOk D (d + 1) mi_X11_listen 109 (tr_iret) from ok_iret (show decode mi_X11_listen.2.1 109 = .ok (.ireturn, 1) from by decide +kernel) rfl) <|
  tk_n
def tb_X11_listen (C : Nat → Sp) : Tab := tb_X11_listen_0 C ++ (tb_X11_listen_1 C)
theorem tbk_X11_listen {D : DD} {d : Nat} {C : Nat → Sp} (hC : Snd D d C) : ∀ e ∈ tb_X11_listen C, TrOk D (d + 1) mi_X11_listen e.1 e.2 := tk_a (tbk_X11_listen_0 hC) (tbk_X11_listen_1 hC)
theorem a_X11_listen_0 (C : Nat → Sp) : ta (tb_X11_listen C) 0 = tr_aload 1 0 := rfl
theorem a_X11_listen_1 (C : Nat → Sp) : ta (tb_X11_listen C) 1 = tr_getR 4 12 1100 := rfl
theorem a_X11_listen_4 (C : Nat → Sp) : ta (tb_X11_listen C) 4 = tr_iload 5 1 := rfl
theorem a_X11_listen_5 (C : Nat → Sp) : ta (tb_X11_listen C) 5 = tr_callV (C 24) 8 5 1 := rfl
theorem a_X11_listen_8 (C : Nat → Sp) : ta (tb_X11_listen C) 8 = tr_astore 10 5 := rfl
theorem a_X11_listen_10 (C : Nat → Sp) : ta (tb_X11_listen C) 10 = tr_aload 12 5 := rfl
theorem a_X11_listen_12 (C : Nat → Sp) : ta (tb_X11_listen C) 12 = tr_ifnull 15 22 := rfl
theorem a_X11_listen_15 (C : Nat → Sp) : ta (tb_X11_listen C) 15 = tr_iload 16 2 := rfl
theorem a_X11_listen_16 (C : Nat → Sp) : ta (tb_X11_listen C) 16 = tr_callS (C 92) 19 1 := rfl
theorem a_X11_listen_19 (C : Nat → Sp) : ta (tb_X11_listen C) 19 = tr_ifne 22 24 := rfl
theorem a_X11_listen_22 (C : Nat → Sp) : ta (tb_X11_listen C) 22 = tr_ic 23 (-1) := rfl
theorem a_X11_listen_23 (C : Nat → Sp) : ta (tb_X11_listen C) 23 = tr_iret := rfl
theorem a_X11_listen_24 (C : Nat → Sp) : ta (tb_X11_listen C) 24 = tr_iload 26 4 := rfl
theorem a_X11_listen_26 (C : Nat → Sp) : ta (tb_X11_listen C) 26 = tr_ic 28 (-4) := rfl
theorem a_X11_listen_28 (C : Nat → Sp) : ta (tb_X11_listen C) 28 = tr_iceq 31 45 := rfl
theorem a_X11_listen_31 (C : Nat → Sp) : ta (tb_X11_listen C) 31 = tr_aload 32 0 := rfl
theorem a_X11_listen_32 (C : Nat → Sp) : ta (tb_X11_listen C) 32 = tr_getR 35 12 1101 := rfl
theorem a_X11_listen_35 (C : Nat → Sp) : ta (tb_X11_listen C) 35 = tr_iload 37 4 := rfl
theorem a_X11_listen_37 (C : Nat → Sp) : ta (tb_X11_listen C) 37 = tr_callV (C 17) 40 3 1 := rfl
theorem a_X11_listen_40 (C : Nat → Sp) : ta (tb_X11_listen C) 40 = tr_ifne 43 45 := rfl
theorem a_X11_listen_43 (C : Nat → Sp) : ta (tb_X11_listen C) 43 = tr_ic 44 (-1) := rfl
theorem a_X11_listen_44 (C : Nat → Sp) : ta (tb_X11_listen C) 44 = tr_iret := rfl
theorem a_X11_listen_45 (C : Nat → Sp) : ta (tb_X11_listen C) 45 = tr_aload 46 0 := rfl
theorem a_X11_listen_46 (C : Nat → Sp) : ta (tb_X11_listen C) 46 = tr_getR 49 12 1101 := rfl
theorem a_X11_listen_49 (C : Nat → Sp) : ta (tb_X11_listen C) 49 = tr_iload 51 4 := rfl
theorem a_X11_listen_51 (C : Nat → Sp) : ta (tb_X11_listen C) 51 = tr_callV (C 19) 54 3 1 := rfl
theorem a_X11_listen_54 (C : Nat → Sp) : ta (tb_X11_listen C) 54 = tr_ifne 57 60 := rfl
theorem a_X11_listen_57 (C : Nat → Sp) : ta (tb_X11_listen C) 57 = tr_ic 59 (-2) := rfl
theorem a_X11_listen_59 (C : Nat → Sp) : ta (tb_X11_listen C) 59 = tr_iret := rfl
theorem a_X11_listen_60 (C : Nat → Sp) : ta (tb_X11_listen C) 60 = tr_aload 61 0 := rfl
theorem a_X11_listen_61 (C : Nat → Sp) : ta (tb_X11_listen C) 61 = tr_getR 64 12 1101 := rfl
theorem a_X11_listen_64 (C : Nat → Sp) : ta (tb_X11_listen C) 64 = tr_callV (C 9) 67 3 0 := rfl
theorem a_X11_listen_67 (C : Nat → Sp) : ta (tb_X11_listen C) 67 = tr_ifeq 70 73 := rfl
theorem a_X11_listen_70 (C : Nat → Sp) : ta (tb_X11_listen C) 70 = tr_ic 72 (-3) := rfl
theorem a_X11_listen_72 (C : Nat → Sp) : ta (tb_X11_listen C) 72 = tr_iret := rfl
theorem a_X11_listen_73 (C : Nat → Sp) : ta (tb_X11_listen C) 73 = tr_new 76 6 13 := rfl
theorem a_X11_listen_76 (C : Nat → Sp) : ta (tb_X11_listen C) 76 = tr_dup 77 := rfl
theorem a_X11_listen_77 (C : Nat → Sp) : ta (tb_X11_listen C) 77 = tr_aload 78 0 := rfl
theorem a_X11_listen_78 (C : Nat → Sp) : ta (tb_X11_listen C) 78 = tr_getR 81 12 1101 := rfl
theorem a_X11_listen_81 (C : Nat → Sp) : ta (tb_X11_listen C) 81 = tr_getI 84 3 203 := rfl
theorem a_X11_listen_84 (C : Nat → Sp) : ta (tb_X11_listen C) 84 = tr_aload 86 5 := rfl
theorem a_X11_listen_86 (C : Nat → Sp) : ta (tb_X11_listen C) 86 = tr_iload 87 2 := rfl
theorem a_X11_listen_87 (C : Nat → Sp) : ta (tb_X11_listen C) 87 = tr_iload 88 3 := rfl
theorem a_X11_listen_88 (C : Nat → Sp) : ta (tb_X11_listen C) 88 = tr_iload 90 4 := rfl
theorem a_X11_listen_90 (C : Nat → Sp) : ta (tb_X11_listen C) 90 = tr_callI (C 26) 93 5 := rfl
theorem a_X11_listen_93 (C : Nat → Sp) : ta (tb_X11_listen C) 93 = tr_astore 95 6 := rfl
theorem a_X11_listen_95 (C : Nat → Sp) : ta (tb_X11_listen C) 95 = tr_aload 96 0 := rfl
theorem a_X11_listen_96 (C : Nat → Sp) : ta (tb_X11_listen C) 96 = tr_getR 99 12 1101 := rfl
theorem a_X11_listen_99 (C : Nat → Sp) : ta (tb_X11_listen C) 99 = tr_aload 101 6 := rfl
theorem a_X11_listen_101 (C : Nat → Sp) : ta (tb_X11_listen C) 101 = tr_callV (C 10) 104 3 1 := rfl
theorem a_X11_listen_104 (C : Nat → Sp) : ta (tb_X11_listen C) 104 = tr_aload 106 6 := rfl
theorem a_X11_listen_106 (C : Nat → Sp) : ta (tb_X11_listen C) 106 = tr_getI 109 6 500 := rfl
theorem a_X11_listen_109 (C : Nat → Sp) : ta (tb_X11_listen C) 109 = tr_iret := rfl

def tb_X11_filter_0 (C : Nat → Sp) : Tab := [(0, tr_aload 1 0), (1, tr_getR 4 12 1101), (4, tr_iload 5 1), (5, tr_callV (C 7) 8 3 1), (8, tr_astore 10 6), (10, tr_aload 12 6), (12, tr_ifnull 15 22), (15, tr_lload 17 4), (17, tr_lload 18 2), (18, tr_lcmp 19), (19, tr_ifge 22 24), (22, tr_ic 23 (-1)), (23, tr_iret), (24, tr_aload 26 6), (26, tr_getI 29 6 509), (29, tr_ifne 32 35), (32, tr_ic 34 (-2)), (34, tr_iret), (35, tr_aload 37 6), (37, tr_lload 38 2), (38, tr_putL 41 6 506), (41, tr_aload 43 6), (43, tr_lload 45 4), (45, tr_putL 48 6 507), (48, tr_ic 49 1), (49, tr_iret)]
set_option maxRecDepth 20000 in
theorem tbk_X11_filter_0 {D : DD} {d : Nat} {C : Nat → Sp} (hC : Snd D d C) : ∀ e ∈ tb_X11_filter_0 C, TrOk D (d + 1) mi_X11_filter e.1 e.2 :=
  tk_c (show TrOk D (d + 1) mi_X11_filter 0 (tr_aload 1 0) from ok_aload_n (show decode mi_X11_filter.2.1 0 = .ok (.aload_n 0, 1) from by decide +kernel) rfl) <|
  tk_c (show TrOk D (d + 1) mi_X11_filter 1 (tr_getR 4 12 1101) from ok_getR (ci := 11) (k := 1) (show decode mi_X11_filter.2.1 1 = .ok (.getfield 19, 3) from by decide +kernel) rfl (by decide) (gm 287 (by decide +kernel) rfl) rfl) <|
  tk_c (show TrOk D (d + 1) mi_X11_filter 4 (tr_iload 5 1) from ok_iload_n (show decode mi_X11_filter.2.1 4 = .ok (.iload_n 1, 1) from by decide +kernel) rfl) <|
  tk_c (show TrOk D (d + 1) mi_X11_filter 5 (tr_callV (C 7) 8 3 1) from ok_callV (ci := 2) (show decode mi_X11_filter.2.1 5 = .ok (.invokevirtual 107, 3) from by decide +kernel) mok_X2_find rfl rfl (gm 495 (by decide +kernel) rfl) (gm 496 (by decide +kernel) rfl) (gm 497 (by decide +kernel) rfl) (hC 7)) <|
  tk_c (show TrOk D (d + 1) mi_X11_filter 8 (tr_astore 10 6) from ok_astore (show decode mi_X11_filter.2.1 8 = .ok (.astore 6, 2) from by decide +kernel) (by decide)) <|
  tk_c (show TrOk D (d + 1) mi_X11_filter 10 (tr_aload 12 6) from ok_aload (show decode mi_X11_filter.2.1 10 = .ok (.aload 6, 2) from by decide +kernel)) <|
  tk_c (show TrOk D (d + 1) mi_X11_filter 12 (tr_ifnull 15 22) from ok_ifnull (show decode mi_X11_filter.2.1 12 = .ok (.ifnull 10, 3) from by decide +kernel) (by decide)) <|
  tk_c (show TrOk D (d + 1) mi_X11_filter 15 (tr_lload 17 4) from ok_lload (show decode mi_X11_filter.2.1 15 = .ok (.lload 4, 2) from by decide +kernel)) <|
  tk_c (show TrOk D (d + 1) mi_X11_filter 17 (tr_lload 18 2) from ok_lload_n (show decode mi_X11_filter.2.1 17 = .ok (.lload_n 2, 1) from by decide +kernel) rfl) <|
  tk_c (show TrOk D (d + 1) mi_X11_filter 18 (tr_lcmp 19) from ok_lcmp (show decode mi_X11_filter.2.1 18 = .ok (.lcmp, 1) from by decide +kernel)) <|
  tk_c (show TrOk D (d + 1) mi_X11_filter 19 (tr_ifge 22 24) from ok_ifge (show decode mi_X11_filter.2.1 19 = .ok (.ifCond .ge 5, 3) from by decide +kernel) (by decide)) <|
  tk_c (show TrOk D (d + 1) mi_X11_filter 22 (tr_ic 23 (-1)) from ok_iconst (show decode mi_X11_filter.2.1 22 = .ok (.iconst (-1), 1) from by decide +kernel) rfl) <|
  tk_c (show TrOk D (d + 1) mi_X11_filter 23 (tr_iret) from ok_iret (show decode mi_X11_filter.2.1 23 = .ok (.ireturn, 1) from by decide +kernel) rfl) <|
  tk_c (show TrOk D (d + 1) mi_X11_filter 24 (tr_aload 26 6) from ok_aload (show decode mi_X11_filter.2.1 24 = .ok (.aload 6, 2) from by decide +kernel)) <|
  tk_c (show TrOk D (d + 1) mi_X11_filter 26 (tr_getI 29 6 509) from ok_getI (ci := 5) (k := 9) (show decode mi_X11_filter.2.1 26 = .ok (.getfield 110, 3) from by decide +kernel) rfl (by decide) (gm 442 (by decide +kernel) rfl) rfl) <|
  tk_c (show TrOk D (d + 1) mi_X11_filter 29 (tr_ifne 32 35) from ok_ifne (show decode mi_X11_filter.2.1 29 = .ok (.ifCond .ne 6, 3) from by decide +kernel) (by decide)) <|
  tk_c (show TrOk D (d + 1) mi_X11_filter 32 (tr_ic 34 (-2)) from ok_bipush (show decode mi_X11_filter.2.1 32 = .ok (.bipush (-2), 2) from by decide +kernel) rfl) <|
  tk_c (show TrOk D (d + 1) mi_X11_filter 34 (tr_iret) from ok_iret (show decode mi_X11_filter.2.1 34 = .ok (.ireturn, 1) from by decide +kernel) rfl) <|
  tk_c (show TrOk D (d + 1) mi_X11_filter 35 (tr_aload 37 6) from ok_aload (show decode mi_X11_filter.2.1 35 = .ok (.aload 6, 2) from by decide +kernel)) <|
  tk_c (show TrOk D (d + 1) mi_X11_filter 37 (tr_lload 38 2) from ok_lload_n (show decode mi_X11_filter.2.1 37 = .ok (.lload_n 2, 1) from by decide +kernel) rfl) <|
  tk_c (show TrOk D (d + 1) mi_X11_filter 38 (tr_putL 41 6 506) from ok_putL (ci := 5) (k := 6) (show decode mi_X11_filter.2.1 38 = .ok (.putfield 114, 3) from by decide +kernel) rfl (by decide) (gm 433 (by decide +kernel) rfl) rfl (Or.inl rfl)) <|
  tk_c (show TrOk D (d + 1) mi_X11_filter 41 (tr_aload 43 6) from ok_aload (show decode mi_X11_filter.2.1 41 = .ok (.aload 6, 2) from by decide +kernel)) <|
  tk_c (show TrOk D (d + 1) mi_X11_filter 43 (tr_lload 45 4) from ok_lload (show decode mi_X11_filter.2.1 43 = .ok (.lload 4, 2) from by decide +kernel)) <|
  tk_c (show TrOk D (d + 1) mi_X11_filter 45 (tr_putL 48 6 507) from ok_putL (ci := 5) (k := 7) (show decode mi_X11_filter.2.1 45 = .ok (.putfield 118, 3) from by decide +kernel) rfl (by decide) (gm 436 (by decide +kernel) rfl) rfl (Or.inl rfl)) <|
  tk_c (show TrOk D (d + 1) mi_X11_filter 48 (tr_ic 49 1) from ok_iconst (show decode mi_X11_filter.2.1 48 = .ok (.iconst 1, 1) from by decide +kernel) rfl) <|
  tk_c (show TrOk D (d + 1) mi_X11_filter 49 (tr_iret) from ok_iret (show decode mi_X11_filter.2.1 49 = .ok (.ireturn, 1) from by decide +kernel) rfl) <|
  tk_n
def tb_X11_filter (C : Nat → Sp) : Tab := tb_X11_filter_0 C
theorem tbk_X11_filter {D : DD} {d : Nat} {C : Nat → Sp} (hC : Snd D d C) : ∀ e ∈ tb_X11_filter C, TrOk D (d + 1) mi_X11_filter e.1 e.2 := tbk_X11_filter_0 hC
theorem a_X11_filter_0 (C : Nat → Sp) : ta (tb_X11_filter C) 0 = tr_aload 1 0 := rfl
theorem a_X11_filter_1 (C : Nat → Sp) : ta (tb_X11_filter C) 1 = tr_getR 4 12 1101 := rfl
theorem a_X11_filter_4 (C : Nat → Sp) : ta (tb_X11_filter C) 4 = tr_iload 5 1 := rfl
theorem a_X11_filter_5 (C : Nat → Sp) : ta (tb_X11_filter C) 5 = tr_callV (C 7) 8 3 1 := rfl
theorem a_X11_filter_8 (C : Nat → Sp) : ta (tb_X11_filter C) 8 = tr_astore 10 6 := rfl
theorem a_X11_filter_10 (C : Nat → Sp) : ta (tb_X11_filter C) 10 = tr_aload 12 6 := rfl
theorem a_X11_filter_12 (C : Nat → Sp) : ta (tb_X11_filter C) 12 = tr_ifnull 15 22 := rfl
theorem a_X11_filter_15 (C : Nat → Sp) : ta (tb_X11_filter C) 15 = tr_lload 17 4 := rfl
theorem a_X11_filter_17 (C : Nat → Sp) : ta (tb_X11_filter C) 17 = tr_lload 18 2 := rfl
theorem a_X11_filter_18 (C : Nat → Sp) : ta (tb_X11_filter C) 18 = tr_lcmp 19 := rfl
theorem a_X11_filter_19 (C : Nat → Sp) : ta (tb_X11_filter C) 19 = tr_ifge 22 24 := rfl
theorem a_X11_filter_22 (C : Nat → Sp) : ta (tb_X11_filter C) 22 = tr_ic 23 (-1) := rfl
theorem a_X11_filter_23 (C : Nat → Sp) : ta (tb_X11_filter C) 23 = tr_iret := rfl
theorem a_X11_filter_24 (C : Nat → Sp) : ta (tb_X11_filter C) 24 = tr_aload 26 6 := rfl
theorem a_X11_filter_26 (C : Nat → Sp) : ta (tb_X11_filter C) 26 = tr_getI 29 6 509 := rfl
theorem a_X11_filter_29 (C : Nat → Sp) : ta (tb_X11_filter C) 29 = tr_ifne 32 35 := rfl
theorem a_X11_filter_32 (C : Nat → Sp) : ta (tb_X11_filter C) 32 = tr_ic 34 (-2) := rfl
theorem a_X11_filter_34 (C : Nat → Sp) : ta (tb_X11_filter C) 34 = tr_iret := rfl
theorem a_X11_filter_35 (C : Nat → Sp) : ta (tb_X11_filter C) 35 = tr_aload 37 6 := rfl
theorem a_X11_filter_37 (C : Nat → Sp) : ta (tb_X11_filter C) 37 = tr_lload 38 2 := rfl
theorem a_X11_filter_38 (C : Nat → Sp) : ta (tb_X11_filter C) 38 = tr_putL 41 6 506 := rfl
theorem a_X11_filter_41 (C : Nat → Sp) : ta (tb_X11_filter C) 41 = tr_aload 43 6 := rfl
theorem a_X11_filter_43 (C : Nat → Sp) : ta (tb_X11_filter C) 43 = tr_lload 45 4 := rfl
theorem a_X11_filter_45 (C : Nat → Sp) : ta (tb_X11_filter C) 45 = tr_putL 48 6 507 := rfl
theorem a_X11_filter_48 (C : Nat → Sp) : ta (tb_X11_filter C) 48 = tr_ic 49 1 := rfl
theorem a_X11_filter_49 (C : Nat → Sp) : ta (tb_X11_filter C) 49 = tr_iret := rfl

def tb_X11_once_0 (C : Nat → Sp) : Tab := [(0, tr_aload 1 0), (1, tr_getR 4 12 1101), (4, tr_iload 5 1), (5, tr_callV (C 7) 8 3 1), (8, tr_astore 9 3), (9, tr_aload 10 3), (10, tr_ifnonnull 13 15), (13, tr_ic 14 (-1)), (14, tr_iret), (15, tr_aload 16 3), (16, tr_getI 19 6 509), (19, tr_ifne 22 25), (22, tr_ic 24 (-2)), (24, tr_iret), (25, tr_aload 26 3), (26, tr_getI 29 6 508), (29, tr_callS (C 94) 32 1), (32, tr_istore 34 4), (34, tr_aload 35 3), (35, tr_iload 36 2), (36, tr_putZ 39 6 508), (39, tr_iload 41 4), (41, tr_iret)]
set_option maxRecDepth 20000 in
theorem tbk_X11_once_0 {D : DD} {d : Nat} {C : Nat → Sp} (hC : Snd D d C) : ∀ e ∈ tb_X11_once_0 C, TrOk D (d + 1) mi_X11_once e.1 e.2 :=
  tk_c (show TrOk D (d + 1) mi_X11_once 0 (tr_aload 1 0) from ok_aload_n (show decode mi_X11_once.2.1 0 = .ok (.aload_n 0, 1) from by decide +kernel) rfl) <|
  tk_c (show TrOk D (d + 1) mi_X11_once 1 (tr_getR 4 12 1101) from ok_getR (ci := 11) (k := 1) (show decode mi_X11_once.2.1 1 = .ok (.getfield 19, 3) from by decide +kernel) rfl (by decide) (gm 287 (by decide +kernel) rfl) rfl) <|
  tk_c (show TrOk D (d + 1) mi_X11_once 4 (tr_iload 5 1) from ok_iload_n (show decode mi_X11_once.2.1 4 = .ok (.iload_n 1, 1) from by decide +kernel) rfl) <|
  tk_c (show TrOk D (d + 1) mi_X11_once 5 (tr_callV (C 7) 8 3 1) from ok_callV (ci := 2) (show decode mi_X11_once.2.1 5 = .ok (.invokevirtual 107, 3) from by decide +kernel) mok_X2_find rfl rfl (gm 495 (by decide +kernel) rfl) (gm 496 (by decide +kernel) rfl) (gm 497 (by decide +kernel) rfl) (hC 7)) <|
  tk_c (show TrOk D (d + 1) mi_X11_once 8 (tr_astore 9 3) from ok_astore_n (show decode mi_X11_once.2.1 8 = .ok (.astore_n 3, 1) from by decide +kernel) rfl (by decide)) <|
  tk_c (show TrOk D (d + 1) mi_X11_once 9 (tr_aload 10 3) from ok_aload_n (show decode mi_X11_once.2.1 9 = .ok (.aload_n 3, 1) from by decide +kernel) rfl) <|
  tk_c (show TrOk D (d + 1) mi_X11_once 10 (tr_ifnonnull 13 15) from ok_ifnonnull (show decode mi_X11_once.2.1 10 = .ok (.ifnonnull 5, 3) from by decide +kernel) (by decide)) <|
  tk_c (show TrOk D (d + 1) mi_X11_once 13 (tr_ic 14 (-1)) from ok_iconst (show decode mi_X11_once.2.1 13 = .ok (.iconst (-1), 1) from by decide +kernel) rfl) <|
  tk_c (show TrOk D (d + 1) mi_X11_once 14 (tr_iret) from ok_iret (show decode mi_X11_once.2.1 14 = .ok (.ireturn, 1) from by decide +kernel) rfl) <|
  tk_c (show TrOk D (d + 1) mi_X11_once 15 (tr_aload 16 3) from ok_aload_n (show decode mi_X11_once.2.1 15 = .ok (.aload_n 3, 1) from by decide +kernel) rfl) <|
  tk_c (show TrOk D (d + 1) mi_X11_once 16 (tr_getI 19 6 509) from ok_getI (ci := 5) (k := 9) (show decode mi_X11_once.2.1 16 = .ok (.getfield 110, 3) from by decide +kernel) rfl (by decide) (gm 442 (by decide +kernel) rfl) rfl) <|
  tk_c (show TrOk D (d + 1) mi_X11_once 19 (tr_ifne 22 25) from ok_ifne (show decode mi_X11_once.2.1 19 = .ok (.ifCond .ne 6, 3) from by decide +kernel) (by decide)) <|
  tk_c (show TrOk D (d + 1) mi_X11_once 22 (tr_ic 24 (-2)) from ok_bipush (show decode mi_X11_once.2.1 22 = .ok (.bipush (-2), 2) from by decide +kernel) rfl) <|
  tk_c (show TrOk D (d + 1) mi_X11_once 24 (tr_iret) from ok_iret (show decode mi_X11_once.2.1 24 = .ok (.ireturn, 1) from by decide +kernel) rfl) <|
  tk_c (show TrOk D (d + 1) mi_X11_once 25 (tr_aload 26 3) from ok_aload_n (show decode mi_X11_once.2.1 25 = .ok (.aload_n 3, 1) from by decide +kernel) rfl) <|
  tk_c (show TrOk D (d + 1) mi_X11_once 26 (tr_getI 29 6 508) from ok_getI (ci := 5) (k := 8) (show decode mi_X11_once.2.1 26 = .ok (.getfield 121, 3) from by decide +kernel) rfl (by decide) (gm 439 (by decide +kernel) rfl) rfl) <|
  tk_c (show TrOk D (d + 1) mi_X11_once 29 (tr_callS (C 94) 32 1) from ok_callS (show decode mi_X11_once.2.1 29 = .ok (.invokestatic 124, 3) from by decide +kernel) mok_X11_asNumber (gm 503 (by decide +kernel) rfl) (gm 504 (by decide +kernel) rfl) (hC 94)) <|
  tk_c (show TrOk D (d + 1) mi_X11_once 32 (tr_istore 34 4) from ok_istore (show decode mi_X11_once.2.1 32 = .ok (.istore 4, 2) from by decide +kernel) (by decide)) <|
  tk_c (show TrOk D (d + 1) mi_X11_once 34 (tr_aload 35 3) from ok_aload_n (show decode mi_X11_once.2.1 34 = .ok (.aload_n 3, 1) from by decide +kernel) rfl) <|
  tk_c (show TrOk D (d + 1) mi_X11_once 35 (tr_iload 36 2) from ok_iload_n (show decode mi_X11_once.2.1 35 = .ok (.iload_n 2, 1) from by decide +kernel) rfl) <|
  tk_c (show TrOk D (d + 1) mi_X11_once 36 (tr_putZ 39 6 508) from ok_putZ (ci := 5) (k := 8) (show decode mi_X11_once.2.1 36 = .ok (.putfield 121, 3) from by decide +kernel) rfl (by decide) (gm 439 (by decide +kernel) rfl) rfl (Or.inl rfl)) <|
  tk_c (show TrOk D (d + 1) mi_X11_once 39 (tr_iload 41 4) from ok_iload (show decode mi_X11_once.2.1 39 = .ok (.iload 4, 2) from by decide +kernel)) <|
  tk_c (show TrOk D (d + 1) mi_X11_once 41 (tr_iret) from ok_iret (show decode mi_X11_once.2.1 41 = .ok (.ireturn, 1) from by decide +kernel) rfl) <|
  tk_n
def tb_X11_once (C : Nat → Sp) : Tab := tb_X11_once_0 C
theorem tbk_X11_once {D : DD} {d : Nat} {C : Nat → Sp} (hC : Snd D d C) : ∀ e ∈ tb_X11_once C, TrOk D (d + 1) mi_X11_once e.1 e.2 := tbk_X11_once_0 hC
theorem a_X11_once_0 (C : Nat → Sp) : ta (tb_X11_once C) 0 = tr_aload 1 0 := rfl
theorem a_X11_once_1 (C : Nat → Sp) : ta (tb_X11_once C) 1 = tr_getR 4 12 1101 := rfl
theorem a_X11_once_4 (C : Nat → Sp) : ta (tb_X11_once C) 4 = tr_iload 5 1 := rfl
theorem a_X11_once_5 (C : Nat → Sp) : ta (tb_X11_once C) 5 = tr_callV (C 7) 8 3 1 := rfl
theorem a_X11_once_8 (C : Nat → Sp) : ta (tb_X11_once C) 8 = tr_astore 9 3 := rfl
theorem a_X11_once_9 (C : Nat → Sp) : ta (tb_X11_once C) 9 = tr_aload 10 3 := rfl
theorem a_X11_once_10 (C : Nat → Sp) : ta (tb_X11_once C) 10 = tr_ifnonnull 13 15 := rfl
theorem a_X11_once_13 (C : Nat → Sp) : ta (tb_X11_once C) 13 = tr_ic 14 (-1) := rfl
theorem a_X11_once_14 (C : Nat → Sp) : ta (tb_X11_once C) 14 = tr_iret := rfl
theorem a_X11_once_15 (C : Nat → Sp) : ta (tb_X11_once C) 15 = tr_aload 16 3 := rfl
theorem a_X11_once_16 (C : Nat → Sp) : ta (tb_X11_once C) 16 = tr_getI 19 6 509 := rfl
theorem a_X11_once_19 (C : Nat → Sp) : ta (tb_X11_once C) 19 = tr_ifne 22 25 := rfl
theorem a_X11_once_22 (C : Nat → Sp) : ta (tb_X11_once C) 22 = tr_ic 24 (-2) := rfl
theorem a_X11_once_24 (C : Nat → Sp) : ta (tb_X11_once C) 24 = tr_iret := rfl
theorem a_X11_once_25 (C : Nat → Sp) : ta (tb_X11_once C) 25 = tr_aload 26 3 := rfl
theorem a_X11_once_26 (C : Nat → Sp) : ta (tb_X11_once C) 26 = tr_getI 29 6 508 := rfl
theorem a_X11_once_29 (C : Nat → Sp) : ta (tb_X11_once C) 29 = tr_callS (C 94) 32 1 := rfl
theorem a_X11_once_32 (C : Nat → Sp) : ta (tb_X11_once C) 32 = tr_istore 34 4 := rfl
theorem a_X11_once_34 (C : Nat → Sp) : ta (tb_X11_once C) 34 = tr_aload 35 3 := rfl
theorem a_X11_once_35 (C : Nat → Sp) : ta (tb_X11_once C) 35 = tr_iload 36 2 := rfl
theorem a_X11_once_36 (C : Nat → Sp) : ta (tb_X11_once C) 36 = tr_putZ 39 6 508 := rfl
theorem a_X11_once_39 (C : Nat → Sp) : ta (tb_X11_once C) 39 = tr_iload 41 4 := rfl
theorem a_X11_once_41 (C : Nat → Sp) : ta (tb_X11_once C) 41 = tr_iret := rfl

def tb_X11_step_0 (C : Nat → Sp) : Tab := [(0, tr_aload 1 0), (1, tr_getR 4 12 1101), (4, tr_iload 5 1), (5, tr_callV (C 7) 8 3 1), (8, tr_astore 10 4), (10, tr_aload 12 4), (12, tr_ifnull 15 25), (15, tr_iload 16 2), (16, tr_iflt 19 25), (19, tr_iload 20 2), (20, tr_ic 22 17), (22, tr_icle 25 27), (25, tr_ic 26 (-1)), (26, tr_iret), (27, tr_iload 28 2), (28, tr_ic 29 3), (29, tr_icne 32 46), (32, tr_iload 33 3), (33, tr_ic 35 20), (35, tr_iclt 38 44), (38, tr_iload 39 3), (39, tr_ic 41 29), (41, tr_icle 44 46), (44, tr_ic 45 (-1)), (45, tr_iret), (46, tr_aload 48 4), (48, tr_getI 51 6 509), (51, tr_ifne 54 57), (54, tr_ic 56 (-2)), (56, tr_iret), (57, tr_aload 59 4), (59, tr_getR 62 6 505), (62, tr_callV (C 31) 65 7 0), (65, tr_ifeq 68 71), (68, tr_ic 70 (-3)), (70, tr_iret), (71, tr_aload 73 4), (73, tr_getR 76 6 505), (76, tr_iload 77 2), (77, tr_iload 78 3)]
set_option maxRecDepth 20000 in
theorem tbk_X11_step_0 {D : DD} {d : Nat} {C : Nat → Sp} (hC : Snd D d C) : ∀ e ∈ tb_X11_step_0 C, TrOk D (d + 1) mi_X11_step e.1 e.2 :=
  tk_c (show TrOk D (d + 1) mi_X11_step 0 (tr_aload 1 0) from ok_aload_n (show decode mi_X11_step.2.1 0 = .ok (.aload_n 0, 1) from by decide +kernel) rfl) <|
  tk_c (show TrOk D (d + 1) mi_X11_step 1 (tr_getR 4 12 1101) from ok_getR (ci := 11) (k := 1) (show decode mi_X11_step.2.1 1 = .ok (.getfield 19, 3) from by decide +kernel) rfl (by decide) (gm 287 (by decide +kernel) rfl) rfl) <|
  tk_c (show TrOk D (d + 1) mi_X11_step 4 (tr_iload 5 1) from ok_iload_n (show decode mi_X11_step.2.1 4 = .ok (.iload_n 1, 1) from by decide +kernel) rfl) <|
  tk_c (show TrOk D (d + 1) mi_X11_step 5 (tr_callV (C 7) 8 3 1) from ok_callV (ci := 2) (show decode mi_X11_step.2.1 5 = .ok (.invokevirtual 107, 3) from by decide +kernel) mok_X2_find rfl rfl (gm 495 (by decide +kernel) rfl) (gm 496 (by decide +kernel) rfl) (gm 497 (by decide +kernel) rfl) (hC 7)) <|
  tk_c (show TrOk D (d + 1) mi_X11_step 8 (tr_astore 10 4) from ok_astore (show decode mi_X11_step.2.1 8 = .ok (.astore 4, 2) from by decide +kernel) (by decide)) <|
  tk_c (show TrOk D (d + 1) mi_X11_step 10 (tr_aload 12 4) from ok_aload (show decode mi_X11_step.2.1 10 = .ok (.aload 4, 2) from by decide +kernel)) <|
  tk_c (show TrOk D (d + 1) mi_X11_step 12 (tr_ifnull 15 25) from ok_ifnull (show decode mi_X11_step.2.1 12 = .ok (.ifnull 13, 3) from by decide +kernel) (by decide)) <|
  tk_c (show TrOk D (d + 1) mi_X11_step 15 (tr_iload 16 2) from ok_iload_n (show decode mi_X11_step.2.1 15 = .ok (.iload_n 2, 1) from by decide +kernel) rfl) <|
  tk_c (show TrOk D (d + 1) mi_X11_step 16 (tr_iflt 19 25) from ok_iflt (show decode mi_X11_step.2.1 16 = .ok (.ifCond .lt 9, 3) from by decide +kernel) (by decide)) <|
  tk_c (show TrOk D (d + 1) mi_X11_step 19 (tr_iload 20 2) from ok_iload_n (show decode mi_X11_step.2.1 19 = .ok (.iload_n 2, 1) from by decide +kernel) rfl) <|
  tk_c (show TrOk D (d + 1) mi_X11_step 20 (tr_ic 22 17) from ok_bipush (show decode mi_X11_step.2.1 20 = .ok (.bipush 17, 2) from by decide +kernel) rfl) <|
  tk_c (show TrOk D (d + 1) mi_X11_step 22 (tr_icle 25 27) from ok_icle (show decode mi_X11_step.2.1 22 = .ok (.if_icmp .le 5, 3) from by decide +kernel) (by decide)) <|
  tk_c (show TrOk D (d + 1) mi_X11_step 25 (tr_ic 26 (-1)) from ok_iconst (show decode mi_X11_step.2.1 25 = .ok (.iconst (-1), 1) from by decide +kernel) rfl) <|
  tk_c (show TrOk D (d + 1) mi_X11_step 26 (tr_iret) from ok_iret (show decode mi_X11_step.2.1 26 = .ok (.ireturn, 1) from by decide +kernel) rfl) <|
  tk_c (show TrOk D (d + 1) mi_X11_step 27 (tr_iload 28 2) from ok_iload_n (show decode mi_X11_step.2.1 27 = .ok (.iload_n 2, 1) from by decide +kernel) rfl) <|
  tk_c (show TrOk D (d + 1) mi_X11_step 28 (tr_ic 29 3) from ok_iconst (show decode mi_X11_step.2.1 28 = .ok (.iconst 3, 1) from by decide +kernel) rfl) <|
  tk_c (show TrOk D (d + 1) mi_X11_step 29 (tr_icne 32 46) from ok_icne (show decode mi_X11_step.2.1 29 = .ok (.if_icmp .ne 17, 3) from by decide +kernel) (by decide)) <|
  tk_c (show TrOk D (d + 1) mi_X11_step 32 (tr_iload 33 3) from ok_iload_n (show decode mi_X11_step.2.1 32 = .ok (.iload_n 3, 1) from by decide +kernel) rfl) <|
  tk_c (show TrOk D (d + 1) mi_X11_step 33 (tr_ic 35 20) from ok_bipush (show decode mi_X11_step.2.1 33 = .ok (.bipush 20, 2) from by decide +kernel) rfl) <|
  tk_c (show TrOk D (d + 1) mi_X11_step 35 (tr_iclt 38 44) from ok_iclt (show decode mi_X11_step.2.1 35 = .ok (.if_icmp .lt 9, 3) from by decide +kernel) (by decide)) <|
  tk_c (show TrOk D (d + 1) mi_X11_step 38 (tr_iload 39 3) from ok_iload_n (show decode mi_X11_step.2.1 38 = .ok (.iload_n 3, 1) from by decide +kernel) rfl) <|
  tk_c (show TrOk D (d + 1) mi_X11_step 39 (tr_ic 41 29) from ok_bipush (show decode mi_X11_step.2.1 39 = .ok (.bipush 29, 2) from by decide +kernel) rfl) <|
  tk_c (show TrOk D (d + 1) mi_X11_step 41 (tr_icle 44 46) from ok_icle (show decode mi_X11_step.2.1 41 = .ok (.if_icmp .le 5, 3) from by decide +kernel) (by decide)) <|
  tk_c (show TrOk D (d + 1) mi_X11_step 44 (tr_ic 45 (-1)) from ok_iconst (show decode mi_X11_step.2.1 44 = .ok (.iconst (-1), 1) from by decide +kernel) rfl) <|
  tk_c (show TrOk D (d + 1) mi_X11_step 45 (tr_iret) from ok_iret (show decode mi_X11_step.2.1 45 = .ok (.ireturn, 1) from by decide +kernel) rfl) <|
  tk_c (show TrOk D (d + 1) mi_X11_step 46 (tr_aload 48 4) from ok_aload (show decode mi_X11_step.2.1 46 = .ok (.aload 4, 2) from by decide +kernel)) <|
  tk_c (show TrOk D (d + 1) mi_X11_step 48 (tr_getI 51 6 509) from ok_getI (ci := 5) (k := 9) (show decode mi_X11_step.2.1 48 = .ok (.getfield 110, 3) from by decide +kernel) rfl (by decide) (gm 442 (by decide +kernel) rfl) rfl) <|
  tk_c (show TrOk D (d + 1) mi_X11_step 51 (tr_ifne 54 57) from ok_ifne (show decode mi_X11_step.2.1 51 = .ok (.ifCond .ne 6, 3) from by decide +kernel) (by decide)) <|
  tk_c (show TrOk D (d + 1) mi_X11_step 54 (tr_ic 56 (-2)) from ok_bipush (show decode mi_X11_step.2.1 54 = .ok (.bipush (-2), 2) from by decide +kernel) rfl) <|
  tk_c (show TrOk D (d + 1) mi_X11_step 56 (tr_iret) from ok_iret (show decode mi_X11_step.2.1 56 = .ok (.ireturn, 1) from by decide +kernel) rfl) <|
  tk_c (show TrOk D (d + 1) mi_X11_step 57 (tr_aload 59 4) from ok_aload (show decode mi_X11_step.2.1 57 = .ok (.aload 4, 2) from by decide +kernel)) <|
  tk_c (show TrOk D (d + 1) mi_X11_step 59 (tr_getR 62 6 505) from ok_getR (ci := 5) (k := 5) (show decode mi_X11_step.2.1 59 = .ok (.getfield 128, 3) from by decide +kernel) rfl (by decide) (gm 431 (by decide +kernel) rfl) rfl) <|
  tk_c (show TrOk D (d + 1) mi_X11_step 62 (tr_callV (C 31) 65 7 0) from ok_callV (ci := 6) (show decode mi_X11_step.2.1 62 = .ok (.invokevirtual 132, 3) from by decide +kernel) mok_X6_isFull rfl rfl (gm 510 (by decide +kernel) rfl) (gm 511 (by decide +kernel) rfl) (gm 512 (by decide +kernel) rfl) (hC 31)) <|
  tk_c (show TrOk D (d + 1) mi_X11_step 65 (tr_ifeq 68 71) from ok_ifeq (show decode mi_X11_step.2.1 65 = .ok (.ifCond .eq 6, 3) from by decide +kernel) (by decide)) <|
  tk_c (show TrOk D (d + 1) mi_X11_step 68 (tr_ic 70 (-3)) from ok_bipush (show decode mi_X11_step.2.1 68 = .ok (.bipush (-3), 2) from by decide +kernel) rfl) <|
  tk_c (show TrOk D (d + 1) mi_X11_step 70 (tr_iret) from ok_iret (show decode mi_X11_step.2.1 70 = .ok (.ireturn, 1) from by decide +kernel) rfl) <|
  tk_c (show TrOk D (d + 1) mi_X11_step 71 (tr_aload 73 4) from ok_aload (show decode mi_X11_step.2.1 71 = .ok (.aload 4, 2) from by decide +kernel)) <|
  tk_c (show TrOk D (d + 1) mi_X11_step 73 (tr_getR 76 6 505) from ok_getR (ci := 5) (k := 5) (show decode mi_X11_step.2.1 73 = .ok (.getfield 128, 3) from by decide +kernel) rfl (by decide) (gm 431 (by decide +kernel) rfl) rfl) <|
  tk_c (show TrOk D (d + 1) mi_X11_step 76 (tr_iload 77 2) from ok_iload_n (show decode mi_X11_step.2.1 76 = .ok (.iload_n 2, 1) from by decide +kernel) rfl) <|
  tk_c (show TrOk D (d + 1) mi_X11_step 77 (tr_iload 78 3) from ok_iload_n (show decode mi_X11_step.2.1 77 = .ok (.iload_n 3, 1) from by decide +kernel) rfl) <|
  tk_n
def tb_X11_step_1 (C : Nat → Sp) : Tab := [(78, tr_callV (C 32) 81 7 2), (81, tr_aload 83 4), (83, tr_getR 86 6 505), (86, tr_getI 89 7 602), (89, tr_iret)]
set_option maxRecDepth 20000 in
theorem tbk_X11_step_1 {D : DD} {d : Nat} {C : Nat → Sp} (hC : Snd D d C) : ∀ e ∈ tb_X11_step_1 C, TrOk D (d + 1) mi_X11_step e.1 e.2 :=
  tk_c (show TrOk D (d + 1) mi_X11_step 78 (tr_callV (C 32) 81 7 2) from ok_callV (ci := 6) (show decode mi_X11_step.2.1 78 = .ok (.invokevirtual 135, 3) from by decide +kernel) mok_X6_add rfl rfl (gm 514 (by decide +kernel) rfl) (gm 515 (by decide +kernel) rfl) (gm 516 (by decide +kernel) rfl) (hC 32)) <|
  tk_c (show TrOk D (d + 1) mi_X11_step 81 (tr_aload 83 4) from ok_aload (show decode mi_X11_step.2.1 81 = .ok (.aload 4, 2) from by decide +kernel)) <|
  tk_c (show TrOk D (d + 1) mi_X11_step 83 (tr_getR 86 6 505) from ok_getR (ci := 5) (k := 5) (show decode mi_X11_step.2.1 83 = .ok (.getfield 128, 3) from by decide +kernel) rfl (by decide) (gm 431 (by decide +kernel) rfl) rfl) <|
  tk_c (show TrOk D (d + 1) mi_X11_step 86 (tr_getI 89 7 602) from ok_getI (ci := 6) (k := 2) (show decode mi_X11_step.2.1 86 = .ok (.getfield 138, 3) from by decide +kernel) rfl (by decide) (gm 402 (by decide +kernel) rfl) rfl) <|
  tk_c (show TrOk D (d + 1) mi_X11_step 89 (tr_iret) from ok_iret (show decode mi_X11_step.2.1 89 = .ok (.ireturn, 1) from by decide +kernel) rfl) <|
  tk_n
def tb_X11_step (C : Nat → Sp) : Tab := tb_X11_step_0 C ++ (tb_X11_step_1 C)
theorem tbk_X11_step {D : DD} {d : Nat} {C : Nat → Sp} (hC : Snd D d C) : ∀ e ∈ tb_X11_step C, TrOk D (d + 1) mi_X11_step e.1 e.2 := tk_a (tbk_X11_step_0 hC) (tbk_X11_step_1 hC)
theorem a_X11_step_0 (C : Nat → Sp) : ta (tb_X11_step C) 0 = tr_aload 1 0 := rfl
theorem a_X11_step_1 (C : Nat → Sp) : ta (tb_X11_step C) 1 = tr_getR 4 12 1101 := rfl
theorem a_X11_step_4 (C : Nat → Sp) : ta (tb_X11_step C) 4 = tr_iload 5 1 := rfl
theorem a_X11_step_5 (C : Nat → Sp) : ta (tb_X11_step C) 5 = tr_callV (C 7) 8 3 1 := rfl
theorem a_X11_step_8 (C : Nat → Sp) : ta (tb_X11_step C) 8 = tr_astore 10 4 := rfl
theorem a_X11_step_10 (C : Nat → Sp) : ta (tb_X11_step C) 10 = tr_aload 12 4 := rfl
theorem a_X11_step_12 (C : Nat → Sp) : ta (tb_X11_step C) 12 = tr_ifnull 15 25 := rfl
theorem a_X11_step_15 (C : Nat → Sp) : ta (tb_X11_step C) 15 = tr_iload 16 2 := rfl
theorem a_X11_step_16 (C : Nat → Sp) : ta (tb_X11_step C) 16 = tr_iflt 19 25 := rfl
theorem a_X11_step_19 (C : Nat → Sp) : ta (tb_X11_step C) 19 = tr_iload 20 2 := rfl
theorem a_X11_step_20 (C : Nat → Sp) : ta (tb_X11_step C) 20 = tr_ic 22 17 := rfl
theorem a_X11_step_22 (C : Nat → Sp) : ta (tb_X11_step C) 22 = tr_icle 25 27 := rfl
theorem a_X11_step_25 (C : Nat → Sp) : ta (tb_X11_step C) 25 = tr_ic 26 (-1) := rfl
theorem a_X11_step_26 (C : Nat → Sp) : ta (tb_X11_step C) 26 = tr_iret := rfl
theorem a_X11_step_27 (C : Nat → Sp) : ta (tb_X11_step C) 27 = tr_iload 28 2 := rfl
theorem a_X11_step_28 (C : Nat → Sp) : ta (tb_X11_step C) 28 = tr_ic 29 3 := rfl
theorem a_X11_step_29 (C : Nat → Sp) : ta (tb_X11_step C) 29 = tr_icne 32 46 := rfl
theorem a_X11_step_32 (C : Nat → Sp) : ta (tb_X11_step C) 32 = tr_iload 33 3 := rfl
theorem a_X11_step_33 (C : Nat → Sp) : ta (tb_X11_step C) 33 = tr_ic 35 20 := rfl
theorem a_X11_step_35 (C : Nat → Sp) : ta (tb_X11_step C) 35 = tr_iclt 38 44 := rfl
theorem a_X11_step_38 (C : Nat → Sp) : ta (tb_X11_step C) 38 = tr_iload 39 3 := rfl
theorem a_X11_step_39 (C : Nat → Sp) : ta (tb_X11_step C) 39 = tr_ic 41 29 := rfl
theorem a_X11_step_41 (C : Nat → Sp) : ta (tb_X11_step C) 41 = tr_icle 44 46 := rfl
theorem a_X11_step_44 (C : Nat → Sp) : ta (tb_X11_step C) 44 = tr_ic 45 (-1) := rfl
theorem a_X11_step_45 (C : Nat → Sp) : ta (tb_X11_step C) 45 = tr_iret := rfl
theorem a_X11_step_46 (C : Nat → Sp) : ta (tb_X11_step C) 46 = tr_aload 48 4 := rfl
theorem a_X11_step_48 (C : Nat → Sp) : ta (tb_X11_step C) 48 = tr_getI 51 6 509 := rfl
theorem a_X11_step_51 (C : Nat → Sp) : ta (tb_X11_step C) 51 = tr_ifne 54 57 := rfl
theorem a_X11_step_54 (C : Nat → Sp) : ta (tb_X11_step C) 54 = tr_ic 56 (-2) := rfl
theorem a_X11_step_56 (C : Nat → Sp) : ta (tb_X11_step C) 56 = tr_iret := rfl
theorem a_X11_step_57 (C : Nat → Sp) : ta (tb_X11_step C) 57 = tr_aload 59 4 := rfl
theorem a_X11_step_59 (C : Nat → Sp) : ta (tb_X11_step C) 59 = tr_getR 62 6 505 := rfl
theorem a_X11_step_62 (C : Nat → Sp) : ta (tb_X11_step C) 62 = tr_callV (C 31) 65 7 0 := rfl
theorem a_X11_step_65 (C : Nat → Sp) : ta (tb_X11_step C) 65 = tr_ifeq 68 71 := rfl
theorem a_X11_step_68 (C : Nat → Sp) : ta (tb_X11_step C) 68 = tr_ic 70 (-3) := rfl
theorem a_X11_step_70 (C : Nat → Sp) : ta (tb_X11_step C) 70 = tr_iret := rfl
theorem a_X11_step_71 (C : Nat → Sp) : ta (tb_X11_step C) 71 = tr_aload 73 4 := rfl
theorem a_X11_step_73 (C : Nat → Sp) : ta (tb_X11_step C) 73 = tr_getR 76 6 505 := rfl
theorem a_X11_step_76 (C : Nat → Sp) : ta (tb_X11_step C) 76 = tr_iload 77 2 := rfl
theorem a_X11_step_77 (C : Nat → Sp) : ta (tb_X11_step C) 77 = tr_iload 78 3 := rfl
theorem a_X11_step_78 (C : Nat → Sp) : ta (tb_X11_step C) 78 = tr_callV (C 32) 81 7 2 := rfl
theorem a_X11_step_81 (C : Nat → Sp) : ta (tb_X11_step C) 81 = tr_aload 83 4 := rfl
theorem a_X11_step_83 (C : Nat → Sp) : ta (tb_X11_step C) 83 = tr_getR 86 6 505 := rfl
theorem a_X11_step_86 (C : Nat → Sp) : ta (tb_X11_step C) 86 = tr_getI 89 7 602 := rfl
theorem a_X11_step_89 (C : Nat → Sp) : ta (tb_X11_step C) 89 = tr_iret := rfl

def tb_X11_leave_0 (C : Nat → Sp) : Tab := [(0, tr_aload 1 0), (1, tr_getR 4 12 1101), (4, tr_iload 5 1), (5, tr_callV (C 7) 8 3 1), (8, tr_astore 9 2), (9, tr_aload 10 2), (10, tr_ifnonnull 13 15), (13, tr_ic 14 (-1)), (14, tr_iret), (15, tr_aload 16 2), (16, tr_getI 19 6 509), (19, tr_ifne 22 25), (22, tr_ic 24 (-2)), (24, tr_iret), (25, tr_aload 26 0), (26, tr_getR 29 12 1101), (29, tr_aload 30 2), (30, tr_callV (C 13) 33 3 1), (33, tr_ic 34 1), (34, tr_iret)]
set_option maxRecDepth 20000 in
theorem tbk_X11_leave_0 {D : DD} {d : Nat} {C : Nat → Sp} (hC : Snd D d C) : ∀ e ∈ tb_X11_leave_0 C, TrOk D (d + 1) mi_X11_leave e.1 e.2 :=
  tk_c (show TrOk D (d + 1) mi_X11_leave 0 (tr_aload 1 0) from ok_aload_n (show decode mi_X11_leave.2.1 0 = .ok (.aload_n 0, 1) from by decide +kernel) rfl) <|
  tk_c (show TrOk D (d + 1) mi_X11_leave 1 (tr_getR 4 12 1101) from ok_getR (ci := 11) (k := 1) (show decode mi_X11_leave.2.1 1 = .ok (.getfield 19, 3) from by decide +kernel) rfl (by decide) (gm 287 (by decide +kernel) rfl) rfl) <|
  tk_c (show TrOk D (d + 1) mi_X11_leave 4 (tr_iload 5 1) from ok_iload_n (show decode mi_X11_leave.2.1 4 = .ok (.iload_n 1, 1) from by decide +kernel) rfl) <|
  tk_c (show TrOk D (d + 1) mi_X11_leave 5 (tr_callV (C 7) 8 3 1) from ok_callV (ci := 2) (show decode mi_X11_leave.2.1 5 = .ok (.invokevirtual 107, 3) from by decide +kernel) mok_X2_find rfl rfl (gm 495 (by decide +kernel) rfl) (gm 496 (by decide +kernel) rfl) (gm 497 (by decide +kernel) rfl) (hC 7)) <|
  tk_c (show TrOk D (d + 1) mi_X11_leave 8 (tr_astore 9 2) from ok_astore_n (show decode mi_X11_leave.2.1 8 = .ok (.astore_n 2, 1) from by decide +kernel) rfl (by decide)) <|
  tk_c (show TrOk D (d + 1) mi_X11_leave 9 (tr_aload 10 2) from ok_aload_n (show decode mi_X11_leave.2.1 9 = .ok (.aload_n 2, 1) from by decide +kernel) rfl) <|
  tk_c (show TrOk D (d + 1) mi_X11_leave 10 (tr_ifnonnull 13 15) from ok_ifnonnull (show decode mi_X11_leave.2.1 10 = .ok (.ifnonnull 5, 3) from by decide +kernel) (by decide)) <|
  tk_c (show TrOk D (d + 1) mi_X11_leave 13 (tr_ic 14 (-1)) from ok_iconst (show decode mi_X11_leave.2.1 13 = .ok (.iconst (-1), 1) from by decide +kernel) rfl) <|
  tk_c (show TrOk D (d + 1) mi_X11_leave 14 (tr_iret) from ok_iret (show decode mi_X11_leave.2.1 14 = .ok (.ireturn, 1) from by decide +kernel) rfl) <|
  tk_c (show TrOk D (d + 1) mi_X11_leave 15 (tr_aload 16 2) from ok_aload_n (show decode mi_X11_leave.2.1 15 = .ok (.aload_n 2, 1) from by decide +kernel) rfl) <|
  tk_c (show TrOk D (d + 1) mi_X11_leave 16 (tr_getI 19 6 509) from ok_getI (ci := 5) (k := 9) (show decode mi_X11_leave.2.1 16 = .ok (.getfield 110, 3) from by decide +kernel) rfl (by decide) (gm 442 (by decide +kernel) rfl) rfl) <|
  tk_c (show TrOk D (d + 1) mi_X11_leave 19 (tr_ifne 22 25) from ok_ifne (show decode mi_X11_leave.2.1 19 = .ok (.ifCond .ne 6, 3) from by decide +kernel) (by decide)) <|
  tk_c (show TrOk D (d + 1) mi_X11_leave 22 (tr_ic 24 (-2)) from ok_bipush (show decode mi_X11_leave.2.1 22 = .ok (.bipush (-2), 2) from by decide +kernel) rfl) <|
  tk_c (show TrOk D (d + 1) mi_X11_leave 24 (tr_iret) from ok_iret (show decode mi_X11_leave.2.1 24 = .ok (.ireturn, 1) from by decide +kernel) rfl) <|
  tk_c (show TrOk D (d + 1) mi_X11_leave 25 (tr_aload 26 0) from ok_aload_n (show decode mi_X11_leave.2.1 25 = .ok (.aload_n 0, 1) from by decide +kernel) rfl) <|
  tk_c (show TrOk D (d + 1) mi_X11_leave 26 (tr_getR 29 12 1101) from ok_getR (ci := 11) (k := 1) (show decode mi_X11_leave.2.1 26 = .ok (.getfield 19, 3) from by decide +kernel) rfl (by decide) (gm 287 (by decide +kernel) rfl) rfl) <|
  tk_c (show TrOk D (d + 1) mi_X11_leave 29 (tr_aload 30 2) from ok_aload_n (show decode mi_X11_leave.2.1 29 = .ok (.aload_n 2, 1) from by decide +kernel) rfl) <|
  tk_c (show TrOk D (d + 1) mi_X11_leave 30 (tr_callV (C 13) 33 3 1) from ok_callV (ci := 2) (show decode mi_X11_leave.2.1 30 = .ok (.invokevirtual 141, 3) from by decide +kernel) mok_X2_letGo rfl rfl (gm 523 (by decide +kernel) rfl) (gm 366 (by decide +kernel) rfl) (gm 367 (by decide +kernel) rfl) (hC 13)) <|
  tk_c (show TrOk D (d + 1) mi_X11_leave 33 (tr_ic 34 1) from ok_iconst (show decode mi_X11_leave.2.1 33 = .ok (.iconst 1, 1) from by decide +kernel) rfl) <|
  tk_c (show TrOk D (d + 1) mi_X11_leave 34 (tr_iret) from ok_iret (show decode mi_X11_leave.2.1 34 = .ok (.ireturn, 1) from by decide +kernel) rfl) <|
  tk_n
def tb_X11_leave (C : Nat → Sp) : Tab := tb_X11_leave_0 C
theorem tbk_X11_leave {D : DD} {d : Nat} {C : Nat → Sp} (hC : Snd D d C) : ∀ e ∈ tb_X11_leave C, TrOk D (d + 1) mi_X11_leave e.1 e.2 := tbk_X11_leave_0 hC
theorem a_X11_leave_0 (C : Nat → Sp) : ta (tb_X11_leave C) 0 = tr_aload 1 0 := rfl
theorem a_X11_leave_1 (C : Nat → Sp) : ta (tb_X11_leave C) 1 = tr_getR 4 12 1101 := rfl
theorem a_X11_leave_4 (C : Nat → Sp) : ta (tb_X11_leave C) 4 = tr_iload 5 1 := rfl
theorem a_X11_leave_5 (C : Nat → Sp) : ta (tb_X11_leave C) 5 = tr_callV (C 7) 8 3 1 := rfl
theorem a_X11_leave_8 (C : Nat → Sp) : ta (tb_X11_leave C) 8 = tr_astore 9 2 := rfl
theorem a_X11_leave_9 (C : Nat → Sp) : ta (tb_X11_leave C) 9 = tr_aload 10 2 := rfl
theorem a_X11_leave_10 (C : Nat → Sp) : ta (tb_X11_leave C) 10 = tr_ifnonnull 13 15 := rfl
theorem a_X11_leave_13 (C : Nat → Sp) : ta (tb_X11_leave C) 13 = tr_ic 14 (-1) := rfl
theorem a_X11_leave_14 (C : Nat → Sp) : ta (tb_X11_leave C) 14 = tr_iret := rfl
theorem a_X11_leave_15 (C : Nat → Sp) : ta (tb_X11_leave C) 15 = tr_aload 16 2 := rfl
theorem a_X11_leave_16 (C : Nat → Sp) : ta (tb_X11_leave C) 16 = tr_getI 19 6 509 := rfl
theorem a_X11_leave_19 (C : Nat → Sp) : ta (tb_X11_leave C) 19 = tr_ifne 22 25 := rfl
theorem a_X11_leave_22 (C : Nat → Sp) : ta (tb_X11_leave C) 22 = tr_ic 24 (-2) := rfl
theorem a_X11_leave_24 (C : Nat → Sp) : ta (tb_X11_leave C) 24 = tr_iret := rfl
theorem a_X11_leave_25 (C : Nat → Sp) : ta (tb_X11_leave C) 25 = tr_aload 26 0 := rfl
theorem a_X11_leave_26 (C : Nat → Sp) : ta (tb_X11_leave C) 26 = tr_getR 29 12 1101 := rfl
theorem a_X11_leave_29 (C : Nat → Sp) : ta (tb_X11_leave C) 29 = tr_aload 30 2 := rfl
theorem a_X11_leave_30 (C : Nat → Sp) : ta (tb_X11_leave C) 30 = tr_callV (C 13) 33 3 1 := rfl
theorem a_X11_leave_33 (C : Nat → Sp) : ta (tb_X11_leave C) 33 = tr_ic 34 1 := rfl
theorem a_X11_leave_34 (C : Nat → Sp) : ta (tb_X11_leave C) 34 = tr_iret := rfl

def tb_X11_tray_0 (C : Nat → Sp) : Tab := [(0, tr_aload 1 0), (1, tr_getR 4 12 1102), (4, tr_iload 5 1), (5, tr_callS (C 93) 8 2), (8, tr_astore 10 4), (10, tr_aload 12 4), (12, tr_ifnull 15 30), (15, tr_iload 16 2), (16, tr_iflt 19 30), (19, tr_iload 20 2), (20, tr_ic 21 2), (21, tr_icgt 24 30), (24, tr_iload 25 3), (25, tr_ic 27 16), (27, tr_icle 30 32), (30, tr_ic 31 (-1)), (31, tr_iret), (32, tr_iload 33 3), (33, tr_ifge 36 39), (36, tr_ic 38 (-14)), (38, tr_iret), (39, tr_aload 41 4), (41, tr_iload 42 2), (42, tr_iload 43 3), (43, tr_callV (C 57) 46 10 2), (46, tr_iload 47 3), (47, tr_iret)]
set_option maxRecDepth 20000 in
theorem tbk_X11_tray_0 {D : DD} {d : Nat} {C : Nat → Sp} (hC : Snd D d C) : ∀ e ∈ tb_X11_tray_0 C, TrOk D (d + 1) mi_X11_tray e.1 e.2 :=
  tk_c (show TrOk D (d + 1) mi_X11_tray 0 (tr_aload 1 0) from ok_aload_n (show decode mi_X11_tray.2.1 0 = .ok (.aload_n 0, 1) from by decide +kernel) rfl) <|
  tk_c (show TrOk D (d + 1) mi_X11_tray 1 (tr_getR 4 12 1102) from ok_getR (ci := 11) (k := 2) (show decode mi_X11_tray.2.1 1 = .ok (.getfield 25, 3) from by decide +kernel) rfl (by decide) (gm 288 (by decide +kernel) rfl) rfl) <|
  tk_c (show TrOk D (d + 1) mi_X11_tray 4 (tr_iload 5 1) from ok_iload_n (show decode mi_X11_tray.2.1 4 = .ok (.iload_n 1, 1) from by decide +kernel) rfl) <|
  tk_c (show TrOk D (d + 1) mi_X11_tray 5 (tr_callS (C 93) 8 2) from ok_callS (show decode mi_X11_tray.2.1 5 = .ok (.invokestatic 144, 3) from by decide +kernel) mok_X11_findTray (gm 528 (by decide +kernel) rfl) (gm 529 (by decide +kernel) rfl) (hC 93)) <|
  tk_c (show TrOk D (d + 1) mi_X11_tray 8 (tr_astore 10 4) from ok_astore (show decode mi_X11_tray.2.1 8 = .ok (.astore 4, 2) from by decide +kernel) (by decide)) <|
  tk_c (show TrOk D (d + 1) mi_X11_tray 10 (tr_aload 12 4) from ok_aload (show decode mi_X11_tray.2.1 10 = .ok (.aload 4, 2) from by decide +kernel)) <|
  tk_c (show TrOk D (d + 1) mi_X11_tray 12 (tr_ifnull 15 30) from ok_ifnull (show decode mi_X11_tray.2.1 12 = .ok (.ifnull 18, 3) from by decide +kernel) (by decide)) <|
  tk_c (show TrOk D (d + 1) mi_X11_tray 15 (tr_iload 16 2) from ok_iload_n (show decode mi_X11_tray.2.1 15 = .ok (.iload_n 2, 1) from by decide +kernel) rfl) <|
  tk_c (show TrOk D (d + 1) mi_X11_tray 16 (tr_iflt 19 30) from ok_iflt (show decode mi_X11_tray.2.1 16 = .ok (.ifCond .lt 14, 3) from by decide +kernel) (by decide)) <|
  tk_c (show TrOk D (d + 1) mi_X11_tray 19 (tr_iload 20 2) from ok_iload_n (show decode mi_X11_tray.2.1 19 = .ok (.iload_n 2, 1) from by decide +kernel) rfl) <|
  tk_c (show TrOk D (d + 1) mi_X11_tray 20 (tr_ic 21 2) from ok_iconst (show decode mi_X11_tray.2.1 20 = .ok (.iconst 2, 1) from by decide +kernel) rfl) <|
  tk_c (show TrOk D (d + 1) mi_X11_tray 21 (tr_icgt 24 30) from ok_icgt (show decode mi_X11_tray.2.1 21 = .ok (.if_icmp .gt 9, 3) from by decide +kernel) (by decide)) <|
  tk_c (show TrOk D (d + 1) mi_X11_tray 24 (tr_iload 25 3) from ok_iload_n (show decode mi_X11_tray.2.1 24 = .ok (.iload_n 3, 1) from by decide +kernel) rfl) <|
  tk_c (show TrOk D (d + 1) mi_X11_tray 25 (tr_ic 27 16) from ok_bipush (show decode mi_X11_tray.2.1 25 = .ok (.bipush 16, 2) from by decide +kernel) rfl) <|
  tk_c (show TrOk D (d + 1) mi_X11_tray 27 (tr_icle 30 32) from ok_icle (show decode mi_X11_tray.2.1 27 = .ok (.if_icmp .le 5, 3) from by decide +kernel) (by decide)) <|
  tk_c (show TrOk D (d + 1) mi_X11_tray 30 (tr_ic 31 (-1)) from ok_iconst (show decode mi_X11_tray.2.1 30 = .ok (.iconst (-1), 1) from by decide +kernel) rfl) <|
  tk_c (show TrOk D (d + 1) mi_X11_tray 31 (tr_iret) from ok_iret (show decode mi_X11_tray.2.1 31 = .ok (.ireturn, 1) from by decide +kernel) rfl) <|
  tk_c (show TrOk D (d + 1) mi_X11_tray 32 (tr_iload 33 3) from ok_iload_n (show decode mi_X11_tray.2.1 32 = .ok (.iload_n 3, 1) from by decide +kernel) rfl) <|
  tk_c (show TrOk D (d + 1) mi_X11_tray 33 (tr_ifge 36 39) from ok_ifge (show decode mi_X11_tray.2.1 33 = .ok (.ifCond .ge 6, 3) from by decide +kernel) (by decide)) <|
  tk_c (show TrOk D (d + 1) mi_X11_tray 36 (tr_ic 38 (-14)) from ok_bipush (show decode mi_X11_tray.2.1 36 = .ok (.bipush (-14), 2) from by decide +kernel) rfl) <|
  tk_c (show TrOk D (d + 1) mi_X11_tray 38 (tr_iret) from ok_iret (show decode mi_X11_tray.2.1 38 = .ok (.ireturn, 1) from by decide +kernel) rfl) <|
  tk_c (show TrOk D (d + 1) mi_X11_tray 39 (tr_aload 41 4) from ok_aload (show decode mi_X11_tray.2.1 39 = .ok (.aload 4, 2) from by decide +kernel)) <|
  tk_c (show TrOk D (d + 1) mi_X11_tray 41 (tr_iload 42 2) from ok_iload_n (show decode mi_X11_tray.2.1 41 = .ok (.iload_n 2, 1) from by decide +kernel) rfl) <|
  tk_c (show TrOk D (d + 1) mi_X11_tray 42 (tr_iload 43 3) from ok_iload_n (show decode mi_X11_tray.2.1 42 = .ok (.iload_n 3, 1) from by decide +kernel) rfl) <|
  tk_c (show TrOk D (d + 1) mi_X11_tray 43 (tr_callV (C 57) 46 10 2) from ok_callV (ci := 9) (show decode mi_X11_tray.2.1 43 = .ok (.invokevirtual 148, 3) from by decide +kernel) mok_X9_renew rfl rfl (gm 531 (by decide +kernel) rfl) (gm 532 (by decide +kernel) rfl) (gm 533 (by decide +kernel) rfl) (hC 57)) <|
  tk_c (show TrOk D (d + 1) mi_X11_tray 46 (tr_iload 47 3) from ok_iload_n (show decode mi_X11_tray.2.1 46 = .ok (.iload_n 3, 1) from by decide +kernel) rfl) <|
  tk_c (show TrOk D (d + 1) mi_X11_tray 47 (tr_iret) from ok_iret (show decode mi_X11_tray.2.1 47 = .ok (.ireturn, 1) from by decide +kernel) rfl) <|
  tk_n
def tb_X11_tray (C : Nat → Sp) : Tab := tb_X11_tray_0 C
theorem tbk_X11_tray {D : DD} {d : Nat} {C : Nat → Sp} (hC : Snd D d C) : ∀ e ∈ tb_X11_tray C, TrOk D (d + 1) mi_X11_tray e.1 e.2 := tbk_X11_tray_0 hC
theorem a_X11_tray_0 (C : Nat → Sp) : ta (tb_X11_tray C) 0 = tr_aload 1 0 := rfl
theorem a_X11_tray_1 (C : Nat → Sp) : ta (tb_X11_tray C) 1 = tr_getR 4 12 1102 := rfl
theorem a_X11_tray_4 (C : Nat → Sp) : ta (tb_X11_tray C) 4 = tr_iload 5 1 := rfl
theorem a_X11_tray_5 (C : Nat → Sp) : ta (tb_X11_tray C) 5 = tr_callS (C 93) 8 2 := rfl
theorem a_X11_tray_8 (C : Nat → Sp) : ta (tb_X11_tray C) 8 = tr_astore 10 4 := rfl
theorem a_X11_tray_10 (C : Nat → Sp) : ta (tb_X11_tray C) 10 = tr_aload 12 4 := rfl
theorem a_X11_tray_12 (C : Nat → Sp) : ta (tb_X11_tray C) 12 = tr_ifnull 15 30 := rfl
theorem a_X11_tray_15 (C : Nat → Sp) : ta (tb_X11_tray C) 15 = tr_iload 16 2 := rfl
theorem a_X11_tray_16 (C : Nat → Sp) : ta (tb_X11_tray C) 16 = tr_iflt 19 30 := rfl
theorem a_X11_tray_19 (C : Nat → Sp) : ta (tb_X11_tray C) 19 = tr_iload 20 2 := rfl
theorem a_X11_tray_20 (C : Nat → Sp) : ta (tb_X11_tray C) 20 = tr_ic 21 2 := rfl
theorem a_X11_tray_21 (C : Nat → Sp) : ta (tb_X11_tray C) 21 = tr_icgt 24 30 := rfl
theorem a_X11_tray_24 (C : Nat → Sp) : ta (tb_X11_tray C) 24 = tr_iload 25 3 := rfl
theorem a_X11_tray_25 (C : Nat → Sp) : ta (tb_X11_tray C) 25 = tr_ic 27 16 := rfl
theorem a_X11_tray_27 (C : Nat → Sp) : ta (tb_X11_tray C) 27 = tr_icle 30 32 := rfl
theorem a_X11_tray_30 (C : Nat → Sp) : ta (tb_X11_tray C) 30 = tr_ic 31 (-1) := rfl
theorem a_X11_tray_31 (C : Nat → Sp) : ta (tb_X11_tray C) 31 = tr_iret := rfl
theorem a_X11_tray_32 (C : Nat → Sp) : ta (tb_X11_tray C) 32 = tr_iload 33 3 := rfl
theorem a_X11_tray_33 (C : Nat → Sp) : ta (tb_X11_tray C) 33 = tr_ifge 36 39 := rfl
theorem a_X11_tray_36 (C : Nat → Sp) : ta (tb_X11_tray C) 36 = tr_ic 38 (-14) := rfl
theorem a_X11_tray_38 (C : Nat → Sp) : ta (tb_X11_tray C) 38 = tr_iret := rfl
theorem a_X11_tray_39 (C : Nat → Sp) : ta (tb_X11_tray C) 39 = tr_aload 41 4 := rfl
theorem a_X11_tray_41 (C : Nat → Sp) : ta (tb_X11_tray C) 41 = tr_iload 42 2 := rfl
theorem a_X11_tray_42 (C : Nat → Sp) : ta (tb_X11_tray C) 42 = tr_iload 43 3 := rfl
theorem a_X11_tray_43 (C : Nat → Sp) : ta (tb_X11_tray C) 43 = tr_callV (C 57) 46 10 2 := rfl
theorem a_X11_tray_46 (C : Nat → Sp) : ta (tb_X11_tray C) 46 = tr_iload 47 3 := rfl
theorem a_X11_tray_47 (C : Nat → Sp) : ta (tb_X11_tray C) 47 = tr_iret := rfl

def tb_X11_lay_0 (C : Nat → Sp) : Tab := [(0, tr_aload 1 0), (1, tr_getR 4 12 1102), (4, tr_iload 5 1), (5, tr_callS (C 93) 8 2), (8, tr_astore 10 5), (10, tr_aload 12 5), (12, tr_ifnonnull 15 17), (15, tr_ic 16 (-1)), (16, tr_iret), (17, tr_aload 19 5), (19, tr_getI 22 10 901), (22, tr_ic 23 (-1)), (23, tr_icne 26 29), (26, tr_ic 28 (-11)), (28, tr_iret), (29, tr_aload 31 5), (31, tr_iload 32 2), (32, tr_callV (C 58) 35 10 1), (35, tr_ifne 38 41), (38, tr_ic 40 (-12)), (40, tr_iret), (41, tr_aload 43 5), (43, tr_iload 44 2), (44, tr_lload 45 3), (45, tr_callV (C 59) 48 10 2), (48, tr_ic 49 1), (49, tr_iret)]
set_option maxRecDepth 20000 in
theorem tbk_X11_lay_0 {D : DD} {d : Nat} {C : Nat → Sp} (hC : Snd D d C) : ∀ e ∈ tb_X11_lay_0 C, TrOk D (d + 1) mi_X11_lay e.1 e.2 :=
  tk_c (show TrOk D (d + 1) mi_X11_lay 0 (tr_aload 1 0) from ok_aload_n (show decode mi_X11_lay.2.1 0 = .ok (.aload_n 0, 1) from by decide +kernel) rfl) <|
  tk_c (show TrOk D (d + 1) mi_X11_lay 1 (tr_getR 4 12 1102) from ok_getR (ci := 11) (k := 2) (show decode mi_X11_lay.2.1 1 = .ok (.getfield 25, 3) from by decide +kernel) rfl (by decide) (gm 288 (by decide +kernel) rfl) rfl) <|
  tk_c (show TrOk D (d + 1) mi_X11_lay 4 (tr_iload 5 1) from ok_iload_n (show decode mi_X11_lay.2.1 4 = .ok (.iload_n 1, 1) from by decide +kernel) rfl) <|
  tk_c (show TrOk D (d + 1) mi_X11_lay 5 (tr_callS (C 93) 8 2) from ok_callS (show decode mi_X11_lay.2.1 5 = .ok (.invokestatic 144, 3) from by decide +kernel) mok_X11_findTray (gm 528 (by decide +kernel) rfl) (gm 529 (by decide +kernel) rfl) (hC 93)) <|
  tk_c (show TrOk D (d + 1) mi_X11_lay 8 (tr_astore 10 5) from ok_astore (show decode mi_X11_lay.2.1 8 = .ok (.astore 5, 2) from by decide +kernel) (by decide)) <|
  tk_c (show TrOk D (d + 1) mi_X11_lay 10 (tr_aload 12 5) from ok_aload (show decode mi_X11_lay.2.1 10 = .ok (.aload 5, 2) from by decide +kernel)) <|
  tk_c (show TrOk D (d + 1) mi_X11_lay 12 (tr_ifnonnull 15 17) from ok_ifnonnull (show decode mi_X11_lay.2.1 12 = .ok (.ifnonnull 5, 3) from by decide +kernel) (by decide)) <|
  tk_c (show TrOk D (d + 1) mi_X11_lay 15 (tr_ic 16 (-1)) from ok_iconst (show decode mi_X11_lay.2.1 15 = .ok (.iconst (-1), 1) from by decide +kernel) rfl) <|
  tk_c (show TrOk D (d + 1) mi_X11_lay 16 (tr_iret) from ok_iret (show decode mi_X11_lay.2.1 16 = .ok (.ireturn, 1) from by decide +kernel) rfl) <|
  tk_c (show TrOk D (d + 1) mi_X11_lay 17 (tr_aload 19 5) from ok_aload (show decode mi_X11_lay.2.1 17 = .ok (.aload 5, 2) from by decide +kernel)) <|
  tk_c (show TrOk D (d + 1) mi_X11_lay 19 (tr_getI 22 10 901) from ok_getI (ci := 9) (k := 1) (show decode mi_X11_lay.2.1 19 = .ok (.getfield 151, 3) from by decide +kernel) rfl (by decide) (gm 276 (by decide +kernel) rfl) rfl) <|
  tk_c (show TrOk D (d + 1) mi_X11_lay 22 (tr_ic 23 (-1)) from ok_iconst (show decode mi_X11_lay.2.1 22 = .ok (.iconst (-1), 1) from by decide +kernel) rfl) <|
  tk_c (show TrOk D (d + 1) mi_X11_lay 23 (tr_icne 26 29) from ok_icne (show decode mi_X11_lay.2.1 23 = .ok (.if_icmp .ne 6, 3) from by decide +kernel) (by decide)) <|
  tk_c (show TrOk D (d + 1) mi_X11_lay 26 (tr_ic 28 (-11)) from ok_bipush (show decode mi_X11_lay.2.1 26 = .ok (.bipush (-11), 2) from by decide +kernel) rfl) <|
  tk_c (show TrOk D (d + 1) mi_X11_lay 28 (tr_iret) from ok_iret (show decode mi_X11_lay.2.1 28 = .ok (.ireturn, 1) from by decide +kernel) rfl) <|
  tk_c (show TrOk D (d + 1) mi_X11_lay 29 (tr_aload 31 5) from ok_aload (show decode mi_X11_lay.2.1 29 = .ok (.aload 5, 2) from by decide +kernel)) <|
  tk_c (show TrOk D (d + 1) mi_X11_lay 31 (tr_iload 32 2) from ok_iload_n (show decode mi_X11_lay.2.1 31 = .ok (.iload_n 2, 1) from by decide +kernel) rfl) <|
  tk_c (show TrOk D (d + 1) mi_X11_lay 32 (tr_callV (C 58) 35 10 1) from ok_callV (ci := 9) (show decode mi_X11_lay.2.1 32 = .ok (.invokevirtual 154, 3) from by decide +kernel) mok_X9_hasCell rfl rfl (gm 539 (by decide +kernel) rfl) (gm 540 (by decide +kernel) rfl) (gm 541 (by decide +kernel) rfl) (hC 58)) <|
  tk_c (show TrOk D (d + 1) mi_X11_lay 35 (tr_ifne 38 41) from ok_ifne (show decode mi_X11_lay.2.1 35 = .ok (.ifCond .ne 6, 3) from by decide +kernel) (by decide)) <|
  tk_c (show TrOk D (d + 1) mi_X11_lay 38 (tr_ic 40 (-12)) from ok_bipush (show decode mi_X11_lay.2.1 38 = .ok (.bipush (-12), 2) from by decide +kernel) rfl) <|
  tk_c (show TrOk D (d + 1) mi_X11_lay 40 (tr_iret) from ok_iret (show decode mi_X11_lay.2.1 40 = .ok (.ireturn, 1) from by decide +kernel) rfl) <|
  tk_c (show TrOk D (d + 1) mi_X11_lay 41 (tr_aload 43 5) from ok_aload (show decode mi_X11_lay.2.1 41 = .ok (.aload 5, 2) from by decide +kernel)) <|
  tk_c (show TrOk D (d + 1) mi_X11_lay 43 (tr_iload 44 2) from ok_iload_n (show decode mi_X11_lay.2.1 43 = .ok (.iload_n 2, 1) from by decide +kernel) rfl) <|
  tk_c (show TrOk D (d + 1) mi_X11_lay 44 (tr_lload 45 3) from ok_lload_n (show decode mi_X11_lay.2.1 44 = .ok (.lload_n 3, 1) from by decide +kernel) rfl) <|
  tk_c (show TrOk D (d + 1) mi_X11_lay 45 (tr_callV (C 59) 48 10 2) from ok_callV (ci := 9) (show decode mi_X11_lay.2.1 45 = .ok (.invokevirtual 157, 3) from by decide +kernel) mok_X9_put rfl rfl (gm 543 (by decide +kernel) rfl) (gm 544 (by decide +kernel) rfl) (gm 545 (by decide +kernel) rfl) (hC 59)) <|
  tk_c (show TrOk D (d + 1) mi_X11_lay 48 (tr_ic 49 1) from ok_iconst (show decode mi_X11_lay.2.1 48 = .ok (.iconst 1, 1) from by decide +kernel) rfl) <|
  tk_c (show TrOk D (d + 1) mi_X11_lay 49 (tr_iret) from ok_iret (show decode mi_X11_lay.2.1 49 = .ok (.ireturn, 1) from by decide +kernel) rfl) <|
  tk_n
def tb_X11_lay (C : Nat → Sp) : Tab := tb_X11_lay_0 C
theorem tbk_X11_lay {D : DD} {d : Nat} {C : Nat → Sp} (hC : Snd D d C) : ∀ e ∈ tb_X11_lay C, TrOk D (d + 1) mi_X11_lay e.1 e.2 := tbk_X11_lay_0 hC
theorem a_X11_lay_0 (C : Nat → Sp) : ta (tb_X11_lay C) 0 = tr_aload 1 0 := rfl
theorem a_X11_lay_1 (C : Nat → Sp) : ta (tb_X11_lay C) 1 = tr_getR 4 12 1102 := rfl
theorem a_X11_lay_4 (C : Nat → Sp) : ta (tb_X11_lay C) 4 = tr_iload 5 1 := rfl
theorem a_X11_lay_5 (C : Nat → Sp) : ta (tb_X11_lay C) 5 = tr_callS (C 93) 8 2 := rfl
theorem a_X11_lay_8 (C : Nat → Sp) : ta (tb_X11_lay C) 8 = tr_astore 10 5 := rfl
theorem a_X11_lay_10 (C : Nat → Sp) : ta (tb_X11_lay C) 10 = tr_aload 12 5 := rfl
theorem a_X11_lay_12 (C : Nat → Sp) : ta (tb_X11_lay C) 12 = tr_ifnonnull 15 17 := rfl
theorem a_X11_lay_15 (C : Nat → Sp) : ta (tb_X11_lay C) 15 = tr_ic 16 (-1) := rfl
theorem a_X11_lay_16 (C : Nat → Sp) : ta (tb_X11_lay C) 16 = tr_iret := rfl
theorem a_X11_lay_17 (C : Nat → Sp) : ta (tb_X11_lay C) 17 = tr_aload 19 5 := rfl
theorem a_X11_lay_19 (C : Nat → Sp) : ta (tb_X11_lay C) 19 = tr_getI 22 10 901 := rfl
theorem a_X11_lay_22 (C : Nat → Sp) : ta (tb_X11_lay C) 22 = tr_ic 23 (-1) := rfl
theorem a_X11_lay_23 (C : Nat → Sp) : ta (tb_X11_lay C) 23 = tr_icne 26 29 := rfl
theorem a_X11_lay_26 (C : Nat → Sp) : ta (tb_X11_lay C) 26 = tr_ic 28 (-11) := rfl
theorem a_X11_lay_28 (C : Nat → Sp) : ta (tb_X11_lay C) 28 = tr_iret := rfl
theorem a_X11_lay_29 (C : Nat → Sp) : ta (tb_X11_lay C) 29 = tr_aload 31 5 := rfl
theorem a_X11_lay_31 (C : Nat → Sp) : ta (tb_X11_lay C) 31 = tr_iload 32 2 := rfl
theorem a_X11_lay_32 (C : Nat → Sp) : ta (tb_X11_lay C) 32 = tr_callV (C 58) 35 10 1 := rfl
theorem a_X11_lay_35 (C : Nat → Sp) : ta (tb_X11_lay C) 35 = tr_ifne 38 41 := rfl
theorem a_X11_lay_38 (C : Nat → Sp) : ta (tb_X11_lay C) 38 = tr_ic 40 (-12) := rfl
theorem a_X11_lay_40 (C : Nat → Sp) : ta (tb_X11_lay C) 40 = tr_iret := rfl
theorem a_X11_lay_41 (C : Nat → Sp) : ta (tb_X11_lay C) 41 = tr_aload 43 5 := rfl
theorem a_X11_lay_43 (C : Nat → Sp) : ta (tb_X11_lay C) 43 = tr_iload 44 2 := rfl
theorem a_X11_lay_44 (C : Nat → Sp) : ta (tb_X11_lay C) 44 = tr_lload 45 3 := rfl
theorem a_X11_lay_45 (C : Nat → Sp) : ta (tb_X11_lay C) 45 = tr_callV (C 59) 48 10 2 := rfl
theorem a_X11_lay_48 (C : Nat → Sp) : ta (tb_X11_lay C) 48 = tr_ic 49 1 := rfl
theorem a_X11_lay_49 (C : Nat → Sp) : ta (tb_X11_lay C) 49 = tr_iret := rfl

def tb_X11_cell_0 (C : Nat → Sp) : Tab := [(0, tr_aload 1 0), (1, tr_getR 4 12 1102), (4, tr_iload 5 1), (5, tr_callS (C 93) 8 2), (8, tr_astore 9 3), (9, tr_aload 10 3), (10, tr_ifnull 13 30), (13, tr_aload 14 3), (14, tr_iload 15 2), (15, tr_callV (C 58) 18 10 1), (18, tr_ifeq 21 30), (21, tr_aload 22 3), (22, tr_getR 25 10 900), (25, tr_iload 26 2), (26, tr_lald 27), (27, tr_goto 31), (30, tr_lc 31 0), (31, tr_lret)]
set_option maxRecDepth 20000 in
theorem tbk_X11_cell_0 {D : DD} {d : Nat} {C : Nat → Sp} (hC : Snd D d C) : ∀ e ∈ tb_X11_cell_0 C, TrOk D (d + 1) mi_X11_cell e.1 e.2 :=
  tk_c (show TrOk D (d + 1) mi_X11_cell 0 (tr_aload 1 0) from ok_aload_n (show decode mi_X11_cell.2.1 0 = .ok (.aload_n 0, 1) from by decide +kernel) rfl) <|
  tk_c (show TrOk D (d + 1) mi_X11_cell 1 (tr_getR 4 12 1102) from ok_getR (ci := 11) (k := 2) (show decode mi_X11_cell.2.1 1 = .ok (.getfield 25, 3) from by decide +kernel) rfl (by decide) (gm 288 (by decide +kernel) rfl) rfl) <|
  tk_c (show TrOk D (d + 1) mi_X11_cell 4 (tr_iload 5 1) from ok_iload_n (show decode mi_X11_cell.2.1 4 = .ok (.iload_n 1, 1) from by decide +kernel) rfl) <|
  tk_c (show TrOk D (d + 1) mi_X11_cell 5 (tr_callS (C 93) 8 2) from ok_callS (show decode mi_X11_cell.2.1 5 = .ok (.invokestatic 144, 3) from by decide +kernel) mok_X11_findTray (gm 528 (by decide +kernel) rfl) (gm 529 (by decide +kernel) rfl) (hC 93)) <|
  tk_c (show TrOk D (d + 1) mi_X11_cell 8 (tr_astore 9 3) from ok_astore_n (show decode mi_X11_cell.2.1 8 = .ok (.astore_n 3, 1) from by decide +kernel) rfl (by decide)) <|
  tk_c (show TrOk D (d + 1) mi_X11_cell 9 (tr_aload 10 3) from ok_aload_n (show decode mi_X11_cell.2.1 9 = .ok (.aload_n 3, 1) from by decide +kernel) rfl) <|
  tk_c (show TrOk D (d + 1) mi_X11_cell 10 (tr_ifnull 13 30) from ok_ifnull (show decode mi_X11_cell.2.1 10 = .ok (.ifnull 20, 3) from by decide +kernel) (by decide)) <|
  tk_c (show TrOk D (d + 1) mi_X11_cell 13 (tr_aload 14 3) from ok_aload_n (show decode mi_X11_cell.2.1 13 = .ok (.aload_n 3, 1) from by decide +kernel) rfl) <|
  tk_c (show TrOk D (d + 1) mi_X11_cell 14 (tr_iload 15 2) from ok_iload_n (show decode mi_X11_cell.2.1 14 = .ok (.iload_n 2, 1) from by decide +kernel) rfl) <|
  tk_c (show TrOk D (d + 1) mi_X11_cell 15 (tr_callV (C 58) 18 10 1) from ok_callV (ci := 9) (show decode mi_X11_cell.2.1 15 = .ok (.invokevirtual 154, 3) from by decide +kernel) mok_X9_hasCell rfl rfl (gm 539 (by decide +kernel) rfl) (gm 540 (by decide +kernel) rfl) (gm 541 (by decide +kernel) rfl) (hC 58)) <|
  tk_c (show TrOk D (d + 1) mi_X11_cell 18 (tr_ifeq 21 30) from ok_ifeq (show decode mi_X11_cell.2.1 18 = .ok (.ifCond .eq 12, 3) from by decide +kernel) (by decide)) <|
  tk_c (show TrOk D (d + 1) mi_X11_cell 21 (tr_aload 22 3) from ok_aload_n (show decode mi_X11_cell.2.1 21 = .ok (.aload_n 3, 1) from by decide +kernel) rfl) <|
  tk_c (show TrOk D (d + 1) mi_X11_cell 22 (tr_getR 25 10 900) from ok_getR (ci := 9) (k := 0) (show decode mi_X11_cell.2.1 22 = .ok (.getfield 161, 3) from by decide +kernel) rfl (by decide) (gm 273 (by decide +kernel) rfl) rfl) <|
  tk_c (show TrOk D (d + 1) mi_X11_cell 25 (tr_iload 26 2) from ok_iload_n (show decode mi_X11_cell.2.1 25 = .ok (.iload_n 2, 1) from by decide +kernel) rfl) <|
  tk_c (show TrOk D (d + 1) mi_X11_cell 26 (tr_lald 27) from ok_lald (show decode mi_X11_cell.2.1 26 = .ok (.laload, 1) from by decide +kernel)) <|
  tk_c (show TrOk D (d + 1) mi_X11_cell 27 (tr_goto 31) from ok_goto (show decode mi_X11_cell.2.1 27 = .ok (.goto 4, 3) from by decide +kernel) (by decide)) <|
  tk_c (show TrOk D (d + 1) mi_X11_cell 30 (tr_lc 31 0) from ok_lconst (show decode mi_X11_cell.2.1 30 = .ok (.lconst 0, 1) from by decide +kernel) rfl) <|
  tk_c (show TrOk D (d + 1) mi_X11_cell 31 (tr_lret) from ok_lret (show decode mi_X11_cell.2.1 31 = .ok (.lreturn, 1) from by decide +kernel) rfl) <|
  tk_n
def tb_X11_cell (C : Nat → Sp) : Tab := tb_X11_cell_0 C
theorem tbk_X11_cell {D : DD} {d : Nat} {C : Nat → Sp} (hC : Snd D d C) : ∀ e ∈ tb_X11_cell C, TrOk D (d + 1) mi_X11_cell e.1 e.2 := tbk_X11_cell_0 hC
theorem a_X11_cell_0 (C : Nat → Sp) : ta (tb_X11_cell C) 0 = tr_aload 1 0 := rfl
theorem a_X11_cell_1 (C : Nat → Sp) : ta (tb_X11_cell C) 1 = tr_getR 4 12 1102 := rfl
theorem a_X11_cell_4 (C : Nat → Sp) : ta (tb_X11_cell C) 4 = tr_iload 5 1 := rfl
theorem a_X11_cell_5 (C : Nat → Sp) : ta (tb_X11_cell C) 5 = tr_callS (C 93) 8 2 := rfl
theorem a_X11_cell_8 (C : Nat → Sp) : ta (tb_X11_cell C) 8 = tr_astore 9 3 := rfl
theorem a_X11_cell_9 (C : Nat → Sp) : ta (tb_X11_cell C) 9 = tr_aload 10 3 := rfl
theorem a_X11_cell_10 (C : Nat → Sp) : ta (tb_X11_cell C) 10 = tr_ifnull 13 30 := rfl
theorem a_X11_cell_13 (C : Nat → Sp) : ta (tb_X11_cell C) 13 = tr_aload 14 3 := rfl
theorem a_X11_cell_14 (C : Nat → Sp) : ta (tb_X11_cell C) 14 = tr_iload 15 2 := rfl
theorem a_X11_cell_15 (C : Nat → Sp) : ta (tb_X11_cell C) 15 = tr_callV (C 58) 18 10 1 := rfl
theorem a_X11_cell_18 (C : Nat → Sp) : ta (tb_X11_cell C) 18 = tr_ifeq 21 30 := rfl
theorem a_X11_cell_21 (C : Nat → Sp) : ta (tb_X11_cell C) 21 = tr_aload 22 3 := rfl
theorem a_X11_cell_22 (C : Nat → Sp) : ta (tb_X11_cell C) 22 = tr_getR 25 10 900 := rfl
theorem a_X11_cell_25 (C : Nat → Sp) : ta (tb_X11_cell C) 25 = tr_iload 26 2 := rfl
theorem a_X11_cell_26 (C : Nat → Sp) : ta (tb_X11_cell C) 26 = tr_lald 27 := rfl
theorem a_X11_cell_27 (C : Nat → Sp) : ta (tb_X11_cell C) 27 = tr_goto 31 := rfl
theorem a_X11_cell_30 (C : Nat → Sp) : ta (tb_X11_cell C) 30 = tr_lc 31 0 := rfl
theorem a_X11_cell_31 (C : Nat → Sp) : ta (tb_X11_cell C) 31 = tr_lret := rfl

def tb_X11_cells_0 (C : Nat → Sp) : Tab := [(0, tr_aload 1 0), (1, tr_getR 4 12 1102), (4, tr_iload 5 1), (5, tr_callS (C 93) 8 2), (8, tr_astore 9 2), (9, tr_aload 10 2), (10, tr_ifnonnull 13 15), (13, tr_ic 14 (-1)), (14, tr_iret), (15, tr_aload 16 2), (16, tr_getI 19 10 901), (19, tr_ic 20 (-1)), (20, tr_icne 23 28), (23, tr_ic 25 (-4)), (25, tr_goto 32), (28, tr_aload 29 2), (29, tr_getI 32 10 902), (32, tr_iret)]
set_option maxRecDepth 20000 in
theorem tbk_X11_cells_0 {D : DD} {d : Nat} {C : Nat → Sp} (hC : Snd D d C) : ∀ e ∈ tb_X11_cells_0 C, TrOk D (d + 1) mi_X11_cells e.1 e.2 :=
  tk_c (show TrOk D (d + 1) mi_X11_cells 0 (tr_aload 1 0) from ok_aload_n (show decode mi_X11_cells.2.1 0 = .ok (.aload_n 0, 1) from by decide +kernel) rfl) <|
  tk_c (show TrOk D (d + 1) mi_X11_cells 1 (tr_getR 4 12 1102) from ok_getR (ci := 11) (k := 2) (show decode mi_X11_cells.2.1 1 = .ok (.getfield 25, 3) from by decide +kernel) rfl (by decide) (gm 288 (by decide +kernel) rfl) rfl) <|
  tk_c (show TrOk D (d + 1) mi_X11_cells 4 (tr_iload 5 1) from ok_iload_n (show decode mi_X11_cells.2.1 4 = .ok (.iload_n 1, 1) from by decide +kernel) rfl) <|
  tk_c (show TrOk D (d + 1) mi_X11_cells 5 (tr_callS (C 93) 8 2) from ok_callS (show decode mi_X11_cells.2.1 5 = .ok (.invokestatic 144, 3) from by decide +kernel) mok_X11_findTray (gm 528 (by decide +kernel) rfl) (gm 529 (by decide +kernel) rfl) (hC 93)) <|
  tk_c (show TrOk D (d + 1) mi_X11_cells 8 (tr_astore 9 2) from ok_astore_n (show decode mi_X11_cells.2.1 8 = .ok (.astore_n 2, 1) from by decide +kernel) rfl (by decide)) <|
  tk_c (show TrOk D (d + 1) mi_X11_cells 9 (tr_aload 10 2) from ok_aload_n (show decode mi_X11_cells.2.1 9 = .ok (.aload_n 2, 1) from by decide +kernel) rfl) <|
  tk_c (show TrOk D (d + 1) mi_X11_cells 10 (tr_ifnonnull 13 15) from ok_ifnonnull (show decode mi_X11_cells.2.1 10 = .ok (.ifnonnull 5, 3) from by decide +kernel) (by decide)) <|
  tk_c (show TrOk D (d + 1) mi_X11_cells 13 (tr_ic 14 (-1)) from ok_iconst (show decode mi_X11_cells.2.1 13 = .ok (.iconst (-1), 1) from by decide +kernel) rfl) <|
  tk_c (show TrOk D (d + 1) mi_X11_cells 14 (tr_iret) from ok_iret (show decode mi_X11_cells.2.1 14 = .ok (.ireturn, 1) from by decide +kernel) rfl) <|
  tk_c (show TrOk D (d + 1) mi_X11_cells 15 (tr_aload 16 2) from ok_aload_n (show decode mi_X11_cells.2.1 15 = .ok (.aload_n 2, 1) from by decide +kernel) rfl) <|
  tk_c (show TrOk D (d + 1) mi_X11_cells 16 (tr_getI 19 10 901) from ok_getI (ci := 9) (k := 1) (show decode mi_X11_cells.2.1 16 = .ok (.getfield 151, 3) from by decide +kernel) rfl (by decide) (gm 276 (by decide +kernel) rfl) rfl) <|
  tk_c (show TrOk D (d + 1) mi_X11_cells 19 (tr_ic 20 (-1)) from ok_iconst (show decode mi_X11_cells.2.1 19 = .ok (.iconst (-1), 1) from by decide +kernel) rfl) <|
  tk_c (show TrOk D (d + 1) mi_X11_cells 20 (tr_icne 23 28) from ok_icne (show decode mi_X11_cells.2.1 20 = .ok (.if_icmp .ne 8, 3) from by decide +kernel) (by decide)) <|
  tk_c (show TrOk D (d + 1) mi_X11_cells 23 (tr_ic 25 (-4)) from ok_bipush (show decode mi_X11_cells.2.1 23 = .ok (.bipush (-4), 2) from by decide +kernel) rfl) <|
  tk_c (show TrOk D (d + 1) mi_X11_cells 25 (tr_goto 32) from ok_goto (show decode mi_X11_cells.2.1 25 = .ok (.goto 7, 3) from by decide +kernel) (by decide)) <|
  tk_c (show TrOk D (d + 1) mi_X11_cells 28 (tr_aload 29 2) from ok_aload_n (show decode mi_X11_cells.2.1 28 = .ok (.aload_n 2, 1) from by decide +kernel) rfl) <|
  tk_c (show TrOk D (d + 1) mi_X11_cells 29 (tr_getI 32 10 902) from ok_getI (ci := 9) (k := 2) (show decode mi_X11_cells.2.1 29 = .ok (.getfield 165, 3) from by decide +kernel) rfl (by decide) (gm 278 (by decide +kernel) rfl) rfl) <|
  tk_c (show TrOk D (d + 1) mi_X11_cells 32 (tr_iret) from ok_iret (show decode mi_X11_cells.2.1 32 = .ok (.ireturn, 1) from by decide +kernel) rfl) <|
  tk_n
def tb_X11_cells (C : Nat → Sp) : Tab := tb_X11_cells_0 C
theorem tbk_X11_cells {D : DD} {d : Nat} {C : Nat → Sp} (hC : Snd D d C) : ∀ e ∈ tb_X11_cells C, TrOk D (d + 1) mi_X11_cells e.1 e.2 := tbk_X11_cells_0 hC
theorem a_X11_cells_0 (C : Nat → Sp) : ta (tb_X11_cells C) 0 = tr_aload 1 0 := rfl
theorem a_X11_cells_1 (C : Nat → Sp) : ta (tb_X11_cells C) 1 = tr_getR 4 12 1102 := rfl
theorem a_X11_cells_4 (C : Nat → Sp) : ta (tb_X11_cells C) 4 = tr_iload 5 1 := rfl
theorem a_X11_cells_5 (C : Nat → Sp) : ta (tb_X11_cells C) 5 = tr_callS (C 93) 8 2 := rfl
theorem a_X11_cells_8 (C : Nat → Sp) : ta (tb_X11_cells C) 8 = tr_astore 9 2 := rfl
theorem a_X11_cells_9 (C : Nat → Sp) : ta (tb_X11_cells C) 9 = tr_aload 10 2 := rfl
theorem a_X11_cells_10 (C : Nat → Sp) : ta (tb_X11_cells C) 10 = tr_ifnonnull 13 15 := rfl
theorem a_X11_cells_13 (C : Nat → Sp) : ta (tb_X11_cells C) 13 = tr_ic 14 (-1) := rfl
theorem a_X11_cells_14 (C : Nat → Sp) : ta (tb_X11_cells C) 14 = tr_iret := rfl
theorem a_X11_cells_15 (C : Nat → Sp) : ta (tb_X11_cells C) 15 = tr_aload 16 2 := rfl
theorem a_X11_cells_16 (C : Nat → Sp) : ta (tb_X11_cells C) 16 = tr_getI 19 10 901 := rfl
theorem a_X11_cells_19 (C : Nat → Sp) : ta (tb_X11_cells C) 19 = tr_ic 20 (-1) := rfl
theorem a_X11_cells_20 (C : Nat → Sp) : ta (tb_X11_cells C) 20 = tr_icne 23 28 := rfl
theorem a_X11_cells_23 (C : Nat → Sp) : ta (tb_X11_cells C) 23 = tr_ic 25 (-4) := rfl
theorem a_X11_cells_25 (C : Nat → Sp) : ta (tb_X11_cells C) 25 = tr_goto 32 := rfl
theorem a_X11_cells_28 (C : Nat → Sp) : ta (tb_X11_cells C) 28 = tr_aload 29 2 := rfl
theorem a_X11_cells_29 (C : Nat → Sp) : ta (tb_X11_cells C) 29 = tr_getI 32 10 902 := rfl
theorem a_X11_cells_32 (C : Nat → Sp) : ta (tb_X11_cells C) 32 = tr_iret := rfl

def tb_X11_send_0 (C : Nat → Sp) : Tab := [(0, tr_aload 1 0), (1, tr_getR 4 12 1100), (4, tr_iload 5 1), (5, tr_callV (C 24) 8 5 1), (8, tr_astore 10 4), (10, tr_aload 12 4), (12, tr_ifnonnull 15 19), (15, tr_ic 16 (-1)), (16, tr_goto 29), (19, tr_aload 20 0), (20, tr_getR 23 12 1105), (23, tr_aload 25 4), (25, tr_lload 26 2), (26, tr_callV (C 41) 29 9 2), (29, tr_iret)]
set_option maxRecDepth 20000 in
theorem tbk_X11_send_0 {D : DD} {d : Nat} {C : Nat → Sp} (hC : Snd D d C) : ∀ e ∈ tb_X11_send_0 C, TrOk D (d + 1) mi_X11_send e.1 e.2 :=
  tk_c (show TrOk D (d + 1) mi_X11_send 0 (tr_aload 1 0) from ok_aload_n (show decode mi_X11_send.2.1 0 = .ok (.aload_n 0, 1) from by decide +kernel) rfl) <|
  tk_c (show TrOk D (d + 1) mi_X11_send 1 (tr_getR 4 12 1100) from ok_getR (ci := 11) (k := 0) (show decode mi_X11_send.2.1 1 = .ok (.getfield 12, 3) from by decide +kernel) rfl (by decide) (gm 286 (by decide +kernel) rfl) rfl) <|
  tk_c (show TrOk D (d + 1) mi_X11_send 4 (tr_iload 5 1) from ok_iload_n (show decode mi_X11_send.2.1 4 = .ok (.iload_n 1, 1) from by decide +kernel) rfl) <|
  tk_c (show TrOk D (d + 1) mi_X11_send 5 (tr_callV (C 24) 8 5 1) from ok_callV (ci := 4) (show decode mi_X11_send.2.1 5 = .ok (.invokevirtual 53, 3) from by decide +kernel) mok_X4_find rfl rfl (gm 309 (by decide +kernel) rfl) (gm 310 (by decide +kernel) rfl) (gm 311 (by decide +kernel) rfl) (hC 24)) <|
  tk_c (show TrOk D (d + 1) mi_X11_send 8 (tr_astore 10 4) from ok_astore (show decode mi_X11_send.2.1 8 = .ok (.astore 4, 2) from by decide +kernel) (by decide)) <|
  tk_c (show TrOk D (d + 1) mi_X11_send 10 (tr_aload 12 4) from ok_aload (show decode mi_X11_send.2.1 10 = .ok (.aload 4, 2) from by decide +kernel)) <|
  tk_c (show TrOk D (d + 1) mi_X11_send 12 (tr_ifnonnull 15 19) from ok_ifnonnull (show decode mi_X11_send.2.1 12 = .ok (.ifnonnull 7, 3) from by decide +kernel) (by decide)) <|
  tk_c (show TrOk D (d + 1) mi_X11_send 15 (tr_ic 16 (-1)) from ok_iconst (show decode mi_X11_send.2.1 15 = .ok (.iconst (-1), 1) from by decide +kernel) rfl) <|
  tk_c (show TrOk D (d + 1) mi_X11_send 16 (tr_goto 29) from ok_goto (show decode mi_X11_send.2.1 16 = .ok (.goto 13, 3) from by decide +kernel) (by decide)) <|
  tk_c (show TrOk D (d + 1) mi_X11_send 19 (tr_aload 20 0) from ok_aload_n (show decode mi_X11_send.2.1 19 = .ok (.aload_n 0, 1) from by decide +kernel) rfl) <|
  tk_c (show TrOk D (d + 1) mi_X11_send 20 (tr_getR 23 12 1105) from ok_getR (ci := 11) (k := 5) (show decode mi_X11_send.2.1 20 = .ok (.getfield 48, 3) from by decide +kernel) rfl (by decide) (gm 291 (by decide +kernel) rfl) rfl) <|
  tk_c (show TrOk D (d + 1) mi_X11_send 23 (tr_aload 25 4) from ok_aload (show decode mi_X11_send.2.1 23 = .ok (.aload 4, 2) from by decide +kernel)) <|
  tk_c (show TrOk D (d + 1) mi_X11_send 25 (tr_lload 26 2) from ok_lload_n (show decode mi_X11_send.2.1 25 = .ok (.lload_n 2, 1) from by decide +kernel) rfl) <|
  tk_c (show TrOk D (d + 1) mi_X11_send 26 (tr_callV (C 41) 29 9 2) from ok_callV (ci := 8) (show decode mi_X11_send.2.1 26 = .ok (.invokevirtual 166, 3) from by decide +kernel) mok_X8_tellAll rfl rfl (gm 560 (by decide +kernel) rfl) (gm 561 (by decide +kernel) rfl) (gm 562 (by decide +kernel) rfl) (hC 41)) <|
  tk_c (show TrOk D (d + 1) mi_X11_send 29 (tr_iret) from ok_iret (show decode mi_X11_send.2.1 29 = .ok (.ireturn, 1) from by decide +kernel) rfl) <|
  tk_n
def tb_X11_send (C : Nat → Sp) : Tab := tb_X11_send_0 C
theorem tbk_X11_send {D : DD} {d : Nat} {C : Nat → Sp} (hC : Snd D d C) : ∀ e ∈ tb_X11_send C, TrOk D (d + 1) mi_X11_send e.1 e.2 := tbk_X11_send_0 hC
theorem a_X11_send_0 (C : Nat → Sp) : ta (tb_X11_send C) 0 = tr_aload 1 0 := rfl
theorem a_X11_send_1 (C : Nat → Sp) : ta (tb_X11_send C) 1 = tr_getR 4 12 1100 := rfl
theorem a_X11_send_4 (C : Nat → Sp) : ta (tb_X11_send C) 4 = tr_iload 5 1 := rfl
theorem a_X11_send_5 (C : Nat → Sp) : ta (tb_X11_send C) 5 = tr_callV (C 24) 8 5 1 := rfl
theorem a_X11_send_8 (C : Nat → Sp) : ta (tb_X11_send C) 8 = tr_astore 10 4 := rfl
theorem a_X11_send_10 (C : Nat → Sp) : ta (tb_X11_send C) 10 = tr_aload 12 4 := rfl
theorem a_X11_send_12 (C : Nat → Sp) : ta (tb_X11_send C) 12 = tr_ifnonnull 15 19 := rfl
theorem a_X11_send_15 (C : Nat → Sp) : ta (tb_X11_send C) 15 = tr_ic 16 (-1) := rfl
theorem a_X11_send_16 (C : Nat → Sp) : ta (tb_X11_send C) 16 = tr_goto 29 := rfl
theorem a_X11_send_19 (C : Nat → Sp) : ta (tb_X11_send C) 19 = tr_aload 20 0 := rfl
theorem a_X11_send_20 (C : Nat → Sp) : ta (tb_X11_send C) 20 = tr_getR 23 12 1105 := rfl
theorem a_X11_send_23 (C : Nat → Sp) : ta (tb_X11_send C) 23 = tr_aload 25 4 := rfl
theorem a_X11_send_25 (C : Nat → Sp) : ta (tb_X11_send C) 25 = tr_lload 26 2 := rfl
theorem a_X11_send_26 (C : Nat → Sp) : ta (tb_X11_send C) 26 = tr_callV (C 41) 29 9 2 := rfl
theorem a_X11_send_29 (C : Nat → Sp) : ta (tb_X11_send C) 29 = tr_iret := rfl

def tb_X11_told_0 (C : Nat → Sp) : Tab := [(0, tr_iload 1 1), (1, tr_sw 0 [48, 69, 77, 85, 93, 101, 109, 117] 125), (48, tr_aload 49 0), (49, tr_getR 52 12 1104), (52, tr_getI 55 8 710), (55, tr_ic 57 (-4)), (57, tr_iceq 60 64), (60, tr_ic 61 1), (61, tr_goto 65), (64, tr_ic 65 0), (65, tr_callS (C 94) 68 1), (68, tr_iret), (69, tr_aload 70 0), (70, tr_getR 73 12 1104), (73, tr_getI 76 8 704), (76, tr_iret), (77, tr_aload 78 0), (78, tr_getR 81 12 1104), (81, tr_getI 84 8 705), (84, tr_iret), (85, tr_aload 86 0), (86, tr_getR 89 12 1104), (89, tr_getI 92 8 706), (92, tr_iret), (93, tr_aload 94 0), (94, tr_getR 97 12 1104), (97, tr_getI 100 8 707), (100, tr_iret), (101, tr_aload 102 0), (102, tr_getR 105 12 1104), (105, tr_getI 108 8 708), (108, tr_iret), (109, tr_aload 110 0), (110, tr_getR 113 12 1104), (113, tr_getI 116 8 709), (116, tr_iret), (117, tr_aload 118 0), (118, tr_getR 121 12 1104), (121, tr_getI 124 8 710), (124, tr_iret)]
set_option maxRecDepth 20000 in
theorem tbk_X11_told_0 {D : DD} {d : Nat} {C : Nat → Sp} (hC : Snd D d C) : ∀ e ∈ tb_X11_told_0 C, TrOk D (d + 1) mi_X11_told e.1 e.2 :=
  tk_c (show TrOk D (d + 1) mi_X11_told 0 (tr_iload 1 1) from ok_iload_n (show decode mi_X11_told.2.1 0 = .ok (.iload_n 1, 1) from by decide +kernel) rfl) <|
  tk_c (show TrOk D (d + 1) mi_X11_told 1 (tr_sw 0 [48, 69, 77, 85, 93, 101, 109, 117] 125) from ok_sw 0 (show decode mi_X11_told.2.1 1 = .ok (.tableswitch 124 0 7 #[47, 68, 76, 84, 92, 100, 108, 116], 47) from by decide +kernel) rfl rfl (by decide) (by decide) (by decide) (by decide +kernel)) <|
  tk_c (show TrOk D (d + 1) mi_X11_told 48 (tr_aload 49 0) from ok_aload_n (show decode mi_X11_told.2.1 48 = .ok (.aload_n 0, 1) from by decide +kernel) rfl) <|
  tk_c (show TrOk D (d + 1) mi_X11_told 49 (tr_getR 52 12 1104) from ok_getR (ci := 11) (k := 4) (show decode mi_X11_told.2.1 49 = .ok (.getfield 39, 3) from by decide +kernel) rfl (by decide) (gm 290 (by decide +kernel) rfl) rfl) <|
  tk_c (show TrOk D (d + 1) mi_X11_told 52 (tr_getI 55 8 710) from ok_getI (ci := 7) (k := 10) (show decode mi_X11_told.2.1 52 = .ok (.getfield 170, 3) from by decide +kernel) rfl (by decide) (gm 159 (by decide +kernel) rfl) rfl) <|
  tk_c (show TrOk D (d + 1) mi_X11_told 55 (tr_ic 57 (-4)) from ok_bipush (show decode mi_X11_told.2.1 55 = .ok (.bipush (-4), 2) from by decide +kernel) rfl) <|
  tk_c (show TrOk D (d + 1) mi_X11_told 57 (tr_iceq 60 64) from ok_iceq (show decode mi_X11_told.2.1 57 = .ok (.if_icmp .eq 7, 3) from by decide +kernel) (by decide)) <|
  tk_c (show TrOk D (d + 1) mi_X11_told 60 (tr_ic 61 1) from ok_iconst (show decode mi_X11_told.2.1 60 = .ok (.iconst 1, 1) from by decide +kernel) rfl) <|
  tk_c (show TrOk D (d + 1) mi_X11_told 61 (tr_goto 65) from ok_goto (show decode mi_X11_told.2.1 61 = .ok (.goto 4, 3) from by decide +kernel) (by decide)) <|
  tk_c (show TrOk D (d + 1) mi_X11_told 64 (tr_ic 65 0) from ok_iconst (show decode mi_X11_told.2.1 64 = .ok (.iconst 0, 1) from by decide +kernel) rfl) <|
  tk_c (show TrOk D (d + 1) mi_X11_told 65 (tr_callS (C 94) 68 1) from ok_callS (show decode mi_X11_told.2.1 65 = .ok (.invokestatic 124, 3) from by decide +kernel) mok_X11_asNumber (gm 503 (by decide +kernel) rfl) (gm 504 (by decide +kernel) rfl) (hC 94)) <|
  tk_c (show TrOk D (d + 1) mi_X11_told 68 (tr_iret) from ok_iret (show decode mi_X11_told.2.1 68 = .ok (.ireturn, 1) from by decide +kernel) rfl) <|
  tk_c (show TrOk D (d + 1) mi_X11_told 69 (tr_aload 70 0) from ok_aload_n (show decode mi_X11_told.2.1 69 = .ok (.aload_n 0, 1) from by decide +kernel) rfl) <|
  tk_c (show TrOk D (d + 1) mi_X11_told 70 (tr_getR 73 12 1104) from ok_getR (ci := 11) (k := 4) (show decode mi_X11_told.2.1 70 = .ok (.getfield 39, 3) from by decide +kernel) rfl (by decide) (gm 290 (by decide +kernel) rfl) rfl) <|
  tk_c (show TrOk D (d + 1) mi_X11_told 73 (tr_getI 76 8 704) from ok_getI (ci := 7) (k := 4) (show decode mi_X11_told.2.1 73 = .ok (.getfield 173, 3) from by decide +kernel) rfl (by decide) (gm 144 (by decide +kernel) rfl) rfl) <|
  tk_c (show TrOk D (d + 1) mi_X11_told 76 (tr_iret) from ok_iret (show decode mi_X11_told.2.1 76 = .ok (.ireturn, 1) from by decide +kernel) rfl) <|
  tk_c (show TrOk D (d + 1) mi_X11_told 77 (tr_aload 78 0) from ok_aload_n (show decode mi_X11_told.2.1 77 = .ok (.aload_n 0, 1) from by decide +kernel) rfl) <|
  tk_c (show TrOk D (d + 1) mi_X11_told 78 (tr_getR 81 12 1104) from ok_getR (ci := 11) (k := 4) (show decode mi_X11_told.2.1 78 = .ok (.getfield 39, 3) from by decide +kernel) rfl (by decide) (gm 290 (by decide +kernel) rfl) rfl) <|
  tk_c (show TrOk D (d + 1) mi_X11_told 81 (tr_getI 84 8 705) from ok_getI (ci := 7) (k := 5) (show decode mi_X11_told.2.1 81 = .ok (.getfield 176, 3) from by decide +kernel) rfl (by decide) (gm 147 (by decide +kernel) rfl) rfl) <|
  tk_c (show TrOk D (d + 1) mi_X11_told 84 (tr_iret) from ok_iret (show decode mi_X11_told.2.1 84 = .ok (.ireturn, 1) from by decide +kernel) rfl) <|
  tk_c (show TrOk D (d + 1) mi_X11_told 85 (tr_aload 86 0) from ok_aload_n (show decode mi_X11_told.2.1 85 = .ok (.aload_n 0, 1) from by decide +kernel) rfl) <|
  tk_c (show TrOk D (d + 1) mi_X11_told 86 (tr_getR 89 12 1104) from ok_getR (ci := 11) (k := 4) (show decode mi_X11_told.2.1 86 = .ok (.getfield 39, 3) from by decide +kernel) rfl (by decide) (gm 290 (by decide +kernel) rfl) rfl) <|
  tk_c (show TrOk D (d + 1) mi_X11_told 89 (tr_getI 92 8 706) from ok_getI (ci := 7) (k := 6) (show decode mi_X11_told.2.1 89 = .ok (.getfield 179, 3) from by decide +kernel) rfl (by decide) (gm 149 (by decide +kernel) rfl) rfl) <|
  tk_c (show TrOk D (d + 1) mi_X11_told 92 (tr_iret) from ok_iret (show decode mi_X11_told.2.1 92 = .ok (.ireturn, 1) from by decide +kernel) rfl) <|
  tk_c (show TrOk D (d + 1) mi_X11_told 93 (tr_aload 94 0) from ok_aload_n (show decode mi_X11_told.2.1 93 = .ok (.aload_n 0, 1) from by decide +kernel) rfl) <|
  tk_c (show TrOk D (d + 1) mi_X11_told 94 (tr_getR 97 12 1104) from ok_getR (ci := 11) (k := 4) (show decode mi_X11_told.2.1 94 = .ok (.getfield 39, 3) from by decide +kernel) rfl (by decide) (gm 290 (by decide +kernel) rfl) rfl) <|
  tk_c (show TrOk D (d + 1) mi_X11_told 97 (tr_getI 100 8 707) from ok_getI (ci := 7) (k := 7) (show decode mi_X11_told.2.1 97 = .ok (.getfield 182, 3) from by decide +kernel) rfl (by decide) (gm 151 (by decide +kernel) rfl) rfl) <|
  tk_c (show TrOk D (d + 1) mi_X11_told 100 (tr_iret) from ok_iret (show decode mi_X11_told.2.1 100 = .ok (.ireturn, 1) from by decide +kernel) rfl) <|
  tk_c (show TrOk D (d + 1) mi_X11_told 101 (tr_aload 102 0) from ok_aload_n (show decode mi_X11_told.2.1 101 = .ok (.aload_n 0, 1) from by decide +kernel) rfl) <|
  tk_c (show TrOk D (d + 1) mi_X11_told 102 (tr_getR 105 12 1104) from ok_getR (ci := 11) (k := 4) (show decode mi_X11_told.2.1 102 = .ok (.getfield 39, 3) from by decide +kernel) rfl (by decide) (gm 290 (by decide +kernel) rfl) rfl) <|
  tk_c (show TrOk D (d + 1) mi_X11_told 105 (tr_getI 108 8 708) from ok_getI (ci := 7) (k := 8) (show decode mi_X11_told.2.1 105 = .ok (.getfield 185, 3) from by decide +kernel) rfl (by decide) (gm 154 (by decide +kernel) rfl) rfl) <|
  tk_c (show TrOk D (d + 1) mi_X11_told 108 (tr_iret) from ok_iret (show decode mi_X11_told.2.1 108 = .ok (.ireturn, 1) from by decide +kernel) rfl) <|
  tk_c (show TrOk D (d + 1) mi_X11_told 109 (tr_aload 110 0) from ok_aload_n (show decode mi_X11_told.2.1 109 = .ok (.aload_n 0, 1) from by decide +kernel) rfl) <|
  tk_c (show TrOk D (d + 1) mi_X11_told 110 (tr_getR 113 12 1104) from ok_getR (ci := 11) (k := 4) (show decode mi_X11_told.2.1 110 = .ok (.getfield 39, 3) from by decide +kernel) rfl (by decide) (gm 290 (by decide +kernel) rfl) rfl) <|
  tk_c (show TrOk D (d + 1) mi_X11_told 113 (tr_getI 116 8 709) from ok_getI (ci := 7) (k := 9) (show decode mi_X11_told.2.1 113 = .ok (.getfield 188, 3) from by decide +kernel) rfl (by decide) (gm 156 (by decide +kernel) rfl) rfl) <|
  tk_c (show TrOk D (d + 1) mi_X11_told 116 (tr_iret) from ok_iret (show decode mi_X11_told.2.1 116 = .ok (.ireturn, 1) from by decide +kernel) rfl) <|
  tk_c (show TrOk D (d + 1) mi_X11_told 117 (tr_aload 118 0) from ok_aload_n (show decode mi_X11_told.2.1 117 = .ok (.aload_n 0, 1) from by decide +kernel) rfl) <|
  tk_c (show TrOk D (d + 1) mi_X11_told 118 (tr_getR 121 12 1104) from ok_getR (ci := 11) (k := 4) (show decode mi_X11_told.2.1 118 = .ok (.getfield 39, 3) from by decide +kernel) rfl (by decide) (gm 290 (by decide +kernel) rfl) rfl) <|
  tk_c (show TrOk D (d + 1) mi_X11_told 121 (tr_getI 124 8 710) from ok_getI (ci := 7) (k := 10) (show decode mi_X11_told.2.1 121 = .ok (.getfield 170, 3) from by decide +kernel) rfl (by decide) (gm 159 (by decide +kernel) rfl) rfl) <|
  tk_c (show TrOk D (d + 1) mi_X11_told 124 (tr_iret) from ok_iret (show decode mi_X11_told.2.1 124 = .ok (.ireturn, 1) from by decide +kernel) rfl) <|
  tk_n
def tb_X11_told_1 (C : Nat → Sp) : Tab := [(125, tr_ic 126 (-1)), (126, tr_iret)]
set_option maxRecDepth 20000 in
theorem tbk_X11_told_1 {D : DD} {d : Nat} {C : Nat → Sp} (hC : Snd D d C) : ∀ e ∈ tb_X11_told_1 C, TrOk D (d + 1) mi_X11_told e.1 e.2 :=
  tk_c (show TrOk D (d + 1) mi_X11_told 125 (tr_ic 126 (-1)) from ok_iconst (show decode mi_X11_told.2.1 125 = .ok (.iconst (-1), 1) from by decide +kernel) rfl) <|
  tk_c (show TrOk D (d + 1) mi_X11_told 126 (tr_iret) from ok_iret (show decode mi_X11_told.2.1 126 = .ok (.ireturn, 1) from by decide +kernel) rfl) <|
  tk_n
def tb_X11_told (C : Nat → Sp) : Tab := tb_X11_told_0 C ++ (tb_X11_told_1 C)
theorem tbk_X11_told {D : DD} {d : Nat} {C : Nat → Sp} (hC : Snd D d C) : ∀ e ∈ tb_X11_told C, TrOk D (d + 1) mi_X11_told e.1 e.2 := tk_a (tbk_X11_told_0 hC) (tbk_X11_told_1 hC)
theorem a_X11_told_0 (C : Nat → Sp) : ta (tb_X11_told C) 0 = tr_iload 1 1 := rfl
theorem a_X11_told_1 (C : Nat → Sp) : ta (tb_X11_told C) 1 = tr_sw 0 [48, 69, 77, 85, 93, 101, 109, 117] 125 := rfl
theorem a_X11_told_48 (C : Nat → Sp) : ta (tb_X11_told C) 48 = tr_aload 49 0 := rfl
theorem a_X11_told_49 (C : Nat → Sp) : ta (tb_X11_told C) 49 = tr_getR 52 12 1104 := rfl
theorem a_X11_told_52 (C : Nat → Sp) : ta (tb_X11_told C) 52 = tr_getI 55 8 710 := rfl
theorem a_X11_told_55 (C : Nat → Sp) : ta (tb_X11_told C) 55 = tr_ic 57 (-4) := rfl
theorem a_X11_told_57 (C : Nat → Sp) : ta (tb_X11_told C) 57 = tr_iceq 60 64 := rfl
theorem a_X11_told_60 (C : Nat → Sp) : ta (tb_X11_told C) 60 = tr_ic 61 1 := rfl
theorem a_X11_told_61 (C : Nat → Sp) : ta (tb_X11_told C) 61 = tr_goto 65 := rfl
theorem a_X11_told_64 (C : Nat → Sp) : ta (tb_X11_told C) 64 = tr_ic 65 0 := rfl
theorem a_X11_told_65 (C : Nat → Sp) : ta (tb_X11_told C) 65 = tr_callS (C 94) 68 1 := rfl
theorem a_X11_told_68 (C : Nat → Sp) : ta (tb_X11_told C) 68 = tr_iret := rfl
theorem a_X11_told_69 (C : Nat → Sp) : ta (tb_X11_told C) 69 = tr_aload 70 0 := rfl
theorem a_X11_told_70 (C : Nat → Sp) : ta (tb_X11_told C) 70 = tr_getR 73 12 1104 := rfl
theorem a_X11_told_73 (C : Nat → Sp) : ta (tb_X11_told C) 73 = tr_getI 76 8 704 := rfl
theorem a_X11_told_76 (C : Nat → Sp) : ta (tb_X11_told C) 76 = tr_iret := rfl
theorem a_X11_told_77 (C : Nat → Sp) : ta (tb_X11_told C) 77 = tr_aload 78 0 := rfl
theorem a_X11_told_78 (C : Nat → Sp) : ta (tb_X11_told C) 78 = tr_getR 81 12 1104 := rfl
theorem a_X11_told_81 (C : Nat → Sp) : ta (tb_X11_told C) 81 = tr_getI 84 8 705 := rfl
theorem a_X11_told_84 (C : Nat → Sp) : ta (tb_X11_told C) 84 = tr_iret := rfl
theorem a_X11_told_85 (C : Nat → Sp) : ta (tb_X11_told C) 85 = tr_aload 86 0 := rfl
theorem a_X11_told_86 (C : Nat → Sp) : ta (tb_X11_told C) 86 = tr_getR 89 12 1104 := rfl
theorem a_X11_told_89 (C : Nat → Sp) : ta (tb_X11_told C) 89 = tr_getI 92 8 706 := rfl
theorem a_X11_told_92 (C : Nat → Sp) : ta (tb_X11_told C) 92 = tr_iret := rfl
theorem a_X11_told_93 (C : Nat → Sp) : ta (tb_X11_told C) 93 = tr_aload 94 0 := rfl
theorem a_X11_told_94 (C : Nat → Sp) : ta (tb_X11_told C) 94 = tr_getR 97 12 1104 := rfl
theorem a_X11_told_97 (C : Nat → Sp) : ta (tb_X11_told C) 97 = tr_getI 100 8 707 := rfl
theorem a_X11_told_100 (C : Nat → Sp) : ta (tb_X11_told C) 100 = tr_iret := rfl
theorem a_X11_told_101 (C : Nat → Sp) : ta (tb_X11_told C) 101 = tr_aload 102 0 := rfl
theorem a_X11_told_102 (C : Nat → Sp) : ta (tb_X11_told C) 102 = tr_getR 105 12 1104 := rfl
theorem a_X11_told_105 (C : Nat → Sp) : ta (tb_X11_told C) 105 = tr_getI 108 8 708 := rfl
theorem a_X11_told_108 (C : Nat → Sp) : ta (tb_X11_told C) 108 = tr_iret := rfl
theorem a_X11_told_109 (C : Nat → Sp) : ta (tb_X11_told C) 109 = tr_aload 110 0 := rfl
theorem a_X11_told_110 (C : Nat → Sp) : ta (tb_X11_told C) 110 = tr_getR 113 12 1104 := rfl
theorem a_X11_told_113 (C : Nat → Sp) : ta (tb_X11_told C) 113 = tr_getI 116 8 709 := rfl
theorem a_X11_told_116 (C : Nat → Sp) : ta (tb_X11_told C) 116 = tr_iret := rfl
theorem a_X11_told_117 (C : Nat → Sp) : ta (tb_X11_told C) 117 = tr_aload 118 0 := rfl
theorem a_X11_told_118 (C : Nat → Sp) : ta (tb_X11_told C) 118 = tr_getR 121 12 1104 := rfl
theorem a_X11_told_121 (C : Nat → Sp) : ta (tb_X11_told C) 121 = tr_getI 124 8 710 := rfl
theorem a_X11_told_124 (C : Nat → Sp) : ta (tb_X11_told C) 124 = tr_iret := rfl
theorem a_X11_told_125 (C : Nat → Sp) : ta (tb_X11_told C) 125 = tr_ic 126 (-1) := rfl
theorem a_X11_told_126 (C : Nat → Sp) : ta (tb_X11_told C) 126 = tr_iret := rfl

def tb_X11_value_0 (C : Nat → Sp) : Tab := [(0, tr_aload 1 0), (1, tr_getR 4 12 1104), (4, tr_getL 7 8 711), (7, tr_lret)]
set_option maxRecDepth 20000 in
theorem tbk_X11_value_0 {D : DD} {d : Nat} {C : Nat → Sp} (hC : Snd D d C) : ∀ e ∈ tb_X11_value_0 C, TrOk D (d + 1) mi_X11_value e.1 e.2 :=
  tk_c (show TrOk D (d + 1) mi_X11_value 0 (tr_aload 1 0) from ok_aload_n (show decode mi_X11_value.2.1 0 = .ok (.aload_n 0, 1) from by decide +kernel) rfl) <|
  tk_c (show TrOk D (d + 1) mi_X11_value 1 (tr_getR 4 12 1104) from ok_getR (ci := 11) (k := 4) (show decode mi_X11_value.2.1 1 = .ok (.getfield 39, 3) from by decide +kernel) rfl (by decide) (gm 290 (by decide +kernel) rfl) rfl) <|
  tk_c (show TrOk D (d + 1) mi_X11_value 4 (tr_getL 7 8 711) from ok_getL (ci := 7) (k := 11) (show decode mi_X11_value.2.1 4 = .ok (.getfield 191, 3) from by decide +kernel) rfl (by decide) (gm 161 (by decide +kernel) rfl) rfl) <|
  tk_c (show TrOk D (d + 1) mi_X11_value 7 (tr_lret) from ok_lret (show decode mi_X11_value.2.1 7 = .ok (.lreturn, 1) from by decide +kernel) rfl) <|
  tk_n
def tb_X11_value (C : Nat → Sp) : Tab := tb_X11_value_0 C
theorem tbk_X11_value {D : DD} {d : Nat} {C : Nat → Sp} (hC : Snd D d C) : ∀ e ∈ tb_X11_value C, TrOk D (d + 1) mi_X11_value e.1 e.2 := tbk_X11_value_0 hC
theorem a_X11_value_0 (C : Nat → Sp) : ta (tb_X11_value C) 0 = tr_aload 1 0 := rfl
theorem a_X11_value_1 (C : Nat → Sp) : ta (tb_X11_value C) 1 = tr_getR 4 12 1104 := rfl
theorem a_X11_value_4 (C : Nat → Sp) : ta (tb_X11_value C) 4 = tr_getL 7 8 711 := rfl
theorem a_X11_value_7 (C : Nat → Sp) : ta (tb_X11_value C) 7 = tr_lret := rfl

def tb_X11_logged_0 (C : Nat → Sp) : Tab := [(0, tr_iload 1 1), (1, tr_iflt 4 33), (4, tr_iload 5 1), (5, tr_aload 6 0), (6, tr_getR 9 12 1104), (9, tr_getI 12 8 706), (12, tr_icge 15 33), (15, tr_iload 16 1), (16, tr_ic 18 100), (18, tr_icge 21 33), (21, tr_aload 22 0), (22, tr_getR 25 12 1104), (25, tr_getR 28 8 700), (28, tr_iload 29 1), (29, tr_lald 30), (30, tr_goto 34), (33, tr_lc 34 0), (34, tr_lret)]
set_option maxRecDepth 20000 in
theorem tbk_X11_logged_0 {D : DD} {d : Nat} {C : Nat → Sp} (hC : Snd D d C) : ∀ e ∈ tb_X11_logged_0 C, TrOk D (d + 1) mi_X11_logged e.1 e.2 :=
  tk_c (show TrOk D (d + 1) mi_X11_logged 0 (tr_iload 1 1) from ok_iload_n (show decode mi_X11_logged.2.1 0 = .ok (.iload_n 1, 1) from by decide +kernel) rfl) <|
  tk_c (show TrOk D (d + 1) mi_X11_logged 1 (tr_iflt 4 33) from ok_iflt (show decode mi_X11_logged.2.1 1 = .ok (.ifCond .lt 32, 3) from by decide +kernel) (by decide)) <|
  tk_c (show TrOk D (d + 1) mi_X11_logged 4 (tr_iload 5 1) from ok_iload_n (show decode mi_X11_logged.2.1 4 = .ok (.iload_n 1, 1) from by decide +kernel) rfl) <|
  tk_c (show TrOk D (d + 1) mi_X11_logged 5 (tr_aload 6 0) from ok_aload_n (show decode mi_X11_logged.2.1 5 = .ok (.aload_n 0, 1) from by decide +kernel) rfl) <|
  tk_c (show TrOk D (d + 1) mi_X11_logged 6 (tr_getR 9 12 1104) from ok_getR (ci := 11) (k := 4) (show decode mi_X11_logged.2.1 6 = .ok (.getfield 39, 3) from by decide +kernel) rfl (by decide) (gm 290 (by decide +kernel) rfl) rfl) <|
  tk_c (show TrOk D (d + 1) mi_X11_logged 9 (tr_getI 12 8 706) from ok_getI (ci := 7) (k := 6) (show decode mi_X11_logged.2.1 9 = .ok (.getfield 179, 3) from by decide +kernel) rfl (by decide) (gm 149 (by decide +kernel) rfl) rfl) <|
  tk_c (show TrOk D (d + 1) mi_X11_logged 12 (tr_icge 15 33) from ok_icge (show decode mi_X11_logged.2.1 12 = .ok (.if_icmp .ge 21, 3) from by decide +kernel) (by decide)) <|
  tk_c (show TrOk D (d + 1) mi_X11_logged 15 (tr_iload 16 1) from ok_iload_n (show decode mi_X11_logged.2.1 15 = .ok (.iload_n 1, 1) from by decide +kernel) rfl) <|
  tk_c (show TrOk D (d + 1) mi_X11_logged 16 (tr_ic 18 100) from ok_bipush (show decode mi_X11_logged.2.1 16 = .ok (.bipush 100, 2) from by decide +kernel) rfl) <|
  tk_c (show TrOk D (d + 1) mi_X11_logged 18 (tr_icge 21 33) from ok_icge (show decode mi_X11_logged.2.1 18 = .ok (.if_icmp .ge 15, 3) from by decide +kernel) (by decide)) <|
  tk_c (show TrOk D (d + 1) mi_X11_logged 21 (tr_aload 22 0) from ok_aload_n (show decode mi_X11_logged.2.1 21 = .ok (.aload_n 0, 1) from by decide +kernel) rfl) <|
  tk_c (show TrOk D (d + 1) mi_X11_logged 22 (tr_getR 25 12 1104) from ok_getR (ci := 11) (k := 4) (show decode mi_X11_logged.2.1 22 = .ok (.getfield 39, 3) from by decide +kernel) rfl (by decide) (gm 290 (by decide +kernel) rfl) rfl) <|
  tk_c (show TrOk D (d + 1) mi_X11_logged 25 (tr_getR 28 8 700) from ok_getR (ci := 7) (k := 0) (show decode mi_X11_logged.2.1 25 = .ok (.getfield 194, 3) from by decide +kernel) rfl (by decide) (gm 135 (by decide +kernel) rfl) rfl) <|
  tk_c (show TrOk D (d + 1) mi_X11_logged 28 (tr_iload 29 1) from ok_iload_n (show decode mi_X11_logged.2.1 28 = .ok (.iload_n 1, 1) from by decide +kernel) rfl) <|
  tk_c (show TrOk D (d + 1) mi_X11_logged 29 (tr_lald 30) from ok_lald (show decode mi_X11_logged.2.1 29 = .ok (.laload, 1) from by decide +kernel)) <|
  tk_c (show TrOk D (d + 1) mi_X11_logged 30 (tr_goto 34) from ok_goto (show decode mi_X11_logged.2.1 30 = .ok (.goto 4, 3) from by decide +kernel) (by decide)) <|
  tk_c (show TrOk D (d + 1) mi_X11_logged 33 (tr_lc 34 0) from ok_lconst (show decode mi_X11_logged.2.1 33 = .ok (.lconst 0, 1) from by decide +kernel) rfl) <|
  tk_c (show TrOk D (d + 1) mi_X11_logged 34 (tr_lret) from ok_lret (show decode mi_X11_logged.2.1 34 = .ok (.lreturn, 1) from by decide +kernel) rfl) <|
  tk_n
def tb_X11_logged (C : Nat → Sp) : Tab := tb_X11_logged_0 C
theorem tbk_X11_logged {D : DD} {d : Nat} {C : Nat → Sp} (hC : Snd D d C) : ∀ e ∈ tb_X11_logged C, TrOk D (d + 1) mi_X11_logged e.1 e.2 := tbk_X11_logged_0 hC
theorem a_X11_logged_0 (C : Nat → Sp) : ta (tb_X11_logged C) 0 = tr_iload 1 1 := rfl
theorem a_X11_logged_1 (C : Nat → Sp) : ta (tb_X11_logged C) 1 = tr_iflt 4 33 := rfl
theorem a_X11_logged_4 (C : Nat → Sp) : ta (tb_X11_logged C) 4 = tr_iload 5 1 := rfl
theorem a_X11_logged_5 (C : Nat → Sp) : ta (tb_X11_logged C) 5 = tr_aload 6 0 := rfl
theorem a_X11_logged_6 (C : Nat → Sp) : ta (tb_X11_logged C) 6 = tr_getR 9 12 1104 := rfl
theorem a_X11_logged_9 (C : Nat → Sp) : ta (tb_X11_logged C) 9 = tr_getI 12 8 706 := rfl
theorem a_X11_logged_12 (C : Nat → Sp) : ta (tb_X11_logged C) 12 = tr_icge 15 33 := rfl
theorem a_X11_logged_15 (C : Nat → Sp) : ta (tb_X11_logged C) 15 = tr_iload 16 1 := rfl
theorem a_X11_logged_16 (C : Nat → Sp) : ta (tb_X11_logged C) 16 = tr_ic 18 100 := rfl
theorem a_X11_logged_18 (C : Nat → Sp) : ta (tb_X11_logged C) 18 = tr_icge 21 33 := rfl
theorem a_X11_logged_21 (C : Nat → Sp) : ta (tb_X11_logged C) 21 = tr_aload 22 0 := rfl
theorem a_X11_logged_22 (C : Nat → Sp) : ta (tb_X11_logged C) 22 = tr_getR 25 12 1104 := rfl
theorem a_X11_logged_25 (C : Nat → Sp) : ta (tb_X11_logged C) 25 = tr_getR 28 8 700 := rfl
theorem a_X11_logged_28 (C : Nat → Sp) : ta (tb_X11_logged C) 28 = tr_iload 29 1 := rfl
theorem a_X11_logged_29 (C : Nat → Sp) : ta (tb_X11_logged C) 29 = tr_lald 30 := rfl
theorem a_X11_logged_30 (C : Nat → Sp) : ta (tb_X11_logged C) 30 = tr_goto 34 := rfl
theorem a_X11_logged_33 (C : Nat → Sp) : ta (tb_X11_logged C) 33 = tr_lc 34 0 := rfl
theorem a_X11_logged_34 (C : Nat → Sp) : ta (tb_X11_logged C) 34 = tr_lret := rfl

def tb_X11_failure_0 (C : Nat → Sp) : Tab := [(0, tr_iload 1 1), (1, tr_iflt 4 21), (4, tr_iload 5 1), (5, tr_aload 6 0), (6, tr_getR 9 12 1104), (9, tr_getI 12 8 707), (12, tr_icge 15 21), (15, tr_iload 16 1), (16, tr_ic 18 35), (18, tr_iclt 21 23), (21, tr_ic 22 (-1)), (22, tr_iret), (23, tr_iload 24 2), (24, tr_sw 0 [52, 62, 72] 82), (52, tr_aload 53 0), (53, tr_getR 56 12 1104), (56, tr_getR 59 8 701), (59, tr_iload 60 1), (60, tr_iald 61), (61, tr_iret), (62, tr_aload 63 0), (63, tr_getR 66 12 1104), (66, tr_getR 69 8 702), (69, tr_iload 70 1), (70, tr_iald 71), (71, tr_iret), (72, tr_aload 73 0), (73, tr_getR 76 12 1104), (76, tr_getR 79 8 703), (79, tr_iload 80 1), (80, tr_iald 81), (81, tr_iret), (82, tr_ic 83 (-1)), (83, tr_iret)]
set_option maxRecDepth 20000 in
theorem tbk_X11_failure_0 {D : DD} {d : Nat} {C : Nat → Sp} (hC : Snd D d C) : ∀ e ∈ tb_X11_failure_0 C, TrOk D (d + 1) mi_X11_failure e.1 e.2 :=
  tk_c (show TrOk D (d + 1) mi_X11_failure 0 (tr_iload 1 1) from ok_iload_n (show decode mi_X11_failure.2.1 0 = .ok (.iload_n 1, 1) from by decide +kernel) rfl) <|
  tk_c (show TrOk D (d + 1) mi_X11_failure 1 (tr_iflt 4 21) from ok_iflt (show decode mi_X11_failure.2.1 1 = .ok (.ifCond .lt 20, 3) from by decide +kernel) (by decide)) <|
  tk_c (show TrOk D (d + 1) mi_X11_failure 4 (tr_iload 5 1) from ok_iload_n (show decode mi_X11_failure.2.1 4 = .ok (.iload_n 1, 1) from by decide +kernel) rfl) <|
  tk_c (show TrOk D (d + 1) mi_X11_failure 5 (tr_aload 6 0) from ok_aload_n (show decode mi_X11_failure.2.1 5 = .ok (.aload_n 0, 1) from by decide +kernel) rfl) <|
  tk_c (show TrOk D (d + 1) mi_X11_failure 6 (tr_getR 9 12 1104) from ok_getR (ci := 11) (k := 4) (show decode mi_X11_failure.2.1 6 = .ok (.getfield 39, 3) from by decide +kernel) rfl (by decide) (gm 290 (by decide +kernel) rfl) rfl) <|
  tk_c (show TrOk D (d + 1) mi_X11_failure 9 (tr_getI 12 8 707) from ok_getI (ci := 7) (k := 7) (show decode mi_X11_failure.2.1 9 = .ok (.getfield 182, 3) from by decide +kernel) rfl (by decide) (gm 151 (by decide +kernel) rfl) rfl) <|
  tk_c (show TrOk D (d + 1) mi_X11_failure 12 (tr_icge 15 21) from ok_icge (show decode mi_X11_failure.2.1 12 = .ok (.if_icmp .ge 9, 3) from by decide +kernel) (by decide)) <|
  tk_c (show TrOk D (d + 1) mi_X11_failure 15 (tr_iload 16 1) from ok_iload_n (show decode mi_X11_failure.2.1 15 = .ok (.iload_n 1, 1) from by decide +kernel) rfl) <|
  tk_c (show TrOk D (d + 1) mi_X11_failure 16 (tr_ic 18 35) from ok_bipush (show decode mi_X11_failure.2.1 16 = .ok (.bipush 35, 2) from by decide +kernel) rfl) <|
  tk_c (show TrOk D (d + 1) mi_X11_failure 18 (tr_iclt 21 23) from ok_iclt (show decode mi_X11_failure.2.1 18 = .ok (.if_icmp .lt 5, 3) from by decide +kernel) (by decide)) <|
  tk_c (show TrOk D (d + 1) mi_X11_failure 21 (tr_ic 22 (-1)) from ok_iconst (show decode mi_X11_failure.2.1 21 = .ok (.iconst (-1), 1) from by decide +kernel) rfl) <|
  tk_c (show TrOk D (d + 1) mi_X11_failure 22 (tr_iret) from ok_iret (show decode mi_X11_failure.2.1 22 = .ok (.ireturn, 1) from by decide +kernel) rfl) <|
  tk_c (show TrOk D (d + 1) mi_X11_failure 23 (tr_iload 24 2) from ok_iload_n (show decode mi_X11_failure.2.1 23 = .ok (.iload_n 2, 1) from by decide +kernel) rfl) <|
  tk_c (show TrOk D (d + 1) mi_X11_failure 24 (tr_sw 0 [52, 62, 72] 82) from ok_sw 0 (show decode mi_X11_failure.2.1 24 = .ok (.tableswitch 58 0 2 #[28, 38, 48], 28) from by decide +kernel) rfl rfl (by decide) (by decide) (by decide) (by decide +kernel)) <|
  tk_c (show TrOk D (d + 1) mi_X11_failure 52 (tr_aload 53 0) from ok_aload_n (show decode mi_X11_failure.2.1 52 = .ok (.aload_n 0, 1) from by decide +kernel) rfl) <|
  tk_c (show TrOk D (d + 1) mi_X11_failure 53 (tr_getR 56 12 1104) from ok_getR (ci := 11) (k := 4) (show decode mi_X11_failure.2.1 53 = .ok (.getfield 39, 3) from by decide +kernel) rfl (by decide) (gm 290 (by decide +kernel) rfl) rfl) <|
  tk_c (show TrOk D (d + 1) mi_X11_failure 56 (tr_getR 59 8 701) from ok_getR (ci := 7) (k := 1) (show decode mi_X11_failure.2.1 56 = .ok (.getfield 197, 3) from by decide +kernel) rfl (by decide) (gm 137 (by decide +kernel) rfl) rfl) <|
  tk_c (show TrOk D (d + 1) mi_X11_failure 59 (tr_iload 60 1) from ok_iload_n (show decode mi_X11_failure.2.1 59 = .ok (.iload_n 1, 1) from by decide +kernel) rfl) <|
  tk_c (show TrOk D (d + 1) mi_X11_failure 60 (tr_iald 61) from ok_iald (show decode mi_X11_failure.2.1 60 = .ok (.iaload, 1) from by decide +kernel)) <|
  tk_c (show TrOk D (d + 1) mi_X11_failure 61 (tr_iret) from ok_iret (show decode mi_X11_failure.2.1 61 = .ok (.ireturn, 1) from by decide +kernel) rfl) <|
  tk_c (show TrOk D (d + 1) mi_X11_failure 62 (tr_aload 63 0) from ok_aload_n (show decode mi_X11_failure.2.1 62 = .ok (.aload_n 0, 1) from by decide +kernel) rfl) <|
  tk_c (show TrOk D (d + 1) mi_X11_failure 63 (tr_getR 66 12 1104) from ok_getR (ci := 11) (k := 4) (show decode mi_X11_failure.2.1 63 = .ok (.getfield 39, 3) from by decide +kernel) rfl (by decide) (gm 290 (by decide +kernel) rfl) rfl) <|
  tk_c (show TrOk D (d + 1) mi_X11_failure 66 (tr_getR 69 8 702) from ok_getR (ci := 7) (k := 2) (show decode mi_X11_failure.2.1 66 = .ok (.getfield 201, 3) from by decide +kernel) rfl (by decide) (gm 139 (by decide +kernel) rfl) rfl) <|
  tk_c (show TrOk D (d + 1) mi_X11_failure 69 (tr_iload 70 1) from ok_iload_n (show decode mi_X11_failure.2.1 69 = .ok (.iload_n 1, 1) from by decide +kernel) rfl) <|
  tk_c (show TrOk D (d + 1) mi_X11_failure 70 (tr_iald 71) from ok_iald (show decode mi_X11_failure.2.1 70 = .ok (.iaload, 1) from by decide +kernel)) <|
  tk_c (show TrOk D (d + 1) mi_X11_failure 71 (tr_iret) from ok_iret (show decode mi_X11_failure.2.1 71 = .ok (.ireturn, 1) from by decide +kernel) rfl) <|
  tk_c (show TrOk D (d + 1) mi_X11_failure 72 (tr_aload 73 0) from ok_aload_n (show decode mi_X11_failure.2.1 72 = .ok (.aload_n 0, 1) from by decide +kernel) rfl) <|
  tk_c (show TrOk D (d + 1) mi_X11_failure 73 (tr_getR 76 12 1104) from ok_getR (ci := 11) (k := 4) (show decode mi_X11_failure.2.1 73 = .ok (.getfield 39, 3) from by decide +kernel) rfl (by decide) (gm 290 (by decide +kernel) rfl) rfl) <|
  tk_c (show TrOk D (d + 1) mi_X11_failure 76 (tr_getR 79 8 703) from ok_getR (ci := 7) (k := 3) (show decode mi_X11_failure.2.1 76 = .ok (.getfield 204, 3) from by decide +kernel) rfl (by decide) (gm 141 (by decide +kernel) rfl) rfl) <|
  tk_c (show TrOk D (d + 1) mi_X11_failure 79 (tr_iload 80 1) from ok_iload_n (show decode mi_X11_failure.2.1 79 = .ok (.iload_n 1, 1) from by decide +kernel) rfl) <|
  tk_c (show TrOk D (d + 1) mi_X11_failure 80 (tr_iald 81) from ok_iald (show decode mi_X11_failure.2.1 80 = .ok (.iaload, 1) from by decide +kernel)) <|
  tk_c (show TrOk D (d + 1) mi_X11_failure 81 (tr_iret) from ok_iret (show decode mi_X11_failure.2.1 81 = .ok (.ireturn, 1) from by decide +kernel) rfl) <|
  tk_c (show TrOk D (d + 1) mi_X11_failure 82 (tr_ic 83 (-1)) from ok_iconst (show decode mi_X11_failure.2.1 82 = .ok (.iconst (-1), 1) from by decide +kernel) rfl) <|
  tk_c (show TrOk D (d + 1) mi_X11_failure 83 (tr_iret) from ok_iret (show decode mi_X11_failure.2.1 83 = .ok (.ireturn, 1) from by decide +kernel) rfl) <|
  tk_n
def tb_X11_failure (C : Nat → Sp) : Tab := tb_X11_failure_0 C
theorem tbk_X11_failure {D : DD} {d : Nat} {C : Nat → Sp} (hC : Snd D d C) : ∀ e ∈ tb_X11_failure C, TrOk D (d + 1) mi_X11_failure e.1 e.2 := tbk_X11_failure_0 hC
theorem a_X11_failure_0 (C : Nat → Sp) : ta (tb_X11_failure C) 0 = tr_iload 1 1 := rfl
theorem a_X11_failure_1 (C : Nat → Sp) : ta (tb_X11_failure C) 1 = tr_iflt 4 21 := rfl
theorem a_X11_failure_4 (C : Nat → Sp) : ta (tb_X11_failure C) 4 = tr_iload 5 1 := rfl
theorem a_X11_failure_5 (C : Nat → Sp) : ta (tb_X11_failure C) 5 = tr_aload 6 0 := rfl
theorem a_X11_failure_6 (C : Nat → Sp) : ta (tb_X11_failure C) 6 = tr_getR 9 12 1104 := rfl
theorem a_X11_failure_9 (C : Nat → Sp) : ta (tb_X11_failure C) 9 = tr_getI 12 8 707 := rfl
theorem a_X11_failure_12 (C : Nat → Sp) : ta (tb_X11_failure C) 12 = tr_icge 15 21 := rfl
theorem a_X11_failure_15 (C : Nat → Sp) : ta (tb_X11_failure C) 15 = tr_iload 16 1 := rfl
theorem a_X11_failure_16 (C : Nat → Sp) : ta (tb_X11_failure C) 16 = tr_ic 18 35 := rfl
theorem a_X11_failure_18 (C : Nat → Sp) : ta (tb_X11_failure C) 18 = tr_iclt 21 23 := rfl
theorem a_X11_failure_21 (C : Nat → Sp) : ta (tb_X11_failure C) 21 = tr_ic 22 (-1) := rfl
theorem a_X11_failure_22 (C : Nat → Sp) : ta (tb_X11_failure C) 22 = tr_iret := rfl
theorem a_X11_failure_23 (C : Nat → Sp) : ta (tb_X11_failure C) 23 = tr_iload 24 2 := rfl
theorem a_X11_failure_24 (C : Nat → Sp) : ta (tb_X11_failure C) 24 = tr_sw 0 [52, 62, 72] 82 := rfl
theorem a_X11_failure_52 (C : Nat → Sp) : ta (tb_X11_failure C) 52 = tr_aload 53 0 := rfl
theorem a_X11_failure_53 (C : Nat → Sp) : ta (tb_X11_failure C) 53 = tr_getR 56 12 1104 := rfl
theorem a_X11_failure_56 (C : Nat → Sp) : ta (tb_X11_failure C) 56 = tr_getR 59 8 701 := rfl
theorem a_X11_failure_59 (C : Nat → Sp) : ta (tb_X11_failure C) 59 = tr_iload 60 1 := rfl
theorem a_X11_failure_60 (C : Nat → Sp) : ta (tb_X11_failure C) 60 = tr_iald 61 := rfl
theorem a_X11_failure_61 (C : Nat → Sp) : ta (tb_X11_failure C) 61 = tr_iret := rfl
theorem a_X11_failure_62 (C : Nat → Sp) : ta (tb_X11_failure C) 62 = tr_aload 63 0 := rfl
theorem a_X11_failure_63 (C : Nat → Sp) : ta (tb_X11_failure C) 63 = tr_getR 66 12 1104 := rfl
theorem a_X11_failure_66 (C : Nat → Sp) : ta (tb_X11_failure C) 66 = tr_getR 69 8 702 := rfl
theorem a_X11_failure_69 (C : Nat → Sp) : ta (tb_X11_failure C) 69 = tr_iload 70 1 := rfl
theorem a_X11_failure_70 (C : Nat → Sp) : ta (tb_X11_failure C) 70 = tr_iald 71 := rfl
theorem a_X11_failure_71 (C : Nat → Sp) : ta (tb_X11_failure C) 71 = tr_iret := rfl
theorem a_X11_failure_72 (C : Nat → Sp) : ta (tb_X11_failure C) 72 = tr_aload 73 0 := rfl
theorem a_X11_failure_73 (C : Nat → Sp) : ta (tb_X11_failure C) 73 = tr_getR 76 12 1104 := rfl
theorem a_X11_failure_76 (C : Nat → Sp) : ta (tb_X11_failure C) 76 = tr_getR 79 8 703 := rfl
theorem a_X11_failure_79 (C : Nat → Sp) : ta (tb_X11_failure C) 79 = tr_iload 80 1 := rfl
theorem a_X11_failure_80 (C : Nat → Sp) : ta (tb_X11_failure C) 80 = tr_iald 81 := rfl
theorem a_X11_failure_81 (C : Nat → Sp) : ta (tb_X11_failure C) 81 = tr_iret := rfl
theorem a_X11_failure_82 (C : Nat → Sp) : ta (tb_X11_failure C) 82 = tr_ic 83 (-1) := rfl
theorem a_X11_failure_83 (C : Nat → Sp) : ta (tb_X11_failure C) 83 = tr_iret := rfl

def tb_X11_meter_0 (C : Nat → Sp) : Tab := [(0, tr_aload 1 0), (1, tr_getR 4 12 1100), (4, tr_iload 5 1), (5, tr_callV (C 24) 8 5 1), (8, tr_astore 9 2), (9, tr_aload 10 2), (10, tr_ifnonnull 13 17), (13, tr_lc 14 0), (14, tr_goto 21), (17, tr_aload 18 2), (18, tr_getL 21 4 303), (21, tr_lret)]
set_option maxRecDepth 20000 in
theorem tbk_X11_meter_0 {D : DD} {d : Nat} {C : Nat → Sp} (hC : Snd D d C) : ∀ e ∈ tb_X11_meter_0 C, TrOk D (d + 1) mi_X11_meter e.1 e.2 :=
  tk_c (show TrOk D (d + 1) mi_X11_meter 0 (tr_aload 1 0) from ok_aload_n (show decode mi_X11_meter.2.1 0 = .ok (.aload_n 0, 1) from by decide +kernel) rfl) <|
  tk_c (show TrOk D (d + 1) mi_X11_meter 1 (tr_getR 4 12 1100) from ok_getR (ci := 11) (k := 0) (show decode mi_X11_meter.2.1 1 = .ok (.getfield 12, 3) from by decide +kernel) rfl (by decide) (gm 286 (by decide +kernel) rfl) rfl) <|
  tk_c (show TrOk D (d + 1) mi_X11_meter 4 (tr_iload 5 1) from ok_iload_n (show decode mi_X11_meter.2.1 4 = .ok (.iload_n 1, 1) from by decide +kernel) rfl) <|
  tk_c (show TrOk D (d + 1) mi_X11_meter 5 (tr_callV (C 24) 8 5 1) from ok_callV (ci := 4) (show decode mi_X11_meter.2.1 5 = .ok (.invokevirtual 53, 3) from by decide +kernel) mok_X4_find rfl rfl (gm 309 (by decide +kernel) rfl) (gm 310 (by decide +kernel) rfl) (gm 311 (by decide +kernel) rfl) (hC 24)) <|
  tk_c (show TrOk D (d + 1) mi_X11_meter 8 (tr_astore 9 2) from ok_astore_n (show decode mi_X11_meter.2.1 8 = .ok (.astore_n 2, 1) from by decide +kernel) rfl (by decide)) <|
  tk_c (show TrOk D (d + 1) mi_X11_meter 9 (tr_aload 10 2) from ok_aload_n (show decode mi_X11_meter.2.1 9 = .ok (.aload_n 2, 1) from by decide +kernel) rfl) <|
  tk_c (show TrOk D (d + 1) mi_X11_meter 10 (tr_ifnonnull 13 17) from ok_ifnonnull (show decode mi_X11_meter.2.1 10 = .ok (.ifnonnull 7, 3) from by decide +kernel) (by decide)) <|
  tk_c (show TrOk D (d + 1) mi_X11_meter 13 (tr_lc 14 0) from ok_lconst (show decode mi_X11_meter.2.1 13 = .ok (.lconst 0, 1) from by decide +kernel) rfl) <|
  tk_c (show TrOk D (d + 1) mi_X11_meter 14 (tr_goto 21) from ok_goto (show decode mi_X11_meter.2.1 14 = .ok (.goto 7, 3) from by decide +kernel) (by decide)) <|
  tk_c (show TrOk D (d + 1) mi_X11_meter 17 (tr_aload 18 2) from ok_aload_n (show decode mi_X11_meter.2.1 17 = .ok (.aload_n 2, 1) from by decide +kernel) rfl) <|
  tk_c (show TrOk D (d + 1) mi_X11_meter 18 (tr_getL 21 4 303) from ok_getL (ci := 3) (k := 3) (show decode mi_X11_meter.2.1 18 = .ok (.getfield 207, 3) from by decide +kernel) rfl (by decide) (gm 329 (by decide +kernel) rfl) rfl) <|
  tk_c (show TrOk D (d + 1) mi_X11_meter 21 (tr_lret) from ok_lret (show decode mi_X11_meter.2.1 21 = .ok (.lreturn, 1) from by decide +kernel) rfl) <|
  tk_n
def tb_X11_meter (C : Nat → Sp) : Tab := tb_X11_meter_0 C
theorem tbk_X11_meter {D : DD} {d : Nat} {C : Nat → Sp} (hC : Snd D d C) : ∀ e ∈ tb_X11_meter C, TrOk D (d + 1) mi_X11_meter e.1 e.2 := tbk_X11_meter_0 hC
theorem a_X11_meter_0 (C : Nat → Sp) : ta (tb_X11_meter C) 0 = tr_aload 1 0 := rfl
theorem a_X11_meter_1 (C : Nat → Sp) : ta (tb_X11_meter C) 1 = tr_getR 4 12 1100 := rfl
theorem a_X11_meter_4 (C : Nat → Sp) : ta (tb_X11_meter C) 4 = tr_iload 5 1 := rfl
theorem a_X11_meter_5 (C : Nat → Sp) : ta (tb_X11_meter C) 5 = tr_callV (C 24) 8 5 1 := rfl
theorem a_X11_meter_8 (C : Nat → Sp) : ta (tb_X11_meter C) 8 = tr_astore 9 2 := rfl
theorem a_X11_meter_9 (C : Nat → Sp) : ta (tb_X11_meter C) 9 = tr_aload 10 2 := rfl
theorem a_X11_meter_10 (C : Nat → Sp) : ta (tb_X11_meter C) 10 = tr_ifnonnull 13 17 := rfl
theorem a_X11_meter_13 (C : Nat → Sp) : ta (tb_X11_meter C) 13 = tr_lc 14 0 := rfl
theorem a_X11_meter_14 (C : Nat → Sp) : ta (tb_X11_meter C) 14 = tr_goto 21 := rfl
theorem a_X11_meter_17 (C : Nat → Sp) : ta (tb_X11_meter C) 17 = tr_aload 18 2 := rfl
theorem a_X11_meter_18 (C : Nat → Sp) : ta (tb_X11_meter C) 18 = tr_getL 21 4 303 := rfl
theorem a_X11_meter_21 (C : Nat → Sp) : ta (tb_X11_meter C) 21 = tr_lret := rfl

def tb_X11_back_0 (C : Nat → Sp) : Tab := [(0, tr_iload 1 1), (1, tr_iflt 4 10), (4, tr_iload 5 1), (5, tr_ic 7 50), (7, tr_icle 10 12), (10, tr_ic 11 (-1)), (11, tr_iret), (12, tr_aload 13 0), (13, tr_getR 16 12 1103), (16, tr_iload 17 1), (17, tr_callV (C 2) 20 1 1), (20, tr_iret)]
set_option maxRecDepth 20000 in
theorem tbk_X11_back_0 {D : DD} {d : Nat} {C : Nat → Sp} (hC : Snd D d C) : ∀ e ∈ tb_X11_back_0 C, TrOk D (d + 1) mi_X11_back e.1 e.2 :=
  tk_c (show TrOk D (d + 1) mi_X11_back 0 (tr_iload 1 1) from ok_iload_n (show decode mi_X11_back.2.1 0 = .ok (.iload_n 1, 1) from by decide +kernel) rfl) <|
  tk_c (show TrOk D (d + 1) mi_X11_back 1 (tr_iflt 4 10) from ok_iflt (show decode mi_X11_back.2.1 1 = .ok (.ifCond .lt 9, 3) from by decide +kernel) (by decide)) <|
  tk_c (show TrOk D (d + 1) mi_X11_back 4 (tr_iload 5 1) from ok_iload_n (show decode mi_X11_back.2.1 4 = .ok (.iload_n 1, 1) from by decide +kernel) rfl) <|
  tk_c (show TrOk D (d + 1) mi_X11_back 5 (tr_ic 7 50) from ok_bipush (show decode mi_X11_back.2.1 5 = .ok (.bipush 50, 2) from by decide +kernel) rfl) <|
  tk_c (show TrOk D (d + 1) mi_X11_back 7 (tr_icle 10 12) from ok_icle (show decode mi_X11_back.2.1 7 = .ok (.if_icmp .le 5, 3) from by decide +kernel) (by decide)) <|
  tk_c (show TrOk D (d + 1) mi_X11_back 10 (tr_ic 11 (-1)) from ok_iconst (show decode mi_X11_back.2.1 10 = .ok (.iconst (-1), 1) from by decide +kernel) rfl) <|
  tk_c (show TrOk D (d + 1) mi_X11_back 11 (tr_iret) from ok_iret (show decode mi_X11_back.2.1 11 = .ok (.ireturn, 1) from by decide +kernel) rfl) <|
  tk_c (show TrOk D (d + 1) mi_X11_back 12 (tr_aload 13 0) from ok_aload_n (show decode mi_X11_back.2.1 12 = .ok (.aload_n 0, 1) from by decide +kernel) rfl) <|
  tk_c (show TrOk D (d + 1) mi_X11_back 13 (tr_getR 16 12 1103) from ok_getR (ci := 11) (k := 3) (show decode mi_X11_back.2.1 13 = .ok (.getfield 32, 3) from by decide +kernel) rfl (by decide) (gm 289 (by decide +kernel) rfl) rfl) <|
  tk_c (show TrOk D (d + 1) mi_X11_back 16 (tr_iload 17 1) from ok_iload_n (show decode mi_X11_back.2.1 16 = .ok (.iload_n 1, 1) from by decide +kernel) rfl) <|
  tk_c (show TrOk D (d + 1) mi_X11_back 17 (tr_callV (C 2) 20 1 1) from ok_callV (ci := 0) (show decode mi_X11_back.2.1 17 = .ok (.invokevirtual 210, 3) from by decide +kernel) mok_X0_moveBack rfl rfl (gm 745 (by decide +kernel) rfl) (gm 746 (by decide +kernel) rfl) (gm 747 (by decide +kernel) rfl) (hC 2)) <|
  tk_c (show TrOk D (d + 1) mi_X11_back 20 (tr_iret) from ok_iret (show decode mi_X11_back.2.1 20 = .ok (.ireturn, 1) from by decide +kernel) rfl) <|
  tk_n
def tb_X11_back (C : Nat → Sp) : Tab := tb_X11_back_0 C
theorem tbk_X11_back {D : DD} {d : Nat} {C : Nat → Sp} (hC : Snd D d C) : ∀ e ∈ tb_X11_back C, TrOk D (d + 1) mi_X11_back e.1 e.2 := tbk_X11_back_0 hC
theorem a_X11_back_0 (C : Nat → Sp) : ta (tb_X11_back C) 0 = tr_iload 1 1 := rfl
theorem a_X11_back_1 (C : Nat → Sp) : ta (tb_X11_back C) 1 = tr_iflt 4 10 := rfl
theorem a_X11_back_4 (C : Nat → Sp) : ta (tb_X11_back C) 4 = tr_iload 5 1 := rfl
theorem a_X11_back_5 (C : Nat → Sp) : ta (tb_X11_back C) 5 = tr_ic 7 50 := rfl
theorem a_X11_back_7 (C : Nat → Sp) : ta (tb_X11_back C) 7 = tr_icle 10 12 := rfl
theorem a_X11_back_10 (C : Nat → Sp) : ta (tb_X11_back C) 10 = tr_ic 11 (-1) := rfl
theorem a_X11_back_11 (C : Nat → Sp) : ta (tb_X11_back C) 11 = tr_iret := rfl
theorem a_X11_back_12 (C : Nat → Sp) : ta (tb_X11_back C) 12 = tr_aload 13 0 := rfl
theorem a_X11_back_13 (C : Nat → Sp) : ta (tb_X11_back C) 13 = tr_getR 16 12 1103 := rfl
theorem a_X11_back_16 (C : Nat → Sp) : ta (tb_X11_back C) 16 = tr_iload 17 1 := rfl
theorem a_X11_back_17 (C : Nat → Sp) : ta (tb_X11_back C) 17 = tr_callV (C 2) 20 1 1 := rfl
theorem a_X11_back_20 (C : Nat → Sp) : ta (tb_X11_back C) 20 = tr_iret := rfl

def tb_X11_listener_0 (C : Nat → Sp) : Tab := [(0, tr_aload 1 0), (1, tr_getR 4 12 1101), (4, tr_iload 5 1), (5, tr_callV (C 7) 8 3 1), (8, tr_astore 9 3), (9, tr_aload 10 3), (10, tr_ifnonnull 13 15), (13, tr_ic 14 (-1)), (14, tr_iret), (15, tr_iload 16 2), (16, tr_sw 0 [68, 76, 84, 89, 94, 99, 107, 115, 120] 125), (68, tr_aload 69 3), (69, tr_getI 72 6 509), (72, tr_callS (C 94) 75 1), (75, tr_iret), (76, tr_aload 77 3), (77, tr_getR 80 6 501), (80, tr_getI 83 4 300), (83, tr_iret), (84, tr_aload 85 3), (85, tr_getI 88 6 502), (88, tr_iret), (89, tr_aload 90 3), (90, tr_getI 93 6 503), (93, tr_iret), (94, tr_aload 95 3), (95, tr_getI 98 6 504), (98, tr_iret), (99, tr_aload 100 3), (100, tr_getR 103 6 505), (103, tr_getI 106 7 602), (106, tr_iret), (107, tr_aload 108 3), (108, tr_getI 111 6 508), (111, tr_callS (C 94) 114 1), (114, tr_iret), (115, tr_aload 116 3), (116, tr_getI 119 6 510), (119, tr_iret), (120, tr_aload 121 3)]
set_option maxRecDepth 20000 in
theorem tbk_X11_listener_0 {D : DD} {d : Nat} {C : Nat → Sp} (hC : Snd D d C) : ∀ e ∈ tb_X11_listener_0 C, TrOk D (d + 1) mi_X11_listener e.1 e.2 :=
  tk_c (show TrOk D (d + 1) mi_X11_listener 0 (tr_aload 1 0) from ok_aload_n (show decode mi_X11_listener.2.1 0 = .ok (.aload_n 0, 1) from by decide +kernel) rfl) <|
  tk_c (show TrOk D (d + 1) mi_X11_listener 1 (tr_getR 4 12 1101) from ok_getR (ci := 11) (k := 1) (show decode mi_X11_listener.2.1 1 = .ok (.getfield 19, 3) from by decide +kernel) rfl (by decide) (gm 287 (by decide +kernel) rfl) rfl) <|
  tk_c (show TrOk D (d + 1) mi_X11_listener 4 (tr_iload 5 1) from ok_iload_n (show decode mi_X11_listener.2.1 4 = .ok (.iload_n 1, 1) from by decide +kernel) rfl) <|
  tk_c (show TrOk D (d + 1) mi_X11_listener 5 (tr_callV (C 7) 8 3 1) from ok_callV (ci := 2) (show decode mi_X11_listener.2.1 5 = .ok (.invokevirtual 107, 3) from by decide +kernel) mok_X2_find rfl rfl (gm 495 (by decide +kernel) rfl) (gm 496 (by decide +kernel) rfl) (gm 497 (by decide +kernel) rfl) (hC 7)) <|
  tk_c (show TrOk D (d + 1) mi_X11_listener 8 (tr_astore 9 3) from ok_astore_n (show decode mi_X11_listener.2.1 8 = .ok (.astore_n 3, 1) from by decide +kernel) rfl (by decide)) <|
  tk_c (show TrOk D (d + 1) mi_X11_listener 9 (tr_aload 10 3) from ok_aload_n (show decode mi_X11_listener.2.1 9 = .ok (.aload_n 3, 1) from by decide +kernel) rfl) <|
  tk_c (show TrOk D (d + 1) mi_X11_listener 10 (tr_ifnonnull 13 15) from ok_ifnonnull (show decode mi_X11_listener.2.1 10 = .ok (.ifnonnull 5, 3) from by decide +kernel) (by decide)) <|
  tk_c (show TrOk D (d + 1) mi_X11_listener 13 (tr_ic 14 (-1)) from ok_iconst (show decode mi_X11_listener.2.1 13 = .ok (.iconst (-1), 1) from by decide +kernel) rfl) <|
  tk_c (show TrOk D (d + 1) mi_X11_listener 14 (tr_iret) from ok_iret (show decode mi_X11_listener.2.1 14 = .ok (.ireturn, 1) from by decide +kernel) rfl) <|
  tk_c (show TrOk D (d + 1) mi_X11_listener 15 (tr_iload 16 2) from ok_iload_n (show decode mi_X11_listener.2.1 15 = .ok (.iload_n 2, 1) from by decide +kernel) rfl) <|
  tk_c (show TrOk D (d + 1) mi_X11_listener 16 (tr_sw 0 [68, 76, 84, 89, 94, 99, 107, 115, 120] 125) from ok_sw 0 (show decode mi_X11_listener.2.1 16 = .ok (.tableswitch 109 0 8 #[52, 60, 68, 73, 78, 83, 91, 99, 104], 52) from by decide +kernel) rfl rfl (by decide) (by decide) (by decide) (by decide +kernel)) <|
  tk_c (show TrOk D (d + 1) mi_X11_listener 68 (tr_aload 69 3) from ok_aload_n (show decode mi_X11_listener.2.1 68 = .ok (.aload_n 3, 1) from by decide +kernel) rfl) <|
  tk_c (show TrOk D (d + 1) mi_X11_listener 69 (tr_getI 72 6 509) from ok_getI (ci := 5) (k := 9) (show decode mi_X11_listener.2.1 69 = .ok (.getfield 110, 3) from by decide +kernel) rfl (by decide) (gm 442 (by decide +kernel) rfl) rfl) <|
  tk_c (show TrOk D (d + 1) mi_X11_listener 72 (tr_callS (C 94) 75 1) from ok_callS (show decode mi_X11_listener.2.1 72 = .ok (.invokestatic 124, 3) from by decide +kernel) mok_X11_asNumber (gm 503 (by decide +kernel) rfl) (gm 504 (by decide +kernel) rfl) (hC 94)) <|
  tk_c (show TrOk D (d + 1) mi_X11_listener 75 (tr_iret) from ok_iret (show decode mi_X11_listener.2.1 75 = .ok (.ireturn, 1) from by decide +kernel) rfl) <|
  tk_c (show TrOk D (d + 1) mi_X11_listener 76 (tr_aload 77 3) from ok_aload_n (show decode mi_X11_listener.2.1 76 = .ok (.aload_n 3, 1) from by decide +kernel) rfl) <|
  tk_c (show TrOk D (d + 1) mi_X11_listener 77 (tr_getR 80 6 501) from ok_getR (ci := 5) (k := 1) (show decode mi_X11_listener.2.1 77 = .ok (.getfield 213, 3) from by decide +kernel) rfl (by decide) (gm 418 (by decide +kernel) rfl) rfl) <|
  tk_c (show TrOk D (d + 1) mi_X11_listener 80 (tr_getI 83 4 300) from ok_getI (ci := 3) (k := 0) (show decode mi_X11_listener.2.1 80 = .ok (.getfield 217, 3) from by decide +kernel) rfl (by decide) (gm 323 (by decide +kernel) rfl) rfl) <|
  tk_c (show TrOk D (d + 1) mi_X11_listener 83 (tr_iret) from ok_iret (show decode mi_X11_listener.2.1 83 = .ok (.ireturn, 1) from by decide +kernel) rfl) <|
  tk_c (show TrOk D (d + 1) mi_X11_listener 84 (tr_aload 85 3) from ok_aload_n (show decode mi_X11_listener.2.1 84 = .ok (.aload_n 3, 1) from by decide +kernel) rfl) <|
  tk_c (show TrOk D (d + 1) mi_X11_listener 85 (tr_getI 88 6 502) from ok_getI (ci := 5) (k := 2) (show decode mi_X11_listener.2.1 85 = .ok (.getfield 218, 3) from by decide +kernel) rfl (by decide) (gm 421 (by decide +kernel) rfl) rfl) <|
  tk_c (show TrOk D (d + 1) mi_X11_listener 88 (tr_iret) from ok_iret (show decode mi_X11_listener.2.1 88 = .ok (.ireturn, 1) from by decide +kernel) rfl) <|
  tk_c (show TrOk D (d + 1) mi_X11_listener 89 (tr_aload 90 3) from ok_aload_n (show decode mi_X11_listener.2.1 89 = .ok (.aload_n 3, 1) from by decide +kernel) rfl) <|
  tk_c (show TrOk D (d + 1) mi_X11_listener 90 (tr_getI 93 6 503) from ok_getI (ci := 5) (k := 3) (show decode mi_X11_listener.2.1 90 = .ok (.getfield 221, 3) from by decide +kernel) rfl (by decide) (gm 424 (by decide +kernel) rfl) rfl) <|
  tk_c (show TrOk D (d + 1) mi_X11_listener 93 (tr_iret) from ok_iret (show decode mi_X11_listener.2.1 93 = .ok (.ireturn, 1) from by decide +kernel) rfl) <|
  tk_c (show TrOk D (d + 1) mi_X11_listener 94 (tr_aload 95 3) from ok_aload_n (show decode mi_X11_listener.2.1 94 = .ok (.aload_n 3, 1) from by decide +kernel) rfl) <|
  tk_c (show TrOk D (d + 1) mi_X11_listener 95 (tr_getI 98 6 504) from ok_getI (ci := 5) (k := 4) (show decode mi_X11_listener.2.1 95 = .ok (.getfield 224, 3) from by decide +kernel) rfl (by decide) (gm 427 (by decide +kernel) rfl) rfl) <|
  tk_c (show TrOk D (d + 1) mi_X11_listener 98 (tr_iret) from ok_iret (show decode mi_X11_listener.2.1 98 = .ok (.ireturn, 1) from by decide +kernel) rfl) <|
  tk_c (show TrOk D (d + 1) mi_X11_listener 99 (tr_aload 100 3) from ok_aload_n (show decode mi_X11_listener.2.1 99 = .ok (.aload_n 3, 1) from by decide +kernel) rfl) <|
  tk_c (show TrOk D (d + 1) mi_X11_listener 100 (tr_getR 103 6 505) from ok_getR (ci := 5) (k := 5) (show decode mi_X11_listener.2.1 100 = .ok (.getfield 128, 3) from by decide +kernel) rfl (by decide) (gm 431 (by decide +kernel) rfl) rfl) <|
  tk_c (show TrOk D (d + 1) mi_X11_listener 103 (tr_getI 106 7 602) from ok_getI (ci := 6) (k := 2) (show decode mi_X11_listener.2.1 103 = .ok (.getfield 138, 3) from by decide +kernel) rfl (by decide) (gm 402 (by decide +kernel) rfl) rfl) <|
  tk_c (show TrOk D (d + 1) mi_X11_listener 106 (tr_iret) from ok_iret (show decode mi_X11_listener.2.1 106 = .ok (.ireturn, 1) from by decide +kernel) rfl) <|
  tk_c (show TrOk D (d + 1) mi_X11_listener 107 (tr_aload 108 3) from ok_aload_n (show decode mi_X11_listener.2.1 107 = .ok (.aload_n 3, 1) from by decide +kernel) rfl) <|
  tk_c (show TrOk D (d + 1) mi_X11_listener 108 (tr_getI 111 6 508) from ok_getI (ci := 5) (k := 8) (show decode mi_X11_listener.2.1 108 = .ok (.getfield 121, 3) from by decide +kernel) rfl (by decide) (gm 439 (by decide +kernel) rfl) rfl) <|
  tk_c (show TrOk D (d + 1) mi_X11_listener 111 (tr_callS (C 94) 114 1) from ok_callS (show decode mi_X11_listener.2.1 111 = .ok (.invokestatic 124, 3) from by decide +kernel) mok_X11_asNumber (gm 503 (by decide +kernel) rfl) (gm 504 (by decide +kernel) rfl) (hC 94)) <|
  tk_c (show TrOk D (d + 1) mi_X11_listener 114 (tr_iret) from ok_iret (show decode mi_X11_listener.2.1 114 = .ok (.ireturn, 1) from by decide +kernel) rfl) <|
  tk_c (show TrOk D (d + 1) mi_X11_listener 115 (tr_aload 116 3) from ok_aload_n (show decode mi_X11_listener.2.1 115 = .ok (.aload_n 3, 1) from by decide +kernel) rfl) <|
  tk_c (show TrOk D (d + 1) mi_X11_listener 116 (tr_getI 119 6 510) from ok_getI (ci := 5) (k := 10) (show decode mi_X11_listener.2.1 116 = .ok (.getfield 227, 3) from by decide +kernel) rfl (by decide) (gm 445 (by decide +kernel) rfl) rfl) <|
  tk_c (show TrOk D (d + 1) mi_X11_listener 119 (tr_iret) from ok_iret (show decode mi_X11_listener.2.1 119 = .ok (.ireturn, 1) from by decide +kernel) rfl) <|
  tk_c (show TrOk D (d + 1) mi_X11_listener 120 (tr_aload 121 3) from ok_aload_n (show decode mi_X11_listener.2.1 120 = .ok (.aload_n 3, 1) from by decide +kernel) rfl) <|
  tk_n
def tb_X11_listener_1 (C : Nat → Sp) : Tab := [(121, tr_getI 124 6 511), (124, tr_iret), (125, tr_ic 126 (-1)), (126, tr_iret)]
set_option maxRecDepth 20000 in
theorem tbk_X11_listener_1 {D : DD} {d : Nat} {C : Nat → Sp} (hC : Snd D d C) : ∀ e ∈ tb_X11_listener_1 C, TrOk D (d + 1) mi_X11_listener e.1 e.2 :=
  tk_c (show TrOk D (d + 1) mi_X11_listener 121 (tr_getI 124 6 511) from ok_getI (ci := 5) (k := 11) (show decode mi_X11_listener.2.1 121 = .ok (.getfield 230, 3) from by decide +kernel) rfl (by decide) (gm 447 (by decide +kernel) rfl) rfl) <|
  tk_c (show TrOk D (d + 1) mi_X11_listener 124 (tr_iret) from ok_iret (show decode mi_X11_listener.2.1 124 = .ok (.ireturn, 1) from by decide +kernel) rfl) <|
  tk_c (show TrOk D (d + 1) mi_X11_listener 125 (tr_ic 126 (-1)) from ok_iconst (show decode mi_X11_listener.2.1 125 = .ok (.iconst (-1), 1) from by decide +kernel) rfl) <|
  tk_c (show TrOk D (d + 1) mi_X11_listener 126 (tr_iret) from ok_iret (show decode mi_X11_listener.2.1 126 = .ok (.ireturn, 1) from by decide +kernel) rfl) <|
  tk_n
def tb_X11_listener (C : Nat → Sp) : Tab := tb_X11_listener_0 C ++ (tb_X11_listener_1 C)
theorem tbk_X11_listener {D : DD} {d : Nat} {C : Nat → Sp} (hC : Snd D d C) : ∀ e ∈ tb_X11_listener C, TrOk D (d + 1) mi_X11_listener e.1 e.2 := tk_a (tbk_X11_listener_0 hC) (tbk_X11_listener_1 hC)
theorem a_X11_listener_0 (C : Nat → Sp) : ta (tb_X11_listener C) 0 = tr_aload 1 0 := rfl
theorem a_X11_listener_1 (C : Nat → Sp) : ta (tb_X11_listener C) 1 = tr_getR 4 12 1101 := rfl
theorem a_X11_listener_4 (C : Nat → Sp) : ta (tb_X11_listener C) 4 = tr_iload 5 1 := rfl
theorem a_X11_listener_5 (C : Nat → Sp) : ta (tb_X11_listener C) 5 = tr_callV (C 7) 8 3 1 := rfl
theorem a_X11_listener_8 (C : Nat → Sp) : ta (tb_X11_listener C) 8 = tr_astore 9 3 := rfl
theorem a_X11_listener_9 (C : Nat → Sp) : ta (tb_X11_listener C) 9 = tr_aload 10 3 := rfl
theorem a_X11_listener_10 (C : Nat → Sp) : ta (tb_X11_listener C) 10 = tr_ifnonnull 13 15 := rfl
theorem a_X11_listener_13 (C : Nat → Sp) : ta (tb_X11_listener C) 13 = tr_ic 14 (-1) := rfl
theorem a_X11_listener_14 (C : Nat → Sp) : ta (tb_X11_listener C) 14 = tr_iret := rfl
theorem a_X11_listener_15 (C : Nat → Sp) : ta (tb_X11_listener C) 15 = tr_iload 16 2 := rfl
theorem a_X11_listener_16 (C : Nat → Sp) : ta (tb_X11_listener C) 16 = tr_sw 0 [68, 76, 84, 89, 94, 99, 107, 115, 120] 125 := rfl
theorem a_X11_listener_68 (C : Nat → Sp) : ta (tb_X11_listener C) 68 = tr_aload 69 3 := rfl
theorem a_X11_listener_69 (C : Nat → Sp) : ta (tb_X11_listener C) 69 = tr_getI 72 6 509 := rfl
theorem a_X11_listener_72 (C : Nat → Sp) : ta (tb_X11_listener C) 72 = tr_callS (C 94) 75 1 := rfl
theorem a_X11_listener_75 (C : Nat → Sp) : ta (tb_X11_listener C) 75 = tr_iret := rfl
theorem a_X11_listener_76 (C : Nat → Sp) : ta (tb_X11_listener C) 76 = tr_aload 77 3 := rfl
theorem a_X11_listener_77 (C : Nat → Sp) : ta (tb_X11_listener C) 77 = tr_getR 80 6 501 := rfl
theorem a_X11_listener_80 (C : Nat → Sp) : ta (tb_X11_listener C) 80 = tr_getI 83 4 300 := rfl
theorem a_X11_listener_83 (C : Nat → Sp) : ta (tb_X11_listener C) 83 = tr_iret := rfl
theorem a_X11_listener_84 (C : Nat → Sp) : ta (tb_X11_listener C) 84 = tr_aload 85 3 := rfl
theorem a_X11_listener_85 (C : Nat → Sp) : ta (tb_X11_listener C) 85 = tr_getI 88 6 502 := rfl
theorem a_X11_listener_88 (C : Nat → Sp) : ta (tb_X11_listener C) 88 = tr_iret := rfl
theorem a_X11_listener_89 (C : Nat → Sp) : ta (tb_X11_listener C) 89 = tr_aload 90 3 := rfl
theorem a_X11_listener_90 (C : Nat → Sp) : ta (tb_X11_listener C) 90 = tr_getI 93 6 503 := rfl
theorem a_X11_listener_93 (C : Nat → Sp) : ta (tb_X11_listener C) 93 = tr_iret := rfl
theorem a_X11_listener_94 (C : Nat → Sp) : ta (tb_X11_listener C) 94 = tr_aload 95 3 := rfl
theorem a_X11_listener_95 (C : Nat → Sp) : ta (tb_X11_listener C) 95 = tr_getI 98 6 504 := rfl
theorem a_X11_listener_98 (C : Nat → Sp) : ta (tb_X11_listener C) 98 = tr_iret := rfl
theorem a_X11_listener_99 (C : Nat → Sp) : ta (tb_X11_listener C) 99 = tr_aload 100 3 := rfl
theorem a_X11_listener_100 (C : Nat → Sp) : ta (tb_X11_listener C) 100 = tr_getR 103 6 505 := rfl
theorem a_X11_listener_103 (C : Nat → Sp) : ta (tb_X11_listener C) 103 = tr_getI 106 7 602 := rfl
theorem a_X11_listener_106 (C : Nat → Sp) : ta (tb_X11_listener C) 106 = tr_iret := rfl
theorem a_X11_listener_107 (C : Nat → Sp) : ta (tb_X11_listener C) 107 = tr_aload 108 3 := rfl
theorem a_X11_listener_108 (C : Nat → Sp) : ta (tb_X11_listener C) 108 = tr_getI 111 6 508 := rfl
theorem a_X11_listener_111 (C : Nat → Sp) : ta (tb_X11_listener C) 111 = tr_callS (C 94) 114 1 := rfl
theorem a_X11_listener_114 (C : Nat → Sp) : ta (tb_X11_listener C) 114 = tr_iret := rfl
theorem a_X11_listener_115 (C : Nat → Sp) : ta (tb_X11_listener C) 115 = tr_aload 116 3 := rfl
theorem a_X11_listener_116 (C : Nat → Sp) : ta (tb_X11_listener C) 116 = tr_getI 119 6 510 := rfl
theorem a_X11_listener_119 (C : Nat → Sp) : ta (tb_X11_listener C) 119 = tr_iret := rfl
theorem a_X11_listener_120 (C : Nat → Sp) : ta (tb_X11_listener C) 120 = tr_aload 121 3 := rfl
theorem a_X11_listener_121 (C : Nat → Sp) : ta (tb_X11_listener C) 121 = tr_getI 124 6 511 := rfl
theorem a_X11_listener_124 (C : Nat → Sp) : ta (tb_X11_listener C) 124 = tr_iret := rfl
theorem a_X11_listener_125 (C : Nat → Sp) : ta (tb_X11_listener C) 125 = tr_ic 126 (-1) := rfl
theorem a_X11_listener_126 (C : Nat → Sp) : ta (tb_X11_listener C) 126 = tr_iret := rfl

def tb_X11_turn_0 (C : Nat → Sp) : Tab := [(0, tr_aload 1 0), (1, tr_getR 4 12 1100), (4, tr_iload 5 1), (5, tr_callV (C 24) 8 5 1), (8, tr_astore 10 4), (10, tr_aload 12 4), (12, tr_ifnull 15 22), (15, tr_iload 16 2), (16, tr_callS (C 92) 19 1), (19, tr_ifne 22 24), (22, tr_ic 23 (-1)), (23, tr_iret), (24, tr_aload 25 0), (25, tr_getR 28 12 1101), (28, tr_aload 30 4), (30, tr_iload 31 2), (31, tr_iload 32 3), (32, tr_callV (C 15) 35 3 3), (35, tr_iret)]
set_option maxRecDepth 20000 in
theorem tbk_X11_turn_0 {D : DD} {d : Nat} {C : Nat → Sp} (hC : Snd D d C) : ∀ e ∈ tb_X11_turn_0 C, TrOk D (d + 1) mi_X11_turn e.1 e.2 :=
  tk_c (show TrOk D (d + 1) mi_X11_turn 0 (tr_aload 1 0) from ok_aload_n (show decode mi_X11_turn.2.1 0 = .ok (.aload_n 0, 1) from by decide +kernel) rfl) <|
  tk_c (show TrOk D (d + 1) mi_X11_turn 1 (tr_getR 4 12 1100) from ok_getR (ci := 11) (k := 0) (show decode mi_X11_turn.2.1 1 = .ok (.getfield 12, 3) from by decide +kernel) rfl (by decide) (gm 286 (by decide +kernel) rfl) rfl) <|
  tk_c (show TrOk D (d + 1) mi_X11_turn 4 (tr_iload 5 1) from ok_iload_n (show decode mi_X11_turn.2.1 4 = .ok (.iload_n 1, 1) from by decide +kernel) rfl) <|
  tk_c (show TrOk D (d + 1) mi_X11_turn 5 (tr_callV (C 24) 8 5 1) from ok_callV (ci := 4) (show decode mi_X11_turn.2.1 5 = .ok (.invokevirtual 53, 3) from by decide +kernel) mok_X4_find rfl rfl (gm 309 (by decide +kernel) rfl) (gm 310 (by decide +kernel) rfl) (gm 311 (by decide +kernel) rfl) (hC 24)) <|
  tk_c (show TrOk D (d + 1) mi_X11_turn 8 (tr_astore 10 4) from ok_astore (show decode mi_X11_turn.2.1 8 = .ok (.astore 4, 2) from by decide +kernel) (by decide)) <|
  tk_c (show TrOk D (d + 1) mi_X11_turn 10 (tr_aload 12 4) from ok_aload (show decode mi_X11_turn.2.1 10 = .ok (.aload 4, 2) from by decide +kernel)) <|
  tk_c (show TrOk D (d + 1) mi_X11_turn 12 (tr_ifnull 15 22) from ok_ifnull (show decode mi_X11_turn.2.1 12 = .ok (.ifnull 10, 3) from by decide +kernel) (by decide)) <|
  tk_c (show TrOk D (d + 1) mi_X11_turn 15 (tr_iload 16 2) from ok_iload_n (show decode mi_X11_turn.2.1 15 = .ok (.iload_n 2, 1) from by decide +kernel) rfl) <|
  tk_c (show TrOk D (d + 1) mi_X11_turn 16 (tr_callS (C 92) 19 1) from ok_callS (show decode mi_X11_turn.2.1 16 = .ok (.invokestatic 82, 3) from by decide +kernel) mok_X11_isPhase (gm 373 (by decide +kernel) rfl) (gm 374 (by decide +kernel) rfl) (hC 92)) <|
  tk_c (show TrOk D (d + 1) mi_X11_turn 19 (tr_ifne 22 24) from ok_ifne (show decode mi_X11_turn.2.1 19 = .ok (.ifCond .ne 5, 3) from by decide +kernel) (by decide)) <|
  tk_c (show TrOk D (d + 1) mi_X11_turn 22 (tr_ic 23 (-1)) from ok_iconst (show decode mi_X11_turn.2.1 22 = .ok (.iconst (-1), 1) from by decide +kernel) rfl) <|
  tk_c (show TrOk D (d + 1) mi_X11_turn 23 (tr_iret) from ok_iret (show decode mi_X11_turn.2.1 23 = .ok (.ireturn, 1) from by decide +kernel) rfl) <|
  tk_c (show TrOk D (d + 1) mi_X11_turn 24 (tr_aload 25 0) from ok_aload_n (show decode mi_X11_turn.2.1 24 = .ok (.aload_n 0, 1) from by decide +kernel) rfl) <|
  tk_c (show TrOk D (d + 1) mi_X11_turn 25 (tr_getR 28 12 1101) from ok_getR (ci := 11) (k := 1) (show decode mi_X11_turn.2.1 25 = .ok (.getfield 19, 3) from by decide +kernel) rfl (by decide) (gm 287 (by decide +kernel) rfl) rfl) <|
  tk_c (show TrOk D (d + 1) mi_X11_turn 28 (tr_aload 30 4) from ok_aload (show decode mi_X11_turn.2.1 28 = .ok (.aload 4, 2) from by decide +kernel)) <|
  tk_c (show TrOk D (d + 1) mi_X11_turn 30 (tr_iload 31 2) from ok_iload_n (show decode mi_X11_turn.2.1 30 = .ok (.iload_n 2, 1) from by decide +kernel) rfl) <|
  tk_c (show TrOk D (d + 1) mi_X11_turn 31 (tr_iload 32 3) from ok_iload_n (show decode mi_X11_turn.2.1 31 = .ok (.iload_n 3, 1) from by decide +kernel) rfl) <|
  tk_c (show TrOk D (d + 1) mi_X11_turn 32 (tr_callV (C 15) 35 3 3) from ok_callV (ci := 2) (show decode mi_X11_turn.2.1 32 = .ok (.invokevirtual 233, 3) from by decide +kernel) mok_X2_nameTurn rfl rfl (gm 760 (by decide +kernel) rfl) (gm 761 (by decide +kernel) rfl) (gm 762 (by decide +kernel) rfl) (hC 15)) <|
  tk_c (show TrOk D (d + 1) mi_X11_turn 35 (tr_iret) from ok_iret (show decode mi_X11_turn.2.1 35 = .ok (.ireturn, 1) from by decide +kernel) rfl) <|
  tk_n
def tb_X11_turn (C : Nat → Sp) : Tab := tb_X11_turn_0 C
theorem tbk_X11_turn {D : DD} {d : Nat} {C : Nat → Sp} (hC : Snd D d C) : ∀ e ∈ tb_X11_turn C, TrOk D (d + 1) mi_X11_turn e.1 e.2 := tbk_X11_turn_0 hC
theorem a_X11_turn_0 (C : Nat → Sp) : ta (tb_X11_turn C) 0 = tr_aload 1 0 := rfl
theorem a_X11_turn_1 (C : Nat → Sp) : ta (tb_X11_turn C) 1 = tr_getR 4 12 1100 := rfl
theorem a_X11_turn_4 (C : Nat → Sp) : ta (tb_X11_turn C) 4 = tr_iload 5 1 := rfl
theorem a_X11_turn_5 (C : Nat → Sp) : ta (tb_X11_turn C) 5 = tr_callV (C 24) 8 5 1 := rfl
theorem a_X11_turn_8 (C : Nat → Sp) : ta (tb_X11_turn C) 8 = tr_astore 10 4 := rfl
theorem a_X11_turn_10 (C : Nat → Sp) : ta (tb_X11_turn C) 10 = tr_aload 12 4 := rfl
theorem a_X11_turn_12 (C : Nat → Sp) : ta (tb_X11_turn C) 12 = tr_ifnull 15 22 := rfl
theorem a_X11_turn_15 (C : Nat → Sp) : ta (tb_X11_turn C) 15 = tr_iload 16 2 := rfl
theorem a_X11_turn_16 (C : Nat → Sp) : ta (tb_X11_turn C) 16 = tr_callS (C 92) 19 1 := rfl
theorem a_X11_turn_19 (C : Nat → Sp) : ta (tb_X11_turn C) 19 = tr_ifne 22 24 := rfl
theorem a_X11_turn_22 (C : Nat → Sp) : ta (tb_X11_turn C) 22 = tr_ic 23 (-1) := rfl
theorem a_X11_turn_23 (C : Nat → Sp) : ta (tb_X11_turn C) 23 = tr_iret := rfl
theorem a_X11_turn_24 (C : Nat → Sp) : ta (tb_X11_turn C) 24 = tr_aload 25 0 := rfl
theorem a_X11_turn_25 (C : Nat → Sp) : ta (tb_X11_turn C) 25 = tr_getR 28 12 1101 := rfl
theorem a_X11_turn_28 (C : Nat → Sp) : ta (tb_X11_turn C) 28 = tr_aload 30 4 := rfl
theorem a_X11_turn_30 (C : Nat → Sp) : ta (tb_X11_turn C) 30 = tr_iload 31 2 := rfl
theorem a_X11_turn_31 (C : Nat → Sp) : ta (tb_X11_turn C) 31 = tr_iload 32 3 := rfl
theorem a_X11_turn_32 (C : Nat → Sp) : ta (tb_X11_turn C) 32 = tr_callV (C 15) 35 3 3 := rfl
theorem a_X11_turn_35 (C : Nat → Sp) : ta (tb_X11_turn C) 35 = tr_iret := rfl

def tb_X11_under_0 (C : Nat → Sp) : Tab := [(0, tr_aload 1 0), (1, tr_getR 4 12 1100), (4, tr_iload 5 1), (5, tr_callV (C 24) 8 5 1), (8, tr_astore 9 3), (9, tr_aload 10 0), (10, tr_getR 13 12 1100), (13, tr_iload 14 2), (14, tr_callV (C 24) 17 5 1), (17, tr_astore 19 4), (19, tr_aload 20 3), (20, tr_ifnull 23 28), (23, tr_aload 25 4), (25, tr_ifnonnull 28 30), (28, tr_ic 29 (-1)), (29, tr_iret), (30, tr_aload 31 3), (31, tr_aload 33 4), (33, tr_callV (C 22) 36 4 1), (36, tr_callS (C 94) 39 1), (39, tr_iret)]
set_option maxRecDepth 20000 in
theorem tbk_X11_under_0 {D : DD} {d : Nat} {C : Nat → Sp} (hC : Snd D d C) : ∀ e ∈ tb_X11_under_0 C, TrOk D (d + 1) mi_X11_under e.1 e.2 :=
  tk_c (show TrOk D (d + 1) mi_X11_under 0 (tr_aload 1 0) from ok_aload_n (show decode mi_X11_under.2.1 0 = .ok (.aload_n 0, 1) from by decide +kernel) rfl) <|
  tk_c (show TrOk D (d + 1) mi_X11_under 1 (tr_getR 4 12 1100) from ok_getR (ci := 11) (k := 0) (show decode mi_X11_under.2.1 1 = .ok (.getfield 12, 3) from by decide +kernel) rfl (by decide) (gm 286 (by decide +kernel) rfl) rfl) <|
  tk_c (show TrOk D (d + 1) mi_X11_under 4 (tr_iload 5 1) from ok_iload_n (show decode mi_X11_under.2.1 4 = .ok (.iload_n 1, 1) from by decide +kernel) rfl) <|
  tk_c (show TrOk D (d + 1) mi_X11_under 5 (tr_callV (C 24) 8 5 1) from ok_callV (ci := 4) (show decode mi_X11_under.2.1 5 = .ok (.invokevirtual 53, 3) from by decide +kernel) mok_X4_find rfl rfl (gm 309 (by decide +kernel) rfl) (gm 310 (by decide +kernel) rfl) (gm 311 (by decide +kernel) rfl) (hC 24)) <|
  tk_c (show TrOk D (d + 1) mi_X11_under 8 (tr_astore 9 3) from ok_astore_n (show decode mi_X11_under.2.1 8 = .ok (.astore_n 3, 1) from by decide +kernel) rfl (by decide)) <|
  tk_c (show TrOk D (d + 1) mi_X11_under 9 (tr_aload 10 0) from ok_aload_n (show decode mi_X11_under.2.1 9 = .ok (.aload_n 0, 1) from by decide +kernel) rfl) <|
  tk_c (show TrOk D (d + 1) mi_X11_under 10 (tr_getR 13 12 1100) from ok_getR (ci := 11) (k := 0) (show decode mi_X11_under.2.1 10 = .ok (.getfield 12, 3) from by decide +kernel) rfl (by decide) (gm 286 (by decide +kernel) rfl) rfl) <|
  tk_c (show TrOk D (d + 1) mi_X11_under 13 (tr_iload 14 2) from ok_iload_n (show decode mi_X11_under.2.1 13 = .ok (.iload_n 2, 1) from by decide +kernel) rfl) <|
  tk_c (show TrOk D (d + 1) mi_X11_under 14 (tr_callV (C 24) 17 5 1) from ok_callV (ci := 4) (show decode mi_X11_under.2.1 14 = .ok (.invokevirtual 53, 3) from by decide +kernel) mok_X4_find rfl rfl (gm 309 (by decide +kernel) rfl) (gm 310 (by decide +kernel) rfl) (gm 311 (by decide +kernel) rfl) (hC 24)) <|
  tk_c (show TrOk D (d + 1) mi_X11_under 17 (tr_astore 19 4) from ok_astore (show decode mi_X11_under.2.1 17 = .ok (.astore 4, 2) from by decide +kernel) (by decide)) <|
  tk_c (show TrOk D (d + 1) mi_X11_under 19 (tr_aload 20 3) from ok_aload_n (show decode mi_X11_under.2.1 19 = .ok (.aload_n 3, 1) from by decide +kernel) rfl) <|
  tk_c (show TrOk D (d + 1) mi_X11_under 20 (tr_ifnull 23 28) from ok_ifnull (show decode mi_X11_under.2.1 20 = .ok (.ifnull 8, 3) from by decide +kernel) (by decide)) <|
  tk_c (show TrOk D (d + 1) mi_X11_under 23 (tr_aload 25 4) from ok_aload (show decode mi_X11_under.2.1 23 = .ok (.aload 4, 2) from by decide +kernel)) <|
  tk_c (show TrOk D (d + 1) mi_X11_under 25 (tr_ifnonnull 28 30) from ok_ifnonnull (show decode mi_X11_under.2.1 25 = .ok (.ifnonnull 5, 3) from by decide +kernel) (by decide)) <|
  tk_c (show TrOk D (d + 1) mi_X11_under 28 (tr_ic 29 (-1)) from ok_iconst (show decode mi_X11_under.2.1 28 = .ok (.iconst (-1), 1) from by decide +kernel) rfl) <|
  tk_c (show TrOk D (d + 1) mi_X11_under 29 (tr_iret) from ok_iret (show decode mi_X11_under.2.1 29 = .ok (.ireturn, 1) from by decide +kernel) rfl) <|
  tk_c (show TrOk D (d + 1) mi_X11_under 30 (tr_aload 31 3) from ok_aload_n (show decode mi_X11_under.2.1 30 = .ok (.aload_n 3, 1) from by decide +kernel) rfl) <|
  tk_c (show TrOk D (d + 1) mi_X11_under 31 (tr_aload 33 4) from ok_aload (show decode mi_X11_under.2.1 31 = .ok (.aload 4, 2) from by decide +kernel)) <|
  tk_c (show TrOk D (d + 1) mi_X11_under 33 (tr_callV (C 22) 36 4 1) from ok_callV (ci := 3) (show decode mi_X11_under.2.1 33 = .ok (.invokevirtual 237, 3) from by decide +kernel) mok_X3_isUnder rfl rfl (gm 770 (by decide +kernel) rfl) (gm 604 (by decide +kernel) rfl) (gm 605 (by decide +kernel) rfl) (hC 22)) <|
  tk_c (show TrOk D (d + 1) mi_X11_under 36 (tr_callS (C 94) 39 1) from ok_callS (show decode mi_X11_under.2.1 36 = .ok (.invokestatic 124, 3) from by decide +kernel) mok_X11_asNumber (gm 503 (by decide +kernel) rfl) (gm 504 (by decide +kernel) rfl) (hC 94)) <|
  tk_c (show TrOk D (d + 1) mi_X11_under 39 (tr_iret) from ok_iret (show decode mi_X11_under.2.1 39 = .ok (.ireturn, 1) from by decide +kernel) rfl) <|
  tk_n
def tb_X11_under (C : Nat → Sp) : Tab := tb_X11_under_0 C
theorem tbk_X11_under {D : DD} {d : Nat} {C : Nat → Sp} (hC : Snd D d C) : ∀ e ∈ tb_X11_under C, TrOk D (d + 1) mi_X11_under e.1 e.2 := tbk_X11_under_0 hC
theorem a_X11_under_0 (C : Nat → Sp) : ta (tb_X11_under C) 0 = tr_aload 1 0 := rfl
theorem a_X11_under_1 (C : Nat → Sp) : ta (tb_X11_under C) 1 = tr_getR 4 12 1100 := rfl
theorem a_X11_under_4 (C : Nat → Sp) : ta (tb_X11_under C) 4 = tr_iload 5 1 := rfl
theorem a_X11_under_5 (C : Nat → Sp) : ta (tb_X11_under C) 5 = tr_callV (C 24) 8 5 1 := rfl
theorem a_X11_under_8 (C : Nat → Sp) : ta (tb_X11_under C) 8 = tr_astore 9 3 := rfl
theorem a_X11_under_9 (C : Nat → Sp) : ta (tb_X11_under C) 9 = tr_aload 10 0 := rfl
theorem a_X11_under_10 (C : Nat → Sp) : ta (tb_X11_under C) 10 = tr_getR 13 12 1100 := rfl
theorem a_X11_under_13 (C : Nat → Sp) : ta (tb_X11_under C) 13 = tr_iload 14 2 := rfl
theorem a_X11_under_14 (C : Nat → Sp) : ta (tb_X11_under C) 14 = tr_callV (C 24) 17 5 1 := rfl
theorem a_X11_under_17 (C : Nat → Sp) : ta (tb_X11_under C) 17 = tr_astore 19 4 := rfl
theorem a_X11_under_19 (C : Nat → Sp) : ta (tb_X11_under C) 19 = tr_aload 20 3 := rfl
theorem a_X11_under_20 (C : Nat → Sp) : ta (tb_X11_under C) 20 = tr_ifnull 23 28 := rfl
theorem a_X11_under_23 (C : Nat → Sp) : ta (tb_X11_under C) 23 = tr_aload 25 4 := rfl
theorem a_X11_under_25 (C : Nat → Sp) : ta (tb_X11_under C) 25 = tr_ifnonnull 28 30 := rfl
theorem a_X11_under_28 (C : Nat → Sp) : ta (tb_X11_under C) 28 = tr_ic 29 (-1) := rfl
theorem a_X11_under_29 (C : Nat → Sp) : ta (tb_X11_under C) 29 = tr_iret := rfl
theorem a_X11_under_30 (C : Nat → Sp) : ta (tb_X11_under C) 30 = tr_aload 31 3 := rfl
theorem a_X11_under_31 (C : Nat → Sp) : ta (tb_X11_under C) 31 = tr_aload 33 4 := rfl
theorem a_X11_under_33 (C : Nat → Sp) : ta (tb_X11_under C) 33 = tr_callV (C 22) 36 4 1 := rfl
theorem a_X11_under_36 (C : Nat → Sp) : ta (tb_X11_under C) 36 = tr_callS (C 94) 39 1 := rfl
theorem a_X11_under_39 (C : Nat → Sp) : ta (tb_X11_under C) 39 = tr_iret := rfl

def tb_X11_count_0 (C : Nat → Sp) : Tab := [(0, tr_iload 1 1), (1, tr_sw 0 [40, 48, 56, 64, 72, 80] 88), (40, tr_aload 41 0), (41, tr_getR 44 12 1100), (44, tr_getI 47 5 401), (47, tr_iret), (48, tr_aload 49 0), (49, tr_getR 52 12 1101), (52, tr_getI 55 3 205), (55, tr_iret), (56, tr_aload 57 0), (57, tr_getR 60 12 1101), (60, tr_getI 63 3 206), (63, tr_iret), (64, tr_aload 65 0), (65, tr_getR 68 12 1101), (68, tr_getI 71 3 203), (71, tr_iret), (72, tr_aload 73 0), (73, tr_getR 76 12 1101), (76, tr_getI 79 3 204), (79, tr_iret), (80, tr_aload 81 0), (81, tr_getR 84 12 1103), (84, tr_getI 87 1 3), (87, tr_iret), (88, tr_ic 89 (-1)), (89, tr_iret)]
set_option maxRecDepth 20000 in
theorem tbk_X11_count_0 {D : DD} {d : Nat} {C : Nat → Sp} (hC : Snd D d C) : ∀ e ∈ tb_X11_count_0 C, TrOk D (d + 1) mi_X11_count e.1 e.2 :=
  tk_c (show TrOk D (d + 1) mi_X11_count 0 (tr_iload 1 1) from ok_iload_n (show decode mi_X11_count.2.1 0 = .ok (.iload_n 1, 1) from by decide +kernel) rfl) <|
  tk_c (show TrOk D (d + 1) mi_X11_count 1 (tr_sw 0 [40, 48, 56, 64, 72, 80] 88) from ok_sw 0 (show decode mi_X11_count.2.1 1 = .ok (.tableswitch 87 0 5 #[39, 47, 55, 63, 71, 79], 39) from by decide +kernel) rfl rfl (by decide) (by decide) (by decide) (by decide +kernel)) <|
  tk_c (show TrOk D (d + 1) mi_X11_count 40 (tr_aload 41 0) from ok_aload_n (show decode mi_X11_count.2.1 40 = .ok (.aload_n 0, 1) from by decide +kernel) rfl) <|
  tk_c (show TrOk D (d + 1) mi_X11_count 41 (tr_getR 44 12 1100) from ok_getR (ci := 11) (k := 0) (show decode mi_X11_count.2.1 41 = .ok (.getfield 12, 3) from by decide +kernel) rfl (by decide) (gm 286 (by decide +kernel) rfl) rfl) <|
  tk_c (show TrOk D (d + 1) mi_X11_count 44 (tr_getI 47 5 401) from ok_getI (ci := 4) (k := 1) (show decode mi_X11_count.2.1 44 = .ok (.getfield 241, 3) from by decide +kernel) rfl (by decide) (gm 62 (by decide +kernel) rfl) rfl) <|
  tk_c (show TrOk D (d + 1) mi_X11_count 47 (tr_iret) from ok_iret (show decode mi_X11_count.2.1 47 = .ok (.ireturn, 1) from by decide +kernel) rfl) <|
  tk_c (show TrOk D (d + 1) mi_X11_count 48 (tr_aload 49 0) from ok_aload_n (show decode mi_X11_count.2.1 48 = .ok (.aload_n 0, 1) from by decide +kernel) rfl) <|
  tk_c (show TrOk D (d + 1) mi_X11_count 49 (tr_getR 52 12 1101) from ok_getR (ci := 11) (k := 1) (show decode mi_X11_count.2.1 49 = .ok (.getfield 19, 3) from by decide +kernel) rfl (by decide) (gm 287 (by decide +kernel) rfl) rfl) <|
  tk_c (show TrOk D (d + 1) mi_X11_count 52 (tr_getI 55 3 205) from ok_getI (ci := 2) (k := 5) (show decode mi_X11_count.2.1 52 = .ok (.getfield 242, 3) from by decide +kernel) rfl (by decide) (gm 85 (by decide +kernel) rfl) rfl) <|
  tk_c (show TrOk D (d + 1) mi_X11_count 55 (tr_iret) from ok_iret (show decode mi_X11_count.2.1 55 = .ok (.ireturn, 1) from by decide +kernel) rfl) <|
  tk_c (show TrOk D (d + 1) mi_X11_count 56 (tr_aload 57 0) from ok_aload_n (show decode mi_X11_count.2.1 56 = .ok (.aload_n 0, 1) from by decide +kernel) rfl) <|
  tk_c (show TrOk D (d + 1) mi_X11_count 57 (tr_getR 60 12 1101) from ok_getR (ci := 11) (k := 1) (show decode mi_X11_count.2.1 57 = .ok (.getfield 19, 3) from by decide +kernel) rfl (by decide) (gm 287 (by decide +kernel) rfl) rfl) <|
  tk_c (show TrOk D (d + 1) mi_X11_count 60 (tr_getI 63 3 206) from ok_getI (ci := 2) (k := 6) (show decode mi_X11_count.2.1 60 = .ok (.getfield 245, 3) from by decide +kernel) rfl (by decide) (gm 87 (by decide +kernel) rfl) rfl) <|
  tk_c (show TrOk D (d + 1) mi_X11_count 63 (tr_iret) from ok_iret (show decode mi_X11_count.2.1 63 = .ok (.ireturn, 1) from by decide +kernel) rfl) <|
  tk_c (show TrOk D (d + 1) mi_X11_count 64 (tr_aload 65 0) from ok_aload_n (show decode mi_X11_count.2.1 64 = .ok (.aload_n 0, 1) from by decide +kernel) rfl) <|
  tk_c (show TrOk D (d + 1) mi_X11_count 65 (tr_getR 68 12 1101) from ok_getR (ci := 11) (k := 1) (show decode mi_X11_count.2.1 65 = .ok (.getfield 19, 3) from by decide +kernel) rfl (by decide) (gm 287 (by decide +kernel) rfl) rfl) <|
  tk_c (show TrOk D (d + 1) mi_X11_count 68 (tr_getI 71 3 203) from ok_getI (ci := 2) (k := 3) (show decode mi_X11_count.2.1 68 = .ok (.getfield 94, 3) from by decide +kernel) rfl (by decide) (gm 81 (by decide +kernel) rfl) rfl) <|
  tk_c (show TrOk D (d + 1) mi_X11_count 71 (tr_iret) from ok_iret (show decode mi_X11_count.2.1 71 = .ok (.ireturn, 1) from by decide +kernel) rfl) <|
  tk_c (show TrOk D (d + 1) mi_X11_count 72 (tr_aload 73 0) from ok_aload_n (show decode mi_X11_count.2.1 72 = .ok (.aload_n 0, 1) from by decide +kernel) rfl) <|
  tk_c (show TrOk D (d + 1) mi_X11_count 73 (tr_getR 76 12 1101) from ok_getR (ci := 11) (k := 1) (show decode mi_X11_count.2.1 73 = .ok (.getfield 19, 3) from by decide +kernel) rfl (by decide) (gm 287 (by decide +kernel) rfl) rfl) <|
  tk_c (show TrOk D (d + 1) mi_X11_count 76 (tr_getI 79 3 204) from ok_getI (ci := 2) (k := 4) (show decode mi_X11_count.2.1 76 = .ok (.getfield 248, 3) from by decide +kernel) rfl (by decide) (gm 83 (by decide +kernel) rfl) rfl) <|
  tk_c (show TrOk D (d + 1) mi_X11_count 79 (tr_iret) from ok_iret (show decode mi_X11_count.2.1 79 = .ok (.ireturn, 1) from by decide +kernel) rfl) <|
  tk_c (show TrOk D (d + 1) mi_X11_count 80 (tr_aload 81 0) from ok_aload_n (show decode mi_X11_count.2.1 80 = .ok (.aload_n 0, 1) from by decide +kernel) rfl) <|
  tk_c (show TrOk D (d + 1) mi_X11_count 81 (tr_getR 84 12 1103) from ok_getR (ci := 11) (k := 3) (show decode mi_X11_count.2.1 81 = .ok (.getfield 32, 3) from by decide +kernel) rfl (by decide) (gm 289 (by decide +kernel) rfl) rfl) <|
  tk_c (show TrOk D (d + 1) mi_X11_count 84 (tr_getI 87 1 3) from ok_getI (ci := 0) (k := 3) (show decode mi_X11_count.2.1 84 = .ok (.getfield 250, 3) from by decide +kernel) rfl (by decide) (gm 117 (by decide +kernel) rfl) rfl) <|
  tk_c (show TrOk D (d + 1) mi_X11_count 87 (tr_iret) from ok_iret (show decode mi_X11_count.2.1 87 = .ok (.ireturn, 1) from by decide +kernel) rfl) <|
  tk_c (show TrOk D (d + 1) mi_X11_count 88 (tr_ic 89 (-1)) from ok_iconst (show decode mi_X11_count.2.1 88 = .ok (.iconst (-1), 1) from by decide +kernel) rfl) <|
  tk_c (show TrOk D (d + 1) mi_X11_count 89 (tr_iret) from ok_iret (show decode mi_X11_count.2.1 89 = .ok (.ireturn, 1) from by decide +kernel) rfl) <|
  tk_n
def tb_X11_count (C : Nat → Sp) : Tab := tb_X11_count_0 C
theorem tbk_X11_count {D : DD} {d : Nat} {C : Nat → Sp} (hC : Snd D d C) : ∀ e ∈ tb_X11_count C, TrOk D (d + 1) mi_X11_count e.1 e.2 := tbk_X11_count_0 hC
theorem a_X11_count_0 (C : Nat → Sp) : ta (tb_X11_count C) 0 = tr_iload 1 1 := rfl
theorem a_X11_count_1 (C : Nat → Sp) : ta (tb_X11_count C) 1 = tr_sw 0 [40, 48, 56, 64, 72, 80] 88 := rfl
theorem a_X11_count_40 (C : Nat → Sp) : ta (tb_X11_count C) 40 = tr_aload 41 0 := rfl
theorem a_X11_count_41 (C : Nat → Sp) : ta (tb_X11_count C) 41 = tr_getR 44 12 1100 := rfl
theorem a_X11_count_44 (C : Nat → Sp) : ta (tb_X11_count C) 44 = tr_getI 47 5 401 := rfl
theorem a_X11_count_47 (C : Nat → Sp) : ta (tb_X11_count C) 47 = tr_iret := rfl
theorem a_X11_count_48 (C : Nat → Sp) : ta (tb_X11_count C) 48 = tr_aload 49 0 := rfl
theorem a_X11_count_49 (C : Nat → Sp) : ta (tb_X11_count C) 49 = tr_getR 52 12 1101 := rfl
theorem a_X11_count_52 (C : Nat → Sp) : ta (tb_X11_count C) 52 = tr_getI 55 3 205 := rfl
theorem a_X11_count_55 (C : Nat → Sp) : ta (tb_X11_count C) 55 = tr_iret := rfl
theorem a_X11_count_56 (C : Nat → Sp) : ta (tb_X11_count C) 56 = tr_aload 57 0 := rfl
theorem a_X11_count_57 (C : Nat → Sp) : ta (tb_X11_count C) 57 = tr_getR 60 12 1101 := rfl
theorem a_X11_count_60 (C : Nat → Sp) : ta (tb_X11_count C) 60 = tr_getI 63 3 206 := rfl
theorem a_X11_count_63 (C : Nat → Sp) : ta (tb_X11_count C) 63 = tr_iret := rfl
theorem a_X11_count_64 (C : Nat → Sp) : ta (tb_X11_count C) 64 = tr_aload 65 0 := rfl
theorem a_X11_count_65 (C : Nat → Sp) : ta (tb_X11_count C) 65 = tr_getR 68 12 1101 := rfl
theorem a_X11_count_68 (C : Nat → Sp) : ta (tb_X11_count C) 68 = tr_getI 71 3 203 := rfl
theorem a_X11_count_71 (C : Nat → Sp) : ta (tb_X11_count C) 71 = tr_iret := rfl
theorem a_X11_count_72 (C : Nat → Sp) : ta (tb_X11_count C) 72 = tr_aload 73 0 := rfl
theorem a_X11_count_73 (C : Nat → Sp) : ta (tb_X11_count C) 73 = tr_getR 76 12 1101 := rfl
theorem a_X11_count_76 (C : Nat → Sp) : ta (tb_X11_count C) 76 = tr_getI 79 3 204 := rfl
theorem a_X11_count_79 (C : Nat → Sp) : ta (tb_X11_count C) 79 = tr_iret := rfl
theorem a_X11_count_80 (C : Nat → Sp) : ta (tb_X11_count C) 80 = tr_aload 81 0 := rfl
theorem a_X11_count_81 (C : Nat → Sp) : ta (tb_X11_count C) 81 = tr_getR 84 12 1103 := rfl
theorem a_X11_count_84 (C : Nat → Sp) : ta (tb_X11_count C) 84 = tr_getI 87 1 3 := rfl
theorem a_X11_count_87 (C : Nat → Sp) : ta (tb_X11_count C) 87 = tr_iret := rfl
theorem a_X11_count_88 (C : Nat → Sp) : ta (tb_X11_count C) 88 = tr_ic 89 (-1) := rfl
theorem a_X11_count_89 (C : Nat → Sp) : ta (tb_X11_count C) 89 = tr_iret := rfl

def tb_X11_isPhase_0 (C : Nat → Sp) : Tab := [(0, tr_iload 1 0), (1, tr_iflt 4 13), (4, tr_iload 5 0), (5, tr_ic 6 2), (6, tr_icgt 9 13), (9, tr_ic 10 1), (10, tr_goto 14), (13, tr_ic 14 0), (14, tr_zret)]
set_option maxRecDepth 20000 in
theorem tbk_X11_isPhase_0 {D : DD} {d : Nat} {C : Nat → Sp} (hC : Snd D d C) : ∀ e ∈ tb_X11_isPhase_0 C, TrOk D (d + 1) mi_X11_isPhase e.1 e.2 :=
  tk_c (show TrOk D (d + 1) mi_X11_isPhase 0 (tr_iload 1 0) from ok_iload_n (show decode mi_X11_isPhase.2.1 0 = .ok (.iload_n 0, 1) from by decide +kernel) rfl) <|
  tk_c (show TrOk D (d + 1) mi_X11_isPhase 1 (tr_iflt 4 13) from ok_iflt (show decode mi_X11_isPhase.2.1 1 = .ok (.ifCond .lt 12, 3) from by decide +kernel) (by decide)) <|
  tk_c (show TrOk D (d + 1) mi_X11_isPhase 4 (tr_iload 5 0) from ok_iload_n (show decode mi_X11_isPhase.2.1 4 = .ok (.iload_n 0, 1) from by decide +kernel) rfl) <|
  tk_c (show TrOk D (d + 1) mi_X11_isPhase 5 (tr_ic 6 2) from ok_iconst (show decode mi_X11_isPhase.2.1 5 = .ok (.iconst 2, 1) from by decide +kernel) rfl) <|
  tk_c (show TrOk D (d + 1) mi_X11_isPhase 6 (tr_icgt 9 13) from ok_icgt (show decode mi_X11_isPhase.2.1 6 = .ok (.if_icmp .gt 7, 3) from by decide +kernel) (by decide)) <|
  tk_c (show TrOk D (d + 1) mi_X11_isPhase 9 (tr_ic 10 1) from ok_iconst (show decode mi_X11_isPhase.2.1 9 = .ok (.iconst 1, 1) from by decide +kernel) rfl) <|
  tk_c (show TrOk D (d + 1) mi_X11_isPhase 10 (tr_goto 14) from ok_goto (show decode mi_X11_isPhase.2.1 10 = .ok (.goto 4, 3) from by decide +kernel) (by decide)) <|
  tk_c (show TrOk D (d + 1) mi_X11_isPhase 13 (tr_ic 14 0) from ok_iconst (show decode mi_X11_isPhase.2.1 13 = .ok (.iconst 0, 1) from by decide +kernel) rfl) <|
  tk_c (show TrOk D (d + 1) mi_X11_isPhase 14 (tr_zret) from ok_zret (show decode mi_X11_isPhase.2.1 14 = .ok (.ireturn, 1) from by decide +kernel) rfl) <|
  tk_n
def tb_X11_isPhase (C : Nat → Sp) : Tab := tb_X11_isPhase_0 C
theorem tbk_X11_isPhase {D : DD} {d : Nat} {C : Nat → Sp} (hC : Snd D d C) : ∀ e ∈ tb_X11_isPhase C, TrOk D (d + 1) mi_X11_isPhase e.1 e.2 := tbk_X11_isPhase_0 hC
theorem a_X11_isPhase_0 (C : Nat → Sp) : ta (tb_X11_isPhase C) 0 = tr_iload 1 0 := rfl
theorem a_X11_isPhase_1 (C : Nat → Sp) : ta (tb_X11_isPhase C) 1 = tr_iflt 4 13 := rfl
theorem a_X11_isPhase_4 (C : Nat → Sp) : ta (tb_X11_isPhase C) 4 = tr_iload 5 0 := rfl
theorem a_X11_isPhase_5 (C : Nat → Sp) : ta (tb_X11_isPhase C) 5 = tr_ic 6 2 := rfl
theorem a_X11_isPhase_6 (C : Nat → Sp) : ta (tb_X11_isPhase C) 6 = tr_icgt 9 13 := rfl
theorem a_X11_isPhase_9 (C : Nat → Sp) : ta (tb_X11_isPhase C) 9 = tr_ic 10 1 := rfl
theorem a_X11_isPhase_10 (C : Nat → Sp) : ta (tb_X11_isPhase C) 10 = tr_goto 14 := rfl
theorem a_X11_isPhase_13 (C : Nat → Sp) : ta (tb_X11_isPhase C) 13 = tr_ic 14 0 := rfl
theorem a_X11_isPhase_14 (C : Nat → Sp) : ta (tb_X11_isPhase C) 14 = tr_zret := rfl

def tb_X11_findTray_0 (C : Nat → Sp) : Tab := [(0, tr_iload 1 1), (1, tr_iflt 4 16), (4, tr_iload 5 1), (5, tr_aload 6 0), (6, tr_alen 7), (7, tr_icge 10 16), (10, tr_aload 11 0), (11, tr_iload 12 1), (12, tr_aald 13 7), (13, tr_goto 17), (16, tr_null 17), (17, tr_aret)]
set_option maxRecDepth 20000 in
theorem tbk_X11_findTray_0 {D : DD} {d : Nat} {C : Nat → Sp} (hC : Snd D d C) : ∀ e ∈ tb_X11_findTray_0 C, TrOk D (d + 1) mi_X11_findTray e.1 e.2 :=
  tk_c (show TrOk D (d + 1) mi_X11_findTray 0 (tr_iload 1 1) from ok_iload_n (show decode mi_X11_findTray.2.1 0 = .ok (.iload_n 1, 1) from by decide +kernel) rfl) <|
  tk_c (show TrOk D (d + 1) mi_X11_findTray 1 (tr_iflt 4 16) from ok_iflt (show decode mi_X11_findTray.2.1 1 = .ok (.ifCond .lt 15, 3) from by decide +kernel) (by decide)) <|
  tk_c (show TrOk D (d + 1) mi_X11_findTray 4 (tr_iload 5 1) from ok_iload_n (show decode mi_X11_findTray.2.1 4 = .ok (.iload_n 1, 1) from by decide +kernel) rfl) <|
  tk_c (show TrOk D (d + 1) mi_X11_findTray 5 (tr_aload 6 0) from ok_aload_n (show decode mi_X11_findTray.2.1 5 = .ok (.aload_n 0, 1) from by decide +kernel) rfl) <|
  tk_c (show TrOk D (d + 1) mi_X11_findTray 6 (tr_alen 7) from ok_alen (show decode mi_X11_findTray.2.1 6 = .ok (.arraylength, 1) from by decide +kernel)) <|
  tk_c (show TrOk D (d + 1) mi_X11_findTray 7 (tr_icge 10 16) from ok_icge (show decode mi_X11_findTray.2.1 7 = .ok (.if_icmp .ge 9, 3) from by decide +kernel) (by decide)) <|
  tk_c (show TrOk D (d + 1) mi_X11_findTray 10 (tr_aload 11 0) from ok_aload_n (show decode mi_X11_findTray.2.1 10 = .ok (.aload_n 0, 1) from by decide +kernel) rfl) <|
  tk_c (show TrOk D (d + 1) mi_X11_findTray 11 (tr_iload 12 1) from ok_iload_n (show decode mi_X11_findTray.2.1 11 = .ok (.iload_n 1, 1) from by decide +kernel) rfl) <|
  tk_c (show TrOk D (d + 1) mi_X11_findTray 12 (tr_aald 13 7) from ok_aald (by decide) (by decide) (show decode mi_X11_findTray.2.1 12 = .ok (.aaload, 1) from by decide +kernel)) <|
  tk_c (show TrOk D (d + 1) mi_X11_findTray 13 (tr_goto 17) from ok_goto (show decode mi_X11_findTray.2.1 13 = .ok (.goto 4, 3) from by decide +kernel) (by decide)) <|
  tk_c (show TrOk D (d + 1) mi_X11_findTray 16 (tr_null 17) from ok_null (show decode mi_X11_findTray.2.1 16 = .ok (.aconst_null, 1) from by decide +kernel)) <|
  tk_c (show TrOk D (d + 1) mi_X11_findTray 17 (tr_aret) from ok_aret (show decode mi_X11_findTray.2.1 17 = .ok (.areturn, 1) from by decide +kernel) rfl) <|
  tk_n
def tb_X11_findTray (C : Nat → Sp) : Tab := tb_X11_findTray_0 C
theorem tbk_X11_findTray {D : DD} {d : Nat} {C : Nat → Sp} (hC : Snd D d C) : ∀ e ∈ tb_X11_findTray C, TrOk D (d + 1) mi_X11_findTray e.1 e.2 := tbk_X11_findTray_0 hC
theorem a_X11_findTray_0 (C : Nat → Sp) : ta (tb_X11_findTray C) 0 = tr_iload 1 1 := rfl
theorem a_X11_findTray_1 (C : Nat → Sp) : ta (tb_X11_findTray C) 1 = tr_iflt 4 16 := rfl
theorem a_X11_findTray_4 (C : Nat → Sp) : ta (tb_X11_findTray C) 4 = tr_iload 5 1 := rfl
theorem a_X11_findTray_5 (C : Nat → Sp) : ta (tb_X11_findTray C) 5 = tr_aload 6 0 := rfl
theorem a_X11_findTray_6 (C : Nat → Sp) : ta (tb_X11_findTray C) 6 = tr_alen 7 := rfl
theorem a_X11_findTray_7 (C : Nat → Sp) : ta (tb_X11_findTray C) 7 = tr_icge 10 16 := rfl
theorem a_X11_findTray_10 (C : Nat → Sp) : ta (tb_X11_findTray C) 10 = tr_aload 11 0 := rfl
theorem a_X11_findTray_11 (C : Nat → Sp) : ta (tb_X11_findTray C) 11 = tr_iload 12 1 := rfl
theorem a_X11_findTray_12 (C : Nat → Sp) : ta (tb_X11_findTray C) 12 = tr_aald 13 7 := rfl
theorem a_X11_findTray_13 (C : Nat → Sp) : ta (tb_X11_findTray C) 13 = tr_goto 17 := rfl
theorem a_X11_findTray_16 (C : Nat → Sp) : ta (tb_X11_findTray C) 16 = tr_null 17 := rfl
theorem a_X11_findTray_17 (C : Nat → Sp) : ta (tb_X11_findTray C) 17 = tr_aret := rfl

def tb_X11_asNumber_0 (C : Nat → Sp) : Tab := [(0, tr_iload 1 0), (1, tr_ifeq 4 8), (4, tr_ic 5 1), (5, tr_goto 9), (8, tr_ic 9 0), (9, tr_iret)]
set_option maxRecDepth 20000 in
theorem tbk_X11_asNumber_0 {D : DD} {d : Nat} {C : Nat → Sp} (hC : Snd D d C) : ∀ e ∈ tb_X11_asNumber_0 C, TrOk D (d + 1) mi_X11_asNumber e.1 e.2 :=
  tk_c (show TrOk D (d + 1) mi_X11_asNumber 0 (tr_iload 1 0) from ok_iload_n (show decode mi_X11_asNumber.2.1 0 = .ok (.iload_n 0, 1) from by decide +kernel) rfl) <|
  tk_c (show TrOk D (d + 1) mi_X11_asNumber 1 (tr_ifeq 4 8) from ok_ifeq (show decode mi_X11_asNumber.2.1 1 = .ok (.ifCond .eq 7, 3) from by decide +kernel) (by decide)) <|
  tk_c (show TrOk D (d + 1) mi_X11_asNumber 4 (tr_ic 5 1) from ok_iconst (show decode mi_X11_asNumber.2.1 4 = .ok (.iconst 1, 1) from by decide +kernel) rfl) <|
  tk_c (show TrOk D (d + 1) mi_X11_asNumber 5 (tr_goto 9) from ok_goto (show decode mi_X11_asNumber.2.1 5 = .ok (.goto 4, 3) from by decide +kernel) (by decide)) <|
  tk_c (show TrOk D (d + 1) mi_X11_asNumber 8 (tr_ic 9 0) from ok_iconst (show decode mi_X11_asNumber.2.1 8 = .ok (.iconst 0, 1) from by decide +kernel) rfl) <|
  tk_c (show TrOk D (d + 1) mi_X11_asNumber 9 (tr_iret) from ok_iret (show decode mi_X11_asNumber.2.1 9 = .ok (.ireturn, 1) from by decide +kernel) rfl) <|
  tk_n
def tb_X11_asNumber (C : Nat → Sp) : Tab := tb_X11_asNumber_0 C
theorem tbk_X11_asNumber {D : DD} {d : Nat} {C : Nat → Sp} (hC : Snd D d C) : ∀ e ∈ tb_X11_asNumber C, TrOk D (d + 1) mi_X11_asNumber e.1 e.2 := tbk_X11_asNumber_0 hC
theorem a_X11_asNumber_0 (C : Nat → Sp) : ta (tb_X11_asNumber C) 0 = tr_iload 1 0 := rfl
theorem a_X11_asNumber_1 (C : Nat → Sp) : ta (tb_X11_asNumber C) 1 = tr_ifeq 4 8 := rfl
theorem a_X11_asNumber_4 (C : Nat → Sp) : ta (tb_X11_asNumber C) 4 = tr_ic 5 1 := rfl
theorem a_X11_asNumber_5 (C : Nat → Sp) : ta (tb_X11_asNumber C) 5 = tr_goto 9 := rfl
theorem a_X11_asNumber_8 (C : Nat → Sp) : ta (tb_X11_asNumber C) 8 = tr_ic 9 0 := rfl
theorem a_X11_asNumber_9 (C : Nat → Sp) : ta (tb_X11_asNumber C) 9 = tr_iret := rfl
