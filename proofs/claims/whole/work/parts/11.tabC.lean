def tb_X12_init_0 (C : Nat → Sp) : Tab := [(0, tr_aload 1 0), (1, tr_obj 4), (4, tr_aload 5 0), (5, tr_ic 7 40), (7, tr_newa 9 1095007 40 40), (9, tr_putR 12 13 1201), (12, tr_aload 13 0), (13, tr_ic 15 40), (15, tr_newa 17 2095015 40 40), (17, tr_putR 20 13 1202), (20, tr_aload 21 0), (21, tr_ic 23 30), (23, tr_newa 25 3095023 30 30), (25, tr_putR 28 13 1204), (28, tr_aload 29 0), (29, tr_ic 32 200), (32, tr_newa 34 1095032 200 200), (34, tr_putR 37 13 1206), (37, tr_aload 38 0), (38, tr_ic 41 200), (41, tr_newa 43 1095041 200 200), (43, tr_putR 46 13 1207), (46, tr_aload 47 0), (47, tr_ic 50 200), (50, tr_newa 52 1095050 200 200), (52, tr_putR 55 13 1208), (55, tr_aload 56 0), (56, tr_ic 59 200), (59, tr_newa 61 1095059 200 200), (61, tr_putR 64 13 1209), (64, tr_aload 65 0), (65, tr_ic 68 200), (68, tr_newa 70 2095068 200 200), (70, tr_putR 73 13 1210), (73, tr_aload 74 0), (74, tr_ic 77 200), (77, tr_newa 79 2095077 200 200), (79, tr_putR 82 13 1211), (82, tr_aload 83 0), (83, tr_ic 86 200)]
set_option maxRecDepth 20000 in
theorem tbk_X12_init_0 {D : DD} {d : Nat} {C : Nat → Sp} (hC : Snd D d C) : ∀ e ∈ tb_X12_init_0 C, TrOk D (d + 1) mi_X12_init e.1 e.2 :=
  tk_c (show TrOk D (d + 1) mi_X12_init 0 (tr_aload 1 0) from ok_aload_n (show decode mi_X12_init.2.1 0 = .ok (.aload_n 0, 1) from by decide +kernel) rfl) <|
  tk_c (show TrOk D (d + 1) mi_X12_init 1 (tr_obj 4) from ok_obj (show decode mi_X12_init.2.1 1 = .ok (.invokespecial 1, 3) from by decide +kernel) (gm 780 (by decide +kernel) rfl) (gm 50 (by decide +kernel) rfl) (gm 51 rfl rfl)) <|
  tk_c (show TrOk D (d + 1) mi_X12_init 4 (tr_aload 5 0) from ok_aload_n (show decode mi_X12_init.2.1 4 = .ok (.aload_n 0, 1) from by decide +kernel) rfl) <|
  tk_c (show TrOk D (d + 1) mi_X12_init 5 (tr_ic 7 40) from ok_bipush (show decode mi_X12_init.2.1 5 = .ok (.bipush 40, 2) from by decide +kernel) rfl) <|
  tk_c (show TrOk D (d + 1) mi_X12_init 7 (tr_newa 9 1095007 40 40) from ok_newa (t := 1) (show decode mi_X12_init.2.1 7 = .ok (.newarray .int, 2) from by decide +kernel) rfl (by decide) (gm 187 (by decide +kernel) rfl) (by decide) (by decide) (by decide) (by decide)) <|
  tk_c (show TrOk D (d + 1) mi_X12_init 9 (tr_putR 12 13 1201) from ok_putR (ci := 12) (k := 1) (show decode mi_X12_init.2.1 9 = .ok (.putfield 7, 3) from by decide +kernel) rfl (by decide) (gm 782 (by decide +kernel) rfl) rfl (Or.inr ⟨rfl, rfl, rfl⟩)) <|
  tk_c (show TrOk D (d + 1) mi_X12_init 12 (tr_aload 13 0) from ok_aload_n (show decode mi_X12_init.2.1 12 = .ok (.aload_n 0, 1) from by decide +kernel) rfl) <|
  tk_c (show TrOk D (d + 1) mi_X12_init 13 (tr_ic 15 40) from ok_bipush (show decode mi_X12_init.2.1 13 = .ok (.bipush 40, 2) from by decide +kernel) rfl) <|
  tk_c (show TrOk D (d + 1) mi_X12_init 15 (tr_newa 17 2095015 40 40) from ok_newa (t := 2) (show decode mi_X12_init.2.1 15 = .ok (.newarray .long, 2) from by decide +kernel) rfl (by decide) (gm 127 (by decide +kernel) rfl) (by decide) (by decide) (by decide) (by decide)) <|
  tk_c (show TrOk D (d + 1) mi_X12_init 17 (tr_putR 20 13 1202) from ok_putR (ci := 12) (k := 2) (show decode mi_X12_init.2.1 17 = .ok (.putfield 13, 3) from by decide +kernel) rfl (by decide) (gm 783 (by decide +kernel) rfl) rfl (Or.inr ⟨rfl, rfl, rfl⟩)) <|
  tk_c (show TrOk D (d + 1) mi_X12_init 20 (tr_aload 21 0) from ok_aload_n (show decode mi_X12_init.2.1 20 = .ok (.aload_n 0, 1) from by decide +kernel) rfl) <|
  tk_c (show TrOk D (d + 1) mi_X12_init 21 (tr_ic 23 30) from ok_bipush (show decode mi_X12_init.2.1 21 = .ok (.bipush 30, 2) from by decide +kernel) rfl) <|
  tk_c (show TrOk D (d + 1) mi_X12_init 23 (tr_newa 25 3095023 30 30) from ok_newa (t := 3) (show decode mi_X12_init.2.1 23 = .ok (.newarray .boolean, 2) from by decide +kernel) rfl (by decide) (gm 103 (by decide +kernel) rfl) (by decide) (by decide) (by decide) (by decide)) <|
  tk_c (show TrOk D (d + 1) mi_X12_init 25 (tr_putR 28 13 1204) from ok_putR (ci := 12) (k := 4) (show decode mi_X12_init.2.1 25 = .ok (.putfield 17, 3) from by decide +kernel) rfl (by decide) (gm 785 (by decide +kernel) rfl) rfl (Or.inr ⟨rfl, rfl, rfl⟩)) <|
  tk_c (show TrOk D (d + 1) mi_X12_init 28 (tr_aload 29 0) from ok_aload_n (show decode mi_X12_init.2.1 28 = .ok (.aload_n 0, 1) from by decide +kernel) rfl) <|
  tk_c (show TrOk D (d + 1) mi_X12_init 29 (tr_ic 32 200) from ok_sipush (show decode mi_X12_init.2.1 29 = .ok (.sipush 200, 3) from by decide +kernel) rfl) <|
  tk_c (show TrOk D (d + 1) mi_X12_init 32 (tr_newa 34 1095032 200 200) from ok_newa (t := 1) (show decode mi_X12_init.2.1 32 = .ok (.newarray .int, 2) from by decide +kernel) rfl (by decide) (gm 187 (by decide +kernel) rfl) (by decide) (by decide) (by decide) (by decide)) <|
  tk_c (show TrOk D (d + 1) mi_X12_init 34 (tr_putR 37 13 1206) from ok_putR (ci := 12) (k := 6) (show decode mi_X12_init.2.1 34 = .ok (.putfield 21, 3) from by decide +kernel) rfl (by decide) (gm 787 (by decide +kernel) rfl) rfl (Or.inr ⟨rfl, rfl, rfl⟩)) <|
  tk_c (show TrOk D (d + 1) mi_X12_init 37 (tr_aload 38 0) from ok_aload_n (show decode mi_X12_init.2.1 37 = .ok (.aload_n 0, 1) from by decide +kernel) rfl) <|
  tk_c (show TrOk D (d + 1) mi_X12_init 38 (tr_ic 41 200) from ok_sipush (show decode mi_X12_init.2.1 38 = .ok (.sipush 200, 3) from by decide +kernel) rfl) <|
  tk_c (show TrOk D (d + 1) mi_X12_init 41 (tr_newa 43 1095041 200 200) from ok_newa (t := 1) (show decode mi_X12_init.2.1 41 = .ok (.newarray .int, 2) from by decide +kernel) rfl (by decide) (gm 187 (by decide +kernel) rfl) (by decide) (by decide) (by decide) (by decide)) <|
  tk_c (show TrOk D (d + 1) mi_X12_init 43 (tr_putR 46 13 1207) from ok_putR (ci := 12) (k := 7) (show decode mi_X12_init.2.1 43 = .ok (.putfield 24, 3) from by decide +kernel) rfl (by decide) (gm 788 (by decide +kernel) rfl) rfl (Or.inr ⟨rfl, rfl, rfl⟩)) <|
  tk_c (show TrOk D (d + 1) mi_X12_init 46 (tr_aload 47 0) from ok_aload_n (show decode mi_X12_init.2.1 46 = .ok (.aload_n 0, 1) from by decide +kernel) rfl) <|
  tk_c (show TrOk D (d + 1) mi_X12_init 47 (tr_ic 50 200) from ok_sipush (show decode mi_X12_init.2.1 47 = .ok (.sipush 200, 3) from by decide +kernel) rfl) <|
  tk_c (show TrOk D (d + 1) mi_X12_init 50 (tr_newa 52 1095050 200 200) from ok_newa (t := 1) (show decode mi_X12_init.2.1 50 = .ok (.newarray .int, 2) from by decide +kernel) rfl (by decide) (gm 187 (by decide +kernel) rfl) (by decide) (by decide) (by decide) (by decide)) <|
  tk_c (show TrOk D (d + 1) mi_X12_init 52 (tr_putR 55 13 1208) from ok_putR (ci := 12) (k := 8) (show decode mi_X12_init.2.1 52 = .ok (.putfield 27, 3) from by decide +kernel) rfl (by decide) (gm 789 (by decide +kernel) rfl) rfl (Or.inr ⟨rfl, rfl, rfl⟩)) <|
  tk_c (show TrOk D (d + 1) mi_X12_init 55 (tr_aload 56 0) from ok_aload_n (show decode mi_X12_init.2.1 55 = .ok (.aload_n 0, 1) from by decide +kernel) rfl) <|
  tk_c (show TrOk D (d + 1) mi_X12_init 56 (tr_ic 59 200) from ok_sipush (show decode mi_X12_init.2.1 56 = .ok (.sipush 200, 3) from by decide +kernel) rfl) <|
  tk_c (show TrOk D (d + 1) mi_X12_init 59 (tr_newa 61 1095059 200 200) from ok_newa (t := 1) (show decode mi_X12_init.2.1 59 = .ok (.newarray .int, 2) from by decide +kernel) rfl (by decide) (gm 187 (by decide +kernel) rfl) (by decide) (by decide) (by decide) (by decide)) <|
  tk_c (show TrOk D (d + 1) mi_X12_init 61 (tr_putR 64 13 1209) from ok_putR (ci := 12) (k := 9) (show decode mi_X12_init.2.1 61 = .ok (.putfield 30, 3) from by decide +kernel) rfl (by decide) (gm 790 (by decide +kernel) rfl) rfl (Or.inr ⟨rfl, rfl, rfl⟩)) <|
  tk_c (show TrOk D (d + 1) mi_X12_init 64 (tr_aload 65 0) from ok_aload_n (show decode mi_X12_init.2.1 64 = .ok (.aload_n 0, 1) from by decide +kernel) rfl) <|
  tk_c (show TrOk D (d + 1) mi_X12_init 65 (tr_ic 68 200) from ok_sipush (show decode mi_X12_init.2.1 65 = .ok (.sipush 200, 3) from by decide +kernel) rfl) <|
  tk_c (show TrOk D (d + 1) mi_X12_init 68 (tr_newa 70 2095068 200 200) from ok_newa (t := 2) (show decode mi_X12_init.2.1 68 = .ok (.newarray .long, 2) from by decide +kernel) rfl (by decide) (gm 127 (by decide +kernel) rfl) (by decide) (by decide) (by decide) (by decide)) <|
  tk_c (show TrOk D (d + 1) mi_X12_init 70 (tr_putR 73 13 1210) from ok_putR (ci := 12) (k := 10) (show decode mi_X12_init.2.1 70 = .ok (.putfield 33, 3) from by decide +kernel) rfl (by decide) (gm 791 (by decide +kernel) rfl) rfl (Or.inr ⟨rfl, rfl, rfl⟩)) <|
  tk_c (show TrOk D (d + 1) mi_X12_init 73 (tr_aload 74 0) from ok_aload_n (show decode mi_X12_init.2.1 73 = .ok (.aload_n 0, 1) from by decide +kernel) rfl) <|
  tk_c (show TrOk D (d + 1) mi_X12_init 74 (tr_ic 77 200) from ok_sipush (show decode mi_X12_init.2.1 74 = .ok (.sipush 200, 3) from by decide +kernel) rfl) <|
  tk_c (show TrOk D (d + 1) mi_X12_init 77 (tr_newa 79 2095077 200 200) from ok_newa (t := 2) (show decode mi_X12_init.2.1 77 = .ok (.newarray .long, 2) from by decide +kernel) rfl (by decide) (gm 127 (by decide +kernel) rfl) (by decide) (by decide) (by decide) (by decide)) <|
  tk_c (show TrOk D (d + 1) mi_X12_init 79 (tr_putR 82 13 1211) from ok_putR (ci := 12) (k := 11) (show decode mi_X12_init.2.1 79 = .ok (.putfield 36, 3) from by decide +kernel) rfl (by decide) (gm 792 (by decide +kernel) rfl) rfl (Or.inr ⟨rfl, rfl, rfl⟩)) <|
  tk_c (show TrOk D (d + 1) mi_X12_init 82 (tr_aload 83 0) from ok_aload_n (show decode mi_X12_init.2.1 82 = .ok (.aload_n 0, 1) from by decide +kernel) rfl) <|
  tk_c (show TrOk D (d + 1) mi_X12_init 83 (tr_ic 86 200) from ok_sipush (show decode mi_X12_init.2.1 83 = .ok (.sipush 200, 3) from by decide +kernel) rfl) <|
  tk_n
def tb_X12_init_1 (C : Nat → Sp) : Tab := [(86, tr_newa 88 3095086 200 200), (88, tr_putR 91 13 1212), (91, tr_aload 92 0), (92, tr_ic 95 200), (95, tr_newa 97 3095095 200 200), (97, tr_putR 100 13 1213), (100, tr_aload 101 0), (101, tr_ic 104 200), (104, tr_newa 106 1095104 200 200), (106, tr_putR 109 13 1214), (109, tr_aload 110 0), (110, tr_ic 113 2000), (113, tr_newa 115 1095113 2000 2000), (115, tr_putR 118 13 1215), (118, tr_aload 119 0), (119, tr_ic 122 2000), (122, tr_newa 124 1095122 2000 2000), (124, tr_putR 127 13 1216), (127, tr_aload 128 0), (128, tr_ic 131 200), (131, tr_newa 133 1095131 200 200), (133, tr_putR 136 13 1217), (136, tr_aload 137 0), (137, tr_ic 140 200), (140, tr_newa 142 1095140 200 200), (142, tr_putR 145 13 1218), (145, tr_aload 146 0), (146, tr_ic 148 8), (148, tr_newa 150 1095148 8 8), (150, tr_dup 151), (151, tr_ic 152 0), (152, tr_ic 154 (-4)), (154, tr_iast 155), (155, tr_dup 156), (156, tr_ic 157 1), (157, tr_ic 159 (-4)), (159, tr_iast 160), (160, tr_dup 161), (161, tr_ic 162 2), (162, tr_ic 164 (-4))]
set_option maxRecDepth 20000 in
theorem tbk_X12_init_1 {D : DD} {d : Nat} {C : Nat → Sp} (hC : Snd D d C) : ∀ e ∈ tb_X12_init_1 C, TrOk D (d + 1) mi_X12_init e.1 e.2 :=
  tk_c (show TrOk D (d + 1) mi_X12_init 86 (tr_newa 88 3095086 200 200) from ok_newa (t := 3) (show decode mi_X12_init.2.1 86 = .ok (.newarray .boolean, 2) from by decide +kernel) rfl (by decide) (gm 103 (by decide +kernel) rfl) (by decide) (by decide) (by decide) (by decide)) <|
  tk_c (show TrOk D (d + 1) mi_X12_init 88 (tr_putR 91 13 1212) from ok_putR (ci := 12) (k := 12) (show decode mi_X12_init.2.1 88 = .ok (.putfield 39, 3) from by decide +kernel) rfl (by decide) (gm 793 (by decide +kernel) rfl) rfl (Or.inr ⟨rfl, rfl, rfl⟩)) <|
  tk_c (show TrOk D (d + 1) mi_X12_init 91 (tr_aload 92 0) from ok_aload_n (show decode mi_X12_init.2.1 91 = .ok (.aload_n 0, 1) from by decide +kernel) rfl) <|
  tk_c (show TrOk D (d + 1) mi_X12_init 92 (tr_ic 95 200) from ok_sipush (show decode mi_X12_init.2.1 92 = .ok (.sipush 200, 3) from by decide +kernel) rfl) <|
  tk_c (show TrOk D (d + 1) mi_X12_init 95 (tr_newa 97 3095095 200 200) from ok_newa (t := 3) (show decode mi_X12_init.2.1 95 = .ok (.newarray .boolean, 2) from by decide +kernel) rfl (by decide) (gm 103 (by decide +kernel) rfl) (by decide) (by decide) (by decide) (by decide)) <|
  tk_c (show TrOk D (d + 1) mi_X12_init 97 (tr_putR 100 13 1213) from ok_putR (ci := 12) (k := 13) (show decode mi_X12_init.2.1 97 = .ok (.putfield 42, 3) from by decide +kernel) rfl (by decide) (gm 794 (by decide +kernel) rfl) rfl (Or.inr ⟨rfl, rfl, rfl⟩)) <|
  tk_c (show TrOk D (d + 1) mi_X12_init 100 (tr_aload 101 0) from ok_aload_n (show decode mi_X12_init.2.1 100 = .ok (.aload_n 0, 1) from by decide +kernel) rfl) <|
  tk_c (show TrOk D (d + 1) mi_X12_init 101 (tr_ic 104 200) from ok_sipush (show decode mi_X12_init.2.1 101 = .ok (.sipush 200, 3) from by decide +kernel) rfl) <|
  tk_c (show TrOk D (d + 1) mi_X12_init 104 (tr_newa 106 1095104 200 200) from ok_newa (t := 1) (show decode mi_X12_init.2.1 104 = .ok (.newarray .int, 2) from by decide +kernel) rfl (by decide) (gm 187 (by decide +kernel) rfl) (by decide) (by decide) (by decide) (by decide)) <|
  tk_c (show TrOk D (d + 1) mi_X12_init 106 (tr_putR 109 13 1214) from ok_putR (ci := 12) (k := 14) (show decode mi_X12_init.2.1 106 = .ok (.putfield 45, 3) from by decide +kernel) rfl (by decide) (gm 795 (by decide +kernel) rfl) rfl (Or.inr ⟨rfl, rfl, rfl⟩)) <|
  tk_c (show TrOk D (d + 1) mi_X12_init 109 (tr_aload 110 0) from ok_aload_n (show decode mi_X12_init.2.1 109 = .ok (.aload_n 0, 1) from by decide +kernel) rfl) <|
  tk_c (show TrOk D (d + 1) mi_X12_init 110 (tr_ic 113 2000) from ok_sipush (show decode mi_X12_init.2.1 110 = .ok (.sipush 2000, 3) from by decide +kernel) rfl) <|
  tk_c (show TrOk D (d + 1) mi_X12_init 113 (tr_newa 115 1095113 2000 2000) from ok_newa (t := 1) (show decode mi_X12_init.2.1 113 = .ok (.newarray .int, 2) from by decide +kernel) rfl (by decide) (gm 187 (by decide +kernel) rfl) (by decide) (by decide) (by decide) (by decide)) <|
  tk_c (show TrOk D (d + 1) mi_X12_init 115 (tr_putR 118 13 1215) from ok_putR (ci := 12) (k := 15) (show decode mi_X12_init.2.1 115 = .ok (.putfield 48, 3) from by decide +kernel) rfl (by decide) (gm 796 (by decide +kernel) rfl) rfl (Or.inr ⟨rfl, rfl, rfl⟩)) <|
  tk_c (show TrOk D (d + 1) mi_X12_init 118 (tr_aload 119 0) from ok_aload_n (show decode mi_X12_init.2.1 118 = .ok (.aload_n 0, 1) from by decide +kernel) rfl) <|
  tk_c (show TrOk D (d + 1) mi_X12_init 119 (tr_ic 122 2000) from ok_sipush (show decode mi_X12_init.2.1 119 = .ok (.sipush 2000, 3) from by decide +kernel) rfl) <|
  tk_c (show TrOk D (d + 1) mi_X12_init 122 (tr_newa 124 1095122 2000 2000) from ok_newa (t := 1) (show decode mi_X12_init.2.1 122 = .ok (.newarray .int, 2) from by decide +kernel) rfl (by decide) (gm 187 (by decide +kernel) rfl) (by decide) (by decide) (by decide) (by decide)) <|
  tk_c (show TrOk D (d + 1) mi_X12_init 124 (tr_putR 127 13 1216) from ok_putR (ci := 12) (k := 16) (show decode mi_X12_init.2.1 124 = .ok (.putfield 51, 3) from by decide +kernel) rfl (by decide) (gm 797 (by decide +kernel) rfl) rfl (Or.inr ⟨rfl, rfl, rfl⟩)) <|
  tk_c (show TrOk D (d + 1) mi_X12_init 127 (tr_aload 128 0) from ok_aload_n (show decode mi_X12_init.2.1 127 = .ok (.aload_n 0, 1) from by decide +kernel) rfl) <|
  tk_c (show TrOk D (d + 1) mi_X12_init 128 (tr_ic 131 200) from ok_sipush (show decode mi_X12_init.2.1 128 = .ok (.sipush 200, 3) from by decide +kernel) rfl) <|
  tk_c (show TrOk D (d + 1) mi_X12_init 131 (tr_newa 133 1095131 200 200) from ok_newa (t := 1) (show decode mi_X12_init.2.1 131 = .ok (.newarray .int, 2) from by decide +kernel) rfl (by decide) (gm 187 (by decide +kernel) rfl) (by decide) (by decide) (by decide) (by decide)) <|
  tk_c (show TrOk D (d + 1) mi_X12_init 133 (tr_putR 136 13 1217) from ok_putR (ci := 12) (k := 17) (show decode mi_X12_init.2.1 133 = .ok (.putfield 54, 3) from by decide +kernel) rfl (by decide) (gm 798 (by decide +kernel) rfl) rfl (Or.inr ⟨rfl, rfl, rfl⟩)) <|
  tk_c (show TrOk D (d + 1) mi_X12_init 136 (tr_aload 137 0) from ok_aload_n (show decode mi_X12_init.2.1 136 = .ok (.aload_n 0, 1) from by decide +kernel) rfl) <|
  tk_c (show TrOk D (d + 1) mi_X12_init 137 (tr_ic 140 200) from ok_sipush (show decode mi_X12_init.2.1 137 = .ok (.sipush 200, 3) from by decide +kernel) rfl) <|
  tk_c (show TrOk D (d + 1) mi_X12_init 140 (tr_newa 142 1095140 200 200) from ok_newa (t := 1) (show decode mi_X12_init.2.1 140 = .ok (.newarray .int, 2) from by decide +kernel) rfl (by decide) (gm 187 (by decide +kernel) rfl) (by decide) (by decide) (by decide) (by decide)) <|
  tk_c (show TrOk D (d + 1) mi_X12_init 142 (tr_putR 145 13 1218) from ok_putR (ci := 12) (k := 18) (show decode mi_X12_init.2.1 142 = .ok (.putfield 57, 3) from by decide +kernel) rfl (by decide) (gm 799 (by decide +kernel) rfl) rfl (Or.inr ⟨rfl, rfl, rfl⟩)) <|
  tk_c (show TrOk D (d + 1) mi_X12_init 145 (tr_aload 146 0) from ok_aload_n (show decode mi_X12_init.2.1 145 = .ok (.aload_n 0, 1) from by decide +kernel) rfl) <|
  tk_c (show TrOk D (d + 1) mi_X12_init 146 (tr_ic 148 8) from ok_bipush (show decode mi_X12_init.2.1 146 = .ok (.bipush 8, 2) from by decide +kernel) rfl) <|
  tk_c (show TrOk D (d + 1) mi_X12_init 148 (tr_newa 150 1095148 8 8) from ok_newa (t := 1) (show decode mi_X12_init.2.1 148 = .ok (.newarray .int, 2) from by decide +kernel) rfl (by decide) (gm 187 (by decide +kernel) rfl) (by decide) (by decide) (by decide) (by decide)) <|
  tk_c (show TrOk D (d + 1) mi_X12_init 150 (tr_dup 151) from ok_dup (show decode mi_X12_init.2.1 150 = .ok (.dup, 1) from by decide +kernel)) <|
  tk_c (show TrOk D (d + 1) mi_X12_init 151 (tr_ic 152 0) from ok_iconst (show decode mi_X12_init.2.1 151 = .ok (.iconst 0, 1) from by decide +kernel) rfl) <|
  tk_c (show TrOk D (d + 1) mi_X12_init 152 (tr_ic 154 (-4)) from ok_bipush (show decode mi_X12_init.2.1 152 = .ok (.bipush (-4), 2) from by decide +kernel) rfl) <|
  tk_c (show TrOk D (d + 1) mi_X12_init 154 (tr_iast 155) from ok_iast (show decode mi_X12_init.2.1 154 = .ok (.iastore, 1) from by decide +kernel)) <|
  tk_c (show TrOk D (d + 1) mi_X12_init 155 (tr_dup 156) from ok_dup (show decode mi_X12_init.2.1 155 = .ok (.dup, 1) from by decide +kernel)) <|
  tk_c (show TrOk D (d + 1) mi_X12_init 156 (tr_ic 157 1) from ok_iconst (show decode mi_X12_init.2.1 156 = .ok (.iconst 1, 1) from by decide +kernel) rfl) <|
  tk_c (show TrOk D (d + 1) mi_X12_init 157 (tr_ic 159 (-4)) from ok_bipush (show decode mi_X12_init.2.1 157 = .ok (.bipush (-4), 2) from by decide +kernel) rfl) <|
  tk_c (show TrOk D (d + 1) mi_X12_init 159 (tr_iast 160) from ok_iast (show decode mi_X12_init.2.1 159 = .ok (.iastore, 1) from by decide +kernel)) <|
  tk_c (show TrOk D (d + 1) mi_X12_init 160 (tr_dup 161) from ok_dup (show decode mi_X12_init.2.1 160 = .ok (.dup, 1) from by decide +kernel)) <|
  tk_c (show TrOk D (d + 1) mi_X12_init 161 (tr_ic 162 2) from ok_iconst (show decode mi_X12_init.2.1 161 = .ok (.iconst 2, 1) from by decide +kernel) rfl) <|
  tk_c (show TrOk D (d + 1) mi_X12_init 162 (tr_ic 164 (-4)) from ok_bipush (show decode mi_X12_init.2.1 162 = .ok (.bipush (-4), 2) from by decide +kernel) rfl) <|
  tk_n
def tb_X12_init_2 (C : Nat → Sp) : Tab := [(164, tr_iast 165), (165, tr_dup 166), (166, tr_ic 167 3), (167, tr_ic 169 (-4)), (169, tr_iast 170), (170, tr_dup 171), (171, tr_ic 172 4), (172, tr_ic 174 (-4)), (174, tr_iast 175), (175, tr_dup 176), (176, tr_ic 177 5), (177, tr_ic 179 (-4)), (179, tr_iast 180), (180, tr_dup 181), (181, tr_ic 183 6), (183, tr_ic 185 (-4)), (185, tr_iast 186), (186, tr_dup 187), (187, tr_ic 189 7), (189, tr_ic 191 (-4)), (191, tr_iast 192), (192, tr_putR 195 13 1219), (195, tr_aload 196 0), (196, tr_ic 198 8), (198, tr_newa 200 1095198 8 8), (200, tr_putR 203 13 1220), (203, tr_aload 204 0), (204, tr_ic 207 128), (207, tr_newa 209 2095207 128 128), (209, tr_putR 212 13 1221), (212, tr_aload 213 0), (213, tr_ic 216 2400), (216, tr_newa 218 1095216 2400 2400), (218, tr_putR 221 13 1222), (221, tr_aload 222 0), (222, tr_ic 225 200), (225, tr_newa 227 1095225 200 200), (227, tr_putR 230 13 1223), (230, tr_aload 231 0), (231, tr_ic 233 12)]
set_option maxRecDepth 20000 in
theorem tbk_X12_init_2 {D : DD} {d : Nat} {C : Nat → Sp} (hC : Snd D d C) : ∀ e ∈ tb_X12_init_2 C, TrOk D (d + 1) mi_X12_init e.1 e.2 :=
  tk_c (show TrOk D (d + 1) mi_X12_init 164 (tr_iast 165) from ok_iast (show decode mi_X12_init.2.1 164 = .ok (.iastore, 1) from by decide +kernel)) <|
  tk_c (show TrOk D (d + 1) mi_X12_init 165 (tr_dup 166) from ok_dup (show decode mi_X12_init.2.1 165 = .ok (.dup, 1) from by decide +kernel)) <|
  tk_c (show TrOk D (d + 1) mi_X12_init 166 (tr_ic 167 3) from ok_iconst (show decode mi_X12_init.2.1 166 = .ok (.iconst 3, 1) from by decide +kernel) rfl) <|
  tk_c (show TrOk D (d + 1) mi_X12_init 167 (tr_ic 169 (-4)) from ok_bipush (show decode mi_X12_init.2.1 167 = .ok (.bipush (-4), 2) from by decide +kernel) rfl) <|
  tk_c (show TrOk D (d + 1) mi_X12_init 169 (tr_iast 170) from ok_iast (show decode mi_X12_init.2.1 169 = .ok (.iastore, 1) from by decide +kernel)) <|
  tk_c (show TrOk D (d + 1) mi_X12_init 170 (tr_dup 171) from ok_dup (show decode mi_X12_init.2.1 170 = .ok (.dup, 1) from by decide +kernel)) <|
  tk_c (show TrOk D (d + 1) mi_X12_init 171 (tr_ic 172 4) from ok_iconst (show decode mi_X12_init.2.1 171 = .ok (.iconst 4, 1) from by decide +kernel) rfl) <|
  tk_c (show TrOk D (d + 1) mi_X12_init 172 (tr_ic 174 (-4)) from ok_bipush (show decode mi_X12_init.2.1 172 = .ok (.bipush (-4), 2) from by decide +kernel) rfl) <|
  tk_c (show TrOk D (d + 1) mi_X12_init 174 (tr_iast 175) from ok_iast (show decode mi_X12_init.2.1 174 = .ok (.iastore, 1) from by decide +kernel)) <|
  tk_c (show TrOk D (d + 1) mi_X12_init 175 (tr_dup 176) from ok_dup (show decode mi_X12_init.2.1 175 = .ok (.dup, 1) from by decide +kernel)) <|
  tk_c (show TrOk D (d + 1) mi_X12_init 176 (tr_ic 177 5) from ok_iconst (show decode mi_X12_init.2.1 176 = .ok (.iconst 5, 1) from by decide +kernel) rfl) <|
  tk_c (show TrOk D (d + 1) mi_X12_init 177 (tr_ic 179 (-4)) from ok_bipush (show decode mi_X12_init.2.1 177 = .ok (.bipush (-4), 2) from by decide +kernel) rfl) <|
  tk_c (show TrOk D (d + 1) mi_X12_init 179 (tr_iast 180) from ok_iast (show decode mi_X12_init.2.1 179 = .ok (.iastore, 1) from by decide +kernel)) <|
  tk_c (show TrOk D (d + 1) mi_X12_init 180 (tr_dup 181) from ok_dup (show decode mi_X12_init.2.1 180 = .ok (.dup, 1) from by decide +kernel)) <|
  tk_c (show TrOk D (d + 1) mi_X12_init 181 (tr_ic 183 6) from ok_bipush (show decode mi_X12_init.2.1 181 = .ok (.bipush 6, 2) from by decide +kernel) rfl) <|
  tk_c (show TrOk D (d + 1) mi_X12_init 183 (tr_ic 185 (-4)) from ok_bipush (show decode mi_X12_init.2.1 183 = .ok (.bipush (-4), 2) from by decide +kernel) rfl) <|
  tk_c (show TrOk D (d + 1) mi_X12_init 185 (tr_iast 186) from ok_iast (show decode mi_X12_init.2.1 185 = .ok (.iastore, 1) from by decide +kernel)) <|
  tk_c (show TrOk D (d + 1) mi_X12_init 186 (tr_dup 187) from ok_dup (show decode mi_X12_init.2.1 186 = .ok (.dup, 1) from by decide +kernel)) <|
  tk_c (show TrOk D (d + 1) mi_X12_init 187 (tr_ic 189 7) from ok_bipush (show decode mi_X12_init.2.1 187 = .ok (.bipush 7, 2) from by decide +kernel) rfl) <|
  tk_c (show TrOk D (d + 1) mi_X12_init 189 (tr_ic 191 (-4)) from ok_bipush (show decode mi_X12_init.2.1 189 = .ok (.bipush (-4), 2) from by decide +kernel) rfl) <|
  tk_c (show TrOk D (d + 1) mi_X12_init 191 (tr_iast 192) from ok_iast (show decode mi_X12_init.2.1 191 = .ok (.iastore, 1) from by decide +kernel)) <|
  tk_c (show TrOk D (d + 1) mi_X12_init 192 (tr_putR 195 13 1219) from ok_putR (ci := 12) (k := 19) (show decode mi_X12_init.2.1 192 = .ok (.putfield 60, 3) from by decide +kernel) rfl (by decide) (gm 800 (by decide +kernel) rfl) rfl (Or.inr ⟨rfl, rfl, rfl⟩)) <|
  tk_c (show TrOk D (d + 1) mi_X12_init 195 (tr_aload 196 0) from ok_aload_n (show decode mi_X12_init.2.1 195 = .ok (.aload_n 0, 1) from by decide +kernel) rfl) <|
  tk_c (show TrOk D (d + 1) mi_X12_init 196 (tr_ic 198 8) from ok_bipush (show decode mi_X12_init.2.1 196 = .ok (.bipush 8, 2) from by decide +kernel) rfl) <|
  tk_c (show TrOk D (d + 1) mi_X12_init 198 (tr_newa 200 1095198 8 8) from ok_newa (t := 1) (show decode mi_X12_init.2.1 198 = .ok (.newarray .int, 2) from by decide +kernel) rfl (by decide) (gm 187 (by decide +kernel) rfl) (by decide) (by decide) (by decide) (by decide)) <|
  tk_c (show TrOk D (d + 1) mi_X12_init 200 (tr_putR 203 13 1220) from ok_putR (ci := 12) (k := 20) (show decode mi_X12_init.2.1 200 = .ok (.putfield 63, 3) from by decide +kernel) rfl (by decide) (gm 801 (by decide +kernel) rfl) rfl (Or.inr ⟨rfl, rfl, rfl⟩)) <|
  tk_c (show TrOk D (d + 1) mi_X12_init 203 (tr_aload 204 0) from ok_aload_n (show decode mi_X12_init.2.1 203 = .ok (.aload_n 0, 1) from by decide +kernel) rfl) <|
  tk_c (show TrOk D (d + 1) mi_X12_init 204 (tr_ic 207 128) from ok_sipush (show decode mi_X12_init.2.1 204 = .ok (.sipush 128, 3) from by decide +kernel) rfl) <|
  tk_c (show TrOk D (d + 1) mi_X12_init 207 (tr_newa 209 2095207 128 128) from ok_newa (t := 2) (show decode mi_X12_init.2.1 207 = .ok (.newarray .long, 2) from by decide +kernel) rfl (by decide) (gm 127 (by decide +kernel) rfl) (by decide) (by decide) (by decide) (by decide)) <|
  tk_c (show TrOk D (d + 1) mi_X12_init 209 (tr_putR 212 13 1221) from ok_putR (ci := 12) (k := 21) (show decode mi_X12_init.2.1 209 = .ok (.putfield 66, 3) from by decide +kernel) rfl (by decide) (gm 802 (by decide +kernel) rfl) rfl (Or.inr ⟨rfl, rfl, rfl⟩)) <|
  tk_c (show TrOk D (d + 1) mi_X12_init 212 (tr_aload 213 0) from ok_aload_n (show decode mi_X12_init.2.1 212 = .ok (.aload_n 0, 1) from by decide +kernel) rfl) <|
  tk_c (show TrOk D (d + 1) mi_X12_init 213 (tr_ic 216 2400) from ok_sipush (show decode mi_X12_init.2.1 213 = .ok (.sipush 2400, 3) from by decide +kernel) rfl) <|
  tk_c (show TrOk D (d + 1) mi_X12_init 216 (tr_newa 218 1095216 2400 2400) from ok_newa (t := 1) (show decode mi_X12_init.2.1 216 = .ok (.newarray .int, 2) from by decide +kernel) rfl (by decide) (gm 187 (by decide +kernel) rfl) (by decide) (by decide) (by decide) (by decide)) <|
  tk_c (show TrOk D (d + 1) mi_X12_init 218 (tr_putR 221 13 1222) from ok_putR (ci := 12) (k := 22) (show decode mi_X12_init.2.1 218 = .ok (.putfield 69, 3) from by decide +kernel) rfl (by decide) (gm 803 (by decide +kernel) rfl) rfl (Or.inr ⟨rfl, rfl, rfl⟩)) <|
  tk_c (show TrOk D (d + 1) mi_X12_init 221 (tr_aload 222 0) from ok_aload_n (show decode mi_X12_init.2.1 221 = .ok (.aload_n 0, 1) from by decide +kernel) rfl) <|
  tk_c (show TrOk D (d + 1) mi_X12_init 222 (tr_ic 225 200) from ok_sipush (show decode mi_X12_init.2.1 222 = .ok (.sipush 200, 3) from by decide +kernel) rfl) <|
  tk_c (show TrOk D (d + 1) mi_X12_init 225 (tr_newa 227 1095225 200 200) from ok_newa (t := 1) (show decode mi_X12_init.2.1 225 = .ok (.newarray .int, 2) from by decide +kernel) rfl (by decide) (gm 187 (by decide +kernel) rfl) (by decide) (by decide) (by decide) (by decide)) <|
  tk_c (show TrOk D (d + 1) mi_X12_init 227 (tr_putR 230 13 1223) from ok_putR (ci := 12) (k := 23) (show decode mi_X12_init.2.1 227 = .ok (.putfield 72, 3) from by decide +kernel) rfl (by decide) (gm 804 (by decide +kernel) rfl) rfl (Or.inr ⟨rfl, rfl, rfl⟩)) <|
  tk_c (show TrOk D (d + 1) mi_X12_init 230 (tr_aload 231 0) from ok_aload_n (show decode mi_X12_init.2.1 230 = .ok (.aload_n 0, 1) from by decide +kernel) rfl) <|
  tk_c (show TrOk D (d + 1) mi_X12_init 231 (tr_ic 233 12) from ok_bipush (show decode mi_X12_init.2.1 231 = .ok (.bipush 12, 2) from by decide +kernel) rfl) <|
  tk_n
def tb_X12_init_3 (C : Nat → Sp) : Tab := [(233, tr_newa 235 1095233 12 12), (235, tr_putR 238 13 1226), (238, tr_aload 239 0), (239, tr_ic 241 12), (241, tr_newa 243 2095241 12 12), (243, tr_putR 246 13 1227), (246, tr_aload 247 0), (247, tr_ic 249 12), (249, tr_newa 251 1095249 12 12), (251, tr_putR 254 13 1228), (254, tr_aload 255 0), (255, tr_ic 257 12), (257, tr_newa 259 1095257 12 12), (259, tr_putR 262 13 1229), (262, tr_aload 263 0), (263, tr_ic 265 12), (265, tr_newa 267 1095265 12 12), (267, tr_putR 270 13 1230), (270, tr_aload 271 0), (271, tr_ic 273 12), (273, tr_newa 275 3095273 12 12), (275, tr_putR 278 13 1231), (278, tr_aload 279 0), (279, tr_ic 281 12), (281, tr_newa 283 3095281 12 12), (283, tr_putR 286 13 1232), (286, tr_aload 287 0), (287, tr_ic 289 12), (289, tr_newa 291 1095289 12 12), (291, tr_putR 294 13 1233), (294, tr_aload 295 0), (295, tr_ic 297 12), (297, tr_newa 299 1095297 12 12), (299, tr_putR 302 13 1234), (302, tr_aload 303 0), (303, tr_ic 305 12), (305, tr_newa 307 2095305 12 12), (307, tr_putR 310 13 1235), (310, tr_aload 311 0), (311, tr_ic 313 40)]
set_option maxRecDepth 20000 in
theorem tbk_X12_init_3 {D : DD} {d : Nat} {C : Nat → Sp} (hC : Snd D d C) : ∀ e ∈ tb_X12_init_3 C, TrOk D (d + 1) mi_X12_init e.1 e.2 :=
  tk_c (show TrOk D (d + 1) mi_X12_init 233 (tr_newa 235 1095233 12 12) from ok_newa (t := 1) (show decode mi_X12_init.2.1 233 = .ok (.newarray .int, 2) from by decide +kernel) rfl (by decide) (gm 187 (by decide +kernel) rfl) (by decide) (by decide) (by decide) (by decide)) <|
  tk_c (show TrOk D (d + 1) mi_X12_init 235 (tr_putR 238 13 1226) from ok_putR (ci := 12) (k := 26) (show decode mi_X12_init.2.1 235 = .ok (.putfield 75, 3) from by decide +kernel) rfl (by decide) (gm 807 (by decide +kernel) rfl) rfl (Or.inr ⟨rfl, rfl, rfl⟩)) <|
  tk_c (show TrOk D (d + 1) mi_X12_init 238 (tr_aload 239 0) from ok_aload_n (show decode mi_X12_init.2.1 238 = .ok (.aload_n 0, 1) from by decide +kernel) rfl) <|
  tk_c (show TrOk D (d + 1) mi_X12_init 239 (tr_ic 241 12) from ok_bipush (show decode mi_X12_init.2.1 239 = .ok (.bipush 12, 2) from by decide +kernel) rfl) <|
  tk_c (show TrOk D (d + 1) mi_X12_init 241 (tr_newa 243 2095241 12 12) from ok_newa (t := 2) (show decode mi_X12_init.2.1 241 = .ok (.newarray .long, 2) from by decide +kernel) rfl (by decide) (gm 127 (by decide +kernel) rfl) (by decide) (by decide) (by decide) (by decide)) <|
  tk_c (show TrOk D (d + 1) mi_X12_init 243 (tr_putR 246 13 1227) from ok_putR (ci := 12) (k := 27) (show decode mi_X12_init.2.1 243 = .ok (.putfield 78, 3) from by decide +kernel) rfl (by decide) (gm 808 (by decide +kernel) rfl) rfl (Or.inr ⟨rfl, rfl, rfl⟩)) <|
  tk_c (show TrOk D (d + 1) mi_X12_init 246 (tr_aload 247 0) from ok_aload_n (show decode mi_X12_init.2.1 246 = .ok (.aload_n 0, 1) from by decide +kernel) rfl) <|
  tk_c (show TrOk D (d + 1) mi_X12_init 247 (tr_ic 249 12) from ok_bipush (show decode mi_X12_init.2.1 247 = .ok (.bipush 12, 2) from by decide +kernel) rfl) <|
  tk_c (show TrOk D (d + 1) mi_X12_init 249 (tr_newa 251 1095249 12 12) from ok_newa (t := 1) (show decode mi_X12_init.2.1 249 = .ok (.newarray .int, 2) from by decide +kernel) rfl (by decide) (gm 187 (by decide +kernel) rfl) (by decide) (by decide) (by decide) (by decide)) <|
  tk_c (show TrOk D (d + 1) mi_X12_init 251 (tr_putR 254 13 1228) from ok_putR (ci := 12) (k := 28) (show decode mi_X12_init.2.1 251 = .ok (.putfield 81, 3) from by decide +kernel) rfl (by decide) (gm 809 (by decide +kernel) rfl) rfl (Or.inr ⟨rfl, rfl, rfl⟩)) <|
  tk_c (show TrOk D (d + 1) mi_X12_init 254 (tr_aload 255 0) from ok_aload_n (show decode mi_X12_init.2.1 254 = .ok (.aload_n 0, 1) from by decide +kernel) rfl) <|
  tk_c (show TrOk D (d + 1) mi_X12_init 255 (tr_ic 257 12) from ok_bipush (show decode mi_X12_init.2.1 255 = .ok (.bipush 12, 2) from by decide +kernel) rfl) <|
  tk_c (show TrOk D (d + 1) mi_X12_init 257 (tr_newa 259 1095257 12 12) from ok_newa (t := 1) (show decode mi_X12_init.2.1 257 = .ok (.newarray .int, 2) from by decide +kernel) rfl (by decide) (gm 187 (by decide +kernel) rfl) (by decide) (by decide) (by decide) (by decide)) <|
  tk_c (show TrOk D (d + 1) mi_X12_init 259 (tr_putR 262 13 1229) from ok_putR (ci := 12) (k := 29) (show decode mi_X12_init.2.1 259 = .ok (.putfield 84, 3) from by decide +kernel) rfl (by decide) (gm 810 (by decide +kernel) rfl) rfl (Or.inr ⟨rfl, rfl, rfl⟩)) <|
  tk_c (show TrOk D (d + 1) mi_X12_init 262 (tr_aload 263 0) from ok_aload_n (show decode mi_X12_init.2.1 262 = .ok (.aload_n 0, 1) from by decide +kernel) rfl) <|
  tk_c (show TrOk D (d + 1) mi_X12_init 263 (tr_ic 265 12) from ok_bipush (show decode mi_X12_init.2.1 263 = .ok (.bipush 12, 2) from by decide +kernel) rfl) <|
  tk_c (show TrOk D (d + 1) mi_X12_init 265 (tr_newa 267 1095265 12 12) from ok_newa (t := 1) (show decode mi_X12_init.2.1 265 = .ok (.newarray .int, 2) from by decide +kernel) rfl (by decide) (gm 187 (by decide +kernel) rfl) (by decide) (by decide) (by decide) (by decide)) <|
  tk_c (show TrOk D (d + 1) mi_X12_init 267 (tr_putR 270 13 1230) from ok_putR (ci := 12) (k := 30) (show decode mi_X12_init.2.1 267 = .ok (.putfield 87, 3) from by decide +kernel) rfl (by decide) (gm 811 (by decide +kernel) rfl) rfl (Or.inr ⟨rfl, rfl, rfl⟩)) <|
  tk_c (show TrOk D (d + 1) mi_X12_init 270 (tr_aload 271 0) from ok_aload_n (show decode mi_X12_init.2.1 270 = .ok (.aload_n 0, 1) from by decide +kernel) rfl) <|
  tk_c (show TrOk D (d + 1) mi_X12_init 271 (tr_ic 273 12) from ok_bipush (show decode mi_X12_init.2.1 271 = .ok (.bipush 12, 2) from by decide +kernel) rfl) <|
  tk_c (show TrOk D (d + 1) mi_X12_init 273 (tr_newa 275 3095273 12 12) from ok_newa (t := 3) (show decode mi_X12_init.2.1 273 = .ok (.newarray .boolean, 2) from by decide +kernel) rfl (by decide) (gm 103 (by decide +kernel) rfl) (by decide) (by decide) (by decide) (by decide)) <|
  tk_c (show TrOk D (d + 1) mi_X12_init 275 (tr_putR 278 13 1231) from ok_putR (ci := 12) (k := 31) (show decode mi_X12_init.2.1 275 = .ok (.putfield 90, 3) from by decide +kernel) rfl (by decide) (gm 812 (by decide +kernel) rfl) rfl (Or.inr ⟨rfl, rfl, rfl⟩)) <|
  tk_c (show TrOk D (d + 1) mi_X12_init 278 (tr_aload 279 0) from ok_aload_n (show decode mi_X12_init.2.1 278 = .ok (.aload_n 0, 1) from by decide +kernel) rfl) <|
  tk_c (show TrOk D (d + 1) mi_X12_init 279 (tr_ic 281 12) from ok_bipush (show decode mi_X12_init.2.1 279 = .ok (.bipush 12, 2) from by decide +kernel) rfl) <|
  tk_c (show TrOk D (d + 1) mi_X12_init 281 (tr_newa 283 3095281 12 12) from ok_newa (t := 3) (show decode mi_X12_init.2.1 281 = .ok (.newarray .boolean, 2) from by decide +kernel) rfl (by decide) (gm 103 (by decide +kernel) rfl) (by decide) (by decide) (by decide) (by decide)) <|
  tk_c (show TrOk D (d + 1) mi_X12_init 283 (tr_putR 286 13 1232) from ok_putR (ci := 12) (k := 32) (show decode mi_X12_init.2.1 283 = .ok (.putfield 93, 3) from by decide +kernel) rfl (by decide) (gm 813 (by decide +kernel) rfl) rfl (Or.inr ⟨rfl, rfl, rfl⟩)) <|
  tk_c (show TrOk D (d + 1) mi_X12_init 286 (tr_aload 287 0) from ok_aload_n (show decode mi_X12_init.2.1 286 = .ok (.aload_n 0, 1) from by decide +kernel) rfl) <|
  tk_c (show TrOk D (d + 1) mi_X12_init 287 (tr_ic 289 12) from ok_bipush (show decode mi_X12_init.2.1 287 = .ok (.bipush 12, 2) from by decide +kernel) rfl) <|
  tk_c (show TrOk D (d + 1) mi_X12_init 289 (tr_newa 291 1095289 12 12) from ok_newa (t := 1) (show decode mi_X12_init.2.1 289 = .ok (.newarray .int, 2) from by decide +kernel) rfl (by decide) (gm 187 (by decide +kernel) rfl) (by decide) (by decide) (by decide) (by decide)) <|
  tk_c (show TrOk D (d + 1) mi_X12_init 291 (tr_putR 294 13 1233) from ok_putR (ci := 12) (k := 33) (show decode mi_X12_init.2.1 291 = .ok (.putfield 96, 3) from by decide +kernel) rfl (by decide) (gm 814 (by decide +kernel) rfl) rfl (Or.inr ⟨rfl, rfl, rfl⟩)) <|
  tk_c (show TrOk D (d + 1) mi_X12_init 294 (tr_aload 295 0) from ok_aload_n (show decode mi_X12_init.2.1 294 = .ok (.aload_n 0, 1) from by decide +kernel) rfl) <|
  tk_c (show TrOk D (d + 1) mi_X12_init 295 (tr_ic 297 12) from ok_bipush (show decode mi_X12_init.2.1 295 = .ok (.bipush 12, 2) from by decide +kernel) rfl) <|
  tk_c (show TrOk D (d + 1) mi_X12_init 297 (tr_newa 299 1095297 12 12) from ok_newa (t := 1) (show decode mi_X12_init.2.1 297 = .ok (.newarray .int, 2) from by decide +kernel) rfl (by decide) (gm 187 (by decide +kernel) rfl) (by decide) (by decide) (by decide) (by decide)) <|
  tk_c (show TrOk D (d + 1) mi_X12_init 299 (tr_putR 302 13 1234) from ok_putR (ci := 12) (k := 34) (show decode mi_X12_init.2.1 299 = .ok (.putfield 99, 3) from by decide +kernel) rfl (by decide) (gm 815 (by decide +kernel) rfl) rfl (Or.inr ⟨rfl, rfl, rfl⟩)) <|
  tk_c (show TrOk D (d + 1) mi_X12_init 302 (tr_aload 303 0) from ok_aload_n (show decode mi_X12_init.2.1 302 = .ok (.aload_n 0, 1) from by decide +kernel) rfl) <|
  tk_c (show TrOk D (d + 1) mi_X12_init 303 (tr_ic 305 12) from ok_bipush (show decode mi_X12_init.2.1 303 = .ok (.bipush 12, 2) from by decide +kernel) rfl) <|
  tk_c (show TrOk D (d + 1) mi_X12_init 305 (tr_newa 307 2095305 12 12) from ok_newa (t := 2) (show decode mi_X12_init.2.1 305 = .ok (.newarray .long, 2) from by decide +kernel) rfl (by decide) (gm 127 (by decide +kernel) rfl) (by decide) (by decide) (by decide) (by decide)) <|
  tk_c (show TrOk D (d + 1) mi_X12_init 307 (tr_putR 310 13 1235) from ok_putR (ci := 12) (k := 35) (show decode mi_X12_init.2.1 307 = .ok (.putfield 102, 3) from by decide +kernel) rfl (by decide) (gm 816 (by decide +kernel) rfl) rfl (Or.inr ⟨rfl, rfl, rfl⟩)) <|
  tk_c (show TrOk D (d + 1) mi_X12_init 310 (tr_aload 311 0) from ok_aload_n (show decode mi_X12_init.2.1 310 = .ok (.aload_n 0, 1) from by decide +kernel) rfl) <|
  tk_c (show TrOk D (d + 1) mi_X12_init 311 (tr_ic 313 40) from ok_bipush (show decode mi_X12_init.2.1 311 = .ok (.bipush 40, 2) from by decide +kernel) rfl) <|
  tk_n
def tb_X12_init_4 (C : Nat → Sp) : Tab := [(313, tr_newa 315 1095313 40 40), (315, tr_putR 318 13 1237), (318, tr_aload 319 0), (319, tr_ic 321 40), (321, tr_newa 323 2095321 40 40), (323, tr_putR 326 13 1238), (326, tr_aload 327 0), (327, tr_ic 329 (-4)), (329, tr_putI 332 13 1246), (332, tr_aload 333 0), (333, tr_ic 335 100), (335, tr_newa 337 2095335 100 100), (337, tr_putR 340 13 1248), (340, tr_aload 341 0), (341, tr_ic 343 64), (343, tr_newa 345 1095343 64 64), (345, tr_putR 348 13 1249), (348, tr_aload 349 0), (349, tr_ic 351 64), (351, tr_newa 353 1095351 64 64), (353, tr_putR 356 13 1250), (356, tr_aload 357 0), (357, tr_ic 359 64), (359, tr_newa 361 1095359 64 64), (361, tr_putR 364 13 1251), (364, tr_aload 365 0), (365, tr_ic 367 50), (367, tr_newa 369 1095367 50 50), (369, tr_putR 372 13 1253), (372, tr_aload 373 0), (373, tr_ic 375 50), (375, tr_newa 377 2095375 50 50), (377, tr_putR 380 13 1254), (380, tr_ret)]
set_option maxRecDepth 20000 in
theorem tbk_X12_init_4 {D : DD} {d : Nat} {C : Nat → Sp} (hC : Snd D d C) : ∀ e ∈ tb_X12_init_4 C, TrOk D (d + 1) mi_X12_init e.1 e.2 :=
  tk_c (show TrOk D (d + 1) mi_X12_init 313 (tr_newa 315 1095313 40 40) from ok_newa (t := 1) (show decode mi_X12_init.2.1 313 = .ok (.newarray .int, 2) from by decide +kernel) rfl (by decide) (gm 187 (by decide +kernel) rfl) (by decide) (by decide) (by decide) (by decide)) <|
  tk_c (show TrOk D (d + 1) mi_X12_init 315 (tr_putR 318 13 1237) from ok_putR (ci := 12) (k := 37) (show decode mi_X12_init.2.1 315 = .ok (.putfield 105, 3) from by decide +kernel) rfl (by decide) (gm 818 (by decide +kernel) rfl) rfl (Or.inr ⟨rfl, rfl, rfl⟩)) <|
  tk_c (show TrOk D (d + 1) mi_X12_init 318 (tr_aload 319 0) from ok_aload_n (show decode mi_X12_init.2.1 318 = .ok (.aload_n 0, 1) from by decide +kernel) rfl) <|
  tk_c (show TrOk D (d + 1) mi_X12_init 319 (tr_ic 321 40) from ok_bipush (show decode mi_X12_init.2.1 319 = .ok (.bipush 40, 2) from by decide +kernel) rfl) <|
  tk_c (show TrOk D (d + 1) mi_X12_init 321 (tr_newa 323 2095321 40 40) from ok_newa (t := 2) (show decode mi_X12_init.2.1 321 = .ok (.newarray .long, 2) from by decide +kernel) rfl (by decide) (gm 127 (by decide +kernel) rfl) (by decide) (by decide) (by decide) (by decide)) <|
  tk_c (show TrOk D (d + 1) mi_X12_init 323 (tr_putR 326 13 1238) from ok_putR (ci := 12) (k := 38) (show decode mi_X12_init.2.1 323 = .ok (.putfield 108, 3) from by decide +kernel) rfl (by decide) (gm 819 (by decide +kernel) rfl) rfl (Or.inr ⟨rfl, rfl, rfl⟩)) <|
  tk_c (show TrOk D (d + 1) mi_X12_init 326 (tr_aload 327 0) from ok_aload_n (show decode mi_X12_init.2.1 326 = .ok (.aload_n 0, 1) from by decide +kernel) rfl) <|
  tk_c (show TrOk D (d + 1) mi_X12_init 327 (tr_ic 329 (-4)) from ok_bipush (show decode mi_X12_init.2.1 327 = .ok (.bipush (-4), 2) from by decide +kernel) rfl) <|
  tk_c (show TrOk D (d + 1) mi_X12_init 329 (tr_putI 332 13 1246) from ok_putI (ci := 12) (k := 46) (show decode mi_X12_init.2.1 329 = .ok (.putfield 111, 3) from by decide +kernel) rfl (by decide) (gm 827 (by decide +kernel) rfl) rfl (Or.inl rfl)) <|
  tk_c (show TrOk D (d + 1) mi_X12_init 332 (tr_aload 333 0) from ok_aload_n (show decode mi_X12_init.2.1 332 = .ok (.aload_n 0, 1) from by decide +kernel) rfl) <|
  tk_c (show TrOk D (d + 1) mi_X12_init 333 (tr_ic 335 100) from ok_bipush (show decode mi_X12_init.2.1 333 = .ok (.bipush 100, 2) from by decide +kernel) rfl) <|
  tk_c (show TrOk D (d + 1) mi_X12_init 335 (tr_newa 337 2095335 100 100) from ok_newa (t := 2) (show decode mi_X12_init.2.1 335 = .ok (.newarray .long, 2) from by decide +kernel) rfl (by decide) (gm 127 (by decide +kernel) rfl) (by decide) (by decide) (by decide) (by decide)) <|
  tk_c (show TrOk D (d + 1) mi_X12_init 337 (tr_putR 340 13 1248) from ok_putR (ci := 12) (k := 48) (show decode mi_X12_init.2.1 337 = .ok (.putfield 115, 3) from by decide +kernel) rfl (by decide) (gm 829 (by decide +kernel) rfl) rfl (Or.inr ⟨rfl, rfl, rfl⟩)) <|
  tk_c (show TrOk D (d + 1) mi_X12_init 340 (tr_aload 341 0) from ok_aload_n (show decode mi_X12_init.2.1 340 = .ok (.aload_n 0, 1) from by decide +kernel) rfl) <|
  tk_c (show TrOk D (d + 1) mi_X12_init 341 (tr_ic 343 64) from ok_bipush (show decode mi_X12_init.2.1 341 = .ok (.bipush 64, 2) from by decide +kernel) rfl) <|
  tk_c (show TrOk D (d + 1) mi_X12_init 343 (tr_newa 345 1095343 64 64) from ok_newa (t := 1) (show decode mi_X12_init.2.1 343 = .ok (.newarray .int, 2) from by decide +kernel) rfl (by decide) (gm 187 (by decide +kernel) rfl) (by decide) (by decide) (by decide) (by decide)) <|
  tk_c (show TrOk D (d + 1) mi_X12_init 345 (tr_putR 348 13 1249) from ok_putR (ci := 12) (k := 49) (show decode mi_X12_init.2.1 345 = .ok (.putfield 118, 3) from by decide +kernel) rfl (by decide) (gm 830 (by decide +kernel) rfl) rfl (Or.inr ⟨rfl, rfl, rfl⟩)) <|
  tk_c (show TrOk D (d + 1) mi_X12_init 348 (tr_aload 349 0) from ok_aload_n (show decode mi_X12_init.2.1 348 = .ok (.aload_n 0, 1) from by decide +kernel) rfl) <|
  tk_c (show TrOk D (d + 1) mi_X12_init 349 (tr_ic 351 64) from ok_bipush (show decode mi_X12_init.2.1 349 = .ok (.bipush 64, 2) from by decide +kernel) rfl) <|
  tk_c (show TrOk D (d + 1) mi_X12_init 351 (tr_newa 353 1095351 64 64) from ok_newa (t := 1) (show decode mi_X12_init.2.1 351 = .ok (.newarray .int, 2) from by decide +kernel) rfl (by decide) (gm 187 (by decide +kernel) rfl) (by decide) (by decide) (by decide) (by decide)) <|
  tk_c (show TrOk D (d + 1) mi_X12_init 353 (tr_putR 356 13 1250) from ok_putR (ci := 12) (k := 50) (show decode mi_X12_init.2.1 353 = .ok (.putfield 121, 3) from by decide +kernel) rfl (by decide) (gm 831 (by decide +kernel) rfl) rfl (Or.inr ⟨rfl, rfl, rfl⟩)) <|
  tk_c (show TrOk D (d + 1) mi_X12_init 356 (tr_aload 357 0) from ok_aload_n (show decode mi_X12_init.2.1 356 = .ok (.aload_n 0, 1) from by decide +kernel) rfl) <|
  tk_c (show TrOk D (d + 1) mi_X12_init 357 (tr_ic 359 64) from ok_bipush (show decode mi_X12_init.2.1 357 = .ok (.bipush 64, 2) from by decide +kernel) rfl) <|
  tk_c (show TrOk D (d + 1) mi_X12_init 359 (tr_newa 361 1095359 64 64) from ok_newa (t := 1) (show decode mi_X12_init.2.1 359 = .ok (.newarray .int, 2) from by decide +kernel) rfl (by decide) (gm 187 (by decide +kernel) rfl) (by decide) (by decide) (by decide) (by decide)) <|
  tk_c (show TrOk D (d + 1) mi_X12_init 361 (tr_putR 364 13 1251) from ok_putR (ci := 12) (k := 51) (show decode mi_X12_init.2.1 361 = .ok (.putfield 124, 3) from by decide +kernel) rfl (by decide) (gm 832 (by decide +kernel) rfl) rfl (Or.inr ⟨rfl, rfl, rfl⟩)) <|
  tk_c (show TrOk D (d + 1) mi_X12_init 364 (tr_aload 365 0) from ok_aload_n (show decode mi_X12_init.2.1 364 = .ok (.aload_n 0, 1) from by decide +kernel) rfl) <|
  tk_c (show TrOk D (d + 1) mi_X12_init 365 (tr_ic 367 50) from ok_bipush (show decode mi_X12_init.2.1 365 = .ok (.bipush 50, 2) from by decide +kernel) rfl) <|
  tk_c (show TrOk D (d + 1) mi_X12_init 367 (tr_newa 369 1095367 50 50) from ok_newa (t := 1) (show decode mi_X12_init.2.1 367 = .ok (.newarray .int, 2) from by decide +kernel) rfl (by decide) (gm 187 (by decide +kernel) rfl) (by decide) (by decide) (by decide) (by decide)) <|
  tk_c (show TrOk D (d + 1) mi_X12_init 369 (tr_putR 372 13 1253) from ok_putR (ci := 12) (k := 53) (show decode mi_X12_init.2.1 369 = .ok (.putfield 127, 3) from by decide +kernel) rfl (by decide) (gm 834 (by decide +kernel) rfl) rfl (Or.inr ⟨rfl, rfl, rfl⟩)) <|
  tk_c (show TrOk D (d + 1) mi_X12_init 372 (tr_aload 373 0) from ok_aload_n (show decode mi_X12_init.2.1 372 = .ok (.aload_n 0, 1) from by decide +kernel) rfl) <|
  tk_c (show TrOk D (d + 1) mi_X12_init 373 (tr_ic 375 50) from ok_bipush (show decode mi_X12_init.2.1 373 = .ok (.bipush 50, 2) from by decide +kernel) rfl) <|
  tk_c (show TrOk D (d + 1) mi_X12_init 375 (tr_newa 377 2095375 50 50) from ok_newa (t := 2) (show decode mi_X12_init.2.1 375 = .ok (.newarray .long, 2) from by decide +kernel) rfl (by decide) (gm 127 (by decide +kernel) rfl) (by decide) (by decide) (by decide) (by decide)) <|
  tk_c (show TrOk D (d + 1) mi_X12_init 377 (tr_putR 380 13 1254) from ok_putR (ci := 12) (k := 54) (show decode mi_X12_init.2.1 377 = .ok (.putfield 130, 3) from by decide +kernel) rfl (by decide) (gm 835 (by decide +kernel) rfl) rfl (Or.inr ⟨rfl, rfl, rfl⟩)) <|
  tk_c (show TrOk D (d + 1) mi_X12_init 380 (tr_ret) from ok_ret (show decode mi_X12_init.2.1 380 = .ok (.return_, 1) from by decide +kernel) rfl) <|
  tk_n
def tb_X12_init (C : Nat → Sp) : Tab := tb_X12_init_0 C ++ (tb_X12_init_1 C ++ (tb_X12_init_2 C ++ (tb_X12_init_3 C ++ (tb_X12_init_4 C))))
theorem tbk_X12_init {D : DD} {d : Nat} {C : Nat → Sp} (hC : Snd D d C) : ∀ e ∈ tb_X12_init C, TrOk D (d + 1) mi_X12_init e.1 e.2 := tk_a (tbk_X12_init_0 hC) (tk_a (tbk_X12_init_1 hC) (tk_a (tbk_X12_init_2 hC) (tk_a (tbk_X12_init_3 hC) (tbk_X12_init_4 hC))))
theorem a_X12_init_0 (C : Nat → Sp) : ta (tb_X12_init C) 0 = tr_aload 1 0 := rfl
theorem a_X12_init_1 (C : Nat → Sp) : ta (tb_X12_init C) 1 = tr_obj 4 := rfl
theorem a_X12_init_4 (C : Nat → Sp) : ta (tb_X12_init C) 4 = tr_aload 5 0 := rfl
theorem a_X12_init_5 (C : Nat → Sp) : ta (tb_X12_init C) 5 = tr_ic 7 40 := rfl
theorem a_X12_init_7 (C : Nat → Sp) : ta (tb_X12_init C) 7 = tr_newa 9 1095007 40 40 := rfl
theorem a_X12_init_9 (C : Nat → Sp) : ta (tb_X12_init C) 9 = tr_putR 12 13 1201 := rfl
theorem a_X12_init_12 (C : Nat → Sp) : ta (tb_X12_init C) 12 = tr_aload 13 0 := rfl
theorem a_X12_init_13 (C : Nat → Sp) : ta (tb_X12_init C) 13 = tr_ic 15 40 := rfl
theorem a_X12_init_15 (C : Nat → Sp) : ta (tb_X12_init C) 15 = tr_newa 17 2095015 40 40 := rfl
theorem a_X12_init_17 (C : Nat → Sp) : ta (tb_X12_init C) 17 = tr_putR 20 13 1202 := rfl
theorem a_X12_init_20 (C : Nat → Sp) : ta (tb_X12_init C) 20 = tr_aload 21 0 := rfl
theorem a_X12_init_21 (C : Nat → Sp) : ta (tb_X12_init C) 21 = tr_ic 23 30 := rfl
theorem a_X12_init_23 (C : Nat → Sp) : ta (tb_X12_init C) 23 = tr_newa 25 3095023 30 30 := rfl
theorem a_X12_init_25 (C : Nat → Sp) : ta (tb_X12_init C) 25 = tr_putR 28 13 1204 := rfl
theorem a_X12_init_28 (C : Nat → Sp) : ta (tb_X12_init C) 28 = tr_aload 29 0 := rfl
theorem a_X12_init_29 (C : Nat → Sp) : ta (tb_X12_init C) 29 = tr_ic 32 200 := rfl
theorem a_X12_init_32 (C : Nat → Sp) : ta (tb_X12_init C) 32 = tr_newa 34 1095032 200 200 := rfl
theorem a_X12_init_34 (C : Nat → Sp) : ta (tb_X12_init C) 34 = tr_putR 37 13 1206 := rfl
theorem a_X12_init_37 (C : Nat → Sp) : ta (tb_X12_init C) 37 = tr_aload 38 0 := rfl
theorem a_X12_init_38 (C : Nat → Sp) : ta (tb_X12_init C) 38 = tr_ic 41 200 := rfl
theorem a_X12_init_41 (C : Nat → Sp) : ta (tb_X12_init C) 41 = tr_newa 43 1095041 200 200 := rfl
theorem a_X12_init_43 (C : Nat → Sp) : ta (tb_X12_init C) 43 = tr_putR 46 13 1207 := rfl
theorem a_X12_init_46 (C : Nat → Sp) : ta (tb_X12_init C) 46 = tr_aload 47 0 := rfl
theorem a_X12_init_47 (C : Nat → Sp) : ta (tb_X12_init C) 47 = tr_ic 50 200 := rfl
theorem a_X12_init_50 (C : Nat → Sp) : ta (tb_X12_init C) 50 = tr_newa 52 1095050 200 200 := rfl
theorem a_X12_init_52 (C : Nat → Sp) : ta (tb_X12_init C) 52 = tr_putR 55 13 1208 := rfl
theorem a_X12_init_55 (C : Nat → Sp) : ta (tb_X12_init C) 55 = tr_aload 56 0 := rfl
theorem a_X12_init_56 (C : Nat → Sp) : ta (tb_X12_init C) 56 = tr_ic 59 200 := rfl
theorem a_X12_init_59 (C : Nat → Sp) : ta (tb_X12_init C) 59 = tr_newa 61 1095059 200 200 := rfl
theorem a_X12_init_61 (C : Nat → Sp) : ta (tb_X12_init C) 61 = tr_putR 64 13 1209 := rfl
theorem a_X12_init_64 (C : Nat → Sp) : ta (tb_X12_init C) 64 = tr_aload 65 0 := rfl
theorem a_X12_init_65 (C : Nat → Sp) : ta (tb_X12_init C) 65 = tr_ic 68 200 := rfl
theorem a_X12_init_68 (C : Nat → Sp) : ta (tb_X12_init C) 68 = tr_newa 70 2095068 200 200 := rfl
theorem a_X12_init_70 (C : Nat → Sp) : ta (tb_X12_init C) 70 = tr_putR 73 13 1210 := rfl
theorem a_X12_init_73 (C : Nat → Sp) : ta (tb_X12_init C) 73 = tr_aload 74 0 := rfl
theorem a_X12_init_74 (C : Nat → Sp) : ta (tb_X12_init C) 74 = tr_ic 77 200 := rfl
theorem a_X12_init_77 (C : Nat → Sp) : ta (tb_X12_init C) 77 = tr_newa 79 2095077 200 200 := rfl
theorem a_X12_init_79 (C : Nat → Sp) : ta (tb_X12_init C) 79 = tr_putR 82 13 1211 := rfl
theorem a_X12_init_82 (C : Nat → Sp) : ta (tb_X12_init C) 82 = tr_aload 83 0 := rfl
theorem a_X12_init_83 (C : Nat → Sp) : ta (tb_X12_init C) 83 = tr_ic 86 200 := rfl
theorem a_X12_init_86 (C : Nat → Sp) : ta (tb_X12_init C) 86 = tr_newa 88 3095086 200 200 := rfl
theorem a_X12_init_88 (C : Nat → Sp) : ta (tb_X12_init C) 88 = tr_putR 91 13 1212 := rfl
theorem a_X12_init_91 (C : Nat → Sp) : ta (tb_X12_init C) 91 = tr_aload 92 0 := rfl
theorem a_X12_init_92 (C : Nat → Sp) : ta (tb_X12_init C) 92 = tr_ic 95 200 := rfl
theorem a_X12_init_95 (C : Nat → Sp) : ta (tb_X12_init C) 95 = tr_newa 97 3095095 200 200 := rfl
theorem a_X12_init_97 (C : Nat → Sp) : ta (tb_X12_init C) 97 = tr_putR 100 13 1213 := rfl
theorem a_X12_init_100 (C : Nat → Sp) : ta (tb_X12_init C) 100 = tr_aload 101 0 := rfl
theorem a_X12_init_101 (C : Nat → Sp) : ta (tb_X12_init C) 101 = tr_ic 104 200 := rfl
theorem a_X12_init_104 (C : Nat → Sp) : ta (tb_X12_init C) 104 = tr_newa 106 1095104 200 200 := rfl
theorem a_X12_init_106 (C : Nat → Sp) : ta (tb_X12_init C) 106 = tr_putR 109 13 1214 := rfl
theorem a_X12_init_109 (C : Nat → Sp) : ta (tb_X12_init C) 109 = tr_aload 110 0 := rfl
theorem a_X12_init_110 (C : Nat → Sp) : ta (tb_X12_init C) 110 = tr_ic 113 2000 := rfl
theorem a_X12_init_113 (C : Nat → Sp) : ta (tb_X12_init C) 113 = tr_newa 115 1095113 2000 2000 := rfl
theorem a_X12_init_115 (C : Nat → Sp) : ta (tb_X12_init C) 115 = tr_putR 118 13 1215 := rfl
theorem a_X12_init_118 (C : Nat → Sp) : ta (tb_X12_init C) 118 = tr_aload 119 0 := rfl
theorem a_X12_init_119 (C : Nat → Sp) : ta (tb_X12_init C) 119 = tr_ic 122 2000 := rfl
theorem a_X12_init_122 (C : Nat → Sp) : ta (tb_X12_init C) 122 = tr_newa 124 1095122 2000 2000 := rfl
theorem a_X12_init_124 (C : Nat → Sp) : ta (tb_X12_init C) 124 = tr_putR 127 13 1216 := rfl
theorem a_X12_init_127 (C : Nat → Sp) : ta (tb_X12_init C) 127 = tr_aload 128 0 := rfl
theorem a_X12_init_128 (C : Nat → Sp) : ta (tb_X12_init C) 128 = tr_ic 131 200 := rfl
set_option maxRecDepth 20000 in
theorem a_X12_init_131 (C : Nat → Sp) : ta (tb_X12_init C) 131 = tr_newa 133 1095131 200 200 := rfl
set_option maxRecDepth 20000 in
theorem a_X12_init_133 (C : Nat → Sp) : ta (tb_X12_init C) 133 = tr_putR 136 13 1217 := rfl
set_option maxRecDepth 20000 in
theorem a_X12_init_136 (C : Nat → Sp) : ta (tb_X12_init C) 136 = tr_aload 137 0 := rfl
set_option maxRecDepth 20000 in
theorem a_X12_init_137 (C : Nat → Sp) : ta (tb_X12_init C) 137 = tr_ic 140 200 := rfl
set_option maxRecDepth 20000 in
theorem a_X12_init_140 (C : Nat → Sp) : ta (tb_X12_init C) 140 = tr_newa 142 1095140 200 200 := rfl
set_option maxRecDepth 20000 in
theorem a_X12_init_142 (C : Nat → Sp) : ta (tb_X12_init C) 142 = tr_putR 145 13 1218 := rfl
set_option maxRecDepth 20000 in
theorem a_X12_init_145 (C : Nat → Sp) : ta (tb_X12_init C) 145 = tr_aload 146 0 := rfl
set_option maxRecDepth 20000 in
theorem a_X12_init_146 (C : Nat → Sp) : ta (tb_X12_init C) 146 = tr_ic 148 8 := rfl
set_option maxRecDepth 20000 in
theorem a_X12_init_148 (C : Nat → Sp) : ta (tb_X12_init C) 148 = tr_newa 150 1095148 8 8 := rfl
set_option maxRecDepth 20000 in
theorem a_X12_init_150 (C : Nat → Sp) : ta (tb_X12_init C) 150 = tr_dup 151 := rfl
set_option maxRecDepth 20000 in
theorem a_X12_init_151 (C : Nat → Sp) : ta (tb_X12_init C) 151 = tr_ic 152 0 := rfl
set_option maxRecDepth 20000 in
theorem a_X12_init_152 (C : Nat → Sp) : ta (tb_X12_init C) 152 = tr_ic 154 (-4) := rfl
set_option maxRecDepth 20000 in
theorem a_X12_init_154 (C : Nat → Sp) : ta (tb_X12_init C) 154 = tr_iast 155 := rfl
set_option maxRecDepth 20000 in
theorem a_X12_init_155 (C : Nat → Sp) : ta (tb_X12_init C) 155 = tr_dup 156 := rfl
set_option maxRecDepth 20000 in
theorem a_X12_init_156 (C : Nat → Sp) : ta (tb_X12_init C) 156 = tr_ic 157 1 := rfl
set_option maxRecDepth 20000 in
theorem a_X12_init_157 (C : Nat → Sp) : ta (tb_X12_init C) 157 = tr_ic 159 (-4) := rfl
set_option maxRecDepth 20000 in
theorem a_X12_init_159 (C : Nat → Sp) : ta (tb_X12_init C) 159 = tr_iast 160 := rfl
set_option maxRecDepth 20000 in
theorem a_X12_init_160 (C : Nat → Sp) : ta (tb_X12_init C) 160 = tr_dup 161 := rfl
set_option maxRecDepth 20000 in
theorem a_X12_init_161 (C : Nat → Sp) : ta (tb_X12_init C) 161 = tr_ic 162 2 := rfl
set_option maxRecDepth 20000 in
theorem a_X12_init_162 (C : Nat → Sp) : ta (tb_X12_init C) 162 = tr_ic 164 (-4) := rfl
set_option maxRecDepth 20000 in
theorem a_X12_init_164 (C : Nat → Sp) : ta (tb_X12_init C) 164 = tr_iast 165 := rfl
set_option maxRecDepth 20000 in
theorem a_X12_init_165 (C : Nat → Sp) : ta (tb_X12_init C) 165 = tr_dup 166 := rfl
set_option maxRecDepth 20000 in
theorem a_X12_init_166 (C : Nat → Sp) : ta (tb_X12_init C) 166 = tr_ic 167 3 := rfl
set_option maxRecDepth 20000 in
theorem a_X12_init_167 (C : Nat → Sp) : ta (tb_X12_init C) 167 = tr_ic 169 (-4) := rfl
set_option maxRecDepth 20000 in
theorem a_X12_init_169 (C : Nat → Sp) : ta (tb_X12_init C) 169 = tr_iast 170 := rfl
set_option maxRecDepth 20000 in
theorem a_X12_init_170 (C : Nat → Sp) : ta (tb_X12_init C) 170 = tr_dup 171 := rfl
set_option maxRecDepth 20000 in
theorem a_X12_init_171 (C : Nat → Sp) : ta (tb_X12_init C) 171 = tr_ic 172 4 := rfl
set_option maxRecDepth 20000 in
theorem a_X12_init_172 (C : Nat → Sp) : ta (tb_X12_init C) 172 = tr_ic 174 (-4) := rfl
set_option maxRecDepth 20000 in
theorem a_X12_init_174 (C : Nat → Sp) : ta (tb_X12_init C) 174 = tr_iast 175 := rfl
set_option maxRecDepth 20000 in
theorem a_X12_init_175 (C : Nat → Sp) : ta (tb_X12_init C) 175 = tr_dup 176 := rfl
set_option maxRecDepth 20000 in
theorem a_X12_init_176 (C : Nat → Sp) : ta (tb_X12_init C) 176 = tr_ic 177 5 := rfl
set_option maxRecDepth 20000 in
theorem a_X12_init_177 (C : Nat → Sp) : ta (tb_X12_init C) 177 = tr_ic 179 (-4) := rfl
set_option maxRecDepth 20000 in
theorem a_X12_init_179 (C : Nat → Sp) : ta (tb_X12_init C) 179 = tr_iast 180 := rfl
set_option maxRecDepth 20000 in
theorem a_X12_init_180 (C : Nat → Sp) : ta (tb_X12_init C) 180 = tr_dup 181 := rfl
set_option maxRecDepth 20000 in
theorem a_X12_init_181 (C : Nat → Sp) : ta (tb_X12_init C) 181 = tr_ic 183 6 := rfl
set_option maxRecDepth 20000 in
theorem a_X12_init_183 (C : Nat → Sp) : ta (tb_X12_init C) 183 = tr_ic 185 (-4) := rfl
set_option maxRecDepth 20000 in
theorem a_X12_init_185 (C : Nat → Sp) : ta (tb_X12_init C) 185 = tr_iast 186 := rfl
set_option maxRecDepth 20000 in
theorem a_X12_init_186 (C : Nat → Sp) : ta (tb_X12_init C) 186 = tr_dup 187 := rfl
set_option maxRecDepth 20000 in
theorem a_X12_init_187 (C : Nat → Sp) : ta (tb_X12_init C) 187 = tr_ic 189 7 := rfl
set_option maxRecDepth 20000 in
theorem a_X12_init_189 (C : Nat → Sp) : ta (tb_X12_init C) 189 = tr_ic 191 (-4) := rfl
set_option maxRecDepth 20000 in
theorem a_X12_init_191 (C : Nat → Sp) : ta (tb_X12_init C) 191 = tr_iast 192 := rfl
set_option maxRecDepth 20000 in
theorem a_X12_init_192 (C : Nat → Sp) : ta (tb_X12_init C) 192 = tr_putR 195 13 1219 := rfl
set_option maxRecDepth 20000 in
theorem a_X12_init_195 (C : Nat → Sp) : ta (tb_X12_init C) 195 = tr_aload 196 0 := rfl
set_option maxRecDepth 20000 in
theorem a_X12_init_196 (C : Nat → Sp) : ta (tb_X12_init C) 196 = tr_ic 198 8 := rfl
set_option maxRecDepth 20000 in
theorem a_X12_init_198 (C : Nat → Sp) : ta (tb_X12_init C) 198 = tr_newa 200 1095198 8 8 := rfl
set_option maxRecDepth 20000 in
theorem a_X12_init_200 (C : Nat → Sp) : ta (tb_X12_init C) 200 = tr_putR 203 13 1220 := rfl
set_option maxRecDepth 20000 in
theorem a_X12_init_203 (C : Nat → Sp) : ta (tb_X12_init C) 203 = tr_aload 204 0 := rfl
set_option maxRecDepth 20000 in
theorem a_X12_init_204 (C : Nat → Sp) : ta (tb_X12_init C) 204 = tr_ic 207 128 := rfl
set_option maxRecDepth 20000 in
theorem a_X12_init_207 (C : Nat → Sp) : ta (tb_X12_init C) 207 = tr_newa 209 2095207 128 128 := rfl
set_option maxRecDepth 20000 in
theorem a_X12_init_209 (C : Nat → Sp) : ta (tb_X12_init C) 209 = tr_putR 212 13 1221 := rfl
set_option maxRecDepth 20000 in
theorem a_X12_init_212 (C : Nat → Sp) : ta (tb_X12_init C) 212 = tr_aload 213 0 := rfl
set_option maxRecDepth 20000 in
theorem a_X12_init_213 (C : Nat → Sp) : ta (tb_X12_init C) 213 = tr_ic 216 2400 := rfl
set_option maxRecDepth 20000 in
theorem a_X12_init_216 (C : Nat → Sp) : ta (tb_X12_init C) 216 = tr_newa 218 1095216 2400 2400 := rfl
set_option maxRecDepth 20000 in
theorem a_X12_init_218 (C : Nat → Sp) : ta (tb_X12_init C) 218 = tr_putR 221 13 1222 := rfl
set_option maxRecDepth 20000 in
theorem a_X12_init_221 (C : Nat → Sp) : ta (tb_X12_init C) 221 = tr_aload 222 0 := rfl
set_option maxRecDepth 20000 in
theorem a_X12_init_222 (C : Nat → Sp) : ta (tb_X12_init C) 222 = tr_ic 225 200 := rfl
set_option maxRecDepth 20000 in
theorem a_X12_init_225 (C : Nat → Sp) : ta (tb_X12_init C) 225 = tr_newa 227 1095225 200 200 := rfl
set_option maxRecDepth 20000 in
theorem a_X12_init_227 (C : Nat → Sp) : ta (tb_X12_init C) 227 = tr_putR 230 13 1223 := rfl
set_option maxRecDepth 20000 in
theorem a_X12_init_230 (C : Nat → Sp) : ta (tb_X12_init C) 230 = tr_aload 231 0 := rfl
set_option maxRecDepth 20000 in
theorem a_X12_init_231 (C : Nat → Sp) : ta (tb_X12_init C) 231 = tr_ic 233 12 := rfl
set_option maxRecDepth 20000 in
theorem a_X12_init_233 (C : Nat → Sp) : ta (tb_X12_init C) 233 = tr_newa 235 1095233 12 12 := rfl
set_option maxRecDepth 20000 in
theorem a_X12_init_235 (C : Nat → Sp) : ta (tb_X12_init C) 235 = tr_putR 238 13 1226 := rfl
set_option maxRecDepth 20000 in
theorem a_X12_init_238 (C : Nat → Sp) : ta (tb_X12_init C) 238 = tr_aload 239 0 := rfl
set_option maxRecDepth 20000 in
theorem a_X12_init_239 (C : Nat → Sp) : ta (tb_X12_init C) 239 = tr_ic 241 12 := rfl
set_option maxRecDepth 20000 in
theorem a_X12_init_241 (C : Nat → Sp) : ta (tb_X12_init C) 241 = tr_newa 243 2095241 12 12 := rfl
set_option maxRecDepth 20000 in
theorem a_X12_init_243 (C : Nat → Sp) : ta (tb_X12_init C) 243 = tr_putR 246 13 1227 := rfl
set_option maxRecDepth 20000 in
theorem a_X12_init_246 (C : Nat → Sp) : ta (tb_X12_init C) 246 = tr_aload 247 0 := rfl
set_option maxRecDepth 20000 in
theorem a_X12_init_247 (C : Nat → Sp) : ta (tb_X12_init C) 247 = tr_ic 249 12 := rfl
set_option maxRecDepth 20000 in
theorem a_X12_init_249 (C : Nat → Sp) : ta (tb_X12_init C) 249 = tr_newa 251 1095249 12 12 := rfl
set_option maxRecDepth 20000 in
theorem a_X12_init_251 (C : Nat → Sp) : ta (tb_X12_init C) 251 = tr_putR 254 13 1228 := rfl
set_option maxRecDepth 20000 in
theorem a_X12_init_254 (C : Nat → Sp) : ta (tb_X12_init C) 254 = tr_aload 255 0 := rfl
set_option maxRecDepth 20000 in
theorem a_X12_init_255 (C : Nat → Sp) : ta (tb_X12_init C) 255 = tr_ic 257 12 := rfl
set_option maxRecDepth 20000 in
theorem a_X12_init_257 (C : Nat → Sp) : ta (tb_X12_init C) 257 = tr_newa 259 1095257 12 12 := rfl
set_option maxRecDepth 20000 in
theorem a_X12_init_259 (C : Nat → Sp) : ta (tb_X12_init C) 259 = tr_putR 262 13 1229 := rfl
set_option maxRecDepth 20000 in
theorem a_X12_init_262 (C : Nat → Sp) : ta (tb_X12_init C) 262 = tr_aload 263 0 := rfl
set_option maxRecDepth 20000 in
theorem a_X12_init_263 (C : Nat → Sp) : ta (tb_X12_init C) 263 = tr_ic 265 12 := rfl
set_option maxRecDepth 20000 in
theorem a_X12_init_265 (C : Nat → Sp) : ta (tb_X12_init C) 265 = tr_newa 267 1095265 12 12 := rfl
set_option maxRecDepth 20000 in
theorem a_X12_init_267 (C : Nat → Sp) : ta (tb_X12_init C) 267 = tr_putR 270 13 1230 := rfl
set_option maxRecDepth 20000 in
theorem a_X12_init_270 (C : Nat → Sp) : ta (tb_X12_init C) 270 = tr_aload 271 0 := rfl
set_option maxRecDepth 20000 in
theorem a_X12_init_271 (C : Nat → Sp) : ta (tb_X12_init C) 271 = tr_ic 273 12 := rfl
set_option maxRecDepth 20000 in
theorem a_X12_init_273 (C : Nat → Sp) : ta (tb_X12_init C) 273 = tr_newa 275 3095273 12 12 := rfl
set_option maxRecDepth 20000 in
theorem a_X12_init_275 (C : Nat → Sp) : ta (tb_X12_init C) 275 = tr_putR 278 13 1231 := rfl
set_option maxRecDepth 20000 in
theorem a_X12_init_278 (C : Nat → Sp) : ta (tb_X12_init C) 278 = tr_aload 279 0 := rfl
set_option maxRecDepth 20000 in
theorem a_X12_init_279 (C : Nat → Sp) : ta (tb_X12_init C) 279 = tr_ic 281 12 := rfl
set_option maxRecDepth 20000 in
theorem a_X12_init_281 (C : Nat → Sp) : ta (tb_X12_init C) 281 = tr_newa 283 3095281 12 12 := rfl
set_option maxRecDepth 20000 in
theorem a_X12_init_283 (C : Nat → Sp) : ta (tb_X12_init C) 283 = tr_putR 286 13 1232 := rfl
set_option maxRecDepth 20000 in
theorem a_X12_init_286 (C : Nat → Sp) : ta (tb_X12_init C) 286 = tr_aload 287 0 := rfl
set_option maxRecDepth 20000 in
theorem a_X12_init_287 (C : Nat → Sp) : ta (tb_X12_init C) 287 = tr_ic 289 12 := rfl
set_option maxRecDepth 20000 in
theorem a_X12_init_289 (C : Nat → Sp) : ta (tb_X12_init C) 289 = tr_newa 291 1095289 12 12 := rfl
set_option maxRecDepth 20000 in
theorem a_X12_init_291 (C : Nat → Sp) : ta (tb_X12_init C) 291 = tr_putR 294 13 1233 := rfl
set_option maxRecDepth 20000 in
theorem a_X12_init_294 (C : Nat → Sp) : ta (tb_X12_init C) 294 = tr_aload 295 0 := rfl
set_option maxRecDepth 20000 in
theorem a_X12_init_295 (C : Nat → Sp) : ta (tb_X12_init C) 295 = tr_ic 297 12 := rfl
set_option maxRecDepth 20000 in
theorem a_X12_init_297 (C : Nat → Sp) : ta (tb_X12_init C) 297 = tr_newa 299 1095297 12 12 := rfl
set_option maxRecDepth 20000 in
theorem a_X12_init_299 (C : Nat → Sp) : ta (tb_X12_init C) 299 = tr_putR 302 13 1234 := rfl
set_option maxRecDepth 20000 in
theorem a_X12_init_302 (C : Nat → Sp) : ta (tb_X12_init C) 302 = tr_aload 303 0 := rfl
set_option maxRecDepth 20000 in
theorem a_X12_init_303 (C : Nat → Sp) : ta (tb_X12_init C) 303 = tr_ic 305 12 := rfl
set_option maxRecDepth 20000 in
theorem a_X12_init_305 (C : Nat → Sp) : ta (tb_X12_init C) 305 = tr_newa 307 2095305 12 12 := rfl
set_option maxRecDepth 20000 in
theorem a_X12_init_307 (C : Nat → Sp) : ta (tb_X12_init C) 307 = tr_putR 310 13 1235 := rfl
set_option maxRecDepth 20000 in
theorem a_X12_init_310 (C : Nat → Sp) : ta (tb_X12_init C) 310 = tr_aload 311 0 := rfl
set_option maxRecDepth 20000 in
theorem a_X12_init_311 (C : Nat → Sp) : ta (tb_X12_init C) 311 = tr_ic 313 40 := rfl
set_option maxRecDepth 20000 in
theorem a_X12_init_313 (C : Nat → Sp) : ta (tb_X12_init C) 313 = tr_newa 315 1095313 40 40 := rfl
set_option maxRecDepth 20000 in
theorem a_X12_init_315 (C : Nat → Sp) : ta (tb_X12_init C) 315 = tr_putR 318 13 1237 := rfl
set_option maxRecDepth 20000 in
theorem a_X12_init_318 (C : Nat → Sp) : ta (tb_X12_init C) 318 = tr_aload 319 0 := rfl
set_option maxRecDepth 20000 in
theorem a_X12_init_319 (C : Nat → Sp) : ta (tb_X12_init C) 319 = tr_ic 321 40 := rfl
set_option maxRecDepth 20000 in
theorem a_X12_init_321 (C : Nat → Sp) : ta (tb_X12_init C) 321 = tr_newa 323 2095321 40 40 := rfl
set_option maxRecDepth 20000 in
theorem a_X12_init_323 (C : Nat → Sp) : ta (tb_X12_init C) 323 = tr_putR 326 13 1238 := rfl
set_option maxRecDepth 20000 in
theorem a_X12_init_326 (C : Nat → Sp) : ta (tb_X12_init C) 326 = tr_aload 327 0 := rfl
set_option maxRecDepth 20000 in
theorem a_X12_init_327 (C : Nat → Sp) : ta (tb_X12_init C) 327 = tr_ic 329 (-4) := rfl
set_option maxRecDepth 20000 in
theorem a_X12_init_329 (C : Nat → Sp) : ta (tb_X12_init C) 329 = tr_putI 332 13 1246 := rfl
set_option maxRecDepth 20000 in
theorem a_X12_init_332 (C : Nat → Sp) : ta (tb_X12_init C) 332 = tr_aload 333 0 := rfl
set_option maxRecDepth 20000 in
theorem a_X12_init_333 (C : Nat → Sp) : ta (tb_X12_init C) 333 = tr_ic 335 100 := rfl
set_option maxRecDepth 20000 in
theorem a_X12_init_335 (C : Nat → Sp) : ta (tb_X12_init C) 335 = tr_newa 337 2095335 100 100 := rfl
set_option maxRecDepth 20000 in
theorem a_X12_init_337 (C : Nat → Sp) : ta (tb_X12_init C) 337 = tr_putR 340 13 1248 := rfl
set_option maxRecDepth 20000 in
theorem a_X12_init_340 (C : Nat → Sp) : ta (tb_X12_init C) 340 = tr_aload 341 0 := rfl
set_option maxRecDepth 20000 in
theorem a_X12_init_341 (C : Nat → Sp) : ta (tb_X12_init C) 341 = tr_ic 343 64 := rfl
set_option maxRecDepth 20000 in
theorem a_X12_init_343 (C : Nat → Sp) : ta (tb_X12_init C) 343 = tr_newa 345 1095343 64 64 := rfl
set_option maxRecDepth 20000 in
theorem a_X12_init_345 (C : Nat → Sp) : ta (tb_X12_init C) 345 = tr_putR 348 13 1249 := rfl
set_option maxRecDepth 20000 in
theorem a_X12_init_348 (C : Nat → Sp) : ta (tb_X12_init C) 348 = tr_aload 349 0 := rfl
set_option maxRecDepth 20000 in
theorem a_X12_init_349 (C : Nat → Sp) : ta (tb_X12_init C) 349 = tr_ic 351 64 := rfl
set_option maxRecDepth 20000 in
theorem a_X12_init_351 (C : Nat → Sp) : ta (tb_X12_init C) 351 = tr_newa 353 1095351 64 64 := rfl
set_option maxRecDepth 20000 in
theorem a_X12_init_353 (C : Nat → Sp) : ta (tb_X12_init C) 353 = tr_putR 356 13 1250 := rfl
set_option maxRecDepth 20000 in
theorem a_X12_init_356 (C : Nat → Sp) : ta (tb_X12_init C) 356 = tr_aload 357 0 := rfl
set_option maxRecDepth 20000 in
theorem a_X12_init_357 (C : Nat → Sp) : ta (tb_X12_init C) 357 = tr_ic 359 64 := rfl
set_option maxRecDepth 20000 in
theorem a_X12_init_359 (C : Nat → Sp) : ta (tb_X12_init C) 359 = tr_newa 361 1095359 64 64 := rfl
set_option maxRecDepth 20000 in
theorem a_X12_init_361 (C : Nat → Sp) : ta (tb_X12_init C) 361 = tr_putR 364 13 1251 := rfl
set_option maxRecDepth 20000 in
theorem a_X12_init_364 (C : Nat → Sp) : ta (tb_X12_init C) 364 = tr_aload 365 0 := rfl
set_option maxRecDepth 20000 in
theorem a_X12_init_365 (C : Nat → Sp) : ta (tb_X12_init C) 365 = tr_ic 367 50 := rfl
set_option maxRecDepth 20000 in
theorem a_X12_init_367 (C : Nat → Sp) : ta (tb_X12_init C) 367 = tr_newa 369 1095367 50 50 := rfl
set_option maxRecDepth 20000 in
theorem a_X12_init_369 (C : Nat → Sp) : ta (tb_X12_init C) 369 = tr_putR 372 13 1253 := rfl
set_option maxRecDepth 20000 in
theorem a_X12_init_372 (C : Nat → Sp) : ta (tb_X12_init C) 372 = tr_aload 373 0 := rfl
set_option maxRecDepth 20000 in
theorem a_X12_init_373 (C : Nat → Sp) : ta (tb_X12_init C) 373 = tr_ic 375 50 := rfl
set_option maxRecDepth 20000 in
theorem a_X12_init_375 (C : Nat → Sp) : ta (tb_X12_init C) 375 = tr_newa 377 2095375 50 50 := rfl
set_option maxRecDepth 20000 in
theorem a_X12_init_377 (C : Nat → Sp) : ta (tb_X12_init C) 377 = tr_putR 380 13 1254 := rfl
set_option maxRecDepth 20000 in
theorem a_X12_init_380 (C : Nat → Sp) : ta (tb_X12_init C) 380 = tr_ret := rfl

def tb_X12_in_0 (C : Nat → Sp) : Tab := [(0, tr_lload 1 0), (1, tr_lload 2 2), (2, tr_lcmp 3), (3, tr_iflt 6 17), (6, tr_lload 7 0), (7, tr_lload 9 4), (9, tr_lcmp 10), (10, tr_ifgt 13 17), (13, tr_ic 14 1), (14, tr_goto 18), (17, tr_ic 18 0), (18, tr_zret)]
set_option maxRecDepth 20000 in
theorem tbk_X12_in_0 {D : DD} {d : Nat} {C : Nat → Sp} (hC : Snd D d C) : ∀ e ∈ tb_X12_in_0 C, TrOk D (d + 1) mi_X12_in e.1 e.2 :=
  tk_c (show TrOk D (d + 1) mi_X12_in 0 (tr_lload 1 0) from ok_lload_n (show decode mi_X12_in.2.1 0 = .ok (.lload_n 0, 1) from by decide +kernel) rfl) <|
  tk_c (show TrOk D (d + 1) mi_X12_in 1 (tr_lload 2 2) from ok_lload_n (show decode mi_X12_in.2.1 1 = .ok (.lload_n 2, 1) from by decide +kernel) rfl) <|
  tk_c (show TrOk D (d + 1) mi_X12_in 2 (tr_lcmp 3) from ok_lcmp (show decode mi_X12_in.2.1 2 = .ok (.lcmp, 1) from by decide +kernel)) <|
  tk_c (show TrOk D (d + 1) mi_X12_in 3 (tr_iflt 6 17) from ok_iflt (show decode mi_X12_in.2.1 3 = .ok (.ifCond .lt 14, 3) from by decide +kernel) (by decide)) <|
  tk_c (show TrOk D (d + 1) mi_X12_in 6 (tr_lload 7 0) from ok_lload_n (show decode mi_X12_in.2.1 6 = .ok (.lload_n 0, 1) from by decide +kernel) rfl) <|
  tk_c (show TrOk D (d + 1) mi_X12_in 7 (tr_lload 9 4) from ok_lload (show decode mi_X12_in.2.1 7 = .ok (.lload 4, 2) from by decide +kernel)) <|
  tk_c (show TrOk D (d + 1) mi_X12_in 9 (tr_lcmp 10) from ok_lcmp (show decode mi_X12_in.2.1 9 = .ok (.lcmp, 1) from by decide +kernel)) <|
  tk_c (show TrOk D (d + 1) mi_X12_in 10 (tr_ifgt 13 17) from ok_ifgt (show decode mi_X12_in.2.1 10 = .ok (.ifCond .gt 7, 3) from by decide +kernel) (by decide)) <|
  tk_c (show TrOk D (d + 1) mi_X12_in 13 (tr_ic 14 1) from ok_iconst (show decode mi_X12_in.2.1 13 = .ok (.iconst 1, 1) from by decide +kernel) rfl) <|
  tk_c (show TrOk D (d + 1) mi_X12_in 14 (tr_goto 18) from ok_goto (show decode mi_X12_in.2.1 14 = .ok (.goto 4, 3) from by decide +kernel) (by decide)) <|
  tk_c (show TrOk D (d + 1) mi_X12_in 17 (tr_ic 18 0) from ok_iconst (show decode mi_X12_in.2.1 17 = .ok (.iconst 0, 1) from by decide +kernel) rfl) <|
  tk_c (show TrOk D (d + 1) mi_X12_in 18 (tr_zret) from ok_zret (show decode mi_X12_in.2.1 18 = .ok (.ireturn, 1) from by decide +kernel) rfl) <|
  tk_n
def tb_X12_in (C : Nat → Sp) : Tab := tb_X12_in_0 C
theorem tbk_X12_in {D : DD} {d : Nat} {C : Nat → Sp} (hC : Snd D d C) : ∀ e ∈ tb_X12_in C, TrOk D (d + 1) mi_X12_in e.1 e.2 := tbk_X12_in_0 hC
theorem a_X12_in_0 (C : Nat → Sp) : ta (tb_X12_in C) 0 = tr_lload 1 0 := rfl
theorem a_X12_in_1 (C : Nat → Sp) : ta (tb_X12_in C) 1 = tr_lload 2 2 := rfl
theorem a_X12_in_2 (C : Nat → Sp) : ta (tb_X12_in C) 2 = tr_lcmp 3 := rfl
theorem a_X12_in_3 (C : Nat → Sp) : ta (tb_X12_in C) 3 = tr_iflt 6 17 := rfl
theorem a_X12_in_6 (C : Nat → Sp) : ta (tb_X12_in C) 6 = tr_lload 7 0 := rfl
theorem a_X12_in_7 (C : Nat → Sp) : ta (tb_X12_in C) 7 = tr_lload 9 4 := rfl
theorem a_X12_in_9 (C : Nat → Sp) : ta (tb_X12_in C) 9 = tr_lcmp 10 := rfl
theorem a_X12_in_10 (C : Nat → Sp) : ta (tb_X12_in C) 10 = tr_ifgt 13 17 := rfl
theorem a_X12_in_13 (C : Nat → Sp) : ta (tb_X12_in C) 13 = tr_ic 14 1 := rfl
theorem a_X12_in_14 (C : Nat → Sp) : ta (tb_X12_in C) 14 = tr_goto 18 := rfl
theorem a_X12_in_17 (C : Nat → Sp) : ta (tb_X12_in C) 17 = tr_ic 18 0 := rfl
theorem a_X12_in_18 (C : Nat → Sp) : ta (tb_X12_in C) 18 = tr_zret := rfl

def tb_X12_isKind_0 (C : Nat → Sp) : Tab := [(0, tr_iload 1 1), (1, tr_i2l 2), (2, tr_lc 3 0), (3, tr_aload 4 0), (4, tr_getI 7 13 1200), (7, tr_ic 8 1), (8, tr_isub 9), (9, tr_i2l 10), (10, tr_callS (C 96) 13 3), (13, tr_zret)]
set_option maxRecDepth 20000 in
theorem tbk_X12_isKind_0 {D : DD} {d : Nat} {C : Nat → Sp} (hC : Snd D d C) : ∀ e ∈ tb_X12_isKind_0 C, TrOk D (d + 1) mi_X12_isKind e.1 e.2 :=
  tk_c (show TrOk D (d + 1) mi_X12_isKind 0 (tr_iload 1 1) from ok_iload_n (show decode mi_X12_isKind.2.1 0 = .ok (.iload_n 1, 1) from by decide +kernel) rfl) <|
  tk_c (show TrOk D (d + 1) mi_X12_isKind 1 (tr_i2l 2) from ok_i2l (show decode mi_X12_isKind.2.1 1 = .ok (.i2l, 1) from by decide +kernel)) <|
  tk_c (show TrOk D (d + 1) mi_X12_isKind 2 (tr_lc 3 0) from ok_lconst (show decode mi_X12_isKind.2.1 2 = .ok (.lconst 0, 1) from by decide +kernel) rfl) <|
  tk_c (show TrOk D (d + 1) mi_X12_isKind 3 (tr_aload 4 0) from ok_aload_n (show decode mi_X12_isKind.2.1 3 = .ok (.aload_n 0, 1) from by decide +kernel) rfl) <|
  tk_c (show TrOk D (d + 1) mi_X12_isKind 4 (tr_getI 7 13 1200) from ok_getI (ci := 12) (k := 0) (show decode mi_X12_isKind.2.1 4 = .ok (.getfield 133, 3) from by decide +kernel) rfl (by decide) (gm 781 (by decide +kernel) rfl) rfl) <|
  tk_c (show TrOk D (d + 1) mi_X12_isKind 7 (tr_ic 8 1) from ok_iconst (show decode mi_X12_isKind.2.1 7 = .ok (.iconst 1, 1) from by decide +kernel) rfl) <|
  tk_c (show TrOk D (d + 1) mi_X12_isKind 8 (tr_isub 9) from ok_isub (show decode mi_X12_isKind.2.1 8 = .ok (.isub, 1) from by decide +kernel)) <|
  tk_c (show TrOk D (d + 1) mi_X12_isKind 9 (tr_i2l 10) from ok_i2l (show decode mi_X12_isKind.2.1 9 = .ok (.i2l, 1) from by decide +kernel)) <|
  tk_c (show TrOk D (d + 1) mi_X12_isKind 10 (tr_callS (C 96) 13 3) from ok_callS (show decode mi_X12_isKind.2.1 10 = .ok (.invokestatic 136, 3) from by decide +kernel) mok_X12_in (gm 955 (by decide +kernel) rfl) (gm 956 (by decide +kernel) rfl) (hC 96)) <|
  tk_c (show TrOk D (d + 1) mi_X12_isKind 13 (tr_zret) from ok_zret (show decode mi_X12_isKind.2.1 13 = .ok (.ireturn, 1) from by decide +kernel) rfl) <|
  tk_n
def tb_X12_isKind (C : Nat → Sp) : Tab := tb_X12_isKind_0 C
theorem tbk_X12_isKind {D : DD} {d : Nat} {C : Nat → Sp} (hC : Snd D d C) : ∀ e ∈ tb_X12_isKind C, TrOk D (d + 1) mi_X12_isKind e.1 e.2 := tbk_X12_isKind_0 hC
theorem a_X12_isKind_0 (C : Nat → Sp) : ta (tb_X12_isKind C) 0 = tr_iload 1 1 := rfl
theorem a_X12_isKind_1 (C : Nat → Sp) : ta (tb_X12_isKind C) 1 = tr_i2l 2 := rfl
theorem a_X12_isKind_2 (C : Nat → Sp) : ta (tb_X12_isKind C) 2 = tr_lc 3 0 := rfl
theorem a_X12_isKind_3 (C : Nat → Sp) : ta (tb_X12_isKind C) 3 = tr_aload 4 0 := rfl
theorem a_X12_isKind_4 (C : Nat → Sp) : ta (tb_X12_isKind C) 4 = tr_getI 7 13 1200 := rfl
theorem a_X12_isKind_7 (C : Nat → Sp) : ta (tb_X12_isKind C) 7 = tr_ic 8 1 := rfl
theorem a_X12_isKind_8 (C : Nat → Sp) : ta (tb_X12_isKind C) 8 = tr_isub 9 := rfl
theorem a_X12_isKind_9 (C : Nat → Sp) : ta (tb_X12_isKind C) 9 = tr_i2l 10 := rfl
theorem a_X12_isKind_10 (C : Nat → Sp) : ta (tb_X12_isKind C) 10 = tr_callS (C 96) 13 3 := rfl
theorem a_X12_isKind_13 (C : Nat → Sp) : ta (tb_X12_isKind C) 13 = tr_zret := rfl

def tb_X12_isListener_0 (C : Nat → Sp) : Tab := [(0, tr_iload 1 1), (1, tr_i2l 2), (2, tr_lc 3 0), (3, tr_aload 4 0), (4, tr_getI 7 13 1205), (7, tr_ic 8 1), (8, tr_isub 9), (9, tr_i2l 10), (10, tr_callS (C 96) 13 3), (13, tr_zret)]
set_option maxRecDepth 20000 in
theorem tbk_X12_isListener_0 {D : DD} {d : Nat} {C : Nat → Sp} (hC : Snd D d C) : ∀ e ∈ tb_X12_isListener_0 C, TrOk D (d + 1) mi_X12_isListener e.1 e.2 :=
  tk_c (show TrOk D (d + 1) mi_X12_isListener 0 (tr_iload 1 1) from ok_iload_n (show decode mi_X12_isListener.2.1 0 = .ok (.iload_n 1, 1) from by decide +kernel) rfl) <|
  tk_c (show TrOk D (d + 1) mi_X12_isListener 1 (tr_i2l 2) from ok_i2l (show decode mi_X12_isListener.2.1 1 = .ok (.i2l, 1) from by decide +kernel)) <|
  tk_c (show TrOk D (d + 1) mi_X12_isListener 2 (tr_lc 3 0) from ok_lconst (show decode mi_X12_isListener.2.1 2 = .ok (.lconst 0, 1) from by decide +kernel) rfl) <|
  tk_c (show TrOk D (d + 1) mi_X12_isListener 3 (tr_aload 4 0) from ok_aload_n (show decode mi_X12_isListener.2.1 3 = .ok (.aload_n 0, 1) from by decide +kernel) rfl) <|
  tk_c (show TrOk D (d + 1) mi_X12_isListener 4 (tr_getI 7 13 1205) from ok_getI (ci := 12) (k := 5) (show decode mi_X12_isListener.2.1 4 = .ok (.getfield 140, 3) from by decide +kernel) rfl (by decide) (gm 786 (by decide +kernel) rfl) rfl) <|
  tk_c (show TrOk D (d + 1) mi_X12_isListener 7 (tr_ic 8 1) from ok_iconst (show decode mi_X12_isListener.2.1 7 = .ok (.iconst 1, 1) from by decide +kernel) rfl) <|
  tk_c (show TrOk D (d + 1) mi_X12_isListener 8 (tr_isub 9) from ok_isub (show decode mi_X12_isListener.2.1 8 = .ok (.isub, 1) from by decide +kernel)) <|
  tk_c (show TrOk D (d + 1) mi_X12_isListener 9 (tr_i2l 10) from ok_i2l (show decode mi_X12_isListener.2.1 9 = .ok (.i2l, 1) from by decide +kernel)) <|
  tk_c (show TrOk D (d + 1) mi_X12_isListener 10 (tr_callS (C 96) 13 3) from ok_callS (show decode mi_X12_isListener.2.1 10 = .ok (.invokestatic 136, 3) from by decide +kernel) mok_X12_in (gm 955 (by decide +kernel) rfl) (gm 956 (by decide +kernel) rfl) (hC 96)) <|
  tk_c (show TrOk D (d + 1) mi_X12_isListener 13 (tr_zret) from ok_zret (show decode mi_X12_isListener.2.1 13 = .ok (.ireturn, 1) from by decide +kernel) rfl) <|
  tk_n
def tb_X12_isListener (C : Nat → Sp) : Tab := tb_X12_isListener_0 C
theorem tbk_X12_isListener {D : DD} {d : Nat} {C : Nat → Sp} (hC : Snd D d C) : ∀ e ∈ tb_X12_isListener C, TrOk D (d + 1) mi_X12_isListener e.1 e.2 := tbk_X12_isListener_0 hC
theorem a_X12_isListener_0 (C : Nat → Sp) : ta (tb_X12_isListener C) 0 = tr_iload 1 1 := rfl
theorem a_X12_isListener_1 (C : Nat → Sp) : ta (tb_X12_isListener C) 1 = tr_i2l 2 := rfl
theorem a_X12_isListener_2 (C : Nat → Sp) : ta (tb_X12_isListener C) 2 = tr_lc 3 0 := rfl
theorem a_X12_isListener_3 (C : Nat → Sp) : ta (tb_X12_isListener C) 3 = tr_aload 4 0 := rfl
theorem a_X12_isListener_4 (C : Nat → Sp) : ta (tb_X12_isListener C) 4 = tr_getI 7 13 1205 := rfl
theorem a_X12_isListener_7 (C : Nat → Sp) : ta (tb_X12_isListener C) 7 = tr_ic 8 1 := rfl
theorem a_X12_isListener_8 (C : Nat → Sp) : ta (tb_X12_isListener C) 8 = tr_isub 9 := rfl
theorem a_X12_isListener_9 (C : Nat → Sp) : ta (tb_X12_isListener C) 9 = tr_i2l 10 := rfl
theorem a_X12_isListener_10 (C : Nat → Sp) : ta (tb_X12_isListener C) 10 = tr_callS (C 96) 13 3 := rfl
theorem a_X12_isListener_13 (C : Nat → Sp) : ta (tb_X12_isListener C) 13 = tr_zret := rfl

def tb_X12_kind_0 (C : Nat → Sp) : Tab := [(0, tr_iload 1 1), (1, tr_ic 3 (-4)), (3, tr_iceq 6 16), (6, tr_aload 7 0), (7, tr_iload 8 1), (8, tr_callV (C 97) 11 13 1), (11, tr_ifne 14 16), (14, tr_ic 15 (-1)), (15, tr_iret), (16, tr_ic 17 0), (17, tr_istore 18 2), (18, tr_iload 19 1), (19, tr_istore 20 3), (20, tr_iload 21 3), (21, tr_ic 23 (-4)), (23, tr_iceq 26 39), (26, tr_iinc 29 2 1), (29, tr_aload 30 0), (30, tr_getR 33 13 1201), (33, tr_iload 34 3), (34, tr_iald 35), (35, tr_istore 36 3), (36, tr_goto 20), (39, tr_iload 40 2), (40, tr_ic 42 10), (42, tr_icle 45 48), (45, tr_ic 47 (-2)), (47, tr_iret), (48, tr_aload 49 0), (49, tr_getI 52 13 1200), (52, tr_ic 54 40), (54, tr_icne 57 60), (57, tr_ic 59 (-3)), (59, tr_iret), (60, tr_aload 61 0), (61, tr_getR 64 13 1201), (64, tr_aload 65 0), (65, tr_getI 68 13 1200), (68, tr_iload 69 1), (69, tr_iast 70)]
set_option maxRecDepth 20000 in
theorem tbk_X12_kind_0 {D : DD} {d : Nat} {C : Nat → Sp} (hC : Snd D d C) : ∀ e ∈ tb_X12_kind_0 C, TrOk D (d + 1) mi_X12_kind e.1 e.2 :=
  tk_c (show TrOk D (d + 1) mi_X12_kind 0 (tr_iload 1 1) from ok_iload_n (show decode mi_X12_kind.2.1 0 = .ok (.iload_n 1, 1) from by decide +kernel) rfl) <|
  tk_c (show TrOk D (d + 1) mi_X12_kind 1 (tr_ic 3 (-4)) from ok_bipush (show decode mi_X12_kind.2.1 1 = .ok (.bipush (-4), 2) from by decide +kernel) rfl) <|
  tk_c (show TrOk D (d + 1) mi_X12_kind 3 (tr_iceq 6 16) from ok_iceq (show decode mi_X12_kind.2.1 3 = .ok (.if_icmp .eq 13, 3) from by decide +kernel) (by decide)) <|
  tk_c (show TrOk D (d + 1) mi_X12_kind 6 (tr_aload 7 0) from ok_aload_n (show decode mi_X12_kind.2.1 6 = .ok (.aload_n 0, 1) from by decide +kernel) rfl) <|
  tk_c (show TrOk D (d + 1) mi_X12_kind 7 (tr_iload 8 1) from ok_iload_n (show decode mi_X12_kind.2.1 7 = .ok (.iload_n 1, 1) from by decide +kernel) rfl) <|
  tk_c (show TrOk D (d + 1) mi_X12_kind 8 (tr_callV (C 97) 11 13 1) from ok_callV (ci := 12) (show decode mi_X12_kind.2.1 8 = .ok (.invokevirtual 143, 3) from by decide +kernel) mok_X12_isKind rfl rfl (gm 951 (by decide +kernel) rfl) (gm 953 (by decide +kernel) rfl) (gm 12 (by decide +kernel) rfl) (hC 97)) <|
  tk_c (show TrOk D (d + 1) mi_X12_kind 11 (tr_ifne 14 16) from ok_ifne (show decode mi_X12_kind.2.1 11 = .ok (.ifCond .ne 5, 3) from by decide +kernel) (by decide)) <|
  tk_c (show TrOk D (d + 1) mi_X12_kind 14 (tr_ic 15 (-1)) from ok_iconst (show decode mi_X12_kind.2.1 14 = .ok (.iconst (-1), 1) from by decide +kernel) rfl) <|
  tk_c (show TrOk D (d + 1) mi_X12_kind 15 (tr_iret) from ok_iret (show decode mi_X12_kind.2.1 15 = .ok (.ireturn, 1) from by decide +kernel) rfl) <|
  tk_c (show TrOk D (d + 1) mi_X12_kind 16 (tr_ic 17 0) from ok_iconst (show decode mi_X12_kind.2.1 16 = .ok (.iconst 0, 1) from by decide +kernel) rfl) <|
  tk_c (show TrOk D (d + 1) mi_X12_kind 17 (tr_istore 18 2) from ok_istore_n (show decode mi_X12_kind.2.1 17 = .ok (.istore_n 2, 1) from by decide +kernel) rfl (by decide)) <|
  tk_c (show TrOk D (d + 1) mi_X12_kind 18 (tr_iload 19 1) from ok_iload_n (show decode mi_X12_kind.2.1 18 = .ok (.iload_n 1, 1) from by decide +kernel) rfl) <|
  tk_c (show TrOk D (d + 1) mi_X12_kind 19 (tr_istore 20 3) from ok_istore_n (show decode mi_X12_kind.2.1 19 = .ok (.istore_n 3, 1) from by decide +kernel) rfl (by decide)) <|
  tk_c (show TrOk D (d + 1) mi_X12_kind 20 (tr_iload 21 3) from ok_iload_n (show decode mi_X12_kind.2.1 20 = .ok (.iload_n 3, 1) from by decide +kernel) rfl) <|
  tk_c (show TrOk D (d + 1) mi_X12_kind 21 (tr_ic 23 (-4)) from ok_bipush (show decode mi_X12_kind.2.1 21 = .ok (.bipush (-4), 2) from by decide +kernel) rfl) <|
  tk_c (show TrOk D (d + 1) mi_X12_kind 23 (tr_iceq 26 39) from ok_iceq (show decode mi_X12_kind.2.1 23 = .ok (.if_icmp .eq 16, 3) from by decide +kernel) (by decide)) <|
  tk_c (show TrOk D (d + 1) mi_X12_kind 26 (tr_iinc 29 2 1) from ok_iinc (show decode mi_X12_kind.2.1 26 = .ok (.iinc 2 1, 3) from by decide +kernel) rfl (by decide)) <|
  tk_c (show TrOk D (d + 1) mi_X12_kind 29 (tr_aload 30 0) from ok_aload_n (show decode mi_X12_kind.2.1 29 = .ok (.aload_n 0, 1) from by decide +kernel) rfl) <|
  tk_c (show TrOk D (d + 1) mi_X12_kind 30 (tr_getR 33 13 1201) from ok_getR (ci := 12) (k := 1) (show decode mi_X12_kind.2.1 30 = .ok (.getfield 7, 3) from by decide +kernel) rfl (by decide) (gm 782 (by decide +kernel) rfl) rfl) <|
  tk_c (show TrOk D (d + 1) mi_X12_kind 33 (tr_iload 34 3) from ok_iload_n (show decode mi_X12_kind.2.1 33 = .ok (.iload_n 3, 1) from by decide +kernel) rfl) <|
  tk_c (show TrOk D (d + 1) mi_X12_kind 34 (tr_iald 35) from ok_iald (show decode mi_X12_kind.2.1 34 = .ok (.iaload, 1) from by decide +kernel)) <|
  tk_c (show TrOk D (d + 1) mi_X12_kind 35 (tr_istore 36 3) from ok_istore_n (show decode mi_X12_kind.2.1 35 = .ok (.istore_n 3, 1) from by decide +kernel) rfl (by decide)) <|
  tk_c (show TrOk D (d + 1) mi_X12_kind 36 (tr_goto 20) from ok_goto (show decode mi_X12_kind.2.1 36 = .ok (.goto (-16), 3) from by decide +kernel) (by decide)) <|
  tk_c (show TrOk D (d + 1) mi_X12_kind 39 (tr_iload 40 2) from ok_iload_n (show decode mi_X12_kind.2.1 39 = .ok (.iload_n 2, 1) from by decide +kernel) rfl) <|
  tk_c (show TrOk D (d + 1) mi_X12_kind 40 (tr_ic 42 10) from ok_bipush (show decode mi_X12_kind.2.1 40 = .ok (.bipush 10, 2) from by decide +kernel) rfl) <|
  tk_c (show TrOk D (d + 1) mi_X12_kind 42 (tr_icle 45 48) from ok_icle (show decode mi_X12_kind.2.1 42 = .ok (.if_icmp .le 6, 3) from by decide +kernel) (by decide)) <|
  tk_c (show TrOk D (d + 1) mi_X12_kind 45 (tr_ic 47 (-2)) from ok_bipush (show decode mi_X12_kind.2.1 45 = .ok (.bipush (-2), 2) from by decide +kernel) rfl) <|
  tk_c (show TrOk D (d + 1) mi_X12_kind 47 (tr_iret) from ok_iret (show decode mi_X12_kind.2.1 47 = .ok (.ireturn, 1) from by decide +kernel) rfl) <|
  tk_c (show TrOk D (d + 1) mi_X12_kind 48 (tr_aload 49 0) from ok_aload_n (show decode mi_X12_kind.2.1 48 = .ok (.aload_n 0, 1) from by decide +kernel) rfl) <|
  tk_c (show TrOk D (d + 1) mi_X12_kind 49 (tr_getI 52 13 1200) from ok_getI (ci := 12) (k := 0) (show decode mi_X12_kind.2.1 49 = .ok (.getfield 133, 3) from by decide +kernel) rfl (by decide) (gm 781 (by decide +kernel) rfl) rfl) <|
  tk_c (show TrOk D (d + 1) mi_X12_kind 52 (tr_ic 54 40) from ok_bipush (show decode mi_X12_kind.2.1 52 = .ok (.bipush 40, 2) from by decide +kernel) rfl) <|
  tk_c (show TrOk D (d + 1) mi_X12_kind 54 (tr_icne 57 60) from ok_icne (show decode mi_X12_kind.2.1 54 = .ok (.if_icmp .ne 6, 3) from by decide +kernel) (by decide)) <|
  tk_c (show TrOk D (d + 1) mi_X12_kind 57 (tr_ic 59 (-3)) from ok_bipush (show decode mi_X12_kind.2.1 57 = .ok (.bipush (-3), 2) from by decide +kernel) rfl) <|
  tk_c (show TrOk D (d + 1) mi_X12_kind 59 (tr_iret) from ok_iret (show decode mi_X12_kind.2.1 59 = .ok (.ireturn, 1) from by decide +kernel) rfl) <|
  tk_c (show TrOk D (d + 1) mi_X12_kind 60 (tr_aload 61 0) from ok_aload_n (show decode mi_X12_kind.2.1 60 = .ok (.aload_n 0, 1) from by decide +kernel) rfl) <|
  tk_c (show TrOk D (d + 1) mi_X12_kind 61 (tr_getR 64 13 1201) from ok_getR (ci := 12) (k := 1) (show decode mi_X12_kind.2.1 61 = .ok (.getfield 7, 3) from by decide +kernel) rfl (by decide) (gm 782 (by decide +kernel) rfl) rfl) <|
  tk_c (show TrOk D (d + 1) mi_X12_kind 64 (tr_aload 65 0) from ok_aload_n (show decode mi_X12_kind.2.1 64 = .ok (.aload_n 0, 1) from by decide +kernel) rfl) <|
  tk_c (show TrOk D (d + 1) mi_X12_kind 65 (tr_getI 68 13 1200) from ok_getI (ci := 12) (k := 0) (show decode mi_X12_kind.2.1 65 = .ok (.getfield 133, 3) from by decide +kernel) rfl (by decide) (gm 781 (by decide +kernel) rfl) rfl) <|
  tk_c (show TrOk D (d + 1) mi_X12_kind 68 (tr_iload 69 1) from ok_iload_n (show decode mi_X12_kind.2.1 68 = .ok (.iload_n 1, 1) from by decide +kernel) rfl) <|
  tk_c (show TrOk D (d + 1) mi_X12_kind 69 (tr_iast 70) from ok_iast (show decode mi_X12_kind.2.1 69 = .ok (.iastore, 1) from by decide +kernel)) <|
  tk_n
def tb_X12_kind_1 (C : Nat → Sp) : Tab := [(70, tr_aload 71 0), (71, tr_getR 74 13 1202), (74, tr_aload 75 0), (75, tr_getI 78 13 1200), (78, tr_lc 79 0), (79, tr_last 80), (80, tr_aload 81 0), (81, tr_dup 82), (82, tr_getI 85 13 1200), (85, tr_ic 86 1), (86, tr_iadd 87), (87, tr_putI 90 13 1200), (90, tr_aload 91 0), (91, tr_getI 94 13 1200), (94, tr_ic 95 1), (95, tr_isub 96), (96, tr_iret)]
set_option maxRecDepth 20000 in
theorem tbk_X12_kind_1 {D : DD} {d : Nat} {C : Nat → Sp} (hC : Snd D d C) : ∀ e ∈ tb_X12_kind_1 C, TrOk D (d + 1) mi_X12_kind e.1 e.2 :=
  tk_c (show TrOk D (d + 1) mi_X12_kind 70 (tr_aload 71 0) from ok_aload_n (show decode mi_X12_kind.2.1 70 = .ok (.aload_n 0, 1) from by decide +kernel) rfl) <|
  tk_c (show TrOk D (d + 1) mi_X12_kind 71 (tr_getR 74 13 1202) from ok_getR (ci := 12) (k := 2) (show decode mi_X12_kind.2.1 71 = .ok (.getfield 13, 3) from by decide +kernel) rfl (by decide) (gm 783 (by decide +kernel) rfl) rfl) <|
  tk_c (show TrOk D (d + 1) mi_X12_kind 74 (tr_aload 75 0) from ok_aload_n (show decode mi_X12_kind.2.1 74 = .ok (.aload_n 0, 1) from by decide +kernel) rfl) <|
  tk_c (show TrOk D (d + 1) mi_X12_kind 75 (tr_getI 78 13 1200) from ok_getI (ci := 12) (k := 0) (show decode mi_X12_kind.2.1 75 = .ok (.getfield 133, 3) from by decide +kernel) rfl (by decide) (gm 781 (by decide +kernel) rfl) rfl) <|
  tk_c (show TrOk D (d + 1) mi_X12_kind 78 (tr_lc 79 0) from ok_lconst (show decode mi_X12_kind.2.1 78 = .ok (.lconst 0, 1) from by decide +kernel) rfl) <|
  tk_c (show TrOk D (d + 1) mi_X12_kind 79 (tr_last 80) from ok_last (show decode mi_X12_kind.2.1 79 = .ok (.lastore, 1) from by decide +kernel)) <|
  tk_c (show TrOk D (d + 1) mi_X12_kind 80 (tr_aload 81 0) from ok_aload_n (show decode mi_X12_kind.2.1 80 = .ok (.aload_n 0, 1) from by decide +kernel) rfl) <|
  tk_c (show TrOk D (d + 1) mi_X12_kind 81 (tr_dup 82) from ok_dup (show decode mi_X12_kind.2.1 81 = .ok (.dup, 1) from by decide +kernel)) <|
  tk_c (show TrOk D (d + 1) mi_X12_kind 82 (tr_getI 85 13 1200) from ok_getI (ci := 12) (k := 0) (show decode mi_X12_kind.2.1 82 = .ok (.getfield 133, 3) from by decide +kernel) rfl (by decide) (gm 781 (by decide +kernel) rfl) rfl) <|
  tk_c (show TrOk D (d + 1) mi_X12_kind 85 (tr_ic 86 1) from ok_iconst (show decode mi_X12_kind.2.1 85 = .ok (.iconst 1, 1) from by decide +kernel) rfl) <|
  tk_c (show TrOk D (d + 1) mi_X12_kind 86 (tr_iadd 87) from ok_iadd (show decode mi_X12_kind.2.1 86 = .ok (.iadd, 1) from by decide +kernel)) <|
  tk_c (show TrOk D (d + 1) mi_X12_kind 87 (tr_putI 90 13 1200) from ok_putI (ci := 12) (k := 0) (show decode mi_X12_kind.2.1 87 = .ok (.putfield 133, 3) from by decide +kernel) rfl (by decide) (gm 781 (by decide +kernel) rfl) rfl (Or.inl rfl)) <|
  tk_c (show TrOk D (d + 1) mi_X12_kind 90 (tr_aload 91 0) from ok_aload_n (show decode mi_X12_kind.2.1 90 = .ok (.aload_n 0, 1) from by decide +kernel) rfl) <|
  tk_c (show TrOk D (d + 1) mi_X12_kind 91 (tr_getI 94 13 1200) from ok_getI (ci := 12) (k := 0) (show decode mi_X12_kind.2.1 91 = .ok (.getfield 133, 3) from by decide +kernel) rfl (by decide) (gm 781 (by decide +kernel) rfl) rfl) <|
  tk_c (show TrOk D (d + 1) mi_X12_kind 94 (tr_ic 95 1) from ok_iconst (show decode mi_X12_kind.2.1 94 = .ok (.iconst 1, 1) from by decide +kernel) rfl) <|
  tk_c (show TrOk D (d + 1) mi_X12_kind 95 (tr_isub 96) from ok_isub (show decode mi_X12_kind.2.1 95 = .ok (.isub, 1) from by decide +kernel)) <|
  tk_c (show TrOk D (d + 1) mi_X12_kind 96 (tr_iret) from ok_iret (show decode mi_X12_kind.2.1 96 = .ok (.ireturn, 1) from by decide +kernel) rfl) <|
  tk_n
def tb_X12_kind (C : Nat → Sp) : Tab := tb_X12_kind_0 C ++ (tb_X12_kind_1 C)
theorem tbk_X12_kind {D : DD} {d : Nat} {C : Nat → Sp} (hC : Snd D d C) : ∀ e ∈ tb_X12_kind C, TrOk D (d + 1) mi_X12_kind e.1 e.2 := tk_a (tbk_X12_kind_0 hC) (tbk_X12_kind_1 hC)
theorem a_X12_kind_0 (C : Nat → Sp) : ta (tb_X12_kind C) 0 = tr_iload 1 1 := rfl
theorem a_X12_kind_1 (C : Nat → Sp) : ta (tb_X12_kind C) 1 = tr_ic 3 (-4) := rfl
theorem a_X12_kind_3 (C : Nat → Sp) : ta (tb_X12_kind C) 3 = tr_iceq 6 16 := rfl
theorem a_X12_kind_6 (C : Nat → Sp) : ta (tb_X12_kind C) 6 = tr_aload 7 0 := rfl
theorem a_X12_kind_7 (C : Nat → Sp) : ta (tb_X12_kind C) 7 = tr_iload 8 1 := rfl
theorem a_X12_kind_8 (C : Nat → Sp) : ta (tb_X12_kind C) 8 = tr_callV (C 97) 11 13 1 := rfl
theorem a_X12_kind_11 (C : Nat → Sp) : ta (tb_X12_kind C) 11 = tr_ifne 14 16 := rfl
theorem a_X12_kind_14 (C : Nat → Sp) : ta (tb_X12_kind C) 14 = tr_ic 15 (-1) := rfl
theorem a_X12_kind_15 (C : Nat → Sp) : ta (tb_X12_kind C) 15 = tr_iret := rfl
theorem a_X12_kind_16 (C : Nat → Sp) : ta (tb_X12_kind C) 16 = tr_ic 17 0 := rfl
theorem a_X12_kind_17 (C : Nat → Sp) : ta (tb_X12_kind C) 17 = tr_istore 18 2 := rfl
theorem a_X12_kind_18 (C : Nat → Sp) : ta (tb_X12_kind C) 18 = tr_iload 19 1 := rfl
theorem a_X12_kind_19 (C : Nat → Sp) : ta (tb_X12_kind C) 19 = tr_istore 20 3 := rfl
theorem a_X12_kind_20 (C : Nat → Sp) : ta (tb_X12_kind C) 20 = tr_iload 21 3 := rfl
theorem a_X12_kind_21 (C : Nat → Sp) : ta (tb_X12_kind C) 21 = tr_ic 23 (-4) := rfl
theorem a_X12_kind_23 (C : Nat → Sp) : ta (tb_X12_kind C) 23 = tr_iceq 26 39 := rfl
theorem a_X12_kind_26 (C : Nat → Sp) : ta (tb_X12_kind C) 26 = tr_iinc 29 2 1 := rfl
theorem a_X12_kind_29 (C : Nat → Sp) : ta (tb_X12_kind C) 29 = tr_aload 30 0 := rfl
theorem a_X12_kind_30 (C : Nat → Sp) : ta (tb_X12_kind C) 30 = tr_getR 33 13 1201 := rfl
theorem a_X12_kind_33 (C : Nat → Sp) : ta (tb_X12_kind C) 33 = tr_iload 34 3 := rfl
theorem a_X12_kind_34 (C : Nat → Sp) : ta (tb_X12_kind C) 34 = tr_iald 35 := rfl
theorem a_X12_kind_35 (C : Nat → Sp) : ta (tb_X12_kind C) 35 = tr_istore 36 3 := rfl
theorem a_X12_kind_36 (C : Nat → Sp) : ta (tb_X12_kind C) 36 = tr_goto 20 := rfl
theorem a_X12_kind_39 (C : Nat → Sp) : ta (tb_X12_kind C) 39 = tr_iload 40 2 := rfl
theorem a_X12_kind_40 (C : Nat → Sp) : ta (tb_X12_kind C) 40 = tr_ic 42 10 := rfl
theorem a_X12_kind_42 (C : Nat → Sp) : ta (tb_X12_kind C) 42 = tr_icle 45 48 := rfl
theorem a_X12_kind_45 (C : Nat → Sp) : ta (tb_X12_kind C) 45 = tr_ic 47 (-2) := rfl
theorem a_X12_kind_47 (C : Nat → Sp) : ta (tb_X12_kind C) 47 = tr_iret := rfl
theorem a_X12_kind_48 (C : Nat → Sp) : ta (tb_X12_kind C) 48 = tr_aload 49 0 := rfl
theorem a_X12_kind_49 (C : Nat → Sp) : ta (tb_X12_kind C) 49 = tr_getI 52 13 1200 := rfl
theorem a_X12_kind_52 (C : Nat → Sp) : ta (tb_X12_kind C) 52 = tr_ic 54 40 := rfl
theorem a_X12_kind_54 (C : Nat → Sp) : ta (tb_X12_kind C) 54 = tr_icne 57 60 := rfl
theorem a_X12_kind_57 (C : Nat → Sp) : ta (tb_X12_kind C) 57 = tr_ic 59 (-3) := rfl
theorem a_X12_kind_59 (C : Nat → Sp) : ta (tb_X12_kind C) 59 = tr_iret := rfl
theorem a_X12_kind_60 (C : Nat → Sp) : ta (tb_X12_kind C) 60 = tr_aload 61 0 := rfl
theorem a_X12_kind_61 (C : Nat → Sp) : ta (tb_X12_kind C) 61 = tr_getR 64 13 1201 := rfl
theorem a_X12_kind_64 (C : Nat → Sp) : ta (tb_X12_kind C) 64 = tr_aload 65 0 := rfl
theorem a_X12_kind_65 (C : Nat → Sp) : ta (tb_X12_kind C) 65 = tr_getI 68 13 1200 := rfl
theorem a_X12_kind_68 (C : Nat → Sp) : ta (tb_X12_kind C) 68 = tr_iload 69 1 := rfl
theorem a_X12_kind_69 (C : Nat → Sp) : ta (tb_X12_kind C) 69 = tr_iast 70 := rfl
theorem a_X12_kind_70 (C : Nat → Sp) : ta (tb_X12_kind C) 70 = tr_aload 71 0 := rfl
theorem a_X12_kind_71 (C : Nat → Sp) : ta (tb_X12_kind C) 71 = tr_getR 74 13 1202 := rfl
theorem a_X12_kind_74 (C : Nat → Sp) : ta (tb_X12_kind C) 74 = tr_aload 75 0 := rfl
theorem a_X12_kind_75 (C : Nat → Sp) : ta (tb_X12_kind C) 75 = tr_getI 78 13 1200 := rfl
theorem a_X12_kind_78 (C : Nat → Sp) : ta (tb_X12_kind C) 78 = tr_lc 79 0 := rfl
theorem a_X12_kind_79 (C : Nat → Sp) : ta (tb_X12_kind C) 79 = tr_last 80 := rfl
theorem a_X12_kind_80 (C : Nat → Sp) : ta (tb_X12_kind C) 80 = tr_aload 81 0 := rfl
theorem a_X12_kind_81 (C : Nat → Sp) : ta (tb_X12_kind C) 81 = tr_dup 82 := rfl
theorem a_X12_kind_82 (C : Nat → Sp) : ta (tb_X12_kind C) 82 = tr_getI 85 13 1200 := rfl
theorem a_X12_kind_85 (C : Nat → Sp) : ta (tb_X12_kind C) 85 = tr_ic 86 1 := rfl
theorem a_X12_kind_86 (C : Nat → Sp) : ta (tb_X12_kind C) 86 = tr_iadd 87 := rfl
theorem a_X12_kind_87 (C : Nat → Sp) : ta (tb_X12_kind C) 87 = tr_putI 90 13 1200 := rfl
theorem a_X12_kind_90 (C : Nat → Sp) : ta (tb_X12_kind C) 90 = tr_aload 91 0 := rfl
theorem a_X12_kind_91 (C : Nat → Sp) : ta (tb_X12_kind C) 91 = tr_getI 94 13 1200 := rfl
theorem a_X12_kind_94 (C : Nat → Sp) : ta (tb_X12_kind C) 94 = tr_ic 95 1 := rfl
theorem a_X12_kind_95 (C : Nat → Sp) : ta (tb_X12_kind C) 95 = tr_isub 96 := rfl
theorem a_X12_kind_96 (C : Nat → Sp) : ta (tb_X12_kind C) 96 = tr_iret := rfl

def tb_X12_scene_0 (C : Nat → Sp) : Tab := [(0, tr_aload 1 0), (1, tr_getI 4 13 1203), (4, tr_ic 6 30), (6, tr_icne 9 12), (9, tr_ic 11 (-3)), (11, tr_iret), (12, tr_aload 13 0), (13, tr_getR 16 13 1204), (16, tr_aload 17 0), (17, tr_getI 20 13 1203), (20, tr_ic 21 1), (21, tr_bast 22), (22, tr_aload 23 0), (23, tr_dup 24), (24, tr_getI 27 13 1203), (27, tr_ic 28 1), (28, tr_iadd 29), (29, tr_putI 32 13 1203), (32, tr_aload 33 0), (33, tr_getI 36 13 1203), (36, tr_ic 37 1), (37, tr_isub 38), (38, tr_iret)]
set_option maxRecDepth 20000 in
theorem tbk_X12_scene_0 {D : DD} {d : Nat} {C : Nat → Sp} (hC : Snd D d C) : ∀ e ∈ tb_X12_scene_0 C, TrOk D (d + 1) mi_X12_scene e.1 e.2 :=
  tk_c (show TrOk D (d + 1) mi_X12_scene 0 (tr_aload 1 0) from ok_aload_n (show decode mi_X12_scene.2.1 0 = .ok (.aload_n 0, 1) from by decide +kernel) rfl) <|
  tk_c (show TrOk D (d + 1) mi_X12_scene 1 (tr_getI 4 13 1203) from ok_getI (ci := 12) (k := 3) (show decode mi_X12_scene.2.1 1 = .ok (.getfield 147, 3) from by decide +kernel) rfl (by decide) (gm 784 (by decide +kernel) rfl) rfl) <|
  tk_c (show TrOk D (d + 1) mi_X12_scene 4 (tr_ic 6 30) from ok_bipush (show decode mi_X12_scene.2.1 4 = .ok (.bipush 30, 2) from by decide +kernel) rfl) <|
  tk_c (show TrOk D (d + 1) mi_X12_scene 6 (tr_icne 9 12) from ok_icne (show decode mi_X12_scene.2.1 6 = .ok (.if_icmp .ne 6, 3) from by decide +kernel) (by decide)) <|
  tk_c (show TrOk D (d + 1) mi_X12_scene 9 (tr_ic 11 (-3)) from ok_bipush (show decode mi_X12_scene.2.1 9 = .ok (.bipush (-3), 2) from by decide +kernel) rfl) <|
  tk_c (show TrOk D (d + 1) mi_X12_scene 11 (tr_iret) from ok_iret (show decode mi_X12_scene.2.1 11 = .ok (.ireturn, 1) from by decide +kernel) rfl) <|
  tk_c (show TrOk D (d + 1) mi_X12_scene 12 (tr_aload 13 0) from ok_aload_n (show decode mi_X12_scene.2.1 12 = .ok (.aload_n 0, 1) from by decide +kernel) rfl) <|
  tk_c (show TrOk D (d + 1) mi_X12_scene 13 (tr_getR 16 13 1204) from ok_getR (ci := 12) (k := 4) (show decode mi_X12_scene.2.1 13 = .ok (.getfield 17, 3) from by decide +kernel) rfl (by decide) (gm 785 (by decide +kernel) rfl) rfl) <|
  tk_c (show TrOk D (d + 1) mi_X12_scene 16 (tr_aload 17 0) from ok_aload_n (show decode mi_X12_scene.2.1 16 = .ok (.aload_n 0, 1) from by decide +kernel) rfl) <|
  tk_c (show TrOk D (d + 1) mi_X12_scene 17 (tr_getI 20 13 1203) from ok_getI (ci := 12) (k := 3) (show decode mi_X12_scene.2.1 17 = .ok (.getfield 147, 3) from by decide +kernel) rfl (by decide) (gm 784 (by decide +kernel) rfl) rfl) <|
  tk_c (show TrOk D (d + 1) mi_X12_scene 20 (tr_ic 21 1) from ok_iconst (show decode mi_X12_scene.2.1 20 = .ok (.iconst 1, 1) from by decide +kernel) rfl) <|
  tk_c (show TrOk D (d + 1) mi_X12_scene 21 (tr_bast 22) from ok_bast (show decode mi_X12_scene.2.1 21 = .ok (.bastore, 1) from by decide +kernel)) <|
  tk_c (show TrOk D (d + 1) mi_X12_scene 22 (tr_aload 23 0) from ok_aload_n (show decode mi_X12_scene.2.1 22 = .ok (.aload_n 0, 1) from by decide +kernel) rfl) <|
  tk_c (show TrOk D (d + 1) mi_X12_scene 23 (tr_dup 24) from ok_dup (show decode mi_X12_scene.2.1 23 = .ok (.dup, 1) from by decide +kernel)) <|
  tk_c (show TrOk D (d + 1) mi_X12_scene 24 (tr_getI 27 13 1203) from ok_getI (ci := 12) (k := 3) (show decode mi_X12_scene.2.1 24 = .ok (.getfield 147, 3) from by decide +kernel) rfl (by decide) (gm 784 (by decide +kernel) rfl) rfl) <|
  tk_c (show TrOk D (d + 1) mi_X12_scene 27 (tr_ic 28 1) from ok_iconst (show decode mi_X12_scene.2.1 27 = .ok (.iconst 1, 1) from by decide +kernel) rfl) <|
  tk_c (show TrOk D (d + 1) mi_X12_scene 28 (tr_iadd 29) from ok_iadd (show decode mi_X12_scene.2.1 28 = .ok (.iadd, 1) from by decide +kernel)) <|
  tk_c (show TrOk D (d + 1) mi_X12_scene 29 (tr_putI 32 13 1203) from ok_putI (ci := 12) (k := 3) (show decode mi_X12_scene.2.1 29 = .ok (.putfield 147, 3) from by decide +kernel) rfl (by decide) (gm 784 (by decide +kernel) rfl) rfl (Or.inl rfl)) <|
  tk_c (show TrOk D (d + 1) mi_X12_scene 32 (tr_aload 33 0) from ok_aload_n (show decode mi_X12_scene.2.1 32 = .ok (.aload_n 0, 1) from by decide +kernel) rfl) <|
  tk_c (show TrOk D (d + 1) mi_X12_scene 33 (tr_getI 36 13 1203) from ok_getI (ci := 12) (k := 3) (show decode mi_X12_scene.2.1 33 = .ok (.getfield 147, 3) from by decide +kernel) rfl (by decide) (gm 784 (by decide +kernel) rfl) rfl) <|
  tk_c (show TrOk D (d + 1) mi_X12_scene 36 (tr_ic 37 1) from ok_iconst (show decode mi_X12_scene.2.1 36 = .ok (.iconst 1, 1) from by decide +kernel) rfl) <|
  tk_c (show TrOk D (d + 1) mi_X12_scene 37 (tr_isub 38) from ok_isub (show decode mi_X12_scene.2.1 37 = .ok (.isub, 1) from by decide +kernel)) <|
  tk_c (show TrOk D (d + 1) mi_X12_scene 38 (tr_iret) from ok_iret (show decode mi_X12_scene.2.1 38 = .ok (.ireturn, 1) from by decide +kernel) rfl) <|
  tk_n
def tb_X12_scene (C : Nat → Sp) : Tab := tb_X12_scene_0 C
theorem tbk_X12_scene {D : DD} {d : Nat} {C : Nat → Sp} (hC : Snd D d C) : ∀ e ∈ tb_X12_scene C, TrOk D (d + 1) mi_X12_scene e.1 e.2 := tbk_X12_scene_0 hC
theorem a_X12_scene_0 (C : Nat → Sp) : ta (tb_X12_scene C) 0 = tr_aload 1 0 := rfl
theorem a_X12_scene_1 (C : Nat → Sp) : ta (tb_X12_scene C) 1 = tr_getI 4 13 1203 := rfl
theorem a_X12_scene_4 (C : Nat → Sp) : ta (tb_X12_scene C) 4 = tr_ic 6 30 := rfl
theorem a_X12_scene_6 (C : Nat → Sp) : ta (tb_X12_scene C) 6 = tr_icne 9 12 := rfl
theorem a_X12_scene_9 (C : Nat → Sp) : ta (tb_X12_scene C) 9 = tr_ic 11 (-3) := rfl
theorem a_X12_scene_11 (C : Nat → Sp) : ta (tb_X12_scene C) 11 = tr_iret := rfl
theorem a_X12_scene_12 (C : Nat → Sp) : ta (tb_X12_scene C) 12 = tr_aload 13 0 := rfl
theorem a_X12_scene_13 (C : Nat → Sp) : ta (tb_X12_scene C) 13 = tr_getR 16 13 1204 := rfl
theorem a_X12_scene_16 (C : Nat → Sp) : ta (tb_X12_scene C) 16 = tr_aload 17 0 := rfl
theorem a_X12_scene_17 (C : Nat → Sp) : ta (tb_X12_scene C) 17 = tr_getI 20 13 1203 := rfl
theorem a_X12_scene_20 (C : Nat → Sp) : ta (tb_X12_scene C) 20 = tr_ic 21 1 := rfl
theorem a_X12_scene_21 (C : Nat → Sp) : ta (tb_X12_scene C) 21 = tr_bast 22 := rfl
theorem a_X12_scene_22 (C : Nat → Sp) : ta (tb_X12_scene C) 22 = tr_aload 23 0 := rfl
theorem a_X12_scene_23 (C : Nat → Sp) : ta (tb_X12_scene C) 23 = tr_dup 24 := rfl
theorem a_X12_scene_24 (C : Nat → Sp) : ta (tb_X12_scene C) 24 = tr_getI 27 13 1203 := rfl
theorem a_X12_scene_27 (C : Nat → Sp) : ta (tb_X12_scene C) 27 = tr_ic 28 1 := rfl
theorem a_X12_scene_28 (C : Nat → Sp) : ta (tb_X12_scene C) 28 = tr_iadd 29 := rfl
theorem a_X12_scene_29 (C : Nat → Sp) : ta (tb_X12_scene C) 29 = tr_putI 32 13 1203 := rfl
theorem a_X12_scene_32 (C : Nat → Sp) : ta (tb_X12_scene C) 32 = tr_aload 33 0 := rfl
theorem a_X12_scene_33 (C : Nat → Sp) : ta (tb_X12_scene C) 33 = tr_getI 36 13 1203 := rfl
theorem a_X12_scene_36 (C : Nat → Sp) : ta (tb_X12_scene C) 36 = tr_ic 37 1 := rfl
theorem a_X12_scene_37 (C : Nat → Sp) : ta (tb_X12_scene C) 37 = tr_isub 38 := rfl
theorem a_X12_scene_38 (C : Nat → Sp) : ta (tb_X12_scene C) 38 = tr_iret := rfl

def tb_X12_shut_0 (C : Nat → Sp) : Tab := [(0, tr_aload 1 0), (1, tr_getR 4 13 1204), (4, tr_iload 5 1), (5, tr_ic 6 0), (6, tr_bast 7), (7, tr_ic 8 0), (8, tr_istore 9 2), (9, tr_ic 10 0), (10, tr_istore 11 3), (11, tr_iload 12 3), (12, tr_aload 13 0), (13, tr_getI 16 13 1205), (16, tr_icge 19 54), (19, tr_aload 20 0), (20, tr_getR 23 13 1213), (23, tr_iload 24 3), (24, tr_bald 25), (25, tr_ifeq 28 48), (28, tr_aload 29 0), (29, tr_getR 32 13 1209), (32, tr_iload 33 3), (33, tr_iald 34), (34, tr_iload 35 1), (35, tr_icne 38 48), (38, tr_aload 39 0), (39, tr_getR 42 13 1213), (42, tr_iload 43 3), (43, tr_ic 44 0), (44, tr_bast 45), (45, tr_iinc 48 2 1), (48, tr_iinc 51 3 1), (51, tr_goto 11), (54, tr_iload 55 2), (55, tr_iret)]
set_option maxRecDepth 20000 in
theorem tbk_X12_shut_0 {D : DD} {d : Nat} {C : Nat → Sp} (hC : Snd D d C) : ∀ e ∈ tb_X12_shut_0 C, TrOk D (d + 1) mi_X12_shut e.1 e.2 :=
  tk_c (show TrOk D (d + 1) mi_X12_shut 0 (tr_aload 1 0) from ok_aload_n (show decode mi_X12_shut.2.1 0 = .ok (.aload_n 0, 1) from by decide +kernel) rfl) <|
  tk_c (show TrOk D (d + 1) mi_X12_shut 1 (tr_getR 4 13 1204) from ok_getR (ci := 12) (k := 4) (show decode mi_X12_shut.2.1 1 = .ok (.getfield 17, 3) from by decide +kernel) rfl (by decide) (gm 785 (by decide +kernel) rfl) rfl) <|
  tk_c (show TrOk D (d + 1) mi_X12_shut 4 (tr_iload 5 1) from ok_iload_n (show decode mi_X12_shut.2.1 4 = .ok (.iload_n 1, 1) from by decide +kernel) rfl) <|
  tk_c (show TrOk D (d + 1) mi_X12_shut 5 (tr_ic 6 0) from ok_iconst (show decode mi_X12_shut.2.1 5 = .ok (.iconst 0, 1) from by decide +kernel) rfl) <|
  tk_c (show TrOk D (d + 1) mi_X12_shut 6 (tr_bast 7) from ok_bast (show decode mi_X12_shut.2.1 6 = .ok (.bastore, 1) from by decide +kernel)) <|
  tk_c (show TrOk D (d + 1) mi_X12_shut 7 (tr_ic 8 0) from ok_iconst (show decode mi_X12_shut.2.1 7 = .ok (.iconst 0, 1) from by decide +kernel) rfl) <|
  tk_c (show TrOk D (d + 1) mi_X12_shut 8 (tr_istore 9 2) from ok_istore_n (show decode mi_X12_shut.2.1 8 = .ok (.istore_n 2, 1) from by decide +kernel) rfl (by decide)) <|
  tk_c (show TrOk D (d + 1) mi_X12_shut 9 (tr_ic 10 0) from ok_iconst (show decode mi_X12_shut.2.1 9 = .ok (.iconst 0, 1) from by decide +kernel) rfl) <|
  tk_c (show TrOk D (d + 1) mi_X12_shut 10 (tr_istore 11 3) from ok_istore_n (show decode mi_X12_shut.2.1 10 = .ok (.istore_n 3, 1) from by decide +kernel) rfl (by decide)) <|
  tk_c (show TrOk D (d + 1) mi_X12_shut 11 (tr_iload 12 3) from ok_iload_n (show decode mi_X12_shut.2.1 11 = .ok (.iload_n 3, 1) from by decide +kernel) rfl) <|
  tk_c (show TrOk D (d + 1) mi_X12_shut 12 (tr_aload 13 0) from ok_aload_n (show decode mi_X12_shut.2.1 12 = .ok (.aload_n 0, 1) from by decide +kernel) rfl) <|
  tk_c (show TrOk D (d + 1) mi_X12_shut 13 (tr_getI 16 13 1205) from ok_getI (ci := 12) (k := 5) (show decode mi_X12_shut.2.1 13 = .ok (.getfield 140, 3) from by decide +kernel) rfl (by decide) (gm 786 (by decide +kernel) rfl) rfl) <|
  tk_c (show TrOk D (d + 1) mi_X12_shut 16 (tr_icge 19 54) from ok_icge (show decode mi_X12_shut.2.1 16 = .ok (.if_icmp .ge 38, 3) from by decide +kernel) (by decide)) <|
  tk_c (show TrOk D (d + 1) mi_X12_shut 19 (tr_aload 20 0) from ok_aload_n (show decode mi_X12_shut.2.1 19 = .ok (.aload_n 0, 1) from by decide +kernel) rfl) <|
  tk_c (show TrOk D (d + 1) mi_X12_shut 20 (tr_getR 23 13 1213) from ok_getR (ci := 12) (k := 13) (show decode mi_X12_shut.2.1 20 = .ok (.getfield 42, 3) from by decide +kernel) rfl (by decide) (gm 794 (by decide +kernel) rfl) rfl) <|
  tk_c (show TrOk D (d + 1) mi_X12_shut 23 (tr_iload 24 3) from ok_iload_n (show decode mi_X12_shut.2.1 23 = .ok (.iload_n 3, 1) from by decide +kernel) rfl) <|
  tk_c (show TrOk D (d + 1) mi_X12_shut 24 (tr_bald 25) from ok_bald (show decode mi_X12_shut.2.1 24 = .ok (.baload, 1) from by decide +kernel)) <|
  tk_c (show TrOk D (d + 1) mi_X12_shut 25 (tr_ifeq 28 48) from ok_ifeq (show decode mi_X12_shut.2.1 25 = .ok (.ifCond .eq 23, 3) from by decide +kernel) (by decide)) <|
  tk_c (show TrOk D (d + 1) mi_X12_shut 28 (tr_aload 29 0) from ok_aload_n (show decode mi_X12_shut.2.1 28 = .ok (.aload_n 0, 1) from by decide +kernel) rfl) <|
  tk_c (show TrOk D (d + 1) mi_X12_shut 29 (tr_getR 32 13 1209) from ok_getR (ci := 12) (k := 9) (show decode mi_X12_shut.2.1 29 = .ok (.getfield 30, 3) from by decide +kernel) rfl (by decide) (gm 790 (by decide +kernel) rfl) rfl) <|
  tk_c (show TrOk D (d + 1) mi_X12_shut 32 (tr_iload 33 3) from ok_iload_n (show decode mi_X12_shut.2.1 32 = .ok (.iload_n 3, 1) from by decide +kernel) rfl) <|
  tk_c (show TrOk D (d + 1) mi_X12_shut 33 (tr_iald 34) from ok_iald (show decode mi_X12_shut.2.1 33 = .ok (.iaload, 1) from by decide +kernel)) <|
  tk_c (show TrOk D (d + 1) mi_X12_shut 34 (tr_iload 35 1) from ok_iload_n (show decode mi_X12_shut.2.1 34 = .ok (.iload_n 1, 1) from by decide +kernel) rfl) <|
  tk_c (show TrOk D (d + 1) mi_X12_shut 35 (tr_icne 38 48) from ok_icne (show decode mi_X12_shut.2.1 35 = .ok (.if_icmp .ne 13, 3) from by decide +kernel) (by decide)) <|
  tk_c (show TrOk D (d + 1) mi_X12_shut 38 (tr_aload 39 0) from ok_aload_n (show decode mi_X12_shut.2.1 38 = .ok (.aload_n 0, 1) from by decide +kernel) rfl) <|
  tk_c (show TrOk D (d + 1) mi_X12_shut 39 (tr_getR 42 13 1213) from ok_getR (ci := 12) (k := 13) (show decode mi_X12_shut.2.1 39 = .ok (.getfield 42, 3) from by decide +kernel) rfl (by decide) (gm 794 (by decide +kernel) rfl) rfl) <|
  tk_c (show TrOk D (d + 1) mi_X12_shut 42 (tr_iload 43 3) from ok_iload_n (show decode mi_X12_shut.2.1 42 = .ok (.iload_n 3, 1) from by decide +kernel) rfl) <|
  tk_c (show TrOk D (d + 1) mi_X12_shut 43 (tr_ic 44 0) from ok_iconst (show decode mi_X12_shut.2.1 43 = .ok (.iconst 0, 1) from by decide +kernel) rfl) <|
  tk_c (show TrOk D (d + 1) mi_X12_shut 44 (tr_bast 45) from ok_bast (show decode mi_X12_shut.2.1 44 = .ok (.bastore, 1) from by decide +kernel)) <|
  tk_c (show TrOk D (d + 1) mi_X12_shut 45 (tr_iinc 48 2 1) from ok_iinc (show decode mi_X12_shut.2.1 45 = .ok (.iinc 2 1, 3) from by decide +kernel) rfl (by decide)) <|
  tk_c (show TrOk D (d + 1) mi_X12_shut 48 (tr_iinc 51 3 1) from ok_iinc (show decode mi_X12_shut.2.1 48 = .ok (.iinc 3 1, 3) from by decide +kernel) rfl (by decide)) <|
  tk_c (show TrOk D (d + 1) mi_X12_shut 51 (tr_goto 11) from ok_goto (show decode mi_X12_shut.2.1 51 = .ok (.goto (-40), 3) from by decide +kernel) (by decide)) <|
  tk_c (show TrOk D (d + 1) mi_X12_shut 54 (tr_iload 55 2) from ok_iload_n (show decode mi_X12_shut.2.1 54 = .ok (.iload_n 2, 1) from by decide +kernel) rfl) <|
  tk_c (show TrOk D (d + 1) mi_X12_shut 55 (tr_iret) from ok_iret (show decode mi_X12_shut.2.1 55 = .ok (.ireturn, 1) from by decide +kernel) rfl) <|
  tk_n
def tb_X12_shut (C : Nat → Sp) : Tab := tb_X12_shut_0 C
theorem tbk_X12_shut {D : DD} {d : Nat} {C : Nat → Sp} (hC : Snd D d C) : ∀ e ∈ tb_X12_shut C, TrOk D (d + 1) mi_X12_shut e.1 e.2 := tbk_X12_shut_0 hC
theorem a_X12_shut_0 (C : Nat → Sp) : ta (tb_X12_shut C) 0 = tr_aload 1 0 := rfl
theorem a_X12_shut_1 (C : Nat → Sp) : ta (tb_X12_shut C) 1 = tr_getR 4 13 1204 := rfl
theorem a_X12_shut_4 (C : Nat → Sp) : ta (tb_X12_shut C) 4 = tr_iload 5 1 := rfl
theorem a_X12_shut_5 (C : Nat → Sp) : ta (tb_X12_shut C) 5 = tr_ic 6 0 := rfl
theorem a_X12_shut_6 (C : Nat → Sp) : ta (tb_X12_shut C) 6 = tr_bast 7 := rfl
theorem a_X12_shut_7 (C : Nat → Sp) : ta (tb_X12_shut C) 7 = tr_ic 8 0 := rfl
theorem a_X12_shut_8 (C : Nat → Sp) : ta (tb_X12_shut C) 8 = tr_istore 9 2 := rfl
theorem a_X12_shut_9 (C : Nat → Sp) : ta (tb_X12_shut C) 9 = tr_ic 10 0 := rfl
theorem a_X12_shut_10 (C : Nat → Sp) : ta (tb_X12_shut C) 10 = tr_istore 11 3 := rfl
theorem a_X12_shut_11 (C : Nat → Sp) : ta (tb_X12_shut C) 11 = tr_iload 12 3 := rfl
theorem a_X12_shut_12 (C : Nat → Sp) : ta (tb_X12_shut C) 12 = tr_aload 13 0 := rfl
theorem a_X12_shut_13 (C : Nat → Sp) : ta (tb_X12_shut C) 13 = tr_getI 16 13 1205 := rfl
theorem a_X12_shut_16 (C : Nat → Sp) : ta (tb_X12_shut C) 16 = tr_icge 19 54 := rfl
theorem a_X12_shut_19 (C : Nat → Sp) : ta (tb_X12_shut C) 19 = tr_aload 20 0 := rfl
theorem a_X12_shut_20 (C : Nat → Sp) : ta (tb_X12_shut C) 20 = tr_getR 23 13 1213 := rfl
theorem a_X12_shut_23 (C : Nat → Sp) : ta (tb_X12_shut C) 23 = tr_iload 24 3 := rfl
theorem a_X12_shut_24 (C : Nat → Sp) : ta (tb_X12_shut C) 24 = tr_bald 25 := rfl
theorem a_X12_shut_25 (C : Nat → Sp) : ta (tb_X12_shut C) 25 = tr_ifeq 28 48 := rfl
theorem a_X12_shut_28 (C : Nat → Sp) : ta (tb_X12_shut C) 28 = tr_aload 29 0 := rfl
theorem a_X12_shut_29 (C : Nat → Sp) : ta (tb_X12_shut C) 29 = tr_getR 32 13 1209 := rfl
theorem a_X12_shut_32 (C : Nat → Sp) : ta (tb_X12_shut C) 32 = tr_iload 33 3 := rfl
theorem a_X12_shut_33 (C : Nat → Sp) : ta (tb_X12_shut C) 33 = tr_iald 34 := rfl
theorem a_X12_shut_34 (C : Nat → Sp) : ta (tb_X12_shut C) 34 = tr_iload 35 1 := rfl
theorem a_X12_shut_35 (C : Nat → Sp) : ta (tb_X12_shut C) 35 = tr_icne 38 48 := rfl
theorem a_X12_shut_38 (C : Nat → Sp) : ta (tb_X12_shut C) 38 = tr_aload 39 0 := rfl
theorem a_X12_shut_39 (C : Nat → Sp) : ta (tb_X12_shut C) 39 = tr_getR 42 13 1213 := rfl
theorem a_X12_shut_42 (C : Nat → Sp) : ta (tb_X12_shut C) 42 = tr_iload 43 3 := rfl
theorem a_X12_shut_43 (C : Nat → Sp) : ta (tb_X12_shut C) 43 = tr_ic 44 0 := rfl
theorem a_X12_shut_44 (C : Nat → Sp) : ta (tb_X12_shut C) 44 = tr_bast 45 := rfl
theorem a_X12_shut_45 (C : Nat → Sp) : ta (tb_X12_shut C) 45 = tr_iinc 48 2 1 := rfl
theorem a_X12_shut_48 (C : Nat → Sp) : ta (tb_X12_shut C) 48 = tr_iinc 51 3 1 := rfl
theorem a_X12_shut_51 (C : Nat → Sp) : ta (tb_X12_shut C) 51 = tr_goto 11 := rfl
theorem a_X12_shut_54 (C : Nat → Sp) : ta (tb_X12_shut C) 54 = tr_iload 55 2 := rfl
theorem a_X12_shut_55 (C : Nat → Sp) : ta (tb_X12_shut C) 55 = tr_iret := rfl

def tb_X12_close_0 (C : Nat → Sp) : Tab := [(0, tr_iload 1 1), (1, tr_i2l 2), (2, tr_lc 3 0), (3, tr_aload 4 0), (4, tr_getI 7 13 1203), (7, tr_ic 8 1), (8, tr_isub 9), (9, tr_i2l 10), (10, tr_callS (C 96) 13 3), (13, tr_ifne 16 18), (16, tr_ic 17 (-1)), (17, tr_iret), (18, tr_aload 19 0), (19, tr_getR 22 13 1204), (22, tr_iload 23 1), (23, tr_bald 24), (24, tr_ifeq 27 35), (27, tr_aload 28 0), (28, tr_iload 29 1), (29, tr_callV (C 101) 32 13 1), (32, tr_goto 37), (35, tr_ic 37 (-2)), (37, tr_iret)]
set_option maxRecDepth 20000 in
theorem tbk_X12_close_0 {D : DD} {d : Nat} {C : Nat → Sp} (hC : Snd D d C) : ∀ e ∈ tb_X12_close_0 C, TrOk D (d + 1) mi_X12_close e.1 e.2 :=
  tk_c (show TrOk D (d + 1) mi_X12_close 0 (tr_iload 1 1) from ok_iload_n (show decode mi_X12_close.2.1 0 = .ok (.iload_n 1, 1) from by decide +kernel) rfl) <|
  tk_c (show TrOk D (d + 1) mi_X12_close 1 (tr_i2l 2) from ok_i2l (show decode mi_X12_close.2.1 1 = .ok (.i2l, 1) from by decide +kernel)) <|
  tk_c (show TrOk D (d + 1) mi_X12_close 2 (tr_lc 3 0) from ok_lconst (show decode mi_X12_close.2.1 2 = .ok (.lconst 0, 1) from by decide +kernel) rfl) <|
  tk_c (show TrOk D (d + 1) mi_X12_close 3 (tr_aload 4 0) from ok_aload_n (show decode mi_X12_close.2.1 3 = .ok (.aload_n 0, 1) from by decide +kernel) rfl) <|
  tk_c (show TrOk D (d + 1) mi_X12_close 4 (tr_getI 7 13 1203) from ok_getI (ci := 12) (k := 3) (show decode mi_X12_close.2.1 4 = .ok (.getfield 147, 3) from by decide +kernel) rfl (by decide) (gm 784 (by decide +kernel) rfl) rfl) <|
  tk_c (show TrOk D (d + 1) mi_X12_close 7 (tr_ic 8 1) from ok_iconst (show decode mi_X12_close.2.1 7 = .ok (.iconst 1, 1) from by decide +kernel) rfl) <|
  tk_c (show TrOk D (d + 1) mi_X12_close 8 (tr_isub 9) from ok_isub (show decode mi_X12_close.2.1 8 = .ok (.isub, 1) from by decide +kernel)) <|
  tk_c (show TrOk D (d + 1) mi_X12_close 9 (tr_i2l 10) from ok_i2l (show decode mi_X12_close.2.1 9 = .ok (.i2l, 1) from by decide +kernel)) <|
  tk_c (show TrOk D (d + 1) mi_X12_close 10 (tr_callS (C 96) 13 3) from ok_callS (show decode mi_X12_close.2.1 10 = .ok (.invokestatic 136, 3) from by decide +kernel) mok_X12_in (gm 955 (by decide +kernel) rfl) (gm 956 (by decide +kernel) rfl) (hC 96)) <|
  tk_c (show TrOk D (d + 1) mi_X12_close 13 (tr_ifne 16 18) from ok_ifne (show decode mi_X12_close.2.1 13 = .ok (.ifCond .ne 5, 3) from by decide +kernel) (by decide)) <|
  tk_c (show TrOk D (d + 1) mi_X12_close 16 (tr_ic 17 (-1)) from ok_iconst (show decode mi_X12_close.2.1 16 = .ok (.iconst (-1), 1) from by decide +kernel) rfl) <|
  tk_c (show TrOk D (d + 1) mi_X12_close 17 (tr_iret) from ok_iret (show decode mi_X12_close.2.1 17 = .ok (.ireturn, 1) from by decide +kernel) rfl) <|
  tk_c (show TrOk D (d + 1) mi_X12_close 18 (tr_aload 19 0) from ok_aload_n (show decode mi_X12_close.2.1 18 = .ok (.aload_n 0, 1) from by decide +kernel) rfl) <|
  tk_c (show TrOk D (d + 1) mi_X12_close 19 (tr_getR 22 13 1204) from ok_getR (ci := 12) (k := 4) (show decode mi_X12_close.2.1 19 = .ok (.getfield 17, 3) from by decide +kernel) rfl (by decide) (gm 785 (by decide +kernel) rfl) rfl) <|
  tk_c (show TrOk D (d + 1) mi_X12_close 22 (tr_iload 23 1) from ok_iload_n (show decode mi_X12_close.2.1 22 = .ok (.iload_n 1, 1) from by decide +kernel) rfl) <|
  tk_c (show TrOk D (d + 1) mi_X12_close 23 (tr_bald 24) from ok_bald (show decode mi_X12_close.2.1 23 = .ok (.baload, 1) from by decide +kernel)) <|
  tk_c (show TrOk D (d + 1) mi_X12_close 24 (tr_ifeq 27 35) from ok_ifeq (show decode mi_X12_close.2.1 24 = .ok (.ifCond .eq 11, 3) from by decide +kernel) (by decide)) <|
  tk_c (show TrOk D (d + 1) mi_X12_close 27 (tr_aload 28 0) from ok_aload_n (show decode mi_X12_close.2.1 27 = .ok (.aload_n 0, 1) from by decide +kernel) rfl) <|
  tk_c (show TrOk D (d + 1) mi_X12_close 28 (tr_iload 29 1) from ok_iload_n (show decode mi_X12_close.2.1 28 = .ok (.iload_n 1, 1) from by decide +kernel) rfl) <|
  tk_c (show TrOk D (d + 1) mi_X12_close 29 (tr_callV (C 101) 32 13 1) from ok_callV (ci := 12) (show decode mi_X12_close.2.1 29 = .ok (.invokevirtual 150, 3) from by decide +kernel) mok_X12_shut rfl rfl (gm 966 (by decide +kernel) rfl) (gm 968 (by decide +kernel) rfl) (gm 13 (by decide +kernel) rfl) (hC 101)) <|
  tk_c (show TrOk D (d + 1) mi_X12_close 32 (tr_goto 37) from ok_goto (show decode mi_X12_close.2.1 32 = .ok (.goto 5, 3) from by decide +kernel) (by decide)) <|
  tk_c (show TrOk D (d + 1) mi_X12_close 35 (tr_ic 37 (-2)) from ok_bipush (show decode mi_X12_close.2.1 35 = .ok (.bipush (-2), 2) from by decide +kernel) rfl) <|
  tk_c (show TrOk D (d + 1) mi_X12_close 37 (tr_iret) from ok_iret (show decode mi_X12_close.2.1 37 = .ok (.ireturn, 1) from by decide +kernel) rfl) <|
  tk_n
def tb_X12_close (C : Nat → Sp) : Tab := tb_X12_close_0 C
theorem tbk_X12_close {D : DD} {d : Nat} {C : Nat → Sp} (hC : Snd D d C) : ∀ e ∈ tb_X12_close C, TrOk D (d + 1) mi_X12_close e.1 e.2 := tbk_X12_close_0 hC
theorem a_X12_close_0 (C : Nat → Sp) : ta (tb_X12_close C) 0 = tr_iload 1 1 := rfl
theorem a_X12_close_1 (C : Nat → Sp) : ta (tb_X12_close C) 1 = tr_i2l 2 := rfl
theorem a_X12_close_2 (C : Nat → Sp) : ta (tb_X12_close C) 2 = tr_lc 3 0 := rfl
theorem a_X12_close_3 (C : Nat → Sp) : ta (tb_X12_close C) 3 = tr_aload 4 0 := rfl
theorem a_X12_close_4 (C : Nat → Sp) : ta (tb_X12_close C) 4 = tr_getI 7 13 1203 := rfl
theorem a_X12_close_7 (C : Nat → Sp) : ta (tb_X12_close C) 7 = tr_ic 8 1 := rfl
theorem a_X12_close_8 (C : Nat → Sp) : ta (tb_X12_close C) 8 = tr_isub 9 := rfl
theorem a_X12_close_9 (C : Nat → Sp) : ta (tb_X12_close C) 9 = tr_i2l 10 := rfl
theorem a_X12_close_10 (C : Nat → Sp) : ta (tb_X12_close C) 10 = tr_callS (C 96) 13 3 := rfl
theorem a_X12_close_13 (C : Nat → Sp) : ta (tb_X12_close C) 13 = tr_ifne 16 18 := rfl
theorem a_X12_close_16 (C : Nat → Sp) : ta (tb_X12_close C) 16 = tr_ic 17 (-1) := rfl
theorem a_X12_close_17 (C : Nat → Sp) : ta (tb_X12_close C) 17 = tr_iret := rfl
theorem a_X12_close_18 (C : Nat → Sp) : ta (tb_X12_close C) 18 = tr_aload 19 0 := rfl
theorem a_X12_close_19 (C : Nat → Sp) : ta (tb_X12_close C) 19 = tr_getR 22 13 1204 := rfl
theorem a_X12_close_22 (C : Nat → Sp) : ta (tb_X12_close C) 22 = tr_iload 23 1 := rfl
theorem a_X12_close_23 (C : Nat → Sp) : ta (tb_X12_close C) 23 = tr_bald 24 := rfl
theorem a_X12_close_24 (C : Nat → Sp) : ta (tb_X12_close C) 24 = tr_ifeq 27 35 := rfl
theorem a_X12_close_27 (C : Nat → Sp) : ta (tb_X12_close C) 27 = tr_aload 28 0 := rfl
theorem a_X12_close_28 (C : Nat → Sp) : ta (tb_X12_close C) 28 = tr_iload 29 1 := rfl
theorem a_X12_close_29 (C : Nat → Sp) : ta (tb_X12_close C) 29 = tr_callV (C 101) 32 13 1 := rfl
theorem a_X12_close_32 (C : Nat → Sp) : ta (tb_X12_close C) 32 = tr_goto 37 := rfl
theorem a_X12_close_35 (C : Nat → Sp) : ta (tb_X12_close C) 35 = tr_ic 37 (-2) := rfl
theorem a_X12_close_37 (C : Nat → Sp) : ta (tb_X12_close C) 37 = tr_iret := rfl

def tb_X12_listen_0 (C : Nat → Sp) : Tab := [(0, tr_aload 1 0), (1, tr_iload 2 1), (2, tr_callV (C 97) 5 13 1), (5, tr_ifeq 8 44), (8, tr_iload 9 2), (9, tr_i2l 10), (10, tr_lc 11 0), (11, tr_lc 14 2), (14, tr_callS (C 96) 17 3), (17, tr_ifeq 20 44), (20, tr_iload 22 4), (22, tr_ic 24 (-4)), (24, tr_iceq 27 46), (27, tr_iload 29 4), (29, tr_i2l 30), (30, tr_lc 31 0), (31, tr_aload 32 0), (32, tr_getI 35 13 1203), (35, tr_ic 36 1), (36, tr_isub 37), (37, tr_i2l 38), (38, tr_callS (C 96) 41 3), (41, tr_ifne 44 46), (44, tr_ic 45 (-1)), (45, tr_iret), (46, tr_iload 48 4), (48, tr_ic 50 (-4)), (50, tr_iceq 53 66), (53, tr_aload 54 0), (54, tr_getR 57 13 1204), (57, tr_iload 59 4), (59, tr_bald 60), (60, tr_ifne 63 66), (63, tr_ic 65 (-2)), (65, tr_iret), (66, tr_aload 67 0), (67, tr_getI 70 13 1205), (70, tr_ic 73 200), (73, tr_icne 76 79), (76, tr_ic 78 (-3))]
set_option maxRecDepth 20000 in
theorem tbk_X12_listen_0 {D : DD} {d : Nat} {C : Nat → Sp} (hC : Snd D d C) : ∀ e ∈ tb_X12_listen_0 C, TrOk D (d + 1) mi_X12_listen e.1 e.2 :=
  tk_c (show TrOk D (d + 1) mi_X12_listen 0 (tr_aload 1 0) from ok_aload_n (show decode mi_X12_listen.2.1 0 = .ok (.aload_n 0, 1) from by decide +kernel) rfl) <|
  tk_c (show TrOk D (d + 1) mi_X12_listen 1 (tr_iload 2 1) from ok_iload_n (show decode mi_X12_listen.2.1 1 = .ok (.iload_n 1, 1) from by decide +kernel) rfl) <|
  tk_c (show TrOk D (d + 1) mi_X12_listen 2 (tr_callV (C 97) 5 13 1) from ok_callV (ci := 12) (show decode mi_X12_listen.2.1 2 = .ok (.invokevirtual 143, 3) from by decide +kernel) mok_X12_isKind rfl rfl (gm 951 (by decide +kernel) rfl) (gm 953 (by decide +kernel) rfl) (gm 12 (by decide +kernel) rfl) (hC 97)) <|
  tk_c (show TrOk D (d + 1) mi_X12_listen 5 (tr_ifeq 8 44) from ok_ifeq (show decode mi_X12_listen.2.1 5 = .ok (.ifCond .eq 39, 3) from by decide +kernel) (by decide)) <|
  tk_c (show TrOk D (d + 1) mi_X12_listen 8 (tr_iload 9 2) from ok_iload_n (show decode mi_X12_listen.2.1 8 = .ok (.iload_n 2, 1) from by decide +kernel) rfl) <|
  tk_c (show TrOk D (d + 1) mi_X12_listen 9 (tr_i2l 10) from ok_i2l (show decode mi_X12_listen.2.1 9 = .ok (.i2l, 1) from by decide +kernel)) <|
  tk_c (show TrOk D (d + 1) mi_X12_listen 10 (tr_lc 11 0) from ok_lconst (show decode mi_X12_listen.2.1 10 = .ok (.lconst 0, 1) from by decide +kernel) rfl) <|
  tk_c (show TrOk D (d + 1) mi_X12_listen 11 (tr_lc 14 2) from ok_ldc2 (show decode mi_X12_listen.2.1 11 = .ok (.ldc2_w 154, 3) from by decide +kernel) (gm 974 (by decide +kernel) rfl)) <|
  tk_c (show TrOk D (d + 1) mi_X12_listen 14 (tr_callS (C 96) 17 3) from ok_callS (show decode mi_X12_listen.2.1 14 = .ok (.invokestatic 136, 3) from by decide +kernel) mok_X12_in (gm 955 (by decide +kernel) rfl) (gm 956 (by decide +kernel) rfl) (hC 96)) <|
  tk_c (show TrOk D (d + 1) mi_X12_listen 17 (tr_ifeq 20 44) from ok_ifeq (show decode mi_X12_listen.2.1 17 = .ok (.ifCond .eq 27, 3) from by decide +kernel) (by decide)) <|
  tk_c (show TrOk D (d + 1) mi_X12_listen 20 (tr_iload 22 4) from ok_iload (show decode mi_X12_listen.2.1 20 = .ok (.iload 4, 2) from by decide +kernel)) <|
  tk_c (show TrOk D (d + 1) mi_X12_listen 22 (tr_ic 24 (-4)) from ok_bipush (show decode mi_X12_listen.2.1 22 = .ok (.bipush (-4), 2) from by decide +kernel) rfl) <|
  tk_c (show TrOk D (d + 1) mi_X12_listen 24 (tr_iceq 27 46) from ok_iceq (show decode mi_X12_listen.2.1 24 = .ok (.if_icmp .eq 22, 3) from by decide +kernel) (by decide)) <|
  tk_c (show TrOk D (d + 1) mi_X12_listen 27 (tr_iload 29 4) from ok_iload (show decode mi_X12_listen.2.1 27 = .ok (.iload 4, 2) from by decide +kernel)) <|
  tk_c (show TrOk D (d + 1) mi_X12_listen 29 (tr_i2l 30) from ok_i2l (show decode mi_X12_listen.2.1 29 = .ok (.i2l, 1) from by decide +kernel)) <|
  tk_c (show TrOk D (d + 1) mi_X12_listen 30 (tr_lc 31 0) from ok_lconst (show decode mi_X12_listen.2.1 30 = .ok (.lconst 0, 1) from by decide +kernel) rfl) <|
  tk_c (show TrOk D (d + 1) mi_X12_listen 31 (tr_aload 32 0) from ok_aload_n (show decode mi_X12_listen.2.1 31 = .ok (.aload_n 0, 1) from by decide +kernel) rfl) <|
  tk_c (show TrOk D (d + 1) mi_X12_listen 32 (tr_getI 35 13 1203) from ok_getI (ci := 12) (k := 3) (show decode mi_X12_listen.2.1 32 = .ok (.getfield 147, 3) from by decide +kernel) rfl (by decide) (gm 784 (by decide +kernel) rfl) rfl) <|
  tk_c (show TrOk D (d + 1) mi_X12_listen 35 (tr_ic 36 1) from ok_iconst (show decode mi_X12_listen.2.1 35 = .ok (.iconst 1, 1) from by decide +kernel) rfl) <|
  tk_c (show TrOk D (d + 1) mi_X12_listen 36 (tr_isub 37) from ok_isub (show decode mi_X12_listen.2.1 36 = .ok (.isub, 1) from by decide +kernel)) <|
  tk_c (show TrOk D (d + 1) mi_X12_listen 37 (tr_i2l 38) from ok_i2l (show decode mi_X12_listen.2.1 37 = .ok (.i2l, 1) from by decide +kernel)) <|
  tk_c (show TrOk D (d + 1) mi_X12_listen 38 (tr_callS (C 96) 41 3) from ok_callS (show decode mi_X12_listen.2.1 38 = .ok (.invokestatic 136, 3) from by decide +kernel) mok_X12_in (gm 955 (by decide +kernel) rfl) (gm 956 (by decide +kernel) rfl) (hC 96)) <|
  tk_c (show TrOk D (d + 1) mi_X12_listen 41 (tr_ifne 44 46) from ok_ifne (show decode mi_X12_listen.2.1 41 = .ok (.ifCond .ne 5, 3) from by decide +kernel) (by decide)) <|
  tk_c (show TrOk D (d + 1) mi_X12_listen 44 (tr_ic 45 (-1)) from ok_iconst (show decode mi_X12_listen.2.1 44 = .ok (.iconst (-1), 1) from by decide +kernel) rfl) <|
  tk_c (show TrOk D (d + 1) mi_X12_listen 45 (tr_iret) from ok_iret (show decode mi_X12_listen.2.1 45 = .ok (.ireturn, 1) from by decide +kernel) rfl) <|
  tk_c (show TrOk D (d + 1) mi_X12_listen 46 (tr_iload 48 4) from ok_iload (show decode mi_X12_listen.2.1 46 = .ok (.iload 4, 2) from by decide +kernel)) <|
  tk_c (show TrOk D (d + 1) mi_X12_listen 48 (tr_ic 50 (-4)) from ok_bipush (show decode mi_X12_listen.2.1 48 = .ok (.bipush (-4), 2) from by decide +kernel) rfl) <|
  tk_c (show TrOk D (d + 1) mi_X12_listen 50 (tr_iceq 53 66) from ok_iceq (show decode mi_X12_listen.2.1 50 = .ok (.if_icmp .eq 16, 3) from by decide +kernel) (by decide)) <|
  tk_c (show TrOk D (d + 1) mi_X12_listen 53 (tr_aload 54 0) from ok_aload_n (show decode mi_X12_listen.2.1 53 = .ok (.aload_n 0, 1) from by decide +kernel) rfl) <|
  tk_c (show TrOk D (d + 1) mi_X12_listen 54 (tr_getR 57 13 1204) from ok_getR (ci := 12) (k := 4) (show decode mi_X12_listen.2.1 54 = .ok (.getfield 17, 3) from by decide +kernel) rfl (by decide) (gm 785 (by decide +kernel) rfl) rfl) <|
  tk_c (show TrOk D (d + 1) mi_X12_listen 57 (tr_iload 59 4) from ok_iload (show decode mi_X12_listen.2.1 57 = .ok (.iload 4, 2) from by decide +kernel)) <|
  tk_c (show TrOk D (d + 1) mi_X12_listen 59 (tr_bald 60) from ok_bald (show decode mi_X12_listen.2.1 59 = .ok (.baload, 1) from by decide +kernel)) <|
  tk_c (show TrOk D (d + 1) mi_X12_listen 60 (tr_ifne 63 66) from ok_ifne (show decode mi_X12_listen.2.1 60 = .ok (.ifCond .ne 6, 3) from by decide +kernel) (by decide)) <|
  tk_c (show TrOk D (d + 1) mi_X12_listen 63 (tr_ic 65 (-2)) from ok_bipush (show decode mi_X12_listen.2.1 63 = .ok (.bipush (-2), 2) from by decide +kernel) rfl) <|
  tk_c (show TrOk D (d + 1) mi_X12_listen 65 (tr_iret) from ok_iret (show decode mi_X12_listen.2.1 65 = .ok (.ireturn, 1) from by decide +kernel) rfl) <|
  tk_c (show TrOk D (d + 1) mi_X12_listen 66 (tr_aload 67 0) from ok_aload_n (show decode mi_X12_listen.2.1 66 = .ok (.aload_n 0, 1) from by decide +kernel) rfl) <|
  tk_c (show TrOk D (d + 1) mi_X12_listen 67 (tr_getI 70 13 1205) from ok_getI (ci := 12) (k := 5) (show decode mi_X12_listen.2.1 67 = .ok (.getfield 140, 3) from by decide +kernel) rfl (by decide) (gm 786 (by decide +kernel) rfl) rfl) <|
  tk_c (show TrOk D (d + 1) mi_X12_listen 70 (tr_ic 73 200) from ok_sipush (show decode mi_X12_listen.2.1 70 = .ok (.sipush 200, 3) from by decide +kernel) rfl) <|
  tk_c (show TrOk D (d + 1) mi_X12_listen 73 (tr_icne 76 79) from ok_icne (show decode mi_X12_listen.2.1 73 = .ok (.if_icmp .ne 6, 3) from by decide +kernel) (by decide)) <|
  tk_c (show TrOk D (d + 1) mi_X12_listen 76 (tr_ic 78 (-3)) from ok_bipush (show decode mi_X12_listen.2.1 76 = .ok (.bipush (-3), 2) from by decide +kernel) rfl) <|
  tk_n
def tb_X12_listen_1 (C : Nat → Sp) : Tab := [(78, tr_iret), (79, tr_aload 80 0), (80, tr_getI 83 13 1205), (83, tr_istore 85 5), (85, tr_aload 86 0), (86, tr_dup 87), (87, tr_getI 90 13 1205), (90, tr_ic 91 1), (91, tr_iadd 92), (92, tr_putI 95 13 1205), (95, tr_aload 96 0), (96, tr_getR 99 13 1206), (99, tr_iload 101 5), (101, tr_iload 102 1), (102, tr_iast 103), (103, tr_aload 104 0), (104, tr_getR 107 13 1207), (107, tr_iload 109 5), (109, tr_iload 110 2), (110, tr_iast 111), (111, tr_aload 112 0), (112, tr_getR 115 13 1208), (115, tr_iload 117 5), (117, tr_iload 118 3), (118, tr_iast 119), (119, tr_aload 120 0), (120, tr_getR 123 13 1209), (123, tr_iload 125 5), (125, tr_iload 127 4), (127, tr_iast 128), (128, tr_aload 129 0), (129, tr_getR 132 13 1210), (132, tr_iload 134 5), (134, tr_lc 137 (-9223372036854775808)), (137, tr_last 138), (138, tr_aload 139 0), (139, tr_getR 142 13 1211), (142, tr_iload 144 5), (144, tr_lc 147 9223372036854775807), (147, tr_last 148)]
set_option maxRecDepth 20000 in
theorem tbk_X12_listen_1 {D : DD} {d : Nat} {C : Nat → Sp} (hC : Snd D d C) : ∀ e ∈ tb_X12_listen_1 C, TrOk D (d + 1) mi_X12_listen e.1 e.2 :=
  tk_c (show TrOk D (d + 1) mi_X12_listen 78 (tr_iret) from ok_iret (show decode mi_X12_listen.2.1 78 = .ok (.ireturn, 1) from by decide +kernel) rfl) <|
  tk_c (show TrOk D (d + 1) mi_X12_listen 79 (tr_aload 80 0) from ok_aload_n (show decode mi_X12_listen.2.1 79 = .ok (.aload_n 0, 1) from by decide +kernel) rfl) <|
  tk_c (show TrOk D (d + 1) mi_X12_listen 80 (tr_getI 83 13 1205) from ok_getI (ci := 12) (k := 5) (show decode mi_X12_listen.2.1 80 = .ok (.getfield 140, 3) from by decide +kernel) rfl (by decide) (gm 786 (by decide +kernel) rfl) rfl) <|
  tk_c (show TrOk D (d + 1) mi_X12_listen 83 (tr_istore 85 5) from ok_istore (show decode mi_X12_listen.2.1 83 = .ok (.istore 5, 2) from by decide +kernel) (by decide)) <|
  tk_c (show TrOk D (d + 1) mi_X12_listen 85 (tr_aload 86 0) from ok_aload_n (show decode mi_X12_listen.2.1 85 = .ok (.aload_n 0, 1) from by decide +kernel) rfl) <|
  tk_c (show TrOk D (d + 1) mi_X12_listen 86 (tr_dup 87) from ok_dup (show decode mi_X12_listen.2.1 86 = .ok (.dup, 1) from by decide +kernel)) <|
  tk_c (show TrOk D (d + 1) mi_X12_listen 87 (tr_getI 90 13 1205) from ok_getI (ci := 12) (k := 5) (show decode mi_X12_listen.2.1 87 = .ok (.getfield 140, 3) from by decide +kernel) rfl (by decide) (gm 786 (by decide +kernel) rfl) rfl) <|
  tk_c (show TrOk D (d + 1) mi_X12_listen 90 (tr_ic 91 1) from ok_iconst (show decode mi_X12_listen.2.1 90 = .ok (.iconst 1, 1) from by decide +kernel) rfl) <|
  tk_c (show TrOk D (d + 1) mi_X12_listen 91 (tr_iadd 92) from ok_iadd (show decode mi_X12_listen.2.1 91 = .ok (.iadd, 1) from by decide +kernel)) <|
  tk_c (show TrOk D (d + 1) mi_X12_listen 92 (tr_putI 95 13 1205) from ok_putI (ci := 12) (k := 5) (show decode mi_X12_listen.2.1 92 = .ok (.putfield 140, 3) from by decide +kernel) rfl (by decide) (gm 786 (by decide +kernel) rfl) rfl (Or.inl rfl)) <|
  tk_c (show TrOk D (d + 1) mi_X12_listen 95 (tr_aload 96 0) from ok_aload_n (show decode mi_X12_listen.2.1 95 = .ok (.aload_n 0, 1) from by decide +kernel) rfl) <|
  tk_c (show TrOk D (d + 1) mi_X12_listen 96 (tr_getR 99 13 1206) from ok_getR (ci := 12) (k := 6) (show decode mi_X12_listen.2.1 96 = .ok (.getfield 21, 3) from by decide +kernel) rfl (by decide) (gm 787 (by decide +kernel) rfl) rfl) <|
  tk_c (show TrOk D (d + 1) mi_X12_listen 99 (tr_iload 101 5) from ok_iload (show decode mi_X12_listen.2.1 99 = .ok (.iload 5, 2) from by decide +kernel)) <|
  tk_c (show TrOk D (d + 1) mi_X12_listen 101 (tr_iload 102 1) from ok_iload_n (show decode mi_X12_listen.2.1 101 = .ok (.iload_n 1, 1) from by decide +kernel) rfl) <|
  tk_c (show TrOk D (d + 1) mi_X12_listen 102 (tr_iast 103) from ok_iast (show decode mi_X12_listen.2.1 102 = .ok (.iastore, 1) from by decide +kernel)) <|
  tk_c (show TrOk D (d + 1) mi_X12_listen 103 (tr_aload 104 0) from ok_aload_n (show decode mi_X12_listen.2.1 103 = .ok (.aload_n 0, 1) from by decide +kernel) rfl) <|
  tk_c (show TrOk D (d + 1) mi_X12_listen 104 (tr_getR 107 13 1207) from ok_getR (ci := 12) (k := 7) (show decode mi_X12_listen.2.1 104 = .ok (.getfield 24, 3) from by decide +kernel) rfl (by decide) (gm 788 (by decide +kernel) rfl) rfl) <|
  tk_c (show TrOk D (d + 1) mi_X12_listen 107 (tr_iload 109 5) from ok_iload (show decode mi_X12_listen.2.1 107 = .ok (.iload 5, 2) from by decide +kernel)) <|
  tk_c (show TrOk D (d + 1) mi_X12_listen 109 (tr_iload 110 2) from ok_iload_n (show decode mi_X12_listen.2.1 109 = .ok (.iload_n 2, 1) from by decide +kernel) rfl) <|
  tk_c (show TrOk D (d + 1) mi_X12_listen 110 (tr_iast 111) from ok_iast (show decode mi_X12_listen.2.1 110 = .ok (.iastore, 1) from by decide +kernel)) <|
  tk_c (show TrOk D (d + 1) mi_X12_listen 111 (tr_aload 112 0) from ok_aload_n (show decode mi_X12_listen.2.1 111 = .ok (.aload_n 0, 1) from by decide +kernel) rfl) <|
  tk_c (show TrOk D (d + 1) mi_X12_listen 112 (tr_getR 115 13 1208) from ok_getR (ci := 12) (k := 8) (show decode mi_X12_listen.2.1 112 = .ok (.getfield 27, 3) from by decide +kernel) rfl (by decide) (gm 789 (by decide +kernel) rfl) rfl) <|
  tk_c (show TrOk D (d + 1) mi_X12_listen 115 (tr_iload 117 5) from ok_iload (show decode mi_X12_listen.2.1 115 = .ok (.iload 5, 2) from by decide +kernel)) <|
  tk_c (show TrOk D (d + 1) mi_X12_listen 117 (tr_iload 118 3) from ok_iload_n (show decode mi_X12_listen.2.1 117 = .ok (.iload_n 3, 1) from by decide +kernel) rfl) <|
  tk_c (show TrOk D (d + 1) mi_X12_listen 118 (tr_iast 119) from ok_iast (show decode mi_X12_listen.2.1 118 = .ok (.iastore, 1) from by decide +kernel)) <|
  tk_c (show TrOk D (d + 1) mi_X12_listen 119 (tr_aload 120 0) from ok_aload_n (show decode mi_X12_listen.2.1 119 = .ok (.aload_n 0, 1) from by decide +kernel) rfl) <|
  tk_c (show TrOk D (d + 1) mi_X12_listen 120 (tr_getR 123 13 1209) from ok_getR (ci := 12) (k := 9) (show decode mi_X12_listen.2.1 120 = .ok (.getfield 30, 3) from by decide +kernel) rfl (by decide) (gm 790 (by decide +kernel) rfl) rfl) <|
  tk_c (show TrOk D (d + 1) mi_X12_listen 123 (tr_iload 125 5) from ok_iload (show decode mi_X12_listen.2.1 123 = .ok (.iload 5, 2) from by decide +kernel)) <|
  tk_c (show TrOk D (d + 1) mi_X12_listen 125 (tr_iload 127 4) from ok_iload (show decode mi_X12_listen.2.1 125 = .ok (.iload 4, 2) from by decide +kernel)) <|
  tk_c (show TrOk D (d + 1) mi_X12_listen 127 (tr_iast 128) from ok_iast (show decode mi_X12_listen.2.1 127 = .ok (.iastore, 1) from by decide +kernel)) <|
  tk_c (show TrOk D (d + 1) mi_X12_listen 128 (tr_aload 129 0) from ok_aload_n (show decode mi_X12_listen.2.1 128 = .ok (.aload_n 0, 1) from by decide +kernel) rfl) <|
  tk_c (show TrOk D (d + 1) mi_X12_listen 129 (tr_getR 132 13 1210) from ok_getR (ci := 12) (k := 10) (show decode mi_X12_listen.2.1 129 = .ok (.getfield 33, 3) from by decide +kernel) rfl (by decide) (gm 791 (by decide +kernel) rfl) rfl) <|
  tk_c (show TrOk D (d + 1) mi_X12_listen 132 (tr_iload 134 5) from ok_iload (show decode mi_X12_listen.2.1 132 = .ok (.iload 5, 2) from by decide +kernel)) <|
  tk_c (show TrOk D (d + 1) mi_X12_listen 134 (tr_lc 137 (-9223372036854775808)) from ok_ldc2 (show decode mi_X12_listen.2.1 134 = .ok (.ldc2_w 156, 3) from by decide +kernel) (gm 975 (by decide +kernel) rfl)) <|
  tk_c (show TrOk D (d + 1) mi_X12_listen 137 (tr_last 138) from ok_last (show decode mi_X12_listen.2.1 137 = .ok (.lastore, 1) from by decide +kernel)) <|
  tk_c (show TrOk D (d + 1) mi_X12_listen 138 (tr_aload 139 0) from ok_aload_n (show decode mi_X12_listen.2.1 138 = .ok (.aload_n 0, 1) from by decide +kernel) rfl) <|
  tk_c (show TrOk D (d + 1) mi_X12_listen 139 (tr_getR 142 13 1211) from ok_getR (ci := 12) (k := 11) (show decode mi_X12_listen.2.1 139 = .ok (.getfield 36, 3) from by decide +kernel) rfl (by decide) (gm 792 (by decide +kernel) rfl) rfl) <|
  tk_c (show TrOk D (d + 1) mi_X12_listen 142 (tr_iload 144 5) from ok_iload (show decode mi_X12_listen.2.1 142 = .ok (.iload 5, 2) from by decide +kernel)) <|
  tk_c (show TrOk D (d + 1) mi_X12_listen 144 (tr_lc 147 9223372036854775807) from ok_ldc2 (show decode mi_X12_listen.2.1 144 = .ok (.ldc2_w 158, 3) from by decide +kernel) (gm 976 (by decide +kernel) rfl)) <|
  tk_c (show TrOk D (d + 1) mi_X12_listen 147 (tr_last 148) from ok_last (show decode mi_X12_listen.2.1 147 = .ok (.lastore, 1) from by decide +kernel)) <|
  tk_n
def tb_X12_listen_2 (C : Nat → Sp) : Tab := [(148, tr_aload 149 0), (149, tr_getR 152 13 1212), (152, tr_iload 154 5), (154, tr_ic 155 0), (155, tr_bast 156), (156, tr_aload 157 0), (157, tr_getR 160 13 1213), (160, tr_iload 162 5), (162, tr_ic 163 1), (163, tr_bast 164), (164, tr_aload 165 0), (165, tr_getR 168 13 1214), (168, tr_iload 170 5), (170, tr_ic 171 0), (171, tr_iast 172), (172, tr_aload 173 0), (173, tr_getR 176 13 1217), (176, tr_iload 178 5), (178, tr_ic 179 0), (179, tr_iast 180), (180, tr_aload 181 0), (181, tr_getR 184 13 1218), (184, tr_iload 186 5), (186, tr_ic 187 0), (187, tr_iast 188), (188, tr_iload 190 5), (190, tr_iret)]
set_option maxRecDepth 20000 in
theorem tbk_X12_listen_2 {D : DD} {d : Nat} {C : Nat → Sp} (hC : Snd D d C) : ∀ e ∈ tb_X12_listen_2 C, TrOk D (d + 1) mi_X12_listen e.1 e.2 :=
  tk_c (show TrOk D (d + 1) mi_X12_listen 148 (tr_aload 149 0) from ok_aload_n (show decode mi_X12_listen.2.1 148 = .ok (.aload_n 0, 1) from by decide +kernel) rfl) <|
  tk_c (show TrOk D (d + 1) mi_X12_listen 149 (tr_getR 152 13 1212) from ok_getR (ci := 12) (k := 12) (show decode mi_X12_listen.2.1 149 = .ok (.getfield 39, 3) from by decide +kernel) rfl (by decide) (gm 793 (by decide +kernel) rfl) rfl) <|
  tk_c (show TrOk D (d + 1) mi_X12_listen 152 (tr_iload 154 5) from ok_iload (show decode mi_X12_listen.2.1 152 = .ok (.iload 5, 2) from by decide +kernel)) <|
  tk_c (show TrOk D (d + 1) mi_X12_listen 154 (tr_ic 155 0) from ok_iconst (show decode mi_X12_listen.2.1 154 = .ok (.iconst 0, 1) from by decide +kernel) rfl) <|
  tk_c (show TrOk D (d + 1) mi_X12_listen 155 (tr_bast 156) from ok_bast (show decode mi_X12_listen.2.1 155 = .ok (.bastore, 1) from by decide +kernel)) <|
  tk_c (show TrOk D (d + 1) mi_X12_listen 156 (tr_aload 157 0) from ok_aload_n (show decode mi_X12_listen.2.1 156 = .ok (.aload_n 0, 1) from by decide +kernel) rfl) <|
  tk_c (show TrOk D (d + 1) mi_X12_listen 157 (tr_getR 160 13 1213) from ok_getR (ci := 12) (k := 13) (show decode mi_X12_listen.2.1 157 = .ok (.getfield 42, 3) from by decide +kernel) rfl (by decide) (gm 794 (by decide +kernel) rfl) rfl) <|
  tk_c (show TrOk D (d + 1) mi_X12_listen 160 (tr_iload 162 5) from ok_iload (show decode mi_X12_listen.2.1 160 = .ok (.iload 5, 2) from by decide +kernel)) <|
  tk_c (show TrOk D (d + 1) mi_X12_listen 162 (tr_ic 163 1) from ok_iconst (show decode mi_X12_listen.2.1 162 = .ok (.iconst 1, 1) from by decide +kernel) rfl) <|
  tk_c (show TrOk D (d + 1) mi_X12_listen 163 (tr_bast 164) from ok_bast (show decode mi_X12_listen.2.1 163 = .ok (.bastore, 1) from by decide +kernel)) <|
  tk_c (show TrOk D (d + 1) mi_X12_listen 164 (tr_aload 165 0) from ok_aload_n (show decode mi_X12_listen.2.1 164 = .ok (.aload_n 0, 1) from by decide +kernel) rfl) <|
  tk_c (show TrOk D (d + 1) mi_X12_listen 165 (tr_getR 168 13 1214) from ok_getR (ci := 12) (k := 14) (show decode mi_X12_listen.2.1 165 = .ok (.getfield 45, 3) from by decide +kernel) rfl (by decide) (gm 795 (by decide +kernel) rfl) rfl) <|
  tk_c (show TrOk D (d + 1) mi_X12_listen 168 (tr_iload 170 5) from ok_iload (show decode mi_X12_listen.2.1 168 = .ok (.iload 5, 2) from by decide +kernel)) <|
  tk_c (show TrOk D (d + 1) mi_X12_listen 170 (tr_ic 171 0) from ok_iconst (show decode mi_X12_listen.2.1 170 = .ok (.iconst 0, 1) from by decide +kernel) rfl) <|
  tk_c (show TrOk D (d + 1) mi_X12_listen 171 (tr_iast 172) from ok_iast (show decode mi_X12_listen.2.1 171 = .ok (.iastore, 1) from by decide +kernel)) <|
  tk_c (show TrOk D (d + 1) mi_X12_listen 172 (tr_aload 173 0) from ok_aload_n (show decode mi_X12_listen.2.1 172 = .ok (.aload_n 0, 1) from by decide +kernel) rfl) <|
  tk_c (show TrOk D (d + 1) mi_X12_listen 173 (tr_getR 176 13 1217) from ok_getR (ci := 12) (k := 17) (show decode mi_X12_listen.2.1 173 = .ok (.getfield 54, 3) from by decide +kernel) rfl (by decide) (gm 798 (by decide +kernel) rfl) rfl) <|
  tk_c (show TrOk D (d + 1) mi_X12_listen 176 (tr_iload 178 5) from ok_iload (show decode mi_X12_listen.2.1 176 = .ok (.iload 5, 2) from by decide +kernel)) <|
  tk_c (show TrOk D (d + 1) mi_X12_listen 178 (tr_ic 179 0) from ok_iconst (show decode mi_X12_listen.2.1 178 = .ok (.iconst 0, 1) from by decide +kernel) rfl) <|
  tk_c (show TrOk D (d + 1) mi_X12_listen 179 (tr_iast 180) from ok_iast (show decode mi_X12_listen.2.1 179 = .ok (.iastore, 1) from by decide +kernel)) <|
  tk_c (show TrOk D (d + 1) mi_X12_listen 180 (tr_aload 181 0) from ok_aload_n (show decode mi_X12_listen.2.1 180 = .ok (.aload_n 0, 1) from by decide +kernel) rfl) <|
  tk_c (show TrOk D (d + 1) mi_X12_listen 181 (tr_getR 184 13 1218) from ok_getR (ci := 12) (k := 18) (show decode mi_X12_listen.2.1 181 = .ok (.getfield 57, 3) from by decide +kernel) rfl (by decide) (gm 799 (by decide +kernel) rfl) rfl) <|
  tk_c (show TrOk D (d + 1) mi_X12_listen 184 (tr_iload 186 5) from ok_iload (show decode mi_X12_listen.2.1 184 = .ok (.iload 5, 2) from by decide +kernel)) <|
  tk_c (show TrOk D (d + 1) mi_X12_listen 186 (tr_ic 187 0) from ok_iconst (show decode mi_X12_listen.2.1 186 = .ok (.iconst 0, 1) from by decide +kernel) rfl) <|
  tk_c (show TrOk D (d + 1) mi_X12_listen 187 (tr_iast 188) from ok_iast (show decode mi_X12_listen.2.1 187 = .ok (.iastore, 1) from by decide +kernel)) <|
  tk_c (show TrOk D (d + 1) mi_X12_listen 188 (tr_iload 190 5) from ok_iload (show decode mi_X12_listen.2.1 188 = .ok (.iload 5, 2) from by decide +kernel)) <|
  tk_c (show TrOk D (d + 1) mi_X12_listen 190 (tr_iret) from ok_iret (show decode mi_X12_listen.2.1 190 = .ok (.ireturn, 1) from by decide +kernel) rfl) <|
  tk_n
def tb_X12_listen (C : Nat → Sp) : Tab := tb_X12_listen_0 C ++ (tb_X12_listen_1 C ++ (tb_X12_listen_2 C))
theorem tbk_X12_listen {D : DD} {d : Nat} {C : Nat → Sp} (hC : Snd D d C) : ∀ e ∈ tb_X12_listen C, TrOk D (d + 1) mi_X12_listen e.1 e.2 := tk_a (tbk_X12_listen_0 hC) (tk_a (tbk_X12_listen_1 hC) (tbk_X12_listen_2 hC))
theorem a_X12_listen_0 (C : Nat → Sp) : ta (tb_X12_listen C) 0 = tr_aload 1 0 := rfl
theorem a_X12_listen_1 (C : Nat → Sp) : ta (tb_X12_listen C) 1 = tr_iload 2 1 := rfl
theorem a_X12_listen_2 (C : Nat → Sp) : ta (tb_X12_listen C) 2 = tr_callV (C 97) 5 13 1 := rfl
theorem a_X12_listen_5 (C : Nat → Sp) : ta (tb_X12_listen C) 5 = tr_ifeq 8 44 := rfl
theorem a_X12_listen_8 (C : Nat → Sp) : ta (tb_X12_listen C) 8 = tr_iload 9 2 := rfl
theorem a_X12_listen_9 (C : Nat → Sp) : ta (tb_X12_listen C) 9 = tr_i2l 10 := rfl
theorem a_X12_listen_10 (C : Nat → Sp) : ta (tb_X12_listen C) 10 = tr_lc 11 0 := rfl
theorem a_X12_listen_11 (C : Nat → Sp) : ta (tb_X12_listen C) 11 = tr_lc 14 2 := rfl
theorem a_X12_listen_14 (C : Nat → Sp) : ta (tb_X12_listen C) 14 = tr_callS (C 96) 17 3 := rfl
theorem a_X12_listen_17 (C : Nat → Sp) : ta (tb_X12_listen C) 17 = tr_ifeq 20 44 := rfl
theorem a_X12_listen_20 (C : Nat → Sp) : ta (tb_X12_listen C) 20 = tr_iload 22 4 := rfl
theorem a_X12_listen_22 (C : Nat → Sp) : ta (tb_X12_listen C) 22 = tr_ic 24 (-4) := rfl
theorem a_X12_listen_24 (C : Nat → Sp) : ta (tb_X12_listen C) 24 = tr_iceq 27 46 := rfl
theorem a_X12_listen_27 (C : Nat → Sp) : ta (tb_X12_listen C) 27 = tr_iload 29 4 := rfl
theorem a_X12_listen_29 (C : Nat → Sp) : ta (tb_X12_listen C) 29 = tr_i2l 30 := rfl
theorem a_X12_listen_30 (C : Nat → Sp) : ta (tb_X12_listen C) 30 = tr_lc 31 0 := rfl
theorem a_X12_listen_31 (C : Nat → Sp) : ta (tb_X12_listen C) 31 = tr_aload 32 0 := rfl
theorem a_X12_listen_32 (C : Nat → Sp) : ta (tb_X12_listen C) 32 = tr_getI 35 13 1203 := rfl
theorem a_X12_listen_35 (C : Nat → Sp) : ta (tb_X12_listen C) 35 = tr_ic 36 1 := rfl
theorem a_X12_listen_36 (C : Nat → Sp) : ta (tb_X12_listen C) 36 = tr_isub 37 := rfl
theorem a_X12_listen_37 (C : Nat → Sp) : ta (tb_X12_listen C) 37 = tr_i2l 38 := rfl
theorem a_X12_listen_38 (C : Nat → Sp) : ta (tb_X12_listen C) 38 = tr_callS (C 96) 41 3 := rfl
theorem a_X12_listen_41 (C : Nat → Sp) : ta (tb_X12_listen C) 41 = tr_ifne 44 46 := rfl
theorem a_X12_listen_44 (C : Nat → Sp) : ta (tb_X12_listen C) 44 = tr_ic 45 (-1) := rfl
theorem a_X12_listen_45 (C : Nat → Sp) : ta (tb_X12_listen C) 45 = tr_iret := rfl
theorem a_X12_listen_46 (C : Nat → Sp) : ta (tb_X12_listen C) 46 = tr_iload 48 4 := rfl
theorem a_X12_listen_48 (C : Nat → Sp) : ta (tb_X12_listen C) 48 = tr_ic 50 (-4) := rfl
theorem a_X12_listen_50 (C : Nat → Sp) : ta (tb_X12_listen C) 50 = tr_iceq 53 66 := rfl
theorem a_X12_listen_53 (C : Nat → Sp) : ta (tb_X12_listen C) 53 = tr_aload 54 0 := rfl
theorem a_X12_listen_54 (C : Nat → Sp) : ta (tb_X12_listen C) 54 = tr_getR 57 13 1204 := rfl
theorem a_X12_listen_57 (C : Nat → Sp) : ta (tb_X12_listen C) 57 = tr_iload 59 4 := rfl
theorem a_X12_listen_59 (C : Nat → Sp) : ta (tb_X12_listen C) 59 = tr_bald 60 := rfl
theorem a_X12_listen_60 (C : Nat → Sp) : ta (tb_X12_listen C) 60 = tr_ifne 63 66 := rfl
theorem a_X12_listen_63 (C : Nat → Sp) : ta (tb_X12_listen C) 63 = tr_ic 65 (-2) := rfl
theorem a_X12_listen_65 (C : Nat → Sp) : ta (tb_X12_listen C) 65 = tr_iret := rfl
theorem a_X12_listen_66 (C : Nat → Sp) : ta (tb_X12_listen C) 66 = tr_aload 67 0 := rfl
theorem a_X12_listen_67 (C : Nat → Sp) : ta (tb_X12_listen C) 67 = tr_getI 70 13 1205 := rfl
theorem a_X12_listen_70 (C : Nat → Sp) : ta (tb_X12_listen C) 70 = tr_ic 73 200 := rfl
theorem a_X12_listen_73 (C : Nat → Sp) : ta (tb_X12_listen C) 73 = tr_icne 76 79 := rfl
theorem a_X12_listen_76 (C : Nat → Sp) : ta (tb_X12_listen C) 76 = tr_ic 78 (-3) := rfl
theorem a_X12_listen_78 (C : Nat → Sp) : ta (tb_X12_listen C) 78 = tr_iret := rfl
theorem a_X12_listen_79 (C : Nat → Sp) : ta (tb_X12_listen C) 79 = tr_aload 80 0 := rfl
theorem a_X12_listen_80 (C : Nat → Sp) : ta (tb_X12_listen C) 80 = tr_getI 83 13 1205 := rfl
theorem a_X12_listen_83 (C : Nat → Sp) : ta (tb_X12_listen C) 83 = tr_istore 85 5 := rfl
theorem a_X12_listen_85 (C : Nat → Sp) : ta (tb_X12_listen C) 85 = tr_aload 86 0 := rfl
theorem a_X12_listen_86 (C : Nat → Sp) : ta (tb_X12_listen C) 86 = tr_dup 87 := rfl
theorem a_X12_listen_87 (C : Nat → Sp) : ta (tb_X12_listen C) 87 = tr_getI 90 13 1205 := rfl
theorem a_X12_listen_90 (C : Nat → Sp) : ta (tb_X12_listen C) 90 = tr_ic 91 1 := rfl
theorem a_X12_listen_91 (C : Nat → Sp) : ta (tb_X12_listen C) 91 = tr_iadd 92 := rfl
theorem a_X12_listen_92 (C : Nat → Sp) : ta (tb_X12_listen C) 92 = tr_putI 95 13 1205 := rfl
theorem a_X12_listen_95 (C : Nat → Sp) : ta (tb_X12_listen C) 95 = tr_aload 96 0 := rfl
theorem a_X12_listen_96 (C : Nat → Sp) : ta (tb_X12_listen C) 96 = tr_getR 99 13 1206 := rfl
theorem a_X12_listen_99 (C : Nat → Sp) : ta (tb_X12_listen C) 99 = tr_iload 101 5 := rfl
theorem a_X12_listen_101 (C : Nat → Sp) : ta (tb_X12_listen C) 101 = tr_iload 102 1 := rfl
theorem a_X12_listen_102 (C : Nat → Sp) : ta (tb_X12_listen C) 102 = tr_iast 103 := rfl
theorem a_X12_listen_103 (C : Nat → Sp) : ta (tb_X12_listen C) 103 = tr_aload 104 0 := rfl
theorem a_X12_listen_104 (C : Nat → Sp) : ta (tb_X12_listen C) 104 = tr_getR 107 13 1207 := rfl
theorem a_X12_listen_107 (C : Nat → Sp) : ta (tb_X12_listen C) 107 = tr_iload 109 5 := rfl
theorem a_X12_listen_109 (C : Nat → Sp) : ta (tb_X12_listen C) 109 = tr_iload 110 2 := rfl
theorem a_X12_listen_110 (C : Nat → Sp) : ta (tb_X12_listen C) 110 = tr_iast 111 := rfl
set_option maxRecDepth 20000 in
theorem a_X12_listen_111 (C : Nat → Sp) : ta (tb_X12_listen C) 111 = tr_aload 112 0 := rfl
set_option maxRecDepth 20000 in
theorem a_X12_listen_112 (C : Nat → Sp) : ta (tb_X12_listen C) 112 = tr_getR 115 13 1208 := rfl
set_option maxRecDepth 20000 in
theorem a_X12_listen_115 (C : Nat → Sp) : ta (tb_X12_listen C) 115 = tr_iload 117 5 := rfl
set_option maxRecDepth 20000 in
theorem a_X12_listen_117 (C : Nat → Sp) : ta (tb_X12_listen C) 117 = tr_iload 118 3 := rfl
set_option maxRecDepth 20000 in
theorem a_X12_listen_118 (C : Nat → Sp) : ta (tb_X12_listen C) 118 = tr_iast 119 := rfl
set_option maxRecDepth 20000 in
theorem a_X12_listen_119 (C : Nat → Sp) : ta (tb_X12_listen C) 119 = tr_aload 120 0 := rfl
set_option maxRecDepth 20000 in
theorem a_X12_listen_120 (C : Nat → Sp) : ta (tb_X12_listen C) 120 = tr_getR 123 13 1209 := rfl
set_option maxRecDepth 20000 in
theorem a_X12_listen_123 (C : Nat → Sp) : ta (tb_X12_listen C) 123 = tr_iload 125 5 := rfl
set_option maxRecDepth 20000 in
theorem a_X12_listen_125 (C : Nat → Sp) : ta (tb_X12_listen C) 125 = tr_iload 127 4 := rfl
set_option maxRecDepth 20000 in
theorem a_X12_listen_127 (C : Nat → Sp) : ta (tb_X12_listen C) 127 = tr_iast 128 := rfl
set_option maxRecDepth 20000 in
theorem a_X12_listen_128 (C : Nat → Sp) : ta (tb_X12_listen C) 128 = tr_aload 129 0 := rfl
set_option maxRecDepth 20000 in
theorem a_X12_listen_129 (C : Nat → Sp) : ta (tb_X12_listen C) 129 = tr_getR 132 13 1210 := rfl
set_option maxRecDepth 20000 in
theorem a_X12_listen_132 (C : Nat → Sp) : ta (tb_X12_listen C) 132 = tr_iload 134 5 := rfl
set_option maxRecDepth 20000 in
theorem a_X12_listen_134 (C : Nat → Sp) : ta (tb_X12_listen C) 134 = tr_lc 137 (-9223372036854775808) := rfl
set_option maxRecDepth 20000 in
theorem a_X12_listen_137 (C : Nat → Sp) : ta (tb_X12_listen C) 137 = tr_last 138 := rfl
set_option maxRecDepth 20000 in
theorem a_X12_listen_138 (C : Nat → Sp) : ta (tb_X12_listen C) 138 = tr_aload 139 0 := rfl
set_option maxRecDepth 20000 in
theorem a_X12_listen_139 (C : Nat → Sp) : ta (tb_X12_listen C) 139 = tr_getR 142 13 1211 := rfl
set_option maxRecDepth 20000 in
theorem a_X12_listen_142 (C : Nat → Sp) : ta (tb_X12_listen C) 142 = tr_iload 144 5 := rfl
set_option maxRecDepth 20000 in
theorem a_X12_listen_144 (C : Nat → Sp) : ta (tb_X12_listen C) 144 = tr_lc 147 9223372036854775807 := rfl
set_option maxRecDepth 20000 in
theorem a_X12_listen_147 (C : Nat → Sp) : ta (tb_X12_listen C) 147 = tr_last 148 := rfl
set_option maxRecDepth 20000 in
theorem a_X12_listen_148 (C : Nat → Sp) : ta (tb_X12_listen C) 148 = tr_aload 149 0 := rfl
set_option maxRecDepth 20000 in
theorem a_X12_listen_149 (C : Nat → Sp) : ta (tb_X12_listen C) 149 = tr_getR 152 13 1212 := rfl
set_option maxRecDepth 20000 in
theorem a_X12_listen_152 (C : Nat → Sp) : ta (tb_X12_listen C) 152 = tr_iload 154 5 := rfl
set_option maxRecDepth 20000 in
theorem a_X12_listen_154 (C : Nat → Sp) : ta (tb_X12_listen C) 154 = tr_ic 155 0 := rfl
set_option maxRecDepth 20000 in
theorem a_X12_listen_155 (C : Nat → Sp) : ta (tb_X12_listen C) 155 = tr_bast 156 := rfl
set_option maxRecDepth 20000 in
theorem a_X12_listen_156 (C : Nat → Sp) : ta (tb_X12_listen C) 156 = tr_aload 157 0 := rfl
set_option maxRecDepth 20000 in
theorem a_X12_listen_157 (C : Nat → Sp) : ta (tb_X12_listen C) 157 = tr_getR 160 13 1213 := rfl
set_option maxRecDepth 20000 in
theorem a_X12_listen_160 (C : Nat → Sp) : ta (tb_X12_listen C) 160 = tr_iload 162 5 := rfl
set_option maxRecDepth 20000 in
theorem a_X12_listen_162 (C : Nat → Sp) : ta (tb_X12_listen C) 162 = tr_ic 163 1 := rfl
set_option maxRecDepth 20000 in
theorem a_X12_listen_163 (C : Nat → Sp) : ta (tb_X12_listen C) 163 = tr_bast 164 := rfl
set_option maxRecDepth 20000 in
theorem a_X12_listen_164 (C : Nat → Sp) : ta (tb_X12_listen C) 164 = tr_aload 165 0 := rfl
set_option maxRecDepth 20000 in
theorem a_X12_listen_165 (C : Nat → Sp) : ta (tb_X12_listen C) 165 = tr_getR 168 13 1214 := rfl
set_option maxRecDepth 20000 in
theorem a_X12_listen_168 (C : Nat → Sp) : ta (tb_X12_listen C) 168 = tr_iload 170 5 := rfl
set_option maxRecDepth 20000 in
theorem a_X12_listen_170 (C : Nat → Sp) : ta (tb_X12_listen C) 170 = tr_ic 171 0 := rfl
set_option maxRecDepth 20000 in
theorem a_X12_listen_171 (C : Nat → Sp) : ta (tb_X12_listen C) 171 = tr_iast 172 := rfl
set_option maxRecDepth 20000 in
theorem a_X12_listen_172 (C : Nat → Sp) : ta (tb_X12_listen C) 172 = tr_aload 173 0 := rfl
set_option maxRecDepth 20000 in
theorem a_X12_listen_173 (C : Nat → Sp) : ta (tb_X12_listen C) 173 = tr_getR 176 13 1217 := rfl
set_option maxRecDepth 20000 in
theorem a_X12_listen_176 (C : Nat → Sp) : ta (tb_X12_listen C) 176 = tr_iload 178 5 := rfl
set_option maxRecDepth 20000 in
theorem a_X12_listen_178 (C : Nat → Sp) : ta (tb_X12_listen C) 178 = tr_ic 179 0 := rfl
set_option maxRecDepth 20000 in
theorem a_X12_listen_179 (C : Nat → Sp) : ta (tb_X12_listen C) 179 = tr_iast 180 := rfl
set_option maxRecDepth 20000 in
theorem a_X12_listen_180 (C : Nat → Sp) : ta (tb_X12_listen C) 180 = tr_aload 181 0 := rfl
set_option maxRecDepth 20000 in
theorem a_X12_listen_181 (C : Nat → Sp) : ta (tb_X12_listen C) 181 = tr_getR 184 13 1218 := rfl
set_option maxRecDepth 20000 in
theorem a_X12_listen_184 (C : Nat → Sp) : ta (tb_X12_listen C) 184 = tr_iload 186 5 := rfl
set_option maxRecDepth 20000 in
theorem a_X12_listen_186 (C : Nat → Sp) : ta (tb_X12_listen C) 186 = tr_ic 187 0 := rfl
set_option maxRecDepth 20000 in
theorem a_X12_listen_187 (C : Nat → Sp) : ta (tb_X12_listen C) 187 = tr_iast 188 := rfl
set_option maxRecDepth 20000 in
theorem a_X12_listen_188 (C : Nat → Sp) : ta (tb_X12_listen C) 188 = tr_iload 190 5 := rfl
set_option maxRecDepth 20000 in
theorem a_X12_listen_190 (C : Nat → Sp) : ta (tb_X12_listen C) 190 = tr_iret := rfl

def tb_X12_filter_0 (C : Nat → Sp) : Tab := [(0, tr_aload 1 0), (1, tr_iload 2 1), (2, tr_callV (C 98) 5 13 1), (5, tr_ifeq 8 15), (8, tr_lload 10 4), (10, tr_lload 11 2), (11, tr_lcmp 12), (12, tr_ifge 15 17), (15, tr_ic 16 (-1)), (16, tr_iret), (17, tr_aload 18 0), (18, tr_getR 21 13 1213), (21, tr_iload 22 1), (22, tr_bald 23), (23, tr_ifne 26 29), (26, tr_ic 28 (-2)), (28, tr_iret), (29, tr_aload 30 0), (30, tr_getR 33 13 1210), (33, tr_iload 34 1), (34, tr_lload 35 2), (35, tr_last 36), (36, tr_aload 37 0), (37, tr_getR 40 13 1211), (40, tr_iload 41 1), (41, tr_lload 43 4), (43, tr_last 44), (44, tr_ic 45 1), (45, tr_iret)]
set_option maxRecDepth 20000 in
theorem tbk_X12_filter_0 {D : DD} {d : Nat} {C : Nat → Sp} (hC : Snd D d C) : ∀ e ∈ tb_X12_filter_0 C, TrOk D (d + 1) mi_X12_filter e.1 e.2 :=
  tk_c (show TrOk D (d + 1) mi_X12_filter 0 (tr_aload 1 0) from ok_aload_n (show decode mi_X12_filter.2.1 0 = .ok (.aload_n 0, 1) from by decide +kernel) rfl) <|
  tk_c (show TrOk D (d + 1) mi_X12_filter 1 (tr_iload 2 1) from ok_iload_n (show decode mi_X12_filter.2.1 1 = .ok (.iload_n 1, 1) from by decide +kernel) rfl) <|
  tk_c (show TrOk D (d + 1) mi_X12_filter 2 (tr_callV (C 98) 5 13 1) from ok_callV (ci := 12) (show decode mi_X12_filter.2.1 2 = .ok (.invokevirtual 160, 3) from by decide +kernel) mok_X12_isListener rfl rfl (gm 981 (by decide +kernel) rfl) (gm 983 (by decide +kernel) rfl) (gm 14 (by decide +kernel) rfl) (hC 98)) <|
  tk_c (show TrOk D (d + 1) mi_X12_filter 5 (tr_ifeq 8 15) from ok_ifeq (show decode mi_X12_filter.2.1 5 = .ok (.ifCond .eq 10, 3) from by decide +kernel) (by decide)) <|
  tk_c (show TrOk D (d + 1) mi_X12_filter 8 (tr_lload 10 4) from ok_lload (show decode mi_X12_filter.2.1 8 = .ok (.lload 4, 2) from by decide +kernel)) <|
  tk_c (show TrOk D (d + 1) mi_X12_filter 10 (tr_lload 11 2) from ok_lload_n (show decode mi_X12_filter.2.1 10 = .ok (.lload_n 2, 1) from by decide +kernel) rfl) <|
  tk_c (show TrOk D (d + 1) mi_X12_filter 11 (tr_lcmp 12) from ok_lcmp (show decode mi_X12_filter.2.1 11 = .ok (.lcmp, 1) from by decide +kernel)) <|
  tk_c (show TrOk D (d + 1) mi_X12_filter 12 (tr_ifge 15 17) from ok_ifge (show decode mi_X12_filter.2.1 12 = .ok (.ifCond .ge 5, 3) from by decide +kernel) (by decide)) <|
  tk_c (show TrOk D (d + 1) mi_X12_filter 15 (tr_ic 16 (-1)) from ok_iconst (show decode mi_X12_filter.2.1 15 = .ok (.iconst (-1), 1) from by decide +kernel) rfl) <|
  tk_c (show TrOk D (d + 1) mi_X12_filter 16 (tr_iret) from ok_iret (show decode mi_X12_filter.2.1 16 = .ok (.ireturn, 1) from by decide +kernel) rfl) <|
  tk_c (show TrOk D (d + 1) mi_X12_filter 17 (tr_aload 18 0) from ok_aload_n (show decode mi_X12_filter.2.1 17 = .ok (.aload_n 0, 1) from by decide +kernel) rfl) <|
  tk_c (show TrOk D (d + 1) mi_X12_filter 18 (tr_getR 21 13 1213) from ok_getR (ci := 12) (k := 13) (show decode mi_X12_filter.2.1 18 = .ok (.getfield 42, 3) from by decide +kernel) rfl (by decide) (gm 794 (by decide +kernel) rfl) rfl) <|
  tk_c (show TrOk D (d + 1) mi_X12_filter 21 (tr_iload 22 1) from ok_iload_n (show decode mi_X12_filter.2.1 21 = .ok (.iload_n 1, 1) from by decide +kernel) rfl) <|
  tk_c (show TrOk D (d + 1) mi_X12_filter 22 (tr_bald 23) from ok_bald (show decode mi_X12_filter.2.1 22 = .ok (.baload, 1) from by decide +kernel)) <|
  tk_c (show TrOk D (d + 1) mi_X12_filter 23 (tr_ifne 26 29) from ok_ifne (show decode mi_X12_filter.2.1 23 = .ok (.ifCond .ne 6, 3) from by decide +kernel) (by decide)) <|
  tk_c (show TrOk D (d + 1) mi_X12_filter 26 (tr_ic 28 (-2)) from ok_bipush (show decode mi_X12_filter.2.1 26 = .ok (.bipush (-2), 2) from by decide +kernel) rfl) <|
  tk_c (show TrOk D (d + 1) mi_X12_filter 28 (tr_iret) from ok_iret (show decode mi_X12_filter.2.1 28 = .ok (.ireturn, 1) from by decide +kernel) rfl) <|
  tk_c (show TrOk D (d + 1) mi_X12_filter 29 (tr_aload 30 0) from ok_aload_n (show decode mi_X12_filter.2.1 29 = .ok (.aload_n 0, 1) from by decide +kernel) rfl) <|
  tk_c (show TrOk D (d + 1) mi_X12_filter 30 (tr_getR 33 13 1210) from ok_getR (ci := 12) (k := 10) (show decode mi_X12_filter.2.1 30 = .ok (.getfield 33, 3) from by decide +kernel) rfl (by decide) (gm 791 (by decide +kernel) rfl) rfl) <|
  tk_c (show TrOk D (d + 1) mi_X12_filter 33 (tr_iload 34 1) from ok_iload_n (show decode mi_X12_filter.2.1 33 = .ok (.iload_n 1, 1) from by decide +kernel) rfl) <|
  tk_c (show TrOk D (d + 1) mi_X12_filter 34 (tr_lload 35 2) from ok_lload_n (show decode mi_X12_filter.2.1 34 = .ok (.lload_n 2, 1) from by decide +kernel) rfl) <|
  tk_c (show TrOk D (d + 1) mi_X12_filter 35 (tr_last 36) from ok_last (show decode mi_X12_filter.2.1 35 = .ok (.lastore, 1) from by decide +kernel)) <|
  tk_c (show TrOk D (d + 1) mi_X12_filter 36 (tr_aload 37 0) from ok_aload_n (show decode mi_X12_filter.2.1 36 = .ok (.aload_n 0, 1) from by decide +kernel) rfl) <|
  tk_c (show TrOk D (d + 1) mi_X12_filter 37 (tr_getR 40 13 1211) from ok_getR (ci := 12) (k := 11) (show decode mi_X12_filter.2.1 37 = .ok (.getfield 36, 3) from by decide +kernel) rfl (by decide) (gm 792 (by decide +kernel) rfl) rfl) <|
  tk_c (show TrOk D (d + 1) mi_X12_filter 40 (tr_iload 41 1) from ok_iload_n (show decode mi_X12_filter.2.1 40 = .ok (.iload_n 1, 1) from by decide +kernel) rfl) <|
  tk_c (show TrOk D (d + 1) mi_X12_filter 41 (tr_lload 43 4) from ok_lload (show decode mi_X12_filter.2.1 41 = .ok (.lload 4, 2) from by decide +kernel)) <|
  tk_c (show TrOk D (d + 1) mi_X12_filter 43 (tr_last 44) from ok_last (show decode mi_X12_filter.2.1 43 = .ok (.lastore, 1) from by decide +kernel)) <|
  tk_c (show TrOk D (d + 1) mi_X12_filter 44 (tr_ic 45 1) from ok_iconst (show decode mi_X12_filter.2.1 44 = .ok (.iconst 1, 1) from by decide +kernel) rfl) <|
  tk_c (show TrOk D (d + 1) mi_X12_filter 45 (tr_iret) from ok_iret (show decode mi_X12_filter.2.1 45 = .ok (.ireturn, 1) from by decide +kernel) rfl) <|
  tk_n
def tb_X12_filter (C : Nat → Sp) : Tab := tb_X12_filter_0 C
theorem tbk_X12_filter {D : DD} {d : Nat} {C : Nat → Sp} (hC : Snd D d C) : ∀ e ∈ tb_X12_filter C, TrOk D (d + 1) mi_X12_filter e.1 e.2 := tbk_X12_filter_0 hC
theorem a_X12_filter_0 (C : Nat → Sp) : ta (tb_X12_filter C) 0 = tr_aload 1 0 := rfl
theorem a_X12_filter_1 (C : Nat → Sp) : ta (tb_X12_filter C) 1 = tr_iload 2 1 := rfl
theorem a_X12_filter_2 (C : Nat → Sp) : ta (tb_X12_filter C) 2 = tr_callV (C 98) 5 13 1 := rfl
theorem a_X12_filter_5 (C : Nat → Sp) : ta (tb_X12_filter C) 5 = tr_ifeq 8 15 := rfl
theorem a_X12_filter_8 (C : Nat → Sp) : ta (tb_X12_filter C) 8 = tr_lload 10 4 := rfl
theorem a_X12_filter_10 (C : Nat → Sp) : ta (tb_X12_filter C) 10 = tr_lload 11 2 := rfl
theorem a_X12_filter_11 (C : Nat → Sp) : ta (tb_X12_filter C) 11 = tr_lcmp 12 := rfl
theorem a_X12_filter_12 (C : Nat → Sp) : ta (tb_X12_filter C) 12 = tr_ifge 15 17 := rfl
theorem a_X12_filter_15 (C : Nat → Sp) : ta (tb_X12_filter C) 15 = tr_ic 16 (-1) := rfl
theorem a_X12_filter_16 (C : Nat → Sp) : ta (tb_X12_filter C) 16 = tr_iret := rfl
theorem a_X12_filter_17 (C : Nat → Sp) : ta (tb_X12_filter C) 17 = tr_aload 18 0 := rfl
theorem a_X12_filter_18 (C : Nat → Sp) : ta (tb_X12_filter C) 18 = tr_getR 21 13 1213 := rfl
theorem a_X12_filter_21 (C : Nat → Sp) : ta (tb_X12_filter C) 21 = tr_iload 22 1 := rfl
theorem a_X12_filter_22 (C : Nat → Sp) : ta (tb_X12_filter C) 22 = tr_bald 23 := rfl
theorem a_X12_filter_23 (C : Nat → Sp) : ta (tb_X12_filter C) 23 = tr_ifne 26 29 := rfl
theorem a_X12_filter_26 (C : Nat → Sp) : ta (tb_X12_filter C) 26 = tr_ic 28 (-2) := rfl
theorem a_X12_filter_28 (C : Nat → Sp) : ta (tb_X12_filter C) 28 = tr_iret := rfl
theorem a_X12_filter_29 (C : Nat → Sp) : ta (tb_X12_filter C) 29 = tr_aload 30 0 := rfl
theorem a_X12_filter_30 (C : Nat → Sp) : ta (tb_X12_filter C) 30 = tr_getR 33 13 1210 := rfl
theorem a_X12_filter_33 (C : Nat → Sp) : ta (tb_X12_filter C) 33 = tr_iload 34 1 := rfl
theorem a_X12_filter_34 (C : Nat → Sp) : ta (tb_X12_filter C) 34 = tr_lload 35 2 := rfl
theorem a_X12_filter_35 (C : Nat → Sp) : ta (tb_X12_filter C) 35 = tr_last 36 := rfl
theorem a_X12_filter_36 (C : Nat → Sp) : ta (tb_X12_filter C) 36 = tr_aload 37 0 := rfl
theorem a_X12_filter_37 (C : Nat → Sp) : ta (tb_X12_filter C) 37 = tr_getR 40 13 1211 := rfl
theorem a_X12_filter_40 (C : Nat → Sp) : ta (tb_X12_filter C) 40 = tr_iload 41 1 := rfl
theorem a_X12_filter_41 (C : Nat → Sp) : ta (tb_X12_filter C) 41 = tr_lload 43 4 := rfl
theorem a_X12_filter_43 (C : Nat → Sp) : ta (tb_X12_filter C) 43 = tr_last 44 := rfl
theorem a_X12_filter_44 (C : Nat → Sp) : ta (tb_X12_filter C) 44 = tr_ic 45 1 := rfl
theorem a_X12_filter_45 (C : Nat → Sp) : ta (tb_X12_filter C) 45 = tr_iret := rfl

def tb_X12_once_0 (C : Nat → Sp) : Tab := [(0, tr_aload 1 0), (1, tr_iload 2 1), (2, tr_callV (C 98) 5 13 1), (5, tr_ifne 8 10), (8, tr_ic 9 (-1)), (9, tr_iret), (10, tr_aload 11 0), (11, tr_getR 14 13 1213), (14, tr_iload 15 1), (15, tr_bald 16), (16, tr_ifne 19 22), (19, tr_ic 21 (-2)), (21, tr_iret), (22, tr_aload 23 0), (23, tr_getR 26 13 1212), (26, tr_iload 27 1), (27, tr_bald 28), (28, tr_ifeq 31 35), (31, tr_ic 32 1), (32, tr_goto 36), (35, tr_ic 36 0), (36, tr_istore 37 3), (37, tr_aload 38 0), (38, tr_getR 41 13 1212), (41, tr_iload 42 1), (42, tr_iload 43 2), (43, tr_bast 44), (44, tr_iload 45 3), (45, tr_iret)]
set_option maxRecDepth 20000 in
theorem tbk_X12_once_0 {D : DD} {d : Nat} {C : Nat → Sp} (hC : Snd D d C) : ∀ e ∈ tb_X12_once_0 C, TrOk D (d + 1) mi_X12_once e.1 e.2 :=
  tk_c (show TrOk D (d + 1) mi_X12_once 0 (tr_aload 1 0) from ok_aload_n (show decode mi_X12_once.2.1 0 = .ok (.aload_n 0, 1) from by decide +kernel) rfl) <|
  tk_c (show TrOk D (d + 1) mi_X12_once 1 (tr_iload 2 1) from ok_iload_n (show decode mi_X12_once.2.1 1 = .ok (.iload_n 1, 1) from by decide +kernel) rfl) <|
  tk_c (show TrOk D (d + 1) mi_X12_once 2 (tr_callV (C 98) 5 13 1) from ok_callV (ci := 12) (show decode mi_X12_once.2.1 2 = .ok (.invokevirtual 160, 3) from by decide +kernel) mok_X12_isListener rfl rfl (gm 981 (by decide +kernel) rfl) (gm 983 (by decide +kernel) rfl) (gm 14 (by decide +kernel) rfl) (hC 98)) <|
  tk_c (show TrOk D (d + 1) mi_X12_once 5 (tr_ifne 8 10) from ok_ifne (show decode mi_X12_once.2.1 5 = .ok (.ifCond .ne 5, 3) from by decide +kernel) (by decide)) <|
  tk_c (show TrOk D (d + 1) mi_X12_once 8 (tr_ic 9 (-1)) from ok_iconst (show decode mi_X12_once.2.1 8 = .ok (.iconst (-1), 1) from by decide +kernel) rfl) <|
  tk_c (show TrOk D (d + 1) mi_X12_once 9 (tr_iret) from ok_iret (show decode mi_X12_once.2.1 9 = .ok (.ireturn, 1) from by decide +kernel) rfl) <|
  tk_c (show TrOk D (d + 1) mi_X12_once 10 (tr_aload 11 0) from ok_aload_n (show decode mi_X12_once.2.1 10 = .ok (.aload_n 0, 1) from by decide +kernel) rfl) <|
  tk_c (show TrOk D (d + 1) mi_X12_once 11 (tr_getR 14 13 1213) from ok_getR (ci := 12) (k := 13) (show decode mi_X12_once.2.1 11 = .ok (.getfield 42, 3) from by decide +kernel) rfl (by decide) (gm 794 (by decide +kernel) rfl) rfl) <|
  tk_c (show TrOk D (d + 1) mi_X12_once 14 (tr_iload 15 1) from ok_iload_n (show decode mi_X12_once.2.1 14 = .ok (.iload_n 1, 1) from by decide +kernel) rfl) <|
  tk_c (show TrOk D (d + 1) mi_X12_once 15 (tr_bald 16) from ok_bald (show decode mi_X12_once.2.1 15 = .ok (.baload, 1) from by decide +kernel)) <|
  tk_c (show TrOk D (d + 1) mi_X12_once 16 (tr_ifne 19 22) from ok_ifne (show decode mi_X12_once.2.1 16 = .ok (.ifCond .ne 6, 3) from by decide +kernel) (by decide)) <|
  tk_c (show TrOk D (d + 1) mi_X12_once 19 (tr_ic 21 (-2)) from ok_bipush (show decode mi_X12_once.2.1 19 = .ok (.bipush (-2), 2) from by decide +kernel) rfl) <|
  tk_c (show TrOk D (d + 1) mi_X12_once 21 (tr_iret) from ok_iret (show decode mi_X12_once.2.1 21 = .ok (.ireturn, 1) from by decide +kernel) rfl) <|
  tk_c (show TrOk D (d + 1) mi_X12_once 22 (tr_aload 23 0) from ok_aload_n (show decode mi_X12_once.2.1 22 = .ok (.aload_n 0, 1) from by decide +kernel) rfl) <|
  tk_c (show TrOk D (d + 1) mi_X12_once 23 (tr_getR 26 13 1212) from ok_getR (ci := 12) (k := 12) (show decode mi_X12_once.2.1 23 = .ok (.getfield 39, 3) from by decide +kernel) rfl (by decide) (gm 793 (by decide +kernel) rfl) rfl) <|
  tk_c (show TrOk D (d + 1) mi_X12_once 26 (tr_iload 27 1) from ok_iload_n (show decode mi_X12_once.2.1 26 = .ok (.iload_n 1, 1) from by decide +kernel) rfl) <|
  tk_c (show TrOk D (d + 1) mi_X12_once 27 (tr_bald 28) from ok_bald (show decode mi_X12_once.2.1 27 = .ok (.baload, 1) from by decide +kernel)) <|
  tk_c (show TrOk D (d + 1) mi_X12_once 28 (tr_ifeq 31 35) from ok_ifeq (show decode mi_X12_once.2.1 28 = .ok (.ifCond .eq 7, 3) from by decide +kernel) (by decide)) <|
  tk_c (show TrOk D (d + 1) mi_X12_once 31 (tr_ic 32 1) from ok_iconst (show decode mi_X12_once.2.1 31 = .ok (.iconst 1, 1) from by decide +kernel) rfl) <|
  tk_c (show TrOk D (d + 1) mi_X12_once 32 (tr_goto 36) from ok_goto (show decode mi_X12_once.2.1 32 = .ok (.goto 4, 3) from by decide +kernel) (by decide)) <|
  tk_c (show TrOk D (d + 1) mi_X12_once 35 (tr_ic 36 0) from ok_iconst (show decode mi_X12_once.2.1 35 = .ok (.iconst 0, 1) from by decide +kernel) rfl) <|
  tk_c (show TrOk D (d + 1) mi_X12_once 36 (tr_istore 37 3) from ok_istore_n (show decode mi_X12_once.2.1 36 = .ok (.istore_n 3, 1) from by decide +kernel) rfl (by decide)) <|
  tk_c (show TrOk D (d + 1) mi_X12_once 37 (tr_aload 38 0) from ok_aload_n (show decode mi_X12_once.2.1 37 = .ok (.aload_n 0, 1) from by decide +kernel) rfl) <|
  tk_c (show TrOk D (d + 1) mi_X12_once 38 (tr_getR 41 13 1212) from ok_getR (ci := 12) (k := 12) (show decode mi_X12_once.2.1 38 = .ok (.getfield 39, 3) from by decide +kernel) rfl (by decide) (gm 793 (by decide +kernel) rfl) rfl) <|
  tk_c (show TrOk D (d + 1) mi_X12_once 41 (tr_iload 42 1) from ok_iload_n (show decode mi_X12_once.2.1 41 = .ok (.iload_n 1, 1) from by decide +kernel) rfl) <|
  tk_c (show TrOk D (d + 1) mi_X12_once 42 (tr_iload 43 2) from ok_iload_n (show decode mi_X12_once.2.1 42 = .ok (.iload_n 2, 1) from by decide +kernel) rfl) <|
  tk_c (show TrOk D (d + 1) mi_X12_once 43 (tr_bast 44) from ok_bast (show decode mi_X12_once.2.1 43 = .ok (.bastore, 1) from by decide +kernel)) <|
  tk_c (show TrOk D (d + 1) mi_X12_once 44 (tr_iload 45 3) from ok_iload_n (show decode mi_X12_once.2.1 44 = .ok (.iload_n 3, 1) from by decide +kernel) rfl) <|
  tk_c (show TrOk D (d + 1) mi_X12_once 45 (tr_iret) from ok_iret (show decode mi_X12_once.2.1 45 = .ok (.ireturn, 1) from by decide +kernel) rfl) <|
  tk_n
def tb_X12_once (C : Nat → Sp) : Tab := tb_X12_once_0 C
theorem tbk_X12_once {D : DD} {d : Nat} {C : Nat → Sp} (hC : Snd D d C) : ∀ e ∈ tb_X12_once C, TrOk D (d + 1) mi_X12_once e.1 e.2 := tbk_X12_once_0 hC
theorem a_X12_once_0 (C : Nat → Sp) : ta (tb_X12_once C) 0 = tr_aload 1 0 := rfl
theorem a_X12_once_1 (C : Nat → Sp) : ta (tb_X12_once C) 1 = tr_iload 2 1 := rfl
theorem a_X12_once_2 (C : Nat → Sp) : ta (tb_X12_once C) 2 = tr_callV (C 98) 5 13 1 := rfl
theorem a_X12_once_5 (C : Nat → Sp) : ta (tb_X12_once C) 5 = tr_ifne 8 10 := rfl
theorem a_X12_once_8 (C : Nat → Sp) : ta (tb_X12_once C) 8 = tr_ic 9 (-1) := rfl
theorem a_X12_once_9 (C : Nat → Sp) : ta (tb_X12_once C) 9 = tr_iret := rfl
theorem a_X12_once_10 (C : Nat → Sp) : ta (tb_X12_once C) 10 = tr_aload 11 0 := rfl
theorem a_X12_once_11 (C : Nat → Sp) : ta (tb_X12_once C) 11 = tr_getR 14 13 1213 := rfl
theorem a_X12_once_14 (C : Nat → Sp) : ta (tb_X12_once C) 14 = tr_iload 15 1 := rfl
theorem a_X12_once_15 (C : Nat → Sp) : ta (tb_X12_once C) 15 = tr_bald 16 := rfl
theorem a_X12_once_16 (C : Nat → Sp) : ta (tb_X12_once C) 16 = tr_ifne 19 22 := rfl
theorem a_X12_once_19 (C : Nat → Sp) : ta (tb_X12_once C) 19 = tr_ic 21 (-2) := rfl
theorem a_X12_once_21 (C : Nat → Sp) : ta (tb_X12_once C) 21 = tr_iret := rfl
theorem a_X12_once_22 (C : Nat → Sp) : ta (tb_X12_once C) 22 = tr_aload 23 0 := rfl
theorem a_X12_once_23 (C : Nat → Sp) : ta (tb_X12_once C) 23 = tr_getR 26 13 1212 := rfl
theorem a_X12_once_26 (C : Nat → Sp) : ta (tb_X12_once C) 26 = tr_iload 27 1 := rfl
theorem a_X12_once_27 (C : Nat → Sp) : ta (tb_X12_once C) 27 = tr_bald 28 := rfl
theorem a_X12_once_28 (C : Nat → Sp) : ta (tb_X12_once C) 28 = tr_ifeq 31 35 := rfl
theorem a_X12_once_31 (C : Nat → Sp) : ta (tb_X12_once C) 31 = tr_ic 32 1 := rfl
theorem a_X12_once_32 (C : Nat → Sp) : ta (tb_X12_once C) 32 = tr_goto 36 := rfl
theorem a_X12_once_35 (C : Nat → Sp) : ta (tb_X12_once C) 35 = tr_ic 36 0 := rfl
theorem a_X12_once_36 (C : Nat → Sp) : ta (tb_X12_once C) 36 = tr_istore 37 3 := rfl
theorem a_X12_once_37 (C : Nat → Sp) : ta (tb_X12_once C) 37 = tr_aload 38 0 := rfl
theorem a_X12_once_38 (C : Nat → Sp) : ta (tb_X12_once C) 38 = tr_getR 41 13 1212 := rfl
theorem a_X12_once_41 (C : Nat → Sp) : ta (tb_X12_once C) 41 = tr_iload 42 1 := rfl
theorem a_X12_once_42 (C : Nat → Sp) : ta (tb_X12_once C) 42 = tr_iload 43 2 := rfl
theorem a_X12_once_43 (C : Nat → Sp) : ta (tb_X12_once C) 43 = tr_bast 44 := rfl
theorem a_X12_once_44 (C : Nat → Sp) : ta (tb_X12_once C) 44 = tr_iload 45 3 := rfl
theorem a_X12_once_45 (C : Nat → Sp) : ta (tb_X12_once C) 45 = tr_iret := rfl

def tb_X12_step_0 (C : Nat → Sp) : Tab := [(0, tr_aload 1 0), (1, tr_iload 2 1), (2, tr_callV (C 98) 5 13 1), (5, tr_ifeq 8 39), (8, tr_iload 9 2), (9, tr_i2l 10), (10, tr_lc 11 0), (11, tr_lc 14 17), (14, tr_callS (C 96) 17 3), (17, tr_ifeq 20 39), (20, tr_iload 21 2), (21, tr_ic 22 3), (22, tr_icne 25 41), (25, tr_iload 26 3), (26, tr_i2l 27), (27, tr_lc 30 20), (30, tr_lc 33 29), (33, tr_callS (C 96) 36 3), (36, tr_ifne 39 41), (39, tr_ic 40 (-1)), (40, tr_iret), (41, tr_aload 42 0), (42, tr_getR 45 13 1213), (45, tr_iload 46 1), (46, tr_bald 47), (47, tr_ifne 50 53), (50, tr_ic 52 (-2)), (52, tr_iret), (53, tr_aload 54 0), (54, tr_getR 57 13 1214), (57, tr_iload 58 1), (58, tr_iald 59), (59, tr_ic 61 10), (61, tr_icne 64 67), (64, tr_ic 66 (-3)), (66, tr_iret), (67, tr_aload 68 0), (68, tr_getR 71 13 1215), (71, tr_ic 73 10), (73, tr_iload 74 1)]
set_option maxRecDepth 20000 in
theorem tbk_X12_step_0 {D : DD} {d : Nat} {C : Nat → Sp} (hC : Snd D d C) : ∀ e ∈ tb_X12_step_0 C, TrOk D (d + 1) mi_X12_step e.1 e.2 :=
  tk_c (show TrOk D (d + 1) mi_X12_step 0 (tr_aload 1 0) from ok_aload_n (show decode mi_X12_step.2.1 0 = .ok (.aload_n 0, 1) from by decide +kernel) rfl) <|
  tk_c (show TrOk D (d + 1) mi_X12_step 1 (tr_iload 2 1) from ok_iload_n (show decode mi_X12_step.2.1 1 = .ok (.iload_n 1, 1) from by decide +kernel) rfl) <|
  tk_c (show TrOk D (d + 1) mi_X12_step 2 (tr_callV (C 98) 5 13 1) from ok_callV (ci := 12) (show decode mi_X12_step.2.1 2 = .ok (.invokevirtual 160, 3) from by decide +kernel) mok_X12_isListener rfl rfl (gm 981 (by decide +kernel) rfl) (gm 983 (by decide +kernel) rfl) (gm 14 (by decide +kernel) rfl) (hC 98)) <|
  tk_c (show TrOk D (d + 1) mi_X12_step 5 (tr_ifeq 8 39) from ok_ifeq (show decode mi_X12_step.2.1 5 = .ok (.ifCond .eq 34, 3) from by decide +kernel) (by decide)) <|
  tk_c (show TrOk D (d + 1) mi_X12_step 8 (tr_iload 9 2) from ok_iload_n (show decode mi_X12_step.2.1 8 = .ok (.iload_n 2, 1) from by decide +kernel) rfl) <|
  tk_c (show TrOk D (d + 1) mi_X12_step 9 (tr_i2l 10) from ok_i2l (show decode mi_X12_step.2.1 9 = .ok (.i2l, 1) from by decide +kernel)) <|
  tk_c (show TrOk D (d + 1) mi_X12_step 10 (tr_lc 11 0) from ok_lconst (show decode mi_X12_step.2.1 10 = .ok (.lconst 0, 1) from by decide +kernel) rfl) <|
  tk_c (show TrOk D (d + 1) mi_X12_step 11 (tr_lc 14 17) from ok_ldc2 (show decode mi_X12_step.2.1 11 = .ok (.ldc2_w 163, 3) from by decide +kernel) (gm 993 (by decide +kernel) rfl)) <|
  tk_c (show TrOk D (d + 1) mi_X12_step 14 (tr_callS (C 96) 17 3) from ok_callS (show decode mi_X12_step.2.1 14 = .ok (.invokestatic 136, 3) from by decide +kernel) mok_X12_in (gm 955 (by decide +kernel) rfl) (gm 956 (by decide +kernel) rfl) (hC 96)) <|
  tk_c (show TrOk D (d + 1) mi_X12_step 17 (tr_ifeq 20 39) from ok_ifeq (show decode mi_X12_step.2.1 17 = .ok (.ifCond .eq 22, 3) from by decide +kernel) (by decide)) <|
  tk_c (show TrOk D (d + 1) mi_X12_step 20 (tr_iload 21 2) from ok_iload_n (show decode mi_X12_step.2.1 20 = .ok (.iload_n 2, 1) from by decide +kernel) rfl) <|
  tk_c (show TrOk D (d + 1) mi_X12_step 21 (tr_ic 22 3) from ok_iconst (show decode mi_X12_step.2.1 21 = .ok (.iconst 3, 1) from by decide +kernel) rfl) <|
  tk_c (show TrOk D (d + 1) mi_X12_step 22 (tr_icne 25 41) from ok_icne (show decode mi_X12_step.2.1 22 = .ok (.if_icmp .ne 19, 3) from by decide +kernel) (by decide)) <|
  tk_c (show TrOk D (d + 1) mi_X12_step 25 (tr_iload 26 3) from ok_iload_n (show decode mi_X12_step.2.1 25 = .ok (.iload_n 3, 1) from by decide +kernel) rfl) <|
  tk_c (show TrOk D (d + 1) mi_X12_step 26 (tr_i2l 27) from ok_i2l (show decode mi_X12_step.2.1 26 = .ok (.i2l, 1) from by decide +kernel)) <|
  tk_c (show TrOk D (d + 1) mi_X12_step 27 (tr_lc 30 20) from ok_ldc2 (show decode mi_X12_step.2.1 27 = .ok (.ldc2_w 165, 3) from by decide +kernel) (gm 994 (by decide +kernel) rfl)) <|
  tk_c (show TrOk D (d + 1) mi_X12_step 30 (tr_lc 33 29) from ok_ldc2 (show decode mi_X12_step.2.1 30 = .ok (.ldc2_w 167, 3) from by decide +kernel) (gm 995 (by decide +kernel) rfl)) <|
  tk_c (show TrOk D (d + 1) mi_X12_step 33 (tr_callS (C 96) 36 3) from ok_callS (show decode mi_X12_step.2.1 33 = .ok (.invokestatic 136, 3) from by decide +kernel) mok_X12_in (gm 955 (by decide +kernel) rfl) (gm 956 (by decide +kernel) rfl) (hC 96)) <|
  tk_c (show TrOk D (d + 1) mi_X12_step 36 (tr_ifne 39 41) from ok_ifne (show decode mi_X12_step.2.1 36 = .ok (.ifCond .ne 5, 3) from by decide +kernel) (by decide)) <|
  tk_c (show TrOk D (d + 1) mi_X12_step 39 (tr_ic 40 (-1)) from ok_iconst (show decode mi_X12_step.2.1 39 = .ok (.iconst (-1), 1) from by decide +kernel) rfl) <|
  tk_c (show TrOk D (d + 1) mi_X12_step 40 (tr_iret) from ok_iret (show decode mi_X12_step.2.1 40 = .ok (.ireturn, 1) from by decide +kernel) rfl) <|
  tk_c (show TrOk D (d + 1) mi_X12_step 41 (tr_aload 42 0) from ok_aload_n (show decode mi_X12_step.2.1 41 = .ok (.aload_n 0, 1) from by decide +kernel) rfl) <|
  tk_c (show TrOk D (d + 1) mi_X12_step 42 (tr_getR 45 13 1213) from ok_getR (ci := 12) (k := 13) (show decode mi_X12_step.2.1 42 = .ok (.getfield 42, 3) from by decide +kernel) rfl (by decide) (gm 794 (by decide +kernel) rfl) rfl) <|
  tk_c (show TrOk D (d + 1) mi_X12_step 45 (tr_iload 46 1) from ok_iload_n (show decode mi_X12_step.2.1 45 = .ok (.iload_n 1, 1) from by decide +kernel) rfl) <|
  tk_c (show TrOk D (d + 1) mi_X12_step 46 (tr_bald 47) from ok_bald (show decode mi_X12_step.2.1 46 = .ok (.baload, 1) from by decide +kernel)) <|
  tk_c (show TrOk D (d + 1) mi_X12_step 47 (tr_ifne 50 53) from ok_ifne (show decode mi_X12_step.2.1 47 = .ok (.ifCond .ne 6, 3) from by decide +kernel) (by decide)) <|
  tk_c (show TrOk D (d + 1) mi_X12_step 50 (tr_ic 52 (-2)) from ok_bipush (show decode mi_X12_step.2.1 50 = .ok (.bipush (-2), 2) from by decide +kernel) rfl) <|
  tk_c (show TrOk D (d + 1) mi_X12_step 52 (tr_iret) from ok_iret (show decode mi_X12_step.2.1 52 = .ok (.ireturn, 1) from by decide +kernel) rfl) <|
  tk_c (show TrOk D (d + 1) mi_X12_step 53 (tr_aload 54 0) from ok_aload_n (show decode mi_X12_step.2.1 53 = .ok (.aload_n 0, 1) from by decide +kernel) rfl) <|
  tk_c (show TrOk D (d + 1) mi_X12_step 54 (tr_getR 57 13 1214) from ok_getR (ci := 12) (k := 14) (show decode mi_X12_step.2.1 54 = .ok (.getfield 45, 3) from by decide +kernel) rfl (by decide) (gm 795 (by decide +kernel) rfl) rfl) <|
  tk_c (show TrOk D (d + 1) mi_X12_step 57 (tr_iload 58 1) from ok_iload_n (show decode mi_X12_step.2.1 57 = .ok (.iload_n 1, 1) from by decide +kernel) rfl) <|
  tk_c (show TrOk D (d + 1) mi_X12_step 58 (tr_iald 59) from ok_iald (show decode mi_X12_step.2.1 58 = .ok (.iaload, 1) from by decide +kernel)) <|
  tk_c (show TrOk D (d + 1) mi_X12_step 59 (tr_ic 61 10) from ok_bipush (show decode mi_X12_step.2.1 59 = .ok (.bipush 10, 2) from by decide +kernel) rfl) <|
  tk_c (show TrOk D (d + 1) mi_X12_step 61 (tr_icne 64 67) from ok_icne (show decode mi_X12_step.2.1 61 = .ok (.if_icmp .ne 6, 3) from by decide +kernel) (by decide)) <|
  tk_c (show TrOk D (d + 1) mi_X12_step 64 (tr_ic 66 (-3)) from ok_bipush (show decode mi_X12_step.2.1 64 = .ok (.bipush (-3), 2) from by decide +kernel) rfl) <|
  tk_c (show TrOk D (d + 1) mi_X12_step 66 (tr_iret) from ok_iret (show decode mi_X12_step.2.1 66 = .ok (.ireturn, 1) from by decide +kernel) rfl) <|
  tk_c (show TrOk D (d + 1) mi_X12_step 67 (tr_aload 68 0) from ok_aload_n (show decode mi_X12_step.2.1 67 = .ok (.aload_n 0, 1) from by decide +kernel) rfl) <|
  tk_c (show TrOk D (d + 1) mi_X12_step 68 (tr_getR 71 13 1215) from ok_getR (ci := 12) (k := 15) (show decode mi_X12_step.2.1 68 = .ok (.getfield 48, 3) from by decide +kernel) rfl (by decide) (gm 796 (by decide +kernel) rfl) rfl) <|
  tk_c (show TrOk D (d + 1) mi_X12_step 71 (tr_ic 73 10) from ok_bipush (show decode mi_X12_step.2.1 71 = .ok (.bipush 10, 2) from by decide +kernel) rfl) <|
  tk_c (show TrOk D (d + 1) mi_X12_step 73 (tr_iload 74 1) from ok_iload_n (show decode mi_X12_step.2.1 73 = .ok (.iload_n 1, 1) from by decide +kernel) rfl) <|
  tk_n
def tb_X12_step_1 (C : Nat → Sp) : Tab := [(74, tr_imul 75), (75, tr_aload 76 0), (76, tr_getR 79 13 1214), (79, tr_iload 80 1), (80, tr_iald 81), (81, tr_iadd 82), (82, tr_iload 83 2), (83, tr_iast 84), (84, tr_aload 85 0), (85, tr_getR 88 13 1216), (88, tr_ic 90 10), (90, tr_iload 91 1), (91, tr_imul 92), (92, tr_aload 93 0), (93, tr_getR 96 13 1214), (96, tr_iload 97 1), (97, tr_iald 98), (98, tr_iadd 99), (99, tr_iload 100 3), (100, tr_iast 101), (101, tr_aload 102 0), (102, tr_getR 105 13 1214), (105, tr_iload 106 1), (106, tr_dup2 107), (107, tr_iald 108), (108, tr_ic 109 1), (109, tr_iadd 110), (110, tr_iast 111), (111, tr_aload 112 0), (112, tr_getR 115 13 1214), (115, tr_iload 116 1), (116, tr_iald 117), (117, tr_iret)]
set_option maxRecDepth 20000 in
theorem tbk_X12_step_1 {D : DD} {d : Nat} {C : Nat → Sp} (hC : Snd D d C) : ∀ e ∈ tb_X12_step_1 C, TrOk D (d + 1) mi_X12_step e.1 e.2 :=
  tk_c (show TrOk D (d + 1) mi_X12_step 74 (tr_imul 75) from ok_imul (show decode mi_X12_step.2.1 74 = .ok (.imul, 1) from by decide +kernel)) <|
  tk_c (show TrOk D (d + 1) mi_X12_step 75 (tr_aload 76 0) from ok_aload_n (show decode mi_X12_step.2.1 75 = .ok (.aload_n 0, 1) from by decide +kernel) rfl) <|
  tk_c (show TrOk D (d + 1) mi_X12_step 76 (tr_getR 79 13 1214) from ok_getR (ci := 12) (k := 14) (show decode mi_X12_step.2.1 76 = .ok (.getfield 45, 3) from by decide +kernel) rfl (by decide) (gm 795 (by decide +kernel) rfl) rfl) <|
  tk_c (show TrOk D (d + 1) mi_X12_step 79 (tr_iload 80 1) from ok_iload_n (show decode mi_X12_step.2.1 79 = .ok (.iload_n 1, 1) from by decide +kernel) rfl) <|
  tk_c (show TrOk D (d + 1) mi_X12_step 80 (tr_iald 81) from ok_iald (show decode mi_X12_step.2.1 80 = .ok (.iaload, 1) from by decide +kernel)) <|
  tk_c (show TrOk D (d + 1) mi_X12_step 81 (tr_iadd 82) from ok_iadd (show decode mi_X12_step.2.1 81 = .ok (.iadd, 1) from by decide +kernel)) <|
  tk_c (show TrOk D (d + 1) mi_X12_step 82 (tr_iload 83 2) from ok_iload_n (show decode mi_X12_step.2.1 82 = .ok (.iload_n 2, 1) from by decide +kernel) rfl) <|
  tk_c (show TrOk D (d + 1) mi_X12_step 83 (tr_iast 84) from ok_iast (show decode mi_X12_step.2.1 83 = .ok (.iastore, 1) from by decide +kernel)) <|
  tk_c (show TrOk D (d + 1) mi_X12_step 84 (tr_aload 85 0) from ok_aload_n (show decode mi_X12_step.2.1 84 = .ok (.aload_n 0, 1) from by decide +kernel) rfl) <|
  tk_c (show TrOk D (d + 1) mi_X12_step 85 (tr_getR 88 13 1216) from ok_getR (ci := 12) (k := 16) (show decode mi_X12_step.2.1 85 = .ok (.getfield 51, 3) from by decide +kernel) rfl (by decide) (gm 797 (by decide +kernel) rfl) rfl) <|
  tk_c (show TrOk D (d + 1) mi_X12_step 88 (tr_ic 90 10) from ok_bipush (show decode mi_X12_step.2.1 88 = .ok (.bipush 10, 2) from by decide +kernel) rfl) <|
  tk_c (show TrOk D (d + 1) mi_X12_step 90 (tr_iload 91 1) from ok_iload_n (show decode mi_X12_step.2.1 90 = .ok (.iload_n 1, 1) from by decide +kernel) rfl) <|
  tk_c (show TrOk D (d + 1) mi_X12_step 91 (tr_imul 92) from ok_imul (show decode mi_X12_step.2.1 91 = .ok (.imul, 1) from by decide +kernel)) <|
  tk_c (show TrOk D (d + 1) mi_X12_step 92 (tr_aload 93 0) from ok_aload_n (show decode mi_X12_step.2.1 92 = .ok (.aload_n 0, 1) from by decide +kernel) rfl) <|
  tk_c (show TrOk D (d + 1) mi_X12_step 93 (tr_getR 96 13 1214) from ok_getR (ci := 12) (k := 14) (show decode mi_X12_step.2.1 93 = .ok (.getfield 45, 3) from by decide +kernel) rfl (by decide) (gm 795 (by decide +kernel) rfl) rfl) <|
  tk_c (show TrOk D (d + 1) mi_X12_step 96 (tr_iload 97 1) from ok_iload_n (show decode mi_X12_step.2.1 96 = .ok (.iload_n 1, 1) from by decide +kernel) rfl) <|
  tk_c (show TrOk D (d + 1) mi_X12_step 97 (tr_iald 98) from ok_iald (show decode mi_X12_step.2.1 97 = .ok (.iaload, 1) from by decide +kernel)) <|
  tk_c (show TrOk D (d + 1) mi_X12_step 98 (tr_iadd 99) from ok_iadd (show decode mi_X12_step.2.1 98 = .ok (.iadd, 1) from by decide +kernel)) <|
  tk_c (show TrOk D (d + 1) mi_X12_step 99 (tr_iload 100 3) from ok_iload_n (show decode mi_X12_step.2.1 99 = .ok (.iload_n 3, 1) from by decide +kernel) rfl) <|
  tk_c (show TrOk D (d + 1) mi_X12_step 100 (tr_iast 101) from ok_iast (show decode mi_X12_step.2.1 100 = .ok (.iastore, 1) from by decide +kernel)) <|
  tk_c (show TrOk D (d + 1) mi_X12_step 101 (tr_aload 102 0) from ok_aload_n (show decode mi_X12_step.2.1 101 = .ok (.aload_n 0, 1) from by decide +kernel) rfl) <|
  tk_c (show TrOk D (d + 1) mi_X12_step 102 (tr_getR 105 13 1214) from ok_getR (ci := 12) (k := 14) (show decode mi_X12_step.2.1 102 = .ok (.getfield 45, 3) from by decide +kernel) rfl (by decide) (gm 795 (by decide +kernel) rfl) rfl) <|
  tk_c (show TrOk D (d + 1) mi_X12_step 105 (tr_iload 106 1) from ok_iload_n (show decode mi_X12_step.2.1 105 = .ok (.iload_n 1, 1) from by decide +kernel) rfl) <|
  tk_c (show TrOk D (d + 1) mi_X12_step 106 (tr_dup2 107) from ok_dup2 (show decode mi_X12_step.2.1 106 = .ok (.dup2, 1) from by decide +kernel)) <|
  tk_c (show TrOk D (d + 1) mi_X12_step 107 (tr_iald 108) from ok_iald (show decode mi_X12_step.2.1 107 = .ok (.iaload, 1) from by decide +kernel)) <|
  tk_c (show TrOk D (d + 1) mi_X12_step 108 (tr_ic 109 1) from ok_iconst (show decode mi_X12_step.2.1 108 = .ok (.iconst 1, 1) from by decide +kernel) rfl) <|
  tk_c (show TrOk D (d + 1) mi_X12_step 109 (tr_iadd 110) from ok_iadd (show decode mi_X12_step.2.1 109 = .ok (.iadd, 1) from by decide +kernel)) <|
  tk_c (show TrOk D (d + 1) mi_X12_step 110 (tr_iast 111) from ok_iast (show decode mi_X12_step.2.1 110 = .ok (.iastore, 1) from by decide +kernel)) <|
  tk_c (show TrOk D (d + 1) mi_X12_step 111 (tr_aload 112 0) from ok_aload_n (show decode mi_X12_step.2.1 111 = .ok (.aload_n 0, 1) from by decide +kernel) rfl) <|
  tk_c (show TrOk D (d + 1) mi_X12_step 112 (tr_getR 115 13 1214) from ok_getR (ci := 12) (k := 14) (show decode mi_X12_step.2.1 112 = .ok (.getfield 45, 3) from by decide +kernel) rfl (by decide) (gm 795 (by decide +kernel) rfl) rfl) <|
  tk_c (show TrOk D (d + 1) mi_X12_step 115 (tr_iload 116 1) from ok_iload_n (show decode mi_X12_step.2.1 115 = .ok (.iload_n 1, 1) from by decide +kernel) rfl) <|
  tk_c (show TrOk D (d + 1) mi_X12_step 116 (tr_iald 117) from ok_iald (show decode mi_X12_step.2.1 116 = .ok (.iaload, 1) from by decide +kernel)) <|
  tk_c (show TrOk D (d + 1) mi_X12_step 117 (tr_iret) from ok_iret (show decode mi_X12_step.2.1 117 = .ok (.ireturn, 1) from by decide +kernel) rfl) <|
  tk_n
def tb_X12_step (C : Nat → Sp) : Tab := tb_X12_step_0 C ++ (tb_X12_step_1 C)
theorem tbk_X12_step {D : DD} {d : Nat} {C : Nat → Sp} (hC : Snd D d C) : ∀ e ∈ tb_X12_step C, TrOk D (d + 1) mi_X12_step e.1 e.2 := tk_a (tbk_X12_step_0 hC) (tbk_X12_step_1 hC)
theorem a_X12_step_0 (C : Nat → Sp) : ta (tb_X12_step C) 0 = tr_aload 1 0 := rfl
theorem a_X12_step_1 (C : Nat → Sp) : ta (tb_X12_step C) 1 = tr_iload 2 1 := rfl
theorem a_X12_step_2 (C : Nat → Sp) : ta (tb_X12_step C) 2 = tr_callV (C 98) 5 13 1 := rfl
theorem a_X12_step_5 (C : Nat → Sp) : ta (tb_X12_step C) 5 = tr_ifeq 8 39 := rfl
theorem a_X12_step_8 (C : Nat → Sp) : ta (tb_X12_step C) 8 = tr_iload 9 2 := rfl
theorem a_X12_step_9 (C : Nat → Sp) : ta (tb_X12_step C) 9 = tr_i2l 10 := rfl
theorem a_X12_step_10 (C : Nat → Sp) : ta (tb_X12_step C) 10 = tr_lc 11 0 := rfl
theorem a_X12_step_11 (C : Nat → Sp) : ta (tb_X12_step C) 11 = tr_lc 14 17 := rfl
theorem a_X12_step_14 (C : Nat → Sp) : ta (tb_X12_step C) 14 = tr_callS (C 96) 17 3 := rfl
theorem a_X12_step_17 (C : Nat → Sp) : ta (tb_X12_step C) 17 = tr_ifeq 20 39 := rfl
theorem a_X12_step_20 (C : Nat → Sp) : ta (tb_X12_step C) 20 = tr_iload 21 2 := rfl
theorem a_X12_step_21 (C : Nat → Sp) : ta (tb_X12_step C) 21 = tr_ic 22 3 := rfl
theorem a_X12_step_22 (C : Nat → Sp) : ta (tb_X12_step C) 22 = tr_icne 25 41 := rfl
theorem a_X12_step_25 (C : Nat → Sp) : ta (tb_X12_step C) 25 = tr_iload 26 3 := rfl
theorem a_X12_step_26 (C : Nat → Sp) : ta (tb_X12_step C) 26 = tr_i2l 27 := rfl
theorem a_X12_step_27 (C : Nat → Sp) : ta (tb_X12_step C) 27 = tr_lc 30 20 := rfl
theorem a_X12_step_30 (C : Nat → Sp) : ta (tb_X12_step C) 30 = tr_lc 33 29 := rfl
theorem a_X12_step_33 (C : Nat → Sp) : ta (tb_X12_step C) 33 = tr_callS (C 96) 36 3 := rfl
theorem a_X12_step_36 (C : Nat → Sp) : ta (tb_X12_step C) 36 = tr_ifne 39 41 := rfl
theorem a_X12_step_39 (C : Nat → Sp) : ta (tb_X12_step C) 39 = tr_ic 40 (-1) := rfl
theorem a_X12_step_40 (C : Nat → Sp) : ta (tb_X12_step C) 40 = tr_iret := rfl
theorem a_X12_step_41 (C : Nat → Sp) : ta (tb_X12_step C) 41 = tr_aload 42 0 := rfl
theorem a_X12_step_42 (C : Nat → Sp) : ta (tb_X12_step C) 42 = tr_getR 45 13 1213 := rfl
theorem a_X12_step_45 (C : Nat → Sp) : ta (tb_X12_step C) 45 = tr_iload 46 1 := rfl
theorem a_X12_step_46 (C : Nat → Sp) : ta (tb_X12_step C) 46 = tr_bald 47 := rfl
theorem a_X12_step_47 (C : Nat → Sp) : ta (tb_X12_step C) 47 = tr_ifne 50 53 := rfl
theorem a_X12_step_50 (C : Nat → Sp) : ta (tb_X12_step C) 50 = tr_ic 52 (-2) := rfl
theorem a_X12_step_52 (C : Nat → Sp) : ta (tb_X12_step C) 52 = tr_iret := rfl
theorem a_X12_step_53 (C : Nat → Sp) : ta (tb_X12_step C) 53 = tr_aload 54 0 := rfl
theorem a_X12_step_54 (C : Nat → Sp) : ta (tb_X12_step C) 54 = tr_getR 57 13 1214 := rfl
theorem a_X12_step_57 (C : Nat → Sp) : ta (tb_X12_step C) 57 = tr_iload 58 1 := rfl
theorem a_X12_step_58 (C : Nat → Sp) : ta (tb_X12_step C) 58 = tr_iald 59 := rfl
theorem a_X12_step_59 (C : Nat → Sp) : ta (tb_X12_step C) 59 = tr_ic 61 10 := rfl
theorem a_X12_step_61 (C : Nat → Sp) : ta (tb_X12_step C) 61 = tr_icne 64 67 := rfl
theorem a_X12_step_64 (C : Nat → Sp) : ta (tb_X12_step C) 64 = tr_ic 66 (-3) := rfl
theorem a_X12_step_66 (C : Nat → Sp) : ta (tb_X12_step C) 66 = tr_iret := rfl
theorem a_X12_step_67 (C : Nat → Sp) : ta (tb_X12_step C) 67 = tr_aload 68 0 := rfl
theorem a_X12_step_68 (C : Nat → Sp) : ta (tb_X12_step C) 68 = tr_getR 71 13 1215 := rfl
theorem a_X12_step_71 (C : Nat → Sp) : ta (tb_X12_step C) 71 = tr_ic 73 10 := rfl
theorem a_X12_step_73 (C : Nat → Sp) : ta (tb_X12_step C) 73 = tr_iload 74 1 := rfl
theorem a_X12_step_74 (C : Nat → Sp) : ta (tb_X12_step C) 74 = tr_imul 75 := rfl
theorem a_X12_step_75 (C : Nat → Sp) : ta (tb_X12_step C) 75 = tr_aload 76 0 := rfl
theorem a_X12_step_76 (C : Nat → Sp) : ta (tb_X12_step C) 76 = tr_getR 79 13 1214 := rfl
theorem a_X12_step_79 (C : Nat → Sp) : ta (tb_X12_step C) 79 = tr_iload 80 1 := rfl
theorem a_X12_step_80 (C : Nat → Sp) : ta (tb_X12_step C) 80 = tr_iald 81 := rfl
theorem a_X12_step_81 (C : Nat → Sp) : ta (tb_X12_step C) 81 = tr_iadd 82 := rfl
theorem a_X12_step_82 (C : Nat → Sp) : ta (tb_X12_step C) 82 = tr_iload 83 2 := rfl
theorem a_X12_step_83 (C : Nat → Sp) : ta (tb_X12_step C) 83 = tr_iast 84 := rfl
theorem a_X12_step_84 (C : Nat → Sp) : ta (tb_X12_step C) 84 = tr_aload 85 0 := rfl
theorem a_X12_step_85 (C : Nat → Sp) : ta (tb_X12_step C) 85 = tr_getR 88 13 1216 := rfl
theorem a_X12_step_88 (C : Nat → Sp) : ta (tb_X12_step C) 88 = tr_ic 90 10 := rfl
theorem a_X12_step_90 (C : Nat → Sp) : ta (tb_X12_step C) 90 = tr_iload 91 1 := rfl
theorem a_X12_step_91 (C : Nat → Sp) : ta (tb_X12_step C) 91 = tr_imul 92 := rfl
theorem a_X12_step_92 (C : Nat → Sp) : ta (tb_X12_step C) 92 = tr_aload 93 0 := rfl
theorem a_X12_step_93 (C : Nat → Sp) : ta (tb_X12_step C) 93 = tr_getR 96 13 1214 := rfl
theorem a_X12_step_96 (C : Nat → Sp) : ta (tb_X12_step C) 96 = tr_iload 97 1 := rfl
theorem a_X12_step_97 (C : Nat → Sp) : ta (tb_X12_step C) 97 = tr_iald 98 := rfl
theorem a_X12_step_98 (C : Nat → Sp) : ta (tb_X12_step C) 98 = tr_iadd 99 := rfl
theorem a_X12_step_99 (C : Nat → Sp) : ta (tb_X12_step C) 99 = tr_iload 100 3 := rfl
theorem a_X12_step_100 (C : Nat → Sp) : ta (tb_X12_step C) 100 = tr_iast 101 := rfl
set_option maxRecDepth 20000 in
theorem a_X12_step_101 (C : Nat → Sp) : ta (tb_X12_step C) 101 = tr_aload 102 0 := rfl
set_option maxRecDepth 20000 in
theorem a_X12_step_102 (C : Nat → Sp) : ta (tb_X12_step C) 102 = tr_getR 105 13 1214 := rfl
set_option maxRecDepth 20000 in
theorem a_X12_step_105 (C : Nat → Sp) : ta (tb_X12_step C) 105 = tr_iload 106 1 := rfl
set_option maxRecDepth 20000 in
theorem a_X12_step_106 (C : Nat → Sp) : ta (tb_X12_step C) 106 = tr_dup2 107 := rfl
set_option maxRecDepth 20000 in
theorem a_X12_step_107 (C : Nat → Sp) : ta (tb_X12_step C) 107 = tr_iald 108 := rfl
set_option maxRecDepth 20000 in
theorem a_X12_step_108 (C : Nat → Sp) : ta (tb_X12_step C) 108 = tr_ic 109 1 := rfl
set_option maxRecDepth 20000 in
theorem a_X12_step_109 (C : Nat → Sp) : ta (tb_X12_step C) 109 = tr_iadd 110 := rfl
set_option maxRecDepth 20000 in
theorem a_X12_step_110 (C : Nat → Sp) : ta (tb_X12_step C) 110 = tr_iast 111 := rfl
set_option maxRecDepth 20000 in
theorem a_X12_step_111 (C : Nat → Sp) : ta (tb_X12_step C) 111 = tr_aload 112 0 := rfl
set_option maxRecDepth 20000 in
theorem a_X12_step_112 (C : Nat → Sp) : ta (tb_X12_step C) 112 = tr_getR 115 13 1214 := rfl
set_option maxRecDepth 20000 in
theorem a_X12_step_115 (C : Nat → Sp) : ta (tb_X12_step C) 115 = tr_iload 116 1 := rfl
set_option maxRecDepth 20000 in
theorem a_X12_step_116 (C : Nat → Sp) : ta (tb_X12_step C) 116 = tr_iald 117 := rfl
set_option maxRecDepth 20000 in
theorem a_X12_step_117 (C : Nat → Sp) : ta (tb_X12_step C) 117 = tr_iret := rfl

def tb_X12_leave_0 (C : Nat → Sp) : Tab := [(0, tr_aload 1 0), (1, tr_iload 2 1), (2, tr_callV (C 98) 5 13 1), (5, tr_ifne 8 10), (8, tr_ic 9 (-1)), (9, tr_iret), (10, tr_aload 11 0), (11, tr_getR 14 13 1213), (14, tr_iload 15 1), (15, tr_bald 16), (16, tr_ifne 19 22), (19, tr_ic 21 (-2)), (21, tr_iret), (22, tr_aload 23 0), (23, tr_getR 26 13 1213), (26, tr_iload 27 1), (27, tr_ic 28 0), (28, tr_bast 29), (29, tr_ic 30 1), (30, tr_iret)]
set_option maxRecDepth 20000 in
theorem tbk_X12_leave_0 {D : DD} {d : Nat} {C : Nat → Sp} (hC : Snd D d C) : ∀ e ∈ tb_X12_leave_0 C, TrOk D (d + 1) mi_X12_leave e.1 e.2 :=
  tk_c (show TrOk D (d + 1) mi_X12_leave 0 (tr_aload 1 0) from ok_aload_n (show decode mi_X12_leave.2.1 0 = .ok (.aload_n 0, 1) from by decide +kernel) rfl) <|
  tk_c (show TrOk D (d + 1) mi_X12_leave 1 (tr_iload 2 1) from ok_iload_n (show decode mi_X12_leave.2.1 1 = .ok (.iload_n 1, 1) from by decide +kernel) rfl) <|
  tk_c (show TrOk D (d + 1) mi_X12_leave 2 (tr_callV (C 98) 5 13 1) from ok_callV (ci := 12) (show decode mi_X12_leave.2.1 2 = .ok (.invokevirtual 160, 3) from by decide +kernel) mok_X12_isListener rfl rfl (gm 981 (by decide +kernel) rfl) (gm 983 (by decide +kernel) rfl) (gm 14 (by decide +kernel) rfl) (hC 98)) <|
  tk_c (show TrOk D (d + 1) mi_X12_leave 5 (tr_ifne 8 10) from ok_ifne (show decode mi_X12_leave.2.1 5 = .ok (.ifCond .ne 5, 3) from by decide +kernel) (by decide)) <|
  tk_c (show TrOk D (d + 1) mi_X12_leave 8 (tr_ic 9 (-1)) from ok_iconst (show decode mi_X12_leave.2.1 8 = .ok (.iconst (-1), 1) from by decide +kernel) rfl) <|
  tk_c (show TrOk D (d + 1) mi_X12_leave 9 (tr_iret) from ok_iret (show decode mi_X12_leave.2.1 9 = .ok (.ireturn, 1) from by decide +kernel) rfl) <|
  tk_c (show TrOk D (d + 1) mi_X12_leave 10 (tr_aload 11 0) from ok_aload_n (show decode mi_X12_leave.2.1 10 = .ok (.aload_n 0, 1) from by decide +kernel) rfl) <|
  tk_c (show TrOk D (d + 1) mi_X12_leave 11 (tr_getR 14 13 1213) from ok_getR (ci := 12) (k := 13) (show decode mi_X12_leave.2.1 11 = .ok (.getfield 42, 3) from by decide +kernel) rfl (by decide) (gm 794 (by decide +kernel) rfl) rfl) <|
  tk_c (show TrOk D (d + 1) mi_X12_leave 14 (tr_iload 15 1) from ok_iload_n (show decode mi_X12_leave.2.1 14 = .ok (.iload_n 1, 1) from by decide +kernel) rfl) <|
  tk_c (show TrOk D (d + 1) mi_X12_leave 15 (tr_bald 16) from ok_bald (show decode mi_X12_leave.2.1 15 = .ok (.baload, 1) from by decide +kernel)) <|
  tk_c (show TrOk D (d + 1) mi_X12_leave 16 (tr_ifne 19 22) from ok_ifne (show decode mi_X12_leave.2.1 16 = .ok (.ifCond .ne 6, 3) from by decide +kernel) (by decide)) <|
  tk_c (show TrOk D (d + 1) mi_X12_leave 19 (tr_ic 21 (-2)) from ok_bipush (show decode mi_X12_leave.2.1 19 = .ok (.bipush (-2), 2) from by decide +kernel) rfl) <|
  tk_c (show TrOk D (d + 1) mi_X12_leave 21 (tr_iret) from ok_iret (show decode mi_X12_leave.2.1 21 = .ok (.ireturn, 1) from by decide +kernel) rfl) <|
  tk_c (show TrOk D (d + 1) mi_X12_leave 22 (tr_aload 23 0) from ok_aload_n (show decode mi_X12_leave.2.1 22 = .ok (.aload_n 0, 1) from by decide +kernel) rfl) <|
  tk_c (show TrOk D (d + 1) mi_X12_leave 23 (tr_getR 26 13 1213) from ok_getR (ci := 12) (k := 13) (show decode mi_X12_leave.2.1 23 = .ok (.getfield 42, 3) from by decide +kernel) rfl (by decide) (gm 794 (by decide +kernel) rfl) rfl) <|
  tk_c (show TrOk D (d + 1) mi_X12_leave 26 (tr_iload 27 1) from ok_iload_n (show decode mi_X12_leave.2.1 26 = .ok (.iload_n 1, 1) from by decide +kernel) rfl) <|
  tk_c (show TrOk D (d + 1) mi_X12_leave 27 (tr_ic 28 0) from ok_iconst (show decode mi_X12_leave.2.1 27 = .ok (.iconst 0, 1) from by decide +kernel) rfl) <|
  tk_c (show TrOk D (d + 1) mi_X12_leave 28 (tr_bast 29) from ok_bast (show decode mi_X12_leave.2.1 28 = .ok (.bastore, 1) from by decide +kernel)) <|
  tk_c (show TrOk D (d + 1) mi_X12_leave 29 (tr_ic 30 1) from ok_iconst (show decode mi_X12_leave.2.1 29 = .ok (.iconst 1, 1) from by decide +kernel) rfl) <|
  tk_c (show TrOk D (d + 1) mi_X12_leave 30 (tr_iret) from ok_iret (show decode mi_X12_leave.2.1 30 = .ok (.ireturn, 1) from by decide +kernel) rfl) <|
  tk_n
def tb_X12_leave (C : Nat → Sp) : Tab := tb_X12_leave_0 C
theorem tbk_X12_leave {D : DD} {d : Nat} {C : Nat → Sp} (hC : Snd D d C) : ∀ e ∈ tb_X12_leave C, TrOk D (d + 1) mi_X12_leave e.1 e.2 := tbk_X12_leave_0 hC
theorem a_X12_leave_0 (C : Nat → Sp) : ta (tb_X12_leave C) 0 = tr_aload 1 0 := rfl
theorem a_X12_leave_1 (C : Nat → Sp) : ta (tb_X12_leave C) 1 = tr_iload 2 1 := rfl
theorem a_X12_leave_2 (C : Nat → Sp) : ta (tb_X12_leave C) 2 = tr_callV (C 98) 5 13 1 := rfl
theorem a_X12_leave_5 (C : Nat → Sp) : ta (tb_X12_leave C) 5 = tr_ifne 8 10 := rfl
theorem a_X12_leave_8 (C : Nat → Sp) : ta (tb_X12_leave C) 8 = tr_ic 9 (-1) := rfl
theorem a_X12_leave_9 (C : Nat → Sp) : ta (tb_X12_leave C) 9 = tr_iret := rfl
theorem a_X12_leave_10 (C : Nat → Sp) : ta (tb_X12_leave C) 10 = tr_aload 11 0 := rfl
theorem a_X12_leave_11 (C : Nat → Sp) : ta (tb_X12_leave C) 11 = tr_getR 14 13 1213 := rfl
theorem a_X12_leave_14 (C : Nat → Sp) : ta (tb_X12_leave C) 14 = tr_iload 15 1 := rfl
theorem a_X12_leave_15 (C : Nat → Sp) : ta (tb_X12_leave C) 15 = tr_bald 16 := rfl
theorem a_X12_leave_16 (C : Nat → Sp) : ta (tb_X12_leave C) 16 = tr_ifne 19 22 := rfl
theorem a_X12_leave_19 (C : Nat → Sp) : ta (tb_X12_leave C) 19 = tr_ic 21 (-2) := rfl
theorem a_X12_leave_21 (C : Nat → Sp) : ta (tb_X12_leave C) 21 = tr_iret := rfl
theorem a_X12_leave_22 (C : Nat → Sp) : ta (tb_X12_leave C) 22 = tr_aload 23 0 := rfl
theorem a_X12_leave_23 (C : Nat → Sp) : ta (tb_X12_leave C) 23 = tr_getR 26 13 1213 := rfl
theorem a_X12_leave_26 (C : Nat → Sp) : ta (tb_X12_leave C) 26 = tr_iload 27 1 := rfl
theorem a_X12_leave_27 (C : Nat → Sp) : ta (tb_X12_leave C) 27 = tr_ic 28 0 := rfl
theorem a_X12_leave_28 (C : Nat → Sp) : ta (tb_X12_leave C) 28 = tr_bast 29 := rfl
theorem a_X12_leave_29 (C : Nat → Sp) : ta (tb_X12_leave C) 29 = tr_ic 30 1 := rfl
theorem a_X12_leave_30 (C : Nat → Sp) : ta (tb_X12_leave C) 30 = tr_iret := rfl

def tb_X12_lay1_0 (C : Nat → Sp) : Tab := [(0, tr_aload 1 0), (1, tr_getR 4 13 1219), (4, tr_iload 5 1), (5, tr_iload 6 2), (6, tr_iast 7), (7, tr_aload 8 0), (8, tr_getR 11 13 1220), (11, tr_iload 12 1), (12, tr_iload 13 3), (13, tr_iast 14), (14, tr_ic 15 0), (15, tr_istore 17 4), (17, tr_iload 19 4), (19, tr_ic 21 16), (21, tr_icge 24 43), (24, tr_aload 25 0), (25, tr_getR 28 13 1221), (28, tr_ic 30 16), (30, tr_iload 31 1), (31, tr_imul 32), (32, tr_iload 34 4), (34, tr_iadd 35), (35, tr_lc 36 0), (36, tr_last 37), (37, tr_iinc 40 4 1), (40, tr_goto 17), (43, tr_ret)]
set_option maxRecDepth 20000 in
theorem tbk_X12_lay1_0 {D : DD} {d : Nat} {C : Nat → Sp} (hC : Snd D d C) : ∀ e ∈ tb_X12_lay1_0 C, TrOk D (d + 1) mi_X12_lay1 e.1 e.2 :=
  tk_c (show TrOk D (d + 1) mi_X12_lay1 0 (tr_aload 1 0) from ok_aload_n (show decode mi_X12_lay1.2.1 0 = .ok (.aload_n 0, 1) from by decide +kernel) rfl) <|
  tk_c (show TrOk D (d + 1) mi_X12_lay1 1 (tr_getR 4 13 1219) from ok_getR (ci := 12) (k := 19) (show decode mi_X12_lay1.2.1 1 = .ok (.getfield 60, 3) from by decide +kernel) rfl (by decide) (gm 800 (by decide +kernel) rfl) rfl) <|
  tk_c (show TrOk D (d + 1) mi_X12_lay1 4 (tr_iload 5 1) from ok_iload_n (show decode mi_X12_lay1.2.1 4 = .ok (.iload_n 1, 1) from by decide +kernel) rfl) <|
  tk_c (show TrOk D (d + 1) mi_X12_lay1 5 (tr_iload 6 2) from ok_iload_n (show decode mi_X12_lay1.2.1 5 = .ok (.iload_n 2, 1) from by decide +kernel) rfl) <|
  tk_c (show TrOk D (d + 1) mi_X12_lay1 6 (tr_iast 7) from ok_iast (show decode mi_X12_lay1.2.1 6 = .ok (.iastore, 1) from by decide +kernel)) <|
  tk_c (show TrOk D (d + 1) mi_X12_lay1 7 (tr_aload 8 0) from ok_aload_n (show decode mi_X12_lay1.2.1 7 = .ok (.aload_n 0, 1) from by decide +kernel) rfl) <|
  tk_c (show TrOk D (d + 1) mi_X12_lay1 8 (tr_getR 11 13 1220) from ok_getR (ci := 12) (k := 20) (show decode mi_X12_lay1.2.1 8 = .ok (.getfield 63, 3) from by decide +kernel) rfl (by decide) (gm 801 (by decide +kernel) rfl) rfl) <|
  tk_c (show TrOk D (d + 1) mi_X12_lay1 11 (tr_iload 12 1) from ok_iload_n (show decode mi_X12_lay1.2.1 11 = .ok (.iload_n 1, 1) from by decide +kernel) rfl) <|
  tk_c (show TrOk D (d + 1) mi_X12_lay1 12 (tr_iload 13 3) from ok_iload_n (show decode mi_X12_lay1.2.1 12 = .ok (.iload_n 3, 1) from by decide +kernel) rfl) <|
  tk_c (show TrOk D (d + 1) mi_X12_lay1 13 (tr_iast 14) from ok_iast (show decode mi_X12_lay1.2.1 13 = .ok (.iastore, 1) from by decide +kernel)) <|
  tk_c (show TrOk D (d + 1) mi_X12_lay1 14 (tr_ic 15 0) from ok_iconst (show decode mi_X12_lay1.2.1 14 = .ok (.iconst 0, 1) from by decide +kernel) rfl) <|
  tk_c (show TrOk D (d + 1) mi_X12_lay1 15 (tr_istore 17 4) from ok_istore (show decode mi_X12_lay1.2.1 15 = .ok (.istore 4, 2) from by decide +kernel) (by decide)) <|
  tk_c (show TrOk D (d + 1) mi_X12_lay1 17 (tr_iload 19 4) from ok_iload (show decode mi_X12_lay1.2.1 17 = .ok (.iload 4, 2) from by decide +kernel)) <|
  tk_c (show TrOk D (d + 1) mi_X12_lay1 19 (tr_ic 21 16) from ok_bipush (show decode mi_X12_lay1.2.1 19 = .ok (.bipush 16, 2) from by decide +kernel) rfl) <|
  tk_c (show TrOk D (d + 1) mi_X12_lay1 21 (tr_icge 24 43) from ok_icge (show decode mi_X12_lay1.2.1 21 = .ok (.if_icmp .ge 22, 3) from by decide +kernel) (by decide)) <|
  tk_c (show TrOk D (d + 1) mi_X12_lay1 24 (tr_aload 25 0) from ok_aload_n (show decode mi_X12_lay1.2.1 24 = .ok (.aload_n 0, 1) from by decide +kernel) rfl) <|
  tk_c (show TrOk D (d + 1) mi_X12_lay1 25 (tr_getR 28 13 1221) from ok_getR (ci := 12) (k := 21) (show decode mi_X12_lay1.2.1 25 = .ok (.getfield 66, 3) from by decide +kernel) rfl (by decide) (gm 802 (by decide +kernel) rfl) rfl) <|
  tk_c (show TrOk D (d + 1) mi_X12_lay1 28 (tr_ic 30 16) from ok_bipush (show decode mi_X12_lay1.2.1 28 = .ok (.bipush 16, 2) from by decide +kernel) rfl) <|
  tk_c (show TrOk D (d + 1) mi_X12_lay1 30 (tr_iload 31 1) from ok_iload_n (show decode mi_X12_lay1.2.1 30 = .ok (.iload_n 1, 1) from by decide +kernel) rfl) <|
  tk_c (show TrOk D (d + 1) mi_X12_lay1 31 (tr_imul 32) from ok_imul (show decode mi_X12_lay1.2.1 31 = .ok (.imul, 1) from by decide +kernel)) <|
  tk_c (show TrOk D (d + 1) mi_X12_lay1 32 (tr_iload 34 4) from ok_iload (show decode mi_X12_lay1.2.1 32 = .ok (.iload 4, 2) from by decide +kernel)) <|
  tk_c (show TrOk D (d + 1) mi_X12_lay1 34 (tr_iadd 35) from ok_iadd (show decode mi_X12_lay1.2.1 34 = .ok (.iadd, 1) from by decide +kernel)) <|
  tk_c (show TrOk D (d + 1) mi_X12_lay1 35 (tr_lc 36 0) from ok_lconst (show decode mi_X12_lay1.2.1 35 = .ok (.lconst 0, 1) from by decide +kernel) rfl) <|
  tk_c (show TrOk D (d + 1) mi_X12_lay1 36 (tr_last 37) from ok_last (show decode mi_X12_lay1.2.1 36 = .ok (.lastore, 1) from by decide +kernel)) <|
  tk_c (show TrOk D (d + 1) mi_X12_lay1 37 (tr_iinc 40 4 1) from ok_iinc (show decode mi_X12_lay1.2.1 37 = .ok (.iinc 4 1, 3) from by decide +kernel) rfl (by decide)) <|
  tk_c (show TrOk D (d + 1) mi_X12_lay1 40 (tr_goto 17) from ok_goto (show decode mi_X12_lay1.2.1 40 = .ok (.goto (-23), 3) from by decide +kernel) (by decide)) <|
  tk_c (show TrOk D (d + 1) mi_X12_lay1 43 (tr_ret) from ok_ret (show decode mi_X12_lay1.2.1 43 = .ok (.return_, 1) from by decide +kernel) rfl) <|
  tk_n
def tb_X12_lay1 (C : Nat → Sp) : Tab := tb_X12_lay1_0 C
theorem tbk_X12_lay1 {D : DD} {d : Nat} {C : Nat → Sp} (hC : Snd D d C) : ∀ e ∈ tb_X12_lay1 C, TrOk D (d + 1) mi_X12_lay1 e.1 e.2 := tbk_X12_lay1_0 hC
theorem a_X12_lay1_0 (C : Nat → Sp) : ta (tb_X12_lay1 C) 0 = tr_aload 1 0 := rfl
theorem a_X12_lay1_1 (C : Nat → Sp) : ta (tb_X12_lay1 C) 1 = tr_getR 4 13 1219 := rfl
theorem a_X12_lay1_4 (C : Nat → Sp) : ta (tb_X12_lay1 C) 4 = tr_iload 5 1 := rfl
theorem a_X12_lay1_5 (C : Nat → Sp) : ta (tb_X12_lay1 C) 5 = tr_iload 6 2 := rfl
theorem a_X12_lay1_6 (C : Nat → Sp) : ta (tb_X12_lay1 C) 6 = tr_iast 7 := rfl
theorem a_X12_lay1_7 (C : Nat → Sp) : ta (tb_X12_lay1 C) 7 = tr_aload 8 0 := rfl
theorem a_X12_lay1_8 (C : Nat → Sp) : ta (tb_X12_lay1 C) 8 = tr_getR 11 13 1220 := rfl
theorem a_X12_lay1_11 (C : Nat → Sp) : ta (tb_X12_lay1 C) 11 = tr_iload 12 1 := rfl
theorem a_X12_lay1_12 (C : Nat → Sp) : ta (tb_X12_lay1 C) 12 = tr_iload 13 3 := rfl
theorem a_X12_lay1_13 (C : Nat → Sp) : ta (tb_X12_lay1 C) 13 = tr_iast 14 := rfl
theorem a_X12_lay1_14 (C : Nat → Sp) : ta (tb_X12_lay1 C) 14 = tr_ic 15 0 := rfl
theorem a_X12_lay1_15 (C : Nat → Sp) : ta (tb_X12_lay1 C) 15 = tr_istore 17 4 := rfl
theorem a_X12_lay1_17 (C : Nat → Sp) : ta (tb_X12_lay1 C) 17 = tr_iload 19 4 := rfl
theorem a_X12_lay1_19 (C : Nat → Sp) : ta (tb_X12_lay1 C) 19 = tr_ic 21 16 := rfl
theorem a_X12_lay1_21 (C : Nat → Sp) : ta (tb_X12_lay1 C) 21 = tr_icge 24 43 := rfl
theorem a_X12_lay1_24 (C : Nat → Sp) : ta (tb_X12_lay1 C) 24 = tr_aload 25 0 := rfl
theorem a_X12_lay1_25 (C : Nat → Sp) : ta (tb_X12_lay1 C) 25 = tr_getR 28 13 1221 := rfl
theorem a_X12_lay1_28 (C : Nat → Sp) : ta (tb_X12_lay1 C) 28 = tr_ic 30 16 := rfl
theorem a_X12_lay1_30 (C : Nat → Sp) : ta (tb_X12_lay1 C) 30 = tr_iload 31 1 := rfl
theorem a_X12_lay1_31 (C : Nat → Sp) : ta (tb_X12_lay1 C) 31 = tr_imul 32 := rfl
theorem a_X12_lay1_32 (C : Nat → Sp) : ta (tb_X12_lay1 C) 32 = tr_iload 34 4 := rfl
theorem a_X12_lay1_34 (C : Nat → Sp) : ta (tb_X12_lay1 C) 34 = tr_iadd 35 := rfl
theorem a_X12_lay1_35 (C : Nat → Sp) : ta (tb_X12_lay1 C) 35 = tr_lc 36 0 := rfl
theorem a_X12_lay1_36 (C : Nat → Sp) : ta (tb_X12_lay1 C) 36 = tr_last 37 := rfl
theorem a_X12_lay1_37 (C : Nat → Sp) : ta (tb_X12_lay1 C) 37 = tr_iinc 40 4 1 := rfl
theorem a_X12_lay1_40 (C : Nat → Sp) : ta (tb_X12_lay1 C) 40 = tr_goto 17 := rfl
theorem a_X12_lay1_43 (C : Nat → Sp) : ta (tb_X12_lay1 C) 43 = tr_ret := rfl

def tb_X12_tray_0 (C : Nat → Sp) : Tab := [(0, tr_iload 1 1), (1, tr_i2l 2), (2, tr_lc 3 0), (3, tr_lc 6 7), (6, tr_callS (C 96) 9 3), (9, tr_ifeq 12 30), (12, tr_iload 13 2), (13, tr_i2l 14), (14, tr_lc 15 0), (15, tr_lc 18 2), (18, tr_callS (C 96) 21 3), (21, tr_ifeq 24 30), (24, tr_iload 25 3), (25, tr_ic 27 16), (27, tr_icle 30 32), (30, tr_ic 31 (-1)), (31, tr_iret), (32, tr_iload 33 3), (33, tr_ifge 36 39), (36, tr_ic 38 (-14)), (38, tr_iret), (39, tr_aload 40 0), (40, tr_iload 41 1), (41, tr_iload 42 2), (42, tr_iload 43 3), (43, tr_callV (C 108) 46 13 3), (46, tr_iload 47 3), (47, tr_iret)]
set_option maxRecDepth 20000 in
theorem tbk_X12_tray_0 {D : DD} {d : Nat} {C : Nat → Sp} (hC : Snd D d C) : ∀ e ∈ tb_X12_tray_0 C, TrOk D (d + 1) mi_X12_tray e.1 e.2 :=
  tk_c (show TrOk D (d + 1) mi_X12_tray 0 (tr_iload 1 1) from ok_iload_n (show decode mi_X12_tray.2.1 0 = .ok (.iload_n 1, 1) from by decide +kernel) rfl) <|
  tk_c (show TrOk D (d + 1) mi_X12_tray 1 (tr_i2l 2) from ok_i2l (show decode mi_X12_tray.2.1 1 = .ok (.i2l, 1) from by decide +kernel)) <|
  tk_c (show TrOk D (d + 1) mi_X12_tray 2 (tr_lc 3 0) from ok_lconst (show decode mi_X12_tray.2.1 2 = .ok (.lconst 0, 1) from by decide +kernel) rfl) <|
  tk_c (show TrOk D (d + 1) mi_X12_tray 3 (tr_lc 6 7) from ok_ldc2 (show decode mi_X12_tray.2.1 3 = .ok (.ldc2_w 169, 3) from by decide +kernel) (gm 1004 (by decide +kernel) rfl)) <|
  tk_c (show TrOk D (d + 1) mi_X12_tray 6 (tr_callS (C 96) 9 3) from ok_callS (show decode mi_X12_tray.2.1 6 = .ok (.invokestatic 136, 3) from by decide +kernel) mok_X12_in (gm 955 (by decide +kernel) rfl) (gm 956 (by decide +kernel) rfl) (hC 96)) <|
  tk_c (show TrOk D (d + 1) mi_X12_tray 9 (tr_ifeq 12 30) from ok_ifeq (show decode mi_X12_tray.2.1 9 = .ok (.ifCond .eq 21, 3) from by decide +kernel) (by decide)) <|
  tk_c (show TrOk D (d + 1) mi_X12_tray 12 (tr_iload 13 2) from ok_iload_n (show decode mi_X12_tray.2.1 12 = .ok (.iload_n 2, 1) from by decide +kernel) rfl) <|
  tk_c (show TrOk D (d + 1) mi_X12_tray 13 (tr_i2l 14) from ok_i2l (show decode mi_X12_tray.2.1 13 = .ok (.i2l, 1) from by decide +kernel)) <|
  tk_c (show TrOk D (d + 1) mi_X12_tray 14 (tr_lc 15 0) from ok_lconst (show decode mi_X12_tray.2.1 14 = .ok (.lconst 0, 1) from by decide +kernel) rfl) <|
  tk_c (show TrOk D (d + 1) mi_X12_tray 15 (tr_lc 18 2) from ok_ldc2 (show decode mi_X12_tray.2.1 15 = .ok (.ldc2_w 154, 3) from by decide +kernel) (gm 974 (by decide +kernel) rfl)) <|
  tk_c (show TrOk D (d + 1) mi_X12_tray 18 (tr_callS (C 96) 21 3) from ok_callS (show decode mi_X12_tray.2.1 18 = .ok (.invokestatic 136, 3) from by decide +kernel) mok_X12_in (gm 955 (by decide +kernel) rfl) (gm 956 (by decide +kernel) rfl) (hC 96)) <|
  tk_c (show TrOk D (d + 1) mi_X12_tray 21 (tr_ifeq 24 30) from ok_ifeq (show decode mi_X12_tray.2.1 21 = .ok (.ifCond .eq 9, 3) from by decide +kernel) (by decide)) <|
  tk_c (show TrOk D (d + 1) mi_X12_tray 24 (tr_iload 25 3) from ok_iload_n (show decode mi_X12_tray.2.1 24 = .ok (.iload_n 3, 1) from by decide +kernel) rfl) <|
  tk_c (show TrOk D (d + 1) mi_X12_tray 25 (tr_ic 27 16) from ok_bipush (show decode mi_X12_tray.2.1 25 = .ok (.bipush 16, 2) from by decide +kernel) rfl) <|
  tk_c (show TrOk D (d + 1) mi_X12_tray 27 (tr_icle 30 32) from ok_icle (show decode mi_X12_tray.2.1 27 = .ok (.if_icmp .le 5, 3) from by decide +kernel) (by decide)) <|
  tk_c (show TrOk D (d + 1) mi_X12_tray 30 (tr_ic 31 (-1)) from ok_iconst (show decode mi_X12_tray.2.1 30 = .ok (.iconst (-1), 1) from by decide +kernel) rfl) <|
  tk_c (show TrOk D (d + 1) mi_X12_tray 31 (tr_iret) from ok_iret (show decode mi_X12_tray.2.1 31 = .ok (.ireturn, 1) from by decide +kernel) rfl) <|
  tk_c (show TrOk D (d + 1) mi_X12_tray 32 (tr_iload 33 3) from ok_iload_n (show decode mi_X12_tray.2.1 32 = .ok (.iload_n 3, 1) from by decide +kernel) rfl) <|
  tk_c (show TrOk D (d + 1) mi_X12_tray 33 (tr_ifge 36 39) from ok_ifge (show decode mi_X12_tray.2.1 33 = .ok (.ifCond .ge 6, 3) from by decide +kernel) (by decide)) <|
  tk_c (show TrOk D (d + 1) mi_X12_tray 36 (tr_ic 38 (-14)) from ok_bipush (show decode mi_X12_tray.2.1 36 = .ok (.bipush (-14), 2) from by decide +kernel) rfl) <|
  tk_c (show TrOk D (d + 1) mi_X12_tray 38 (tr_iret) from ok_iret (show decode mi_X12_tray.2.1 38 = .ok (.ireturn, 1) from by decide +kernel) rfl) <|
  tk_c (show TrOk D (d + 1) mi_X12_tray 39 (tr_aload 40 0) from ok_aload_n (show decode mi_X12_tray.2.1 39 = .ok (.aload_n 0, 1) from by decide +kernel) rfl) <|
  tk_c (show TrOk D (d + 1) mi_X12_tray 40 (tr_iload 41 1) from ok_iload_n (show decode mi_X12_tray.2.1 40 = .ok (.iload_n 1, 1) from by decide +kernel) rfl) <|
  tk_c (show TrOk D (d + 1) mi_X12_tray 41 (tr_iload 42 2) from ok_iload_n (show decode mi_X12_tray.2.1 41 = .ok (.iload_n 2, 1) from by decide +kernel) rfl) <|
  tk_c (show TrOk D (d + 1) mi_X12_tray 42 (tr_iload 43 3) from ok_iload_n (show decode mi_X12_tray.2.1 42 = .ok (.iload_n 3, 1) from by decide +kernel) rfl) <|
  tk_c (show TrOk D (d + 1) mi_X12_tray 43 (tr_callV (C 108) 46 13 3) from ok_callV (ci := 12) (show decode mi_X12_tray.2.1 43 = .ok (.invokevirtual 171, 3) from by decide +kernel) mok_X12_lay1 rfl rfl (gm 1005 (by decide +kernel) rfl) (gm 1007 (by decide +kernel) rfl) (gm 15 (by decide +kernel) rfl) (hC 108)) <|
  tk_c (show TrOk D (d + 1) mi_X12_tray 46 (tr_iload 47 3) from ok_iload_n (show decode mi_X12_tray.2.1 46 = .ok (.iload_n 3, 1) from by decide +kernel) rfl) <|
  tk_c (show TrOk D (d + 1) mi_X12_tray 47 (tr_iret) from ok_iret (show decode mi_X12_tray.2.1 47 = .ok (.ireturn, 1) from by decide +kernel) rfl) <|
  tk_n
def tb_X12_tray (C : Nat → Sp) : Tab := tb_X12_tray_0 C
theorem tbk_X12_tray {D : DD} {d : Nat} {C : Nat → Sp} (hC : Snd D d C) : ∀ e ∈ tb_X12_tray C, TrOk D (d + 1) mi_X12_tray e.1 e.2 := tbk_X12_tray_0 hC
theorem a_X12_tray_0 (C : Nat → Sp) : ta (tb_X12_tray C) 0 = tr_iload 1 1 := rfl
theorem a_X12_tray_1 (C : Nat → Sp) : ta (tb_X12_tray C) 1 = tr_i2l 2 := rfl
theorem a_X12_tray_2 (C : Nat → Sp) : ta (tb_X12_tray C) 2 = tr_lc 3 0 := rfl
theorem a_X12_tray_3 (C : Nat → Sp) : ta (tb_X12_tray C) 3 = tr_lc 6 7 := rfl
theorem a_X12_tray_6 (C : Nat → Sp) : ta (tb_X12_tray C) 6 = tr_callS (C 96) 9 3 := rfl
theorem a_X12_tray_9 (C : Nat → Sp) : ta (tb_X12_tray C) 9 = tr_ifeq 12 30 := rfl
theorem a_X12_tray_12 (C : Nat → Sp) : ta (tb_X12_tray C) 12 = tr_iload 13 2 := rfl
theorem a_X12_tray_13 (C : Nat → Sp) : ta (tb_X12_tray C) 13 = tr_i2l 14 := rfl
theorem a_X12_tray_14 (C : Nat → Sp) : ta (tb_X12_tray C) 14 = tr_lc 15 0 := rfl
theorem a_X12_tray_15 (C : Nat → Sp) : ta (tb_X12_tray C) 15 = tr_lc 18 2 := rfl
theorem a_X12_tray_18 (C : Nat → Sp) : ta (tb_X12_tray C) 18 = tr_callS (C 96) 21 3 := rfl
theorem a_X12_tray_21 (C : Nat → Sp) : ta (tb_X12_tray C) 21 = tr_ifeq 24 30 := rfl
theorem a_X12_tray_24 (C : Nat → Sp) : ta (tb_X12_tray C) 24 = tr_iload 25 3 := rfl
theorem a_X12_tray_25 (C : Nat → Sp) : ta (tb_X12_tray C) 25 = tr_ic 27 16 := rfl
theorem a_X12_tray_27 (C : Nat → Sp) : ta (tb_X12_tray C) 27 = tr_icle 30 32 := rfl
theorem a_X12_tray_30 (C : Nat → Sp) : ta (tb_X12_tray C) 30 = tr_ic 31 (-1) := rfl
theorem a_X12_tray_31 (C : Nat → Sp) : ta (tb_X12_tray C) 31 = tr_iret := rfl
theorem a_X12_tray_32 (C : Nat → Sp) : ta (tb_X12_tray C) 32 = tr_iload 33 3 := rfl
theorem a_X12_tray_33 (C : Nat → Sp) : ta (tb_X12_tray C) 33 = tr_ifge 36 39 := rfl
theorem a_X12_tray_36 (C : Nat → Sp) : ta (tb_X12_tray C) 36 = tr_ic 38 (-14) := rfl
theorem a_X12_tray_38 (C : Nat → Sp) : ta (tb_X12_tray C) 38 = tr_iret := rfl
theorem a_X12_tray_39 (C : Nat → Sp) : ta (tb_X12_tray C) 39 = tr_aload 40 0 := rfl
theorem a_X12_tray_40 (C : Nat → Sp) : ta (tb_X12_tray C) 40 = tr_iload 41 1 := rfl
theorem a_X12_tray_41 (C : Nat → Sp) : ta (tb_X12_tray C) 41 = tr_iload 42 2 := rfl
theorem a_X12_tray_42 (C : Nat → Sp) : ta (tb_X12_tray C) 42 = tr_iload 43 3 := rfl
theorem a_X12_tray_43 (C : Nat → Sp) : ta (tb_X12_tray C) 43 = tr_callV (C 108) 46 13 3 := rfl
theorem a_X12_tray_46 (C : Nat → Sp) : ta (tb_X12_tray C) 46 = tr_iload 47 3 := rfl
theorem a_X12_tray_47 (C : Nat → Sp) : ta (tb_X12_tray C) 47 = tr_iret := rfl

def tb_X12_lay_0 (C : Nat → Sp) : Tab := [(0, tr_iload 1 1), (1, tr_i2l 2), (2, tr_lc 3 0), (3, tr_lc 6 7), (6, tr_callS (C 96) 9 3), (9, tr_ifne 12 14), (12, tr_ic 13 (-1)), (13, tr_iret), (14, tr_aload 15 0), (15, tr_getR 18 13 1219), (18, tr_iload 19 1), (19, tr_iald 20), (20, tr_ic 22 (-4)), (22, tr_icne 25 28), (25, tr_ic 27 (-11)), (27, tr_iret), (28, tr_iload 29 2), (29, tr_i2l 30), (30, tr_lc 31 0), (31, tr_aload 32 0), (32, tr_getR 35 13 1220), (35, tr_iload 36 1), (36, tr_iald 37), (37, tr_ic 38 1), (38, tr_isub 39), (39, tr_i2l 40), (40, tr_callS (C 96) 43 3), (43, tr_ifne 46 49), (46, tr_ic 48 (-12)), (48, tr_iret), (49, tr_aload 50 0), (50, tr_getR 53 13 1221), (53, tr_ic 55 16), (55, tr_iload 56 1), (56, tr_imul 57), (57, tr_iload 58 2), (58, tr_iadd 59), (59, tr_aload 60 0), (60, tr_getR 63 13 1219), (63, tr_iload 64 1)]
set_option maxRecDepth 20000 in
theorem tbk_X12_lay_0 {D : DD} {d : Nat} {C : Nat → Sp} (hC : Snd D d C) : ∀ e ∈ tb_X12_lay_0 C, TrOk D (d + 1) mi_X12_lay e.1 e.2 :=
  tk_c (show TrOk D (d + 1) mi_X12_lay 0 (tr_iload 1 1) from ok_iload_n (show decode mi_X12_lay.2.1 0 = .ok (.iload_n 1, 1) from by decide +kernel) rfl) <|
  tk_c (show TrOk D (d + 1) mi_X12_lay 1 (tr_i2l 2) from ok_i2l (show decode mi_X12_lay.2.1 1 = .ok (.i2l, 1) from by decide +kernel)) <|
  tk_c (show TrOk D (d + 1) mi_X12_lay 2 (tr_lc 3 0) from ok_lconst (show decode mi_X12_lay.2.1 2 = .ok (.lconst 0, 1) from by decide +kernel) rfl) <|
  tk_c (show TrOk D (d + 1) mi_X12_lay 3 (tr_lc 6 7) from ok_ldc2 (show decode mi_X12_lay.2.1 3 = .ok (.ldc2_w 169, 3) from by decide +kernel) (gm 1004 (by decide +kernel) rfl)) <|
  tk_c (show TrOk D (d + 1) mi_X12_lay 6 (tr_callS (C 96) 9 3) from ok_callS (show decode mi_X12_lay.2.1 6 = .ok (.invokestatic 136, 3) from by decide +kernel) mok_X12_in (gm 955 (by decide +kernel) rfl) (gm 956 (by decide +kernel) rfl) (hC 96)) <|
  tk_c (show TrOk D (d + 1) mi_X12_lay 9 (tr_ifne 12 14) from ok_ifne (show decode mi_X12_lay.2.1 9 = .ok (.ifCond .ne 5, 3) from by decide +kernel) (by decide)) <|
  tk_c (show TrOk D (d + 1) mi_X12_lay 12 (tr_ic 13 (-1)) from ok_iconst (show decode mi_X12_lay.2.1 12 = .ok (.iconst (-1), 1) from by decide +kernel) rfl) <|
  tk_c (show TrOk D (d + 1) mi_X12_lay 13 (tr_iret) from ok_iret (show decode mi_X12_lay.2.1 13 = .ok (.ireturn, 1) from by decide +kernel) rfl) <|
  tk_c (show TrOk D (d + 1) mi_X12_lay 14 (tr_aload 15 0) from ok_aload_n (show decode mi_X12_lay.2.1 14 = .ok (.aload_n 0, 1) from by decide +kernel) rfl) <|
  tk_c (show TrOk D (d + 1) mi_X12_lay 15 (tr_getR 18 13 1219) from ok_getR (ci := 12) (k := 19) (show decode mi_X12_lay.2.1 15 = .ok (.getfield 60, 3) from by decide +kernel) rfl (by decide) (gm 800 (by decide +kernel) rfl) rfl) <|
  tk_c (show TrOk D (d + 1) mi_X12_lay 18 (tr_iload 19 1) from ok_iload_n (show decode mi_X12_lay.2.1 18 = .ok (.iload_n 1, 1) from by decide +kernel) rfl) <|
  tk_c (show TrOk D (d + 1) mi_X12_lay 19 (tr_iald 20) from ok_iald (show decode mi_X12_lay.2.1 19 = .ok (.iaload, 1) from by decide +kernel)) <|
  tk_c (show TrOk D (d + 1) mi_X12_lay 20 (tr_ic 22 (-4)) from ok_bipush (show decode mi_X12_lay.2.1 20 = .ok (.bipush (-4), 2) from by decide +kernel) rfl) <|
  tk_c (show TrOk D (d + 1) mi_X12_lay 22 (tr_icne 25 28) from ok_icne (show decode mi_X12_lay.2.1 22 = .ok (.if_icmp .ne 6, 3) from by decide +kernel) (by decide)) <|
  tk_c (show TrOk D (d + 1) mi_X12_lay 25 (tr_ic 27 (-11)) from ok_bipush (show decode mi_X12_lay.2.1 25 = .ok (.bipush (-11), 2) from by decide +kernel) rfl) <|
  tk_c (show TrOk D (d + 1) mi_X12_lay 27 (tr_iret) from ok_iret (show decode mi_X12_lay.2.1 27 = .ok (.ireturn, 1) from by decide +kernel) rfl) <|
  tk_c (show TrOk D (d + 1) mi_X12_lay 28 (tr_iload 29 2) from ok_iload_n (show decode mi_X12_lay.2.1 28 = .ok (.iload_n 2, 1) from by decide +kernel) rfl) <|
  tk_c (show TrOk D (d + 1) mi_X12_lay 29 (tr_i2l 30) from ok_i2l (show decode mi_X12_lay.2.1 29 = .ok (.i2l, 1) from by decide +kernel)) <|
  tk_c (show TrOk D (d + 1) mi_X12_lay 30 (tr_lc 31 0) from ok_lconst (show decode mi_X12_lay.2.1 30 = .ok (.lconst 0, 1) from by decide +kernel) rfl) <|
  tk_c (show TrOk D (d + 1) mi_X12_lay 31 (tr_aload 32 0) from ok_aload_n (show decode mi_X12_lay.2.1 31 = .ok (.aload_n 0, 1) from by decide +kernel) rfl) <|
  tk_c (show TrOk D (d + 1) mi_X12_lay 32 (tr_getR 35 13 1220) from ok_getR (ci := 12) (k := 20) (show decode mi_X12_lay.2.1 32 = .ok (.getfield 63, 3) from by decide +kernel) rfl (by decide) (gm 801 (by decide +kernel) rfl) rfl) <|
  tk_c (show TrOk D (d + 1) mi_X12_lay 35 (tr_iload 36 1) from ok_iload_n (show decode mi_X12_lay.2.1 35 = .ok (.iload_n 1, 1) from by decide +kernel) rfl) <|
  tk_c (show TrOk D (d + 1) mi_X12_lay 36 (tr_iald 37) from ok_iald (show decode mi_X12_lay.2.1 36 = .ok (.iaload, 1) from by decide +kernel)) <|
  tk_c (show TrOk D (d + 1) mi_X12_lay 37 (tr_ic 38 1) from ok_iconst (show decode mi_X12_lay.2.1 37 = .ok (.iconst 1, 1) from by decide +kernel) rfl) <|
  tk_c (show TrOk D (d + 1) mi_X12_lay 38 (tr_isub 39) from ok_isub (show decode mi_X12_lay.2.1 38 = .ok (.isub, 1) from by decide +kernel)) <|
  tk_c (show TrOk D (d + 1) mi_X12_lay 39 (tr_i2l 40) from ok_i2l (show decode mi_X12_lay.2.1 39 = .ok (.i2l, 1) from by decide +kernel)) <|
  tk_c (show TrOk D (d + 1) mi_X12_lay 40 (tr_callS (C 96) 43 3) from ok_callS (show decode mi_X12_lay.2.1 40 = .ok (.invokestatic 136, 3) from by decide +kernel) mok_X12_in (gm 955 (by decide +kernel) rfl) (gm 956 (by decide +kernel) rfl) (hC 96)) <|
  tk_c (show TrOk D (d + 1) mi_X12_lay 43 (tr_ifne 46 49) from ok_ifne (show decode mi_X12_lay.2.1 43 = .ok (.ifCond .ne 6, 3) from by decide +kernel) (by decide)) <|
  tk_c (show TrOk D (d + 1) mi_X12_lay 46 (tr_ic 48 (-12)) from ok_bipush (show decode mi_X12_lay.2.1 46 = .ok (.bipush (-12), 2) from by decide +kernel) rfl) <|
  tk_c (show TrOk D (d + 1) mi_X12_lay 48 (tr_iret) from ok_iret (show decode mi_X12_lay.2.1 48 = .ok (.ireturn, 1) from by decide +kernel) rfl) <|
  tk_c (show TrOk D (d + 1) mi_X12_lay 49 (tr_aload 50 0) from ok_aload_n (show decode mi_X12_lay.2.1 49 = .ok (.aload_n 0, 1) from by decide +kernel) rfl) <|
  tk_c (show TrOk D (d + 1) mi_X12_lay 50 (tr_getR 53 13 1221) from ok_getR (ci := 12) (k := 21) (show decode mi_X12_lay.2.1 50 = .ok (.getfield 66, 3) from by decide +kernel) rfl (by decide) (gm 802 (by decide +kernel) rfl) rfl) <|
  tk_c (show TrOk D (d + 1) mi_X12_lay 53 (tr_ic 55 16) from ok_bipush (show decode mi_X12_lay.2.1 53 = .ok (.bipush 16, 2) from by decide +kernel) rfl) <|
  tk_c (show TrOk D (d + 1) mi_X12_lay 55 (tr_iload 56 1) from ok_iload_n (show decode mi_X12_lay.2.1 55 = .ok (.iload_n 1, 1) from by decide +kernel) rfl) <|
  tk_c (show TrOk D (d + 1) mi_X12_lay 56 (tr_imul 57) from ok_imul (show decode mi_X12_lay.2.1 56 = .ok (.imul, 1) from by decide +kernel)) <|
  tk_c (show TrOk D (d + 1) mi_X12_lay 57 (tr_iload 58 2) from ok_iload_n (show decode mi_X12_lay.2.1 57 = .ok (.iload_n 2, 1) from by decide +kernel) rfl) <|
  tk_c (show TrOk D (d + 1) mi_X12_lay 58 (tr_iadd 59) from ok_iadd (show decode mi_X12_lay.2.1 58 = .ok (.iadd, 1) from by decide +kernel)) <|
  tk_c (show TrOk D (d + 1) mi_X12_lay 59 (tr_aload 60 0) from ok_aload_n (show decode mi_X12_lay.2.1 59 = .ok (.aload_n 0, 1) from by decide +kernel) rfl) <|
  tk_c (show TrOk D (d + 1) mi_X12_lay 60 (tr_getR 63 13 1219) from ok_getR (ci := 12) (k := 19) (show decode mi_X12_lay.2.1 60 = .ok (.getfield 60, 3) from by decide +kernel) rfl (by decide) (gm 800 (by decide +kernel) rfl) rfl) <|
  tk_c (show TrOk D (d + 1) mi_X12_lay 63 (tr_iload 64 1) from ok_iload_n (show decode mi_X12_lay.2.1 63 = .ok (.iload_n 1, 1) from by decide +kernel) rfl) <|
  tk_n
def tb_X12_lay_1 (C : Nat → Sp) : Tab := [(64, tr_iald 65), (65, tr_ifne 68 75), (68, tr_lload 69 3), (69, tr_l2i 70), (70, tr_i2b 71), (71, tr_i2l 72), (72, tr_goto 92), (75, tr_aload 76 0), (76, tr_getR 79 13 1219), (79, tr_iload 80 1), (80, tr_iald 81), (81, tr_ic 82 1), (82, tr_icne 85 91), (85, tr_lload 86 3), (86, tr_l2i 87), (87, tr_i2l 88), (88, tr_goto 92), (91, tr_lload 92 3), (92, tr_last 93), (93, tr_ic 94 1), (94, tr_iret)]
set_option maxRecDepth 20000 in
theorem tbk_X12_lay_1 {D : DD} {d : Nat} {C : Nat → Sp} (hC : Snd D d C) : ∀ e ∈ tb_X12_lay_1 C, TrOk D (d + 1) mi_X12_lay e.1 e.2 :=
  tk_c (show TrOk D (d + 1) mi_X12_lay 64 (tr_iald 65) from ok_iald (show decode mi_X12_lay.2.1 64 = .ok (.iaload, 1) from by decide +kernel)) <|
  tk_c (show TrOk D (d + 1) mi_X12_lay 65 (tr_ifne 68 75) from ok_ifne (show decode mi_X12_lay.2.1 65 = .ok (.ifCond .ne 10, 3) from by decide +kernel) (by decide)) <|
  tk_c (show TrOk D (d + 1) mi_X12_lay 68 (tr_lload 69 3) from ok_lload_n (show decode mi_X12_lay.2.1 68 = .ok (.lload_n 3, 1) from by decide +kernel) rfl) <|
  tk_c (show TrOk D (d + 1) mi_X12_lay 69 (tr_l2i 70) from ok_l2i (show decode mi_X12_lay.2.1 69 = .ok (.l2i, 1) from by decide +kernel)) <|
  tk_c (show TrOk D (d + 1) mi_X12_lay 70 (tr_i2b 71) from ok_i2b (show decode mi_X12_lay.2.1 70 = .ok (.i2b, 1) from by decide +kernel)) <|
  tk_c (show TrOk D (d + 1) mi_X12_lay 71 (tr_i2l 72) from ok_i2l (show decode mi_X12_lay.2.1 71 = .ok (.i2l, 1) from by decide +kernel)) <|
  tk_c (show TrOk D (d + 1) mi_X12_lay 72 (tr_goto 92) from ok_goto (show decode mi_X12_lay.2.1 72 = .ok (.goto 20, 3) from by decide +kernel) (by decide)) <|
  tk_c (show TrOk D (d + 1) mi_X12_lay 75 (tr_aload 76 0) from ok_aload_n (show decode mi_X12_lay.2.1 75 = .ok (.aload_n 0, 1) from by decide +kernel) rfl) <|
  tk_c (show TrOk D (d + 1) mi_X12_lay 76 (tr_getR 79 13 1219) from ok_getR (ci := 12) (k := 19) (show decode mi_X12_lay.2.1 76 = .ok (.getfield 60, 3) from by decide +kernel) rfl (by decide) (gm 800 (by decide +kernel) rfl) rfl) <|
  tk_c (show TrOk D (d + 1) mi_X12_lay 79 (tr_iload 80 1) from ok_iload_n (show decode mi_X12_lay.2.1 79 = .ok (.iload_n 1, 1) from by decide +kernel) rfl) <|
  tk_c (show TrOk D (d + 1) mi_X12_lay 80 (tr_iald 81) from ok_iald (show decode mi_X12_lay.2.1 80 = .ok (.iaload, 1) from by decide +kernel)) <|
  tk_c (show TrOk D (d + 1) mi_X12_lay 81 (tr_ic 82 1) from ok_iconst (show decode mi_X12_lay.2.1 81 = .ok (.iconst 1, 1) from by decide +kernel) rfl) <|
  tk_c (show TrOk D (d + 1) mi_X12_lay 82 (tr_icne 85 91) from ok_icne (show decode mi_X12_lay.2.1 82 = .ok (.if_icmp .ne 9, 3) from by decide +kernel) (by decide)) <|
  tk_c (show TrOk D (d + 1) mi_X12_lay 85 (tr_lload 86 3) from ok_lload_n (show decode mi_X12_lay.2.1 85 = .ok (.lload_n 3, 1) from by decide +kernel) rfl) <|
  tk_c (show TrOk D (d + 1) mi_X12_lay 86 (tr_l2i 87) from ok_l2i (show decode mi_X12_lay.2.1 86 = .ok (.l2i, 1) from by decide +kernel)) <|
  tk_c (show TrOk D (d + 1) mi_X12_lay 87 (tr_i2l 88) from ok_i2l (show decode mi_X12_lay.2.1 87 = .ok (.i2l, 1) from by decide +kernel)) <|
  tk_c (show TrOk D (d + 1) mi_X12_lay 88 (tr_goto 92) from ok_goto (show decode mi_X12_lay.2.1 88 = .ok (.goto 4, 3) from by decide +kernel) (by decide)) <|
  tk_c (show TrOk D (d + 1) mi_X12_lay 91 (tr_lload 92 3) from ok_lload_n (show decode mi_X12_lay.2.1 91 = .ok (.lload_n 3, 1) from by decide +kernel) rfl) <|
  tk_c (show TrOk D (d + 1) mi_X12_lay 92 (tr_last 93) from ok_last (show decode mi_X12_lay.2.1 92 = .ok (.lastore, 1) from by decide +kernel)) <|
  tk_c (show TrOk D (d + 1) mi_X12_lay 93 (tr_ic 94 1) from ok_iconst (show decode mi_X12_lay.2.1 93 = .ok (.iconst 1, 1) from by decide +kernel) rfl) <|
  tk_c (show TrOk D (d + 1) mi_X12_lay 94 (tr_iret) from ok_iret (show decode mi_X12_lay.2.1 94 = .ok (.ireturn, 1) from by decide +kernel) rfl) <|
  tk_n
def tb_X12_lay (C : Nat → Sp) : Tab := tb_X12_lay_0 C ++ (tb_X12_lay_1 C)
theorem tbk_X12_lay {D : DD} {d : Nat} {C : Nat → Sp} (hC : Snd D d C) : ∀ e ∈ tb_X12_lay C, TrOk D (d + 1) mi_X12_lay e.1 e.2 := tk_a (tbk_X12_lay_0 hC) (tbk_X12_lay_1 hC)
theorem a_X12_lay_0 (C : Nat → Sp) : ta (tb_X12_lay C) 0 = tr_iload 1 1 := rfl
theorem a_X12_lay_1 (C : Nat → Sp) : ta (tb_X12_lay C) 1 = tr_i2l 2 := rfl
theorem a_X12_lay_2 (C : Nat → Sp) : ta (tb_X12_lay C) 2 = tr_lc 3 0 := rfl
theorem a_X12_lay_3 (C : Nat → Sp) : ta (tb_X12_lay C) 3 = tr_lc 6 7 := rfl
theorem a_X12_lay_6 (C : Nat → Sp) : ta (tb_X12_lay C) 6 = tr_callS (C 96) 9 3 := rfl
theorem a_X12_lay_9 (C : Nat → Sp) : ta (tb_X12_lay C) 9 = tr_ifne 12 14 := rfl
theorem a_X12_lay_12 (C : Nat → Sp) : ta (tb_X12_lay C) 12 = tr_ic 13 (-1) := rfl
theorem a_X12_lay_13 (C : Nat → Sp) : ta (tb_X12_lay C) 13 = tr_iret := rfl
theorem a_X12_lay_14 (C : Nat → Sp) : ta (tb_X12_lay C) 14 = tr_aload 15 0 := rfl
theorem a_X12_lay_15 (C : Nat → Sp) : ta (tb_X12_lay C) 15 = tr_getR 18 13 1219 := rfl
theorem a_X12_lay_18 (C : Nat → Sp) : ta (tb_X12_lay C) 18 = tr_iload 19 1 := rfl
theorem a_X12_lay_19 (C : Nat → Sp) : ta (tb_X12_lay C) 19 = tr_iald 20 := rfl
theorem a_X12_lay_20 (C : Nat → Sp) : ta (tb_X12_lay C) 20 = tr_ic 22 (-4) := rfl
theorem a_X12_lay_22 (C : Nat → Sp) : ta (tb_X12_lay C) 22 = tr_icne 25 28 := rfl
theorem a_X12_lay_25 (C : Nat → Sp) : ta (tb_X12_lay C) 25 = tr_ic 27 (-11) := rfl
theorem a_X12_lay_27 (C : Nat → Sp) : ta (tb_X12_lay C) 27 = tr_iret := rfl
theorem a_X12_lay_28 (C : Nat → Sp) : ta (tb_X12_lay C) 28 = tr_iload 29 2 := rfl
theorem a_X12_lay_29 (C : Nat → Sp) : ta (tb_X12_lay C) 29 = tr_i2l 30 := rfl
theorem a_X12_lay_30 (C : Nat → Sp) : ta (tb_X12_lay C) 30 = tr_lc 31 0 := rfl
theorem a_X12_lay_31 (C : Nat → Sp) : ta (tb_X12_lay C) 31 = tr_aload 32 0 := rfl
theorem a_X12_lay_32 (C : Nat → Sp) : ta (tb_X12_lay C) 32 = tr_getR 35 13 1220 := rfl
theorem a_X12_lay_35 (C : Nat → Sp) : ta (tb_X12_lay C) 35 = tr_iload 36 1 := rfl
theorem a_X12_lay_36 (C : Nat → Sp) : ta (tb_X12_lay C) 36 = tr_iald 37 := rfl
theorem a_X12_lay_37 (C : Nat → Sp) : ta (tb_X12_lay C) 37 = tr_ic 38 1 := rfl
theorem a_X12_lay_38 (C : Nat → Sp) : ta (tb_X12_lay C) 38 = tr_isub 39 := rfl
theorem a_X12_lay_39 (C : Nat → Sp) : ta (tb_X12_lay C) 39 = tr_i2l 40 := rfl
theorem a_X12_lay_40 (C : Nat → Sp) : ta (tb_X12_lay C) 40 = tr_callS (C 96) 43 3 := rfl
theorem a_X12_lay_43 (C : Nat → Sp) : ta (tb_X12_lay C) 43 = tr_ifne 46 49 := rfl
theorem a_X12_lay_46 (C : Nat → Sp) : ta (tb_X12_lay C) 46 = tr_ic 48 (-12) := rfl
theorem a_X12_lay_48 (C : Nat → Sp) : ta (tb_X12_lay C) 48 = tr_iret := rfl
theorem a_X12_lay_49 (C : Nat → Sp) : ta (tb_X12_lay C) 49 = tr_aload 50 0 := rfl
theorem a_X12_lay_50 (C : Nat → Sp) : ta (tb_X12_lay C) 50 = tr_getR 53 13 1221 := rfl
theorem a_X12_lay_53 (C : Nat → Sp) : ta (tb_X12_lay C) 53 = tr_ic 55 16 := rfl
theorem a_X12_lay_55 (C : Nat → Sp) : ta (tb_X12_lay C) 55 = tr_iload 56 1 := rfl
theorem a_X12_lay_56 (C : Nat → Sp) : ta (tb_X12_lay C) 56 = tr_imul 57 := rfl
theorem a_X12_lay_57 (C : Nat → Sp) : ta (tb_X12_lay C) 57 = tr_iload 58 2 := rfl
theorem a_X12_lay_58 (C : Nat → Sp) : ta (tb_X12_lay C) 58 = tr_iadd 59 := rfl
theorem a_X12_lay_59 (C : Nat → Sp) : ta (tb_X12_lay C) 59 = tr_aload 60 0 := rfl
theorem a_X12_lay_60 (C : Nat → Sp) : ta (tb_X12_lay C) 60 = tr_getR 63 13 1219 := rfl
theorem a_X12_lay_63 (C : Nat → Sp) : ta (tb_X12_lay C) 63 = tr_iload 64 1 := rfl
theorem a_X12_lay_64 (C : Nat → Sp) : ta (tb_X12_lay C) 64 = tr_iald 65 := rfl
theorem a_X12_lay_65 (C : Nat → Sp) : ta (tb_X12_lay C) 65 = tr_ifne 68 75 := rfl
theorem a_X12_lay_68 (C : Nat → Sp) : ta (tb_X12_lay C) 68 = tr_lload 69 3 := rfl
theorem a_X12_lay_69 (C : Nat → Sp) : ta (tb_X12_lay C) 69 = tr_l2i 70 := rfl
theorem a_X12_lay_70 (C : Nat → Sp) : ta (tb_X12_lay C) 70 = tr_i2b 71 := rfl
theorem a_X12_lay_71 (C : Nat → Sp) : ta (tb_X12_lay C) 71 = tr_i2l 72 := rfl
theorem a_X12_lay_72 (C : Nat → Sp) : ta (tb_X12_lay C) 72 = tr_goto 92 := rfl
theorem a_X12_lay_75 (C : Nat → Sp) : ta (tb_X12_lay C) 75 = tr_aload 76 0 := rfl
theorem a_X12_lay_76 (C : Nat → Sp) : ta (tb_X12_lay C) 76 = tr_getR 79 13 1219 := rfl
theorem a_X12_lay_79 (C : Nat → Sp) : ta (tb_X12_lay C) 79 = tr_iload 80 1 := rfl
theorem a_X12_lay_80 (C : Nat → Sp) : ta (tb_X12_lay C) 80 = tr_iald 81 := rfl
theorem a_X12_lay_81 (C : Nat → Sp) : ta (tb_X12_lay C) 81 = tr_ic 82 1 := rfl
theorem a_X12_lay_82 (C : Nat → Sp) : ta (tb_X12_lay C) 82 = tr_icne 85 91 := rfl
theorem a_X12_lay_85 (C : Nat → Sp) : ta (tb_X12_lay C) 85 = tr_lload 86 3 := rfl
theorem a_X12_lay_86 (C : Nat → Sp) : ta (tb_X12_lay C) 86 = tr_l2i 87 := rfl
theorem a_X12_lay_87 (C : Nat → Sp) : ta (tb_X12_lay C) 87 = tr_i2l 88 := rfl
theorem a_X12_lay_88 (C : Nat → Sp) : ta (tb_X12_lay C) 88 = tr_goto 92 := rfl
theorem a_X12_lay_91 (C : Nat → Sp) : ta (tb_X12_lay C) 91 = tr_lload 92 3 := rfl
theorem a_X12_lay_92 (C : Nat → Sp) : ta (tb_X12_lay C) 92 = tr_last 93 := rfl
theorem a_X12_lay_93 (C : Nat → Sp) : ta (tb_X12_lay C) 93 = tr_ic 94 1 := rfl
set_option maxRecDepth 20000 in
theorem a_X12_lay_94 (C : Nat → Sp) : ta (tb_X12_lay C) 94 = tr_iret := rfl

def tb_X12_cell_0 (C : Nat → Sp) : Tab := [(0, tr_iload 1 1), (1, tr_i2l 2), (2, tr_lc 3 0), (3, tr_lc 6 7), (6, tr_callS (C 96) 9 3), (9, tr_ifeq 12 55), (12, tr_aload 13 0), (13, tr_getR 16 13 1219), (16, tr_iload 17 1), (17, tr_iald 18), (18, tr_ic 20 (-4)), (20, tr_iceq 23 55), (23, tr_iload 24 2), (24, tr_i2l 25), (25, tr_lc 26 0), (26, tr_aload 27 0), (27, tr_getR 30 13 1220), (30, tr_iload 31 1), (31, tr_iald 32), (32, tr_ic 33 1), (33, tr_isub 34), (34, tr_i2l 35), (35, tr_callS (C 96) 38 3), (38, tr_ifeq 41 55), (41, tr_aload 42 0), (42, tr_getR 45 13 1221), (45, tr_ic 47 16), (47, tr_iload 48 1), (48, tr_imul 49), (49, tr_iload 50 2), (50, tr_iadd 51), (51, tr_lald 52), (52, tr_goto 56), (55, tr_lc 56 0), (56, tr_lret)]
set_option maxRecDepth 20000 in
theorem tbk_X12_cell_0 {D : DD} {d : Nat} {C : Nat → Sp} (hC : Snd D d C) : ∀ e ∈ tb_X12_cell_0 C, TrOk D (d + 1) mi_X12_cell e.1 e.2 :=
  tk_c (show TrOk D (d + 1) mi_X12_cell 0 (tr_iload 1 1) from ok_iload_n (show decode mi_X12_cell.2.1 0 = .ok (.iload_n 1, 1) from by decide +kernel) rfl) <|
  tk_c (show TrOk D (d + 1) mi_X12_cell 1 (tr_i2l 2) from ok_i2l (show decode mi_X12_cell.2.1 1 = .ok (.i2l, 1) from by decide +kernel)) <|
  tk_c (show TrOk D (d + 1) mi_X12_cell 2 (tr_lc 3 0) from ok_lconst (show decode mi_X12_cell.2.1 2 = .ok (.lconst 0, 1) from by decide +kernel) rfl) <|
  tk_c (show TrOk D (d + 1) mi_X12_cell 3 (tr_lc 6 7) from ok_ldc2 (show decode mi_X12_cell.2.1 3 = .ok (.ldc2_w 169, 3) from by decide +kernel) (gm 1004 (by decide +kernel) rfl)) <|
  tk_c (show TrOk D (d + 1) mi_X12_cell 6 (tr_callS (C 96) 9 3) from ok_callS (show decode mi_X12_cell.2.1 6 = .ok (.invokestatic 136, 3) from by decide +kernel) mok_X12_in (gm 955 (by decide +kernel) rfl) (gm 956 (by decide +kernel) rfl) (hC 96)) <|
  tk_c (show TrOk D (d + 1) mi_X12_cell 9 (tr_ifeq 12 55) from ok_ifeq (show decode mi_X12_cell.2.1 9 = .ok (.ifCond .eq 46, 3) from by decide +kernel) (by decide)) <|
  tk_c (show TrOk D (d + 1) mi_X12_cell 12 (tr_aload 13 0) from ok_aload_n (show decode mi_X12_cell.2.1 12 = .ok (.aload_n 0, 1) from by decide +kernel) rfl) <|
  tk_c (show TrOk D (d + 1) mi_X12_cell 13 (tr_getR 16 13 1219) from ok_getR (ci := 12) (k := 19) (show decode mi_X12_cell.2.1 13 = .ok (.getfield 60, 3) from by decide +kernel) rfl (by decide) (gm 800 (by decide +kernel) rfl) rfl) <|
  tk_c (show TrOk D (d + 1) mi_X12_cell 16 (tr_iload 17 1) from ok_iload_n (show decode mi_X12_cell.2.1 16 = .ok (.iload_n 1, 1) from by decide +kernel) rfl) <|
  tk_c (show TrOk D (d + 1) mi_X12_cell 17 (tr_iald 18) from ok_iald (show decode mi_X12_cell.2.1 17 = .ok (.iaload, 1) from by decide +kernel)) <|
  tk_c (show TrOk D (d + 1) mi_X12_cell 18 (tr_ic 20 (-4)) from ok_bipush (show decode mi_X12_cell.2.1 18 = .ok (.bipush (-4), 2) from by decide +kernel) rfl) <|
  tk_c (show TrOk D (d + 1) mi_X12_cell 20 (tr_iceq 23 55) from ok_iceq (show decode mi_X12_cell.2.1 20 = .ok (.if_icmp .eq 35, 3) from by decide +kernel) (by decide)) <|
  tk_c (show TrOk D (d + 1) mi_X12_cell 23 (tr_iload 24 2) from ok_iload_n (show decode mi_X12_cell.2.1 23 = .ok (.iload_n 2, 1) from by decide +kernel) rfl) <|
  tk_c (show TrOk D (d + 1) mi_X12_cell 24 (tr_i2l 25) from ok_i2l (show decode mi_X12_cell.2.1 24 = .ok (.i2l, 1) from by decide +kernel)) <|
  tk_c (show TrOk D (d + 1) mi_X12_cell 25 (tr_lc 26 0) from ok_lconst (show decode mi_X12_cell.2.1 25 = .ok (.lconst 0, 1) from by decide +kernel) rfl) <|
  tk_c (show TrOk D (d + 1) mi_X12_cell 26 (tr_aload 27 0) from ok_aload_n (show decode mi_X12_cell.2.1 26 = .ok (.aload_n 0, 1) from by decide +kernel) rfl) <|
  tk_c (show TrOk D (d + 1) mi_X12_cell 27 (tr_getR 30 13 1220) from ok_getR (ci := 12) (k := 20) (show decode mi_X12_cell.2.1 27 = .ok (.getfield 63, 3) from by decide +kernel) rfl (by decide) (gm 801 (by decide +kernel) rfl) rfl) <|
  tk_c (show TrOk D (d + 1) mi_X12_cell 30 (tr_iload 31 1) from ok_iload_n (show decode mi_X12_cell.2.1 30 = .ok (.iload_n 1, 1) from by decide +kernel) rfl) <|
  tk_c (show TrOk D (d + 1) mi_X12_cell 31 (tr_iald 32) from ok_iald (show decode mi_X12_cell.2.1 31 = .ok (.iaload, 1) from by decide +kernel)) <|
  tk_c (show TrOk D (d + 1) mi_X12_cell 32 (tr_ic 33 1) from ok_iconst (show decode mi_X12_cell.2.1 32 = .ok (.iconst 1, 1) from by decide +kernel) rfl) <|
  tk_c (show TrOk D (d + 1) mi_X12_cell 33 (tr_isub 34) from ok_isub (show decode mi_X12_cell.2.1 33 = .ok (.isub, 1) from by decide +kernel)) <|
  tk_c (show TrOk D (d + 1) mi_X12_cell 34 (tr_i2l 35) from ok_i2l (show decode mi_X12_cell.2.1 34 = .ok (.i2l, 1) from by decide +kernel)) <|
  tk_c (show TrOk D (d + 1) mi_X12_cell 35 (tr_callS (C 96) 38 3) from ok_callS (show decode mi_X12_cell.2.1 35 = .ok (.invokestatic 136, 3) from by decide +kernel) mok_X12_in (gm 955 (by decide +kernel) rfl) (gm 956 (by decide +kernel) rfl) (hC 96)) <|
  tk_c (show TrOk D (d + 1) mi_X12_cell 38 (tr_ifeq 41 55) from ok_ifeq (show decode mi_X12_cell.2.1 38 = .ok (.ifCond .eq 17, 3) from by decide +kernel) (by decide)) <|
  tk_c (show TrOk D (d + 1) mi_X12_cell 41 (tr_aload 42 0) from ok_aload_n (show decode mi_X12_cell.2.1 41 = .ok (.aload_n 0, 1) from by decide +kernel) rfl) <|
  tk_c (show TrOk D (d + 1) mi_X12_cell 42 (tr_getR 45 13 1221) from ok_getR (ci := 12) (k := 21) (show decode mi_X12_cell.2.1 42 = .ok (.getfield 66, 3) from by decide +kernel) rfl (by decide) (gm 802 (by decide +kernel) rfl) rfl) <|
  tk_c (show TrOk D (d + 1) mi_X12_cell 45 (tr_ic 47 16) from ok_bipush (show decode mi_X12_cell.2.1 45 = .ok (.bipush 16, 2) from by decide +kernel) rfl) <|
  tk_c (show TrOk D (d + 1) mi_X12_cell 47 (tr_iload 48 1) from ok_iload_n (show decode mi_X12_cell.2.1 47 = .ok (.iload_n 1, 1) from by decide +kernel) rfl) <|
  tk_c (show TrOk D (d + 1) mi_X12_cell 48 (tr_imul 49) from ok_imul (show decode mi_X12_cell.2.1 48 = .ok (.imul, 1) from by decide +kernel)) <|
  tk_c (show TrOk D (d + 1) mi_X12_cell 49 (tr_iload 50 2) from ok_iload_n (show decode mi_X12_cell.2.1 49 = .ok (.iload_n 2, 1) from by decide +kernel) rfl) <|
  tk_c (show TrOk D (d + 1) mi_X12_cell 50 (tr_iadd 51) from ok_iadd (show decode mi_X12_cell.2.1 50 = .ok (.iadd, 1) from by decide +kernel)) <|
  tk_c (show TrOk D (d + 1) mi_X12_cell 51 (tr_lald 52) from ok_lald (show decode mi_X12_cell.2.1 51 = .ok (.laload, 1) from by decide +kernel)) <|
  tk_c (show TrOk D (d + 1) mi_X12_cell 52 (tr_goto 56) from ok_goto (show decode mi_X12_cell.2.1 52 = .ok (.goto 4, 3) from by decide +kernel) (by decide)) <|
  tk_c (show TrOk D (d + 1) mi_X12_cell 55 (tr_lc 56 0) from ok_lconst (show decode mi_X12_cell.2.1 55 = .ok (.lconst 0, 1) from by decide +kernel) rfl) <|
  tk_c (show TrOk D (d + 1) mi_X12_cell 56 (tr_lret) from ok_lret (show decode mi_X12_cell.2.1 56 = .ok (.lreturn, 1) from by decide +kernel) rfl) <|
  tk_n
def tb_X12_cell (C : Nat → Sp) : Tab := tb_X12_cell_0 C
theorem tbk_X12_cell {D : DD} {d : Nat} {C : Nat → Sp} (hC : Snd D d C) : ∀ e ∈ tb_X12_cell C, TrOk D (d + 1) mi_X12_cell e.1 e.2 := tbk_X12_cell_0 hC
theorem a_X12_cell_0 (C : Nat → Sp) : ta (tb_X12_cell C) 0 = tr_iload 1 1 := rfl
theorem a_X12_cell_1 (C : Nat → Sp) : ta (tb_X12_cell C) 1 = tr_i2l 2 := rfl
theorem a_X12_cell_2 (C : Nat → Sp) : ta (tb_X12_cell C) 2 = tr_lc 3 0 := rfl
theorem a_X12_cell_3 (C : Nat → Sp) : ta (tb_X12_cell C) 3 = tr_lc 6 7 := rfl
theorem a_X12_cell_6 (C : Nat → Sp) : ta (tb_X12_cell C) 6 = tr_callS (C 96) 9 3 := rfl
theorem a_X12_cell_9 (C : Nat → Sp) : ta (tb_X12_cell C) 9 = tr_ifeq 12 55 := rfl
theorem a_X12_cell_12 (C : Nat → Sp) : ta (tb_X12_cell C) 12 = tr_aload 13 0 := rfl
theorem a_X12_cell_13 (C : Nat → Sp) : ta (tb_X12_cell C) 13 = tr_getR 16 13 1219 := rfl
theorem a_X12_cell_16 (C : Nat → Sp) : ta (tb_X12_cell C) 16 = tr_iload 17 1 := rfl
theorem a_X12_cell_17 (C : Nat → Sp) : ta (tb_X12_cell C) 17 = tr_iald 18 := rfl
theorem a_X12_cell_18 (C : Nat → Sp) : ta (tb_X12_cell C) 18 = tr_ic 20 (-4) := rfl
theorem a_X12_cell_20 (C : Nat → Sp) : ta (tb_X12_cell C) 20 = tr_iceq 23 55 := rfl
theorem a_X12_cell_23 (C : Nat → Sp) : ta (tb_X12_cell C) 23 = tr_iload 24 2 := rfl
theorem a_X12_cell_24 (C : Nat → Sp) : ta (tb_X12_cell C) 24 = tr_i2l 25 := rfl
theorem a_X12_cell_25 (C : Nat → Sp) : ta (tb_X12_cell C) 25 = tr_lc 26 0 := rfl
theorem a_X12_cell_26 (C : Nat → Sp) : ta (tb_X12_cell C) 26 = tr_aload 27 0 := rfl
theorem a_X12_cell_27 (C : Nat → Sp) : ta (tb_X12_cell C) 27 = tr_getR 30 13 1220 := rfl
theorem a_X12_cell_30 (C : Nat → Sp) : ta (tb_X12_cell C) 30 = tr_iload 31 1 := rfl
theorem a_X12_cell_31 (C : Nat → Sp) : ta (tb_X12_cell C) 31 = tr_iald 32 := rfl
theorem a_X12_cell_32 (C : Nat → Sp) : ta (tb_X12_cell C) 32 = tr_ic 33 1 := rfl
theorem a_X12_cell_33 (C : Nat → Sp) : ta (tb_X12_cell C) 33 = tr_isub 34 := rfl
theorem a_X12_cell_34 (C : Nat → Sp) : ta (tb_X12_cell C) 34 = tr_i2l 35 := rfl
theorem a_X12_cell_35 (C : Nat → Sp) : ta (tb_X12_cell C) 35 = tr_callS (C 96) 38 3 := rfl
theorem a_X12_cell_38 (C : Nat → Sp) : ta (tb_X12_cell C) 38 = tr_ifeq 41 55 := rfl
theorem a_X12_cell_41 (C : Nat → Sp) : ta (tb_X12_cell C) 41 = tr_aload 42 0 := rfl
theorem a_X12_cell_42 (C : Nat → Sp) : ta (tb_X12_cell C) 42 = tr_getR 45 13 1221 := rfl
theorem a_X12_cell_45 (C : Nat → Sp) : ta (tb_X12_cell C) 45 = tr_ic 47 16 := rfl
theorem a_X12_cell_47 (C : Nat → Sp) : ta (tb_X12_cell C) 47 = tr_iload 48 1 := rfl
theorem a_X12_cell_48 (C : Nat → Sp) : ta (tb_X12_cell C) 48 = tr_imul 49 := rfl
theorem a_X12_cell_49 (C : Nat → Sp) : ta (tb_X12_cell C) 49 = tr_iload 50 2 := rfl
theorem a_X12_cell_50 (C : Nat → Sp) : ta (tb_X12_cell C) 50 = tr_iadd 51 := rfl
theorem a_X12_cell_51 (C : Nat → Sp) : ta (tb_X12_cell C) 51 = tr_lald 52 := rfl
theorem a_X12_cell_52 (C : Nat → Sp) : ta (tb_X12_cell C) 52 = tr_goto 56 := rfl
theorem a_X12_cell_55 (C : Nat → Sp) : ta (tb_X12_cell C) 55 = tr_lc 56 0 := rfl
theorem a_X12_cell_56 (C : Nat → Sp) : ta (tb_X12_cell C) 56 = tr_lret := rfl

def tb_X12_cells_0 (C : Nat → Sp) : Tab := [(0, tr_iload 1 1), (1, tr_i2l 2), (2, tr_lc 3 0), (3, tr_lc 6 7), (6, tr_callS (C 96) 9 3), (9, tr_ifne 12 14), (12, tr_ic 13 (-1)), (13, tr_iret), (14, tr_aload 15 0), (15, tr_getR 18 13 1219), (18, tr_iload 19 1), (19, tr_iald 20), (20, tr_ic 22 (-4)), (22, tr_icne 25 30), (25, tr_ic 27 (-4)), (27, tr_goto 36), (30, tr_aload 31 0), (31, tr_getR 34 13 1220), (34, tr_iload 35 1), (35, tr_iald 36), (36, tr_iret)]
set_option maxRecDepth 20000 in
theorem tbk_X12_cells_0 {D : DD} {d : Nat} {C : Nat → Sp} (hC : Snd D d C) : ∀ e ∈ tb_X12_cells_0 C, TrOk D (d + 1) mi_X12_cells e.1 e.2 :=
  tk_c (show TrOk D (d + 1) mi_X12_cells 0 (tr_iload 1 1) from ok_iload_n (show decode mi_X12_cells.2.1 0 = .ok (.iload_n 1, 1) from by decide +kernel) rfl) <|
  tk_c (show TrOk D (d + 1) mi_X12_cells 1 (tr_i2l 2) from ok_i2l (show decode mi_X12_cells.2.1 1 = .ok (.i2l, 1) from by decide +kernel)) <|
  tk_c (show TrOk D (d + 1) mi_X12_cells 2 (tr_lc 3 0) from ok_lconst (show decode mi_X12_cells.2.1 2 = .ok (.lconst 0, 1) from by decide +kernel) rfl) <|
  tk_c (show TrOk D (d + 1) mi_X12_cells 3 (tr_lc 6 7) from ok_ldc2 (show decode mi_X12_cells.2.1 3 = .ok (.ldc2_w 169, 3) from by decide +kernel) (gm 1004 (by decide +kernel) rfl)) <|
  tk_c (show TrOk D (d + 1) mi_X12_cells 6 (tr_callS (C 96) 9 3) from ok_callS (show decode mi_X12_cells.2.1 6 = .ok (.invokestatic 136, 3) from by decide +kernel) mok_X12_in (gm 955 (by decide +kernel) rfl) (gm 956 (by decide +kernel) rfl) (hC 96)) <|
  tk_c (show TrOk D (d + 1) mi_X12_cells 9 (tr_ifne 12 14) from ok_ifne (show decode mi_X12_cells.2.1 9 = .ok (.ifCond .ne 5, 3) from by decide +kernel) (by decide)) <|
  tk_c (show TrOk D (d + 1) mi_X12_cells 12 (tr_ic 13 (-1)) from ok_iconst (show decode mi_X12_cells.2.1 12 = .ok (.iconst (-1), 1) from by decide +kernel) rfl) <|
  tk_c (show TrOk D (d + 1) mi_X12_cells 13 (tr_iret) from ok_iret (show decode mi_X12_cells.2.1 13 = .ok (.ireturn, 1) from by decide +kernel) rfl) <|
  tk_c (show TrOk D (d + 1) mi_X12_cells 14 (tr_aload 15 0) from ok_aload_n (show decode mi_X12_cells.2.1 14 = .ok (.aload_n 0, 1) from by decide +kernel) rfl) <|
  tk_c (show TrOk D (d + 1) mi_X12_cells 15 (tr_getR 18 13 1219) from ok_getR (ci := 12) (k := 19) (show decode mi_X12_cells.2.1 15 = .ok (.getfield 60, 3) from by decide +kernel) rfl (by decide) (gm 800 (by decide +kernel) rfl) rfl) <|
  tk_c (show TrOk D (d + 1) mi_X12_cells 18 (tr_iload 19 1) from ok_iload_n (show decode mi_X12_cells.2.1 18 = .ok (.iload_n 1, 1) from by decide +kernel) rfl) <|
  tk_c (show TrOk D (d + 1) mi_X12_cells 19 (tr_iald 20) from ok_iald (show decode mi_X12_cells.2.1 19 = .ok (.iaload, 1) from by decide +kernel)) <|
  tk_c (show TrOk D (d + 1) mi_X12_cells 20 (tr_ic 22 (-4)) from ok_bipush (show decode mi_X12_cells.2.1 20 = .ok (.bipush (-4), 2) from by decide +kernel) rfl) <|
  tk_c (show TrOk D (d + 1) mi_X12_cells 22 (tr_icne 25 30) from ok_icne (show decode mi_X12_cells.2.1 22 = .ok (.if_icmp .ne 8, 3) from by decide +kernel) (by decide)) <|
  tk_c (show TrOk D (d + 1) mi_X12_cells 25 (tr_ic 27 (-4)) from ok_bipush (show decode mi_X12_cells.2.1 25 = .ok (.bipush (-4), 2) from by decide +kernel) rfl) <|
  tk_c (show TrOk D (d + 1) mi_X12_cells 27 (tr_goto 36) from ok_goto (show decode mi_X12_cells.2.1 27 = .ok (.goto 9, 3) from by decide +kernel) (by decide)) <|
  tk_c (show TrOk D (d + 1) mi_X12_cells 30 (tr_aload 31 0) from ok_aload_n (show decode mi_X12_cells.2.1 30 = .ok (.aload_n 0, 1) from by decide +kernel) rfl) <|
  tk_c (show TrOk D (d + 1) mi_X12_cells 31 (tr_getR 34 13 1220) from ok_getR (ci := 12) (k := 20) (show decode mi_X12_cells.2.1 31 = .ok (.getfield 63, 3) from by decide +kernel) rfl (by decide) (gm 801 (by decide +kernel) rfl) rfl) <|
  tk_c (show TrOk D (d + 1) mi_X12_cells 34 (tr_iload 35 1) from ok_iload_n (show decode mi_X12_cells.2.1 34 = .ok (.iload_n 1, 1) from by decide +kernel) rfl) <|
  tk_c (show TrOk D (d + 1) mi_X12_cells 35 (tr_iald 36) from ok_iald (show decode mi_X12_cells.2.1 35 = .ok (.iaload, 1) from by decide +kernel)) <|
  tk_c (show TrOk D (d + 1) mi_X12_cells 36 (tr_iret) from ok_iret (show decode mi_X12_cells.2.1 36 = .ok (.ireturn, 1) from by decide +kernel) rfl) <|
  tk_n
def tb_X12_cells (C : Nat → Sp) : Tab := tb_X12_cells_0 C
theorem tbk_X12_cells {D : DD} {d : Nat} {C : Nat → Sp} (hC : Snd D d C) : ∀ e ∈ tb_X12_cells C, TrOk D (d + 1) mi_X12_cells e.1 e.2 := tbk_X12_cells_0 hC
theorem a_X12_cells_0 (C : Nat → Sp) : ta (tb_X12_cells C) 0 = tr_iload 1 1 := rfl
theorem a_X12_cells_1 (C : Nat → Sp) : ta (tb_X12_cells C) 1 = tr_i2l 2 := rfl
theorem a_X12_cells_2 (C : Nat → Sp) : ta (tb_X12_cells C) 2 = tr_lc 3 0 := rfl
theorem a_X12_cells_3 (C : Nat → Sp) : ta (tb_X12_cells C) 3 = tr_lc 6 7 := rfl
theorem a_X12_cells_6 (C : Nat → Sp) : ta (tb_X12_cells C) 6 = tr_callS (C 96) 9 3 := rfl
theorem a_X12_cells_9 (C : Nat → Sp) : ta (tb_X12_cells C) 9 = tr_ifne 12 14 := rfl
theorem a_X12_cells_12 (C : Nat → Sp) : ta (tb_X12_cells C) 12 = tr_ic 13 (-1) := rfl
theorem a_X12_cells_13 (C : Nat → Sp) : ta (tb_X12_cells C) 13 = tr_iret := rfl
theorem a_X12_cells_14 (C : Nat → Sp) : ta (tb_X12_cells C) 14 = tr_aload 15 0 := rfl
theorem a_X12_cells_15 (C : Nat → Sp) : ta (tb_X12_cells C) 15 = tr_getR 18 13 1219 := rfl
theorem a_X12_cells_18 (C : Nat → Sp) : ta (tb_X12_cells C) 18 = tr_iload 19 1 := rfl
theorem a_X12_cells_19 (C : Nat → Sp) : ta (tb_X12_cells C) 19 = tr_iald 20 := rfl
theorem a_X12_cells_20 (C : Nat → Sp) : ta (tb_X12_cells C) 20 = tr_ic 22 (-4) := rfl
theorem a_X12_cells_22 (C : Nat → Sp) : ta (tb_X12_cells C) 22 = tr_icne 25 30 := rfl
theorem a_X12_cells_25 (C : Nat → Sp) : ta (tb_X12_cells C) 25 = tr_ic 27 (-4) := rfl
theorem a_X12_cells_27 (C : Nat → Sp) : ta (tb_X12_cells C) 27 = tr_goto 36 := rfl
theorem a_X12_cells_30 (C : Nat → Sp) : ta (tb_X12_cells C) 30 = tr_aload 31 0 := rfl
theorem a_X12_cells_31 (C : Nat → Sp) : ta (tb_X12_cells C) 31 = tr_getR 34 13 1220 := rfl
theorem a_X12_cells_34 (C : Nat → Sp) : ta (tb_X12_cells C) 34 = tr_iload 35 1 := rfl
theorem a_X12_cells_35 (C : Nat → Sp) : ta (tb_X12_cells C) 35 = tr_iald 36 := rfl
theorem a_X12_cells_36 (C : Nat → Sp) : ta (tb_X12_cells C) 36 = tr_iret := rfl

def tb_X12_above_0 (C : Nat → Sp) : Tab := [(0, tr_ic 1 0), (1, tr_istore 2 3), (2, tr_iload 3 1), (3, tr_istore 5 4), (5, tr_iload 7 4), (7, tr_ic 9 (-4)), (9, tr_iceq 12 35), (12, tr_iload 14 4), (14, tr_iload 15 2), (15, tr_icne 18 20), (18, tr_iload 19 3), (19, tr_iret), (20, tr_iinc 23 3 1), (23, tr_aload 24 0), (24, tr_getR 27 13 1201), (27, tr_iload 29 4), (29, tr_iald 30), (30, tr_istore 32 4), (32, tr_goto 5), (35, tr_ic 37 (-4)), (37, tr_iret)]
set_option maxRecDepth 20000 in
theorem tbk_X12_above_0 {D : DD} {d : Nat} {C : Nat → Sp} (hC : Snd D d C) : ∀ e ∈ tb_X12_above_0 C, TrOk D (d + 1) mi_X12_above e.1 e.2 :=
  tk_c (show TrOk D (d + 1) mi_X12_above 0 (tr_ic 1 0) from ok_iconst (show decode mi_X12_above.2.1 0 = .ok (.iconst 0, 1) from by decide +kernel) rfl) <|
  tk_c (show TrOk D (d + 1) mi_X12_above 1 (tr_istore 2 3) from ok_istore_n (show decode mi_X12_above.2.1 1 = .ok (.istore_n 3, 1) from by decide +kernel) rfl (by decide)) <|
  tk_c (show TrOk D (d + 1) mi_X12_above 2 (tr_iload 3 1) from ok_iload_n (show decode mi_X12_above.2.1 2 = .ok (.iload_n 1, 1) from by decide +kernel) rfl) <|
  tk_c (show TrOk D (d + 1) mi_X12_above 3 (tr_istore 5 4) from ok_istore (show decode mi_X12_above.2.1 3 = .ok (.istore 4, 2) from by decide +kernel) (by decide)) <|
  tk_c (show TrOk D (d + 1) mi_X12_above 5 (tr_iload 7 4) from ok_iload (show decode mi_X12_above.2.1 5 = .ok (.iload 4, 2) from by decide +kernel)) <|
  tk_c (show TrOk D (d + 1) mi_X12_above 7 (tr_ic 9 (-4)) from ok_bipush (show decode mi_X12_above.2.1 7 = .ok (.bipush (-4), 2) from by decide +kernel) rfl) <|
  tk_c (show TrOk D (d + 1) mi_X12_above 9 (tr_iceq 12 35) from ok_iceq (show decode mi_X12_above.2.1 9 = .ok (.if_icmp .eq 26, 3) from by decide +kernel) (by decide)) <|
  tk_c (show TrOk D (d + 1) mi_X12_above 12 (tr_iload 14 4) from ok_iload (show decode mi_X12_above.2.1 12 = .ok (.iload 4, 2) from by decide +kernel)) <|
  tk_c (show TrOk D (d + 1) mi_X12_above 14 (tr_iload 15 2) from ok_iload_n (show decode mi_X12_above.2.1 14 = .ok (.iload_n 2, 1) from by decide +kernel) rfl) <|
  tk_c (show TrOk D (d + 1) mi_X12_above 15 (tr_icne 18 20) from ok_icne (show decode mi_X12_above.2.1 15 = .ok (.if_icmp .ne 5, 3) from by decide +kernel) (by decide)) <|
  tk_c (show TrOk D (d + 1) mi_X12_above 18 (tr_iload 19 3) from ok_iload_n (show decode mi_X12_above.2.1 18 = .ok (.iload_n 3, 1) from by decide +kernel) rfl) <|
  tk_c (show TrOk D (d + 1) mi_X12_above 19 (tr_iret) from ok_iret (show decode mi_X12_above.2.1 19 = .ok (.ireturn, 1) from by decide +kernel) rfl) <|
  tk_c (show TrOk D (d + 1) mi_X12_above 20 (tr_iinc 23 3 1) from ok_iinc (show decode mi_X12_above.2.1 20 = .ok (.iinc 3 1, 3) from by decide +kernel) rfl (by decide)) <|
  tk_c (show TrOk D (d + 1) mi_X12_above 23 (tr_aload 24 0) from ok_aload_n (show decode mi_X12_above.2.1 23 = .ok (.aload_n 0, 1) from by decide +kernel) rfl) <|
  tk_c (show TrOk D (d + 1) mi_X12_above 24 (tr_getR 27 13 1201) from ok_getR (ci := 12) (k := 1) (show decode mi_X12_above.2.1 24 = .ok (.getfield 7, 3) from by decide +kernel) rfl (by decide) (gm 782 (by decide +kernel) rfl) rfl) <|
  tk_c (show TrOk D (d + 1) mi_X12_above 27 (tr_iload 29 4) from ok_iload (show decode mi_X12_above.2.1 27 = .ok (.iload 4, 2) from by decide +kernel)) <|
  tk_c (show TrOk D (d + 1) mi_X12_above 29 (tr_iald 30) from ok_iald (show decode mi_X12_above.2.1 29 = .ok (.iaload, 1) from by decide +kernel)) <|
  tk_c (show TrOk D (d + 1) mi_X12_above 30 (tr_istore 32 4) from ok_istore (show decode mi_X12_above.2.1 30 = .ok (.istore 4, 2) from by decide +kernel) (by decide)) <|
  tk_c (show TrOk D (d + 1) mi_X12_above 32 (tr_goto 5) from ok_goto (show decode mi_X12_above.2.1 32 = .ok (.goto (-27), 3) from by decide +kernel) (by decide)) <|
  tk_c (show TrOk D (d + 1) mi_X12_above 35 (tr_ic 37 (-4)) from ok_bipush (show decode mi_X12_above.2.1 35 = .ok (.bipush (-4), 2) from by decide +kernel) rfl) <|
  tk_c (show TrOk D (d + 1) mi_X12_above 37 (tr_iret) from ok_iret (show decode mi_X12_above.2.1 37 = .ok (.ireturn, 1) from by decide +kernel) rfl) <|
  tk_n
def tb_X12_above (C : Nat → Sp) : Tab := tb_X12_above_0 C
theorem tbk_X12_above {D : DD} {d : Nat} {C : Nat → Sp} (hC : Snd D d C) : ∀ e ∈ tb_X12_above C, TrOk D (d + 1) mi_X12_above e.1 e.2 := tbk_X12_above_0 hC
theorem a_X12_above_0 (C : Nat → Sp) : ta (tb_X12_above C) 0 = tr_ic 1 0 := rfl
theorem a_X12_above_1 (C : Nat → Sp) : ta (tb_X12_above C) 1 = tr_istore 2 3 := rfl
theorem a_X12_above_2 (C : Nat → Sp) : ta (tb_X12_above C) 2 = tr_iload 3 1 := rfl
theorem a_X12_above_3 (C : Nat → Sp) : ta (tb_X12_above C) 3 = tr_istore 5 4 := rfl
theorem a_X12_above_5 (C : Nat → Sp) : ta (tb_X12_above C) 5 = tr_iload 7 4 := rfl
theorem a_X12_above_7 (C : Nat → Sp) : ta (tb_X12_above C) 7 = tr_ic 9 (-4) := rfl
theorem a_X12_above_9 (C : Nat → Sp) : ta (tb_X12_above C) 9 = tr_iceq 12 35 := rfl
theorem a_X12_above_12 (C : Nat → Sp) : ta (tb_X12_above C) 12 = tr_iload 14 4 := rfl
theorem a_X12_above_14 (C : Nat → Sp) : ta (tb_X12_above C) 14 = tr_iload 15 2 := rfl
theorem a_X12_above_15 (C : Nat → Sp) : ta (tb_X12_above C) 15 = tr_icne 18 20 := rfl
theorem a_X12_above_18 (C : Nat → Sp) : ta (tb_X12_above C) 18 = tr_iload 19 3 := rfl
theorem a_X12_above_19 (C : Nat → Sp) : ta (tb_X12_above C) 19 = tr_iret := rfl
theorem a_X12_above_20 (C : Nat → Sp) : ta (tb_X12_above C) 20 = tr_iinc 23 3 1 := rfl
theorem a_X12_above_23 (C : Nat → Sp) : ta (tb_X12_above C) 23 = tr_aload 24 0 := rfl
theorem a_X12_above_24 (C : Nat → Sp) : ta (tb_X12_above C) 24 = tr_getR 27 13 1201 := rfl
theorem a_X12_above_27 (C : Nat → Sp) : ta (tb_X12_above C) 27 = tr_iload 29 4 := rfl
theorem a_X12_above_29 (C : Nat → Sp) : ta (tb_X12_above C) 29 = tr_iald 30 := rfl
theorem a_X12_above_30 (C : Nat → Sp) : ta (tb_X12_above C) 30 = tr_istore 32 4 := rfl
theorem a_X12_above_32 (C : Nat → Sp) : ta (tb_X12_above C) 32 = tr_goto 5 := rfl
theorem a_X12_above_35 (C : Nat → Sp) : ta (tb_X12_above C) 35 = tr_ic 37 (-4) := rfl
theorem a_X12_above_37 (C : Nat → Sp) : ta (tb_X12_above C) 37 = tr_iret := rfl

def tb_X12_isAhead_0 (C : Nat → Sp) : Tab := [(0, tr_aload 1 0), (1, tr_getR 4 13 1208), (4, tr_iload 5 2), (5, tr_iald 6), (6, tr_aload 7 0), (7, tr_getR 10 13 1208), (10, tr_iload 11 3), (11, tr_iald 12), (12, tr_iceq 15 36), (15, tr_aload 16 0), (16, tr_getR 19 13 1208), (19, tr_iload 20 2), (20, tr_iald 21), (21, tr_aload 22 0), (22, tr_getR 25 13 1208), (25, tr_iload 26 3), (26, tr_iald 27), (27, tr_icle 30 34), (30, tr_ic 31 1), (31, tr_goto 35), (34, tr_ic 35 0), (35, tr_zret), (36, tr_aload 37 0), (37, tr_iload 38 1), (38, tr_aload 39 0), (39, tr_getR 42 13 1206), (42, tr_iload 43 2), (43, tr_iald 44), (44, tr_callV (C 113) 47 13 2), (47, tr_istore 49 4), (49, tr_aload 50 0), (50, tr_iload 51 1), (51, tr_aload 52 0), (52, tr_getR 55 13 1206), (55, tr_iload 56 3), (56, tr_iald 57), (57, tr_callV (C 113) 60 13 2), (60, tr_istore 62 5), (62, tr_iload 64 4), (64, tr_iload 66 5)]
set_option maxRecDepth 20000 in
theorem tbk_X12_isAhead_0 {D : DD} {d : Nat} {C : Nat → Sp} (hC : Snd D d C) : ∀ e ∈ tb_X12_isAhead_0 C, TrOk D (d + 1) mi_X12_isAhead e.1 e.2 :=
  tk_c (show TrOk D (d + 1) mi_X12_isAhead 0 (tr_aload 1 0) from ok_aload_n (show decode mi_X12_isAhead.2.1 0 = .ok (.aload_n 0, 1) from by decide +kernel) rfl) <|
  tk_c (show TrOk D (d + 1) mi_X12_isAhead 1 (tr_getR 4 13 1208) from ok_getR (ci := 12) (k := 8) (show decode mi_X12_isAhead.2.1 1 = .ok (.getfield 27, 3) from by decide +kernel) rfl (by decide) (gm 789 (by decide +kernel) rfl) rfl) <|
  tk_c (show TrOk D (d + 1) mi_X12_isAhead 4 (tr_iload 5 2) from ok_iload_n (show decode mi_X12_isAhead.2.1 4 = .ok (.iload_n 2, 1) from by decide +kernel) rfl) <|
  tk_c (show TrOk D (d + 1) mi_X12_isAhead 5 (tr_iald 6) from ok_iald (show decode mi_X12_isAhead.2.1 5 = .ok (.iaload, 1) from by decide +kernel)) <|
  tk_c (show TrOk D (d + 1) mi_X12_isAhead 6 (tr_aload 7 0) from ok_aload_n (show decode mi_X12_isAhead.2.1 6 = .ok (.aload_n 0, 1) from by decide +kernel) rfl) <|
  tk_c (show TrOk D (d + 1) mi_X12_isAhead 7 (tr_getR 10 13 1208) from ok_getR (ci := 12) (k := 8) (show decode mi_X12_isAhead.2.1 7 = .ok (.getfield 27, 3) from by decide +kernel) rfl (by decide) (gm 789 (by decide +kernel) rfl) rfl) <|
  tk_c (show TrOk D (d + 1) mi_X12_isAhead 10 (tr_iload 11 3) from ok_iload_n (show decode mi_X12_isAhead.2.1 10 = .ok (.iload_n 3, 1) from by decide +kernel) rfl) <|
  tk_c (show TrOk D (d + 1) mi_X12_isAhead 11 (tr_iald 12) from ok_iald (show decode mi_X12_isAhead.2.1 11 = .ok (.iaload, 1) from by decide +kernel)) <|
  tk_c (show TrOk D (d + 1) mi_X12_isAhead 12 (tr_iceq 15 36) from ok_iceq (show decode mi_X12_isAhead.2.1 12 = .ok (.if_icmp .eq 24, 3) from by decide +kernel) (by decide)) <|
  tk_c (show TrOk D (d + 1) mi_X12_isAhead 15 (tr_aload 16 0) from ok_aload_n (show decode mi_X12_isAhead.2.1 15 = .ok (.aload_n 0, 1) from by decide +kernel) rfl) <|
  tk_c (show TrOk D (d + 1) mi_X12_isAhead 16 (tr_getR 19 13 1208) from ok_getR (ci := 12) (k := 8) (show decode mi_X12_isAhead.2.1 16 = .ok (.getfield 27, 3) from by decide +kernel) rfl (by decide) (gm 789 (by decide +kernel) rfl) rfl) <|
  tk_c (show TrOk D (d + 1) mi_X12_isAhead 19 (tr_iload 20 2) from ok_iload_n (show decode mi_X12_isAhead.2.1 19 = .ok (.iload_n 2, 1) from by decide +kernel) rfl) <|
  tk_c (show TrOk D (d + 1) mi_X12_isAhead 20 (tr_iald 21) from ok_iald (show decode mi_X12_isAhead.2.1 20 = .ok (.iaload, 1) from by decide +kernel)) <|
  tk_c (show TrOk D (d + 1) mi_X12_isAhead 21 (tr_aload 22 0) from ok_aload_n (show decode mi_X12_isAhead.2.1 21 = .ok (.aload_n 0, 1) from by decide +kernel) rfl) <|
  tk_c (show TrOk D (d + 1) mi_X12_isAhead 22 (tr_getR 25 13 1208) from ok_getR (ci := 12) (k := 8) (show decode mi_X12_isAhead.2.1 22 = .ok (.getfield 27, 3) from by decide +kernel) rfl (by decide) (gm 789 (by decide +kernel) rfl) rfl) <|
  tk_c (show TrOk D (d + 1) mi_X12_isAhead 25 (tr_iload 26 3) from ok_iload_n (show decode mi_X12_isAhead.2.1 25 = .ok (.iload_n 3, 1) from by decide +kernel) rfl) <|
  tk_c (show TrOk D (d + 1) mi_X12_isAhead 26 (tr_iald 27) from ok_iald (show decode mi_X12_isAhead.2.1 26 = .ok (.iaload, 1) from by decide +kernel)) <|
  tk_c (show TrOk D (d + 1) mi_X12_isAhead 27 (tr_icle 30 34) from ok_icle (show decode mi_X12_isAhead.2.1 27 = .ok (.if_icmp .le 7, 3) from by decide +kernel) (by decide)) <|
  tk_c (show TrOk D (d + 1) mi_X12_isAhead 30 (tr_ic 31 1) from ok_iconst (show decode mi_X12_isAhead.2.1 30 = .ok (.iconst 1, 1) from by decide +kernel) rfl) <|
  tk_c (show TrOk D (d + 1) mi_X12_isAhead 31 (tr_goto 35) from ok_goto (show decode mi_X12_isAhead.2.1 31 = .ok (.goto 4, 3) from by decide +kernel) (by decide)) <|
  tk_c (show TrOk D (d + 1) mi_X12_isAhead 34 (tr_ic 35 0) from ok_iconst (show decode mi_X12_isAhead.2.1 34 = .ok (.iconst 0, 1) from by decide +kernel) rfl) <|
  tk_c (show TrOk D (d + 1) mi_X12_isAhead 35 (tr_zret) from ok_zret (show decode mi_X12_isAhead.2.1 35 = .ok (.ireturn, 1) from by decide +kernel) rfl) <|
  tk_c (show TrOk D (d + 1) mi_X12_isAhead 36 (tr_aload 37 0) from ok_aload_n (show decode mi_X12_isAhead.2.1 36 = .ok (.aload_n 0, 1) from by decide +kernel) rfl) <|
  tk_c (show TrOk D (d + 1) mi_X12_isAhead 37 (tr_iload 38 1) from ok_iload_n (show decode mi_X12_isAhead.2.1 37 = .ok (.iload_n 1, 1) from by decide +kernel) rfl) <|
  tk_c (show TrOk D (d + 1) mi_X12_isAhead 38 (tr_aload 39 0) from ok_aload_n (show decode mi_X12_isAhead.2.1 38 = .ok (.aload_n 0, 1) from by decide +kernel) rfl) <|
  tk_c (show TrOk D (d + 1) mi_X12_isAhead 39 (tr_getR 42 13 1206) from ok_getR (ci := 12) (k := 6) (show decode mi_X12_isAhead.2.1 39 = .ok (.getfield 21, 3) from by decide +kernel) rfl (by decide) (gm 787 (by decide +kernel) rfl) rfl) <|
  tk_c (show TrOk D (d + 1) mi_X12_isAhead 42 (tr_iload 43 2) from ok_iload_n (show decode mi_X12_isAhead.2.1 42 = .ok (.iload_n 2, 1) from by decide +kernel) rfl) <|
  tk_c (show TrOk D (d + 1) mi_X12_isAhead 43 (tr_iald 44) from ok_iald (show decode mi_X12_isAhead.2.1 43 = .ok (.iaload, 1) from by decide +kernel)) <|
  tk_c (show TrOk D (d + 1) mi_X12_isAhead 44 (tr_callV (C 113) 47 13 2) from ok_callV (ci := 12) (show decode mi_X12_isAhead.2.1 44 = .ok (.invokevirtual 175, 3) from by decide +kernel) mok_X12_above rfl rfl (gm 1037 (by decide +kernel) rfl) (gm 1039 (by decide +kernel) rfl) (gm 19 (by decide +kernel) rfl) (hC 113)) <|
  tk_c (show TrOk D (d + 1) mi_X12_isAhead 47 (tr_istore 49 4) from ok_istore (show decode mi_X12_isAhead.2.1 47 = .ok (.istore 4, 2) from by decide +kernel) (by decide)) <|
  tk_c (show TrOk D (d + 1) mi_X12_isAhead 49 (tr_aload 50 0) from ok_aload_n (show decode mi_X12_isAhead.2.1 49 = .ok (.aload_n 0, 1) from by decide +kernel) rfl) <|
  tk_c (show TrOk D (d + 1) mi_X12_isAhead 50 (tr_iload 51 1) from ok_iload_n (show decode mi_X12_isAhead.2.1 50 = .ok (.iload_n 1, 1) from by decide +kernel) rfl) <|
  tk_c (show TrOk D (d + 1) mi_X12_isAhead 51 (tr_aload 52 0) from ok_aload_n (show decode mi_X12_isAhead.2.1 51 = .ok (.aload_n 0, 1) from by decide +kernel) rfl) <|
  tk_c (show TrOk D (d + 1) mi_X12_isAhead 52 (tr_getR 55 13 1206) from ok_getR (ci := 12) (k := 6) (show decode mi_X12_isAhead.2.1 52 = .ok (.getfield 21, 3) from by decide +kernel) rfl (by decide) (gm 787 (by decide +kernel) rfl) rfl) <|
  tk_c (show TrOk D (d + 1) mi_X12_isAhead 55 (tr_iload 56 3) from ok_iload_n (show decode mi_X12_isAhead.2.1 55 = .ok (.iload_n 3, 1) from by decide +kernel) rfl) <|
  tk_c (show TrOk D (d + 1) mi_X12_isAhead 56 (tr_iald 57) from ok_iald (show decode mi_X12_isAhead.2.1 56 = .ok (.iaload, 1) from by decide +kernel)) <|
  tk_c (show TrOk D (d + 1) mi_X12_isAhead 57 (tr_callV (C 113) 60 13 2) from ok_callV (ci := 12) (show decode mi_X12_isAhead.2.1 57 = .ok (.invokevirtual 175, 3) from by decide +kernel) mok_X12_above rfl rfl (gm 1037 (by decide +kernel) rfl) (gm 1039 (by decide +kernel) rfl) (gm 19 (by decide +kernel) rfl) (hC 113)) <|
  tk_c (show TrOk D (d + 1) mi_X12_isAhead 60 (tr_istore 62 5) from ok_istore (show decode mi_X12_isAhead.2.1 60 = .ok (.istore 5, 2) from by decide +kernel) (by decide)) <|
  tk_c (show TrOk D (d + 1) mi_X12_isAhead 62 (tr_iload 64 4) from ok_iload (show decode mi_X12_isAhead.2.1 62 = .ok (.iload 4, 2) from by decide +kernel)) <|
  tk_c (show TrOk D (d + 1) mi_X12_isAhead 64 (tr_iload 66 5) from ok_iload (show decode mi_X12_isAhead.2.1 64 = .ok (.iload 5, 2) from by decide +kernel)) <|
  tk_n
def tb_X12_isAhead_1 (C : Nat → Sp) : Tab := [(66, tr_iceq 69 84), (69, tr_iload 71 4), (71, tr_iload 73 5), (73, tr_icge 76 80), (76, tr_ic 77 1), (77, tr_goto 94), (80, tr_ic 81 0), (81, tr_goto 94), (84, tr_iload 85 2), (85, tr_iload 86 3), (86, tr_icge 89 93), (89, tr_ic 90 1), (90, tr_goto 94), (93, tr_ic 94 0), (94, tr_zret)]
set_option maxRecDepth 20000 in
theorem tbk_X12_isAhead_1 {D : DD} {d : Nat} {C : Nat → Sp} (hC : Snd D d C) : ∀ e ∈ tb_X12_isAhead_1 C, TrOk D (d + 1) mi_X12_isAhead e.1 e.2 :=
  tk_c (show TrOk D (d + 1) mi_X12_isAhead 66 (tr_iceq 69 84) from ok_iceq (show decode mi_X12_isAhead.2.1 66 = .ok (.if_icmp .eq 18, 3) from by decide +kernel) (by decide)) <|
  tk_c (show TrOk D (d + 1) mi_X12_isAhead 69 (tr_iload 71 4) from ok_iload (show decode mi_X12_isAhead.2.1 69 = .ok (.iload 4, 2) from by decide +kernel)) <|
  tk_c (show TrOk D (d + 1) mi_X12_isAhead 71 (tr_iload 73 5) from ok_iload (show decode mi_X12_isAhead.2.1 71 = .ok (.iload 5, 2) from by decide +kernel)) <|
  tk_c (show TrOk D (d + 1) mi_X12_isAhead 73 (tr_icge 76 80) from ok_icge (show decode mi_X12_isAhead.2.1 73 = .ok (.if_icmp .ge 7, 3) from by decide +kernel) (by decide)) <|
  tk_c (show TrOk D (d + 1) mi_X12_isAhead 76 (tr_ic 77 1) from ok_iconst (show decode mi_X12_isAhead.2.1 76 = .ok (.iconst 1, 1) from by decide +kernel) rfl) <|
  tk_c (show TrOk D (d + 1) mi_X12_isAhead 77 (tr_goto 94) from ok_goto (show decode mi_X12_isAhead.2.1 77 = .ok (.goto 17, 3) from by decide +kernel) (by decide)) <|
  tk_c (show TrOk D (d + 1) mi_X12_isAhead 80 (tr_ic 81 0) from ok_iconst (show decode mi_X12_isAhead.2.1 80 = .ok (.iconst 0, 1) from by decide +kernel) rfl) <|
  tk_c (show TrOk D (d + 1) mi_X12_isAhead 81 (tr_goto 94) from ok_goto (show decode mi_X12_isAhead.2.1 81 = .ok (.goto 13, 3) from by decide +kernel) (by decide)) <|
  tk_c (show TrOk D (d + 1) mi_X12_isAhead 84 (tr_iload 85 2) from ok_iload_n (show decode mi_X12_isAhead.2.1 84 = .ok (.iload_n 2, 1) from by decide +kernel) rfl) <|
  tk_c (show TrOk D (d + 1) mi_X12_isAhead 85 (tr_iload 86 3) from ok_iload_n (show decode mi_X12_isAhead.2.1 85 = .ok (.iload_n 3, 1) from by decide +kernel) rfl) <|
  tk_c (show TrOk D (d + 1) mi_X12_isAhead 86 (tr_icge 89 93) from ok_icge (show decode mi_X12_isAhead.2.1 86 = .ok (.if_icmp .ge 7, 3) from by decide +kernel) (by decide)) <|
  tk_c (show TrOk D (d + 1) mi_X12_isAhead 89 (tr_ic 90 1) from ok_iconst (show decode mi_X12_isAhead.2.1 89 = .ok (.iconst 1, 1) from by decide +kernel) rfl) <|
  tk_c (show TrOk D (d + 1) mi_X12_isAhead 90 (tr_goto 94) from ok_goto (show decode mi_X12_isAhead.2.1 90 = .ok (.goto 4, 3) from by decide +kernel) (by decide)) <|
  tk_c (show TrOk D (d + 1) mi_X12_isAhead 93 (tr_ic 94 0) from ok_iconst (show decode mi_X12_isAhead.2.1 93 = .ok (.iconst 0, 1) from by decide +kernel) rfl) <|
  tk_c (show TrOk D (d + 1) mi_X12_isAhead 94 (tr_zret) from ok_zret (show decode mi_X12_isAhead.2.1 94 = .ok (.ireturn, 1) from by decide +kernel) rfl) <|
  tk_n
def tb_X12_isAhead (C : Nat → Sp) : Tab := tb_X12_isAhead_0 C ++ (tb_X12_isAhead_1 C)
theorem tbk_X12_isAhead {D : DD} {d : Nat} {C : Nat → Sp} (hC : Snd D d C) : ∀ e ∈ tb_X12_isAhead C, TrOk D (d + 1) mi_X12_isAhead e.1 e.2 := tk_a (tbk_X12_isAhead_0 hC) (tbk_X12_isAhead_1 hC)
theorem a_X12_isAhead_0 (C : Nat → Sp) : ta (tb_X12_isAhead C) 0 = tr_aload 1 0 := rfl
theorem a_X12_isAhead_1 (C : Nat → Sp) : ta (tb_X12_isAhead C) 1 = tr_getR 4 13 1208 := rfl
theorem a_X12_isAhead_4 (C : Nat → Sp) : ta (tb_X12_isAhead C) 4 = tr_iload 5 2 := rfl
theorem a_X12_isAhead_5 (C : Nat → Sp) : ta (tb_X12_isAhead C) 5 = tr_iald 6 := rfl
theorem a_X12_isAhead_6 (C : Nat → Sp) : ta (tb_X12_isAhead C) 6 = tr_aload 7 0 := rfl
theorem a_X12_isAhead_7 (C : Nat → Sp) : ta (tb_X12_isAhead C) 7 = tr_getR 10 13 1208 := rfl
theorem a_X12_isAhead_10 (C : Nat → Sp) : ta (tb_X12_isAhead C) 10 = tr_iload 11 3 := rfl
theorem a_X12_isAhead_11 (C : Nat → Sp) : ta (tb_X12_isAhead C) 11 = tr_iald 12 := rfl
theorem a_X12_isAhead_12 (C : Nat → Sp) : ta (tb_X12_isAhead C) 12 = tr_iceq 15 36 := rfl
theorem a_X12_isAhead_15 (C : Nat → Sp) : ta (tb_X12_isAhead C) 15 = tr_aload 16 0 := rfl
theorem a_X12_isAhead_16 (C : Nat → Sp) : ta (tb_X12_isAhead C) 16 = tr_getR 19 13 1208 := rfl
theorem a_X12_isAhead_19 (C : Nat → Sp) : ta (tb_X12_isAhead C) 19 = tr_iload 20 2 := rfl
theorem a_X12_isAhead_20 (C : Nat → Sp) : ta (tb_X12_isAhead C) 20 = tr_iald 21 := rfl
theorem a_X12_isAhead_21 (C : Nat → Sp) : ta (tb_X12_isAhead C) 21 = tr_aload 22 0 := rfl
theorem a_X12_isAhead_22 (C : Nat → Sp) : ta (tb_X12_isAhead C) 22 = tr_getR 25 13 1208 := rfl
theorem a_X12_isAhead_25 (C : Nat → Sp) : ta (tb_X12_isAhead C) 25 = tr_iload 26 3 := rfl
theorem a_X12_isAhead_26 (C : Nat → Sp) : ta (tb_X12_isAhead C) 26 = tr_iald 27 := rfl
theorem a_X12_isAhead_27 (C : Nat → Sp) : ta (tb_X12_isAhead C) 27 = tr_icle 30 34 := rfl
theorem a_X12_isAhead_30 (C : Nat → Sp) : ta (tb_X12_isAhead C) 30 = tr_ic 31 1 := rfl
theorem a_X12_isAhead_31 (C : Nat → Sp) : ta (tb_X12_isAhead C) 31 = tr_goto 35 := rfl
theorem a_X12_isAhead_34 (C : Nat → Sp) : ta (tb_X12_isAhead C) 34 = tr_ic 35 0 := rfl
theorem a_X12_isAhead_35 (C : Nat → Sp) : ta (tb_X12_isAhead C) 35 = tr_zret := rfl
theorem a_X12_isAhead_36 (C : Nat → Sp) : ta (tb_X12_isAhead C) 36 = tr_aload 37 0 := rfl
theorem a_X12_isAhead_37 (C : Nat → Sp) : ta (tb_X12_isAhead C) 37 = tr_iload 38 1 := rfl
theorem a_X12_isAhead_38 (C : Nat → Sp) : ta (tb_X12_isAhead C) 38 = tr_aload 39 0 := rfl
theorem a_X12_isAhead_39 (C : Nat → Sp) : ta (tb_X12_isAhead C) 39 = tr_getR 42 13 1206 := rfl
theorem a_X12_isAhead_42 (C : Nat → Sp) : ta (tb_X12_isAhead C) 42 = tr_iload 43 2 := rfl
theorem a_X12_isAhead_43 (C : Nat → Sp) : ta (tb_X12_isAhead C) 43 = tr_iald 44 := rfl
theorem a_X12_isAhead_44 (C : Nat → Sp) : ta (tb_X12_isAhead C) 44 = tr_callV (C 113) 47 13 2 := rfl
theorem a_X12_isAhead_47 (C : Nat → Sp) : ta (tb_X12_isAhead C) 47 = tr_istore 49 4 := rfl
theorem a_X12_isAhead_49 (C : Nat → Sp) : ta (tb_X12_isAhead C) 49 = tr_aload 50 0 := rfl
theorem a_X12_isAhead_50 (C : Nat → Sp) : ta (tb_X12_isAhead C) 50 = tr_iload 51 1 := rfl
theorem a_X12_isAhead_51 (C : Nat → Sp) : ta (tb_X12_isAhead C) 51 = tr_aload 52 0 := rfl
theorem a_X12_isAhead_52 (C : Nat → Sp) : ta (tb_X12_isAhead C) 52 = tr_getR 55 13 1206 := rfl
theorem a_X12_isAhead_55 (C : Nat → Sp) : ta (tb_X12_isAhead C) 55 = tr_iload 56 3 := rfl
theorem a_X12_isAhead_56 (C : Nat → Sp) : ta (tb_X12_isAhead C) 56 = tr_iald 57 := rfl
theorem a_X12_isAhead_57 (C : Nat → Sp) : ta (tb_X12_isAhead C) 57 = tr_callV (C 113) 60 13 2 := rfl
theorem a_X12_isAhead_60 (C : Nat → Sp) : ta (tb_X12_isAhead C) 60 = tr_istore 62 5 := rfl
theorem a_X12_isAhead_62 (C : Nat → Sp) : ta (tb_X12_isAhead C) 62 = tr_iload 64 4 := rfl
theorem a_X12_isAhead_64 (C : Nat → Sp) : ta (tb_X12_isAhead C) 64 = tr_iload 66 5 := rfl
theorem a_X12_isAhead_66 (C : Nat → Sp) : ta (tb_X12_isAhead C) 66 = tr_iceq 69 84 := rfl
theorem a_X12_isAhead_69 (C : Nat → Sp) : ta (tb_X12_isAhead C) 69 = tr_iload 71 4 := rfl
theorem a_X12_isAhead_71 (C : Nat → Sp) : ta (tb_X12_isAhead C) 71 = tr_iload 73 5 := rfl
theorem a_X12_isAhead_73 (C : Nat → Sp) : ta (tb_X12_isAhead C) 73 = tr_icge 76 80 := rfl
theorem a_X12_isAhead_76 (C : Nat → Sp) : ta (tb_X12_isAhead C) 76 = tr_ic 77 1 := rfl
theorem a_X12_isAhead_77 (C : Nat → Sp) : ta (tb_X12_isAhead C) 77 = tr_goto 94 := rfl
theorem a_X12_isAhead_80 (C : Nat → Sp) : ta (tb_X12_isAhead C) 80 = tr_ic 81 0 := rfl
theorem a_X12_isAhead_81 (C : Nat → Sp) : ta (tb_X12_isAhead C) 81 = tr_goto 94 := rfl
theorem a_X12_isAhead_84 (C : Nat → Sp) : ta (tb_X12_isAhead C) 84 = tr_iload 85 2 := rfl
theorem a_X12_isAhead_85 (C : Nat → Sp) : ta (tb_X12_isAhead C) 85 = tr_iload 86 3 := rfl
theorem a_X12_isAhead_86 (C : Nat → Sp) : ta (tb_X12_isAhead C) 86 = tr_icge 89 93 := rfl
theorem a_X12_isAhead_89 (C : Nat → Sp) : ta (tb_X12_isAhead C) 89 = tr_ic 90 1 := rfl
theorem a_X12_isAhead_90 (C : Nat → Sp) : ta (tb_X12_isAhead C) 90 = tr_goto 94 := rfl
theorem a_X12_isAhead_93 (C : Nat → Sp) : ta (tb_X12_isAhead C) 93 = tr_ic 94 0 := rfl
theorem a_X12_isAhead_94 (C : Nat → Sp) : ta (tb_X12_isAhead C) 94 = tr_zret := rfl

def tb_X12_findTurns_0 (C : Nat → Sp) : Tab := [(0, tr_aload 1 0), (1, tr_ic 2 0), (2, tr_putI 5 13 1224), (5, tr_ic 6 0), (6, tr_istore 7 3), (7, tr_iload 8 3), (8, tr_aload 9 0), (9, tr_getI 12 13 1205), (12, tr_icge 15 125), (15, tr_aload 16 0), (16, tr_getR 19 13 1213), (19, tr_iload 20 3), (20, tr_bald 21), (21, tr_ifeq 24 119), (24, tr_aload 25 0), (25, tr_getR 28 13 1207), (28, tr_iload 29 3), (29, tr_iald 30), (30, tr_iload 31 2), (31, tr_icne 34 119), (34, tr_aload 35 0), (35, tr_iload 36 1), (36, tr_aload 37 0), (37, tr_getR 40 13 1206), (40, tr_iload 41 3), (41, tr_iald 42), (42, tr_callV (C 113) 45 13 2), (45, tr_ic 47 (-4)), (47, tr_iceq 50 119), (50, tr_aload 51 0), (51, tr_getI 54 13 1224), (54, tr_istore 56 4), (56, tr_iload 58 4), (58, tr_ifle 61 101), (61, tr_aload 62 0), (62, tr_iload 63 1), (63, tr_iload 64 3), (64, tr_aload 65 0), (65, tr_getR 68 13 1223), (68, tr_iload 70 4)]
set_option maxRecDepth 20000 in
theorem tbk_X12_findTurns_0 {D : DD} {d : Nat} {C : Nat → Sp} (hC : Snd D d C) : ∀ e ∈ tb_X12_findTurns_0 C, TrOk D (d + 1) mi_X12_findTurns e.1 e.2 :=
  tk_c (show TrOk D (d + 1) mi_X12_findTurns 0 (tr_aload 1 0) from ok_aload_n (show decode mi_X12_findTurns.2.1 0 = .ok (.aload_n 0, 1) from by decide +kernel) rfl) <|
  tk_c (show TrOk D (d + 1) mi_X12_findTurns 1 (tr_ic 2 0) from ok_iconst (show decode mi_X12_findTurns.2.1 1 = .ok (.iconst 0, 1) from by decide +kernel) rfl) <|
  tk_c (show TrOk D (d + 1) mi_X12_findTurns 2 (tr_putI 5 13 1224) from ok_putI (ci := 12) (k := 24) (show decode mi_X12_findTurns.2.1 2 = .ok (.putfield 179, 3) from by decide +kernel) rfl (by decide) (gm 805 (by decide +kernel) rfl) rfl (Or.inl rfl)) <|
  tk_c (show TrOk D (d + 1) mi_X12_findTurns 5 (tr_ic 6 0) from ok_iconst (show decode mi_X12_findTurns.2.1 5 = .ok (.iconst 0, 1) from by decide +kernel) rfl) <|
  tk_c (show TrOk D (d + 1) mi_X12_findTurns 6 (tr_istore 7 3) from ok_istore_n (show decode mi_X12_findTurns.2.1 6 = .ok (.istore_n 3, 1) from by decide +kernel) rfl (by decide)) <|
  tk_c (show TrOk D (d + 1) mi_X12_findTurns 7 (tr_iload 8 3) from ok_iload_n (show decode mi_X12_findTurns.2.1 7 = .ok (.iload_n 3, 1) from by decide +kernel) rfl) <|
  tk_c (show TrOk D (d + 1) mi_X12_findTurns 8 (tr_aload 9 0) from ok_aload_n (show decode mi_X12_findTurns.2.1 8 = .ok (.aload_n 0, 1) from by decide +kernel) rfl) <|
  tk_c (show TrOk D (d + 1) mi_X12_findTurns 9 (tr_getI 12 13 1205) from ok_getI (ci := 12) (k := 5) (show decode mi_X12_findTurns.2.1 9 = .ok (.getfield 140, 3) from by decide +kernel) rfl (by decide) (gm 786 (by decide +kernel) rfl) rfl) <|
  tk_c (show TrOk D (d + 1) mi_X12_findTurns 12 (tr_icge 15 125) from ok_icge (show decode mi_X12_findTurns.2.1 12 = .ok (.if_icmp .ge 113, 3) from by decide +kernel) (by decide)) <|
  tk_c (show TrOk D (d + 1) mi_X12_findTurns 15 (tr_aload 16 0) from ok_aload_n (show decode mi_X12_findTurns.2.1 15 = .ok (.aload_n 0, 1) from by decide +kernel) rfl) <|
  tk_c (show TrOk D (d + 1) mi_X12_findTurns 16 (tr_getR 19 13 1213) from ok_getR (ci := 12) (k := 13) (show decode mi_X12_findTurns.2.1 16 = .ok (.getfield 42, 3) from by decide +kernel) rfl (by decide) (gm 794 (by decide +kernel) rfl) rfl) <|
  tk_c (show TrOk D (d + 1) mi_X12_findTurns 19 (tr_iload 20 3) from ok_iload_n (show decode mi_X12_findTurns.2.1 19 = .ok (.iload_n 3, 1) from by decide +kernel) rfl) <|
  tk_c (show TrOk D (d + 1) mi_X12_findTurns 20 (tr_bald 21) from ok_bald (show decode mi_X12_findTurns.2.1 20 = .ok (.baload, 1) from by decide +kernel)) <|
  tk_c (show TrOk D (d + 1) mi_X12_findTurns 21 (tr_ifeq 24 119) from ok_ifeq (show decode mi_X12_findTurns.2.1 21 = .ok (.ifCond .eq 98, 3) from by decide +kernel) (by decide)) <|
  tk_c (show TrOk D (d + 1) mi_X12_findTurns 24 (tr_aload 25 0) from ok_aload_n (show decode mi_X12_findTurns.2.1 24 = .ok (.aload_n 0, 1) from by decide +kernel) rfl) <|
  tk_c (show TrOk D (d + 1) mi_X12_findTurns 25 (tr_getR 28 13 1207) from ok_getR (ci := 12) (k := 7) (show decode mi_X12_findTurns.2.1 25 = .ok (.getfield 24, 3) from by decide +kernel) rfl (by decide) (gm 788 (by decide +kernel) rfl) rfl) <|
  tk_c (show TrOk D (d + 1) mi_X12_findTurns 28 (tr_iload 29 3) from ok_iload_n (show decode mi_X12_findTurns.2.1 28 = .ok (.iload_n 3, 1) from by decide +kernel) rfl) <|
  tk_c (show TrOk D (d + 1) mi_X12_findTurns 29 (tr_iald 30) from ok_iald (show decode mi_X12_findTurns.2.1 29 = .ok (.iaload, 1) from by decide +kernel)) <|
  tk_c (show TrOk D (d + 1) mi_X12_findTurns 30 (tr_iload 31 2) from ok_iload_n (show decode mi_X12_findTurns.2.1 30 = .ok (.iload_n 2, 1) from by decide +kernel) rfl) <|
  tk_c (show TrOk D (d + 1) mi_X12_findTurns 31 (tr_icne 34 119) from ok_icne (show decode mi_X12_findTurns.2.1 31 = .ok (.if_icmp .ne 88, 3) from by decide +kernel) (by decide)) <|
  tk_c (show TrOk D (d + 1) mi_X12_findTurns 34 (tr_aload 35 0) from ok_aload_n (show decode mi_X12_findTurns.2.1 34 = .ok (.aload_n 0, 1) from by decide +kernel) rfl) <|
  tk_c (show TrOk D (d + 1) mi_X12_findTurns 35 (tr_iload 36 1) from ok_iload_n (show decode mi_X12_findTurns.2.1 35 = .ok (.iload_n 1, 1) from by decide +kernel) rfl) <|
  tk_c (show TrOk D (d + 1) mi_X12_findTurns 36 (tr_aload 37 0) from ok_aload_n (show decode mi_X12_findTurns.2.1 36 = .ok (.aload_n 0, 1) from by decide +kernel) rfl) <|
  tk_c (show TrOk D (d + 1) mi_X12_findTurns 37 (tr_getR 40 13 1206) from ok_getR (ci := 12) (k := 6) (show decode mi_X12_findTurns.2.1 37 = .ok (.getfield 21, 3) from by decide +kernel) rfl (by decide) (gm 787 (by decide +kernel) rfl) rfl) <|
  tk_c (show TrOk D (d + 1) mi_X12_findTurns 40 (tr_iload 41 3) from ok_iload_n (show decode mi_X12_findTurns.2.1 40 = .ok (.iload_n 3, 1) from by decide +kernel) rfl) <|
  tk_c (show TrOk D (d + 1) mi_X12_findTurns 41 (tr_iald 42) from ok_iald (show decode mi_X12_findTurns.2.1 41 = .ok (.iaload, 1) from by decide +kernel)) <|
  tk_c (show TrOk D (d + 1) mi_X12_findTurns 42 (tr_callV (C 113) 45 13 2) from ok_callV (ci := 12) (show decode mi_X12_findTurns.2.1 42 = .ok (.invokevirtual 175, 3) from by decide +kernel) mok_X12_above rfl rfl (gm 1037 (by decide +kernel) rfl) (gm 1039 (by decide +kernel) rfl) (gm 19 (by decide +kernel) rfl) (hC 113)) <|
  tk_c (show TrOk D (d + 1) mi_X12_findTurns 45 (tr_ic 47 (-4)) from ok_bipush (show decode mi_X12_findTurns.2.1 45 = .ok (.bipush (-4), 2) from by decide +kernel) rfl) <|
  tk_c (show TrOk D (d + 1) mi_X12_findTurns 47 (tr_iceq 50 119) from ok_iceq (show decode mi_X12_findTurns.2.1 47 = .ok (.if_icmp .eq 72, 3) from by decide +kernel) (by decide)) <|
  tk_c (show TrOk D (d + 1) mi_X12_findTurns 50 (tr_aload 51 0) from ok_aload_n (show decode mi_X12_findTurns.2.1 50 = .ok (.aload_n 0, 1) from by decide +kernel) rfl) <|
  tk_c (show TrOk D (d + 1) mi_X12_findTurns 51 (tr_getI 54 13 1224) from ok_getI (ci := 12) (k := 24) (show decode mi_X12_findTurns.2.1 51 = .ok (.getfield 179, 3) from by decide +kernel) rfl (by decide) (gm 805 (by decide +kernel) rfl) rfl) <|
  tk_c (show TrOk D (d + 1) mi_X12_findTurns 54 (tr_istore 56 4) from ok_istore (show decode mi_X12_findTurns.2.1 54 = .ok (.istore 4, 2) from by decide +kernel) (by decide)) <|
  tk_c (show TrOk D (d + 1) mi_X12_findTurns 56 (tr_iload 58 4) from ok_iload (show decode mi_X12_findTurns.2.1 56 = .ok (.iload 4, 2) from by decide +kernel)) <|
  tk_c (show TrOk D (d + 1) mi_X12_findTurns 58 (tr_ifle 61 101) from ok_ifle (show decode mi_X12_findTurns.2.1 58 = .ok (.ifCond .le 43, 3) from by decide +kernel) (by decide)) <|
  tk_c (show TrOk D (d + 1) mi_X12_findTurns 61 (tr_aload 62 0) from ok_aload_n (show decode mi_X12_findTurns.2.1 61 = .ok (.aload_n 0, 1) from by decide +kernel) rfl) <|
  tk_c (show TrOk D (d + 1) mi_X12_findTurns 62 (tr_iload 63 1) from ok_iload_n (show decode mi_X12_findTurns.2.1 62 = .ok (.iload_n 1, 1) from by decide +kernel) rfl) <|
  tk_c (show TrOk D (d + 1) mi_X12_findTurns 63 (tr_iload 64 3) from ok_iload_n (show decode mi_X12_findTurns.2.1 63 = .ok (.iload_n 3, 1) from by decide +kernel) rfl) <|
  tk_c (show TrOk D (d + 1) mi_X12_findTurns 64 (tr_aload 65 0) from ok_aload_n (show decode mi_X12_findTurns.2.1 64 = .ok (.aload_n 0, 1) from by decide +kernel) rfl) <|
  tk_c (show TrOk D (d + 1) mi_X12_findTurns 65 (tr_getR 68 13 1223) from ok_getR (ci := 12) (k := 23) (show decode mi_X12_findTurns.2.1 65 = .ok (.getfield 72, 3) from by decide +kernel) rfl (by decide) (gm 804 (by decide +kernel) rfl) rfl) <|
  tk_c (show TrOk D (d + 1) mi_X12_findTurns 68 (tr_iload 70 4) from ok_iload (show decode mi_X12_findTurns.2.1 68 = .ok (.iload 4, 2) from by decide +kernel)) <|
  tk_n
def tb_X12_findTurns_1 (C : Nat → Sp) : Tab := [(70, tr_ic 71 1), (71, tr_isub 72), (72, tr_iald 73), (73, tr_callV (C 114) 76 13 3), (76, tr_ifeq 79 101), (79, tr_aload 80 0), (80, tr_getR 83 13 1223), (83, tr_iload 85 4), (85, tr_aload 86 0), (86, tr_getR 89 13 1223), (89, tr_iload 91 4), (91, tr_ic 92 1), (92, tr_isub 93), (93, tr_iald 94), (94, tr_iast 95), (95, tr_iinc 98 4 (-1)), (98, tr_goto 56), (101, tr_aload 102 0), (102, tr_getR 105 13 1223), (105, tr_iload 107 4), (107, tr_iload 108 3), (108, tr_iast 109), (109, tr_aload 110 0), (110, tr_dup 111), (111, tr_getI 114 13 1224), (114, tr_ic 115 1), (115, tr_iadd 116), (116, tr_putI 119 13 1224), (119, tr_iinc 122 3 1), (122, tr_goto 7), (125, tr_ret)]
set_option maxRecDepth 20000 in
theorem tbk_X12_findTurns_1 {D : DD} {d : Nat} {C : Nat → Sp} (hC : Snd D d C) : ∀ e ∈ tb_X12_findTurns_1 C, TrOk D (d + 1) mi_X12_findTurns e.1 e.2 :=
  tk_c (show TrOk D (d + 1) mi_X12_findTurns 70 (tr_ic 71 1) from ok_iconst (show decode mi_X12_findTurns.2.1 70 = .ok (.iconst 1, 1) from by decide +kernel) rfl) <|
  tk_c (show TrOk D (d + 1) mi_X12_findTurns 71 (tr_isub 72) from ok_isub (show decode mi_X12_findTurns.2.1 71 = .ok (.isub, 1) from by decide +kernel)) <|
  tk_c (show TrOk D (d + 1) mi_X12_findTurns 72 (tr_iald 73) from ok_iald (show decode mi_X12_findTurns.2.1 72 = .ok (.iaload, 1) from by decide +kernel)) <|
  tk_c (show TrOk D (d + 1) mi_X12_findTurns 73 (tr_callV (C 114) 76 13 3) from ok_callV (ci := 12) (show decode mi_X12_findTurns.2.1 73 = .ok (.invokevirtual 182, 3) from by decide +kernel) mok_X12_isAhead rfl rfl (gm 1041 (by decide +kernel) rfl) (gm 1043 (by decide +kernel) rfl) (gm 20 (by decide +kernel) rfl) (hC 114)) <|
  tk_c (show TrOk D (d + 1) mi_X12_findTurns 76 (tr_ifeq 79 101) from ok_ifeq (show decode mi_X12_findTurns.2.1 76 = .ok (.ifCond .eq 25, 3) from by decide +kernel) (by decide)) <|
  tk_c (show TrOk D (d + 1) mi_X12_findTurns 79 (tr_aload 80 0) from ok_aload_n (show decode mi_X12_findTurns.2.1 79 = .ok (.aload_n 0, 1) from by decide +kernel) rfl) <|
  tk_c (show TrOk D (d + 1) mi_X12_findTurns 80 (tr_getR 83 13 1223) from ok_getR (ci := 12) (k := 23) (show decode mi_X12_findTurns.2.1 80 = .ok (.getfield 72, 3) from by decide +kernel) rfl (by decide) (gm 804 (by decide +kernel) rfl) rfl) <|
  tk_c (show TrOk D (d + 1) mi_X12_findTurns 83 (tr_iload 85 4) from ok_iload (show decode mi_X12_findTurns.2.1 83 = .ok (.iload 4, 2) from by decide +kernel)) <|
  tk_c (show TrOk D (d + 1) mi_X12_findTurns 85 (tr_aload 86 0) from ok_aload_n (show decode mi_X12_findTurns.2.1 85 = .ok (.aload_n 0, 1) from by decide +kernel) rfl) <|
  tk_c (show TrOk D (d + 1) mi_X12_findTurns 86 (tr_getR 89 13 1223) from ok_getR (ci := 12) (k := 23) (show decode mi_X12_findTurns.2.1 86 = .ok (.getfield 72, 3) from by decide +kernel) rfl (by decide) (gm 804 (by decide +kernel) rfl) rfl) <|
  tk_c (show TrOk D (d + 1) mi_X12_findTurns 89 (tr_iload 91 4) from ok_iload (show decode mi_X12_findTurns.2.1 89 = .ok (.iload 4, 2) from by decide +kernel)) <|
  tk_c (show TrOk D (d + 1) mi_X12_findTurns 91 (tr_ic 92 1) from ok_iconst (show decode mi_X12_findTurns.2.1 91 = .ok (.iconst 1, 1) from by decide +kernel) rfl) <|
  tk_c (show TrOk D (d + 1) mi_X12_findTurns 92 (tr_isub 93) from ok_isub (show decode mi_X12_findTurns.2.1 92 = .ok (.isub, 1) from by decide +kernel)) <|
  tk_c (show TrOk D (d + 1) mi_X12_findTurns 93 (tr_iald 94) from ok_iald (show decode mi_X12_findTurns.2.1 93 = .ok (.iaload, 1) from by decide +kernel)) <|
  tk_c (show TrOk D (d + 1) mi_X12_findTurns 94 (tr_iast 95) from ok_iast (show decode mi_X12_findTurns.2.1 94 = .ok (.iastore, 1) from by decide +kernel)) <|
  tk_c (show TrOk D (d + 1) mi_X12_findTurns 95 (tr_iinc 98 4 (-1)) from ok_iinc (show decode mi_X12_findTurns.2.1 95 = .ok (.iinc 4 (-1), 3) from by decide +kernel) rfl (by decide)) <|
  tk_c (show TrOk D (d + 1) mi_X12_findTurns 98 (tr_goto 56) from ok_goto (show decode mi_X12_findTurns.2.1 98 = .ok (.goto (-42), 3) from by decide +kernel) (by decide)) <|
  tk_c (show TrOk D (d + 1) mi_X12_findTurns 101 (tr_aload 102 0) from ok_aload_n (show decode mi_X12_findTurns.2.1 101 = .ok (.aload_n 0, 1) from by decide +kernel) rfl) <|
  tk_c (show TrOk D (d + 1) mi_X12_findTurns 102 (tr_getR 105 13 1223) from ok_getR (ci := 12) (k := 23) (show decode mi_X12_findTurns.2.1 102 = .ok (.getfield 72, 3) from by decide +kernel) rfl (by decide) (gm 804 (by decide +kernel) rfl) rfl) <|
  tk_c (show TrOk D (d + 1) mi_X12_findTurns 105 (tr_iload 107 4) from ok_iload (show decode mi_X12_findTurns.2.1 105 = .ok (.iload 4, 2) from by decide +kernel)) <|
  tk_c (show TrOk D (d + 1) mi_X12_findTurns 107 (tr_iload 108 3) from ok_iload_n (show decode mi_X12_findTurns.2.1 107 = .ok (.iload_n 3, 1) from by decide +kernel) rfl) <|
  tk_c (show TrOk D (d + 1) mi_X12_findTurns 108 (tr_iast 109) from ok_iast (show decode mi_X12_findTurns.2.1 108 = .ok (.iastore, 1) from by decide +kernel)) <|
  tk_c (show TrOk D (d + 1) mi_X12_findTurns 109 (tr_aload 110 0) from ok_aload_n (show decode mi_X12_findTurns.2.1 109 = .ok (.aload_n 0, 1) from by decide +kernel) rfl) <|
  tk_c (show TrOk D (d + 1) mi_X12_findTurns 110 (tr_dup 111) from ok_dup (show decode mi_X12_findTurns.2.1 110 = .ok (.dup, 1) from by decide +kernel)) <|
  tk_c (show TrOk D (d + 1) mi_X12_findTurns 111 (tr_getI 114 13 1224) from ok_getI (ci := 12) (k := 24) (show decode mi_X12_findTurns.2.1 111 = .ok (.getfield 179, 3) from by decide +kernel) rfl (by decide) (gm 805 (by decide +kernel) rfl) rfl) <|
  tk_c (show TrOk D (d + 1) mi_X12_findTurns 114 (tr_ic 115 1) from ok_iconst (show decode mi_X12_findTurns.2.1 114 = .ok (.iconst 1, 1) from by decide +kernel) rfl) <|
  tk_c (show TrOk D (d + 1) mi_X12_findTurns 115 (tr_iadd 116) from ok_iadd (show decode mi_X12_findTurns.2.1 115 = .ok (.iadd, 1) from by decide +kernel)) <|
  tk_c (show TrOk D (d + 1) mi_X12_findTurns 116 (tr_putI 119 13 1224) from ok_putI (ci := 12) (k := 24) (show decode mi_X12_findTurns.2.1 116 = .ok (.putfield 179, 3) from by decide +kernel) rfl (by decide) (gm 805 (by decide +kernel) rfl) rfl (Or.inl rfl)) <|
  tk_c (show TrOk D (d + 1) mi_X12_findTurns 119 (tr_iinc 122 3 1) from ok_iinc (show decode mi_X12_findTurns.2.1 119 = .ok (.iinc 3 1, 3) from by decide +kernel) rfl (by decide)) <|
  tk_c (show TrOk D (d + 1) mi_X12_findTurns 122 (tr_goto 7) from ok_goto (show decode mi_X12_findTurns.2.1 122 = .ok (.goto (-115), 3) from by decide +kernel) (by decide)) <|
  tk_c (show TrOk D (d + 1) mi_X12_findTurns 125 (tr_ret) from ok_ret (show decode mi_X12_findTurns.2.1 125 = .ok (.return_, 1) from by decide +kernel) rfl) <|
  tk_n
def tb_X12_findTurns (C : Nat → Sp) : Tab := tb_X12_findTurns_0 C ++ (tb_X12_findTurns_1 C)
theorem tbk_X12_findTurns {D : DD} {d : Nat} {C : Nat → Sp} (hC : Snd D d C) : ∀ e ∈ tb_X12_findTurns C, TrOk D (d + 1) mi_X12_findTurns e.1 e.2 := tk_a (tbk_X12_findTurns_0 hC) (tbk_X12_findTurns_1 hC)
theorem a_X12_findTurns_0 (C : Nat → Sp) : ta (tb_X12_findTurns C) 0 = tr_aload 1 0 := rfl
theorem a_X12_findTurns_1 (C : Nat → Sp) : ta (tb_X12_findTurns C) 1 = tr_ic 2 0 := rfl
theorem a_X12_findTurns_2 (C : Nat → Sp) : ta (tb_X12_findTurns C) 2 = tr_putI 5 13 1224 := rfl
theorem a_X12_findTurns_5 (C : Nat → Sp) : ta (tb_X12_findTurns C) 5 = tr_ic 6 0 := rfl
theorem a_X12_findTurns_6 (C : Nat → Sp) : ta (tb_X12_findTurns C) 6 = tr_istore 7 3 := rfl
theorem a_X12_findTurns_7 (C : Nat → Sp) : ta (tb_X12_findTurns C) 7 = tr_iload 8 3 := rfl
theorem a_X12_findTurns_8 (C : Nat → Sp) : ta (tb_X12_findTurns C) 8 = tr_aload 9 0 := rfl
theorem a_X12_findTurns_9 (C : Nat → Sp) : ta (tb_X12_findTurns C) 9 = tr_getI 12 13 1205 := rfl
theorem a_X12_findTurns_12 (C : Nat → Sp) : ta (tb_X12_findTurns C) 12 = tr_icge 15 125 := rfl
theorem a_X12_findTurns_15 (C : Nat → Sp) : ta (tb_X12_findTurns C) 15 = tr_aload 16 0 := rfl
theorem a_X12_findTurns_16 (C : Nat → Sp) : ta (tb_X12_findTurns C) 16 = tr_getR 19 13 1213 := rfl
theorem a_X12_findTurns_19 (C : Nat → Sp) : ta (tb_X12_findTurns C) 19 = tr_iload 20 3 := rfl
theorem a_X12_findTurns_20 (C : Nat → Sp) : ta (tb_X12_findTurns C) 20 = tr_bald 21 := rfl
theorem a_X12_findTurns_21 (C : Nat → Sp) : ta (tb_X12_findTurns C) 21 = tr_ifeq 24 119 := rfl
theorem a_X12_findTurns_24 (C : Nat → Sp) : ta (tb_X12_findTurns C) 24 = tr_aload 25 0 := rfl
theorem a_X12_findTurns_25 (C : Nat → Sp) : ta (tb_X12_findTurns C) 25 = tr_getR 28 13 1207 := rfl
theorem a_X12_findTurns_28 (C : Nat → Sp) : ta (tb_X12_findTurns C) 28 = tr_iload 29 3 := rfl
theorem a_X12_findTurns_29 (C : Nat → Sp) : ta (tb_X12_findTurns C) 29 = tr_iald 30 := rfl
theorem a_X12_findTurns_30 (C : Nat → Sp) : ta (tb_X12_findTurns C) 30 = tr_iload 31 2 := rfl
theorem a_X12_findTurns_31 (C : Nat → Sp) : ta (tb_X12_findTurns C) 31 = tr_icne 34 119 := rfl
theorem a_X12_findTurns_34 (C : Nat → Sp) : ta (tb_X12_findTurns C) 34 = tr_aload 35 0 := rfl
theorem a_X12_findTurns_35 (C : Nat → Sp) : ta (tb_X12_findTurns C) 35 = tr_iload 36 1 := rfl
theorem a_X12_findTurns_36 (C : Nat → Sp) : ta (tb_X12_findTurns C) 36 = tr_aload 37 0 := rfl
theorem a_X12_findTurns_37 (C : Nat → Sp) : ta (tb_X12_findTurns C) 37 = tr_getR 40 13 1206 := rfl
theorem a_X12_findTurns_40 (C : Nat → Sp) : ta (tb_X12_findTurns C) 40 = tr_iload 41 3 := rfl
theorem a_X12_findTurns_41 (C : Nat → Sp) : ta (tb_X12_findTurns C) 41 = tr_iald 42 := rfl
theorem a_X12_findTurns_42 (C : Nat → Sp) : ta (tb_X12_findTurns C) 42 = tr_callV (C 113) 45 13 2 := rfl
theorem a_X12_findTurns_45 (C : Nat → Sp) : ta (tb_X12_findTurns C) 45 = tr_ic 47 (-4) := rfl
theorem a_X12_findTurns_47 (C : Nat → Sp) : ta (tb_X12_findTurns C) 47 = tr_iceq 50 119 := rfl
theorem a_X12_findTurns_50 (C : Nat → Sp) : ta (tb_X12_findTurns C) 50 = tr_aload 51 0 := rfl
theorem a_X12_findTurns_51 (C : Nat → Sp) : ta (tb_X12_findTurns C) 51 = tr_getI 54 13 1224 := rfl
theorem a_X12_findTurns_54 (C : Nat → Sp) : ta (tb_X12_findTurns C) 54 = tr_istore 56 4 := rfl
theorem a_X12_findTurns_56 (C : Nat → Sp) : ta (tb_X12_findTurns C) 56 = tr_iload 58 4 := rfl
theorem a_X12_findTurns_58 (C : Nat → Sp) : ta (tb_X12_findTurns C) 58 = tr_ifle 61 101 := rfl
theorem a_X12_findTurns_61 (C : Nat → Sp) : ta (tb_X12_findTurns C) 61 = tr_aload 62 0 := rfl
theorem a_X12_findTurns_62 (C : Nat → Sp) : ta (tb_X12_findTurns C) 62 = tr_iload 63 1 := rfl
theorem a_X12_findTurns_63 (C : Nat → Sp) : ta (tb_X12_findTurns C) 63 = tr_iload 64 3 := rfl
theorem a_X12_findTurns_64 (C : Nat → Sp) : ta (tb_X12_findTurns C) 64 = tr_aload 65 0 := rfl
theorem a_X12_findTurns_65 (C : Nat → Sp) : ta (tb_X12_findTurns C) 65 = tr_getR 68 13 1223 := rfl
theorem a_X12_findTurns_68 (C : Nat → Sp) : ta (tb_X12_findTurns C) 68 = tr_iload 70 4 := rfl
theorem a_X12_findTurns_70 (C : Nat → Sp) : ta (tb_X12_findTurns C) 70 = tr_ic 71 1 := rfl
theorem a_X12_findTurns_71 (C : Nat → Sp) : ta (tb_X12_findTurns C) 71 = tr_isub 72 := rfl
theorem a_X12_findTurns_72 (C : Nat → Sp) : ta (tb_X12_findTurns C) 72 = tr_iald 73 := rfl
theorem a_X12_findTurns_73 (C : Nat → Sp) : ta (tb_X12_findTurns C) 73 = tr_callV (C 114) 76 13 3 := rfl
theorem a_X12_findTurns_76 (C : Nat → Sp) : ta (tb_X12_findTurns C) 76 = tr_ifeq 79 101 := rfl
theorem a_X12_findTurns_79 (C : Nat → Sp) : ta (tb_X12_findTurns C) 79 = tr_aload 80 0 := rfl
theorem a_X12_findTurns_80 (C : Nat → Sp) : ta (tb_X12_findTurns C) 80 = tr_getR 83 13 1223 := rfl
theorem a_X12_findTurns_83 (C : Nat → Sp) : ta (tb_X12_findTurns C) 83 = tr_iload 85 4 := rfl
theorem a_X12_findTurns_85 (C : Nat → Sp) : ta (tb_X12_findTurns C) 85 = tr_aload 86 0 := rfl
theorem a_X12_findTurns_86 (C : Nat → Sp) : ta (tb_X12_findTurns C) 86 = tr_getR 89 13 1223 := rfl
theorem a_X12_findTurns_89 (C : Nat → Sp) : ta (tb_X12_findTurns C) 89 = tr_iload 91 4 := rfl
theorem a_X12_findTurns_91 (C : Nat → Sp) : ta (tb_X12_findTurns C) 91 = tr_ic 92 1 := rfl
theorem a_X12_findTurns_92 (C : Nat → Sp) : ta (tb_X12_findTurns C) 92 = tr_isub 93 := rfl
theorem a_X12_findTurns_93 (C : Nat → Sp) : ta (tb_X12_findTurns C) 93 = tr_iald 94 := rfl
theorem a_X12_findTurns_94 (C : Nat → Sp) : ta (tb_X12_findTurns C) 94 = tr_iast 95 := rfl
theorem a_X12_findTurns_95 (C : Nat → Sp) : ta (tb_X12_findTurns C) 95 = tr_iinc 98 4 (-1) := rfl
theorem a_X12_findTurns_98 (C : Nat → Sp) : ta (tb_X12_findTurns C) 98 = tr_goto 56 := rfl
theorem a_X12_findTurns_101 (C : Nat → Sp) : ta (tb_X12_findTurns C) 101 = tr_aload 102 0 := rfl
theorem a_X12_findTurns_102 (C : Nat → Sp) : ta (tb_X12_findTurns C) 102 = tr_getR 105 13 1223 := rfl
theorem a_X12_findTurns_105 (C : Nat → Sp) : ta (tb_X12_findTurns C) 105 = tr_iload 107 4 := rfl
set_option maxRecDepth 20000 in
theorem a_X12_findTurns_107 (C : Nat → Sp) : ta (tb_X12_findTurns C) 107 = tr_iload 108 3 := rfl
set_option maxRecDepth 20000 in
theorem a_X12_findTurns_108 (C : Nat → Sp) : ta (tb_X12_findTurns C) 108 = tr_iast 109 := rfl
set_option maxRecDepth 20000 in
theorem a_X12_findTurns_109 (C : Nat → Sp) : ta (tb_X12_findTurns C) 109 = tr_aload 110 0 := rfl
set_option maxRecDepth 20000 in
theorem a_X12_findTurns_110 (C : Nat → Sp) : ta (tb_X12_findTurns C) 110 = tr_dup 111 := rfl
set_option maxRecDepth 20000 in
theorem a_X12_findTurns_111 (C : Nat → Sp) : ta (tb_X12_findTurns C) 111 = tr_getI 114 13 1224 := rfl
set_option maxRecDepth 20000 in
theorem a_X12_findTurns_114 (C : Nat → Sp) : ta (tb_X12_findTurns C) 114 = tr_ic 115 1 := rfl
set_option maxRecDepth 20000 in
theorem a_X12_findTurns_115 (C : Nat → Sp) : ta (tb_X12_findTurns C) 115 = tr_iadd 116 := rfl
set_option maxRecDepth 20000 in
theorem a_X12_findTurns_116 (C : Nat → Sp) : ta (tb_X12_findTurns C) 116 = tr_putI 119 13 1224 := rfl
set_option maxRecDepth 20000 in
theorem a_X12_findTurns_119 (C : Nat → Sp) : ta (tb_X12_findTurns C) 119 = tr_iinc 122 3 1 := rfl
set_option maxRecDepth 20000 in
theorem a_X12_findTurns_122 (C : Nat → Sp) : ta (tb_X12_findTurns C) 122 = tr_goto 7 := rfl
set_option maxRecDepth 20000 in
theorem a_X12_findTurns_125 (C : Nat → Sp) : ta (tb_X12_findTurns C) 125 = tr_ret := rfl

def tb_X12_beginPhase_0 (C : Nat → Sp) : Tab := [(0, tr_aload 1 0), (1, tr_getI 4 13 1225), (4, tr_ic 5 1), (5, tr_isub 6), (6, tr_istore 7 2), (7, tr_aload 8 0), (8, tr_getR 11 13 1228), (11, tr_iload 12 2), (12, tr_iload 13 1), (13, tr_iast 14), (14, tr_aload 15 0), (15, tr_getR 18 13 1230), (18, tr_iload 19 2), (19, tr_ic 20 0), (20, tr_iast 21), (21, tr_aload 22 0), (22, tr_aload 23 0), (23, tr_getR 26 13 1226), (26, tr_iload 27 2), (27, tr_iald 28), (28, tr_iload 29 1), (29, tr_callV (C 115) 32 13 2), (32, tr_aload 33 0), (33, tr_getR 36 13 1229), (36, tr_iload 37 2), (37, tr_aload 38 0), (38, tr_getI 41 13 1224), (41, tr_iast 42), (42, tr_ic 43 0), (43, tr_istore 44 3), (44, tr_iload 45 3), (45, tr_aload 46 0), (46, tr_getI 49 13 1224), (49, tr_icge 52 76), (52, tr_aload 53 0), (53, tr_getR 56 13 1222), (56, tr_ic 59 200), (59, tr_iload 60 2), (60, tr_imul 61), (61, tr_iload 62 3)]
set_option maxRecDepth 20000 in
theorem tbk_X12_beginPhase_0 {D : DD} {d : Nat} {C : Nat → Sp} (hC : Snd D d C) : ∀ e ∈ tb_X12_beginPhase_0 C, TrOk D (d + 1) mi_X12_beginPhase e.1 e.2 :=
  tk_c (show TrOk D (d + 1) mi_X12_beginPhase 0 (tr_aload 1 0) from ok_aload_n (show decode mi_X12_beginPhase.2.1 0 = .ok (.aload_n 0, 1) from by decide +kernel) rfl) <|
  tk_c (show TrOk D (d + 1) mi_X12_beginPhase 1 (tr_getI 4 13 1225) from ok_getI (ci := 12) (k := 25) (show decode mi_X12_beginPhase.2.1 1 = .ok (.getfield 186, 3) from by decide +kernel) rfl (by decide) (gm 806 (by decide +kernel) rfl) rfl) <|
  tk_c (show TrOk D (d + 1) mi_X12_beginPhase 4 (tr_ic 5 1) from ok_iconst (show decode mi_X12_beginPhase.2.1 4 = .ok (.iconst 1, 1) from by decide +kernel) rfl) <|
  tk_c (show TrOk D (d + 1) mi_X12_beginPhase 5 (tr_isub 6) from ok_isub (show decode mi_X12_beginPhase.2.1 5 = .ok (.isub, 1) from by decide +kernel)) <|
  tk_c (show TrOk D (d + 1) mi_X12_beginPhase 6 (tr_istore 7 2) from ok_istore_n (show decode mi_X12_beginPhase.2.1 6 = .ok (.istore_n 2, 1) from by decide +kernel) rfl (by decide)) <|
  tk_c (show TrOk D (d + 1) mi_X12_beginPhase 7 (tr_aload 8 0) from ok_aload_n (show decode mi_X12_beginPhase.2.1 7 = .ok (.aload_n 0, 1) from by decide +kernel) rfl) <|
  tk_c (show TrOk D (d + 1) mi_X12_beginPhase 8 (tr_getR 11 13 1228) from ok_getR (ci := 12) (k := 28) (show decode mi_X12_beginPhase.2.1 8 = .ok (.getfield 81, 3) from by decide +kernel) rfl (by decide) (gm 809 (by decide +kernel) rfl) rfl) <|
  tk_c (show TrOk D (d + 1) mi_X12_beginPhase 11 (tr_iload 12 2) from ok_iload_n (show decode mi_X12_beginPhase.2.1 11 = .ok (.iload_n 2, 1) from by decide +kernel) rfl) <|
  tk_c (show TrOk D (d + 1) mi_X12_beginPhase 12 (tr_iload 13 1) from ok_iload_n (show decode mi_X12_beginPhase.2.1 12 = .ok (.iload_n 1, 1) from by decide +kernel) rfl) <|
  tk_c (show TrOk D (d + 1) mi_X12_beginPhase 13 (tr_iast 14) from ok_iast (show decode mi_X12_beginPhase.2.1 13 = .ok (.iastore, 1) from by decide +kernel)) <|
  tk_c (show TrOk D (d + 1) mi_X12_beginPhase 14 (tr_aload 15 0) from ok_aload_n (show decode mi_X12_beginPhase.2.1 14 = .ok (.aload_n 0, 1) from by decide +kernel) rfl) <|
  tk_c (show TrOk D (d + 1) mi_X12_beginPhase 15 (tr_getR 18 13 1230) from ok_getR (ci := 12) (k := 30) (show decode mi_X12_beginPhase.2.1 15 = .ok (.getfield 87, 3) from by decide +kernel) rfl (by decide) (gm 811 (by decide +kernel) rfl) rfl) <|
  tk_c (show TrOk D (d + 1) mi_X12_beginPhase 18 (tr_iload 19 2) from ok_iload_n (show decode mi_X12_beginPhase.2.1 18 = .ok (.iload_n 2, 1) from by decide +kernel) rfl) <|
  tk_c (show TrOk D (d + 1) mi_X12_beginPhase 19 (tr_ic 20 0) from ok_iconst (show decode mi_X12_beginPhase.2.1 19 = .ok (.iconst 0, 1) from by decide +kernel) rfl) <|
  tk_c (show TrOk D (d + 1) mi_X12_beginPhase 20 (tr_iast 21) from ok_iast (show decode mi_X12_beginPhase.2.1 20 = .ok (.iastore, 1) from by decide +kernel)) <|
  tk_c (show TrOk D (d + 1) mi_X12_beginPhase 21 (tr_aload 22 0) from ok_aload_n (show decode mi_X12_beginPhase.2.1 21 = .ok (.aload_n 0, 1) from by decide +kernel) rfl) <|
  tk_c (show TrOk D (d + 1) mi_X12_beginPhase 22 (tr_aload 23 0) from ok_aload_n (show decode mi_X12_beginPhase.2.1 22 = .ok (.aload_n 0, 1) from by decide +kernel) rfl) <|
  tk_c (show TrOk D (d + 1) mi_X12_beginPhase 23 (tr_getR 26 13 1226) from ok_getR (ci := 12) (k := 26) (show decode mi_X12_beginPhase.2.1 23 = .ok (.getfield 75, 3) from by decide +kernel) rfl (by decide) (gm 807 (by decide +kernel) rfl) rfl) <|
  tk_c (show TrOk D (d + 1) mi_X12_beginPhase 26 (tr_iload 27 2) from ok_iload_n (show decode mi_X12_beginPhase.2.1 26 = .ok (.iload_n 2, 1) from by decide +kernel) rfl) <|
  tk_c (show TrOk D (d + 1) mi_X12_beginPhase 27 (tr_iald 28) from ok_iald (show decode mi_X12_beginPhase.2.1 27 = .ok (.iaload, 1) from by decide +kernel)) <|
  tk_c (show TrOk D (d + 1) mi_X12_beginPhase 28 (tr_iload 29 1) from ok_iload_n (show decode mi_X12_beginPhase.2.1 28 = .ok (.iload_n 1, 1) from by decide +kernel) rfl) <|
  tk_c (show TrOk D (d + 1) mi_X12_beginPhase 29 (tr_callV (C 115) 32 13 2) from ok_callV (ci := 12) (show decode mi_X12_beginPhase.2.1 29 = .ok (.invokevirtual 189, 3) from by decide +kernel) mok_X12_findTurns rfl rfl (gm 1033 (by decide +kernel) rfl) (gm 1035 (by decide +kernel) rfl) (gm 18 (by decide +kernel) rfl) (hC 115)) <|
  tk_c (show TrOk D (d + 1) mi_X12_beginPhase 32 (tr_aload 33 0) from ok_aload_n (show decode mi_X12_beginPhase.2.1 32 = .ok (.aload_n 0, 1) from by decide +kernel) rfl) <|
  tk_c (show TrOk D (d + 1) mi_X12_beginPhase 33 (tr_getR 36 13 1229) from ok_getR (ci := 12) (k := 29) (show decode mi_X12_beginPhase.2.1 33 = .ok (.getfield 84, 3) from by decide +kernel) rfl (by decide) (gm 810 (by decide +kernel) rfl) rfl) <|
  tk_c (show TrOk D (d + 1) mi_X12_beginPhase 36 (tr_iload 37 2) from ok_iload_n (show decode mi_X12_beginPhase.2.1 36 = .ok (.iload_n 2, 1) from by decide +kernel) rfl) <|
  tk_c (show TrOk D (d + 1) mi_X12_beginPhase 37 (tr_aload 38 0) from ok_aload_n (show decode mi_X12_beginPhase.2.1 37 = .ok (.aload_n 0, 1) from by decide +kernel) rfl) <|
  tk_c (show TrOk D (d + 1) mi_X12_beginPhase 38 (tr_getI 41 13 1224) from ok_getI (ci := 12) (k := 24) (show decode mi_X12_beginPhase.2.1 38 = .ok (.getfield 179, 3) from by decide +kernel) rfl (by decide) (gm 805 (by decide +kernel) rfl) rfl) <|
  tk_c (show TrOk D (d + 1) mi_X12_beginPhase 41 (tr_iast 42) from ok_iast (show decode mi_X12_beginPhase.2.1 41 = .ok (.iastore, 1) from by decide +kernel)) <|
  tk_c (show TrOk D (d + 1) mi_X12_beginPhase 42 (tr_ic 43 0) from ok_iconst (show decode mi_X12_beginPhase.2.1 42 = .ok (.iconst 0, 1) from by decide +kernel) rfl) <|
  tk_c (show TrOk D (d + 1) mi_X12_beginPhase 43 (tr_istore 44 3) from ok_istore_n (show decode mi_X12_beginPhase.2.1 43 = .ok (.istore_n 3, 1) from by decide +kernel) rfl (by decide)) <|
  tk_c (show TrOk D (d + 1) mi_X12_beginPhase 44 (tr_iload 45 3) from ok_iload_n (show decode mi_X12_beginPhase.2.1 44 = .ok (.iload_n 3, 1) from by decide +kernel) rfl) <|
  tk_c (show TrOk D (d + 1) mi_X12_beginPhase 45 (tr_aload 46 0) from ok_aload_n (show decode mi_X12_beginPhase.2.1 45 = .ok (.aload_n 0, 1) from by decide +kernel) rfl) <|
  tk_c (show TrOk D (d + 1) mi_X12_beginPhase 46 (tr_getI 49 13 1224) from ok_getI (ci := 12) (k := 24) (show decode mi_X12_beginPhase.2.1 46 = .ok (.getfield 179, 3) from by decide +kernel) rfl (by decide) (gm 805 (by decide +kernel) rfl) rfl) <|
  tk_c (show TrOk D (d + 1) mi_X12_beginPhase 49 (tr_icge 52 76) from ok_icge (show decode mi_X12_beginPhase.2.1 49 = .ok (.if_icmp .ge 27, 3) from by decide +kernel) (by decide)) <|
  tk_c (show TrOk D (d + 1) mi_X12_beginPhase 52 (tr_aload 53 0) from ok_aload_n (show decode mi_X12_beginPhase.2.1 52 = .ok (.aload_n 0, 1) from by decide +kernel) rfl) <|
  tk_c (show TrOk D (d + 1) mi_X12_beginPhase 53 (tr_getR 56 13 1222) from ok_getR (ci := 12) (k := 22) (show decode mi_X12_beginPhase.2.1 53 = .ok (.getfield 69, 3) from by decide +kernel) rfl (by decide) (gm 803 (by decide +kernel) rfl) rfl) <|
  tk_c (show TrOk D (d + 1) mi_X12_beginPhase 56 (tr_ic 59 200) from ok_sipush (show decode mi_X12_beginPhase.2.1 56 = .ok (.sipush 200, 3) from by decide +kernel) rfl) <|
  tk_c (show TrOk D (d + 1) mi_X12_beginPhase 59 (tr_iload 60 2) from ok_iload_n (show decode mi_X12_beginPhase.2.1 59 = .ok (.iload_n 2, 1) from by decide +kernel) rfl) <|
  tk_c (show TrOk D (d + 1) mi_X12_beginPhase 60 (tr_imul 61) from ok_imul (show decode mi_X12_beginPhase.2.1 60 = .ok (.imul, 1) from by decide +kernel)) <|
  tk_c (show TrOk D (d + 1) mi_X12_beginPhase 61 (tr_iload 62 3) from ok_iload_n (show decode mi_X12_beginPhase.2.1 61 = .ok (.iload_n 3, 1) from by decide +kernel) rfl) <|
  tk_n
def tb_X12_beginPhase_1 (C : Nat → Sp) : Tab := [(62, tr_iadd 63), (63, tr_aload 64 0), (64, tr_getR 67 13 1223), (67, tr_iload 68 3), (68, tr_iald 69), (69, tr_iast 70), (70, tr_iinc 73 3 1), (73, tr_goto 44), (76, tr_ret)]
set_option maxRecDepth 20000 in
theorem tbk_X12_beginPhase_1 {D : DD} {d : Nat} {C : Nat → Sp} (hC : Snd D d C) : ∀ e ∈ tb_X12_beginPhase_1 C, TrOk D (d + 1) mi_X12_beginPhase e.1 e.2 :=
  tk_c (show TrOk D (d + 1) mi_X12_beginPhase 62 (tr_iadd 63) from ok_iadd (show decode mi_X12_beginPhase.2.1 62 = .ok (.iadd, 1) from by decide +kernel)) <|
  tk_c (show TrOk D (d + 1) mi_X12_beginPhase 63 (tr_aload 64 0) from ok_aload_n (show decode mi_X12_beginPhase.2.1 63 = .ok (.aload_n 0, 1) from by decide +kernel) rfl) <|
  tk_c (show TrOk D (d + 1) mi_X12_beginPhase 64 (tr_getR 67 13 1223) from ok_getR (ci := 12) (k := 23) (show decode mi_X12_beginPhase.2.1 64 = .ok (.getfield 72, 3) from by decide +kernel) rfl (by decide) (gm 804 (by decide +kernel) rfl) rfl) <|
  tk_c (show TrOk D (d + 1) mi_X12_beginPhase 67 (tr_iload 68 3) from ok_iload_n (show decode mi_X12_beginPhase.2.1 67 = .ok (.iload_n 3, 1) from by decide +kernel) rfl) <|
  tk_c (show TrOk D (d + 1) mi_X12_beginPhase 68 (tr_iald 69) from ok_iald (show decode mi_X12_beginPhase.2.1 68 = .ok (.iaload, 1) from by decide +kernel)) <|
  tk_c (show TrOk D (d + 1) mi_X12_beginPhase 69 (tr_iast 70) from ok_iast (show decode mi_X12_beginPhase.2.1 69 = .ok (.iastore, 1) from by decide +kernel)) <|
  tk_c (show TrOk D (d + 1) mi_X12_beginPhase 70 (tr_iinc 73 3 1) from ok_iinc (show decode mi_X12_beginPhase.2.1 70 = .ok (.iinc 3 1, 3) from by decide +kernel) rfl (by decide)) <|
  tk_c (show TrOk D (d + 1) mi_X12_beginPhase 73 (tr_goto 44) from ok_goto (show decode mi_X12_beginPhase.2.1 73 = .ok (.goto (-29), 3) from by decide +kernel) (by decide)) <|
  tk_c (show TrOk D (d + 1) mi_X12_beginPhase 76 (tr_ret) from ok_ret (show decode mi_X12_beginPhase.2.1 76 = .ok (.return_, 1) from by decide +kernel) rfl) <|
  tk_n
def tb_X12_beginPhase (C : Nat → Sp) : Tab := tb_X12_beginPhase_0 C ++ (tb_X12_beginPhase_1 C)
theorem tbk_X12_beginPhase {D : DD} {d : Nat} {C : Nat → Sp} (hC : Snd D d C) : ∀ e ∈ tb_X12_beginPhase C, TrOk D (d + 1) mi_X12_beginPhase e.1 e.2 := tk_a (tbk_X12_beginPhase_0 hC) (tbk_X12_beginPhase_1 hC)
theorem a_X12_beginPhase_0 (C : Nat → Sp) : ta (tb_X12_beginPhase C) 0 = tr_aload 1 0 := rfl
theorem a_X12_beginPhase_1 (C : Nat → Sp) : ta (tb_X12_beginPhase C) 1 = tr_getI 4 13 1225 := rfl
theorem a_X12_beginPhase_4 (C : Nat → Sp) : ta (tb_X12_beginPhase C) 4 = tr_ic 5 1 := rfl
theorem a_X12_beginPhase_5 (C : Nat → Sp) : ta (tb_X12_beginPhase C) 5 = tr_isub 6 := rfl
theorem a_X12_beginPhase_6 (C : Nat → Sp) : ta (tb_X12_beginPhase C) 6 = tr_istore 7 2 := rfl
theorem a_X12_beginPhase_7 (C : Nat → Sp) : ta (tb_X12_beginPhase C) 7 = tr_aload 8 0 := rfl
theorem a_X12_beginPhase_8 (C : Nat → Sp) : ta (tb_X12_beginPhase C) 8 = tr_getR 11 13 1228 := rfl
theorem a_X12_beginPhase_11 (C : Nat → Sp) : ta (tb_X12_beginPhase C) 11 = tr_iload 12 2 := rfl
theorem a_X12_beginPhase_12 (C : Nat → Sp) : ta (tb_X12_beginPhase C) 12 = tr_iload 13 1 := rfl
theorem a_X12_beginPhase_13 (C : Nat → Sp) : ta (tb_X12_beginPhase C) 13 = tr_iast 14 := rfl
theorem a_X12_beginPhase_14 (C : Nat → Sp) : ta (tb_X12_beginPhase C) 14 = tr_aload 15 0 := rfl
theorem a_X12_beginPhase_15 (C : Nat → Sp) : ta (tb_X12_beginPhase C) 15 = tr_getR 18 13 1230 := rfl
theorem a_X12_beginPhase_18 (C : Nat → Sp) : ta (tb_X12_beginPhase C) 18 = tr_iload 19 2 := rfl
theorem a_X12_beginPhase_19 (C : Nat → Sp) : ta (tb_X12_beginPhase C) 19 = tr_ic 20 0 := rfl
theorem a_X12_beginPhase_20 (C : Nat → Sp) : ta (tb_X12_beginPhase C) 20 = tr_iast 21 := rfl
theorem a_X12_beginPhase_21 (C : Nat → Sp) : ta (tb_X12_beginPhase C) 21 = tr_aload 22 0 := rfl
theorem a_X12_beginPhase_22 (C : Nat → Sp) : ta (tb_X12_beginPhase C) 22 = tr_aload 23 0 := rfl
theorem a_X12_beginPhase_23 (C : Nat → Sp) : ta (tb_X12_beginPhase C) 23 = tr_getR 26 13 1226 := rfl
theorem a_X12_beginPhase_26 (C : Nat → Sp) : ta (tb_X12_beginPhase C) 26 = tr_iload 27 2 := rfl
theorem a_X12_beginPhase_27 (C : Nat → Sp) : ta (tb_X12_beginPhase C) 27 = tr_iald 28 := rfl
theorem a_X12_beginPhase_28 (C : Nat → Sp) : ta (tb_X12_beginPhase C) 28 = tr_iload 29 1 := rfl
theorem a_X12_beginPhase_29 (C : Nat → Sp) : ta (tb_X12_beginPhase C) 29 = tr_callV (C 115) 32 13 2 := rfl
theorem a_X12_beginPhase_32 (C : Nat → Sp) : ta (tb_X12_beginPhase C) 32 = tr_aload 33 0 := rfl
theorem a_X12_beginPhase_33 (C : Nat → Sp) : ta (tb_X12_beginPhase C) 33 = tr_getR 36 13 1229 := rfl
theorem a_X12_beginPhase_36 (C : Nat → Sp) : ta (tb_X12_beginPhase C) 36 = tr_iload 37 2 := rfl
theorem a_X12_beginPhase_37 (C : Nat → Sp) : ta (tb_X12_beginPhase C) 37 = tr_aload 38 0 := rfl
theorem a_X12_beginPhase_38 (C : Nat → Sp) : ta (tb_X12_beginPhase C) 38 = tr_getI 41 13 1224 := rfl
theorem a_X12_beginPhase_41 (C : Nat → Sp) : ta (tb_X12_beginPhase C) 41 = tr_iast 42 := rfl
theorem a_X12_beginPhase_42 (C : Nat → Sp) : ta (tb_X12_beginPhase C) 42 = tr_ic 43 0 := rfl
theorem a_X12_beginPhase_43 (C : Nat → Sp) : ta (tb_X12_beginPhase C) 43 = tr_istore 44 3 := rfl
theorem a_X12_beginPhase_44 (C : Nat → Sp) : ta (tb_X12_beginPhase C) 44 = tr_iload 45 3 := rfl
theorem a_X12_beginPhase_45 (C : Nat → Sp) : ta (tb_X12_beginPhase C) 45 = tr_aload 46 0 := rfl
theorem a_X12_beginPhase_46 (C : Nat → Sp) : ta (tb_X12_beginPhase C) 46 = tr_getI 49 13 1224 := rfl
theorem a_X12_beginPhase_49 (C : Nat → Sp) : ta (tb_X12_beginPhase C) 49 = tr_icge 52 76 := rfl
theorem a_X12_beginPhase_52 (C : Nat → Sp) : ta (tb_X12_beginPhase C) 52 = tr_aload 53 0 := rfl
theorem a_X12_beginPhase_53 (C : Nat → Sp) : ta (tb_X12_beginPhase C) 53 = tr_getR 56 13 1222 := rfl
theorem a_X12_beginPhase_56 (C : Nat → Sp) : ta (tb_X12_beginPhase C) 56 = tr_ic 59 200 := rfl
theorem a_X12_beginPhase_59 (C : Nat → Sp) : ta (tb_X12_beginPhase C) 59 = tr_iload 60 2 := rfl
theorem a_X12_beginPhase_60 (C : Nat → Sp) : ta (tb_X12_beginPhase C) 60 = tr_imul 61 := rfl
theorem a_X12_beginPhase_61 (C : Nat → Sp) : ta (tb_X12_beginPhase C) 61 = tr_iload 62 3 := rfl
theorem a_X12_beginPhase_62 (C : Nat → Sp) : ta (tb_X12_beginPhase C) 62 = tr_iadd 63 := rfl
theorem a_X12_beginPhase_63 (C : Nat → Sp) : ta (tb_X12_beginPhase C) 63 = tr_aload 64 0 := rfl
theorem a_X12_beginPhase_64 (C : Nat → Sp) : ta (tb_X12_beginPhase C) 64 = tr_getR 67 13 1223 := rfl
theorem a_X12_beginPhase_67 (C : Nat → Sp) : ta (tb_X12_beginPhase C) 67 = tr_iload 68 3 := rfl
theorem a_X12_beginPhase_68 (C : Nat → Sp) : ta (tb_X12_beginPhase C) 68 = tr_iald 69 := rfl
theorem a_X12_beginPhase_69 (C : Nat → Sp) : ta (tb_X12_beginPhase C) 69 = tr_iast 70 := rfl
theorem a_X12_beginPhase_70 (C : Nat → Sp) : ta (tb_X12_beginPhase C) 70 = tr_iinc 73 3 1 := rfl
theorem a_X12_beginPhase_73 (C : Nat → Sp) : ta (tb_X12_beginPhase C) 73 = tr_goto 44 := rfl
theorem a_X12_beginPhase_76 (C : Nat → Sp) : ta (tb_X12_beginPhase C) 76 = tr_ret := rfl

def tb_X12_begin_0 (C : Nat → Sp) : Tab := [(0, tr_aload 1 0), (1, tr_getI 4 13 1225), (4, tr_istore 6 4), (6, tr_aload 7 0), (7, tr_dup 8), (8, tr_getI 11 13 1225), (11, tr_ic 12 1), (12, tr_iadd 13), (13, tr_putI 16 13 1225), (16, tr_aload 17 0), (17, tr_aload 18 0), (18, tr_getI 21 13 1225), (21, tr_aload 22 0), (22, tr_getI 25 13 1245), (25, tr_icle 28 35), (28, tr_aload 29 0), (29, tr_getI 32 13 1225), (32, tr_goto 39), (35, tr_aload 36 0), (36, tr_getI 39 13 1245), (39, tr_putI 42 13 1245), (42, tr_aload 43 0), (43, tr_dup 44), (44, tr_getI 47 13 1240), (47, tr_ic 48 1), (48, tr_iadd 49), (49, tr_putI 52 13 1240), (52, tr_aload 53 0), (53, tr_getR 56 13 1226), (56, tr_iload 58 4), (58, tr_iload 59 1), (59, tr_iast 60), (60, tr_aload 61 0), (61, tr_getR 64 13 1227), (64, tr_iload 66 4), (66, tr_lload 67 2), (67, tr_last 68), (68, tr_aload 69 0), (69, tr_getR 72 13 1231), (72, tr_iload 74 4)]
set_option maxRecDepth 20000 in
theorem tbk_X12_begin_0 {D : DD} {d : Nat} {C : Nat → Sp} (hC : Snd D d C) : ∀ e ∈ tb_X12_begin_0 C, TrOk D (d + 1) mi_X12_begin e.1 e.2 :=
  tk_c (show TrOk D (d + 1) mi_X12_begin 0 (tr_aload 1 0) from ok_aload_n (show decode mi_X12_begin.2.1 0 = .ok (.aload_n 0, 1) from by decide +kernel) rfl) <|
  tk_c (show TrOk D (d + 1) mi_X12_begin 1 (tr_getI 4 13 1225) from ok_getI (ci := 12) (k := 25) (show decode mi_X12_begin.2.1 1 = .ok (.getfield 186, 3) from by decide +kernel) rfl (by decide) (gm 806 (by decide +kernel) rfl) rfl) <|
  tk_c (show TrOk D (d + 1) mi_X12_begin 4 (tr_istore 6 4) from ok_istore (show decode mi_X12_begin.2.1 4 = .ok (.istore 4, 2) from by decide +kernel) (by decide)) <|
  tk_c (show TrOk D (d + 1) mi_X12_begin 6 (tr_aload 7 0) from ok_aload_n (show decode mi_X12_begin.2.1 6 = .ok (.aload_n 0, 1) from by decide +kernel) rfl) <|
  tk_c (show TrOk D (d + 1) mi_X12_begin 7 (tr_dup 8) from ok_dup (show decode mi_X12_begin.2.1 7 = .ok (.dup, 1) from by decide +kernel)) <|
  tk_c (show TrOk D (d + 1) mi_X12_begin 8 (tr_getI 11 13 1225) from ok_getI (ci := 12) (k := 25) (show decode mi_X12_begin.2.1 8 = .ok (.getfield 186, 3) from by decide +kernel) rfl (by decide) (gm 806 (by decide +kernel) rfl) rfl) <|
  tk_c (show TrOk D (d + 1) mi_X12_begin 11 (tr_ic 12 1) from ok_iconst (show decode mi_X12_begin.2.1 11 = .ok (.iconst 1, 1) from by decide +kernel) rfl) <|
  tk_c (show TrOk D (d + 1) mi_X12_begin 12 (tr_iadd 13) from ok_iadd (show decode mi_X12_begin.2.1 12 = .ok (.iadd, 1) from by decide +kernel)) <|
  tk_c (show TrOk D (d + 1) mi_X12_begin 13 (tr_putI 16 13 1225) from ok_putI (ci := 12) (k := 25) (show decode mi_X12_begin.2.1 13 = .ok (.putfield 186, 3) from by decide +kernel) rfl (by decide) (gm 806 (by decide +kernel) rfl) rfl (Or.inl rfl)) <|
  tk_c (show TrOk D (d + 1) mi_X12_begin 16 (tr_aload 17 0) from ok_aload_n (show decode mi_X12_begin.2.1 16 = .ok (.aload_n 0, 1) from by decide +kernel) rfl) <|
  tk_c (show TrOk D (d + 1) mi_X12_begin 17 (tr_aload 18 0) from ok_aload_n (show decode mi_X12_begin.2.1 17 = .ok (.aload_n 0, 1) from by decide +kernel) rfl) <|
  tk_c (show TrOk D (d + 1) mi_X12_begin 18 (tr_getI 21 13 1225) from ok_getI (ci := 12) (k := 25) (show decode mi_X12_begin.2.1 18 = .ok (.getfield 186, 3) from by decide +kernel) rfl (by decide) (gm 806 (by decide +kernel) rfl) rfl) <|
  tk_c (show TrOk D (d + 1) mi_X12_begin 21 (tr_aload 22 0) from ok_aload_n (show decode mi_X12_begin.2.1 21 = .ok (.aload_n 0, 1) from by decide +kernel) rfl) <|
  tk_c (show TrOk D (d + 1) mi_X12_begin 22 (tr_getI 25 13 1245) from ok_getI (ci := 12) (k := 45) (show decode mi_X12_begin.2.1 22 = .ok (.getfield 193, 3) from by decide +kernel) rfl (by decide) (gm 826 (by decide +kernel) rfl) rfl) <|
  tk_c (show TrOk D (d + 1) mi_X12_begin 25 (tr_icle 28 35) from ok_icle (show decode mi_X12_begin.2.1 25 = .ok (.if_icmp .le 10, 3) from by decide +kernel) (by decide)) <|
  tk_c (show TrOk D (d + 1) mi_X12_begin 28 (tr_aload 29 0) from ok_aload_n (show decode mi_X12_begin.2.1 28 = .ok (.aload_n 0, 1) from by decide +kernel) rfl) <|
  tk_c (show TrOk D (d + 1) mi_X12_begin 29 (tr_getI 32 13 1225) from ok_getI (ci := 12) (k := 25) (show decode mi_X12_begin.2.1 29 = .ok (.getfield 186, 3) from by decide +kernel) rfl (by decide) (gm 806 (by decide +kernel) rfl) rfl) <|
  tk_c (show TrOk D (d + 1) mi_X12_begin 32 (tr_goto 39) from ok_goto (show decode mi_X12_begin.2.1 32 = .ok (.goto 7, 3) from by decide +kernel) (by decide)) <|
  tk_c (show TrOk D (d + 1) mi_X12_begin 35 (tr_aload 36 0) from ok_aload_n (show decode mi_X12_begin.2.1 35 = .ok (.aload_n 0, 1) from by decide +kernel) rfl) <|
  tk_c (show TrOk D (d + 1) mi_X12_begin 36 (tr_getI 39 13 1245) from ok_getI (ci := 12) (k := 45) (show decode mi_X12_begin.2.1 36 = .ok (.getfield 193, 3) from by decide +kernel) rfl (by decide) (gm 826 (by decide +kernel) rfl) rfl) <|
  tk_c (show TrOk D (d + 1) mi_X12_begin 39 (tr_putI 42 13 1245) from ok_putI (ci := 12) (k := 45) (show decode mi_X12_begin.2.1 39 = .ok (.putfield 193, 3) from by decide +kernel) rfl (by decide) (gm 826 (by decide +kernel) rfl) rfl (Or.inl rfl)) <|
  tk_c (show TrOk D (d + 1) mi_X12_begin 42 (tr_aload 43 0) from ok_aload_n (show decode mi_X12_begin.2.1 42 = .ok (.aload_n 0, 1) from by decide +kernel) rfl) <|
  tk_c (show TrOk D (d + 1) mi_X12_begin 43 (tr_dup 44) from ok_dup (show decode mi_X12_begin.2.1 43 = .ok (.dup, 1) from by decide +kernel)) <|
  tk_c (show TrOk D (d + 1) mi_X12_begin 44 (tr_getI 47 13 1240) from ok_getI (ci := 12) (k := 40) (show decode mi_X12_begin.2.1 44 = .ok (.getfield 196, 3) from by decide +kernel) rfl (by decide) (gm 821 (by decide +kernel) rfl) rfl) <|
  tk_c (show TrOk D (d + 1) mi_X12_begin 47 (tr_ic 48 1) from ok_iconst (show decode mi_X12_begin.2.1 47 = .ok (.iconst 1, 1) from by decide +kernel) rfl) <|
  tk_c (show TrOk D (d + 1) mi_X12_begin 48 (tr_iadd 49) from ok_iadd (show decode mi_X12_begin.2.1 48 = .ok (.iadd, 1) from by decide +kernel)) <|
  tk_c (show TrOk D (d + 1) mi_X12_begin 49 (tr_putI 52 13 1240) from ok_putI (ci := 12) (k := 40) (show decode mi_X12_begin.2.1 49 = .ok (.putfield 196, 3) from by decide +kernel) rfl (by decide) (gm 821 (by decide +kernel) rfl) rfl (Or.inl rfl)) <|
  tk_c (show TrOk D (d + 1) mi_X12_begin 52 (tr_aload 53 0) from ok_aload_n (show decode mi_X12_begin.2.1 52 = .ok (.aload_n 0, 1) from by decide +kernel) rfl) <|
  tk_c (show TrOk D (d + 1) mi_X12_begin 53 (tr_getR 56 13 1226) from ok_getR (ci := 12) (k := 26) (show decode mi_X12_begin.2.1 53 = .ok (.getfield 75, 3) from by decide +kernel) rfl (by decide) (gm 807 (by decide +kernel) rfl) rfl) <|
  tk_c (show TrOk D (d + 1) mi_X12_begin 56 (tr_iload 58 4) from ok_iload (show decode mi_X12_begin.2.1 56 = .ok (.iload 4, 2) from by decide +kernel)) <|
  tk_c (show TrOk D (d + 1) mi_X12_begin 58 (tr_iload 59 1) from ok_iload_n (show decode mi_X12_begin.2.1 58 = .ok (.iload_n 1, 1) from by decide +kernel) rfl) <|
  tk_c (show TrOk D (d + 1) mi_X12_begin 59 (tr_iast 60) from ok_iast (show decode mi_X12_begin.2.1 59 = .ok (.iastore, 1) from by decide +kernel)) <|
  tk_c (show TrOk D (d + 1) mi_X12_begin 60 (tr_aload 61 0) from ok_aload_n (show decode mi_X12_begin.2.1 60 = .ok (.aload_n 0, 1) from by decide +kernel) rfl) <|
  tk_c (show TrOk D (d + 1) mi_X12_begin 61 (tr_getR 64 13 1227) from ok_getR (ci := 12) (k := 27) (show decode mi_X12_begin.2.1 61 = .ok (.getfield 78, 3) from by decide +kernel) rfl (by decide) (gm 808 (by decide +kernel) rfl) rfl) <|
  tk_c (show TrOk D (d + 1) mi_X12_begin 64 (tr_iload 66 4) from ok_iload (show decode mi_X12_begin.2.1 64 = .ok (.iload 4, 2) from by decide +kernel)) <|
  tk_c (show TrOk D (d + 1) mi_X12_begin 66 (tr_lload 67 2) from ok_lload_n (show decode mi_X12_begin.2.1 66 = .ok (.lload_n 2, 1) from by decide +kernel) rfl) <|
  tk_c (show TrOk D (d + 1) mi_X12_begin 67 (tr_last 68) from ok_last (show decode mi_X12_begin.2.1 67 = .ok (.lastore, 1) from by decide +kernel)) <|
  tk_c (show TrOk D (d + 1) mi_X12_begin 68 (tr_aload 69 0) from ok_aload_n (show decode mi_X12_begin.2.1 68 = .ok (.aload_n 0, 1) from by decide +kernel) rfl) <|
  tk_c (show TrOk D (d + 1) mi_X12_begin 69 (tr_getR 72 13 1231) from ok_getR (ci := 12) (k := 31) (show decode mi_X12_begin.2.1 69 = .ok (.getfield 90, 3) from by decide +kernel) rfl (by decide) (gm 812 (by decide +kernel) rfl) rfl) <|
  tk_c (show TrOk D (d + 1) mi_X12_begin 72 (tr_iload 74 4) from ok_iload (show decode mi_X12_begin.2.1 72 = .ok (.iload 4, 2) from by decide +kernel)) <|
  tk_n
def tb_X12_begin_1 (C : Nat → Sp) : Tab := [(74, tr_ic 75 0), (75, tr_bast 76), (76, tr_aload 77 0), (77, tr_getR 80 13 1232), (80, tr_iload 82 4), (82, tr_ic 83 0), (83, tr_bast 84), (84, tr_aload 85 0), (85, tr_ic 86 0), (86, tr_callV (C 116) 89 13 1), (89, tr_ret)]
set_option maxRecDepth 20000 in
theorem tbk_X12_begin_1 {D : DD} {d : Nat} {C : Nat → Sp} (hC : Snd D d C) : ∀ e ∈ tb_X12_begin_1 C, TrOk D (d + 1) mi_X12_begin e.1 e.2 :=
  tk_c (show TrOk D (d + 1) mi_X12_begin 74 (tr_ic 75 0) from ok_iconst (show decode mi_X12_begin.2.1 74 = .ok (.iconst 0, 1) from by decide +kernel) rfl) <|
  tk_c (show TrOk D (d + 1) mi_X12_begin 75 (tr_bast 76) from ok_bast (show decode mi_X12_begin.2.1 75 = .ok (.bastore, 1) from by decide +kernel)) <|
  tk_c (show TrOk D (d + 1) mi_X12_begin 76 (tr_aload 77 0) from ok_aload_n (show decode mi_X12_begin.2.1 76 = .ok (.aload_n 0, 1) from by decide +kernel) rfl) <|
  tk_c (show TrOk D (d + 1) mi_X12_begin 77 (tr_getR 80 13 1232) from ok_getR (ci := 12) (k := 32) (show decode mi_X12_begin.2.1 77 = .ok (.getfield 93, 3) from by decide +kernel) rfl (by decide) (gm 813 (by decide +kernel) rfl) rfl) <|
  tk_c (show TrOk D (d + 1) mi_X12_begin 80 (tr_iload 82 4) from ok_iload (show decode mi_X12_begin.2.1 80 = .ok (.iload 4, 2) from by decide +kernel)) <|
  tk_c (show TrOk D (d + 1) mi_X12_begin 82 (tr_ic 83 0) from ok_iconst (show decode mi_X12_begin.2.1 82 = .ok (.iconst 0, 1) from by decide +kernel) rfl) <|
  tk_c (show TrOk D (d + 1) mi_X12_begin 83 (tr_bast 84) from ok_bast (show decode mi_X12_begin.2.1 83 = .ok (.bastore, 1) from by decide +kernel)) <|
  tk_c (show TrOk D (d + 1) mi_X12_begin 84 (tr_aload 85 0) from ok_aload_n (show decode mi_X12_begin.2.1 84 = .ok (.aload_n 0, 1) from by decide +kernel) rfl) <|
  tk_c (show TrOk D (d + 1) mi_X12_begin 85 (tr_ic 86 0) from ok_iconst (show decode mi_X12_begin.2.1 85 = .ok (.iconst 0, 1) from by decide +kernel) rfl) <|
  tk_c (show TrOk D (d + 1) mi_X12_begin 86 (tr_callV (C 116) 89 13 1) from ok_callV (ci := 12) (show decode mi_X12_begin.2.1 86 = .ok (.invokevirtual 199, 3) from by decide +kernel) mok_X12_beginPhase rfl rfl (gm 1029 (by decide +kernel) rfl) (gm 1031 (by decide +kernel) rfl) (gm 17 (by decide +kernel) rfl) (hC 116)) <|
  tk_c (show TrOk D (d + 1) mi_X12_begin 89 (tr_ret) from ok_ret (show decode mi_X12_begin.2.1 89 = .ok (.return_, 1) from by decide +kernel) rfl) <|
  tk_n
def tb_X12_begin (C : Nat → Sp) : Tab := tb_X12_begin_0 C ++ (tb_X12_begin_1 C)
theorem tbk_X12_begin {D : DD} {d : Nat} {C : Nat → Sp} (hC : Snd D d C) : ∀ e ∈ tb_X12_begin C, TrOk D (d + 1) mi_X12_begin e.1 e.2 := tk_a (tbk_X12_begin_0 hC) (tbk_X12_begin_1 hC)
theorem a_X12_begin_0 (C : Nat → Sp) : ta (tb_X12_begin C) 0 = tr_aload 1 0 := rfl
theorem a_X12_begin_1 (C : Nat → Sp) : ta (tb_X12_begin C) 1 = tr_getI 4 13 1225 := rfl
theorem a_X12_begin_4 (C : Nat → Sp) : ta (tb_X12_begin C) 4 = tr_istore 6 4 := rfl
theorem a_X12_begin_6 (C : Nat → Sp) : ta (tb_X12_begin C) 6 = tr_aload 7 0 := rfl
theorem a_X12_begin_7 (C : Nat → Sp) : ta (tb_X12_begin C) 7 = tr_dup 8 := rfl
theorem a_X12_begin_8 (C : Nat → Sp) : ta (tb_X12_begin C) 8 = tr_getI 11 13 1225 := rfl
theorem a_X12_begin_11 (C : Nat → Sp) : ta (tb_X12_begin C) 11 = tr_ic 12 1 := rfl
theorem a_X12_begin_12 (C : Nat → Sp) : ta (tb_X12_begin C) 12 = tr_iadd 13 := rfl
theorem a_X12_begin_13 (C : Nat → Sp) : ta (tb_X12_begin C) 13 = tr_putI 16 13 1225 := rfl
theorem a_X12_begin_16 (C : Nat → Sp) : ta (tb_X12_begin C) 16 = tr_aload 17 0 := rfl
theorem a_X12_begin_17 (C : Nat → Sp) : ta (tb_X12_begin C) 17 = tr_aload 18 0 := rfl
theorem a_X12_begin_18 (C : Nat → Sp) : ta (tb_X12_begin C) 18 = tr_getI 21 13 1225 := rfl
theorem a_X12_begin_21 (C : Nat → Sp) : ta (tb_X12_begin C) 21 = tr_aload 22 0 := rfl
theorem a_X12_begin_22 (C : Nat → Sp) : ta (tb_X12_begin C) 22 = tr_getI 25 13 1245 := rfl
theorem a_X12_begin_25 (C : Nat → Sp) : ta (tb_X12_begin C) 25 = tr_icle 28 35 := rfl
theorem a_X12_begin_28 (C : Nat → Sp) : ta (tb_X12_begin C) 28 = tr_aload 29 0 := rfl
theorem a_X12_begin_29 (C : Nat → Sp) : ta (tb_X12_begin C) 29 = tr_getI 32 13 1225 := rfl
theorem a_X12_begin_32 (C : Nat → Sp) : ta (tb_X12_begin C) 32 = tr_goto 39 := rfl
theorem a_X12_begin_35 (C : Nat → Sp) : ta (tb_X12_begin C) 35 = tr_aload 36 0 := rfl
theorem a_X12_begin_36 (C : Nat → Sp) : ta (tb_X12_begin C) 36 = tr_getI 39 13 1245 := rfl
theorem a_X12_begin_39 (C : Nat → Sp) : ta (tb_X12_begin C) 39 = tr_putI 42 13 1245 := rfl
theorem a_X12_begin_42 (C : Nat → Sp) : ta (tb_X12_begin C) 42 = tr_aload 43 0 := rfl
theorem a_X12_begin_43 (C : Nat → Sp) : ta (tb_X12_begin C) 43 = tr_dup 44 := rfl
theorem a_X12_begin_44 (C : Nat → Sp) : ta (tb_X12_begin C) 44 = tr_getI 47 13 1240 := rfl
theorem a_X12_begin_47 (C : Nat → Sp) : ta (tb_X12_begin C) 47 = tr_ic 48 1 := rfl
theorem a_X12_begin_48 (C : Nat → Sp) : ta (tb_X12_begin C) 48 = tr_iadd 49 := rfl
theorem a_X12_begin_49 (C : Nat → Sp) : ta (tb_X12_begin C) 49 = tr_putI 52 13 1240 := rfl
theorem a_X12_begin_52 (C : Nat → Sp) : ta (tb_X12_begin C) 52 = tr_aload 53 0 := rfl
theorem a_X12_begin_53 (C : Nat → Sp) : ta (tb_X12_begin C) 53 = tr_getR 56 13 1226 := rfl
theorem a_X12_begin_56 (C : Nat → Sp) : ta (tb_X12_begin C) 56 = tr_iload 58 4 := rfl
theorem a_X12_begin_58 (C : Nat → Sp) : ta (tb_X12_begin C) 58 = tr_iload 59 1 := rfl
theorem a_X12_begin_59 (C : Nat → Sp) : ta (tb_X12_begin C) 59 = tr_iast 60 := rfl
theorem a_X12_begin_60 (C : Nat → Sp) : ta (tb_X12_begin C) 60 = tr_aload 61 0 := rfl
theorem a_X12_begin_61 (C : Nat → Sp) : ta (tb_X12_begin C) 61 = tr_getR 64 13 1227 := rfl
theorem a_X12_begin_64 (C : Nat → Sp) : ta (tb_X12_begin C) 64 = tr_iload 66 4 := rfl
theorem a_X12_begin_66 (C : Nat → Sp) : ta (tb_X12_begin C) 66 = tr_lload 67 2 := rfl
theorem a_X12_begin_67 (C : Nat → Sp) : ta (tb_X12_begin C) 67 = tr_last 68 := rfl
theorem a_X12_begin_68 (C : Nat → Sp) : ta (tb_X12_begin C) 68 = tr_aload 69 0 := rfl
theorem a_X12_begin_69 (C : Nat → Sp) : ta (tb_X12_begin C) 69 = tr_getR 72 13 1231 := rfl
theorem a_X12_begin_72 (C : Nat → Sp) : ta (tb_X12_begin C) 72 = tr_iload 74 4 := rfl
theorem a_X12_begin_74 (C : Nat → Sp) : ta (tb_X12_begin C) 74 = tr_ic 75 0 := rfl
theorem a_X12_begin_75 (C : Nat → Sp) : ta (tb_X12_begin C) 75 = tr_bast 76 := rfl
theorem a_X12_begin_76 (C : Nat → Sp) : ta (tb_X12_begin C) 76 = tr_aload 77 0 := rfl
theorem a_X12_begin_77 (C : Nat → Sp) : ta (tb_X12_begin C) 77 = tr_getR 80 13 1232 := rfl
theorem a_X12_begin_80 (C : Nat → Sp) : ta (tb_X12_begin C) 80 = tr_iload 82 4 := rfl
theorem a_X12_begin_82 (C : Nat → Sp) : ta (tb_X12_begin C) 82 = tr_ic 83 0 := rfl
theorem a_X12_begin_83 (C : Nat → Sp) : ta (tb_X12_begin C) 83 = tr_bast 84 := rfl
theorem a_X12_begin_84 (C : Nat → Sp) : ta (tb_X12_begin C) 84 = tr_aload 85 0 := rfl
theorem a_X12_begin_85 (C : Nat → Sp) : ta (tb_X12_begin C) 85 = tr_ic 86 0 := rfl
theorem a_X12_begin_86 (C : Nat → Sp) : ta (tb_X12_begin C) 86 = tr_callV (C 116) 89 13 1 := rfl
theorem a_X12_begin_89 (C : Nat → Sp) : ta (tb_X12_begin C) 89 = tr_ret := rfl

def tb_X12_act_0 (C : Nat → Sp) : Tab := [(0, tr_aload 1 0), (1, tr_getI 4 13 1225), (4, tr_ic 5 1), (5, tr_isub 6), (6, tr_istore 7 1), (7, tr_aload 8 0), (8, tr_getR 11 13 1202), (11, tr_aload 12 0), (12, tr_getR 15 13 1226), (15, tr_iload 16 1), (16, tr_iald 17), (17, tr_dup2 18), (18, tr_lald 19), (19, tr_aload 20 0), (20, tr_getR 23 13 1227), (23, tr_iload 24 1), (24, tr_lald 25), (25, tr_ladd 26), (26, tr_last 27), (27, tr_aload 28 0), (28, tr_getI 31 13 1252), (31, tr_ic 33 50), (33, tr_icne 36 88), (36, tr_ic 37 1), (37, tr_istore 38 2), (38, tr_iload 39 2), (39, tr_ic 41 50), (41, tr_icge 44 78), (44, tr_aload 45 0), (45, tr_getR 48 13 1253), (48, tr_iload 49 2), (49, tr_ic 50 1), (50, tr_isub 51), (51, tr_aload 52 0), (52, tr_getR 55 13 1253), (55, tr_iload 56 2), (56, tr_iald 57), (57, tr_iast 58), (58, tr_aload 59 0), (59, tr_getR 62 13 1254)]
set_option maxRecDepth 20000 in
theorem tbk_X12_act_0 {D : DD} {d : Nat} {C : Nat → Sp} (hC : Snd D d C) : ∀ e ∈ tb_X12_act_0 C, TrOk D (d + 1) mi_X12_act e.1 e.2 :=
  tk_c (show TrOk D (d + 1) mi_X12_act 0 (tr_aload 1 0) from ok_aload_n (show decode mi_X12_act.2.1 0 = .ok (.aload_n 0, 1) from by decide +kernel) rfl) <|
  tk_c (show TrOk D (d + 1) mi_X12_act 1 (tr_getI 4 13 1225) from ok_getI (ci := 12) (k := 25) (show decode mi_X12_act.2.1 1 = .ok (.getfield 186, 3) from by decide +kernel) rfl (by decide) (gm 806 (by decide +kernel) rfl) rfl) <|
  tk_c (show TrOk D (d + 1) mi_X12_act 4 (tr_ic 5 1) from ok_iconst (show decode mi_X12_act.2.1 4 = .ok (.iconst 1, 1) from by decide +kernel) rfl) <|
  tk_c (show TrOk D (d + 1) mi_X12_act 5 (tr_isub 6) from ok_isub (show decode mi_X12_act.2.1 5 = .ok (.isub, 1) from by decide +kernel)) <|
  tk_c (show TrOk D (d + 1) mi_X12_act 6 (tr_istore 7 1) from ok_istore_n (show decode mi_X12_act.2.1 6 = .ok (.istore_n 1, 1) from by decide +kernel) rfl (by decide)) <|
  tk_c (show TrOk D (d + 1) mi_X12_act 7 (tr_aload 8 0) from ok_aload_n (show decode mi_X12_act.2.1 7 = .ok (.aload_n 0, 1) from by decide +kernel) rfl) <|
  tk_c (show TrOk D (d + 1) mi_X12_act 8 (tr_getR 11 13 1202) from ok_getR (ci := 12) (k := 2) (show decode mi_X12_act.2.1 8 = .ok (.getfield 13, 3) from by decide +kernel) rfl (by decide) (gm 783 (by decide +kernel) rfl) rfl) <|
  tk_c (show TrOk D (d + 1) mi_X12_act 11 (tr_aload 12 0) from ok_aload_n (show decode mi_X12_act.2.1 11 = .ok (.aload_n 0, 1) from by decide +kernel) rfl) <|
  tk_c (show TrOk D (d + 1) mi_X12_act 12 (tr_getR 15 13 1226) from ok_getR (ci := 12) (k := 26) (show decode mi_X12_act.2.1 12 = .ok (.getfield 75, 3) from by decide +kernel) rfl (by decide) (gm 807 (by decide +kernel) rfl) rfl) <|
  tk_c (show TrOk D (d + 1) mi_X12_act 15 (tr_iload 16 1) from ok_iload_n (show decode mi_X12_act.2.1 15 = .ok (.iload_n 1, 1) from by decide +kernel) rfl) <|
  tk_c (show TrOk D (d + 1) mi_X12_act 16 (tr_iald 17) from ok_iald (show decode mi_X12_act.2.1 16 = .ok (.iaload, 1) from by decide +kernel)) <|
  tk_c (show TrOk D (d + 1) mi_X12_act 17 (tr_dup2 18) from ok_dup2 (show decode mi_X12_act.2.1 17 = .ok (.dup2, 1) from by decide +kernel)) <|
  tk_c (show TrOk D (d + 1) mi_X12_act 18 (tr_lald 19) from ok_lald (show decode mi_X12_act.2.1 18 = .ok (.laload, 1) from by decide +kernel)) <|
  tk_c (show TrOk D (d + 1) mi_X12_act 19 (tr_aload 20 0) from ok_aload_n (show decode mi_X12_act.2.1 19 = .ok (.aload_n 0, 1) from by decide +kernel) rfl) <|
  tk_c (show TrOk D (d + 1) mi_X12_act 20 (tr_getR 23 13 1227) from ok_getR (ci := 12) (k := 27) (show decode mi_X12_act.2.1 20 = .ok (.getfield 78, 3) from by decide +kernel) rfl (by decide) (gm 808 (by decide +kernel) rfl) rfl) <|
  tk_c (show TrOk D (d + 1) mi_X12_act 23 (tr_iload 24 1) from ok_iload_n (show decode mi_X12_act.2.1 23 = .ok (.iload_n 1, 1) from by decide +kernel) rfl) <|
  tk_c (show TrOk D (d + 1) mi_X12_act 24 (tr_lald 25) from ok_lald (show decode mi_X12_act.2.1 24 = .ok (.laload, 1) from by decide +kernel)) <|
  tk_c (show TrOk D (d + 1) mi_X12_act 25 (tr_ladd 26) from ok_ladd (show decode mi_X12_act.2.1 25 = .ok (.ladd, 1) from by decide +kernel)) <|
  tk_c (show TrOk D (d + 1) mi_X12_act 26 (tr_last 27) from ok_last (show decode mi_X12_act.2.1 26 = .ok (.lastore, 1) from by decide +kernel)) <|
  tk_c (show TrOk D (d + 1) mi_X12_act 27 (tr_aload 28 0) from ok_aload_n (show decode mi_X12_act.2.1 27 = .ok (.aload_n 0, 1) from by decide +kernel) rfl) <|
  tk_c (show TrOk D (d + 1) mi_X12_act 28 (tr_getI 31 13 1252) from ok_getI (ci := 12) (k := 52) (show decode mi_X12_act.2.1 28 = .ok (.getfield 203, 3) from by decide +kernel) rfl (by decide) (gm 833 (by decide +kernel) rfl) rfl) <|
  tk_c (show TrOk D (d + 1) mi_X12_act 31 (tr_ic 33 50) from ok_bipush (show decode mi_X12_act.2.1 31 = .ok (.bipush 50, 2) from by decide +kernel) rfl) <|
  tk_c (show TrOk D (d + 1) mi_X12_act 33 (tr_icne 36 88) from ok_icne (show decode mi_X12_act.2.1 33 = .ok (.if_icmp .ne 55, 3) from by decide +kernel) (by decide)) <|
  tk_c (show TrOk D (d + 1) mi_X12_act 36 (tr_ic 37 1) from ok_iconst (show decode mi_X12_act.2.1 36 = .ok (.iconst 1, 1) from by decide +kernel) rfl) <|
  tk_c (show TrOk D (d + 1) mi_X12_act 37 (tr_istore 38 2) from ok_istore_n (show decode mi_X12_act.2.1 37 = .ok (.istore_n 2, 1) from by decide +kernel) rfl (by decide)) <|
  tk_c (show TrOk D (d + 1) mi_X12_act 38 (tr_iload 39 2) from ok_iload_n (show decode mi_X12_act.2.1 38 = .ok (.iload_n 2, 1) from by decide +kernel) rfl) <|
  tk_c (show TrOk D (d + 1) mi_X12_act 39 (tr_ic 41 50) from ok_bipush (show decode mi_X12_act.2.1 39 = .ok (.bipush 50, 2) from by decide +kernel) rfl) <|
  tk_c (show TrOk D (d + 1) mi_X12_act 41 (tr_icge 44 78) from ok_icge (show decode mi_X12_act.2.1 41 = .ok (.if_icmp .ge 37, 3) from by decide +kernel) (by decide)) <|
  tk_c (show TrOk D (d + 1) mi_X12_act 44 (tr_aload 45 0) from ok_aload_n (show decode mi_X12_act.2.1 44 = .ok (.aload_n 0, 1) from by decide +kernel) rfl) <|
  tk_c (show TrOk D (d + 1) mi_X12_act 45 (tr_getR 48 13 1253) from ok_getR (ci := 12) (k := 53) (show decode mi_X12_act.2.1 45 = .ok (.getfield 127, 3) from by decide +kernel) rfl (by decide) (gm 834 (by decide +kernel) rfl) rfl) <|
  tk_c (show TrOk D (d + 1) mi_X12_act 48 (tr_iload 49 2) from ok_iload_n (show decode mi_X12_act.2.1 48 = .ok (.iload_n 2, 1) from by decide +kernel) rfl) <|
  tk_c (show TrOk D (d + 1) mi_X12_act 49 (tr_ic 50 1) from ok_iconst (show decode mi_X12_act.2.1 49 = .ok (.iconst 1, 1) from by decide +kernel) rfl) <|
  tk_c (show TrOk D (d + 1) mi_X12_act 50 (tr_isub 51) from ok_isub (show decode mi_X12_act.2.1 50 = .ok (.isub, 1) from by decide +kernel)) <|
  tk_c (show TrOk D (d + 1) mi_X12_act 51 (tr_aload 52 0) from ok_aload_n (show decode mi_X12_act.2.1 51 = .ok (.aload_n 0, 1) from by decide +kernel) rfl) <|
  tk_c (show TrOk D (d + 1) mi_X12_act 52 (tr_getR 55 13 1253) from ok_getR (ci := 12) (k := 53) (show decode mi_X12_act.2.1 52 = .ok (.getfield 127, 3) from by decide +kernel) rfl (by decide) (gm 834 (by decide +kernel) rfl) rfl) <|
  tk_c (show TrOk D (d + 1) mi_X12_act 55 (tr_iload 56 2) from ok_iload_n (show decode mi_X12_act.2.1 55 = .ok (.iload_n 2, 1) from by decide +kernel) rfl) <|
  tk_c (show TrOk D (d + 1) mi_X12_act 56 (tr_iald 57) from ok_iald (show decode mi_X12_act.2.1 56 = .ok (.iaload, 1) from by decide +kernel)) <|
  tk_c (show TrOk D (d + 1) mi_X12_act 57 (tr_iast 58) from ok_iast (show decode mi_X12_act.2.1 57 = .ok (.iastore, 1) from by decide +kernel)) <|
  tk_c (show TrOk D (d + 1) mi_X12_act 58 (tr_aload 59 0) from ok_aload_n (show decode mi_X12_act.2.1 58 = .ok (.aload_n 0, 1) from by decide +kernel) rfl) <|
  tk_c (show TrOk D (d + 1) mi_X12_act 59 (tr_getR 62 13 1254) from ok_getR (ci := 12) (k := 54) (show decode mi_X12_act.2.1 59 = .ok (.getfield 130, 3) from by decide +kernel) rfl (by decide) (gm 835 (by decide +kernel) rfl) rfl) <|
  tk_n
def tb_X12_act_1 (C : Nat → Sp) : Tab := [(62, tr_iload 63 2), (63, tr_ic 64 1), (64, tr_isub 65), (65, tr_aload 66 0), (66, tr_getR 69 13 1254), (69, tr_iload 70 2), (70, tr_lald 71), (71, tr_last 72), (72, tr_iinc 75 2 1), (75, tr_goto 38), (78, tr_aload 79 0), (79, tr_dup 80), (80, tr_getI 83 13 1252), (83, tr_ic 84 1), (84, tr_isub 85), (85, tr_putI 88 13 1252), (88, tr_aload 89 0), (89, tr_getR 92 13 1253), (92, tr_aload 93 0), (93, tr_getI 96 13 1252), (96, tr_aload 97 0), (97, tr_getR 100 13 1226), (100, tr_iload 101 1), (101, tr_iald 102), (102, tr_iast 103), (103, tr_aload 104 0), (104, tr_getR 107 13 1254), (107, tr_aload 108 0), (108, tr_getI 111 13 1252), (111, tr_aload 112 0), (112, tr_getR 115 13 1227), (115, tr_iload 116 1), (116, tr_lald 117), (117, tr_last 118), (118, tr_aload 119 0), (119, tr_dup 120), (120, tr_getI 123 13 1252), (123, tr_ic 124 1), (124, tr_iadd 125), (125, tr_putI 128 13 1252)]
set_option maxRecDepth 20000 in
theorem tbk_X12_act_1 {D : DD} {d : Nat} {C : Nat → Sp} (hC : Snd D d C) : ∀ e ∈ tb_X12_act_1 C, TrOk D (d + 1) mi_X12_act e.1 e.2 :=
  tk_c (show TrOk D (d + 1) mi_X12_act 62 (tr_iload 63 2) from ok_iload_n (show decode mi_X12_act.2.1 62 = .ok (.iload_n 2, 1) from by decide +kernel) rfl) <|
  tk_c (show TrOk D (d + 1) mi_X12_act 63 (tr_ic 64 1) from ok_iconst (show decode mi_X12_act.2.1 63 = .ok (.iconst 1, 1) from by decide +kernel) rfl) <|
  tk_c (show TrOk D (d + 1) mi_X12_act 64 (tr_isub 65) from ok_isub (show decode mi_X12_act.2.1 64 = .ok (.isub, 1) from by decide +kernel)) <|
  tk_c (show TrOk D (d + 1) mi_X12_act 65 (tr_aload 66 0) from ok_aload_n (show decode mi_X12_act.2.1 65 = .ok (.aload_n 0, 1) from by decide +kernel) rfl) <|
  tk_c (show TrOk D (d + 1) mi_X12_act 66 (tr_getR 69 13 1254) from ok_getR (ci := 12) (k := 54) (show decode mi_X12_act.2.1 66 = .ok (.getfield 130, 3) from by decide +kernel) rfl (by decide) (gm 835 (by decide +kernel) rfl) rfl) <|
  tk_c (show TrOk D (d + 1) mi_X12_act 69 (tr_iload 70 2) from ok_iload_n (show decode mi_X12_act.2.1 69 = .ok (.iload_n 2, 1) from by decide +kernel) rfl) <|
  tk_c (show TrOk D (d + 1) mi_X12_act 70 (tr_lald 71) from ok_lald (show decode mi_X12_act.2.1 70 = .ok (.laload, 1) from by decide +kernel)) <|
  tk_c (show TrOk D (d + 1) mi_X12_act 71 (tr_last 72) from ok_last (show decode mi_X12_act.2.1 71 = .ok (.lastore, 1) from by decide +kernel)) <|
  tk_c (show TrOk D (d + 1) mi_X12_act 72 (tr_iinc 75 2 1) from ok_iinc (show decode mi_X12_act.2.1 72 = .ok (.iinc 2 1, 3) from by decide +kernel) rfl (by decide)) <|
  tk_c (show TrOk D (d + 1) mi_X12_act 75 (tr_goto 38) from ok_goto (show decode mi_X12_act.2.1 75 = .ok (.goto (-37), 3) from by decide +kernel) (by decide)) <|
  tk_c (show TrOk D (d + 1) mi_X12_act 78 (tr_aload 79 0) from ok_aload_n (show decode mi_X12_act.2.1 78 = .ok (.aload_n 0, 1) from by decide +kernel) rfl) <|
  tk_c (show TrOk D (d + 1) mi_X12_act 79 (tr_dup 80) from ok_dup (show decode mi_X12_act.2.1 79 = .ok (.dup, 1) from by decide +kernel)) <|
  tk_c (show TrOk D (d + 1) mi_X12_act 80 (tr_getI 83 13 1252) from ok_getI (ci := 12) (k := 52) (show decode mi_X12_act.2.1 80 = .ok (.getfield 203, 3) from by decide +kernel) rfl (by decide) (gm 833 (by decide +kernel) rfl) rfl) <|
  tk_c (show TrOk D (d + 1) mi_X12_act 83 (tr_ic 84 1) from ok_iconst (show decode mi_X12_act.2.1 83 = .ok (.iconst 1, 1) from by decide +kernel) rfl) <|
  tk_c (show TrOk D (d + 1) mi_X12_act 84 (tr_isub 85) from ok_isub (show decode mi_X12_act.2.1 84 = .ok (.isub, 1) from by decide +kernel)) <|
  tk_c (show TrOk D (d + 1) mi_X12_act 85 (tr_putI 88 13 1252) from ok_putI (ci := 12) (k := 52) (show decode mi_X12_act.2.1 85 = .ok (.putfield 203, 3) from by decide +kernel) rfl (by decide) (gm 833 (by decide +kernel) rfl) rfl (Or.inl rfl)) <|
  tk_c (show TrOk D (d + 1) mi_X12_act 88 (tr_aload 89 0) from ok_aload_n (show decode mi_X12_act.2.1 88 = .ok (.aload_n 0, 1) from by decide +kernel) rfl) <|
  tk_c (show TrOk D (d + 1) mi_X12_act 89 (tr_getR 92 13 1253) from ok_getR (ci := 12) (k := 53) (show decode mi_X12_act.2.1 89 = .ok (.getfield 127, 3) from by decide +kernel) rfl (by decide) (gm 834 (by decide +kernel) rfl) rfl) <|
  tk_c (show TrOk D (d + 1) mi_X12_act 92 (tr_aload 93 0) from ok_aload_n (show decode mi_X12_act.2.1 92 = .ok (.aload_n 0, 1) from by decide +kernel) rfl) <|
  tk_c (show TrOk D (d + 1) mi_X12_act 93 (tr_getI 96 13 1252) from ok_getI (ci := 12) (k := 52) (show decode mi_X12_act.2.1 93 = .ok (.getfield 203, 3) from by decide +kernel) rfl (by decide) (gm 833 (by decide +kernel) rfl) rfl) <|
  tk_c (show TrOk D (d + 1) mi_X12_act 96 (tr_aload 97 0) from ok_aload_n (show decode mi_X12_act.2.1 96 = .ok (.aload_n 0, 1) from by decide +kernel) rfl) <|
  tk_c (show TrOk D (d + 1) mi_X12_act 97 (tr_getR 100 13 1226) from ok_getR (ci := 12) (k := 26) (show decode mi_X12_act.2.1 97 = .ok (.getfield 75, 3) from by decide +kernel) rfl (by decide) (gm 807 (by decide +kernel) rfl) rfl) <|
  tk_c (show TrOk D (d + 1) mi_X12_act 100 (tr_iload 101 1) from ok_iload_n (show decode mi_X12_act.2.1 100 = .ok (.iload_n 1, 1) from by decide +kernel) rfl) <|
  tk_c (show TrOk D (d + 1) mi_X12_act 101 (tr_iald 102) from ok_iald (show decode mi_X12_act.2.1 101 = .ok (.iaload, 1) from by decide +kernel)) <|
  tk_c (show TrOk D (d + 1) mi_X12_act 102 (tr_iast 103) from ok_iast (show decode mi_X12_act.2.1 102 = .ok (.iastore, 1) from by decide +kernel)) <|
  tk_c (show TrOk D (d + 1) mi_X12_act 103 (tr_aload 104 0) from ok_aload_n (show decode mi_X12_act.2.1 103 = .ok (.aload_n 0, 1) from by decide +kernel) rfl) <|
  tk_c (show TrOk D (d + 1) mi_X12_act 104 (tr_getR 107 13 1254) from ok_getR (ci := 12) (k := 54) (show decode mi_X12_act.2.1 104 = .ok (.getfield 130, 3) from by decide +kernel) rfl (by decide) (gm 835 (by decide +kernel) rfl) rfl) <|
  tk_c (show TrOk D (d + 1) mi_X12_act 107 (tr_aload 108 0) from ok_aload_n (show decode mi_X12_act.2.1 107 = .ok (.aload_n 0, 1) from by decide +kernel) rfl) <|
  tk_c (show TrOk D (d + 1) mi_X12_act 108 (tr_getI 111 13 1252) from ok_getI (ci := 12) (k := 52) (show decode mi_X12_act.2.1 108 = .ok (.getfield 203, 3) from by decide +kernel) rfl (by decide) (gm 833 (by decide +kernel) rfl) rfl) <|
  tk_c (show TrOk D (d + 1) mi_X12_act 111 (tr_aload 112 0) from ok_aload_n (show decode mi_X12_act.2.1 111 = .ok (.aload_n 0, 1) from by decide +kernel) rfl) <|
  tk_c (show TrOk D (d + 1) mi_X12_act 112 (tr_getR 115 13 1227) from ok_getR (ci := 12) (k := 27) (show decode mi_X12_act.2.1 112 = .ok (.getfield 78, 3) from by decide +kernel) rfl (by decide) (gm 808 (by decide +kernel) rfl) rfl) <|
  tk_c (show TrOk D (d + 1) mi_X12_act 115 (tr_iload 116 1) from ok_iload_n (show decode mi_X12_act.2.1 115 = .ok (.iload_n 1, 1) from by decide +kernel) rfl) <|
  tk_c (show TrOk D (d + 1) mi_X12_act 116 (tr_lald 117) from ok_lald (show decode mi_X12_act.2.1 116 = .ok (.laload, 1) from by decide +kernel)) <|
  tk_c (show TrOk D (d + 1) mi_X12_act 117 (tr_last 118) from ok_last (show decode mi_X12_act.2.1 117 = .ok (.lastore, 1) from by decide +kernel)) <|
  tk_c (show TrOk D (d + 1) mi_X12_act 118 (tr_aload 119 0) from ok_aload_n (show decode mi_X12_act.2.1 118 = .ok (.aload_n 0, 1) from by decide +kernel) rfl) <|
  tk_c (show TrOk D (d + 1) mi_X12_act 119 (tr_dup 120) from ok_dup (show decode mi_X12_act.2.1 119 = .ok (.dup, 1) from by decide +kernel)) <|
  tk_c (show TrOk D (d + 1) mi_X12_act 120 (tr_getI 123 13 1252) from ok_getI (ci := 12) (k := 52) (show decode mi_X12_act.2.1 120 = .ok (.getfield 203, 3) from by decide +kernel) rfl (by decide) (gm 833 (by decide +kernel) rfl) rfl) <|
  tk_c (show TrOk D (d + 1) mi_X12_act 123 (tr_ic 124 1) from ok_iconst (show decode mi_X12_act.2.1 123 = .ok (.iconst 1, 1) from by decide +kernel) rfl) <|
  tk_c (show TrOk D (d + 1) mi_X12_act 124 (tr_iadd 125) from ok_iadd (show decode mi_X12_act.2.1 124 = .ok (.iadd, 1) from by decide +kernel)) <|
  tk_c (show TrOk D (d + 1) mi_X12_act 125 (tr_putI 128 13 1252) from ok_putI (ci := 12) (k := 52) (show decode mi_X12_act.2.1 125 = .ok (.putfield 203, 3) from by decide +kernel) rfl (by decide) (gm 833 (by decide +kernel) rfl) rfl (Or.inl rfl)) <|
  tk_n
def tb_X12_act_2 (C : Nat → Sp) : Tab := [(128, tr_ret)]
set_option maxRecDepth 20000 in
theorem tbk_X12_act_2 {D : DD} {d : Nat} {C : Nat → Sp} (hC : Snd D d C) : ∀ e ∈ tb_X12_act_2 C, TrOk D (d + 1) mi_X12_act e.1 e.2 :=
  tk_c (show TrOk D (d + 1) mi_X12_act 128 (tr_ret) from ok_ret (show decode mi_X12_act.2.1 128 = .ok (.return_, 1) from by decide +kernel) rfl) <|
  tk_n
def tb_X12_act (C : Nat → Sp) : Tab := tb_X12_act_0 C ++ (tb_X12_act_1 C ++ (tb_X12_act_2 C))
theorem tbk_X12_act {D : DD} {d : Nat} {C : Nat → Sp} (hC : Snd D d C) : ∀ e ∈ tb_X12_act C, TrOk D (d + 1) mi_X12_act e.1 e.2 := tk_a (tbk_X12_act_0 hC) (tk_a (tbk_X12_act_1 hC) (tbk_X12_act_2 hC))
theorem a_X12_act_0 (C : Nat → Sp) : ta (tb_X12_act C) 0 = tr_aload 1 0 := rfl
theorem a_X12_act_1 (C : Nat → Sp) : ta (tb_X12_act C) 1 = tr_getI 4 13 1225 := rfl
theorem a_X12_act_4 (C : Nat → Sp) : ta (tb_X12_act C) 4 = tr_ic 5 1 := rfl
theorem a_X12_act_5 (C : Nat → Sp) : ta (tb_X12_act C) 5 = tr_isub 6 := rfl
theorem a_X12_act_6 (C : Nat → Sp) : ta (tb_X12_act C) 6 = tr_istore 7 1 := rfl
theorem a_X12_act_7 (C : Nat → Sp) : ta (tb_X12_act C) 7 = tr_aload 8 0 := rfl
theorem a_X12_act_8 (C : Nat → Sp) : ta (tb_X12_act C) 8 = tr_getR 11 13 1202 := rfl
theorem a_X12_act_11 (C : Nat → Sp) : ta (tb_X12_act C) 11 = tr_aload 12 0 := rfl
theorem a_X12_act_12 (C : Nat → Sp) : ta (tb_X12_act C) 12 = tr_getR 15 13 1226 := rfl
theorem a_X12_act_15 (C : Nat → Sp) : ta (tb_X12_act C) 15 = tr_iload 16 1 := rfl
theorem a_X12_act_16 (C : Nat → Sp) : ta (tb_X12_act C) 16 = tr_iald 17 := rfl
theorem a_X12_act_17 (C : Nat → Sp) : ta (tb_X12_act C) 17 = tr_dup2 18 := rfl
theorem a_X12_act_18 (C : Nat → Sp) : ta (tb_X12_act C) 18 = tr_lald 19 := rfl
theorem a_X12_act_19 (C : Nat → Sp) : ta (tb_X12_act C) 19 = tr_aload 20 0 := rfl
theorem a_X12_act_20 (C : Nat → Sp) : ta (tb_X12_act C) 20 = tr_getR 23 13 1227 := rfl
theorem a_X12_act_23 (C : Nat → Sp) : ta (tb_X12_act C) 23 = tr_iload 24 1 := rfl
theorem a_X12_act_24 (C : Nat → Sp) : ta (tb_X12_act C) 24 = tr_lald 25 := rfl
theorem a_X12_act_25 (C : Nat → Sp) : ta (tb_X12_act C) 25 = tr_ladd 26 := rfl
theorem a_X12_act_26 (C : Nat → Sp) : ta (tb_X12_act C) 26 = tr_last 27 := rfl
theorem a_X12_act_27 (C : Nat → Sp) : ta (tb_X12_act C) 27 = tr_aload 28 0 := rfl
theorem a_X12_act_28 (C : Nat → Sp) : ta (tb_X12_act C) 28 = tr_getI 31 13 1252 := rfl
theorem a_X12_act_31 (C : Nat → Sp) : ta (tb_X12_act C) 31 = tr_ic 33 50 := rfl
theorem a_X12_act_33 (C : Nat → Sp) : ta (tb_X12_act C) 33 = tr_icne 36 88 := rfl
theorem a_X12_act_36 (C : Nat → Sp) : ta (tb_X12_act C) 36 = tr_ic 37 1 := rfl
theorem a_X12_act_37 (C : Nat → Sp) : ta (tb_X12_act C) 37 = tr_istore 38 2 := rfl
theorem a_X12_act_38 (C : Nat → Sp) : ta (tb_X12_act C) 38 = tr_iload 39 2 := rfl
theorem a_X12_act_39 (C : Nat → Sp) : ta (tb_X12_act C) 39 = tr_ic 41 50 := rfl
theorem a_X12_act_41 (C : Nat → Sp) : ta (tb_X12_act C) 41 = tr_icge 44 78 := rfl
theorem a_X12_act_44 (C : Nat → Sp) : ta (tb_X12_act C) 44 = tr_aload 45 0 := rfl
theorem a_X12_act_45 (C : Nat → Sp) : ta (tb_X12_act C) 45 = tr_getR 48 13 1253 := rfl
theorem a_X12_act_48 (C : Nat → Sp) : ta (tb_X12_act C) 48 = tr_iload 49 2 := rfl
theorem a_X12_act_49 (C : Nat → Sp) : ta (tb_X12_act C) 49 = tr_ic 50 1 := rfl
theorem a_X12_act_50 (C : Nat → Sp) : ta (tb_X12_act C) 50 = tr_isub 51 := rfl
theorem a_X12_act_51 (C : Nat → Sp) : ta (tb_X12_act C) 51 = tr_aload 52 0 := rfl
theorem a_X12_act_52 (C : Nat → Sp) : ta (tb_X12_act C) 52 = tr_getR 55 13 1253 := rfl
theorem a_X12_act_55 (C : Nat → Sp) : ta (tb_X12_act C) 55 = tr_iload 56 2 := rfl
theorem a_X12_act_56 (C : Nat → Sp) : ta (tb_X12_act C) 56 = tr_iald 57 := rfl
theorem a_X12_act_57 (C : Nat → Sp) : ta (tb_X12_act C) 57 = tr_iast 58 := rfl
theorem a_X12_act_58 (C : Nat → Sp) : ta (tb_X12_act C) 58 = tr_aload 59 0 := rfl
theorem a_X12_act_59 (C : Nat → Sp) : ta (tb_X12_act C) 59 = tr_getR 62 13 1254 := rfl
theorem a_X12_act_62 (C : Nat → Sp) : ta (tb_X12_act C) 62 = tr_iload 63 2 := rfl
theorem a_X12_act_63 (C : Nat → Sp) : ta (tb_X12_act C) 63 = tr_ic 64 1 := rfl
theorem a_X12_act_64 (C : Nat → Sp) : ta (tb_X12_act C) 64 = tr_isub 65 := rfl
theorem a_X12_act_65 (C : Nat → Sp) : ta (tb_X12_act C) 65 = tr_aload 66 0 := rfl
theorem a_X12_act_66 (C : Nat → Sp) : ta (tb_X12_act C) 66 = tr_getR 69 13 1254 := rfl
theorem a_X12_act_69 (C : Nat → Sp) : ta (tb_X12_act C) 69 = tr_iload 70 2 := rfl
theorem a_X12_act_70 (C : Nat → Sp) : ta (tb_X12_act C) 70 = tr_lald 71 := rfl
theorem a_X12_act_71 (C : Nat → Sp) : ta (tb_X12_act C) 71 = tr_last 72 := rfl
theorem a_X12_act_72 (C : Nat → Sp) : ta (tb_X12_act C) 72 = tr_iinc 75 2 1 := rfl
theorem a_X12_act_75 (C : Nat → Sp) : ta (tb_X12_act C) 75 = tr_goto 38 := rfl
theorem a_X12_act_78 (C : Nat → Sp) : ta (tb_X12_act C) 78 = tr_aload 79 0 := rfl
theorem a_X12_act_79 (C : Nat → Sp) : ta (tb_X12_act C) 79 = tr_dup 80 := rfl
theorem a_X12_act_80 (C : Nat → Sp) : ta (tb_X12_act C) 80 = tr_getI 83 13 1252 := rfl
theorem a_X12_act_83 (C : Nat → Sp) : ta (tb_X12_act C) 83 = tr_ic 84 1 := rfl
theorem a_X12_act_84 (C : Nat → Sp) : ta (tb_X12_act C) 84 = tr_isub 85 := rfl
theorem a_X12_act_85 (C : Nat → Sp) : ta (tb_X12_act C) 85 = tr_putI 88 13 1252 := rfl
theorem a_X12_act_88 (C : Nat → Sp) : ta (tb_X12_act C) 88 = tr_aload 89 0 := rfl
theorem a_X12_act_89 (C : Nat → Sp) : ta (tb_X12_act C) 89 = tr_getR 92 13 1253 := rfl
theorem a_X12_act_92 (C : Nat → Sp) : ta (tb_X12_act C) 92 = tr_aload 93 0 := rfl
theorem a_X12_act_93 (C : Nat → Sp) : ta (tb_X12_act C) 93 = tr_getI 96 13 1252 := rfl
set_option maxRecDepth 20000 in
theorem a_X12_act_96 (C : Nat → Sp) : ta (tb_X12_act C) 96 = tr_aload 97 0 := rfl
set_option maxRecDepth 20000 in
theorem a_X12_act_97 (C : Nat → Sp) : ta (tb_X12_act C) 97 = tr_getR 100 13 1226 := rfl
set_option maxRecDepth 20000 in
theorem a_X12_act_100 (C : Nat → Sp) : ta (tb_X12_act C) 100 = tr_iload 101 1 := rfl
set_option maxRecDepth 20000 in
theorem a_X12_act_101 (C : Nat → Sp) : ta (tb_X12_act C) 101 = tr_iald 102 := rfl
set_option maxRecDepth 20000 in
theorem a_X12_act_102 (C : Nat → Sp) : ta (tb_X12_act C) 102 = tr_iast 103 := rfl
set_option maxRecDepth 20000 in
theorem a_X12_act_103 (C : Nat → Sp) : ta (tb_X12_act C) 103 = tr_aload 104 0 := rfl
set_option maxRecDepth 20000 in
theorem a_X12_act_104 (C : Nat → Sp) : ta (tb_X12_act C) 104 = tr_getR 107 13 1254 := rfl
set_option maxRecDepth 20000 in
theorem a_X12_act_107 (C : Nat → Sp) : ta (tb_X12_act C) 107 = tr_aload 108 0 := rfl
set_option maxRecDepth 20000 in
theorem a_X12_act_108 (C : Nat → Sp) : ta (tb_X12_act C) 108 = tr_getI 111 13 1252 := rfl
set_option maxRecDepth 20000 in
theorem a_X12_act_111 (C : Nat → Sp) : ta (tb_X12_act C) 111 = tr_aload 112 0 := rfl
set_option maxRecDepth 20000 in
theorem a_X12_act_112 (C : Nat → Sp) : ta (tb_X12_act C) 112 = tr_getR 115 13 1227 := rfl
set_option maxRecDepth 20000 in
theorem a_X12_act_115 (C : Nat → Sp) : ta (tb_X12_act C) 115 = tr_iload 116 1 := rfl
set_option maxRecDepth 20000 in
theorem a_X12_act_116 (C : Nat → Sp) : ta (tb_X12_act C) 116 = tr_lald 117 := rfl
set_option maxRecDepth 20000 in
theorem a_X12_act_117 (C : Nat → Sp) : ta (tb_X12_act C) 117 = tr_last 118 := rfl
set_option maxRecDepth 20000 in
theorem a_X12_act_118 (C : Nat → Sp) : ta (tb_X12_act C) 118 = tr_aload 119 0 := rfl
set_option maxRecDepth 20000 in
theorem a_X12_act_119 (C : Nat → Sp) : ta (tb_X12_act C) 119 = tr_dup 120 := rfl
set_option maxRecDepth 20000 in
theorem a_X12_act_120 (C : Nat → Sp) : ta (tb_X12_act C) 120 = tr_getI 123 13 1252 := rfl
set_option maxRecDepth 20000 in
theorem a_X12_act_123 (C : Nat → Sp) : ta (tb_X12_act C) 123 = tr_ic 124 1 := rfl
set_option maxRecDepth 20000 in
theorem a_X12_act_124 (C : Nat → Sp) : ta (tb_X12_act C) 124 = tr_iadd 125 := rfl
set_option maxRecDepth 20000 in
theorem a_X12_act_125 (C : Nat → Sp) : ta (tb_X12_act C) 125 = tr_putI 128 13 1252 := rfl
set_option maxRecDepth 20000 in
theorem a_X12_act_128 (C : Nat → Sp) : ta (tb_X12_act C) 128 = tr_ret := rfl

def tb_X12_ends_0 (C : Nat → Sp) : Tab := [(0, tr_aload 1 0), (1, tr_getI 4 13 1225), (4, tr_ic 5 1), (5, tr_isub 6), (6, tr_istore 7 2), (7, tr_aload 8 0), (8, tr_dup 9), (9, tr_getI 12 13 1225), (12, tr_ic 13 1), (13, tr_isub 14), (14, tr_putI 17 13 1225), (17, tr_iload 18 2), (18, tr_ifle 21 58), (21, tr_aload 22 0), (22, tr_getR 25 13 1235), (25, tr_iload 26 2), (26, tr_ic 27 1), (27, tr_isub 28), (28, tr_aload 29 0), (29, tr_getR 32 13 1231), (32, tr_iload 33 2), (33, tr_bald 34), (34, tr_ifeq 37 48), (37, tr_aload 38 0), (38, tr_getR 41 13 1235), (41, tr_iload 42 2), (42, tr_ic 43 1), (43, tr_isub 44), (44, tr_lald 45), (45, tr_goto 54), (48, tr_aload 49 0), (49, tr_getR 52 13 1227), (52, tr_iload 53 2), (53, tr_lald 54), (54, tr_last 55), (55, tr_goto 82), (58, tr_iload 59 1), (59, tr_ifeq 62 82), (62, tr_aload 63 0), (63, tr_aload 64 0)]
set_option maxRecDepth 20000 in
theorem tbk_X12_ends_0 {D : DD} {d : Nat} {C : Nat → Sp} (hC : Snd D d C) : ∀ e ∈ tb_X12_ends_0 C, TrOk D (d + 1) mi_X12_ends e.1 e.2 :=
  tk_c (show TrOk D (d + 1) mi_X12_ends 0 (tr_aload 1 0) from ok_aload_n (show decode mi_X12_ends.2.1 0 = .ok (.aload_n 0, 1) from by decide +kernel) rfl) <|
  tk_c (show TrOk D (d + 1) mi_X12_ends 1 (tr_getI 4 13 1225) from ok_getI (ci := 12) (k := 25) (show decode mi_X12_ends.2.1 1 = .ok (.getfield 186, 3) from by decide +kernel) rfl (by decide) (gm 806 (by decide +kernel) rfl) rfl) <|
  tk_c (show TrOk D (d + 1) mi_X12_ends 4 (tr_ic 5 1) from ok_iconst (show decode mi_X12_ends.2.1 4 = .ok (.iconst 1, 1) from by decide +kernel) rfl) <|
  tk_c (show TrOk D (d + 1) mi_X12_ends 5 (tr_isub 6) from ok_isub (show decode mi_X12_ends.2.1 5 = .ok (.isub, 1) from by decide +kernel)) <|
  tk_c (show TrOk D (d + 1) mi_X12_ends 6 (tr_istore 7 2) from ok_istore_n (show decode mi_X12_ends.2.1 6 = .ok (.istore_n 2, 1) from by decide +kernel) rfl (by decide)) <|
  tk_c (show TrOk D (d + 1) mi_X12_ends 7 (tr_aload 8 0) from ok_aload_n (show decode mi_X12_ends.2.1 7 = .ok (.aload_n 0, 1) from by decide +kernel) rfl) <|
  tk_c (show TrOk D (d + 1) mi_X12_ends 8 (tr_dup 9) from ok_dup (show decode mi_X12_ends.2.1 8 = .ok (.dup, 1) from by decide +kernel)) <|
  tk_c (show TrOk D (d + 1) mi_X12_ends 9 (tr_getI 12 13 1225) from ok_getI (ci := 12) (k := 25) (show decode mi_X12_ends.2.1 9 = .ok (.getfield 186, 3) from by decide +kernel) rfl (by decide) (gm 806 (by decide +kernel) rfl) rfl) <|
  tk_c (show TrOk D (d + 1) mi_X12_ends 12 (tr_ic 13 1) from ok_iconst (show decode mi_X12_ends.2.1 12 = .ok (.iconst 1, 1) from by decide +kernel) rfl) <|
  tk_c (show TrOk D (d + 1) mi_X12_ends 13 (tr_isub 14) from ok_isub (show decode mi_X12_ends.2.1 13 = .ok (.isub, 1) from by decide +kernel)) <|
  tk_c (show TrOk D (d + 1) mi_X12_ends 14 (tr_putI 17 13 1225) from ok_putI (ci := 12) (k := 25) (show decode mi_X12_ends.2.1 14 = .ok (.putfield 186, 3) from by decide +kernel) rfl (by decide) (gm 806 (by decide +kernel) rfl) rfl (Or.inl rfl)) <|
  tk_c (show TrOk D (d + 1) mi_X12_ends 17 (tr_iload 18 2) from ok_iload_n (show decode mi_X12_ends.2.1 17 = .ok (.iload_n 2, 1) from by decide +kernel) rfl) <|
  tk_c (show TrOk D (d + 1) mi_X12_ends 18 (tr_ifle 21 58) from ok_ifle (show decode mi_X12_ends.2.1 18 = .ok (.ifCond .le 40, 3) from by decide +kernel) (by decide)) <|
  tk_c (show TrOk D (d + 1) mi_X12_ends 21 (tr_aload 22 0) from ok_aload_n (show decode mi_X12_ends.2.1 21 = .ok (.aload_n 0, 1) from by decide +kernel) rfl) <|
  tk_c (show TrOk D (d + 1) mi_X12_ends 22 (tr_getR 25 13 1235) from ok_getR (ci := 12) (k := 35) (show decode mi_X12_ends.2.1 22 = .ok (.getfield 102, 3) from by decide +kernel) rfl (by decide) (gm 816 (by decide +kernel) rfl) rfl) <|
  tk_c (show TrOk D (d + 1) mi_X12_ends 25 (tr_iload 26 2) from ok_iload_n (show decode mi_X12_ends.2.1 25 = .ok (.iload_n 2, 1) from by decide +kernel) rfl) <|
  tk_c (show TrOk D (d + 1) mi_X12_ends 26 (tr_ic 27 1) from ok_iconst (show decode mi_X12_ends.2.1 26 = .ok (.iconst 1, 1) from by decide +kernel) rfl) <|
  tk_c (show TrOk D (d + 1) mi_X12_ends 27 (tr_isub 28) from ok_isub (show decode mi_X12_ends.2.1 27 = .ok (.isub, 1) from by decide +kernel)) <|
  tk_c (show TrOk D (d + 1) mi_X12_ends 28 (tr_aload 29 0) from ok_aload_n (show decode mi_X12_ends.2.1 28 = .ok (.aload_n 0, 1) from by decide +kernel) rfl) <|
  tk_c (show TrOk D (d + 1) mi_X12_ends 29 (tr_getR 32 13 1231) from ok_getR (ci := 12) (k := 31) (show decode mi_X12_ends.2.1 29 = .ok (.getfield 90, 3) from by decide +kernel) rfl (by decide) (gm 812 (by decide +kernel) rfl) rfl) <|
  tk_c (show TrOk D (d + 1) mi_X12_ends 32 (tr_iload 33 2) from ok_iload_n (show decode mi_X12_ends.2.1 32 = .ok (.iload_n 2, 1) from by decide +kernel) rfl) <|
  tk_c (show TrOk D (d + 1) mi_X12_ends 33 (tr_bald 34) from ok_bald (show decode mi_X12_ends.2.1 33 = .ok (.baload, 1) from by decide +kernel)) <|
  tk_c (show TrOk D (d + 1) mi_X12_ends 34 (tr_ifeq 37 48) from ok_ifeq (show decode mi_X12_ends.2.1 34 = .ok (.ifCond .eq 14, 3) from by decide +kernel) (by decide)) <|
  tk_c (show TrOk D (d + 1) mi_X12_ends 37 (tr_aload 38 0) from ok_aload_n (show decode mi_X12_ends.2.1 37 = .ok (.aload_n 0, 1) from by decide +kernel) rfl) <|
  tk_c (show TrOk D (d + 1) mi_X12_ends 38 (tr_getR 41 13 1235) from ok_getR (ci := 12) (k := 35) (show decode mi_X12_ends.2.1 38 = .ok (.getfield 102, 3) from by decide +kernel) rfl (by decide) (gm 816 (by decide +kernel) rfl) rfl) <|
  tk_c (show TrOk D (d + 1) mi_X12_ends 41 (tr_iload 42 2) from ok_iload_n (show decode mi_X12_ends.2.1 41 = .ok (.iload_n 2, 1) from by decide +kernel) rfl) <|
  tk_c (show TrOk D (d + 1) mi_X12_ends 42 (tr_ic 43 1) from ok_iconst (show decode mi_X12_ends.2.1 42 = .ok (.iconst 1, 1) from by decide +kernel) rfl) <|
  tk_c (show TrOk D (d + 1) mi_X12_ends 43 (tr_isub 44) from ok_isub (show decode mi_X12_ends.2.1 43 = .ok (.isub, 1) from by decide +kernel)) <|
  tk_c (show TrOk D (d + 1) mi_X12_ends 44 (tr_lald 45) from ok_lald (show decode mi_X12_ends.2.1 44 = .ok (.laload, 1) from by decide +kernel)) <|
  tk_c (show TrOk D (d + 1) mi_X12_ends 45 (tr_goto 54) from ok_goto (show decode mi_X12_ends.2.1 45 = .ok (.goto 9, 3) from by decide +kernel) (by decide)) <|
  tk_c (show TrOk D (d + 1) mi_X12_ends 48 (tr_aload 49 0) from ok_aload_n (show decode mi_X12_ends.2.1 48 = .ok (.aload_n 0, 1) from by decide +kernel) rfl) <|
  tk_c (show TrOk D (d + 1) mi_X12_ends 49 (tr_getR 52 13 1227) from ok_getR (ci := 12) (k := 27) (show decode mi_X12_ends.2.1 49 = .ok (.getfield 78, 3) from by decide +kernel) rfl (by decide) (gm 808 (by decide +kernel) rfl) rfl) <|
  tk_c (show TrOk D (d + 1) mi_X12_ends 52 (tr_iload 53 2) from ok_iload_n (show decode mi_X12_ends.2.1 52 = .ok (.iload_n 2, 1) from by decide +kernel) rfl) <|
  tk_c (show TrOk D (d + 1) mi_X12_ends 53 (tr_lald 54) from ok_lald (show decode mi_X12_ends.2.1 53 = .ok (.laload, 1) from by decide +kernel)) <|
  tk_c (show TrOk D (d + 1) mi_X12_ends 54 (tr_last 55) from ok_last (show decode mi_X12_ends.2.1 54 = .ok (.lastore, 1) from by decide +kernel)) <|
  tk_c (show TrOk D (d + 1) mi_X12_ends 55 (tr_goto 82) from ok_goto (show decode mi_X12_ends.2.1 55 = .ok (.goto 27, 3) from by decide +kernel) (by decide)) <|
  tk_c (show TrOk D (d + 1) mi_X12_ends 58 (tr_iload 59 1) from ok_iload_n (show decode mi_X12_ends.2.1 58 = .ok (.iload_n 1, 1) from by decide +kernel) rfl) <|
  tk_c (show TrOk D (d + 1) mi_X12_ends 59 (tr_ifeq 62 82) from ok_ifeq (show decode mi_X12_ends.2.1 59 = .ok (.ifCond .eq 23, 3) from by decide +kernel) (by decide)) <|
  tk_c (show TrOk D (d + 1) mi_X12_ends 62 (tr_aload 63 0) from ok_aload_n (show decode mi_X12_ends.2.1 62 = .ok (.aload_n 0, 1) from by decide +kernel) rfl) <|
  tk_c (show TrOk D (d + 1) mi_X12_ends 63 (tr_aload 64 0) from ok_aload_n (show decode mi_X12_ends.2.1 63 = .ok (.aload_n 0, 1) from by decide +kernel) rfl) <|
  tk_n
def tb_X12_ends_1 (C : Nat → Sp) : Tab := [(64, tr_getR 67 13 1231), (67, tr_iload 68 2), (68, tr_bald 69), (69, tr_putZ 72 13 1239), (72, tr_aload 73 0), (73, tr_aload 74 0), (74, tr_getR 77 13 1227), (77, tr_iload 78 2), (78, tr_lald 79), (79, tr_putL 82 13 1247), (82, tr_ret)]
set_option maxRecDepth 20000 in
theorem tbk_X12_ends_1 {D : DD} {d : Nat} {C : Nat → Sp} (hC : Snd D d C) : ∀ e ∈ tb_X12_ends_1 C, TrOk D (d + 1) mi_X12_ends e.1 e.2 :=
  tk_c (show TrOk D (d + 1) mi_X12_ends 64 (tr_getR 67 13 1231) from ok_getR (ci := 12) (k := 31) (show decode mi_X12_ends.2.1 64 = .ok (.getfield 90, 3) from by decide +kernel) rfl (by decide) (gm 812 (by decide +kernel) rfl) rfl) <|
  tk_c (show TrOk D (d + 1) mi_X12_ends 67 (tr_iload 68 2) from ok_iload_n (show decode mi_X12_ends.2.1 67 = .ok (.iload_n 2, 1) from by decide +kernel) rfl) <|
  tk_c (show TrOk D (d + 1) mi_X12_ends 68 (tr_bald 69) from ok_bald (show decode mi_X12_ends.2.1 68 = .ok (.baload, 1) from by decide +kernel)) <|
  tk_c (show TrOk D (d + 1) mi_X12_ends 69 (tr_putZ 72 13 1239) from ok_putZ (ci := 12) (k := 39) (show decode mi_X12_ends.2.1 69 = .ok (.putfield 206, 3) from by decide +kernel) rfl (by decide) (gm 820 (by decide +kernel) rfl) rfl (Or.inl rfl)) <|
  tk_c (show TrOk D (d + 1) mi_X12_ends 72 (tr_aload 73 0) from ok_aload_n (show decode mi_X12_ends.2.1 72 = .ok (.aload_n 0, 1) from by decide +kernel) rfl) <|
  tk_c (show TrOk D (d + 1) mi_X12_ends 73 (tr_aload 74 0) from ok_aload_n (show decode mi_X12_ends.2.1 73 = .ok (.aload_n 0, 1) from by decide +kernel) rfl) <|
  tk_c (show TrOk D (d + 1) mi_X12_ends 74 (tr_getR 77 13 1227) from ok_getR (ci := 12) (k := 27) (show decode mi_X12_ends.2.1 74 = .ok (.getfield 78, 3) from by decide +kernel) rfl (by decide) (gm 808 (by decide +kernel) rfl) rfl) <|
  tk_c (show TrOk D (d + 1) mi_X12_ends 77 (tr_iload 78 2) from ok_iload_n (show decode mi_X12_ends.2.1 77 = .ok (.iload_n 2, 1) from by decide +kernel) rfl) <|
  tk_c (show TrOk D (d + 1) mi_X12_ends 78 (tr_lald 79) from ok_lald (show decode mi_X12_ends.2.1 78 = .ok (.laload, 1) from by decide +kernel)) <|
  tk_c (show TrOk D (d + 1) mi_X12_ends 79 (tr_putL 82 13 1247) from ok_putL (ci := 12) (k := 47) (show decode mi_X12_ends.2.1 79 = .ok (.putfield 210, 3) from by decide +kernel) rfl (by decide) (gm 828 (by decide +kernel) rfl) rfl (Or.inl rfl)) <|
  tk_c (show TrOk D (d + 1) mi_X12_ends 82 (tr_ret) from ok_ret (show decode mi_X12_ends.2.1 82 = .ok (.return_, 1) from by decide +kernel) rfl) <|
  tk_n
def tb_X12_ends (C : Nat → Sp) : Tab := tb_X12_ends_0 C ++ (tb_X12_ends_1 C)
theorem tbk_X12_ends {D : DD} {d : Nat} {C : Nat → Sp} (hC : Snd D d C) : ∀ e ∈ tb_X12_ends C, TrOk D (d + 1) mi_X12_ends e.1 e.2 := tk_a (tbk_X12_ends_0 hC) (tbk_X12_ends_1 hC)
theorem a_X12_ends_0 (C : Nat → Sp) : ta (tb_X12_ends C) 0 = tr_aload 1 0 := rfl
theorem a_X12_ends_1 (C : Nat → Sp) : ta (tb_X12_ends C) 1 = tr_getI 4 13 1225 := rfl
theorem a_X12_ends_4 (C : Nat → Sp) : ta (tb_X12_ends C) 4 = tr_ic 5 1 := rfl
theorem a_X12_ends_5 (C : Nat → Sp) : ta (tb_X12_ends C) 5 = tr_isub 6 := rfl
theorem a_X12_ends_6 (C : Nat → Sp) : ta (tb_X12_ends C) 6 = tr_istore 7 2 := rfl
theorem a_X12_ends_7 (C : Nat → Sp) : ta (tb_X12_ends C) 7 = tr_aload 8 0 := rfl
theorem a_X12_ends_8 (C : Nat → Sp) : ta (tb_X12_ends C) 8 = tr_dup 9 := rfl
theorem a_X12_ends_9 (C : Nat → Sp) : ta (tb_X12_ends C) 9 = tr_getI 12 13 1225 := rfl
theorem a_X12_ends_12 (C : Nat → Sp) : ta (tb_X12_ends C) 12 = tr_ic 13 1 := rfl
theorem a_X12_ends_13 (C : Nat → Sp) : ta (tb_X12_ends C) 13 = tr_isub 14 := rfl
theorem a_X12_ends_14 (C : Nat → Sp) : ta (tb_X12_ends C) 14 = tr_putI 17 13 1225 := rfl
theorem a_X12_ends_17 (C : Nat → Sp) : ta (tb_X12_ends C) 17 = tr_iload 18 2 := rfl
theorem a_X12_ends_18 (C : Nat → Sp) : ta (tb_X12_ends C) 18 = tr_ifle 21 58 := rfl
theorem a_X12_ends_21 (C : Nat → Sp) : ta (tb_X12_ends C) 21 = tr_aload 22 0 := rfl
theorem a_X12_ends_22 (C : Nat → Sp) : ta (tb_X12_ends C) 22 = tr_getR 25 13 1235 := rfl
theorem a_X12_ends_25 (C : Nat → Sp) : ta (tb_X12_ends C) 25 = tr_iload 26 2 := rfl
theorem a_X12_ends_26 (C : Nat → Sp) : ta (tb_X12_ends C) 26 = tr_ic 27 1 := rfl
theorem a_X12_ends_27 (C : Nat → Sp) : ta (tb_X12_ends C) 27 = tr_isub 28 := rfl
theorem a_X12_ends_28 (C : Nat → Sp) : ta (tb_X12_ends C) 28 = tr_aload 29 0 := rfl
theorem a_X12_ends_29 (C : Nat → Sp) : ta (tb_X12_ends C) 29 = tr_getR 32 13 1231 := rfl
theorem a_X12_ends_32 (C : Nat → Sp) : ta (tb_X12_ends C) 32 = tr_iload 33 2 := rfl
theorem a_X12_ends_33 (C : Nat → Sp) : ta (tb_X12_ends C) 33 = tr_bald 34 := rfl
theorem a_X12_ends_34 (C : Nat → Sp) : ta (tb_X12_ends C) 34 = tr_ifeq 37 48 := rfl
theorem a_X12_ends_37 (C : Nat → Sp) : ta (tb_X12_ends C) 37 = tr_aload 38 0 := rfl
theorem a_X12_ends_38 (C : Nat → Sp) : ta (tb_X12_ends C) 38 = tr_getR 41 13 1235 := rfl
theorem a_X12_ends_41 (C : Nat → Sp) : ta (tb_X12_ends C) 41 = tr_iload 42 2 := rfl
theorem a_X12_ends_42 (C : Nat → Sp) : ta (tb_X12_ends C) 42 = tr_ic 43 1 := rfl
theorem a_X12_ends_43 (C : Nat → Sp) : ta (tb_X12_ends C) 43 = tr_isub 44 := rfl
theorem a_X12_ends_44 (C : Nat → Sp) : ta (tb_X12_ends C) 44 = tr_lald 45 := rfl
theorem a_X12_ends_45 (C : Nat → Sp) : ta (tb_X12_ends C) 45 = tr_goto 54 := rfl
theorem a_X12_ends_48 (C : Nat → Sp) : ta (tb_X12_ends C) 48 = tr_aload 49 0 := rfl
theorem a_X12_ends_49 (C : Nat → Sp) : ta (tb_X12_ends C) 49 = tr_getR 52 13 1227 := rfl
theorem a_X12_ends_52 (C : Nat → Sp) : ta (tb_X12_ends C) 52 = tr_iload 53 2 := rfl
theorem a_X12_ends_53 (C : Nat → Sp) : ta (tb_X12_ends C) 53 = tr_lald 54 := rfl
theorem a_X12_ends_54 (C : Nat → Sp) : ta (tb_X12_ends C) 54 = tr_last 55 := rfl
theorem a_X12_ends_55 (C : Nat → Sp) : ta (tb_X12_ends C) 55 = tr_goto 82 := rfl
theorem a_X12_ends_58 (C : Nat → Sp) : ta (tb_X12_ends C) 58 = tr_iload 59 1 := rfl
theorem a_X12_ends_59 (C : Nat → Sp) : ta (tb_X12_ends C) 59 = tr_ifeq 62 82 := rfl
theorem a_X12_ends_62 (C : Nat → Sp) : ta (tb_X12_ends C) 62 = tr_aload 63 0 := rfl
theorem a_X12_ends_63 (C : Nat → Sp) : ta (tb_X12_ends C) 63 = tr_aload 64 0 := rfl
theorem a_X12_ends_64 (C : Nat → Sp) : ta (tb_X12_ends C) 64 = tr_getR 67 13 1231 := rfl
theorem a_X12_ends_67 (C : Nat → Sp) : ta (tb_X12_ends C) 67 = tr_iload 68 2 := rfl
theorem a_X12_ends_68 (C : Nat → Sp) : ta (tb_X12_ends C) 68 = tr_bald 69 := rfl
theorem a_X12_ends_69 (C : Nat → Sp) : ta (tb_X12_ends C) 69 = tr_putZ 72 13 1239 := rfl
theorem a_X12_ends_72 (C : Nat → Sp) : ta (tb_X12_ends C) 72 = tr_aload 73 0 := rfl
theorem a_X12_ends_73 (C : Nat → Sp) : ta (tb_X12_ends C) 73 = tr_aload 74 0 := rfl
theorem a_X12_ends_74 (C : Nat → Sp) : ta (tb_X12_ends C) 74 = tr_getR 77 13 1227 := rfl
theorem a_X12_ends_77 (C : Nat → Sp) : ta (tb_X12_ends C) 77 = tr_iload 78 2 := rfl
theorem a_X12_ends_78 (C : Nat → Sp) : ta (tb_X12_ends C) 78 = tr_lald 79 := rfl
theorem a_X12_ends_79 (C : Nat → Sp) : ta (tb_X12_ends C) 79 = tr_putL 82 13 1247 := rfl
theorem a_X12_ends_82 (C : Nat → Sp) : ta (tb_X12_ends C) 82 = tr_ret := rfl

def tb_X12_fails_0 (C : Nat → Sp) : Tab := [(0, tr_aload 1 0), (1, tr_getI 4 13 1225), (4, tr_ic 5 1), (5, tr_isub 6), (6, tr_istore 7 2), (7, tr_aload 8 0), (8, tr_getR 11 13 1249), (11, tr_aload 12 0), (12, tr_getI 15 13 1243), (15, tr_iload 16 1), (16, tr_iast 17), (17, tr_aload 18 0), (18, tr_getR 21 13 1250), (21, tr_aload 22 0), (22, tr_getI 25 13 1243), (25, tr_aload 26 0), (26, tr_getR 29 13 1233), (29, tr_iload 30 2), (30, tr_iald 31), (31, tr_iast 32), (32, tr_aload 33 0), (33, tr_getR 36 13 1251), (36, tr_aload 37 0), (37, tr_getI 40 13 1243), (40, tr_aload 41 0), (41, tr_getR 44 13 1234), (44, tr_iload 45 2), (45, tr_iald 46), (46, tr_ic 47 1), (47, tr_isub 48), (48, tr_iast 49), (49, tr_aload 50 0), (50, tr_dup 51), (51, tr_getI 54 13 1243), (54, tr_ic 55 1), (55, tr_iadd 56), (56, tr_putI 59 13 1243), (59, tr_aload 60 0), (60, tr_getR 63 13 1232), (63, tr_iload 64 2)]
set_option maxRecDepth 20000 in
theorem tbk_X12_fails_0 {D : DD} {d : Nat} {C : Nat → Sp} (hC : Snd D d C) : ∀ e ∈ tb_X12_fails_0 C, TrOk D (d + 1) mi_X12_fails e.1 e.2 :=
  tk_c (show TrOk D (d + 1) mi_X12_fails 0 (tr_aload 1 0) from ok_aload_n (show decode mi_X12_fails.2.1 0 = .ok (.aload_n 0, 1) from by decide +kernel) rfl) <|
  tk_c (show TrOk D (d + 1) mi_X12_fails 1 (tr_getI 4 13 1225) from ok_getI (ci := 12) (k := 25) (show decode mi_X12_fails.2.1 1 = .ok (.getfield 186, 3) from by decide +kernel) rfl (by decide) (gm 806 (by decide +kernel) rfl) rfl) <|
  tk_c (show TrOk D (d + 1) mi_X12_fails 4 (tr_ic 5 1) from ok_iconst (show decode mi_X12_fails.2.1 4 = .ok (.iconst 1, 1) from by decide +kernel) rfl) <|
  tk_c (show TrOk D (d + 1) mi_X12_fails 5 (tr_isub 6) from ok_isub (show decode mi_X12_fails.2.1 5 = .ok (.isub, 1) from by decide +kernel)) <|
  tk_c (show TrOk D (d + 1) mi_X12_fails 6 (tr_istore 7 2) from ok_istore_n (show decode mi_X12_fails.2.1 6 = .ok (.istore_n 2, 1) from by decide +kernel) rfl (by decide)) <|
  tk_c (show TrOk D (d + 1) mi_X12_fails 7 (tr_aload 8 0) from ok_aload_n (show decode mi_X12_fails.2.1 7 = .ok (.aload_n 0, 1) from by decide +kernel) rfl) <|
  tk_c (show TrOk D (d + 1) mi_X12_fails 8 (tr_getR 11 13 1249) from ok_getR (ci := 12) (k := 49) (show decode mi_X12_fails.2.1 8 = .ok (.getfield 118, 3) from by decide +kernel) rfl (by decide) (gm 830 (by decide +kernel) rfl) rfl) <|
  tk_c (show TrOk D (d + 1) mi_X12_fails 11 (tr_aload 12 0) from ok_aload_n (show decode mi_X12_fails.2.1 11 = .ok (.aload_n 0, 1) from by decide +kernel) rfl) <|
  tk_c (show TrOk D (d + 1) mi_X12_fails 12 (tr_getI 15 13 1243) from ok_getI (ci := 12) (k := 43) (show decode mi_X12_fails.2.1 12 = .ok (.getfield 214, 3) from by decide +kernel) rfl (by decide) (gm 824 (by decide +kernel) rfl) rfl) <|
  tk_c (show TrOk D (d + 1) mi_X12_fails 15 (tr_iload 16 1) from ok_iload_n (show decode mi_X12_fails.2.1 15 = .ok (.iload_n 1, 1) from by decide +kernel) rfl) <|
  tk_c (show TrOk D (d + 1) mi_X12_fails 16 (tr_iast 17) from ok_iast (show decode mi_X12_fails.2.1 16 = .ok (.iastore, 1) from by decide +kernel)) <|
  tk_c (show TrOk D (d + 1) mi_X12_fails 17 (tr_aload 18 0) from ok_aload_n (show decode mi_X12_fails.2.1 17 = .ok (.aload_n 0, 1) from by decide +kernel) rfl) <|
  tk_c (show TrOk D (d + 1) mi_X12_fails 18 (tr_getR 21 13 1250) from ok_getR (ci := 12) (k := 50) (show decode mi_X12_fails.2.1 18 = .ok (.getfield 121, 3) from by decide +kernel) rfl (by decide) (gm 831 (by decide +kernel) rfl) rfl) <|
  tk_c (show TrOk D (d + 1) mi_X12_fails 21 (tr_aload 22 0) from ok_aload_n (show decode mi_X12_fails.2.1 21 = .ok (.aload_n 0, 1) from by decide +kernel) rfl) <|
  tk_c (show TrOk D (d + 1) mi_X12_fails 22 (tr_getI 25 13 1243) from ok_getI (ci := 12) (k := 43) (show decode mi_X12_fails.2.1 22 = .ok (.getfield 214, 3) from by decide +kernel) rfl (by decide) (gm 824 (by decide +kernel) rfl) rfl) <|
  tk_c (show TrOk D (d + 1) mi_X12_fails 25 (tr_aload 26 0) from ok_aload_n (show decode mi_X12_fails.2.1 25 = .ok (.aload_n 0, 1) from by decide +kernel) rfl) <|
  tk_c (show TrOk D (d + 1) mi_X12_fails 26 (tr_getR 29 13 1233) from ok_getR (ci := 12) (k := 33) (show decode mi_X12_fails.2.1 26 = .ok (.getfield 96, 3) from by decide +kernel) rfl (by decide) (gm 814 (by decide +kernel) rfl) rfl) <|
  tk_c (show TrOk D (d + 1) mi_X12_fails 29 (tr_iload 30 2) from ok_iload_n (show decode mi_X12_fails.2.1 29 = .ok (.iload_n 2, 1) from by decide +kernel) rfl) <|
  tk_c (show TrOk D (d + 1) mi_X12_fails 30 (tr_iald 31) from ok_iald (show decode mi_X12_fails.2.1 30 = .ok (.iaload, 1) from by decide +kernel)) <|
  tk_c (show TrOk D (d + 1) mi_X12_fails 31 (tr_iast 32) from ok_iast (show decode mi_X12_fails.2.1 31 = .ok (.iastore, 1) from by decide +kernel)) <|
  tk_c (show TrOk D (d + 1) mi_X12_fails 32 (tr_aload 33 0) from ok_aload_n (show decode mi_X12_fails.2.1 32 = .ok (.aload_n 0, 1) from by decide +kernel) rfl) <|
  tk_c (show TrOk D (d + 1) mi_X12_fails 33 (tr_getR 36 13 1251) from ok_getR (ci := 12) (k := 51) (show decode mi_X12_fails.2.1 33 = .ok (.getfield 124, 3) from by decide +kernel) rfl (by decide) (gm 832 (by decide +kernel) rfl) rfl) <|
  tk_c (show TrOk D (d + 1) mi_X12_fails 36 (tr_aload 37 0) from ok_aload_n (show decode mi_X12_fails.2.1 36 = .ok (.aload_n 0, 1) from by decide +kernel) rfl) <|
  tk_c (show TrOk D (d + 1) mi_X12_fails 37 (tr_getI 40 13 1243) from ok_getI (ci := 12) (k := 43) (show decode mi_X12_fails.2.1 37 = .ok (.getfield 214, 3) from by decide +kernel) rfl (by decide) (gm 824 (by decide +kernel) rfl) rfl) <|
  tk_c (show TrOk D (d + 1) mi_X12_fails 40 (tr_aload 41 0) from ok_aload_n (show decode mi_X12_fails.2.1 40 = .ok (.aload_n 0, 1) from by decide +kernel) rfl) <|
  tk_c (show TrOk D (d + 1) mi_X12_fails 41 (tr_getR 44 13 1234) from ok_getR (ci := 12) (k := 34) (show decode mi_X12_fails.2.1 41 = .ok (.getfield 99, 3) from by decide +kernel) rfl (by decide) (gm 815 (by decide +kernel) rfl) rfl) <|
  tk_c (show TrOk D (d + 1) mi_X12_fails 44 (tr_iload 45 2) from ok_iload_n (show decode mi_X12_fails.2.1 44 = .ok (.iload_n 2, 1) from by decide +kernel) rfl) <|
  tk_c (show TrOk D (d + 1) mi_X12_fails 45 (tr_iald 46) from ok_iald (show decode mi_X12_fails.2.1 45 = .ok (.iaload, 1) from by decide +kernel)) <|
  tk_c (show TrOk D (d + 1) mi_X12_fails 46 (tr_ic 47 1) from ok_iconst (show decode mi_X12_fails.2.1 46 = .ok (.iconst 1, 1) from by decide +kernel) rfl) <|
  tk_c (show TrOk D (d + 1) mi_X12_fails 47 (tr_isub 48) from ok_isub (show decode mi_X12_fails.2.1 47 = .ok (.isub, 1) from by decide +kernel)) <|
  tk_c (show TrOk D (d + 1) mi_X12_fails 48 (tr_iast 49) from ok_iast (show decode mi_X12_fails.2.1 48 = .ok (.iastore, 1) from by decide +kernel)) <|
  tk_c (show TrOk D (d + 1) mi_X12_fails 49 (tr_aload 50 0) from ok_aload_n (show decode mi_X12_fails.2.1 49 = .ok (.aload_n 0, 1) from by decide +kernel) rfl) <|
  tk_c (show TrOk D (d + 1) mi_X12_fails 50 (tr_dup 51) from ok_dup (show decode mi_X12_fails.2.1 50 = .ok (.dup, 1) from by decide +kernel)) <|
  tk_c (show TrOk D (d + 1) mi_X12_fails 51 (tr_getI 54 13 1243) from ok_getI (ci := 12) (k := 43) (show decode mi_X12_fails.2.1 51 = .ok (.getfield 214, 3) from by decide +kernel) rfl (by decide) (gm 824 (by decide +kernel) rfl) rfl) <|
  tk_c (show TrOk D (d + 1) mi_X12_fails 54 (tr_ic 55 1) from ok_iconst (show decode mi_X12_fails.2.1 54 = .ok (.iconst 1, 1) from by decide +kernel) rfl) <|
  tk_c (show TrOk D (d + 1) mi_X12_fails 55 (tr_iadd 56) from ok_iadd (show decode mi_X12_fails.2.1 55 = .ok (.iadd, 1) from by decide +kernel)) <|
  tk_c (show TrOk D (d + 1) mi_X12_fails 56 (tr_putI 59 13 1243) from ok_putI (ci := 12) (k := 43) (show decode mi_X12_fails.2.1 56 = .ok (.putfield 214, 3) from by decide +kernel) rfl (by decide) (gm 824 (by decide +kernel) rfl) rfl (Or.inl rfl)) <|
  tk_c (show TrOk D (d + 1) mi_X12_fails 59 (tr_aload 60 0) from ok_aload_n (show decode mi_X12_fails.2.1 59 = .ok (.aload_n 0, 1) from by decide +kernel) rfl) <|
  tk_c (show TrOk D (d + 1) mi_X12_fails 60 (tr_getR 63 13 1232) from ok_getR (ci := 12) (k := 32) (show decode mi_X12_fails.2.1 60 = .ok (.getfield 93, 3) from by decide +kernel) rfl (by decide) (gm 813 (by decide +kernel) rfl) rfl) <|
  tk_c (show TrOk D (d + 1) mi_X12_fails 63 (tr_iload 64 2) from ok_iload_n (show decode mi_X12_fails.2.1 63 = .ok (.iload_n 2, 1) from by decide +kernel) rfl) <|
  tk_n
def tb_X12_fails_1 (C : Nat → Sp) : Tab := [(64, tr_ic 65 0), (65, tr_bast 66), (66, tr_ret)]
set_option maxRecDepth 20000 in
theorem tbk_X12_fails_1 {D : DD} {d : Nat} {C : Nat → Sp} (hC : Snd D d C) : ∀ e ∈ tb_X12_fails_1 C, TrOk D (d + 1) mi_X12_fails e.1 e.2 :=
  tk_c (show TrOk D (d + 1) mi_X12_fails 64 (tr_ic 65 0) from ok_iconst (show decode mi_X12_fails.2.1 64 = .ok (.iconst 0, 1) from by decide +kernel) rfl) <|
  tk_c (show TrOk D (d + 1) mi_X12_fails 65 (tr_bast 66) from ok_bast (show decode mi_X12_fails.2.1 65 = .ok (.bastore, 1) from by decide +kernel)) <|
  tk_c (show TrOk D (d + 1) mi_X12_fails 66 (tr_ret) from ok_ret (show decode mi_X12_fails.2.1 66 = .ok (.return_, 1) from by decide +kernel) rfl) <|
  tk_n
def tb_X12_fails (C : Nat → Sp) : Tab := tb_X12_fails_0 C ++ (tb_X12_fails_1 C)
theorem tbk_X12_fails {D : DD} {d : Nat} {C : Nat → Sp} (hC : Snd D d C) : ∀ e ∈ tb_X12_fails C, TrOk D (d + 1) mi_X12_fails e.1 e.2 := tk_a (tbk_X12_fails_0 hC) (tbk_X12_fails_1 hC)
theorem a_X12_fails_0 (C : Nat → Sp) : ta (tb_X12_fails C) 0 = tr_aload 1 0 := rfl
theorem a_X12_fails_1 (C : Nat → Sp) : ta (tb_X12_fails C) 1 = tr_getI 4 13 1225 := rfl
theorem a_X12_fails_4 (C : Nat → Sp) : ta (tb_X12_fails C) 4 = tr_ic 5 1 := rfl
theorem a_X12_fails_5 (C : Nat → Sp) : ta (tb_X12_fails C) 5 = tr_isub 6 := rfl
theorem a_X12_fails_6 (C : Nat → Sp) : ta (tb_X12_fails C) 6 = tr_istore 7 2 := rfl
theorem a_X12_fails_7 (C : Nat → Sp) : ta (tb_X12_fails C) 7 = tr_aload 8 0 := rfl
theorem a_X12_fails_8 (C : Nat → Sp) : ta (tb_X12_fails C) 8 = tr_getR 11 13 1249 := rfl
theorem a_X12_fails_11 (C : Nat → Sp) : ta (tb_X12_fails C) 11 = tr_aload 12 0 := rfl
theorem a_X12_fails_12 (C : Nat → Sp) : ta (tb_X12_fails C) 12 = tr_getI 15 13 1243 := rfl
theorem a_X12_fails_15 (C : Nat → Sp) : ta (tb_X12_fails C) 15 = tr_iload 16 1 := rfl
theorem a_X12_fails_16 (C : Nat → Sp) : ta (tb_X12_fails C) 16 = tr_iast 17 := rfl
theorem a_X12_fails_17 (C : Nat → Sp) : ta (tb_X12_fails C) 17 = tr_aload 18 0 := rfl
theorem a_X12_fails_18 (C : Nat → Sp) : ta (tb_X12_fails C) 18 = tr_getR 21 13 1250 := rfl
theorem a_X12_fails_21 (C : Nat → Sp) : ta (tb_X12_fails C) 21 = tr_aload 22 0 := rfl
theorem a_X12_fails_22 (C : Nat → Sp) : ta (tb_X12_fails C) 22 = tr_getI 25 13 1243 := rfl
theorem a_X12_fails_25 (C : Nat → Sp) : ta (tb_X12_fails C) 25 = tr_aload 26 0 := rfl
theorem a_X12_fails_26 (C : Nat → Sp) : ta (tb_X12_fails C) 26 = tr_getR 29 13 1233 := rfl
theorem a_X12_fails_29 (C : Nat → Sp) : ta (tb_X12_fails C) 29 = tr_iload 30 2 := rfl
theorem a_X12_fails_30 (C : Nat → Sp) : ta (tb_X12_fails C) 30 = tr_iald 31 := rfl
theorem a_X12_fails_31 (C : Nat → Sp) : ta (tb_X12_fails C) 31 = tr_iast 32 := rfl
theorem a_X12_fails_32 (C : Nat → Sp) : ta (tb_X12_fails C) 32 = tr_aload 33 0 := rfl
theorem a_X12_fails_33 (C : Nat → Sp) : ta (tb_X12_fails C) 33 = tr_getR 36 13 1251 := rfl
theorem a_X12_fails_36 (C : Nat → Sp) : ta (tb_X12_fails C) 36 = tr_aload 37 0 := rfl
theorem a_X12_fails_37 (C : Nat → Sp) : ta (tb_X12_fails C) 37 = tr_getI 40 13 1243 := rfl
theorem a_X12_fails_40 (C : Nat → Sp) : ta (tb_X12_fails C) 40 = tr_aload 41 0 := rfl
theorem a_X12_fails_41 (C : Nat → Sp) : ta (tb_X12_fails C) 41 = tr_getR 44 13 1234 := rfl
theorem a_X12_fails_44 (C : Nat → Sp) : ta (tb_X12_fails C) 44 = tr_iload 45 2 := rfl
theorem a_X12_fails_45 (C : Nat → Sp) : ta (tb_X12_fails C) 45 = tr_iald 46 := rfl
theorem a_X12_fails_46 (C : Nat → Sp) : ta (tb_X12_fails C) 46 = tr_ic 47 1 := rfl
theorem a_X12_fails_47 (C : Nat → Sp) : ta (tb_X12_fails C) 47 = tr_isub 48 := rfl
theorem a_X12_fails_48 (C : Nat → Sp) : ta (tb_X12_fails C) 48 = tr_iast 49 := rfl
theorem a_X12_fails_49 (C : Nat → Sp) : ta (tb_X12_fails C) 49 = tr_aload 50 0 := rfl
theorem a_X12_fails_50 (C : Nat → Sp) : ta (tb_X12_fails C) 50 = tr_dup 51 := rfl
theorem a_X12_fails_51 (C : Nat → Sp) : ta (tb_X12_fails C) 51 = tr_getI 54 13 1243 := rfl
theorem a_X12_fails_54 (C : Nat → Sp) : ta (tb_X12_fails C) 54 = tr_ic 55 1 := rfl
theorem a_X12_fails_55 (C : Nat → Sp) : ta (tb_X12_fails C) 55 = tr_iadd 56 := rfl
theorem a_X12_fails_56 (C : Nat → Sp) : ta (tb_X12_fails C) 56 = tr_putI 59 13 1243 := rfl
theorem a_X12_fails_59 (C : Nat → Sp) : ta (tb_X12_fails C) 59 = tr_aload 60 0 := rfl
theorem a_X12_fails_60 (C : Nat → Sp) : ta (tb_X12_fails C) 60 = tr_getR 63 13 1232 := rfl
theorem a_X12_fails_63 (C : Nat → Sp) : ta (tb_X12_fails C) 63 = tr_iload 64 2 := rfl
theorem a_X12_fails_64 (C : Nat → Sp) : ta (tb_X12_fails C) 64 = tr_ic 65 0 := rfl
theorem a_X12_fails_65 (C : Nat → Sp) : ta (tb_X12_fails C) 65 = tr_bast 66 := rfl
theorem a_X12_fails_66 (C : Nat → Sp) : ta (tb_X12_fails C) 66 = tr_ret := rfl

def tb_X12_against_0 (C : Nat → Sp) : Tab := [(0, tr_aload 1 0), (1, tr_getR 4 13 1219), (4, tr_iload 5 1), (5, tr_iald 6), (6, tr_ic 8 (-4)), (8, tr_icne 11 15), (11, tr_ic 12 1), (12, tr_goto 52), (15, tr_aload 16 0), (16, tr_getR 19 13 1219), (19, tr_iload 20 1), (20, tr_iald 21), (21, tr_ic 22 1), (22, tr_iceq 25 29), (25, tr_ic 26 3), (26, tr_goto 52), (29, tr_iload 30 2), (30, tr_i2l 31), (31, tr_lc 32 0), (32, tr_aload 33 0), (33, tr_getR 36 13 1220), (36, tr_iload 37 1), (37, tr_iald 38), (38, tr_ic 39 1), (39, tr_isub 40), (40, tr_i2l 41), (41, tr_callS (C 96) 44 3), (44, tr_ifeq 47 51), (47, tr_ic 48 0), (48, tr_goto 52), (51, tr_ic 52 2), (52, tr_iret)]
set_option maxRecDepth 20000 in
theorem tbk_X12_against_0 {D : DD} {d : Nat} {C : Nat → Sp} (hC : Snd D d C) : ∀ e ∈ tb_X12_against_0 C, TrOk D (d + 1) mi_X12_against e.1 e.2 :=
  tk_c (show TrOk D (d + 1) mi_X12_against 0 (tr_aload 1 0) from ok_aload_n (show decode mi_X12_against.2.1 0 = .ok (.aload_n 0, 1) from by decide +kernel) rfl) <|
  tk_c (show TrOk D (d + 1) mi_X12_against 1 (tr_getR 4 13 1219) from ok_getR (ci := 12) (k := 19) (show decode mi_X12_against.2.1 1 = .ok (.getfield 60, 3) from by decide +kernel) rfl (by decide) (gm 800 (by decide +kernel) rfl) rfl) <|
  tk_c (show TrOk D (d + 1) mi_X12_against 4 (tr_iload 5 1) from ok_iload_n (show decode mi_X12_against.2.1 4 = .ok (.iload_n 1, 1) from by decide +kernel) rfl) <|
  tk_c (show TrOk D (d + 1) mi_X12_against 5 (tr_iald 6) from ok_iald (show decode mi_X12_against.2.1 5 = .ok (.iaload, 1) from by decide +kernel)) <|
  tk_c (show TrOk D (d + 1) mi_X12_against 6 (tr_ic 8 (-4)) from ok_bipush (show decode mi_X12_against.2.1 6 = .ok (.bipush (-4), 2) from by decide +kernel) rfl) <|
  tk_c (show TrOk D (d + 1) mi_X12_against 8 (tr_icne 11 15) from ok_icne (show decode mi_X12_against.2.1 8 = .ok (.if_icmp .ne 7, 3) from by decide +kernel) (by decide)) <|
  tk_c (show TrOk D (d + 1) mi_X12_against 11 (tr_ic 12 1) from ok_iconst (show decode mi_X12_against.2.1 11 = .ok (.iconst 1, 1) from by decide +kernel) rfl) <|
  tk_c (show TrOk D (d + 1) mi_X12_against 12 (tr_goto 52) from ok_goto (show decode mi_X12_against.2.1 12 = .ok (.goto 40, 3) from by decide +kernel) (by decide)) <|
  tk_c (show TrOk D (d + 1) mi_X12_against 15 (tr_aload 16 0) from ok_aload_n (show decode mi_X12_against.2.1 15 = .ok (.aload_n 0, 1) from by decide +kernel) rfl) <|
  tk_c (show TrOk D (d + 1) mi_X12_against 16 (tr_getR 19 13 1219) from ok_getR (ci := 12) (k := 19) (show decode mi_X12_against.2.1 16 = .ok (.getfield 60, 3) from by decide +kernel) rfl (by decide) (gm 800 (by decide +kernel) rfl) rfl) <|
  tk_c (show TrOk D (d + 1) mi_X12_against 19 (tr_iload 20 1) from ok_iload_n (show decode mi_X12_against.2.1 19 = .ok (.iload_n 1, 1) from by decide +kernel) rfl) <|
  tk_c (show TrOk D (d + 1) mi_X12_against 20 (tr_iald 21) from ok_iald (show decode mi_X12_against.2.1 20 = .ok (.iaload, 1) from by decide +kernel)) <|
  tk_c (show TrOk D (d + 1) mi_X12_against 21 (tr_ic 22 1) from ok_iconst (show decode mi_X12_against.2.1 21 = .ok (.iconst 1, 1) from by decide +kernel) rfl) <|
  tk_c (show TrOk D (d + 1) mi_X12_against 22 (tr_iceq 25 29) from ok_iceq (show decode mi_X12_against.2.1 22 = .ok (.if_icmp .eq 7, 3) from by decide +kernel) (by decide)) <|
  tk_c (show TrOk D (d + 1) mi_X12_against 25 (tr_ic 26 3) from ok_iconst (show decode mi_X12_against.2.1 25 = .ok (.iconst 3, 1) from by decide +kernel) rfl) <|
  tk_c (show TrOk D (d + 1) mi_X12_against 26 (tr_goto 52) from ok_goto (show decode mi_X12_against.2.1 26 = .ok (.goto 26, 3) from by decide +kernel) (by decide)) <|
  tk_c (show TrOk D (d + 1) mi_X12_against 29 (tr_iload 30 2) from ok_iload_n (show decode mi_X12_against.2.1 29 = .ok (.iload_n 2, 1) from by decide +kernel) rfl) <|
  tk_c (show TrOk D (d + 1) mi_X12_against 30 (tr_i2l 31) from ok_i2l (show decode mi_X12_against.2.1 30 = .ok (.i2l, 1) from by decide +kernel)) <|
  tk_c (show TrOk D (d + 1) mi_X12_against 31 (tr_lc 32 0) from ok_lconst (show decode mi_X12_against.2.1 31 = .ok (.lconst 0, 1) from by decide +kernel) rfl) <|
  tk_c (show TrOk D (d + 1) mi_X12_against 32 (tr_aload 33 0) from ok_aload_n (show decode mi_X12_against.2.1 32 = .ok (.aload_n 0, 1) from by decide +kernel) rfl) <|
  tk_c (show TrOk D (d + 1) mi_X12_against 33 (tr_getR 36 13 1220) from ok_getR (ci := 12) (k := 20) (show decode mi_X12_against.2.1 33 = .ok (.getfield 63, 3) from by decide +kernel) rfl (by decide) (gm 801 (by decide +kernel) rfl) rfl) <|
  tk_c (show TrOk D (d + 1) mi_X12_against 36 (tr_iload 37 1) from ok_iload_n (show decode mi_X12_against.2.1 36 = .ok (.iload_n 1, 1) from by decide +kernel) rfl) <|
  tk_c (show TrOk D (d + 1) mi_X12_against 37 (tr_iald 38) from ok_iald (show decode mi_X12_against.2.1 37 = .ok (.iaload, 1) from by decide +kernel)) <|
  tk_c (show TrOk D (d + 1) mi_X12_against 38 (tr_ic 39 1) from ok_iconst (show decode mi_X12_against.2.1 38 = .ok (.iconst 1, 1) from by decide +kernel) rfl) <|
  tk_c (show TrOk D (d + 1) mi_X12_against 39 (tr_isub 40) from ok_isub (show decode mi_X12_against.2.1 39 = .ok (.isub, 1) from by decide +kernel)) <|
  tk_c (show TrOk D (d + 1) mi_X12_against 40 (tr_i2l 41) from ok_i2l (show decode mi_X12_against.2.1 40 = .ok (.i2l, 1) from by decide +kernel)) <|
  tk_c (show TrOk D (d + 1) mi_X12_against 41 (tr_callS (C 96) 44 3) from ok_callS (show decode mi_X12_against.2.1 41 = .ok (.invokestatic 136, 3) from by decide +kernel) mok_X12_in (gm 955 (by decide +kernel) rfl) (gm 956 (by decide +kernel) rfl) (hC 96)) <|
  tk_c (show TrOk D (d + 1) mi_X12_against 44 (tr_ifeq 47 51) from ok_ifeq (show decode mi_X12_against.2.1 44 = .ok (.ifCond .eq 7, 3) from by decide +kernel) (by decide)) <|
  tk_c (show TrOk D (d + 1) mi_X12_against 47 (tr_ic 48 0) from ok_iconst (show decode mi_X12_against.2.1 47 = .ok (.iconst 0, 1) from by decide +kernel) rfl) <|
  tk_c (show TrOk D (d + 1) mi_X12_against 48 (tr_goto 52) from ok_goto (show decode mi_X12_against.2.1 48 = .ok (.goto 4, 3) from by decide +kernel) (by decide)) <|
  tk_c (show TrOk D (d + 1) mi_X12_against 51 (tr_ic 52 2) from ok_iconst (show decode mi_X12_against.2.1 51 = .ok (.iconst 2, 1) from by decide +kernel) rfl) <|
  tk_c (show TrOk D (d + 1) mi_X12_against 52 (tr_iret) from ok_iret (show decode mi_X12_against.2.1 52 = .ok (.ireturn, 1) from by decide +kernel) rfl) <|
  tk_n
def tb_X12_against (C : Nat → Sp) : Tab := tb_X12_against_0 C
theorem tbk_X12_against {D : DD} {d : Nat} {C : Nat → Sp} (hC : Snd D d C) : ∀ e ∈ tb_X12_against C, TrOk D (d + 1) mi_X12_against e.1 e.2 := tbk_X12_against_0 hC
theorem a_X12_against_0 (C : Nat → Sp) : ta (tb_X12_against C) 0 = tr_aload 1 0 := rfl
theorem a_X12_against_1 (C : Nat → Sp) : ta (tb_X12_against C) 1 = tr_getR 4 13 1219 := rfl
theorem a_X12_against_4 (C : Nat → Sp) : ta (tb_X12_against C) 4 = tr_iload 5 1 := rfl
theorem a_X12_against_5 (C : Nat → Sp) : ta (tb_X12_against C) 5 = tr_iald 6 := rfl
theorem a_X12_against_6 (C : Nat → Sp) : ta (tb_X12_against C) 6 = tr_ic 8 (-4) := rfl
theorem a_X12_against_8 (C : Nat → Sp) : ta (tb_X12_against C) 8 = tr_icne 11 15 := rfl
theorem a_X12_against_11 (C : Nat → Sp) : ta (tb_X12_against C) 11 = tr_ic 12 1 := rfl
theorem a_X12_against_12 (C : Nat → Sp) : ta (tb_X12_against C) 12 = tr_goto 52 := rfl
theorem a_X12_against_15 (C : Nat → Sp) : ta (tb_X12_against C) 15 = tr_aload 16 0 := rfl
theorem a_X12_against_16 (C : Nat → Sp) : ta (tb_X12_against C) 16 = tr_getR 19 13 1219 := rfl
theorem a_X12_against_19 (C : Nat → Sp) : ta (tb_X12_against C) 19 = tr_iload 20 1 := rfl
theorem a_X12_against_20 (C : Nat → Sp) : ta (tb_X12_against C) 20 = tr_iald 21 := rfl
theorem a_X12_against_21 (C : Nat → Sp) : ta (tb_X12_against C) 21 = tr_ic 22 1 := rfl
theorem a_X12_against_22 (C : Nat → Sp) : ta (tb_X12_against C) 22 = tr_iceq 25 29 := rfl
theorem a_X12_against_25 (C : Nat → Sp) : ta (tb_X12_against C) 25 = tr_ic 26 3 := rfl
theorem a_X12_against_26 (C : Nat → Sp) : ta (tb_X12_against C) 26 = tr_goto 52 := rfl
theorem a_X12_against_29 (C : Nat → Sp) : ta (tb_X12_against C) 29 = tr_iload 30 2 := rfl
theorem a_X12_against_30 (C : Nat → Sp) : ta (tb_X12_against C) 30 = tr_i2l 31 := rfl
theorem a_X12_against_31 (C : Nat → Sp) : ta (tb_X12_against C) 31 = tr_lc 32 0 := rfl
theorem a_X12_against_32 (C : Nat → Sp) : ta (tb_X12_against C) 32 = tr_aload 33 0 := rfl
theorem a_X12_against_33 (C : Nat → Sp) : ta (tb_X12_against C) 33 = tr_getR 36 13 1220 := rfl
theorem a_X12_against_36 (C : Nat → Sp) : ta (tb_X12_against C) 36 = tr_iload 37 1 := rfl
theorem a_X12_against_37 (C : Nat → Sp) : ta (tb_X12_against C) 37 = tr_iald 38 := rfl
theorem a_X12_against_38 (C : Nat → Sp) : ta (tb_X12_against C) 38 = tr_ic 39 1 := rfl
theorem a_X12_against_39 (C : Nat → Sp) : ta (tb_X12_against C) 39 = tr_isub 40 := rfl
theorem a_X12_against_40 (C : Nat → Sp) : ta (tb_X12_against C) 40 = tr_i2l 41 := rfl
theorem a_X12_against_41 (C : Nat → Sp) : ta (tb_X12_against C) 41 = tr_callS (C 96) 44 3 := rfl
theorem a_X12_against_44 (C : Nat → Sp) : ta (tb_X12_against C) 44 = tr_ifeq 47 51 := rfl
theorem a_X12_against_47 (C : Nat → Sp) : ta (tb_X12_against C) 47 = tr_ic 48 0 := rfl
theorem a_X12_against_48 (C : Nat → Sp) : ta (tb_X12_against C) 48 = tr_goto 52 := rfl
theorem a_X12_against_51 (C : Nat → Sp) : ta (tb_X12_against C) 51 = tr_ic 52 2 := rfl
theorem a_X12_against_52 (C : Nat → Sp) : ta (tb_X12_against C) 52 = tr_iret := rfl

def tb_X12_does_0 (C : Nat → Sp) : Tab := [(0, tr_aload 1 0), (1, tr_getI 4 13 1225), (4, tr_ic 5 1), (5, tr_isub 6), (6, tr_istore 8 4), (8, tr_aload 9 0), (9, tr_getR 12 13 1233), (12, tr_iload 14 4), (14, tr_iald 15), (15, tr_istore 17 5), (17, tr_aload 18 0), (18, tr_getR 21 13 1235), (21, tr_iload 23 4), (23, tr_lald 24), (24, tr_lstore 26 6), (26, tr_ic 27 0), (27, tr_istore 29 8), (29, tr_iload 30 1), (30, tr_sw 0 [80, 95, 107, 178, 184, 184, 222, 248, 260] 293), (80, tr_aload 81 0), (81, tr_getR 84 13 1235), (84, tr_iload 86 4), (86, tr_lload 88 6), (88, tr_iload 89 2), (89, tr_i2l 90), (90, tr_ladd 91), (91, tr_last 92), (92, tr_goto 322), (95, tr_aload 96 0), (96, tr_getR 99 13 1235), (99, tr_iload 101 4), (101, tr_iload 102 2), (102, tr_i2l 103), (103, tr_last 104), (104, tr_goto 322), (107, tr_aload 108 0), (108, tr_getR 111 13 1228), (111, tr_iload 113 4), (113, tr_iald 114), (114, tr_ifne 117 171)]
set_option maxRecDepth 20000 in
theorem tbk_X12_does_0 {D : DD} {d : Nat} {C : Nat → Sp} (hC : Snd D d C) : ∀ e ∈ tb_X12_does_0 C, TrOk D (d + 1) mi_X12_does e.1 e.2 :=
  tk_c (show TrOk D (d + 1) mi_X12_does 0 (tr_aload 1 0) from ok_aload_n (show decode mi_X12_does.2.1 0 = .ok (.aload_n 0, 1) from by decide +kernel) rfl) <|
  tk_c (show TrOk D (d + 1) mi_X12_does 1 (tr_getI 4 13 1225) from ok_getI (ci := 12) (k := 25) (show decode mi_X12_does.2.1 1 = .ok (.getfield 186, 3) from by decide +kernel) rfl (by decide) (gm 806 (by decide +kernel) rfl) rfl) <|
  tk_c (show TrOk D (d + 1) mi_X12_does 4 (tr_ic 5 1) from ok_iconst (show decode mi_X12_does.2.1 4 = .ok (.iconst 1, 1) from by decide +kernel) rfl) <|
  tk_c (show TrOk D (d + 1) mi_X12_does 5 (tr_isub 6) from ok_isub (show decode mi_X12_does.2.1 5 = .ok (.isub, 1) from by decide +kernel)) <|
  tk_c (show TrOk D (d + 1) mi_X12_does 6 (tr_istore 8 4) from ok_istore (show decode mi_X12_does.2.1 6 = .ok (.istore 4, 2) from by decide +kernel) (by decide)) <|
  tk_c (show TrOk D (d + 1) mi_X12_does 8 (tr_aload 9 0) from ok_aload_n (show decode mi_X12_does.2.1 8 = .ok (.aload_n 0, 1) from by decide +kernel) rfl) <|
  tk_c (show TrOk D (d + 1) mi_X12_does 9 (tr_getR 12 13 1233) from ok_getR (ci := 12) (k := 33) (show decode mi_X12_does.2.1 9 = .ok (.getfield 96, 3) from by decide +kernel) rfl (by decide) (gm 814 (by decide +kernel) rfl) rfl) <|
  tk_c (show TrOk D (d + 1) mi_X12_does 12 (tr_iload 14 4) from ok_iload (show decode mi_X12_does.2.1 12 = .ok (.iload 4, 2) from by decide +kernel)) <|
  tk_c (show TrOk D (d + 1) mi_X12_does 14 (tr_iald 15) from ok_iald (show decode mi_X12_does.2.1 14 = .ok (.iaload, 1) from by decide +kernel)) <|
  tk_c (show TrOk D (d + 1) mi_X12_does 15 (tr_istore 17 5) from ok_istore (show decode mi_X12_does.2.1 15 = .ok (.istore 5, 2) from by decide +kernel) (by decide)) <|
  tk_c (show TrOk D (d + 1) mi_X12_does 17 (tr_aload 18 0) from ok_aload_n (show decode mi_X12_does.2.1 17 = .ok (.aload_n 0, 1) from by decide +kernel) rfl) <|
  tk_c (show TrOk D (d + 1) mi_X12_does 18 (tr_getR 21 13 1235) from ok_getR (ci := 12) (k := 35) (show decode mi_X12_does.2.1 18 = .ok (.getfield 102, 3) from by decide +kernel) rfl (by decide) (gm 816 (by decide +kernel) rfl) rfl) <|
  tk_c (show TrOk D (d + 1) mi_X12_does 21 (tr_iload 23 4) from ok_iload (show decode mi_X12_does.2.1 21 = .ok (.iload 4, 2) from by decide +kernel)) <|
  tk_c (show TrOk D (d + 1) mi_X12_does 23 (tr_lald 24) from ok_lald (show decode mi_X12_does.2.1 23 = .ok (.laload, 1) from by decide +kernel)) <|
  tk_c (show TrOk D (d + 1) mi_X12_does 24 (tr_lstore 26 6) from ok_lstore (show decode mi_X12_does.2.1 24 = .ok (.lstore 6, 2) from by decide +kernel) (by decide)) <|
  tk_c (show TrOk D (d + 1) mi_X12_does 26 (tr_ic 27 0) from ok_iconst (show decode mi_X12_does.2.1 26 = .ok (.iconst 0, 1) from by decide +kernel) rfl) <|
  tk_c (show TrOk D (d + 1) mi_X12_does 27 (tr_istore 29 8) from ok_istore (show decode mi_X12_does.2.1 27 = .ok (.istore 8, 2) from by decide +kernel) (by decide)) <|
  tk_c (show TrOk D (d + 1) mi_X12_does 29 (tr_iload 30 1) from ok_iload_n (show decode mi_X12_does.2.1 29 = .ok (.iload_n 1, 1) from by decide +kernel) rfl) <|
  tk_c (show TrOk D (d + 1) mi_X12_does 30 (tr_sw 0 [80, 95, 107, 178, 184, 184, 222, 248, 260] 293) from ok_sw 0 (show decode mi_X12_does.2.1 30 = .ok (.tableswitch 263 0 8 #[50, 65, 77, 148, 154, 154, 192, 218, 230], 50) from by decide +kernel) rfl rfl (by decide) (by decide) (by decide) (by decide +kernel)) <|
  tk_c (show TrOk D (d + 1) mi_X12_does 80 (tr_aload 81 0) from ok_aload_n (show decode mi_X12_does.2.1 80 = .ok (.aload_n 0, 1) from by decide +kernel) rfl) <|
  tk_c (show TrOk D (d + 1) mi_X12_does 81 (tr_getR 84 13 1235) from ok_getR (ci := 12) (k := 35) (show decode mi_X12_does.2.1 81 = .ok (.getfield 102, 3) from by decide +kernel) rfl (by decide) (gm 816 (by decide +kernel) rfl) rfl) <|
  tk_c (show TrOk D (d + 1) mi_X12_does 84 (tr_iload 86 4) from ok_iload (show decode mi_X12_does.2.1 84 = .ok (.iload 4, 2) from by decide +kernel)) <|
  tk_c (show TrOk D (d + 1) mi_X12_does 86 (tr_lload 88 6) from ok_lload (show decode mi_X12_does.2.1 86 = .ok (.lload 6, 2) from by decide +kernel)) <|
  tk_c (show TrOk D (d + 1) mi_X12_does 88 (tr_iload 89 2) from ok_iload_n (show decode mi_X12_does.2.1 88 = .ok (.iload_n 2, 1) from by decide +kernel) rfl) <|
  tk_c (show TrOk D (d + 1) mi_X12_does 89 (tr_i2l 90) from ok_i2l (show decode mi_X12_does.2.1 89 = .ok (.i2l, 1) from by decide +kernel)) <|
  tk_c (show TrOk D (d + 1) mi_X12_does 90 (tr_ladd 91) from ok_ladd (show decode mi_X12_does.2.1 90 = .ok (.ladd, 1) from by decide +kernel)) <|
  tk_c (show TrOk D (d + 1) mi_X12_does 91 (tr_last 92) from ok_last (show decode mi_X12_does.2.1 91 = .ok (.lastore, 1) from by decide +kernel)) <|
  tk_c (show TrOk D (d + 1) mi_X12_does 92 (tr_goto 322) from ok_goto (show decode mi_X12_does.2.1 92 = .ok (.goto 230, 3) from by decide +kernel) (by decide)) <|
  tk_c (show TrOk D (d + 1) mi_X12_does 95 (tr_aload 96 0) from ok_aload_n (show decode mi_X12_does.2.1 95 = .ok (.aload_n 0, 1) from by decide +kernel) rfl) <|
  tk_c (show TrOk D (d + 1) mi_X12_does 96 (tr_getR 99 13 1235) from ok_getR (ci := 12) (k := 35) (show decode mi_X12_does.2.1 96 = .ok (.getfield 102, 3) from by decide +kernel) rfl (by decide) (gm 816 (by decide +kernel) rfl) rfl) <|
  tk_c (show TrOk D (d + 1) mi_X12_does 99 (tr_iload 101 4) from ok_iload (show decode mi_X12_does.2.1 99 = .ok (.iload 4, 2) from by decide +kernel)) <|
  tk_c (show TrOk D (d + 1) mi_X12_does 101 (tr_iload 102 2) from ok_iload_n (show decode mi_X12_does.2.1 101 = .ok (.iload_n 2, 1) from by decide +kernel) rfl) <|
  tk_c (show TrOk D (d + 1) mi_X12_does 102 (tr_i2l 103) from ok_i2l (show decode mi_X12_does.2.1 102 = .ok (.i2l, 1) from by decide +kernel)) <|
  tk_c (show TrOk D (d + 1) mi_X12_does 103 (tr_last 104) from ok_last (show decode mi_X12_does.2.1 103 = .ok (.lastore, 1) from by decide +kernel)) <|
  tk_c (show TrOk D (d + 1) mi_X12_does 104 (tr_goto 322) from ok_goto (show decode mi_X12_does.2.1 104 = .ok (.goto 218, 3) from by decide +kernel) (by decide)) <|
  tk_c (show TrOk D (d + 1) mi_X12_does 107 (tr_aload 108 0) from ok_aload_n (show decode mi_X12_does.2.1 107 = .ok (.aload_n 0, 1) from by decide +kernel) rfl) <|
  tk_c (show TrOk D (d + 1) mi_X12_does 108 (tr_getR 111 13 1228) from ok_getR (ci := 12) (k := 28) (show decode mi_X12_does.2.1 108 = .ok (.getfield 81, 3) from by decide +kernel) rfl (by decide) (gm 809 (by decide +kernel) rfl) rfl) <|
  tk_c (show TrOk D (d + 1) mi_X12_does 111 (tr_iload 113 4) from ok_iload (show decode mi_X12_does.2.1 111 = .ok (.iload 4, 2) from by decide +kernel)) <|
  tk_c (show TrOk D (d + 1) mi_X12_does 113 (tr_iald 114) from ok_iald (show decode mi_X12_does.2.1 113 = .ok (.iaload, 1) from by decide +kernel)) <|
  tk_c (show TrOk D (d + 1) mi_X12_does 114 (tr_ifne 117 171) from ok_ifne (show decode mi_X12_does.2.1 114 = .ok (.ifCond .ne 57, 3) from by decide +kernel) (by decide)) <|
  tk_n
def tb_X12_does_1 (C : Nat → Sp) : Tab := [(117, tr_aload 118 0), (118, tr_dup 119), (119, tr_getI 122 13 1244), (122, tr_ic 123 1), (123, tr_iadd 124), (124, tr_putI 127 13 1244), (127, tr_aload 128 0), (128, tr_getR 131 13 1231), (131, tr_iload 133 4), (133, tr_ic 134 1), (134, tr_bast 135), (135, tr_aload 136 0), (136, tr_getR 139 13 1232), (139, tr_iload 141 4), (141, tr_ic 142 0), (142, tr_bast 143), (143, tr_aload 144 0), (144, tr_iload 145 3), (145, tr_ifeq 148 158), (148, tr_iload 150 4), (150, tr_ifne 153 158), (153, tr_iload 155 5), (155, tr_goto 162), (158, tr_aload 159 0), (159, tr_getI 162 13 1246), (162, tr_putI 165 13 1246), (165, tr_aload 166 0), (166, tr_iload 167 3), (167, tr_callV (C 119) 170 13 1), (170, tr_ret), (171, tr_ic 173 8), (173, tr_istore 175 8), (175, tr_goto 322), (178, tr_iload 179 2), (179, tr_istore 181 8), (181, tr_goto 322), (184, tr_iload 185 2), (185, tr_ifne 188 194), (188, tr_ic 189 5), (189, tr_istore 191 8)]
set_option maxRecDepth 20000 in
theorem tbk_X12_does_1 {D : DD} {d : Nat} {C : Nat → Sp} (hC : Snd D d C) : ∀ e ∈ tb_X12_does_1 C, TrOk D (d + 1) mi_X12_does e.1 e.2 :=
  tk_c (show TrOk D (d + 1) mi_X12_does 117 (tr_aload 118 0) from ok_aload_n (show decode mi_X12_does.2.1 117 = .ok (.aload_n 0, 1) from by decide +kernel) rfl) <|
  tk_c (show TrOk D (d + 1) mi_X12_does 118 (tr_dup 119) from ok_dup (show decode mi_X12_does.2.1 118 = .ok (.dup, 1) from by decide +kernel)) <|
  tk_c (show TrOk D (d + 1) mi_X12_does 119 (tr_getI 122 13 1244) from ok_getI (ci := 12) (k := 44) (show decode mi_X12_does.2.1 119 = .ok (.getfield 217, 3) from by decide +kernel) rfl (by decide) (gm 825 (by decide +kernel) rfl) rfl) <|
  tk_c (show TrOk D (d + 1) mi_X12_does 122 (tr_ic 123 1) from ok_iconst (show decode mi_X12_does.2.1 122 = .ok (.iconst 1, 1) from by decide +kernel) rfl) <|
  tk_c (show TrOk D (d + 1) mi_X12_does 123 (tr_iadd 124) from ok_iadd (show decode mi_X12_does.2.1 123 = .ok (.iadd, 1) from by decide +kernel)) <|
  tk_c (show TrOk D (d + 1) mi_X12_does 124 (tr_putI 127 13 1244) from ok_putI (ci := 12) (k := 44) (show decode mi_X12_does.2.1 124 = .ok (.putfield 217, 3) from by decide +kernel) rfl (by decide) (gm 825 (by decide +kernel) rfl) rfl (Or.inl rfl)) <|
  tk_c (show TrOk D (d + 1) mi_X12_does 127 (tr_aload 128 0) from ok_aload_n (show decode mi_X12_does.2.1 127 = .ok (.aload_n 0, 1) from by decide +kernel) rfl) <|
  tk_c (show TrOk D (d + 1) mi_X12_does 128 (tr_getR 131 13 1231) from ok_getR (ci := 12) (k := 31) (show decode mi_X12_does.2.1 128 = .ok (.getfield 90, 3) from by decide +kernel) rfl (by decide) (gm 812 (by decide +kernel) rfl) rfl) <|
  tk_c (show TrOk D (d + 1) mi_X12_does 131 (tr_iload 133 4) from ok_iload (show decode mi_X12_does.2.1 131 = .ok (.iload 4, 2) from by decide +kernel)) <|
  tk_c (show TrOk D (d + 1) mi_X12_does 133 (tr_ic 134 1) from ok_iconst (show decode mi_X12_does.2.1 133 = .ok (.iconst 1, 1) from by decide +kernel) rfl) <|
  tk_c (show TrOk D (d + 1) mi_X12_does 134 (tr_bast 135) from ok_bast (show decode mi_X12_does.2.1 134 = .ok (.bastore, 1) from by decide +kernel)) <|
  tk_c (show TrOk D (d + 1) mi_X12_does 135 (tr_aload 136 0) from ok_aload_n (show decode mi_X12_does.2.1 135 = .ok (.aload_n 0, 1) from by decide +kernel) rfl) <|
  tk_c (show TrOk D (d + 1) mi_X12_does 136 (tr_getR 139 13 1232) from ok_getR (ci := 12) (k := 32) (show decode mi_X12_does.2.1 136 = .ok (.getfield 93, 3) from by decide +kernel) rfl (by decide) (gm 813 (by decide +kernel) rfl) rfl) <|
  tk_c (show TrOk D (d + 1) mi_X12_does 139 (tr_iload 141 4) from ok_iload (show decode mi_X12_does.2.1 139 = .ok (.iload 4, 2) from by decide +kernel)) <|
  tk_c (show TrOk D (d + 1) mi_X12_does 141 (tr_ic 142 0) from ok_iconst (show decode mi_X12_does.2.1 141 = .ok (.iconst 0, 1) from by decide +kernel) rfl) <|
  tk_c (show TrOk D (d + 1) mi_X12_does 142 (tr_bast 143) from ok_bast (show decode mi_X12_does.2.1 142 = .ok (.bastore, 1) from by decide +kernel)) <|
  tk_c (show TrOk D (d + 1) mi_X12_does 143 (tr_aload 144 0) from ok_aload_n (show decode mi_X12_does.2.1 143 = .ok (.aload_n 0, 1) from by decide +kernel) rfl) <|
  tk_c (show TrOk D (d + 1) mi_X12_does 144 (tr_iload 145 3) from ok_iload_n (show decode mi_X12_does.2.1 144 = .ok (.iload_n 3, 1) from by decide +kernel) rfl) <|
  tk_c (show TrOk D (d + 1) mi_X12_does 145 (tr_ifeq 148 158) from ok_ifeq (show decode mi_X12_does.2.1 145 = .ok (.ifCond .eq 13, 3) from by decide +kernel) (by decide)) <|
  tk_c (show TrOk D (d + 1) mi_X12_does 148 (tr_iload 150 4) from ok_iload (show decode mi_X12_does.2.1 148 = .ok (.iload 4, 2) from by decide +kernel)) <|
  tk_c (show TrOk D (d + 1) mi_X12_does 150 (tr_ifne 153 158) from ok_ifne (show decode mi_X12_does.2.1 150 = .ok (.ifCond .ne 8, 3) from by decide +kernel) (by decide)) <|
  tk_c (show TrOk D (d + 1) mi_X12_does 153 (tr_iload 155 5) from ok_iload (show decode mi_X12_does.2.1 153 = .ok (.iload 5, 2) from by decide +kernel)) <|
  tk_c (show TrOk D (d + 1) mi_X12_does 155 (tr_goto 162) from ok_goto (show decode mi_X12_does.2.1 155 = .ok (.goto 7, 3) from by decide +kernel) (by decide)) <|
  tk_c (show TrOk D (d + 1) mi_X12_does 158 (tr_aload 159 0) from ok_aload_n (show decode mi_X12_does.2.1 158 = .ok (.aload_n 0, 1) from by decide +kernel) rfl) <|
  tk_c (show TrOk D (d + 1) mi_X12_does 159 (tr_getI 162 13 1246) from ok_getI (ci := 12) (k := 46) (show decode mi_X12_does.2.1 159 = .ok (.getfield 111, 3) from by decide +kernel) rfl (by decide) (gm 827 (by decide +kernel) rfl) rfl) <|
  tk_c (show TrOk D (d + 1) mi_X12_does 162 (tr_putI 165 13 1246) from ok_putI (ci := 12) (k := 46) (show decode mi_X12_does.2.1 162 = .ok (.putfield 111, 3) from by decide +kernel) rfl (by decide) (gm 827 (by decide +kernel) rfl) rfl (Or.inl rfl)) <|
  tk_c (show TrOk D (d + 1) mi_X12_does 165 (tr_aload 166 0) from ok_aload_n (show decode mi_X12_does.2.1 165 = .ok (.aload_n 0, 1) from by decide +kernel) rfl) <|
  tk_c (show TrOk D (d + 1) mi_X12_does 166 (tr_iload 167 3) from ok_iload_n (show decode mi_X12_does.2.1 166 = .ok (.iload_n 3, 1) from by decide +kernel) rfl) <|
  tk_c (show TrOk D (d + 1) mi_X12_does 167 (tr_callV (C 119) 170 13 1) from ok_callV (ci := 12) (show decode mi_X12_does.2.1 167 = .ok (.invokevirtual 220, 3) from by decide +kernel) mok_X12_ends rfl rfl (gm 1053 (by decide +kernel) rfl) (gm 1055 (by decide +kernel) rfl) (gm 23 (by decide +kernel) rfl) (hC 119)) <|
  tk_c (show TrOk D (d + 1) mi_X12_does 170 (tr_ret) from ok_ret (show decode mi_X12_does.2.1 170 = .ok (.return_, 1) from by decide +kernel) rfl) <|
  tk_c (show TrOk D (d + 1) mi_X12_does 171 (tr_ic 173 8) from ok_bipush (show decode mi_X12_does.2.1 171 = .ok (.bipush 8, 2) from by decide +kernel) rfl) <|
  tk_c (show TrOk D (d + 1) mi_X12_does 173 (tr_istore 175 8) from ok_istore (show decode mi_X12_does.2.1 173 = .ok (.istore 8, 2) from by decide +kernel) (by decide)) <|
  tk_c (show TrOk D (d + 1) mi_X12_does 175 (tr_goto 322) from ok_goto (show decode mi_X12_does.2.1 175 = .ok (.goto 147, 3) from by decide +kernel) (by decide)) <|
  tk_c (show TrOk D (d + 1) mi_X12_does 178 (tr_iload 179 2) from ok_iload_n (show decode mi_X12_does.2.1 178 = .ok (.iload_n 2, 1) from by decide +kernel) rfl) <|
  tk_c (show TrOk D (d + 1) mi_X12_does 179 (tr_istore 181 8) from ok_istore (show decode mi_X12_does.2.1 179 = .ok (.istore 8, 2) from by decide +kernel) (by decide)) <|
  tk_c (show TrOk D (d + 1) mi_X12_does 181 (tr_goto 322) from ok_goto (show decode mi_X12_does.2.1 181 = .ok (.goto 141, 3) from by decide +kernel) (by decide)) <|
  tk_c (show TrOk D (d + 1) mi_X12_does 184 (tr_iload 185 2) from ok_iload_n (show decode mi_X12_does.2.1 184 = .ok (.iload_n 2, 1) from by decide +kernel) rfl) <|
  tk_c (show TrOk D (d + 1) mi_X12_does 185 (tr_ifne 188 194) from ok_ifne (show decode mi_X12_does.2.1 185 = .ok (.ifCond .ne 9, 3) from by decide +kernel) (by decide)) <|
  tk_c (show TrOk D (d + 1) mi_X12_does 188 (tr_ic 189 5) from ok_iconst (show decode mi_X12_does.2.1 188 = .ok (.iconst 5, 1) from by decide +kernel) rfl) <|
  tk_c (show TrOk D (d + 1) mi_X12_does 189 (tr_istore 191 8) from ok_istore (show decode mi_X12_does.2.1 189 = .ok (.istore 8, 2) from by decide +kernel) (by decide)) <|
  tk_n
def tb_X12_does_2 (C : Nat → Sp) : Tab := [(191, tr_goto 322), (194, tr_aload 195 0), (195, tr_getR 198 13 1235), (198, tr_iload 200 4), (200, tr_iload 201 1), (201, tr_ic 202 4), (202, tr_icne 205 213), (205, tr_lload 207 6), (207, tr_iload 208 2), (208, tr_i2l 209), (209, tr_ldiv 210), (210, tr_goto 218), (213, tr_lload 215 6), (215, tr_iload 216 2), (216, tr_i2l 217), (217, tr_lrem 218), (218, tr_last 219), (219, tr_goto 322), (222, tr_aload 223 0), (223, tr_getR 226 13 1234), (226, tr_iload 228 4), (228, tr_dup2 229), (229, tr_iald 230), (230, tr_lload 232 6), (232, tr_iload 233 2), (233, tr_i2l 234), (234, tr_lcmp 235), (235, tr_ifge 238 242), (238, tr_ic 239 1), (239, tr_goto 243), (242, tr_ic 243 0), (243, tr_iadd 244), (244, tr_iast 245), (245, tr_goto 322), (248, tr_aload 249 0), (249, tr_getR 252 13 1234), (252, tr_iload 254 4), (254, tr_ic 256 10), (256, tr_iast 257), (257, tr_goto 322)]
set_option maxRecDepth 20000 in
theorem tbk_X12_does_2 {D : DD} {d : Nat} {C : Nat → Sp} (hC : Snd D d C) : ∀ e ∈ tb_X12_does_2 C, TrOk D (d + 1) mi_X12_does e.1 e.2 :=
  tk_c (show TrOk D (d + 1) mi_X12_does 191 (tr_goto 322) from ok_goto (show decode mi_X12_does.2.1 191 = .ok (.goto 131, 3) from by decide +kernel) (by decide)) <|
  tk_c (show TrOk D (d + 1) mi_X12_does 194 (tr_aload 195 0) from ok_aload_n (show decode mi_X12_does.2.1 194 = .ok (.aload_n 0, 1) from by decide +kernel) rfl) <|
  tk_c (show TrOk D (d + 1) mi_X12_does 195 (tr_getR 198 13 1235) from ok_getR (ci := 12) (k := 35) (show decode mi_X12_does.2.1 195 = .ok (.getfield 102, 3) from by decide +kernel) rfl (by decide) (gm 816 (by decide +kernel) rfl) rfl) <|
  tk_c (show TrOk D (d + 1) mi_X12_does 198 (tr_iload 200 4) from ok_iload (show decode mi_X12_does.2.1 198 = .ok (.iload 4, 2) from by decide +kernel)) <|
  tk_c (show TrOk D (d + 1) mi_X12_does 200 (tr_iload 201 1) from ok_iload_n (show decode mi_X12_does.2.1 200 = .ok (.iload_n 1, 1) from by decide +kernel) rfl) <|
  tk_c (show TrOk D (d + 1) mi_X12_does 201 (tr_ic 202 4) from ok_iconst (show decode mi_X12_does.2.1 201 = .ok (.iconst 4, 1) from by decide +kernel) rfl) <|
  tk_c (show TrOk D (d + 1) mi_X12_does 202 (tr_icne 205 213) from ok_icne (show decode mi_X12_does.2.1 202 = .ok (.if_icmp .ne 11, 3) from by decide +kernel) (by decide)) <|
  tk_c (show TrOk D (d + 1) mi_X12_does 205 (tr_lload 207 6) from ok_lload (show decode mi_X12_does.2.1 205 = .ok (.lload 6, 2) from by decide +kernel)) <|
  tk_c (show TrOk D (d + 1) mi_X12_does 207 (tr_iload 208 2) from ok_iload_n (show decode mi_X12_does.2.1 207 = .ok (.iload_n 2, 1) from by decide +kernel) rfl) <|
  tk_c (show TrOk D (d + 1) mi_X12_does 208 (tr_i2l 209) from ok_i2l (show decode mi_X12_does.2.1 208 = .ok (.i2l, 1) from by decide +kernel)) <|
  tk_c (show TrOk D (d + 1) mi_X12_does 209 (tr_ldiv 210) from ok_ldiv (show decode mi_X12_does.2.1 209 = .ok (.ldiv, 1) from by decide +kernel)) <|
  tk_c (show TrOk D (d + 1) mi_X12_does 210 (tr_goto 218) from ok_goto (show decode mi_X12_does.2.1 210 = .ok (.goto 8, 3) from by decide +kernel) (by decide)) <|
  tk_c (show TrOk D (d + 1) mi_X12_does 213 (tr_lload 215 6) from ok_lload (show decode mi_X12_does.2.1 213 = .ok (.lload 6, 2) from by decide +kernel)) <|
  tk_c (show TrOk D (d + 1) mi_X12_does 215 (tr_iload 216 2) from ok_iload_n (show decode mi_X12_does.2.1 215 = .ok (.iload_n 2, 1) from by decide +kernel) rfl) <|
  tk_c (show TrOk D (d + 1) mi_X12_does 216 (tr_i2l 217) from ok_i2l (show decode mi_X12_does.2.1 216 = .ok (.i2l, 1) from by decide +kernel)) <|
  tk_c (show TrOk D (d + 1) mi_X12_does 217 (tr_lrem 218) from ok_lrem (show decode mi_X12_does.2.1 217 = .ok (.lrem, 1) from by decide +kernel)) <|
  tk_c (show TrOk D (d + 1) mi_X12_does 218 (tr_last 219) from ok_last (show decode mi_X12_does.2.1 218 = .ok (.lastore, 1) from by decide +kernel)) <|
  tk_c (show TrOk D (d + 1) mi_X12_does 219 (tr_goto 322) from ok_goto (show decode mi_X12_does.2.1 219 = .ok (.goto 103, 3) from by decide +kernel) (by decide)) <|
  tk_c (show TrOk D (d + 1) mi_X12_does 222 (tr_aload 223 0) from ok_aload_n (show decode mi_X12_does.2.1 222 = .ok (.aload_n 0, 1) from by decide +kernel) rfl) <|
  tk_c (show TrOk D (d + 1) mi_X12_does 223 (tr_getR 226 13 1234) from ok_getR (ci := 12) (k := 34) (show decode mi_X12_does.2.1 223 = .ok (.getfield 99, 3) from by decide +kernel) rfl (by decide) (gm 815 (by decide +kernel) rfl) rfl) <|
  tk_c (show TrOk D (d + 1) mi_X12_does 226 (tr_iload 228 4) from ok_iload (show decode mi_X12_does.2.1 226 = .ok (.iload 4, 2) from by decide +kernel)) <|
  tk_c (show TrOk D (d + 1) mi_X12_does 228 (tr_dup2 229) from ok_dup2 (show decode mi_X12_does.2.1 228 = .ok (.dup2, 1) from by decide +kernel)) <|
  tk_c (show TrOk D (d + 1) mi_X12_does 229 (tr_iald 230) from ok_iald (show decode mi_X12_does.2.1 229 = .ok (.iaload, 1) from by decide +kernel)) <|
  tk_c (show TrOk D (d + 1) mi_X12_does 230 (tr_lload 232 6) from ok_lload (show decode mi_X12_does.2.1 230 = .ok (.lload 6, 2) from by decide +kernel)) <|
  tk_c (show TrOk D (d + 1) mi_X12_does 232 (tr_iload 233 2) from ok_iload_n (show decode mi_X12_does.2.1 232 = .ok (.iload_n 2, 1) from by decide +kernel) rfl) <|
  tk_c (show TrOk D (d + 1) mi_X12_does 233 (tr_i2l 234) from ok_i2l (show decode mi_X12_does.2.1 233 = .ok (.i2l, 1) from by decide +kernel)) <|
  tk_c (show TrOk D (d + 1) mi_X12_does 234 (tr_lcmp 235) from ok_lcmp (show decode mi_X12_does.2.1 234 = .ok (.lcmp, 1) from by decide +kernel)) <|
  tk_c (show TrOk D (d + 1) mi_X12_does 235 (tr_ifge 238 242) from ok_ifge (show decode mi_X12_does.2.1 235 = .ok (.ifCond .ge 7, 3) from by decide +kernel) (by decide)) <|
  tk_c (show TrOk D (d + 1) mi_X12_does 238 (tr_ic 239 1) from ok_iconst (show decode mi_X12_does.2.1 238 = .ok (.iconst 1, 1) from by decide +kernel) rfl) <|
  tk_c (show TrOk D (d + 1) mi_X12_does 239 (tr_goto 243) from ok_goto (show decode mi_X12_does.2.1 239 = .ok (.goto 4, 3) from by decide +kernel) (by decide)) <|
  tk_c (show TrOk D (d + 1) mi_X12_does 242 (tr_ic 243 0) from ok_iconst (show decode mi_X12_does.2.1 242 = .ok (.iconst 0, 1) from by decide +kernel) rfl) <|
  tk_c (show TrOk D (d + 1) mi_X12_does 243 (tr_iadd 244) from ok_iadd (show decode mi_X12_does.2.1 243 = .ok (.iadd, 1) from by decide +kernel)) <|
  tk_c (show TrOk D (d + 1) mi_X12_does 244 (tr_iast 245) from ok_iast (show decode mi_X12_does.2.1 244 = .ok (.iastore, 1) from by decide +kernel)) <|
  tk_c (show TrOk D (d + 1) mi_X12_does 245 (tr_goto 322) from ok_goto (show decode mi_X12_does.2.1 245 = .ok (.goto 77, 3) from by decide +kernel) (by decide)) <|
  tk_c (show TrOk D (d + 1) mi_X12_does 248 (tr_aload 249 0) from ok_aload_n (show decode mi_X12_does.2.1 248 = .ok (.aload_n 0, 1) from by decide +kernel) rfl) <|
  tk_c (show TrOk D (d + 1) mi_X12_does 249 (tr_getR 252 13 1234) from ok_getR (ci := 12) (k := 34) (show decode mi_X12_does.2.1 249 = .ok (.getfield 99, 3) from by decide +kernel) rfl (by decide) (gm 815 (by decide +kernel) rfl) rfl) <|
  tk_c (show TrOk D (d + 1) mi_X12_does 252 (tr_iload 254 4) from ok_iload (show decode mi_X12_does.2.1 252 = .ok (.iload 4, 2) from by decide +kernel)) <|
  tk_c (show TrOk D (d + 1) mi_X12_does 254 (tr_ic 256 10) from ok_bipush (show decode mi_X12_does.2.1 254 = .ok (.bipush 10, 2) from by decide +kernel) rfl) <|
  tk_c (show TrOk D (d + 1) mi_X12_does 256 (tr_iast 257) from ok_iast (show decode mi_X12_does.2.1 256 = .ok (.iastore, 1) from by decide +kernel)) <|
  tk_c (show TrOk D (d + 1) mi_X12_does 257 (tr_goto 322) from ok_goto (show decode mi_X12_does.2.1 257 = .ok (.goto 65, 3) from by decide +kernel) (by decide)) <|
  tk_n
def tb_X12_does_3 (C : Nat → Sp) : Tab := [(260, tr_aload 261 0), (261, tr_getI 264 13 1242), (264, tr_ic 266 100), (266, tr_icge 269 280), (269, tr_aload 270 0), (270, tr_getR 273 13 1248), (273, tr_aload 274 0), (274, tr_getI 277 13 1242), (277, tr_lload 279 6), (279, tr_last 280), (280, tr_aload 281 0), (281, tr_dup 282), (282, tr_getI 285 13 1242), (285, tr_ic 286 1), (286, tr_iadd 287), (287, tr_putI 290 13 1242), (290, tr_goto 322), (293, tr_iload 294 1), (294, tr_ic 296 14), (296, tr_icge 299 310), (299, tr_aload 300 0), (300, tr_iload 301 1), (301, tr_iload 302 2), (302, tr_lload 304 6), (304, tr_callV (C 123) 307 13 3), (307, tr_goto 320), (310, tr_aload 311 0), (311, tr_iload 312 1), (312, tr_iload 313 2), (313, tr_iload 315 5), (315, tr_lload 317 6), (317, tr_callV (C 124) 320 13 4), (320, tr_istore 322 8), (322, tr_iload 324 8), (324, tr_ifle 327 333), (327, tr_aload 328 0), (328, tr_iload 330 8), (330, tr_callV (C 120) 333 13 1), (333, tr_ret)]
set_option maxRecDepth 20000 in
theorem tbk_X12_does_3 {D : DD} {d : Nat} {C : Nat → Sp} (hC : Snd D d C) : ∀ e ∈ tb_X12_does_3 C, TrOk D (d + 1) mi_X12_does e.1 e.2 :=
  tk_c (show TrOk D (d + 1) mi_X12_does 260 (tr_aload 261 0) from ok_aload_n (show decode mi_X12_does.2.1 260 = .ok (.aload_n 0, 1) from by decide +kernel) rfl) <|
  tk_c (show TrOk D (d + 1) mi_X12_does 261 (tr_getI 264 13 1242) from ok_getI (ci := 12) (k := 42) (show decode mi_X12_does.2.1 261 = .ok (.getfield 224, 3) from by decide +kernel) rfl (by decide) (gm 823 (by decide +kernel) rfl) rfl) <|
  tk_c (show TrOk D (d + 1) mi_X12_does 264 (tr_ic 266 100) from ok_bipush (show decode mi_X12_does.2.1 264 = .ok (.bipush 100, 2) from by decide +kernel) rfl) <|
  tk_c (show TrOk D (d + 1) mi_X12_does 266 (tr_icge 269 280) from ok_icge (show decode mi_X12_does.2.1 266 = .ok (.if_icmp .ge 14, 3) from by decide +kernel) (by decide)) <|
  tk_c (show TrOk D (d + 1) mi_X12_does 269 (tr_aload 270 0) from ok_aload_n (show decode mi_X12_does.2.1 269 = .ok (.aload_n 0, 1) from by decide +kernel) rfl) <|
  tk_c (show TrOk D (d + 1) mi_X12_does 270 (tr_getR 273 13 1248) from ok_getR (ci := 12) (k := 48) (show decode mi_X12_does.2.1 270 = .ok (.getfield 115, 3) from by decide +kernel) rfl (by decide) (gm 829 (by decide +kernel) rfl) rfl) <|
  tk_c (show TrOk D (d + 1) mi_X12_does 273 (tr_aload 274 0) from ok_aload_n (show decode mi_X12_does.2.1 273 = .ok (.aload_n 0, 1) from by decide +kernel) rfl) <|
  tk_c (show TrOk D (d + 1) mi_X12_does 274 (tr_getI 277 13 1242) from ok_getI (ci := 12) (k := 42) (show decode mi_X12_does.2.1 274 = .ok (.getfield 224, 3) from by decide +kernel) rfl (by decide) (gm 823 (by decide +kernel) rfl) rfl) <|
  tk_c (show TrOk D (d + 1) mi_X12_does 277 (tr_lload 279 6) from ok_lload (show decode mi_X12_does.2.1 277 = .ok (.lload 6, 2) from by decide +kernel)) <|
  tk_c (show TrOk D (d + 1) mi_X12_does 279 (tr_last 280) from ok_last (show decode mi_X12_does.2.1 279 = .ok (.lastore, 1) from by decide +kernel)) <|
  tk_c (show TrOk D (d + 1) mi_X12_does 280 (tr_aload 281 0) from ok_aload_n (show decode mi_X12_does.2.1 280 = .ok (.aload_n 0, 1) from by decide +kernel) rfl) <|
  tk_c (show TrOk D (d + 1) mi_X12_does 281 (tr_dup 282) from ok_dup (show decode mi_X12_does.2.1 281 = .ok (.dup, 1) from by decide +kernel)) <|
  tk_c (show TrOk D (d + 1) mi_X12_does 282 (tr_getI 285 13 1242) from ok_getI (ci := 12) (k := 42) (show decode mi_X12_does.2.1 282 = .ok (.getfield 224, 3) from by decide +kernel) rfl (by decide) (gm 823 (by decide +kernel) rfl) rfl) <|
  tk_c (show TrOk D (d + 1) mi_X12_does 285 (tr_ic 286 1) from ok_iconst (show decode mi_X12_does.2.1 285 = .ok (.iconst 1, 1) from by decide +kernel) rfl) <|
  tk_c (show TrOk D (d + 1) mi_X12_does 286 (tr_iadd 287) from ok_iadd (show decode mi_X12_does.2.1 286 = .ok (.iadd, 1) from by decide +kernel)) <|
  tk_c (show TrOk D (d + 1) mi_X12_does 287 (tr_putI 290 13 1242) from ok_putI (ci := 12) (k := 42) (show decode mi_X12_does.2.1 287 = .ok (.putfield 224, 3) from by decide +kernel) rfl (by decide) (gm 823 (by decide +kernel) rfl) rfl (Or.inl rfl)) <|
  tk_c (show TrOk D (d + 1) mi_X12_does 290 (tr_goto 322) from ok_goto (show decode mi_X12_does.2.1 290 = .ok (.goto 32, 3) from by decide +kernel) (by decide)) <|
  tk_c (show TrOk D (d + 1) mi_X12_does 293 (tr_iload 294 1) from ok_iload_n (show decode mi_X12_does.2.1 293 = .ok (.iload_n 1, 1) from by decide +kernel) rfl) <|
  tk_c (show TrOk D (d + 1) mi_X12_does 294 (tr_ic 296 14) from ok_bipush (show decode mi_X12_does.2.1 294 = .ok (.bipush 14, 2) from by decide +kernel) rfl) <|
  tk_c (show TrOk D (d + 1) mi_X12_does 296 (tr_icge 299 310) from ok_icge (show decode mi_X12_does.2.1 296 = .ok (.if_icmp .ge 14, 3) from by decide +kernel) (by decide)) <|
  tk_c (show TrOk D (d + 1) mi_X12_does 299 (tr_aload 300 0) from ok_aload_n (show decode mi_X12_does.2.1 299 = .ok (.aload_n 0, 1) from by decide +kernel) rfl) <|
  tk_c (show TrOk D (d + 1) mi_X12_does 300 (tr_iload 301 1) from ok_iload_n (show decode mi_X12_does.2.1 300 = .ok (.iload_n 1, 1) from by decide +kernel) rfl) <|
  tk_c (show TrOk D (d + 1) mi_X12_does 301 (tr_iload 302 2) from ok_iload_n (show decode mi_X12_does.2.1 301 = .ok (.iload_n 2, 1) from by decide +kernel) rfl) <|
  tk_c (show TrOk D (d + 1) mi_X12_does 302 (tr_lload 304 6) from ok_lload (show decode mi_X12_does.2.1 302 = .ok (.lload 6, 2) from by decide +kernel)) <|
  tk_c (show TrOk D (d + 1) mi_X12_does 304 (tr_callV (C 123) 307 13 3) from ok_callV (ci := 12) (show decode mi_X12_does.2.1 304 = .ok (.invokevirtual 227, 3) from by decide +kernel) mok_X12_doesMore rfl rfl (gm 1057 (by decide +kernel) rfl) (gm 1059 (by decide +kernel) rfl) (gm 24 (by decide +kernel) rfl) (hC 123)) <|
  tk_c (show TrOk D (d + 1) mi_X12_does 307 (tr_goto 320) from ok_goto (show decode mi_X12_does.2.1 307 = .ok (.goto 13, 3) from by decide +kernel) (by decide)) <|
  tk_c (show TrOk D (d + 1) mi_X12_does 310 (tr_aload 311 0) from ok_aload_n (show decode mi_X12_does.2.1 310 = .ok (.aload_n 0, 1) from by decide +kernel) rfl) <|
  tk_c (show TrOk D (d + 1) mi_X12_does 311 (tr_iload 312 1) from ok_iload_n (show decode mi_X12_does.2.1 311 = .ok (.iload_n 1, 1) from by decide +kernel) rfl) <|
  tk_c (show TrOk D (d + 1) mi_X12_does 312 (tr_iload 313 2) from ok_iload_n (show decode mi_X12_does.2.1 312 = .ok (.iload_n 2, 1) from by decide +kernel) rfl) <|
  tk_c (show TrOk D (d + 1) mi_X12_does 313 (tr_iload 315 5) from ok_iload (show decode mi_X12_does.2.1 313 = .ok (.iload 5, 2) from by decide +kernel)) <|
  tk_c (show TrOk D (d + 1) mi_X12_does 315 (tr_lload 317 6) from ok_lload (show decode mi_X12_does.2.1 315 = .ok (.lload 6, 2) from by decide +kernel)) <|
  tk_c (show TrOk D (d + 1) mi_X12_does 317 (tr_callV (C 124) 320 13 4) from ok_callV (ci := 12) (show decode mi_X12_does.2.1 317 = .ok (.invokevirtual 231, 3) from by decide +kernel) mok_X12_trays rfl rfl (gm 1062 (by decide +kernel) rfl) (gm 1064 (by decide +kernel) rfl) (gm 25 (by decide +kernel) rfl) (hC 124)) <|
  tk_c (show TrOk D (d + 1) mi_X12_does 320 (tr_istore 322 8) from ok_istore (show decode mi_X12_does.2.1 320 = .ok (.istore 8, 2) from by decide +kernel) (by decide)) <|
  tk_c (show TrOk D (d + 1) mi_X12_does 322 (tr_iload 324 8) from ok_iload (show decode mi_X12_does.2.1 322 = .ok (.iload 8, 2) from by decide +kernel)) <|
  tk_c (show TrOk D (d + 1) mi_X12_does 324 (tr_ifle 327 333) from ok_ifle (show decode mi_X12_does.2.1 324 = .ok (.ifCond .le 9, 3) from by decide +kernel) (by decide)) <|
  tk_c (show TrOk D (d + 1) mi_X12_does 327 (tr_aload 328 0) from ok_aload_n (show decode mi_X12_does.2.1 327 = .ok (.aload_n 0, 1) from by decide +kernel) rfl) <|
  tk_c (show TrOk D (d + 1) mi_X12_does 328 (tr_iload 330 8) from ok_iload (show decode mi_X12_does.2.1 328 = .ok (.iload 8, 2) from by decide +kernel)) <|
  tk_c (show TrOk D (d + 1) mi_X12_does 330 (tr_callV (C 120) 333 13 1) from ok_callV (ci := 12) (show decode mi_X12_does.2.1 330 = .ok (.invokevirtual 235, 3) from by decide +kernel) mok_X12_fails rfl rfl (gm 1070 (by decide +kernel) rfl) (gm 1072 (by decide +kernel) rfl) (gm 27 (by decide +kernel) rfl) (hC 120)) <|
  tk_c (show TrOk D (d + 1) mi_X12_does 333 (tr_ret) from ok_ret (show decode mi_X12_does.2.1 333 = .ok (.return_, 1) from by decide +kernel) rfl) <|
  tk_n
def tb_X12_does (C : Nat → Sp) : Tab := tb_X12_does_0 C ++ (tb_X12_does_1 C ++ (tb_X12_does_2 C ++ (tb_X12_does_3 C)))
theorem tbk_X12_does {D : DD} {d : Nat} {C : Nat → Sp} (hC : Snd D d C) : ∀ e ∈ tb_X12_does C, TrOk D (d + 1) mi_X12_does e.1 e.2 := tk_a (tbk_X12_does_0 hC) (tk_a (tbk_X12_does_1 hC) (tk_a (tbk_X12_does_2 hC) (tbk_X12_does_3 hC)))
theorem a_X12_does_0 (C : Nat → Sp) : ta (tb_X12_does C) 0 = tr_aload 1 0 := rfl
theorem a_X12_does_1 (C : Nat → Sp) : ta (tb_X12_does C) 1 = tr_getI 4 13 1225 := rfl
theorem a_X12_does_4 (C : Nat → Sp) : ta (tb_X12_does C) 4 = tr_ic 5 1 := rfl
theorem a_X12_does_5 (C : Nat → Sp) : ta (tb_X12_does C) 5 = tr_isub 6 := rfl
theorem a_X12_does_6 (C : Nat → Sp) : ta (tb_X12_does C) 6 = tr_istore 8 4 := rfl
theorem a_X12_does_8 (C : Nat → Sp) : ta (tb_X12_does C) 8 = tr_aload 9 0 := rfl
theorem a_X12_does_9 (C : Nat → Sp) : ta (tb_X12_does C) 9 = tr_getR 12 13 1233 := rfl
theorem a_X12_does_12 (C : Nat → Sp) : ta (tb_X12_does C) 12 = tr_iload 14 4 := rfl
theorem a_X12_does_14 (C : Nat → Sp) : ta (tb_X12_does C) 14 = tr_iald 15 := rfl
theorem a_X12_does_15 (C : Nat → Sp) : ta (tb_X12_does C) 15 = tr_istore 17 5 := rfl
theorem a_X12_does_17 (C : Nat → Sp) : ta (tb_X12_does C) 17 = tr_aload 18 0 := rfl
theorem a_X12_does_18 (C : Nat → Sp) : ta (tb_X12_does C) 18 = tr_getR 21 13 1235 := rfl
theorem a_X12_does_21 (C : Nat → Sp) : ta (tb_X12_does C) 21 = tr_iload 23 4 := rfl
theorem a_X12_does_23 (C : Nat → Sp) : ta (tb_X12_does C) 23 = tr_lald 24 := rfl
theorem a_X12_does_24 (C : Nat → Sp) : ta (tb_X12_does C) 24 = tr_lstore 26 6 := rfl
theorem a_X12_does_26 (C : Nat → Sp) : ta (tb_X12_does C) 26 = tr_ic 27 0 := rfl
theorem a_X12_does_27 (C : Nat → Sp) : ta (tb_X12_does C) 27 = tr_istore 29 8 := rfl
theorem a_X12_does_29 (C : Nat → Sp) : ta (tb_X12_does C) 29 = tr_iload 30 1 := rfl
theorem a_X12_does_30 (C : Nat → Sp) : ta (tb_X12_does C) 30 = tr_sw 0 [80, 95, 107, 178, 184, 184, 222, 248, 260] 293 := rfl
theorem a_X12_does_80 (C : Nat → Sp) : ta (tb_X12_does C) 80 = tr_aload 81 0 := rfl
theorem a_X12_does_81 (C : Nat → Sp) : ta (tb_X12_does C) 81 = tr_getR 84 13 1235 := rfl
theorem a_X12_does_84 (C : Nat → Sp) : ta (tb_X12_does C) 84 = tr_iload 86 4 := rfl
theorem a_X12_does_86 (C : Nat → Sp) : ta (tb_X12_does C) 86 = tr_lload 88 6 := rfl
theorem a_X12_does_88 (C : Nat → Sp) : ta (tb_X12_does C) 88 = tr_iload 89 2 := rfl
theorem a_X12_does_89 (C : Nat → Sp) : ta (tb_X12_does C) 89 = tr_i2l 90 := rfl
theorem a_X12_does_90 (C : Nat → Sp) : ta (tb_X12_does C) 90 = tr_ladd 91 := rfl
theorem a_X12_does_91 (C : Nat → Sp) : ta (tb_X12_does C) 91 = tr_last 92 := rfl
theorem a_X12_does_92 (C : Nat → Sp) : ta (tb_X12_does C) 92 = tr_goto 322 := rfl
theorem a_X12_does_95 (C : Nat → Sp) : ta (tb_X12_does C) 95 = tr_aload 96 0 := rfl
theorem a_X12_does_96 (C : Nat → Sp) : ta (tb_X12_does C) 96 = tr_getR 99 13 1235 := rfl
theorem a_X12_does_99 (C : Nat → Sp) : ta (tb_X12_does C) 99 = tr_iload 101 4 := rfl
theorem a_X12_does_101 (C : Nat → Sp) : ta (tb_X12_does C) 101 = tr_iload 102 2 := rfl
theorem a_X12_does_102 (C : Nat → Sp) : ta (tb_X12_does C) 102 = tr_i2l 103 := rfl
theorem a_X12_does_103 (C : Nat → Sp) : ta (tb_X12_does C) 103 = tr_last 104 := rfl
theorem a_X12_does_104 (C : Nat → Sp) : ta (tb_X12_does C) 104 = tr_goto 322 := rfl
theorem a_X12_does_107 (C : Nat → Sp) : ta (tb_X12_does C) 107 = tr_aload 108 0 := rfl
theorem a_X12_does_108 (C : Nat → Sp) : ta (tb_X12_does C) 108 = tr_getR 111 13 1228 := rfl
theorem a_X12_does_111 (C : Nat → Sp) : ta (tb_X12_does C) 111 = tr_iload 113 4 := rfl
theorem a_X12_does_113 (C : Nat → Sp) : ta (tb_X12_does C) 113 = tr_iald 114 := rfl
theorem a_X12_does_114 (C : Nat → Sp) : ta (tb_X12_does C) 114 = tr_ifne 117 171 := rfl
theorem a_X12_does_117 (C : Nat → Sp) : ta (tb_X12_does C) 117 = tr_aload 118 0 := rfl
theorem a_X12_does_118 (C : Nat → Sp) : ta (tb_X12_does C) 118 = tr_dup 119 := rfl
theorem a_X12_does_119 (C : Nat → Sp) : ta (tb_X12_does C) 119 = tr_getI 122 13 1244 := rfl
theorem a_X12_does_122 (C : Nat → Sp) : ta (tb_X12_does C) 122 = tr_ic 123 1 := rfl
theorem a_X12_does_123 (C : Nat → Sp) : ta (tb_X12_does C) 123 = tr_iadd 124 := rfl
theorem a_X12_does_124 (C : Nat → Sp) : ta (tb_X12_does C) 124 = tr_putI 127 13 1244 := rfl
theorem a_X12_does_127 (C : Nat → Sp) : ta (tb_X12_does C) 127 = tr_aload 128 0 := rfl
theorem a_X12_does_128 (C : Nat → Sp) : ta (tb_X12_does C) 128 = tr_getR 131 13 1231 := rfl
theorem a_X12_does_131 (C : Nat → Sp) : ta (tb_X12_does C) 131 = tr_iload 133 4 := rfl
theorem a_X12_does_133 (C : Nat → Sp) : ta (tb_X12_does C) 133 = tr_ic 134 1 := rfl
theorem a_X12_does_134 (C : Nat → Sp) : ta (tb_X12_does C) 134 = tr_bast 135 := rfl
theorem a_X12_does_135 (C : Nat → Sp) : ta (tb_X12_does C) 135 = tr_aload 136 0 := rfl
theorem a_X12_does_136 (C : Nat → Sp) : ta (tb_X12_does C) 136 = tr_getR 139 13 1232 := rfl
theorem a_X12_does_139 (C : Nat → Sp) : ta (tb_X12_does C) 139 = tr_iload 141 4 := rfl
theorem a_X12_does_141 (C : Nat → Sp) : ta (tb_X12_does C) 141 = tr_ic 142 0 := rfl
theorem a_X12_does_142 (C : Nat → Sp) : ta (tb_X12_does C) 142 = tr_bast 143 := rfl
theorem a_X12_does_143 (C : Nat → Sp) : ta (tb_X12_does C) 143 = tr_aload 144 0 := rfl
theorem a_X12_does_144 (C : Nat → Sp) : ta (tb_X12_does C) 144 = tr_iload 145 3 := rfl
theorem a_X12_does_145 (C : Nat → Sp) : ta (tb_X12_does C) 145 = tr_ifeq 148 158 := rfl
theorem a_X12_does_148 (C : Nat → Sp) : ta (tb_X12_does C) 148 = tr_iload 150 4 := rfl
set_option maxRecDepth 20000 in
theorem a_X12_does_150 (C : Nat → Sp) : ta (tb_X12_does C) 150 = tr_ifne 153 158 := rfl
set_option maxRecDepth 20000 in
theorem a_X12_does_153 (C : Nat → Sp) : ta (tb_X12_does C) 153 = tr_iload 155 5 := rfl
set_option maxRecDepth 20000 in
theorem a_X12_does_155 (C : Nat → Sp) : ta (tb_X12_does C) 155 = tr_goto 162 := rfl
set_option maxRecDepth 20000 in
theorem a_X12_does_158 (C : Nat → Sp) : ta (tb_X12_does C) 158 = tr_aload 159 0 := rfl
set_option maxRecDepth 20000 in
theorem a_X12_does_159 (C : Nat → Sp) : ta (tb_X12_does C) 159 = tr_getI 162 13 1246 := rfl
set_option maxRecDepth 20000 in
theorem a_X12_does_162 (C : Nat → Sp) : ta (tb_X12_does C) 162 = tr_putI 165 13 1246 := rfl
set_option maxRecDepth 20000 in
theorem a_X12_does_165 (C : Nat → Sp) : ta (tb_X12_does C) 165 = tr_aload 166 0 := rfl
set_option maxRecDepth 20000 in
theorem a_X12_does_166 (C : Nat → Sp) : ta (tb_X12_does C) 166 = tr_iload 167 3 := rfl
set_option maxRecDepth 20000 in
theorem a_X12_does_167 (C : Nat → Sp) : ta (tb_X12_does C) 167 = tr_callV (C 119) 170 13 1 := rfl
set_option maxRecDepth 20000 in
theorem a_X12_does_170 (C : Nat → Sp) : ta (tb_X12_does C) 170 = tr_ret := rfl
set_option maxRecDepth 20000 in
theorem a_X12_does_171 (C : Nat → Sp) : ta (tb_X12_does C) 171 = tr_ic 173 8 := rfl
set_option maxRecDepth 20000 in
theorem a_X12_does_173 (C : Nat → Sp) : ta (tb_X12_does C) 173 = tr_istore 175 8 := rfl
set_option maxRecDepth 20000 in
theorem a_X12_does_175 (C : Nat → Sp) : ta (tb_X12_does C) 175 = tr_goto 322 := rfl
set_option maxRecDepth 20000 in
theorem a_X12_does_178 (C : Nat → Sp) : ta (tb_X12_does C) 178 = tr_iload 179 2 := rfl
set_option maxRecDepth 20000 in
theorem a_X12_does_179 (C : Nat → Sp) : ta (tb_X12_does C) 179 = tr_istore 181 8 := rfl
set_option maxRecDepth 20000 in
theorem a_X12_does_181 (C : Nat → Sp) : ta (tb_X12_does C) 181 = tr_goto 322 := rfl
set_option maxRecDepth 20000 in
theorem a_X12_does_184 (C : Nat → Sp) : ta (tb_X12_does C) 184 = tr_iload 185 2 := rfl
set_option maxRecDepth 20000 in
theorem a_X12_does_185 (C : Nat → Sp) : ta (tb_X12_does C) 185 = tr_ifne 188 194 := rfl
set_option maxRecDepth 20000 in
theorem a_X12_does_188 (C : Nat → Sp) : ta (tb_X12_does C) 188 = tr_ic 189 5 := rfl
set_option maxRecDepth 20000 in
theorem a_X12_does_189 (C : Nat → Sp) : ta (tb_X12_does C) 189 = tr_istore 191 8 := rfl
set_option maxRecDepth 20000 in
theorem a_X12_does_191 (C : Nat → Sp) : ta (tb_X12_does C) 191 = tr_goto 322 := rfl
set_option maxRecDepth 20000 in
theorem a_X12_does_194 (C : Nat → Sp) : ta (tb_X12_does C) 194 = tr_aload 195 0 := rfl
set_option maxRecDepth 20000 in
theorem a_X12_does_195 (C : Nat → Sp) : ta (tb_X12_does C) 195 = tr_getR 198 13 1235 := rfl
set_option maxRecDepth 20000 in
theorem a_X12_does_198 (C : Nat → Sp) : ta (tb_X12_does C) 198 = tr_iload 200 4 := rfl
set_option maxRecDepth 20000 in
theorem a_X12_does_200 (C : Nat → Sp) : ta (tb_X12_does C) 200 = tr_iload 201 1 := rfl
set_option maxRecDepth 20000 in
theorem a_X12_does_201 (C : Nat → Sp) : ta (tb_X12_does C) 201 = tr_ic 202 4 := rfl
set_option maxRecDepth 20000 in
theorem a_X12_does_202 (C : Nat → Sp) : ta (tb_X12_does C) 202 = tr_icne 205 213 := rfl
set_option maxRecDepth 20000 in
theorem a_X12_does_205 (C : Nat → Sp) : ta (tb_X12_does C) 205 = tr_lload 207 6 := rfl
set_option maxRecDepth 20000 in
theorem a_X12_does_207 (C : Nat → Sp) : ta (tb_X12_does C) 207 = tr_iload 208 2 := rfl
set_option maxRecDepth 20000 in
theorem a_X12_does_208 (C : Nat → Sp) : ta (tb_X12_does C) 208 = tr_i2l 209 := rfl
set_option maxRecDepth 20000 in
theorem a_X12_does_209 (C : Nat → Sp) : ta (tb_X12_does C) 209 = tr_ldiv 210 := rfl
set_option maxRecDepth 20000 in
theorem a_X12_does_210 (C : Nat → Sp) : ta (tb_X12_does C) 210 = tr_goto 218 := rfl
set_option maxRecDepth 20000 in
theorem a_X12_does_213 (C : Nat → Sp) : ta (tb_X12_does C) 213 = tr_lload 215 6 := rfl
set_option maxRecDepth 20000 in
theorem a_X12_does_215 (C : Nat → Sp) : ta (tb_X12_does C) 215 = tr_iload 216 2 := rfl
set_option maxRecDepth 20000 in
theorem a_X12_does_216 (C : Nat → Sp) : ta (tb_X12_does C) 216 = tr_i2l 217 := rfl
set_option maxRecDepth 20000 in
theorem a_X12_does_217 (C : Nat → Sp) : ta (tb_X12_does C) 217 = tr_lrem 218 := rfl
set_option maxRecDepth 20000 in
theorem a_X12_does_218 (C : Nat → Sp) : ta (tb_X12_does C) 218 = tr_last 219 := rfl
set_option maxRecDepth 20000 in
theorem a_X12_does_219 (C : Nat → Sp) : ta (tb_X12_does C) 219 = tr_goto 322 := rfl
set_option maxRecDepth 20000 in
theorem a_X12_does_222 (C : Nat → Sp) : ta (tb_X12_does C) 222 = tr_aload 223 0 := rfl
set_option maxRecDepth 20000 in
theorem a_X12_does_223 (C : Nat → Sp) : ta (tb_X12_does C) 223 = tr_getR 226 13 1234 := rfl
set_option maxRecDepth 20000 in
theorem a_X12_does_226 (C : Nat → Sp) : ta (tb_X12_does C) 226 = tr_iload 228 4 := rfl
set_option maxRecDepth 20000 in
theorem a_X12_does_228 (C : Nat → Sp) : ta (tb_X12_does C) 228 = tr_dup2 229 := rfl
set_option maxRecDepth 20000 in
theorem a_X12_does_229 (C : Nat → Sp) : ta (tb_X12_does C) 229 = tr_iald 230 := rfl
set_option maxRecDepth 20000 in
theorem a_X12_does_230 (C : Nat → Sp) : ta (tb_X12_does C) 230 = tr_lload 232 6 := rfl
set_option maxRecDepth 20000 in
theorem a_X12_does_232 (C : Nat → Sp) : ta (tb_X12_does C) 232 = tr_iload 233 2 := rfl
set_option maxRecDepth 20000 in
theorem a_X12_does_233 (C : Nat → Sp) : ta (tb_X12_does C) 233 = tr_i2l 234 := rfl
set_option maxRecDepth 20000 in
theorem a_X12_does_234 (C : Nat → Sp) : ta (tb_X12_does C) 234 = tr_lcmp 235 := rfl
set_option maxRecDepth 20000 in
theorem a_X12_does_235 (C : Nat → Sp) : ta (tb_X12_does C) 235 = tr_ifge 238 242 := rfl
set_option maxRecDepth 20000 in
theorem a_X12_does_238 (C : Nat → Sp) : ta (tb_X12_does C) 238 = tr_ic 239 1 := rfl
set_option maxRecDepth 20000 in
theorem a_X12_does_239 (C : Nat → Sp) : ta (tb_X12_does C) 239 = tr_goto 243 := rfl
set_option maxRecDepth 20000 in
theorem a_X12_does_242 (C : Nat → Sp) : ta (tb_X12_does C) 242 = tr_ic 243 0 := rfl
set_option maxRecDepth 20000 in
theorem a_X12_does_243 (C : Nat → Sp) : ta (tb_X12_does C) 243 = tr_iadd 244 := rfl
set_option maxRecDepth 20000 in
theorem a_X12_does_244 (C : Nat → Sp) : ta (tb_X12_does C) 244 = tr_iast 245 := rfl
set_option maxRecDepth 20000 in
theorem a_X12_does_245 (C : Nat → Sp) : ta (tb_X12_does C) 245 = tr_goto 322 := rfl
set_option maxRecDepth 20000 in
theorem a_X12_does_248 (C : Nat → Sp) : ta (tb_X12_does C) 248 = tr_aload 249 0 := rfl
set_option maxRecDepth 20000 in
theorem a_X12_does_249 (C : Nat → Sp) : ta (tb_X12_does C) 249 = tr_getR 252 13 1234 := rfl
set_option maxRecDepth 20000 in
theorem a_X12_does_252 (C : Nat → Sp) : ta (tb_X12_does C) 252 = tr_iload 254 4 := rfl
set_option maxRecDepth 20000 in
theorem a_X12_does_254 (C : Nat → Sp) : ta (tb_X12_does C) 254 = tr_ic 256 10 := rfl
set_option maxRecDepth 20000 in
theorem a_X12_does_256 (C : Nat → Sp) : ta (tb_X12_does C) 256 = tr_iast 257 := rfl
set_option maxRecDepth 20000 in
theorem a_X12_does_257 (C : Nat → Sp) : ta (tb_X12_does C) 257 = tr_goto 322 := rfl
set_option maxRecDepth 20000 in
theorem a_X12_does_260 (C : Nat → Sp) : ta (tb_X12_does C) 260 = tr_aload 261 0 := rfl
set_option maxRecDepth 20000 in
theorem a_X12_does_261 (C : Nat → Sp) : ta (tb_X12_does C) 261 = tr_getI 264 13 1242 := rfl
set_option maxRecDepth 20000 in
theorem a_X12_does_264 (C : Nat → Sp) : ta (tb_X12_does C) 264 = tr_ic 266 100 := rfl
set_option maxRecDepth 20000 in
theorem a_X12_does_266 (C : Nat → Sp) : ta (tb_X12_does C) 266 = tr_icge 269 280 := rfl
set_option maxRecDepth 20000 in
theorem a_X12_does_269 (C : Nat → Sp) : ta (tb_X12_does C) 269 = tr_aload 270 0 := rfl
set_option maxRecDepth 20000 in
theorem a_X12_does_270 (C : Nat → Sp) : ta (tb_X12_does C) 270 = tr_getR 273 13 1248 := rfl
set_option maxRecDepth 20000 in
theorem a_X12_does_273 (C : Nat → Sp) : ta (tb_X12_does C) 273 = tr_aload 274 0 := rfl
set_option maxRecDepth 20000 in
theorem a_X12_does_274 (C : Nat → Sp) : ta (tb_X12_does C) 274 = tr_getI 277 13 1242 := rfl
set_option maxRecDepth 20000 in
theorem a_X12_does_277 (C : Nat → Sp) : ta (tb_X12_does C) 277 = tr_lload 279 6 := rfl
set_option maxRecDepth 20000 in
theorem a_X12_does_279 (C : Nat → Sp) : ta (tb_X12_does C) 279 = tr_last 280 := rfl
set_option maxRecDepth 20000 in
theorem a_X12_does_280 (C : Nat → Sp) : ta (tb_X12_does C) 280 = tr_aload 281 0 := rfl
set_option maxRecDepth 20000 in
theorem a_X12_does_281 (C : Nat → Sp) : ta (tb_X12_does C) 281 = tr_dup 282 := rfl
set_option maxRecDepth 20000 in
theorem a_X12_does_282 (C : Nat → Sp) : ta (tb_X12_does C) 282 = tr_getI 285 13 1242 := rfl
set_option maxRecDepth 20000 in
theorem a_X12_does_285 (C : Nat → Sp) : ta (tb_X12_does C) 285 = tr_ic 286 1 := rfl
set_option maxRecDepth 20000 in
theorem a_X12_does_286 (C : Nat → Sp) : ta (tb_X12_does C) 286 = tr_iadd 287 := rfl
set_option maxRecDepth 20000 in
theorem a_X12_does_287 (C : Nat → Sp) : ta (tb_X12_does C) 287 = tr_putI 290 13 1242 := rfl
set_option maxRecDepth 20000 in
theorem a_X12_does_290 (C : Nat → Sp) : ta (tb_X12_does C) 290 = tr_goto 322 := rfl
set_option maxRecDepth 20000 in
theorem a_X12_does_293 (C : Nat → Sp) : ta (tb_X12_does C) 293 = tr_iload 294 1 := rfl
set_option maxRecDepth 20000 in
theorem a_X12_does_294 (C : Nat → Sp) : ta (tb_X12_does C) 294 = tr_ic 296 14 := rfl
set_option maxRecDepth 20000 in
theorem a_X12_does_296 (C : Nat → Sp) : ta (tb_X12_does C) 296 = tr_icge 299 310 := rfl
set_option maxRecDepth 20000 in
theorem a_X12_does_299 (C : Nat → Sp) : ta (tb_X12_does C) 299 = tr_aload 300 0 := rfl
set_option maxRecDepth 20000 in
theorem a_X12_does_300 (C : Nat → Sp) : ta (tb_X12_does C) 300 = tr_iload 301 1 := rfl
set_option maxRecDepth 20000 in
theorem a_X12_does_301 (C : Nat → Sp) : ta (tb_X12_does C) 301 = tr_iload 302 2 := rfl
set_option maxRecDepth 20000 in
theorem a_X12_does_302 (C : Nat → Sp) : ta (tb_X12_does C) 302 = tr_lload 304 6 := rfl
set_option maxRecDepth 20000 in
theorem a_X12_does_304 (C : Nat → Sp) : ta (tb_X12_does C) 304 = tr_callV (C 123) 307 13 3 := rfl
set_option maxRecDepth 20000 in
theorem a_X12_does_307 (C : Nat → Sp) : ta (tb_X12_does C) 307 = tr_goto 320 := rfl
set_option maxRecDepth 20000 in
theorem a_X12_does_310 (C : Nat → Sp) : ta (tb_X12_does C) 310 = tr_aload 311 0 := rfl
set_option maxRecDepth 20000 in
theorem a_X12_does_311 (C : Nat → Sp) : ta (tb_X12_does C) 311 = tr_iload 312 1 := rfl
set_option maxRecDepth 20000 in
theorem a_X12_does_312 (C : Nat → Sp) : ta (tb_X12_does C) 312 = tr_iload 313 2 := rfl
set_option maxRecDepth 20000 in
theorem a_X12_does_313 (C : Nat → Sp) : ta (tb_X12_does C) 313 = tr_iload 315 5 := rfl
set_option maxRecDepth 20000 in
theorem a_X12_does_315 (C : Nat → Sp) : ta (tb_X12_does C) 315 = tr_lload 317 6 := rfl
set_option maxRecDepth 20000 in
theorem a_X12_does_317 (C : Nat → Sp) : ta (tb_X12_does C) 317 = tr_callV (C 124) 320 13 4 := rfl
set_option maxRecDepth 20000 in
theorem a_X12_does_320 (C : Nat → Sp) : ta (tb_X12_does C) 320 = tr_istore 322 8 := rfl
set_option maxRecDepth 20000 in
theorem a_X12_does_322 (C : Nat → Sp) : ta (tb_X12_does C) 322 = tr_iload 324 8 := rfl
set_option maxRecDepth 20000 in
theorem a_X12_does_324 (C : Nat → Sp) : ta (tb_X12_does C) 324 = tr_ifle 327 333 := rfl
set_option maxRecDepth 20000 in
theorem a_X12_does_327 (C : Nat → Sp) : ta (tb_X12_does C) 327 = tr_aload 328 0 := rfl
set_option maxRecDepth 20000 in
theorem a_X12_does_328 (C : Nat → Sp) : ta (tb_X12_does C) 328 = tr_iload 330 8 := rfl
set_option maxRecDepth 20000 in
theorem a_X12_does_330 (C : Nat → Sp) : ta (tb_X12_does C) 330 = tr_callV (C 120) 333 13 1 := rfl
set_option maxRecDepth 20000 in
theorem a_X12_does_333 (C : Nat → Sp) : ta (tb_X12_does C) 333 = tr_ret := rfl

def tb_X12_doesMore_0 (C : Nat → Sp) : Tab := [(0, tr_iload 1 1), (1, tr_sw 9 [32, 230, 258, 315] 379), (32, tr_aload 33 0), (33, tr_iload 34 2), (34, tr_callV (C 98) 37 13 1), (37, tr_ifeq 40 65), (40, tr_aload 41 0), (41, tr_getR 44 13 1209), (44, tr_iload 45 2), (45, tr_iald 46), (46, tr_ic 48 (-4)), (48, tr_iceq 51 67), (51, tr_aload 52 0), (52, tr_getR 55 13 1204), (55, tr_aload 56 0), (56, tr_getR 59 13 1209), (59, tr_iload 60 2), (60, tr_iald 61), (61, tr_bald 62), (62, tr_ifne 65 67), (65, tr_ic 66 1), (66, tr_iret), (67, tr_aload 68 0), (68, tr_getI 71 13 1205), (71, tr_ic 74 200), (74, tr_icne 77 80), (77, tr_ic 79 6), (79, tr_iret), (80, tr_aload 81 0), (81, tr_aload 82 0), (82, tr_getR 85 13 1206), (85, tr_iload 86 2), (86, tr_iald 87), (87, tr_aload 88 0), (88, tr_getR 91 13 1207), (91, tr_iload 92 2), (92, tr_iald 93), (93, tr_aload 94 0), (94, tr_getR 97 13 1208), (97, tr_iload 98 2)]
set_option maxRecDepth 20000 in
theorem tbk_X12_doesMore_0 {D : DD} {d : Nat} {C : Nat → Sp} (hC : Snd D d C) : ∀ e ∈ tb_X12_doesMore_0 C, TrOk D (d + 1) mi_X12_doesMore e.1 e.2 :=
  tk_c (show TrOk D (d + 1) mi_X12_doesMore 0 (tr_iload 1 1) from ok_iload_n (show decode mi_X12_doesMore.2.1 0 = .ok (.iload_n 1, 1) from by decide +kernel) rfl) <|
  tk_c (show TrOk D (d + 1) mi_X12_doesMore 1 (tr_sw 9 [32, 230, 258, 315] 379) from ok_sw 9 (show decode mi_X12_doesMore.2.1 1 = .ok (.tableswitch 378 9 12 #[31, 229, 257, 314], 31) from by decide +kernel) rfl rfl (by decide) (by decide) (by decide) (by decide +kernel)) <|
  tk_c (show TrOk D (d + 1) mi_X12_doesMore 32 (tr_aload 33 0) from ok_aload_n (show decode mi_X12_doesMore.2.1 32 = .ok (.aload_n 0, 1) from by decide +kernel) rfl) <|
  tk_c (show TrOk D (d + 1) mi_X12_doesMore 33 (tr_iload 34 2) from ok_iload_n (show decode mi_X12_doesMore.2.1 33 = .ok (.iload_n 2, 1) from by decide +kernel) rfl) <|
  tk_c (show TrOk D (d + 1) mi_X12_doesMore 34 (tr_callV (C 98) 37 13 1) from ok_callV (ci := 12) (show decode mi_X12_doesMore.2.1 34 = .ok (.invokevirtual 160, 3) from by decide +kernel) mok_X12_isListener rfl rfl (gm 981 (by decide +kernel) rfl) (gm 983 (by decide +kernel) rfl) (gm 14 (by decide +kernel) rfl) (hC 98)) <|
  tk_c (show TrOk D (d + 1) mi_X12_doesMore 37 (tr_ifeq 40 65) from ok_ifeq (show decode mi_X12_doesMore.2.1 37 = .ok (.ifCond .eq 28, 3) from by decide +kernel) (by decide)) <|
  tk_c (show TrOk D (d + 1) mi_X12_doesMore 40 (tr_aload 41 0) from ok_aload_n (show decode mi_X12_doesMore.2.1 40 = .ok (.aload_n 0, 1) from by decide +kernel) rfl) <|
  tk_c (show TrOk D (d + 1) mi_X12_doesMore 41 (tr_getR 44 13 1209) from ok_getR (ci := 12) (k := 9) (show decode mi_X12_doesMore.2.1 41 = .ok (.getfield 30, 3) from by decide +kernel) rfl (by decide) (gm 790 (by decide +kernel) rfl) rfl) <|
  tk_c (show TrOk D (d + 1) mi_X12_doesMore 44 (tr_iload 45 2) from ok_iload_n (show decode mi_X12_doesMore.2.1 44 = .ok (.iload_n 2, 1) from by decide +kernel) rfl) <|
  tk_c (show TrOk D (d + 1) mi_X12_doesMore 45 (tr_iald 46) from ok_iald (show decode mi_X12_doesMore.2.1 45 = .ok (.iaload, 1) from by decide +kernel)) <|
  tk_c (show TrOk D (d + 1) mi_X12_doesMore 46 (tr_ic 48 (-4)) from ok_bipush (show decode mi_X12_doesMore.2.1 46 = .ok (.bipush (-4), 2) from by decide +kernel) rfl) <|
  tk_c (show TrOk D (d + 1) mi_X12_doesMore 48 (tr_iceq 51 67) from ok_iceq (show decode mi_X12_doesMore.2.1 48 = .ok (.if_icmp .eq 19, 3) from by decide +kernel) (by decide)) <|
  tk_c (show TrOk D (d + 1) mi_X12_doesMore 51 (tr_aload 52 0) from ok_aload_n (show decode mi_X12_doesMore.2.1 51 = .ok (.aload_n 0, 1) from by decide +kernel) rfl) <|
  tk_c (show TrOk D (d + 1) mi_X12_doesMore 52 (tr_getR 55 13 1204) from ok_getR (ci := 12) (k := 4) (show decode mi_X12_doesMore.2.1 52 = .ok (.getfield 17, 3) from by decide +kernel) rfl (by decide) (gm 785 (by decide +kernel) rfl) rfl) <|
  tk_c (show TrOk D (d + 1) mi_X12_doesMore 55 (tr_aload 56 0) from ok_aload_n (show decode mi_X12_doesMore.2.1 55 = .ok (.aload_n 0, 1) from by decide +kernel) rfl) <|
  tk_c (show TrOk D (d + 1) mi_X12_doesMore 56 (tr_getR 59 13 1209) from ok_getR (ci := 12) (k := 9) (show decode mi_X12_doesMore.2.1 56 = .ok (.getfield 30, 3) from by decide +kernel) rfl (by decide) (gm 790 (by decide +kernel) rfl) rfl) <|
  tk_c (show TrOk D (d + 1) mi_X12_doesMore 59 (tr_iload 60 2) from ok_iload_n (show decode mi_X12_doesMore.2.1 59 = .ok (.iload_n 2, 1) from by decide +kernel) rfl) <|
  tk_c (show TrOk D (d + 1) mi_X12_doesMore 60 (tr_iald 61) from ok_iald (show decode mi_X12_doesMore.2.1 60 = .ok (.iaload, 1) from by decide +kernel)) <|
  tk_c (show TrOk D (d + 1) mi_X12_doesMore 61 (tr_bald 62) from ok_bald (show decode mi_X12_doesMore.2.1 61 = .ok (.baload, 1) from by decide +kernel)) <|
  tk_c (show TrOk D (d + 1) mi_X12_doesMore 62 (tr_ifne 65 67) from ok_ifne (show decode mi_X12_doesMore.2.1 62 = .ok (.ifCond .ne 5, 3) from by decide +kernel) (by decide)) <|
  tk_c (show TrOk D (d + 1) mi_X12_doesMore 65 (tr_ic 66 1) from ok_iconst (show decode mi_X12_doesMore.2.1 65 = .ok (.iconst 1, 1) from by decide +kernel) rfl) <|
  tk_c (show TrOk D (d + 1) mi_X12_doesMore 66 (tr_iret) from ok_iret (show decode mi_X12_doesMore.2.1 66 = .ok (.ireturn, 1) from by decide +kernel) rfl) <|
  tk_c (show TrOk D (d + 1) mi_X12_doesMore 67 (tr_aload 68 0) from ok_aload_n (show decode mi_X12_doesMore.2.1 67 = .ok (.aload_n 0, 1) from by decide +kernel) rfl) <|
  tk_c (show TrOk D (d + 1) mi_X12_doesMore 68 (tr_getI 71 13 1205) from ok_getI (ci := 12) (k := 5) (show decode mi_X12_doesMore.2.1 68 = .ok (.getfield 140, 3) from by decide +kernel) rfl (by decide) (gm 786 (by decide +kernel) rfl) rfl) <|
  tk_c (show TrOk D (d + 1) mi_X12_doesMore 71 (tr_ic 74 200) from ok_sipush (show decode mi_X12_doesMore.2.1 71 = .ok (.sipush 200, 3) from by decide +kernel) rfl) <|
  tk_c (show TrOk D (d + 1) mi_X12_doesMore 74 (tr_icne 77 80) from ok_icne (show decode mi_X12_doesMore.2.1 74 = .ok (.if_icmp .ne 6, 3) from by decide +kernel) (by decide)) <|
  tk_c (show TrOk D (d + 1) mi_X12_doesMore 77 (tr_ic 79 6) from ok_bipush (show decode mi_X12_doesMore.2.1 77 = .ok (.bipush 6, 2) from by decide +kernel) rfl) <|
  tk_c (show TrOk D (d + 1) mi_X12_doesMore 79 (tr_iret) from ok_iret (show decode mi_X12_doesMore.2.1 79 = .ok (.ireturn, 1) from by decide +kernel) rfl) <|
  tk_c (show TrOk D (d + 1) mi_X12_doesMore 80 (tr_aload 81 0) from ok_aload_n (show decode mi_X12_doesMore.2.1 80 = .ok (.aload_n 0, 1) from by decide +kernel) rfl) <|
  tk_c (show TrOk D (d + 1) mi_X12_doesMore 81 (tr_aload 82 0) from ok_aload_n (show decode mi_X12_doesMore.2.1 81 = .ok (.aload_n 0, 1) from by decide +kernel) rfl) <|
  tk_c (show TrOk D (d + 1) mi_X12_doesMore 82 (tr_getR 85 13 1206) from ok_getR (ci := 12) (k := 6) (show decode mi_X12_doesMore.2.1 82 = .ok (.getfield 21, 3) from by decide +kernel) rfl (by decide) (gm 787 (by decide +kernel) rfl) rfl) <|
  tk_c (show TrOk D (d + 1) mi_X12_doesMore 85 (tr_iload 86 2) from ok_iload_n (show decode mi_X12_doesMore.2.1 85 = .ok (.iload_n 2, 1) from by decide +kernel) rfl) <|
  tk_c (show TrOk D (d + 1) mi_X12_doesMore 86 (tr_iald 87) from ok_iald (show decode mi_X12_doesMore.2.1 86 = .ok (.iaload, 1) from by decide +kernel)) <|
  tk_c (show TrOk D (d + 1) mi_X12_doesMore 87 (tr_aload 88 0) from ok_aload_n (show decode mi_X12_doesMore.2.1 87 = .ok (.aload_n 0, 1) from by decide +kernel) rfl) <|
  tk_c (show TrOk D (d + 1) mi_X12_doesMore 88 (tr_getR 91 13 1207) from ok_getR (ci := 12) (k := 7) (show decode mi_X12_doesMore.2.1 88 = .ok (.getfield 24, 3) from by decide +kernel) rfl (by decide) (gm 788 (by decide +kernel) rfl) rfl) <|
  tk_c (show TrOk D (d + 1) mi_X12_doesMore 91 (tr_iload 92 2) from ok_iload_n (show decode mi_X12_doesMore.2.1 91 = .ok (.iload_n 2, 1) from by decide +kernel) rfl) <|
  tk_c (show TrOk D (d + 1) mi_X12_doesMore 92 (tr_iald 93) from ok_iald (show decode mi_X12_doesMore.2.1 92 = .ok (.iaload, 1) from by decide +kernel)) <|
  tk_c (show TrOk D (d + 1) mi_X12_doesMore 93 (tr_aload 94 0) from ok_aload_n (show decode mi_X12_doesMore.2.1 93 = .ok (.aload_n 0, 1) from by decide +kernel) rfl) <|
  tk_c (show TrOk D (d + 1) mi_X12_doesMore 94 (tr_getR 97 13 1208) from ok_getR (ci := 12) (k := 8) (show decode mi_X12_doesMore.2.1 94 = .ok (.getfield 27, 3) from by decide +kernel) rfl (by decide) (gm 789 (by decide +kernel) rfl) rfl) <|
  tk_c (show TrOk D (d + 1) mi_X12_doesMore 97 (tr_iload 98 2) from ok_iload_n (show decode mi_X12_doesMore.2.1 97 = .ok (.iload_n 2, 1) from by decide +kernel) rfl) <|
  tk_n
def tb_X12_doesMore_1 (C : Nat → Sp) : Tab := [(98, tr_iald 99), (99, tr_aload 100 0), (100, tr_getR 103 13 1209), (103, tr_iload 104 2), (104, tr_iald 105), (105, tr_callV (C 103) 108 13 4), (108, tr_istore 110 5), (110, tr_aload 111 0), (111, tr_getR 114 13 1210), (114, tr_iload 116 5), (116, tr_aload 117 0), (117, tr_getR 120 13 1210), (120, tr_iload 121 2), (121, tr_lald 122), (122, tr_last 123), (123, tr_aload 124 0), (124, tr_getR 127 13 1211), (127, tr_iload 129 5), (129, tr_aload 130 0), (130, tr_getR 133 13 1211), (133, tr_iload 134 2), (134, tr_lald 135), (135, tr_last 136), (136, tr_aload 137 0), (137, tr_getR 140 13 1212), (140, tr_iload 142 5), (142, tr_aload 143 0), (143, tr_getR 146 13 1212), (146, tr_iload 147 2), (147, tr_bald 148), (148, tr_bast 149), (149, tr_aload 150 0), (150, tr_getR 153 13 1214), (153, tr_iload 155 5), (155, tr_aload 156 0), (156, tr_getR 159 13 1214), (159, tr_iload 160 2), (160, tr_iald 161), (161, tr_iast 162), (162, tr_ic 163 0)]
set_option maxRecDepth 20000 in
theorem tbk_X12_doesMore_1 {D : DD} {d : Nat} {C : Nat → Sp} (hC : Snd D d C) : ∀ e ∈ tb_X12_doesMore_1 C, TrOk D (d + 1) mi_X12_doesMore e.1 e.2 :=
  tk_c (show TrOk D (d + 1) mi_X12_doesMore 98 (tr_iald 99) from ok_iald (show decode mi_X12_doesMore.2.1 98 = .ok (.iaload, 1) from by decide +kernel)) <|
  tk_c (show TrOk D (d + 1) mi_X12_doesMore 99 (tr_aload 100 0) from ok_aload_n (show decode mi_X12_doesMore.2.1 99 = .ok (.aload_n 0, 1) from by decide +kernel) rfl) <|
  tk_c (show TrOk D (d + 1) mi_X12_doesMore 100 (tr_getR 103 13 1209) from ok_getR (ci := 12) (k := 9) (show decode mi_X12_doesMore.2.1 100 = .ok (.getfield 30, 3) from by decide +kernel) rfl (by decide) (gm 790 (by decide +kernel) rfl) rfl) <|
  tk_c (show TrOk D (d + 1) mi_X12_doesMore 103 (tr_iload 104 2) from ok_iload_n (show decode mi_X12_doesMore.2.1 103 = .ok (.iload_n 2, 1) from by decide +kernel) rfl) <|
  tk_c (show TrOk D (d + 1) mi_X12_doesMore 104 (tr_iald 105) from ok_iald (show decode mi_X12_doesMore.2.1 104 = .ok (.iaload, 1) from by decide +kernel)) <|
  tk_c (show TrOk D (d + 1) mi_X12_doesMore 105 (tr_callV (C 103) 108 13 4) from ok_callV (ci := 12) (show decode mi_X12_doesMore.2.1 105 = .ok (.invokevirtual 238, 3) from by decide +kernel) mok_X12_listen rfl rfl (gm 1061 (by decide +kernel) rfl) (gm 971 (by decide +kernel) rfl) (gm 972 (by decide +kernel) rfl) (hC 103)) <|
  tk_c (show TrOk D (d + 1) mi_X12_doesMore 108 (tr_istore 110 5) from ok_istore (show decode mi_X12_doesMore.2.1 108 = .ok (.istore 5, 2) from by decide +kernel) (by decide)) <|
  tk_c (show TrOk D (d + 1) mi_X12_doesMore 110 (tr_aload 111 0) from ok_aload_n (show decode mi_X12_doesMore.2.1 110 = .ok (.aload_n 0, 1) from by decide +kernel) rfl) <|
  tk_c (show TrOk D (d + 1) mi_X12_doesMore 111 (tr_getR 114 13 1210) from ok_getR (ci := 12) (k := 10) (show decode mi_X12_doesMore.2.1 111 = .ok (.getfield 33, 3) from by decide +kernel) rfl (by decide) (gm 791 (by decide +kernel) rfl) rfl) <|
  tk_c (show TrOk D (d + 1) mi_X12_doesMore 114 (tr_iload 116 5) from ok_iload (show decode mi_X12_doesMore.2.1 114 = .ok (.iload 5, 2) from by decide +kernel)) <|
  tk_c (show TrOk D (d + 1) mi_X12_doesMore 116 (tr_aload 117 0) from ok_aload_n (show decode mi_X12_doesMore.2.1 116 = .ok (.aload_n 0, 1) from by decide +kernel) rfl) <|
  tk_c (show TrOk D (d + 1) mi_X12_doesMore 117 (tr_getR 120 13 1210) from ok_getR (ci := 12) (k := 10) (show decode mi_X12_doesMore.2.1 117 = .ok (.getfield 33, 3) from by decide +kernel) rfl (by decide) (gm 791 (by decide +kernel) rfl) rfl) <|
  tk_c (show TrOk D (d + 1) mi_X12_doesMore 120 (tr_iload 121 2) from ok_iload_n (show decode mi_X12_doesMore.2.1 120 = .ok (.iload_n 2, 1) from by decide +kernel) rfl) <|
  tk_c (show TrOk D (d + 1) mi_X12_doesMore 121 (tr_lald 122) from ok_lald (show decode mi_X12_doesMore.2.1 121 = .ok (.laload, 1) from by decide +kernel)) <|
  tk_c (show TrOk D (d + 1) mi_X12_doesMore 122 (tr_last 123) from ok_last (show decode mi_X12_doesMore.2.1 122 = .ok (.lastore, 1) from by decide +kernel)) <|
  tk_c (show TrOk D (d + 1) mi_X12_doesMore 123 (tr_aload 124 0) from ok_aload_n (show decode mi_X12_doesMore.2.1 123 = .ok (.aload_n 0, 1) from by decide +kernel) rfl) <|
  tk_c (show TrOk D (d + 1) mi_X12_doesMore 124 (tr_getR 127 13 1211) from ok_getR (ci := 12) (k := 11) (show decode mi_X12_doesMore.2.1 124 = .ok (.getfield 36, 3) from by decide +kernel) rfl (by decide) (gm 792 (by decide +kernel) rfl) rfl) <|
  tk_c (show TrOk D (d + 1) mi_X12_doesMore 127 (tr_iload 129 5) from ok_iload (show decode mi_X12_doesMore.2.1 127 = .ok (.iload 5, 2) from by decide +kernel)) <|
  tk_c (show TrOk D (d + 1) mi_X12_doesMore 129 (tr_aload 130 0) from ok_aload_n (show decode mi_X12_doesMore.2.1 129 = .ok (.aload_n 0, 1) from by decide +kernel) rfl) <|
  tk_c (show TrOk D (d + 1) mi_X12_doesMore 130 (tr_getR 133 13 1211) from ok_getR (ci := 12) (k := 11) (show decode mi_X12_doesMore.2.1 130 = .ok (.getfield 36, 3) from by decide +kernel) rfl (by decide) (gm 792 (by decide +kernel) rfl) rfl) <|
  tk_c (show TrOk D (d + 1) mi_X12_doesMore 133 (tr_iload 134 2) from ok_iload_n (show decode mi_X12_doesMore.2.1 133 = .ok (.iload_n 2, 1) from by decide +kernel) rfl) <|
  tk_c (show TrOk D (d + 1) mi_X12_doesMore 134 (tr_lald 135) from ok_lald (show decode mi_X12_doesMore.2.1 134 = .ok (.laload, 1) from by decide +kernel)) <|
  tk_c (show TrOk D (d + 1) mi_X12_doesMore 135 (tr_last 136) from ok_last (show decode mi_X12_doesMore.2.1 135 = .ok (.lastore, 1) from by decide +kernel)) <|
  tk_c (show TrOk D (d + 1) mi_X12_doesMore 136 (tr_aload 137 0) from ok_aload_n (show decode mi_X12_doesMore.2.1 136 = .ok (.aload_n 0, 1) from by decide +kernel) rfl) <|
  tk_c (show TrOk D (d + 1) mi_X12_doesMore 137 (tr_getR 140 13 1212) from ok_getR (ci := 12) (k := 12) (show decode mi_X12_doesMore.2.1 137 = .ok (.getfield 39, 3) from by decide +kernel) rfl (by decide) (gm 793 (by decide +kernel) rfl) rfl) <|
  tk_c (show TrOk D (d + 1) mi_X12_doesMore 140 (tr_iload 142 5) from ok_iload (show decode mi_X12_doesMore.2.1 140 = .ok (.iload 5, 2) from by decide +kernel)) <|
  tk_c (show TrOk D (d + 1) mi_X12_doesMore 142 (tr_aload 143 0) from ok_aload_n (show decode mi_X12_doesMore.2.1 142 = .ok (.aload_n 0, 1) from by decide +kernel) rfl) <|
  tk_c (show TrOk D (d + 1) mi_X12_doesMore 143 (tr_getR 146 13 1212) from ok_getR (ci := 12) (k := 12) (show decode mi_X12_doesMore.2.1 143 = .ok (.getfield 39, 3) from by decide +kernel) rfl (by decide) (gm 793 (by decide +kernel) rfl) rfl) <|
  tk_c (show TrOk D (d + 1) mi_X12_doesMore 146 (tr_iload 147 2) from ok_iload_n (show decode mi_X12_doesMore.2.1 146 = .ok (.iload_n 2, 1) from by decide +kernel) rfl) <|
  tk_c (show TrOk D (d + 1) mi_X12_doesMore 147 (tr_bald 148) from ok_bald (show decode mi_X12_doesMore.2.1 147 = .ok (.baload, 1) from by decide +kernel)) <|
  tk_c (show TrOk D (d + 1) mi_X12_doesMore 148 (tr_bast 149) from ok_bast (show decode mi_X12_doesMore.2.1 148 = .ok (.bastore, 1) from by decide +kernel)) <|
  tk_c (show TrOk D (d + 1) mi_X12_doesMore 149 (tr_aload 150 0) from ok_aload_n (show decode mi_X12_doesMore.2.1 149 = .ok (.aload_n 0, 1) from by decide +kernel) rfl) <|
  tk_c (show TrOk D (d + 1) mi_X12_doesMore 150 (tr_getR 153 13 1214) from ok_getR (ci := 12) (k := 14) (show decode mi_X12_doesMore.2.1 150 = .ok (.getfield 45, 3) from by decide +kernel) rfl (by decide) (gm 795 (by decide +kernel) rfl) rfl) <|
  tk_c (show TrOk D (d + 1) mi_X12_doesMore 153 (tr_iload 155 5) from ok_iload (show decode mi_X12_doesMore.2.1 153 = .ok (.iload 5, 2) from by decide +kernel)) <|
  tk_c (show TrOk D (d + 1) mi_X12_doesMore 155 (tr_aload 156 0) from ok_aload_n (show decode mi_X12_doesMore.2.1 155 = .ok (.aload_n 0, 1) from by decide +kernel) rfl) <|
  tk_c (show TrOk D (d + 1) mi_X12_doesMore 156 (tr_getR 159 13 1214) from ok_getR (ci := 12) (k := 14) (show decode mi_X12_doesMore.2.1 156 = .ok (.getfield 45, 3) from by decide +kernel) rfl (by decide) (gm 795 (by decide +kernel) rfl) rfl) <|
  tk_c (show TrOk D (d + 1) mi_X12_doesMore 159 (tr_iload 160 2) from ok_iload_n (show decode mi_X12_doesMore.2.1 159 = .ok (.iload_n 2, 1) from by decide +kernel) rfl) <|
  tk_c (show TrOk D (d + 1) mi_X12_doesMore 160 (tr_iald 161) from ok_iald (show decode mi_X12_doesMore.2.1 160 = .ok (.iaload, 1) from by decide +kernel)) <|
  tk_c (show TrOk D (d + 1) mi_X12_doesMore 161 (tr_iast 162) from ok_iast (show decode mi_X12_doesMore.2.1 161 = .ok (.iastore, 1) from by decide +kernel)) <|
  tk_c (show TrOk D (d + 1) mi_X12_doesMore 162 (tr_ic 163 0) from ok_iconst (show decode mi_X12_doesMore.2.1 162 = .ok (.iconst 0, 1) from by decide +kernel) rfl) <|
  tk_n
def tb_X12_doesMore_2 (C : Nat → Sp) : Tab := [(163, tr_istore 165 6), (165, tr_iload 167 6), (167, tr_ic 169 10), (169, tr_icge 172 228), (172, tr_aload 173 0), (173, tr_getR 176 13 1215), (176, tr_ic 178 10), (178, tr_iload 180 5), (180, tr_imul 181), (181, tr_iload 183 6), (183, tr_iadd 184), (184, tr_aload 185 0), (185, tr_getR 188 13 1215), (188, tr_ic 190 10), (190, tr_iload 191 2), (191, tr_imul 192), (192, tr_iload 194 6), (194, tr_iadd 195), (195, tr_iald 196), (196, tr_iast 197), (197, tr_aload 198 0), (198, tr_getR 201 13 1216), (201, tr_ic 203 10), (203, tr_iload 205 5), (205, tr_imul 206), (206, tr_iload 208 6), (208, tr_iadd 209), (209, tr_aload 210 0), (210, tr_getR 213 13 1216), (213, tr_ic 215 10), (215, tr_iload 216 2), (216, tr_imul 217), (217, tr_iload 219 6), (219, tr_iadd 220), (220, tr_iald 221), (221, tr_iast 222), (222, tr_iinc 225 6 1), (225, tr_goto 165), (228, tr_ic 229 0), (229, tr_iret)]
set_option maxRecDepth 20000 in
theorem tbk_X12_doesMore_2 {D : DD} {d : Nat} {C : Nat → Sp} (hC : Snd D d C) : ∀ e ∈ tb_X12_doesMore_2 C, TrOk D (d + 1) mi_X12_doesMore e.1 e.2 :=
  tk_c (show TrOk D (d + 1) mi_X12_doesMore 163 (tr_istore 165 6) from ok_istore (show decode mi_X12_doesMore.2.1 163 = .ok (.istore 6, 2) from by decide +kernel) (by decide)) <|
  tk_c (show TrOk D (d + 1) mi_X12_doesMore 165 (tr_iload 167 6) from ok_iload (show decode mi_X12_doesMore.2.1 165 = .ok (.iload 6, 2) from by decide +kernel)) <|
  tk_c (show TrOk D (d + 1) mi_X12_doesMore 167 (tr_ic 169 10) from ok_bipush (show decode mi_X12_doesMore.2.1 167 = .ok (.bipush 10, 2) from by decide +kernel) rfl) <|
  tk_c (show TrOk D (d + 1) mi_X12_doesMore 169 (tr_icge 172 228) from ok_icge (show decode mi_X12_doesMore.2.1 169 = .ok (.if_icmp .ge 59, 3) from by decide +kernel) (by decide)) <|
  tk_c (show TrOk D (d + 1) mi_X12_doesMore 172 (tr_aload 173 0) from ok_aload_n (show decode mi_X12_doesMore.2.1 172 = .ok (.aload_n 0, 1) from by decide +kernel) rfl) <|
  tk_c (show TrOk D (d + 1) mi_X12_doesMore 173 (tr_getR 176 13 1215) from ok_getR (ci := 12) (k := 15) (show decode mi_X12_doesMore.2.1 173 = .ok (.getfield 48, 3) from by decide +kernel) rfl (by decide) (gm 796 (by decide +kernel) rfl) rfl) <|
  tk_c (show TrOk D (d + 1) mi_X12_doesMore 176 (tr_ic 178 10) from ok_bipush (show decode mi_X12_doesMore.2.1 176 = .ok (.bipush 10, 2) from by decide +kernel) rfl) <|
  tk_c (show TrOk D (d + 1) mi_X12_doesMore 178 (tr_iload 180 5) from ok_iload (show decode mi_X12_doesMore.2.1 178 = .ok (.iload 5, 2) from by decide +kernel)) <|
  tk_c (show TrOk D (d + 1) mi_X12_doesMore 180 (tr_imul 181) from ok_imul (show decode mi_X12_doesMore.2.1 180 = .ok (.imul, 1) from by decide +kernel)) <|
  tk_c (show TrOk D (d + 1) mi_X12_doesMore 181 (tr_iload 183 6) from ok_iload (show decode mi_X12_doesMore.2.1 181 = .ok (.iload 6, 2) from by decide +kernel)) <|
  tk_c (show TrOk D (d + 1) mi_X12_doesMore 183 (tr_iadd 184) from ok_iadd (show decode mi_X12_doesMore.2.1 183 = .ok (.iadd, 1) from by decide +kernel)) <|
  tk_c (show TrOk D (d + 1) mi_X12_doesMore 184 (tr_aload 185 0) from ok_aload_n (show decode mi_X12_doesMore.2.1 184 = .ok (.aload_n 0, 1) from by decide +kernel) rfl) <|
  tk_c (show TrOk D (d + 1) mi_X12_doesMore 185 (tr_getR 188 13 1215) from ok_getR (ci := 12) (k := 15) (show decode mi_X12_doesMore.2.1 185 = .ok (.getfield 48, 3) from by decide +kernel) rfl (by decide) (gm 796 (by decide +kernel) rfl) rfl) <|
  tk_c (show TrOk D (d + 1) mi_X12_doesMore 188 (tr_ic 190 10) from ok_bipush (show decode mi_X12_doesMore.2.1 188 = .ok (.bipush 10, 2) from by decide +kernel) rfl) <|
  tk_c (show TrOk D (d + 1) mi_X12_doesMore 190 (tr_iload 191 2) from ok_iload_n (show decode mi_X12_doesMore.2.1 190 = .ok (.iload_n 2, 1) from by decide +kernel) rfl) <|
  tk_c (show TrOk D (d + 1) mi_X12_doesMore 191 (tr_imul 192) from ok_imul (show decode mi_X12_doesMore.2.1 191 = .ok (.imul, 1) from by decide +kernel)) <|
  tk_c (show TrOk D (d + 1) mi_X12_doesMore 192 (tr_iload 194 6) from ok_iload (show decode mi_X12_doesMore.2.1 192 = .ok (.iload 6, 2) from by decide +kernel)) <|
  tk_c (show TrOk D (d + 1) mi_X12_doesMore 194 (tr_iadd 195) from ok_iadd (show decode mi_X12_doesMore.2.1 194 = .ok (.iadd, 1) from by decide +kernel)) <|
  tk_c (show TrOk D (d + 1) mi_X12_doesMore 195 (tr_iald 196) from ok_iald (show decode mi_X12_doesMore.2.1 195 = .ok (.iaload, 1) from by decide +kernel)) <|
  tk_c (show TrOk D (d + 1) mi_X12_doesMore 196 (tr_iast 197) from ok_iast (show decode mi_X12_doesMore.2.1 196 = .ok (.iastore, 1) from by decide +kernel)) <|
  tk_c (show TrOk D (d + 1) mi_X12_doesMore 197 (tr_aload 198 0) from ok_aload_n (show decode mi_X12_doesMore.2.1 197 = .ok (.aload_n 0, 1) from by decide +kernel) rfl) <|
  tk_c (show TrOk D (d + 1) mi_X12_doesMore 198 (tr_getR 201 13 1216) from ok_getR (ci := 12) (k := 16) (show decode mi_X12_doesMore.2.1 198 = .ok (.getfield 51, 3) from by decide +kernel) rfl (by decide) (gm 797 (by decide +kernel) rfl) rfl) <|
  tk_c (show TrOk D (d + 1) mi_X12_doesMore 201 (tr_ic 203 10) from ok_bipush (show decode mi_X12_doesMore.2.1 201 = .ok (.bipush 10, 2) from by decide +kernel) rfl) <|
  tk_c (show TrOk D (d + 1) mi_X12_doesMore 203 (tr_iload 205 5) from ok_iload (show decode mi_X12_doesMore.2.1 203 = .ok (.iload 5, 2) from by decide +kernel)) <|
  tk_c (show TrOk D (d + 1) mi_X12_doesMore 205 (tr_imul 206) from ok_imul (show decode mi_X12_doesMore.2.1 205 = .ok (.imul, 1) from by decide +kernel)) <|
  tk_c (show TrOk D (d + 1) mi_X12_doesMore 206 (tr_iload 208 6) from ok_iload (show decode mi_X12_doesMore.2.1 206 = .ok (.iload 6, 2) from by decide +kernel)) <|
  tk_c (show TrOk D (d + 1) mi_X12_doesMore 208 (tr_iadd 209) from ok_iadd (show decode mi_X12_doesMore.2.1 208 = .ok (.iadd, 1) from by decide +kernel)) <|
  tk_c (show TrOk D (d + 1) mi_X12_doesMore 209 (tr_aload 210 0) from ok_aload_n (show decode mi_X12_doesMore.2.1 209 = .ok (.aload_n 0, 1) from by decide +kernel) rfl) <|
  tk_c (show TrOk D (d + 1) mi_X12_doesMore 210 (tr_getR 213 13 1216) from ok_getR (ci := 12) (k := 16) (show decode mi_X12_doesMore.2.1 210 = .ok (.getfield 51, 3) from by decide +kernel) rfl (by decide) (gm 797 (by decide +kernel) rfl) rfl) <|
  tk_c (show TrOk D (d + 1) mi_X12_doesMore 213 (tr_ic 215 10) from ok_bipush (show decode mi_X12_doesMore.2.1 213 = .ok (.bipush 10, 2) from by decide +kernel) rfl) <|
  tk_c (show TrOk D (d + 1) mi_X12_doesMore 215 (tr_iload 216 2) from ok_iload_n (show decode mi_X12_doesMore.2.1 215 = .ok (.iload_n 2, 1) from by decide +kernel) rfl) <|
  tk_c (show TrOk D (d + 1) mi_X12_doesMore 216 (tr_imul 217) from ok_imul (show decode mi_X12_doesMore.2.1 216 = .ok (.imul, 1) from by decide +kernel)) <|
  tk_c (show TrOk D (d + 1) mi_X12_doesMore 217 (tr_iload 219 6) from ok_iload (show decode mi_X12_doesMore.2.1 217 = .ok (.iload 6, 2) from by decide +kernel)) <|
  tk_c (show TrOk D (d + 1) mi_X12_doesMore 219 (tr_iadd 220) from ok_iadd (show decode mi_X12_doesMore.2.1 219 = .ok (.iadd, 1) from by decide +kernel)) <|
  tk_c (show TrOk D (d + 1) mi_X12_doesMore 220 (tr_iald 221) from ok_iald (show decode mi_X12_doesMore.2.1 220 = .ok (.iaload, 1) from by decide +kernel)) <|
  tk_c (show TrOk D (d + 1) mi_X12_doesMore 221 (tr_iast 222) from ok_iast (show decode mi_X12_doesMore.2.1 221 = .ok (.iastore, 1) from by decide +kernel)) <|
  tk_c (show TrOk D (d + 1) mi_X12_doesMore 222 (tr_iinc 225 6 1) from ok_iinc (show decode mi_X12_doesMore.2.1 222 = .ok (.iinc 6 1, 3) from by decide +kernel) rfl (by decide)) <|
  tk_c (show TrOk D (d + 1) mi_X12_doesMore 225 (tr_goto 165) from ok_goto (show decode mi_X12_doesMore.2.1 225 = .ok (.goto (-60), 3) from by decide +kernel) (by decide)) <|
  tk_c (show TrOk D (d + 1) mi_X12_doesMore 228 (tr_ic 229 0) from ok_iconst (show decode mi_X12_doesMore.2.1 228 = .ok (.iconst 0, 1) from by decide +kernel) rfl) <|
  tk_c (show TrOk D (d + 1) mi_X12_doesMore 229 (tr_iret) from ok_iret (show decode mi_X12_doesMore.2.1 229 = .ok (.ireturn, 1) from by decide +kernel) rfl) <|
  tk_n
def tb_X12_doesMore_3 (C : Nat → Sp) : Tab := [(230, tr_aload 231 0), (231, tr_iload 232 2), (232, tr_callV (C 98) 235 13 1), (235, tr_ifeq 238 247), (238, tr_aload 239 0), (239, tr_getR 242 13 1213), (242, tr_iload 243 2), (243, tr_bald 244), (244, tr_ifne 247 249), (247, tr_ic 248 1), (248, tr_iret), (249, tr_aload 250 0), (250, tr_getR 253 13 1213), (253, tr_iload 254 2), (254, tr_ic 255 0), (255, tr_bast 256), (256, tr_ic 257 0), (257, tr_iret), (258, tr_aload 259 0), (259, tr_iload 260 2), (260, tr_callV (C 97) 263 13 1), (263, tr_ifne 266 270), (266, tr_ic 267 1), (267, tr_goto 299), (270, tr_aload 271 0), (271, tr_getI 274 13 1225), (274, tr_ic 276 12), (276, tr_icne 279 284), (279, tr_ic 281 7), (281, tr_goto 299), (284, tr_aload 285 0), (285, tr_getI 288 13 1240), (288, tr_ic 290 60), (290, tr_icne 293 298), (293, tr_ic 295 9), (295, tr_goto 299), (298, tr_ic 299 0), (299, tr_istore 301 5), (301, tr_iload 303 5), (303, tr_ifne 306 312)]
set_option maxRecDepth 20000 in
theorem tbk_X12_doesMore_3 {D : DD} {d : Nat} {C : Nat → Sp} (hC : Snd D d C) : ∀ e ∈ tb_X12_doesMore_3 C, TrOk D (d + 1) mi_X12_doesMore e.1 e.2 :=
  tk_c (show TrOk D (d + 1) mi_X12_doesMore 230 (tr_aload 231 0) from ok_aload_n (show decode mi_X12_doesMore.2.1 230 = .ok (.aload_n 0, 1) from by decide +kernel) rfl) <|
  tk_c (show TrOk D (d + 1) mi_X12_doesMore 231 (tr_iload 232 2) from ok_iload_n (show decode mi_X12_doesMore.2.1 231 = .ok (.iload_n 2, 1) from by decide +kernel) rfl) <|
  tk_c (show TrOk D (d + 1) mi_X12_doesMore 232 (tr_callV (C 98) 235 13 1) from ok_callV (ci := 12) (show decode mi_X12_doesMore.2.1 232 = .ok (.invokevirtual 160, 3) from by decide +kernel) mok_X12_isListener rfl rfl (gm 981 (by decide +kernel) rfl) (gm 983 (by decide +kernel) rfl) (gm 14 (by decide +kernel) rfl) (hC 98)) <|
  tk_c (show TrOk D (d + 1) mi_X12_doesMore 235 (tr_ifeq 238 247) from ok_ifeq (show decode mi_X12_doesMore.2.1 235 = .ok (.ifCond .eq 12, 3) from by decide +kernel) (by decide)) <|
  tk_c (show TrOk D (d + 1) mi_X12_doesMore 238 (tr_aload 239 0) from ok_aload_n (show decode mi_X12_doesMore.2.1 238 = .ok (.aload_n 0, 1) from by decide +kernel) rfl) <|
  tk_c (show TrOk D (d + 1) mi_X12_doesMore 239 (tr_getR 242 13 1213) from ok_getR (ci := 12) (k := 13) (show decode mi_X12_doesMore.2.1 239 = .ok (.getfield 42, 3) from by decide +kernel) rfl (by decide) (gm 794 (by decide +kernel) rfl) rfl) <|
  tk_c (show TrOk D (d + 1) mi_X12_doesMore 242 (tr_iload 243 2) from ok_iload_n (show decode mi_X12_doesMore.2.1 242 = .ok (.iload_n 2, 1) from by decide +kernel) rfl) <|
  tk_c (show TrOk D (d + 1) mi_X12_doesMore 243 (tr_bald 244) from ok_bald (show decode mi_X12_doesMore.2.1 243 = .ok (.baload, 1) from by decide +kernel)) <|
  tk_c (show TrOk D (d + 1) mi_X12_doesMore 244 (tr_ifne 247 249) from ok_ifne (show decode mi_X12_doesMore.2.1 244 = .ok (.ifCond .ne 5, 3) from by decide +kernel) (by decide)) <|
  tk_c (show TrOk D (d + 1) mi_X12_doesMore 247 (tr_ic 248 1) from ok_iconst (show decode mi_X12_doesMore.2.1 247 = .ok (.iconst 1, 1) from by decide +kernel) rfl) <|
  tk_c (show TrOk D (d + 1) mi_X12_doesMore 248 (tr_iret) from ok_iret (show decode mi_X12_doesMore.2.1 248 = .ok (.ireturn, 1) from by decide +kernel) rfl) <|
  tk_c (show TrOk D (d + 1) mi_X12_doesMore 249 (tr_aload 250 0) from ok_aload_n (show decode mi_X12_doesMore.2.1 249 = .ok (.aload_n 0, 1) from by decide +kernel) rfl) <|
  tk_c (show TrOk D (d + 1) mi_X12_doesMore 250 (tr_getR 253 13 1213) from ok_getR (ci := 12) (k := 13) (show decode mi_X12_doesMore.2.1 250 = .ok (.getfield 42, 3) from by decide +kernel) rfl (by decide) (gm 794 (by decide +kernel) rfl) rfl) <|
  tk_c (show TrOk D (d + 1) mi_X12_doesMore 253 (tr_iload 254 2) from ok_iload_n (show decode mi_X12_doesMore.2.1 253 = .ok (.iload_n 2, 1) from by decide +kernel) rfl) <|
  tk_c (show TrOk D (d + 1) mi_X12_doesMore 254 (tr_ic 255 0) from ok_iconst (show decode mi_X12_doesMore.2.1 254 = .ok (.iconst 0, 1) from by decide +kernel) rfl) <|
  tk_c (show TrOk D (d + 1) mi_X12_doesMore 255 (tr_bast 256) from ok_bast (show decode mi_X12_doesMore.2.1 255 = .ok (.bastore, 1) from by decide +kernel)) <|
  tk_c (show TrOk D (d + 1) mi_X12_doesMore 256 (tr_ic 257 0) from ok_iconst (show decode mi_X12_doesMore.2.1 256 = .ok (.iconst 0, 1) from by decide +kernel) rfl) <|
  tk_c (show TrOk D (d + 1) mi_X12_doesMore 257 (tr_iret) from ok_iret (show decode mi_X12_doesMore.2.1 257 = .ok (.ireturn, 1) from by decide +kernel) rfl) <|
  tk_c (show TrOk D (d + 1) mi_X12_doesMore 258 (tr_aload 259 0) from ok_aload_n (show decode mi_X12_doesMore.2.1 258 = .ok (.aload_n 0, 1) from by decide +kernel) rfl) <|
  tk_c (show TrOk D (d + 1) mi_X12_doesMore 259 (tr_iload 260 2) from ok_iload_n (show decode mi_X12_doesMore.2.1 259 = .ok (.iload_n 2, 1) from by decide +kernel) rfl) <|
  tk_c (show TrOk D (d + 1) mi_X12_doesMore 260 (tr_callV (C 97) 263 13 1) from ok_callV (ci := 12) (show decode mi_X12_doesMore.2.1 260 = .ok (.invokevirtual 143, 3) from by decide +kernel) mok_X12_isKind rfl rfl (gm 951 (by decide +kernel) rfl) (gm 953 (by decide +kernel) rfl) (gm 12 (by decide +kernel) rfl) (hC 97)) <|
  tk_c (show TrOk D (d + 1) mi_X12_doesMore 263 (tr_ifne 266 270) from ok_ifne (show decode mi_X12_doesMore.2.1 263 = .ok (.ifCond .ne 7, 3) from by decide +kernel) (by decide)) <|
  tk_c (show TrOk D (d + 1) mi_X12_doesMore 266 (tr_ic 267 1) from ok_iconst (show decode mi_X12_doesMore.2.1 266 = .ok (.iconst 1, 1) from by decide +kernel) rfl) <|
  tk_c (show TrOk D (d + 1) mi_X12_doesMore 267 (tr_goto 299) from ok_goto (show decode mi_X12_doesMore.2.1 267 = .ok (.goto 32, 3) from by decide +kernel) (by decide)) <|
  tk_c (show TrOk D (d + 1) mi_X12_doesMore 270 (tr_aload 271 0) from ok_aload_n (show decode mi_X12_doesMore.2.1 270 = .ok (.aload_n 0, 1) from by decide +kernel) rfl) <|
  tk_c (show TrOk D (d + 1) mi_X12_doesMore 271 (tr_getI 274 13 1225) from ok_getI (ci := 12) (k := 25) (show decode mi_X12_doesMore.2.1 271 = .ok (.getfield 186, 3) from by decide +kernel) rfl (by decide) (gm 806 (by decide +kernel) rfl) rfl) <|
  tk_c (show TrOk D (d + 1) mi_X12_doesMore 274 (tr_ic 276 12) from ok_bipush (show decode mi_X12_doesMore.2.1 274 = .ok (.bipush 12, 2) from by decide +kernel) rfl) <|
  tk_c (show TrOk D (d + 1) mi_X12_doesMore 276 (tr_icne 279 284) from ok_icne (show decode mi_X12_doesMore.2.1 276 = .ok (.if_icmp .ne 8, 3) from by decide +kernel) (by decide)) <|
  tk_c (show TrOk D (d + 1) mi_X12_doesMore 279 (tr_ic 281 7) from ok_bipush (show decode mi_X12_doesMore.2.1 279 = .ok (.bipush 7, 2) from by decide +kernel) rfl) <|
  tk_c (show TrOk D (d + 1) mi_X12_doesMore 281 (tr_goto 299) from ok_goto (show decode mi_X12_doesMore.2.1 281 = .ok (.goto 18, 3) from by decide +kernel) (by decide)) <|
  tk_c (show TrOk D (d + 1) mi_X12_doesMore 284 (tr_aload 285 0) from ok_aload_n (show decode mi_X12_doesMore.2.1 284 = .ok (.aload_n 0, 1) from by decide +kernel) rfl) <|
  tk_c (show TrOk D (d + 1) mi_X12_doesMore 285 (tr_getI 288 13 1240) from ok_getI (ci := 12) (k := 40) (show decode mi_X12_doesMore.2.1 285 = .ok (.getfield 196, 3) from by decide +kernel) rfl (by decide) (gm 821 (by decide +kernel) rfl) rfl) <|
  tk_c (show TrOk D (d + 1) mi_X12_doesMore 288 (tr_ic 290 60) from ok_bipush (show decode mi_X12_doesMore.2.1 288 = .ok (.bipush 60, 2) from by decide +kernel) rfl) <|
  tk_c (show TrOk D (d + 1) mi_X12_doesMore 290 (tr_icne 293 298) from ok_icne (show decode mi_X12_doesMore.2.1 290 = .ok (.if_icmp .ne 8, 3) from by decide +kernel) (by decide)) <|
  tk_c (show TrOk D (d + 1) mi_X12_doesMore 293 (tr_ic 295 9) from ok_bipush (show decode mi_X12_doesMore.2.1 293 = .ok (.bipush 9, 2) from by decide +kernel) rfl) <|
  tk_c (show TrOk D (d + 1) mi_X12_doesMore 295 (tr_goto 299) from ok_goto (show decode mi_X12_doesMore.2.1 295 = .ok (.goto 4, 3) from by decide +kernel) (by decide)) <|
  tk_c (show TrOk D (d + 1) mi_X12_doesMore 298 (tr_ic 299 0) from ok_iconst (show decode mi_X12_doesMore.2.1 298 = .ok (.iconst 0, 1) from by decide +kernel) rfl) <|
  tk_c (show TrOk D (d + 1) mi_X12_doesMore 299 (tr_istore 301 5) from ok_istore (show decode mi_X12_doesMore.2.1 299 = .ok (.istore 5, 2) from by decide +kernel) (by decide)) <|
  tk_c (show TrOk D (d + 1) mi_X12_doesMore 301 (tr_iload 303 5) from ok_iload (show decode mi_X12_doesMore.2.1 301 = .ok (.iload 5, 2) from by decide +kernel)) <|
  tk_c (show TrOk D (d + 1) mi_X12_doesMore 303 (tr_ifne 306 312) from ok_ifne (show decode mi_X12_doesMore.2.1 303 = .ok (.ifCond .ne 9, 3) from by decide +kernel) (by decide)) <|
  tk_n
def tb_X12_doesMore_4 (C : Nat → Sp) : Tab := [(306, tr_aload 307 0), (307, tr_iload 308 2), (308, tr_lload 309 3), (309, tr_callV (C 117) 312 13 2), (312, tr_iload 314 5), (314, tr_iret), (315, tr_aload 316 0), (316, tr_iload 317 2), (317, tr_callV (C 97) 320 13 1), (320, tr_ifeq 323 332), (323, tr_aload 324 0), (324, tr_getI 327 13 1236), (327, tr_ic 329 40), (329, tr_icne 332 347), (332, tr_aload 333 0), (333, tr_iload 334 2), (334, tr_callV (C 97) 337 13 1), (337, tr_ifeq 340 345), (340, tr_ic 342 6), (342, tr_goto 346), (345, tr_ic 346 1), (346, tr_iret), (347, tr_aload 348 0), (348, tr_getR 351 13 1237), (351, tr_aload 352 0), (352, tr_getI 355 13 1236), (355, tr_iload 356 2), (356, tr_iast 357), (357, tr_aload 358 0), (358, tr_getR 361 13 1238), (361, tr_aload 362 0), (362, tr_getI 365 13 1236), (365, tr_lload 366 3), (366, tr_last 367), (367, tr_aload 368 0), (368, tr_dup 369), (369, tr_getI 372 13 1236), (372, tr_ic 373 1), (373, tr_iadd 374), (374, tr_putI 377 13 1236)]
set_option maxRecDepth 20000 in
theorem tbk_X12_doesMore_4 {D : DD} {d : Nat} {C : Nat → Sp} (hC : Snd D d C) : ∀ e ∈ tb_X12_doesMore_4 C, TrOk D (d + 1) mi_X12_doesMore e.1 e.2 :=
  tk_c (show TrOk D (d + 1) mi_X12_doesMore 306 (tr_aload 307 0) from ok_aload_n (show decode mi_X12_doesMore.2.1 306 = .ok (.aload_n 0, 1) from by decide +kernel) rfl) <|
  tk_c (show TrOk D (d + 1) mi_X12_doesMore 307 (tr_iload 308 2) from ok_iload_n (show decode mi_X12_doesMore.2.1 307 = .ok (.iload_n 2, 1) from by decide +kernel) rfl) <|
  tk_c (show TrOk D (d + 1) mi_X12_doesMore 308 (tr_lload 309 3) from ok_lload_n (show decode mi_X12_doesMore.2.1 308 = .ok (.lload_n 3, 1) from by decide +kernel) rfl) <|
  tk_c (show TrOk D (d + 1) mi_X12_doesMore 309 (tr_callV (C 117) 312 13 2) from ok_callV (ci := 12) (show decode mi_X12_doesMore.2.1 309 = .ok (.invokevirtual 242, 3) from by decide +kernel) mok_X12_begin rfl rfl (gm 1025 (by decide +kernel) rfl) (gm 1027 (by decide +kernel) rfl) (gm 16 (by decide +kernel) rfl) (hC 117)) <|
  tk_c (show TrOk D (d + 1) mi_X12_doesMore 312 (tr_iload 314 5) from ok_iload (show decode mi_X12_doesMore.2.1 312 = .ok (.iload 5, 2) from by decide +kernel)) <|
  tk_c (show TrOk D (d + 1) mi_X12_doesMore 314 (tr_iret) from ok_iret (show decode mi_X12_doesMore.2.1 314 = .ok (.ireturn, 1) from by decide +kernel) rfl) <|
  tk_c (show TrOk D (d + 1) mi_X12_doesMore 315 (tr_aload 316 0) from ok_aload_n (show decode mi_X12_doesMore.2.1 315 = .ok (.aload_n 0, 1) from by decide +kernel) rfl) <|
  tk_c (show TrOk D (d + 1) mi_X12_doesMore 316 (tr_iload 317 2) from ok_iload_n (show decode mi_X12_doesMore.2.1 316 = .ok (.iload_n 2, 1) from by decide +kernel) rfl) <|
  tk_c (show TrOk D (d + 1) mi_X12_doesMore 317 (tr_callV (C 97) 320 13 1) from ok_callV (ci := 12) (show decode mi_X12_doesMore.2.1 317 = .ok (.invokevirtual 143, 3) from by decide +kernel) mok_X12_isKind rfl rfl (gm 951 (by decide +kernel) rfl) (gm 953 (by decide +kernel) rfl) (gm 12 (by decide +kernel) rfl) (hC 97)) <|
  tk_c (show TrOk D (d + 1) mi_X12_doesMore 320 (tr_ifeq 323 332) from ok_ifeq (show decode mi_X12_doesMore.2.1 320 = .ok (.ifCond .eq 12, 3) from by decide +kernel) (by decide)) <|
  tk_c (show TrOk D (d + 1) mi_X12_doesMore 323 (tr_aload 324 0) from ok_aload_n (show decode mi_X12_doesMore.2.1 323 = .ok (.aload_n 0, 1) from by decide +kernel) rfl) <|
  tk_c (show TrOk D (d + 1) mi_X12_doesMore 324 (tr_getI 327 13 1236) from ok_getI (ci := 12) (k := 36) (show decode mi_X12_doesMore.2.1 324 = .ok (.getfield 246, 3) from by decide +kernel) rfl (by decide) (gm 817 (by decide +kernel) rfl) rfl) <|
  tk_c (show TrOk D (d + 1) mi_X12_doesMore 327 (tr_ic 329 40) from ok_bipush (show decode mi_X12_doesMore.2.1 327 = .ok (.bipush 40, 2) from by decide +kernel) rfl) <|
  tk_c (show TrOk D (d + 1) mi_X12_doesMore 329 (tr_icne 332 347) from ok_icne (show decode mi_X12_doesMore.2.1 329 = .ok (.if_icmp .ne 18, 3) from by decide +kernel) (by decide)) <|
  tk_c (show TrOk D (d + 1) mi_X12_doesMore 332 (tr_aload 333 0) from ok_aload_n (show decode mi_X12_doesMore.2.1 332 = .ok (.aload_n 0, 1) from by decide +kernel) rfl) <|
  tk_c (show TrOk D (d + 1) mi_X12_doesMore 333 (tr_iload 334 2) from ok_iload_n (show decode mi_X12_doesMore.2.1 333 = .ok (.iload_n 2, 1) from by decide +kernel) rfl) <|
  tk_c (show TrOk D (d + 1) mi_X12_doesMore 334 (tr_callV (C 97) 337 13 1) from ok_callV (ci := 12) (show decode mi_X12_doesMore.2.1 334 = .ok (.invokevirtual 143, 3) from by decide +kernel) mok_X12_isKind rfl rfl (gm 951 (by decide +kernel) rfl) (gm 953 (by decide +kernel) rfl) (gm 12 (by decide +kernel) rfl) (hC 97)) <|
  tk_c (show TrOk D (d + 1) mi_X12_doesMore 337 (tr_ifeq 340 345) from ok_ifeq (show decode mi_X12_doesMore.2.1 337 = .ok (.ifCond .eq 8, 3) from by decide +kernel) (by decide)) <|
  tk_c (show TrOk D (d + 1) mi_X12_doesMore 340 (tr_ic 342 6) from ok_bipush (show decode mi_X12_doesMore.2.1 340 = .ok (.bipush 6, 2) from by decide +kernel) rfl) <|
  tk_c (show TrOk D (d + 1) mi_X12_doesMore 342 (tr_goto 346) from ok_goto (show decode mi_X12_doesMore.2.1 342 = .ok (.goto 4, 3) from by decide +kernel) (by decide)) <|
  tk_c (show TrOk D (d + 1) mi_X12_doesMore 345 (tr_ic 346 1) from ok_iconst (show decode mi_X12_doesMore.2.1 345 = .ok (.iconst 1, 1) from by decide +kernel) rfl) <|
  tk_c (show TrOk D (d + 1) mi_X12_doesMore 346 (tr_iret) from ok_iret (show decode mi_X12_doesMore.2.1 346 = .ok (.ireturn, 1) from by decide +kernel) rfl) <|
  tk_c (show TrOk D (d + 1) mi_X12_doesMore 347 (tr_aload 348 0) from ok_aload_n (show decode mi_X12_doesMore.2.1 347 = .ok (.aload_n 0, 1) from by decide +kernel) rfl) <|
  tk_c (show TrOk D (d + 1) mi_X12_doesMore 348 (tr_getR 351 13 1237) from ok_getR (ci := 12) (k := 37) (show decode mi_X12_doesMore.2.1 348 = .ok (.getfield 105, 3) from by decide +kernel) rfl (by decide) (gm 818 (by decide +kernel) rfl) rfl) <|
  tk_c (show TrOk D (d + 1) mi_X12_doesMore 351 (tr_aload 352 0) from ok_aload_n (show decode mi_X12_doesMore.2.1 351 = .ok (.aload_n 0, 1) from by decide +kernel) rfl) <|
  tk_c (show TrOk D (d + 1) mi_X12_doesMore 352 (tr_getI 355 13 1236) from ok_getI (ci := 12) (k := 36) (show decode mi_X12_doesMore.2.1 352 = .ok (.getfield 246, 3) from by decide +kernel) rfl (by decide) (gm 817 (by decide +kernel) rfl) rfl) <|
  tk_c (show TrOk D (d + 1) mi_X12_doesMore 355 (tr_iload 356 2) from ok_iload_n (show decode mi_X12_doesMore.2.1 355 = .ok (.iload_n 2, 1) from by decide +kernel) rfl) <|
  tk_c (show TrOk D (d + 1) mi_X12_doesMore 356 (tr_iast 357) from ok_iast (show decode mi_X12_doesMore.2.1 356 = .ok (.iastore, 1) from by decide +kernel)) <|
  tk_c (show TrOk D (d + 1) mi_X12_doesMore 357 (tr_aload 358 0) from ok_aload_n (show decode mi_X12_doesMore.2.1 357 = .ok (.aload_n 0, 1) from by decide +kernel) rfl) <|
  tk_c (show TrOk D (d + 1) mi_X12_doesMore 358 (tr_getR 361 13 1238) from ok_getR (ci := 12) (k := 38) (show decode mi_X12_doesMore.2.1 358 = .ok (.getfield 108, 3) from by decide +kernel) rfl (by decide) (gm 819 (by decide +kernel) rfl) rfl) <|
  tk_c (show TrOk D (d + 1) mi_X12_doesMore 361 (tr_aload 362 0) from ok_aload_n (show decode mi_X12_doesMore.2.1 361 = .ok (.aload_n 0, 1) from by decide +kernel) rfl) <|
  tk_c (show TrOk D (d + 1) mi_X12_doesMore 362 (tr_getI 365 13 1236) from ok_getI (ci := 12) (k := 36) (show decode mi_X12_doesMore.2.1 362 = .ok (.getfield 246, 3) from by decide +kernel) rfl (by decide) (gm 817 (by decide +kernel) rfl) rfl) <|
  tk_c (show TrOk D (d + 1) mi_X12_doesMore 365 (tr_lload 366 3) from ok_lload_n (show decode mi_X12_doesMore.2.1 365 = .ok (.lload_n 3, 1) from by decide +kernel) rfl) <|
  tk_c (show TrOk D (d + 1) mi_X12_doesMore 366 (tr_last 367) from ok_last (show decode mi_X12_doesMore.2.1 366 = .ok (.lastore, 1) from by decide +kernel)) <|
  tk_c (show TrOk D (d + 1) mi_X12_doesMore 367 (tr_aload 368 0) from ok_aload_n (show decode mi_X12_doesMore.2.1 367 = .ok (.aload_n 0, 1) from by decide +kernel) rfl) <|
  tk_c (show TrOk D (d + 1) mi_X12_doesMore 368 (tr_dup 369) from ok_dup (show decode mi_X12_doesMore.2.1 368 = .ok (.dup, 1) from by decide +kernel)) <|
  tk_c (show TrOk D (d + 1) mi_X12_doesMore 369 (tr_getI 372 13 1236) from ok_getI (ci := 12) (k := 36) (show decode mi_X12_doesMore.2.1 369 = .ok (.getfield 246, 3) from by decide +kernel) rfl (by decide) (gm 817 (by decide +kernel) rfl) rfl) <|
  tk_c (show TrOk D (d + 1) mi_X12_doesMore 372 (tr_ic 373 1) from ok_iconst (show decode mi_X12_doesMore.2.1 372 = .ok (.iconst 1, 1) from by decide +kernel) rfl) <|
  tk_c (show TrOk D (d + 1) mi_X12_doesMore 373 (tr_iadd 374) from ok_iadd (show decode mi_X12_doesMore.2.1 373 = .ok (.iadd, 1) from by decide +kernel)) <|
  tk_c (show TrOk D (d + 1) mi_X12_doesMore 374 (tr_putI 377 13 1236) from ok_putI (ci := 12) (k := 36) (show decode mi_X12_doesMore.2.1 374 = .ok (.putfield 246, 3) from by decide +kernel) rfl (by decide) (gm 817 (by decide +kernel) rfl) rfl (Or.inl rfl)) <|
  tk_n
def tb_X12_doesMore_5 (C : Nat → Sp) : Tab := [(377, tr_ic 378 0), (378, tr_iret), (379, tr_iload 380 2), (380, tr_i2l 381), (381, tr_lc 382 0), (382, tr_aload 383 0), (383, tr_getI 386 13 1203), (386, tr_ic 387 1), (387, tr_isub 388), (388, tr_i2l 389), (389, tr_callS (C 96) 392 3), (392, tr_ifeq 395 404), (395, tr_aload 396 0), (396, tr_getR 399 13 1204), (399, tr_iload 400 2), (400, tr_bald 401), (401, tr_ifne 404 406), (404, tr_ic 405 1), (405, tr_iret), (406, tr_aload 407 0), (407, tr_iload 408 2), (408, tr_callV (C 101) 411 13 1), (411, tr_pop 412), (412, tr_ic 413 0), (413, tr_iret)]
set_option maxRecDepth 20000 in
theorem tbk_X12_doesMore_5 {D : DD} {d : Nat} {C : Nat → Sp} (hC : Snd D d C) : ∀ e ∈ tb_X12_doesMore_5 C, TrOk D (d + 1) mi_X12_doesMore e.1 e.2 :=
  tk_c (show TrOk D (d + 1) mi_X12_doesMore 377 (tr_ic 378 0) from ok_iconst (show decode mi_X12_doesMore.2.1 377 = .ok (.iconst 0, 1) from by decide +kernel) rfl) <|
  tk_c (show TrOk D (d + 1) mi_X12_doesMore 378 (tr_iret) from ok_iret (show decode mi_X12_doesMore.2.1 378 = .ok (.ireturn, 1) from by decide +kernel) rfl) <|
  tk_c (show TrOk D (d + 1) mi_X12_doesMore 379 (tr_iload 380 2) from ok_iload_n (show decode mi_X12_doesMore.2.1 379 = .ok (.iload_n 2, 1) from by decide +kernel) rfl) <|
  tk_c (show TrOk D (d + 1) mi_X12_doesMore 380 (tr_i2l 381) from ok_i2l (show decode mi_X12_doesMore.2.1 380 = .ok (.i2l, 1) from by decide +kernel)) <|
  tk_c (show TrOk D (d + 1) mi_X12_doesMore 381 (tr_lc 382 0) from ok_lconst (show decode mi_X12_doesMore.2.1 381 = .ok (.lconst 0, 1) from by decide +kernel) rfl) <|
  tk_c (show TrOk D (d + 1) mi_X12_doesMore 382 (tr_aload 383 0) from ok_aload_n (show decode mi_X12_doesMore.2.1 382 = .ok (.aload_n 0, 1) from by decide +kernel) rfl) <|
  tk_c (show TrOk D (d + 1) mi_X12_doesMore 383 (tr_getI 386 13 1203) from ok_getI (ci := 12) (k := 3) (show decode mi_X12_doesMore.2.1 383 = .ok (.getfield 147, 3) from by decide +kernel) rfl (by decide) (gm 784 (by decide +kernel) rfl) rfl) <|
  tk_c (show TrOk D (d + 1) mi_X12_doesMore 386 (tr_ic 387 1) from ok_iconst (show decode mi_X12_doesMore.2.1 386 = .ok (.iconst 1, 1) from by decide +kernel) rfl) <|
  tk_c (show TrOk D (d + 1) mi_X12_doesMore 387 (tr_isub 388) from ok_isub (show decode mi_X12_doesMore.2.1 387 = .ok (.isub, 1) from by decide +kernel)) <|
  tk_c (show TrOk D (d + 1) mi_X12_doesMore 388 (tr_i2l 389) from ok_i2l (show decode mi_X12_doesMore.2.1 388 = .ok (.i2l, 1) from by decide +kernel)) <|
  tk_c (show TrOk D (d + 1) mi_X12_doesMore 389 (tr_callS (C 96) 392 3) from ok_callS (show decode mi_X12_doesMore.2.1 389 = .ok (.invokestatic 136, 3) from by decide +kernel) mok_X12_in (gm 955 (by decide +kernel) rfl) (gm 956 (by decide +kernel) rfl) (hC 96)) <|
  tk_c (show TrOk D (d + 1) mi_X12_doesMore 392 (tr_ifeq 395 404) from ok_ifeq (show decode mi_X12_doesMore.2.1 392 = .ok (.ifCond .eq 12, 3) from by decide +kernel) (by decide)) <|
  tk_c (show TrOk D (d + 1) mi_X12_doesMore 395 (tr_aload 396 0) from ok_aload_n (show decode mi_X12_doesMore.2.1 395 = .ok (.aload_n 0, 1) from by decide +kernel) rfl) <|
  tk_c (show TrOk D (d + 1) mi_X12_doesMore 396 (tr_getR 399 13 1204) from ok_getR (ci := 12) (k := 4) (show decode mi_X12_doesMore.2.1 396 = .ok (.getfield 17, 3) from by decide +kernel) rfl (by decide) (gm 785 (by decide +kernel) rfl) rfl) <|
  tk_c (show TrOk D (d + 1) mi_X12_doesMore 399 (tr_iload 400 2) from ok_iload_n (show decode mi_X12_doesMore.2.1 399 = .ok (.iload_n 2, 1) from by decide +kernel) rfl) <|
  tk_c (show TrOk D (d + 1) mi_X12_doesMore 400 (tr_bald 401) from ok_bald (show decode mi_X12_doesMore.2.1 400 = .ok (.baload, 1) from by decide +kernel)) <|
  tk_c (show TrOk D (d + 1) mi_X12_doesMore 401 (tr_ifne 404 406) from ok_ifne (show decode mi_X12_doesMore.2.1 401 = .ok (.ifCond .ne 5, 3) from by decide +kernel) (by decide)) <|
  tk_c (show TrOk D (d + 1) mi_X12_doesMore 404 (tr_ic 405 1) from ok_iconst (show decode mi_X12_doesMore.2.1 404 = .ok (.iconst 1, 1) from by decide +kernel) rfl) <|
  tk_c (show TrOk D (d + 1) mi_X12_doesMore 405 (tr_iret) from ok_iret (show decode mi_X12_doesMore.2.1 405 = .ok (.ireturn, 1) from by decide +kernel) rfl) <|
  tk_c (show TrOk D (d + 1) mi_X12_doesMore 406 (tr_aload 407 0) from ok_aload_n (show decode mi_X12_doesMore.2.1 406 = .ok (.aload_n 0, 1) from by decide +kernel) rfl) <|
  tk_c (show TrOk D (d + 1) mi_X12_doesMore 407 (tr_iload 408 2) from ok_iload_n (show decode mi_X12_doesMore.2.1 407 = .ok (.iload_n 2, 1) from by decide +kernel) rfl) <|
  tk_c (show TrOk D (d + 1) mi_X12_doesMore 408 (tr_callV (C 101) 411 13 1) from ok_callV (ci := 12) (show decode mi_X12_doesMore.2.1 408 = .ok (.invokevirtual 150, 3) from by decide +kernel) mok_X12_shut rfl rfl (gm 966 (by decide +kernel) rfl) (gm 968 (by decide +kernel) rfl) (gm 13 (by decide +kernel) rfl) (hC 101)) <|
  tk_c (show TrOk D (d + 1) mi_X12_doesMore 411 (tr_pop 412) from ok_pop (show decode mi_X12_doesMore.2.1 411 = .ok (.pop, 1) from by decide +kernel)) <|
  tk_c (show TrOk D (d + 1) mi_X12_doesMore 412 (tr_ic 413 0) from ok_iconst (show decode mi_X12_doesMore.2.1 412 = .ok (.iconst 0, 1) from by decide +kernel) rfl) <|
  tk_c (show TrOk D (d + 1) mi_X12_doesMore 413 (tr_iret) from ok_iret (show decode mi_X12_doesMore.2.1 413 = .ok (.ireturn, 1) from by decide +kernel) rfl) <|
  tk_n
def tb_X12_doesMore (C : Nat → Sp) : Tab := tb_X12_doesMore_0 C ++ (tb_X12_doesMore_1 C ++ (tb_X12_doesMore_2 C ++ (tb_X12_doesMore_3 C ++ (tb_X12_doesMore_4 C ++ (tb_X12_doesMore_5 C)))))
theorem tbk_X12_doesMore {D : DD} {d : Nat} {C : Nat → Sp} (hC : Snd D d C) : ∀ e ∈ tb_X12_doesMore C, TrOk D (d + 1) mi_X12_doesMore e.1 e.2 := tk_a (tbk_X12_doesMore_0 hC) (tk_a (tbk_X12_doesMore_1 hC) (tk_a (tbk_X12_doesMore_2 hC) (tk_a (tbk_X12_doesMore_3 hC) (tk_a (tbk_X12_doesMore_4 hC) (tbk_X12_doesMore_5 hC)))))
theorem a_X12_doesMore_0 (C : Nat → Sp) : ta (tb_X12_doesMore C) 0 = tr_iload 1 1 := rfl
theorem a_X12_doesMore_1 (C : Nat → Sp) : ta (tb_X12_doesMore C) 1 = tr_sw 9 [32, 230, 258, 315] 379 := rfl
theorem a_X12_doesMore_32 (C : Nat → Sp) : ta (tb_X12_doesMore C) 32 = tr_aload 33 0 := rfl
theorem a_X12_doesMore_33 (C : Nat → Sp) : ta (tb_X12_doesMore C) 33 = tr_iload 34 2 := rfl
theorem a_X12_doesMore_34 (C : Nat → Sp) : ta (tb_X12_doesMore C) 34 = tr_callV (C 98) 37 13 1 := rfl
theorem a_X12_doesMore_37 (C : Nat → Sp) : ta (tb_X12_doesMore C) 37 = tr_ifeq 40 65 := rfl
theorem a_X12_doesMore_40 (C : Nat → Sp) : ta (tb_X12_doesMore C) 40 = tr_aload 41 0 := rfl
theorem a_X12_doesMore_41 (C : Nat → Sp) : ta (tb_X12_doesMore C) 41 = tr_getR 44 13 1209 := rfl
theorem a_X12_doesMore_44 (C : Nat → Sp) : ta (tb_X12_doesMore C) 44 = tr_iload 45 2 := rfl
theorem a_X12_doesMore_45 (C : Nat → Sp) : ta (tb_X12_doesMore C) 45 = tr_iald 46 := rfl
theorem a_X12_doesMore_46 (C : Nat → Sp) : ta (tb_X12_doesMore C) 46 = tr_ic 48 (-4) := rfl
theorem a_X12_doesMore_48 (C : Nat → Sp) : ta (tb_X12_doesMore C) 48 = tr_iceq 51 67 := rfl
theorem a_X12_doesMore_51 (C : Nat → Sp) : ta (tb_X12_doesMore C) 51 = tr_aload 52 0 := rfl
theorem a_X12_doesMore_52 (C : Nat → Sp) : ta (tb_X12_doesMore C) 52 = tr_getR 55 13 1204 := rfl
theorem a_X12_doesMore_55 (C : Nat → Sp) : ta (tb_X12_doesMore C) 55 = tr_aload 56 0 := rfl
theorem a_X12_doesMore_56 (C : Nat → Sp) : ta (tb_X12_doesMore C) 56 = tr_getR 59 13 1209 := rfl
theorem a_X12_doesMore_59 (C : Nat → Sp) : ta (tb_X12_doesMore C) 59 = tr_iload 60 2 := rfl
theorem a_X12_doesMore_60 (C : Nat → Sp) : ta (tb_X12_doesMore C) 60 = tr_iald 61 := rfl
theorem a_X12_doesMore_61 (C : Nat → Sp) : ta (tb_X12_doesMore C) 61 = tr_bald 62 := rfl
theorem a_X12_doesMore_62 (C : Nat → Sp) : ta (tb_X12_doesMore C) 62 = tr_ifne 65 67 := rfl
theorem a_X12_doesMore_65 (C : Nat → Sp) : ta (tb_X12_doesMore C) 65 = tr_ic 66 1 := rfl
theorem a_X12_doesMore_66 (C : Nat → Sp) : ta (tb_X12_doesMore C) 66 = tr_iret := rfl
theorem a_X12_doesMore_67 (C : Nat → Sp) : ta (tb_X12_doesMore C) 67 = tr_aload 68 0 := rfl
theorem a_X12_doesMore_68 (C : Nat → Sp) : ta (tb_X12_doesMore C) 68 = tr_getI 71 13 1205 := rfl
theorem a_X12_doesMore_71 (C : Nat → Sp) : ta (tb_X12_doesMore C) 71 = tr_ic 74 200 := rfl
theorem a_X12_doesMore_74 (C : Nat → Sp) : ta (tb_X12_doesMore C) 74 = tr_icne 77 80 := rfl
theorem a_X12_doesMore_77 (C : Nat → Sp) : ta (tb_X12_doesMore C) 77 = tr_ic 79 6 := rfl
theorem a_X12_doesMore_79 (C : Nat → Sp) : ta (tb_X12_doesMore C) 79 = tr_iret := rfl
theorem a_X12_doesMore_80 (C : Nat → Sp) : ta (tb_X12_doesMore C) 80 = tr_aload 81 0 := rfl
theorem a_X12_doesMore_81 (C : Nat → Sp) : ta (tb_X12_doesMore C) 81 = tr_aload 82 0 := rfl
theorem a_X12_doesMore_82 (C : Nat → Sp) : ta (tb_X12_doesMore C) 82 = tr_getR 85 13 1206 := rfl
theorem a_X12_doesMore_85 (C : Nat → Sp) : ta (tb_X12_doesMore C) 85 = tr_iload 86 2 := rfl
theorem a_X12_doesMore_86 (C : Nat → Sp) : ta (tb_X12_doesMore C) 86 = tr_iald 87 := rfl
theorem a_X12_doesMore_87 (C : Nat → Sp) : ta (tb_X12_doesMore C) 87 = tr_aload 88 0 := rfl
theorem a_X12_doesMore_88 (C : Nat → Sp) : ta (tb_X12_doesMore C) 88 = tr_getR 91 13 1207 := rfl
theorem a_X12_doesMore_91 (C : Nat → Sp) : ta (tb_X12_doesMore C) 91 = tr_iload 92 2 := rfl
theorem a_X12_doesMore_92 (C : Nat → Sp) : ta (tb_X12_doesMore C) 92 = tr_iald 93 := rfl
theorem a_X12_doesMore_93 (C : Nat → Sp) : ta (tb_X12_doesMore C) 93 = tr_aload 94 0 := rfl
theorem a_X12_doesMore_94 (C : Nat → Sp) : ta (tb_X12_doesMore C) 94 = tr_getR 97 13 1208 := rfl
theorem a_X12_doesMore_97 (C : Nat → Sp) : ta (tb_X12_doesMore C) 97 = tr_iload 98 2 := rfl
theorem a_X12_doesMore_98 (C : Nat → Sp) : ta (tb_X12_doesMore C) 98 = tr_iald 99 := rfl
theorem a_X12_doesMore_99 (C : Nat → Sp) : ta (tb_X12_doesMore C) 99 = tr_aload 100 0 := rfl
theorem a_X12_doesMore_100 (C : Nat → Sp) : ta (tb_X12_doesMore C) 100 = tr_getR 103 13 1209 := rfl
theorem a_X12_doesMore_103 (C : Nat → Sp) : ta (tb_X12_doesMore C) 103 = tr_iload 104 2 := rfl
theorem a_X12_doesMore_104 (C : Nat → Sp) : ta (tb_X12_doesMore C) 104 = tr_iald 105 := rfl
theorem a_X12_doesMore_105 (C : Nat → Sp) : ta (tb_X12_doesMore C) 105 = tr_callV (C 103) 108 13 4 := rfl
theorem a_X12_doesMore_108 (C : Nat → Sp) : ta (tb_X12_doesMore C) 108 = tr_istore 110 5 := rfl
theorem a_X12_doesMore_110 (C : Nat → Sp) : ta (tb_X12_doesMore C) 110 = tr_aload 111 0 := rfl
theorem a_X12_doesMore_111 (C : Nat → Sp) : ta (tb_X12_doesMore C) 111 = tr_getR 114 13 1210 := rfl
theorem a_X12_doesMore_114 (C : Nat → Sp) : ta (tb_X12_doesMore C) 114 = tr_iload 116 5 := rfl
theorem a_X12_doesMore_116 (C : Nat → Sp) : ta (tb_X12_doesMore C) 116 = tr_aload 117 0 := rfl
theorem a_X12_doesMore_117 (C : Nat → Sp) : ta (tb_X12_doesMore C) 117 = tr_getR 120 13 1210 := rfl
theorem a_X12_doesMore_120 (C : Nat → Sp) : ta (tb_X12_doesMore C) 120 = tr_iload 121 2 := rfl
theorem a_X12_doesMore_121 (C : Nat → Sp) : ta (tb_X12_doesMore C) 121 = tr_lald 122 := rfl
theorem a_X12_doesMore_122 (C : Nat → Sp) : ta (tb_X12_doesMore C) 122 = tr_last 123 := rfl
theorem a_X12_doesMore_123 (C : Nat → Sp) : ta (tb_X12_doesMore C) 123 = tr_aload 124 0 := rfl
theorem a_X12_doesMore_124 (C : Nat → Sp) : ta (tb_X12_doesMore C) 124 = tr_getR 127 13 1211 := rfl
theorem a_X12_doesMore_127 (C : Nat → Sp) : ta (tb_X12_doesMore C) 127 = tr_iload 129 5 := rfl
theorem a_X12_doesMore_129 (C : Nat → Sp) : ta (tb_X12_doesMore C) 129 = tr_aload 130 0 := rfl
theorem a_X12_doesMore_130 (C : Nat → Sp) : ta (tb_X12_doesMore C) 130 = tr_getR 133 13 1211 := rfl
set_option maxRecDepth 20000 in
theorem a_X12_doesMore_133 (C : Nat → Sp) : ta (tb_X12_doesMore C) 133 = tr_iload 134 2 := rfl
set_option maxRecDepth 20000 in
theorem a_X12_doesMore_134 (C : Nat → Sp) : ta (tb_X12_doesMore C) 134 = tr_lald 135 := rfl
set_option maxRecDepth 20000 in
theorem a_X12_doesMore_135 (C : Nat → Sp) : ta (tb_X12_doesMore C) 135 = tr_last 136 := rfl
set_option maxRecDepth 20000 in
theorem a_X12_doesMore_136 (C : Nat → Sp) : ta (tb_X12_doesMore C) 136 = tr_aload 137 0 := rfl
set_option maxRecDepth 20000 in
theorem a_X12_doesMore_137 (C : Nat → Sp) : ta (tb_X12_doesMore C) 137 = tr_getR 140 13 1212 := rfl
set_option maxRecDepth 20000 in
theorem a_X12_doesMore_140 (C : Nat → Sp) : ta (tb_X12_doesMore C) 140 = tr_iload 142 5 := rfl
set_option maxRecDepth 20000 in
theorem a_X12_doesMore_142 (C : Nat → Sp) : ta (tb_X12_doesMore C) 142 = tr_aload 143 0 := rfl
set_option maxRecDepth 20000 in
theorem a_X12_doesMore_143 (C : Nat → Sp) : ta (tb_X12_doesMore C) 143 = tr_getR 146 13 1212 := rfl
set_option maxRecDepth 20000 in
theorem a_X12_doesMore_146 (C : Nat → Sp) : ta (tb_X12_doesMore C) 146 = tr_iload 147 2 := rfl
set_option maxRecDepth 20000 in
theorem a_X12_doesMore_147 (C : Nat → Sp) : ta (tb_X12_doesMore C) 147 = tr_bald 148 := rfl
set_option maxRecDepth 20000 in
theorem a_X12_doesMore_148 (C : Nat → Sp) : ta (tb_X12_doesMore C) 148 = tr_bast 149 := rfl
set_option maxRecDepth 20000 in
theorem a_X12_doesMore_149 (C : Nat → Sp) : ta (tb_X12_doesMore C) 149 = tr_aload 150 0 := rfl
set_option maxRecDepth 20000 in
theorem a_X12_doesMore_150 (C : Nat → Sp) : ta (tb_X12_doesMore C) 150 = tr_getR 153 13 1214 := rfl
set_option maxRecDepth 20000 in
theorem a_X12_doesMore_153 (C : Nat → Sp) : ta (tb_X12_doesMore C) 153 = tr_iload 155 5 := rfl
set_option maxRecDepth 20000 in
theorem a_X12_doesMore_155 (C : Nat → Sp) : ta (tb_X12_doesMore C) 155 = tr_aload 156 0 := rfl
set_option maxRecDepth 20000 in
theorem a_X12_doesMore_156 (C : Nat → Sp) : ta (tb_X12_doesMore C) 156 = tr_getR 159 13 1214 := rfl
set_option maxRecDepth 20000 in
theorem a_X12_doesMore_159 (C : Nat → Sp) : ta (tb_X12_doesMore C) 159 = tr_iload 160 2 := rfl
set_option maxRecDepth 20000 in
theorem a_X12_doesMore_160 (C : Nat → Sp) : ta (tb_X12_doesMore C) 160 = tr_iald 161 := rfl
set_option maxRecDepth 20000 in
theorem a_X12_doesMore_161 (C : Nat → Sp) : ta (tb_X12_doesMore C) 161 = tr_iast 162 := rfl
set_option maxRecDepth 20000 in
theorem a_X12_doesMore_162 (C : Nat → Sp) : ta (tb_X12_doesMore C) 162 = tr_ic 163 0 := rfl
set_option maxRecDepth 20000 in
theorem a_X12_doesMore_163 (C : Nat → Sp) : ta (tb_X12_doesMore C) 163 = tr_istore 165 6 := rfl
set_option maxRecDepth 20000 in
theorem a_X12_doesMore_165 (C : Nat → Sp) : ta (tb_X12_doesMore C) 165 = tr_iload 167 6 := rfl
set_option maxRecDepth 20000 in
theorem a_X12_doesMore_167 (C : Nat → Sp) : ta (tb_X12_doesMore C) 167 = tr_ic 169 10 := rfl
set_option maxRecDepth 20000 in
theorem a_X12_doesMore_169 (C : Nat → Sp) : ta (tb_X12_doesMore C) 169 = tr_icge 172 228 := rfl
set_option maxRecDepth 20000 in
theorem a_X12_doesMore_172 (C : Nat → Sp) : ta (tb_X12_doesMore C) 172 = tr_aload 173 0 := rfl
set_option maxRecDepth 20000 in
theorem a_X12_doesMore_173 (C : Nat → Sp) : ta (tb_X12_doesMore C) 173 = tr_getR 176 13 1215 := rfl
set_option maxRecDepth 20000 in
theorem a_X12_doesMore_176 (C : Nat → Sp) : ta (tb_X12_doesMore C) 176 = tr_ic 178 10 := rfl
set_option maxRecDepth 20000 in
theorem a_X12_doesMore_178 (C : Nat → Sp) : ta (tb_X12_doesMore C) 178 = tr_iload 180 5 := rfl
set_option maxRecDepth 20000 in
theorem a_X12_doesMore_180 (C : Nat → Sp) : ta (tb_X12_doesMore C) 180 = tr_imul 181 := rfl
set_option maxRecDepth 20000 in
theorem a_X12_doesMore_181 (C : Nat → Sp) : ta (tb_X12_doesMore C) 181 = tr_iload 183 6 := rfl
set_option maxRecDepth 20000 in
theorem a_X12_doesMore_183 (C : Nat → Sp) : ta (tb_X12_doesMore C) 183 = tr_iadd 184 := rfl
set_option maxRecDepth 20000 in
theorem a_X12_doesMore_184 (C : Nat → Sp) : ta (tb_X12_doesMore C) 184 = tr_aload 185 0 := rfl
set_option maxRecDepth 20000 in
theorem a_X12_doesMore_185 (C : Nat → Sp) : ta (tb_X12_doesMore C) 185 = tr_getR 188 13 1215 := rfl
set_option maxRecDepth 20000 in
theorem a_X12_doesMore_188 (C : Nat → Sp) : ta (tb_X12_doesMore C) 188 = tr_ic 190 10 := rfl
set_option maxRecDepth 20000 in
theorem a_X12_doesMore_190 (C : Nat → Sp) : ta (tb_X12_doesMore C) 190 = tr_iload 191 2 := rfl
set_option maxRecDepth 20000 in
theorem a_X12_doesMore_191 (C : Nat → Sp) : ta (tb_X12_doesMore C) 191 = tr_imul 192 := rfl
set_option maxRecDepth 20000 in
theorem a_X12_doesMore_192 (C : Nat → Sp) : ta (tb_X12_doesMore C) 192 = tr_iload 194 6 := rfl
set_option maxRecDepth 20000 in
theorem a_X12_doesMore_194 (C : Nat → Sp) : ta (tb_X12_doesMore C) 194 = tr_iadd 195 := rfl
set_option maxRecDepth 20000 in
theorem a_X12_doesMore_195 (C : Nat → Sp) : ta (tb_X12_doesMore C) 195 = tr_iald 196 := rfl
set_option maxRecDepth 20000 in
theorem a_X12_doesMore_196 (C : Nat → Sp) : ta (tb_X12_doesMore C) 196 = tr_iast 197 := rfl
set_option maxRecDepth 20000 in
theorem a_X12_doesMore_197 (C : Nat → Sp) : ta (tb_X12_doesMore C) 197 = tr_aload 198 0 := rfl
set_option maxRecDepth 20000 in
theorem a_X12_doesMore_198 (C : Nat → Sp) : ta (tb_X12_doesMore C) 198 = tr_getR 201 13 1216 := rfl
set_option maxRecDepth 20000 in
theorem a_X12_doesMore_201 (C : Nat → Sp) : ta (tb_X12_doesMore C) 201 = tr_ic 203 10 := rfl
set_option maxRecDepth 20000 in
theorem a_X12_doesMore_203 (C : Nat → Sp) : ta (tb_X12_doesMore C) 203 = tr_iload 205 5 := rfl
set_option maxRecDepth 20000 in
theorem a_X12_doesMore_205 (C : Nat → Sp) : ta (tb_X12_doesMore C) 205 = tr_imul 206 := rfl
set_option maxRecDepth 20000 in
theorem a_X12_doesMore_206 (C : Nat → Sp) : ta (tb_X12_doesMore C) 206 = tr_iload 208 6 := rfl
set_option maxRecDepth 20000 in
theorem a_X12_doesMore_208 (C : Nat → Sp) : ta (tb_X12_doesMore C) 208 = tr_iadd 209 := rfl
set_option maxRecDepth 20000 in
theorem a_X12_doesMore_209 (C : Nat → Sp) : ta (tb_X12_doesMore C) 209 = tr_aload 210 0 := rfl
set_option maxRecDepth 20000 in
theorem a_X12_doesMore_210 (C : Nat → Sp) : ta (tb_X12_doesMore C) 210 = tr_getR 213 13 1216 := rfl
set_option maxRecDepth 20000 in
theorem a_X12_doesMore_213 (C : Nat → Sp) : ta (tb_X12_doesMore C) 213 = tr_ic 215 10 := rfl
set_option maxRecDepth 20000 in
theorem a_X12_doesMore_215 (C : Nat → Sp) : ta (tb_X12_doesMore C) 215 = tr_iload 216 2 := rfl
set_option maxRecDepth 20000 in
theorem a_X12_doesMore_216 (C : Nat → Sp) : ta (tb_X12_doesMore C) 216 = tr_imul 217 := rfl
set_option maxRecDepth 20000 in
theorem a_X12_doesMore_217 (C : Nat → Sp) : ta (tb_X12_doesMore C) 217 = tr_iload 219 6 := rfl
set_option maxRecDepth 20000 in
theorem a_X12_doesMore_219 (C : Nat → Sp) : ta (tb_X12_doesMore C) 219 = tr_iadd 220 := rfl
set_option maxRecDepth 20000 in
theorem a_X12_doesMore_220 (C : Nat → Sp) : ta (tb_X12_doesMore C) 220 = tr_iald 221 := rfl
set_option maxRecDepth 20000 in
theorem a_X12_doesMore_221 (C : Nat → Sp) : ta (tb_X12_doesMore C) 221 = tr_iast 222 := rfl
set_option maxRecDepth 20000 in
theorem a_X12_doesMore_222 (C : Nat → Sp) : ta (tb_X12_doesMore C) 222 = tr_iinc 225 6 1 := rfl
set_option maxRecDepth 20000 in
theorem a_X12_doesMore_225 (C : Nat → Sp) : ta (tb_X12_doesMore C) 225 = tr_goto 165 := rfl
set_option maxRecDepth 20000 in
theorem a_X12_doesMore_228 (C : Nat → Sp) : ta (tb_X12_doesMore C) 228 = tr_ic 229 0 := rfl
set_option maxRecDepth 20000 in
theorem a_X12_doesMore_229 (C : Nat → Sp) : ta (tb_X12_doesMore C) 229 = tr_iret := rfl
set_option maxRecDepth 20000 in
theorem a_X12_doesMore_230 (C : Nat → Sp) : ta (tb_X12_doesMore C) 230 = tr_aload 231 0 := rfl
set_option maxRecDepth 20000 in
theorem a_X12_doesMore_231 (C : Nat → Sp) : ta (tb_X12_doesMore C) 231 = tr_iload 232 2 := rfl
set_option maxRecDepth 20000 in
theorem a_X12_doesMore_232 (C : Nat → Sp) : ta (tb_X12_doesMore C) 232 = tr_callV (C 98) 235 13 1 := rfl
set_option maxRecDepth 20000 in
theorem a_X12_doesMore_235 (C : Nat → Sp) : ta (tb_X12_doesMore C) 235 = tr_ifeq 238 247 := rfl
set_option maxRecDepth 20000 in
theorem a_X12_doesMore_238 (C : Nat → Sp) : ta (tb_X12_doesMore C) 238 = tr_aload 239 0 := rfl
set_option maxRecDepth 20000 in
theorem a_X12_doesMore_239 (C : Nat → Sp) : ta (tb_X12_doesMore C) 239 = tr_getR 242 13 1213 := rfl
set_option maxRecDepth 20000 in
theorem a_X12_doesMore_242 (C : Nat → Sp) : ta (tb_X12_doesMore C) 242 = tr_iload 243 2 := rfl
set_option maxRecDepth 20000 in
theorem a_X12_doesMore_243 (C : Nat → Sp) : ta (tb_X12_doesMore C) 243 = tr_bald 244 := rfl
set_option maxRecDepth 20000 in
theorem a_X12_doesMore_244 (C : Nat → Sp) : ta (tb_X12_doesMore C) 244 = tr_ifne 247 249 := rfl
set_option maxRecDepth 20000 in
theorem a_X12_doesMore_247 (C : Nat → Sp) : ta (tb_X12_doesMore C) 247 = tr_ic 248 1 := rfl
set_option maxRecDepth 20000 in
theorem a_X12_doesMore_248 (C : Nat → Sp) : ta (tb_X12_doesMore C) 248 = tr_iret := rfl
set_option maxRecDepth 20000 in
theorem a_X12_doesMore_249 (C : Nat → Sp) : ta (tb_X12_doesMore C) 249 = tr_aload 250 0 := rfl
set_option maxRecDepth 20000 in
theorem a_X12_doesMore_250 (C : Nat → Sp) : ta (tb_X12_doesMore C) 250 = tr_getR 253 13 1213 := rfl
set_option maxRecDepth 20000 in
theorem a_X12_doesMore_253 (C : Nat → Sp) : ta (tb_X12_doesMore C) 253 = tr_iload 254 2 := rfl
set_option maxRecDepth 20000 in
theorem a_X12_doesMore_254 (C : Nat → Sp) : ta (tb_X12_doesMore C) 254 = tr_ic 255 0 := rfl
set_option maxRecDepth 20000 in
theorem a_X12_doesMore_255 (C : Nat → Sp) : ta (tb_X12_doesMore C) 255 = tr_bast 256 := rfl
set_option maxRecDepth 20000 in
theorem a_X12_doesMore_256 (C : Nat → Sp) : ta (tb_X12_doesMore C) 256 = tr_ic 257 0 := rfl
set_option maxRecDepth 20000 in
theorem a_X12_doesMore_257 (C : Nat → Sp) : ta (tb_X12_doesMore C) 257 = tr_iret := rfl
set_option maxRecDepth 20000 in
theorem a_X12_doesMore_258 (C : Nat → Sp) : ta (tb_X12_doesMore C) 258 = tr_aload 259 0 := rfl
set_option maxRecDepth 20000 in
theorem a_X12_doesMore_259 (C : Nat → Sp) : ta (tb_X12_doesMore C) 259 = tr_iload 260 2 := rfl
set_option maxRecDepth 20000 in
theorem a_X12_doesMore_260 (C : Nat → Sp) : ta (tb_X12_doesMore C) 260 = tr_callV (C 97) 263 13 1 := rfl
set_option maxRecDepth 20000 in
theorem a_X12_doesMore_263 (C : Nat → Sp) : ta (tb_X12_doesMore C) 263 = tr_ifne 266 270 := rfl
set_option maxRecDepth 20000 in
theorem a_X12_doesMore_266 (C : Nat → Sp) : ta (tb_X12_doesMore C) 266 = tr_ic 267 1 := rfl
set_option maxRecDepth 20000 in
theorem a_X12_doesMore_267 (C : Nat → Sp) : ta (tb_X12_doesMore C) 267 = tr_goto 299 := rfl
set_option maxRecDepth 20000 in
theorem a_X12_doesMore_270 (C : Nat → Sp) : ta (tb_X12_doesMore C) 270 = tr_aload 271 0 := rfl
set_option maxRecDepth 20000 in
theorem a_X12_doesMore_271 (C : Nat → Sp) : ta (tb_X12_doesMore C) 271 = tr_getI 274 13 1225 := rfl
set_option maxRecDepth 20000 in
theorem a_X12_doesMore_274 (C : Nat → Sp) : ta (tb_X12_doesMore C) 274 = tr_ic 276 12 := rfl
set_option maxRecDepth 20000 in
theorem a_X12_doesMore_276 (C : Nat → Sp) : ta (tb_X12_doesMore C) 276 = tr_icne 279 284 := rfl
set_option maxRecDepth 20000 in
theorem a_X12_doesMore_279 (C : Nat → Sp) : ta (tb_X12_doesMore C) 279 = tr_ic 281 7 := rfl
set_option maxRecDepth 20000 in
theorem a_X12_doesMore_281 (C : Nat → Sp) : ta (tb_X12_doesMore C) 281 = tr_goto 299 := rfl
set_option maxRecDepth 20000 in
theorem a_X12_doesMore_284 (C : Nat → Sp) : ta (tb_X12_doesMore C) 284 = tr_aload 285 0 := rfl
set_option maxRecDepth 20000 in
theorem a_X12_doesMore_285 (C : Nat → Sp) : ta (tb_X12_doesMore C) 285 = tr_getI 288 13 1240 := rfl
set_option maxRecDepth 20000 in
theorem a_X12_doesMore_288 (C : Nat → Sp) : ta (tb_X12_doesMore C) 288 = tr_ic 290 60 := rfl
set_option maxRecDepth 20000 in
theorem a_X12_doesMore_290 (C : Nat → Sp) : ta (tb_X12_doesMore C) 290 = tr_icne 293 298 := rfl
set_option maxRecDepth 20000 in
theorem a_X12_doesMore_293 (C : Nat → Sp) : ta (tb_X12_doesMore C) 293 = tr_ic 295 9 := rfl
set_option maxRecDepth 20000 in
theorem a_X12_doesMore_295 (C : Nat → Sp) : ta (tb_X12_doesMore C) 295 = tr_goto 299 := rfl
set_option maxRecDepth 20000 in
theorem a_X12_doesMore_298 (C : Nat → Sp) : ta (tb_X12_doesMore C) 298 = tr_ic 299 0 := rfl
set_option maxRecDepth 20000 in
theorem a_X12_doesMore_299 (C : Nat → Sp) : ta (tb_X12_doesMore C) 299 = tr_istore 301 5 := rfl
set_option maxRecDepth 20000 in
theorem a_X12_doesMore_301 (C : Nat → Sp) : ta (tb_X12_doesMore C) 301 = tr_iload 303 5 := rfl
set_option maxRecDepth 20000 in
theorem a_X12_doesMore_303 (C : Nat → Sp) : ta (tb_X12_doesMore C) 303 = tr_ifne 306 312 := rfl
set_option maxRecDepth 20000 in
theorem a_X12_doesMore_306 (C : Nat → Sp) : ta (tb_X12_doesMore C) 306 = tr_aload 307 0 := rfl
set_option maxRecDepth 20000 in
theorem a_X12_doesMore_307 (C : Nat → Sp) : ta (tb_X12_doesMore C) 307 = tr_iload 308 2 := rfl
set_option maxRecDepth 20000 in
theorem a_X12_doesMore_308 (C : Nat → Sp) : ta (tb_X12_doesMore C) 308 = tr_lload 309 3 := rfl
set_option maxRecDepth 20000 in
theorem a_X12_doesMore_309 (C : Nat → Sp) : ta (tb_X12_doesMore C) 309 = tr_callV (C 117) 312 13 2 := rfl
set_option maxRecDepth 20000 in
theorem a_X12_doesMore_312 (C : Nat → Sp) : ta (tb_X12_doesMore C) 312 = tr_iload 314 5 := rfl
set_option maxRecDepth 20000 in
theorem a_X12_doesMore_314 (C : Nat → Sp) : ta (tb_X12_doesMore C) 314 = tr_iret := rfl
set_option maxRecDepth 20000 in
theorem a_X12_doesMore_315 (C : Nat → Sp) : ta (tb_X12_doesMore C) 315 = tr_aload 316 0 := rfl
set_option maxRecDepth 20000 in
theorem a_X12_doesMore_316 (C : Nat → Sp) : ta (tb_X12_doesMore C) 316 = tr_iload 317 2 := rfl
set_option maxRecDepth 20000 in
theorem a_X12_doesMore_317 (C : Nat → Sp) : ta (tb_X12_doesMore C) 317 = tr_callV (C 97) 320 13 1 := rfl
set_option maxRecDepth 20000 in
theorem a_X12_doesMore_320 (C : Nat → Sp) : ta (tb_X12_doesMore C) 320 = tr_ifeq 323 332 := rfl
set_option maxRecDepth 20000 in
theorem a_X12_doesMore_323 (C : Nat → Sp) : ta (tb_X12_doesMore C) 323 = tr_aload 324 0 := rfl
set_option maxRecDepth 20000 in
theorem a_X12_doesMore_324 (C : Nat → Sp) : ta (tb_X12_doesMore C) 324 = tr_getI 327 13 1236 := rfl
set_option maxRecDepth 20000 in
theorem a_X12_doesMore_327 (C : Nat → Sp) : ta (tb_X12_doesMore C) 327 = tr_ic 329 40 := rfl
set_option maxRecDepth 20000 in
theorem a_X12_doesMore_329 (C : Nat → Sp) : ta (tb_X12_doesMore C) 329 = tr_icne 332 347 := rfl
set_option maxRecDepth 20000 in
theorem a_X12_doesMore_332 (C : Nat → Sp) : ta (tb_X12_doesMore C) 332 = tr_aload 333 0 := rfl
set_option maxRecDepth 20000 in
theorem a_X12_doesMore_333 (C : Nat → Sp) : ta (tb_X12_doesMore C) 333 = tr_iload 334 2 := rfl
set_option maxRecDepth 20000 in
theorem a_X12_doesMore_334 (C : Nat → Sp) : ta (tb_X12_doesMore C) 334 = tr_callV (C 97) 337 13 1 := rfl
set_option maxRecDepth 20000 in
theorem a_X12_doesMore_337 (C : Nat → Sp) : ta (tb_X12_doesMore C) 337 = tr_ifeq 340 345 := rfl
set_option maxRecDepth 20000 in
theorem a_X12_doesMore_340 (C : Nat → Sp) : ta (tb_X12_doesMore C) 340 = tr_ic 342 6 := rfl
set_option maxRecDepth 20000 in
theorem a_X12_doesMore_342 (C : Nat → Sp) : ta (tb_X12_doesMore C) 342 = tr_goto 346 := rfl
set_option maxRecDepth 20000 in
theorem a_X12_doesMore_345 (C : Nat → Sp) : ta (tb_X12_doesMore C) 345 = tr_ic 346 1 := rfl
set_option maxRecDepth 20000 in
theorem a_X12_doesMore_346 (C : Nat → Sp) : ta (tb_X12_doesMore C) 346 = tr_iret := rfl
set_option maxRecDepth 20000 in
theorem a_X12_doesMore_347 (C : Nat → Sp) : ta (tb_X12_doesMore C) 347 = tr_aload 348 0 := rfl
set_option maxRecDepth 20000 in
theorem a_X12_doesMore_348 (C : Nat → Sp) : ta (tb_X12_doesMore C) 348 = tr_getR 351 13 1237 := rfl
set_option maxRecDepth 20000 in
theorem a_X12_doesMore_351 (C : Nat → Sp) : ta (tb_X12_doesMore C) 351 = tr_aload 352 0 := rfl
set_option maxRecDepth 20000 in
theorem a_X12_doesMore_352 (C : Nat → Sp) : ta (tb_X12_doesMore C) 352 = tr_getI 355 13 1236 := rfl
set_option maxRecDepth 20000 in
theorem a_X12_doesMore_355 (C : Nat → Sp) : ta (tb_X12_doesMore C) 355 = tr_iload 356 2 := rfl
set_option maxRecDepth 20000 in
theorem a_X12_doesMore_356 (C : Nat → Sp) : ta (tb_X12_doesMore C) 356 = tr_iast 357 := rfl
set_option maxRecDepth 20000 in
theorem a_X12_doesMore_357 (C : Nat → Sp) : ta (tb_X12_doesMore C) 357 = tr_aload 358 0 := rfl
set_option maxRecDepth 20000 in
theorem a_X12_doesMore_358 (C : Nat → Sp) : ta (tb_X12_doesMore C) 358 = tr_getR 361 13 1238 := rfl
set_option maxRecDepth 20000 in
theorem a_X12_doesMore_361 (C : Nat → Sp) : ta (tb_X12_doesMore C) 361 = tr_aload 362 0 := rfl
set_option maxRecDepth 20000 in
theorem a_X12_doesMore_362 (C : Nat → Sp) : ta (tb_X12_doesMore C) 362 = tr_getI 365 13 1236 := rfl
set_option maxRecDepth 20000 in
theorem a_X12_doesMore_365 (C : Nat → Sp) : ta (tb_X12_doesMore C) 365 = tr_lload 366 3 := rfl
set_option maxRecDepth 20000 in
theorem a_X12_doesMore_366 (C : Nat → Sp) : ta (tb_X12_doesMore C) 366 = tr_last 367 := rfl
set_option maxRecDepth 20000 in
theorem a_X12_doesMore_367 (C : Nat → Sp) : ta (tb_X12_doesMore C) 367 = tr_aload 368 0 := rfl
set_option maxRecDepth 20000 in
theorem a_X12_doesMore_368 (C : Nat → Sp) : ta (tb_X12_doesMore C) 368 = tr_dup 369 := rfl
set_option maxRecDepth 20000 in
theorem a_X12_doesMore_369 (C : Nat → Sp) : ta (tb_X12_doesMore C) 369 = tr_getI 372 13 1236 := rfl
set_option maxRecDepth 20000 in
theorem a_X12_doesMore_372 (C : Nat → Sp) : ta (tb_X12_doesMore C) 372 = tr_ic 373 1 := rfl
set_option maxRecDepth 20000 in
theorem a_X12_doesMore_373 (C : Nat → Sp) : ta (tb_X12_doesMore C) 373 = tr_iadd 374 := rfl
set_option maxRecDepth 20000 in
theorem a_X12_doesMore_374 (C : Nat → Sp) : ta (tb_X12_doesMore C) 374 = tr_putI 377 13 1236 := rfl
set_option maxRecDepth 20000 in
theorem a_X12_doesMore_377 (C : Nat → Sp) : ta (tb_X12_doesMore C) 377 = tr_ic 378 0 := rfl
set_option maxRecDepth 20000 in
theorem a_X12_doesMore_378 (C : Nat → Sp) : ta (tb_X12_doesMore C) 378 = tr_iret := rfl
set_option maxRecDepth 20000 in
theorem a_X12_doesMore_379 (C : Nat → Sp) : ta (tb_X12_doesMore C) 379 = tr_iload 380 2 := rfl
set_option maxRecDepth 20000 in
theorem a_X12_doesMore_380 (C : Nat → Sp) : ta (tb_X12_doesMore C) 380 = tr_i2l 381 := rfl
set_option maxRecDepth 20000 in
theorem a_X12_doesMore_381 (C : Nat → Sp) : ta (tb_X12_doesMore C) 381 = tr_lc 382 0 := rfl
set_option maxRecDepth 20000 in
theorem a_X12_doesMore_382 (C : Nat → Sp) : ta (tb_X12_doesMore C) 382 = tr_aload 383 0 := rfl
set_option maxRecDepth 20000 in
theorem a_X12_doesMore_383 (C : Nat → Sp) : ta (tb_X12_doesMore C) 383 = tr_getI 386 13 1203 := rfl
set_option maxRecDepth 20000 in
theorem a_X12_doesMore_386 (C : Nat → Sp) : ta (tb_X12_doesMore C) 386 = tr_ic 387 1 := rfl
set_option maxRecDepth 20000 in
theorem a_X12_doesMore_387 (C : Nat → Sp) : ta (tb_X12_doesMore C) 387 = tr_isub 388 := rfl
set_option maxRecDepth 20000 in
theorem a_X12_doesMore_388 (C : Nat → Sp) : ta (tb_X12_doesMore C) 388 = tr_i2l 389 := rfl
set_option maxRecDepth 20000 in
theorem a_X12_doesMore_389 (C : Nat → Sp) : ta (tb_X12_doesMore C) 389 = tr_callS (C 96) 392 3 := rfl
set_option maxRecDepth 20000 in
theorem a_X12_doesMore_392 (C : Nat → Sp) : ta (tb_X12_doesMore C) 392 = tr_ifeq 395 404 := rfl
set_option maxRecDepth 20000 in
theorem a_X12_doesMore_395 (C : Nat → Sp) : ta (tb_X12_doesMore C) 395 = tr_aload 396 0 := rfl
set_option maxRecDepth 20000 in
theorem a_X12_doesMore_396 (C : Nat → Sp) : ta (tb_X12_doesMore C) 396 = tr_getR 399 13 1204 := rfl
set_option maxRecDepth 20000 in
theorem a_X12_doesMore_399 (C : Nat → Sp) : ta (tb_X12_doesMore C) 399 = tr_iload 400 2 := rfl
set_option maxRecDepth 20000 in
theorem a_X12_doesMore_400 (C : Nat → Sp) : ta (tb_X12_doesMore C) 400 = tr_bald 401 := rfl
set_option maxRecDepth 20000 in
theorem a_X12_doesMore_401 (C : Nat → Sp) : ta (tb_X12_doesMore C) 401 = tr_ifne 404 406 := rfl
set_option maxRecDepth 20000 in
theorem a_X12_doesMore_404 (C : Nat → Sp) : ta (tb_X12_doesMore C) 404 = tr_ic 405 1 := rfl
set_option maxRecDepth 20000 in
theorem a_X12_doesMore_405 (C : Nat → Sp) : ta (tb_X12_doesMore C) 405 = tr_iret := rfl
set_option maxRecDepth 20000 in
theorem a_X12_doesMore_406 (C : Nat → Sp) : ta (tb_X12_doesMore C) 406 = tr_aload 407 0 := rfl
set_option maxRecDepth 20000 in
theorem a_X12_doesMore_407 (C : Nat → Sp) : ta (tb_X12_doesMore C) 407 = tr_iload 408 2 := rfl
set_option maxRecDepth 20000 in
theorem a_X12_doesMore_408 (C : Nat → Sp) : ta (tb_X12_doesMore C) 408 = tr_callV (C 101) 411 13 1 := rfl
set_option maxRecDepth 20000 in
theorem a_X12_doesMore_411 (C : Nat → Sp) : ta (tb_X12_doesMore C) 411 = tr_pop 412 := rfl
set_option maxRecDepth 20000 in
theorem a_X12_doesMore_412 (C : Nat → Sp) : ta (tb_X12_doesMore C) 412 = tr_ic 413 0 := rfl
set_option maxRecDepth 20000 in
theorem a_X12_doesMore_413 (C : Nat → Sp) : ta (tb_X12_doesMore C) 413 = tr_iret := rfl

def tb_X12_trays_0 (C : Nat → Sp) : Tab := [(0, tr_aload 1 0), (1, tr_getR 4 13 1218), (4, tr_iload 5 3), (5, tr_iald 6), (6, tr_istore 8 6), (8, tr_ic 9 0), (9, tr_istore 11 7), (11, tr_iload 12 1), (12, tr_sw 14 [40, 80, 113] 136), (40, tr_aload 41 0), (41, tr_iload 43 6), (43, tr_iload 44 2), (44, tr_callV (C 121) 47 13 2), (47, tr_istore 49 7), (49, tr_iload 51 7), (51, tr_ifne 54 77), (54, tr_aload 55 0), (55, tr_getR 58 13 1235), (58, tr_aload 59 0), (59, tr_getI 62 13 1225), (62, tr_ic 63 1), (63, tr_isub 64), (64, tr_aload 65 0), (65, tr_getR 68 13 1221), (68, tr_ic 70 16), (70, tr_iload 72 6), (72, tr_imul 73), (73, tr_iload 74 2), (74, tr_iadd 75), (75, tr_lald 76), (76, tr_last 77), (77, tr_iload 79 7), (79, tr_iret), (80, tr_aload 81 0), (81, tr_iload 83 6), (83, tr_iload 84 2), (84, tr_callV (C 121) 87 13 2), (87, tr_istore 89 7), (89, tr_iload 91 7), (91, tr_ifne 94 110)]
set_option maxRecDepth 20000 in
theorem tbk_X12_trays_0 {D : DD} {d : Nat} {C : Nat → Sp} (hC : Snd D d C) : ∀ e ∈ tb_X12_trays_0 C, TrOk D (d + 1) mi_X12_trays e.1 e.2 :=
  tk_c (show TrOk D (d + 1) mi_X12_trays 0 (tr_aload 1 0) from ok_aload_n (show decode mi_X12_trays.2.1 0 = .ok (.aload_n 0, 1) from by decide +kernel) rfl) <|
  tk_c (show TrOk D (d + 1) mi_X12_trays 1 (tr_getR 4 13 1218) from ok_getR (ci := 12) (k := 18) (show decode mi_X12_trays.2.1 1 = .ok (.getfield 57, 3) from by decide +kernel) rfl (by decide) (gm 799 (by decide +kernel) rfl) rfl) <|
  tk_c (show TrOk D (d + 1) mi_X12_trays 4 (tr_iload 5 3) from ok_iload_n (show decode mi_X12_trays.2.1 4 = .ok (.iload_n 3, 1) from by decide +kernel) rfl) <|
  tk_c (show TrOk D (d + 1) mi_X12_trays 5 (tr_iald 6) from ok_iald (show decode mi_X12_trays.2.1 5 = .ok (.iaload, 1) from by decide +kernel)) <|
  tk_c (show TrOk D (d + 1) mi_X12_trays 6 (tr_istore 8 6) from ok_istore (show decode mi_X12_trays.2.1 6 = .ok (.istore 6, 2) from by decide +kernel) (by decide)) <|
  tk_c (show TrOk D (d + 1) mi_X12_trays 8 (tr_ic 9 0) from ok_iconst (show decode mi_X12_trays.2.1 8 = .ok (.iconst 0, 1) from by decide +kernel) rfl) <|
  tk_c (show TrOk D (d + 1) mi_X12_trays 9 (tr_istore 11 7) from ok_istore (show decode mi_X12_trays.2.1 9 = .ok (.istore 7, 2) from by decide +kernel) (by decide)) <|
  tk_c (show TrOk D (d + 1) mi_X12_trays 11 (tr_iload 12 1) from ok_iload_n (show decode mi_X12_trays.2.1 11 = .ok (.iload_n 1, 1) from by decide +kernel) rfl) <|
  tk_c (show TrOk D (d + 1) mi_X12_trays 12 (tr_sw 14 [40, 80, 113] 136) from ok_sw 14 (show decode mi_X12_trays.2.1 12 = .ok (.tableswitch 124 14 16 #[28, 68, 101], 28) from by decide +kernel) rfl rfl (by decide) (by decide) (by decide) (by decide +kernel)) <|
  tk_c (show TrOk D (d + 1) mi_X12_trays 40 (tr_aload 41 0) from ok_aload_n (show decode mi_X12_trays.2.1 40 = .ok (.aload_n 0, 1) from by decide +kernel) rfl) <|
  tk_c (show TrOk D (d + 1) mi_X12_trays 41 (tr_iload 43 6) from ok_iload (show decode mi_X12_trays.2.1 41 = .ok (.iload 6, 2) from by decide +kernel)) <|
  tk_c (show TrOk D (d + 1) mi_X12_trays 43 (tr_iload 44 2) from ok_iload_n (show decode mi_X12_trays.2.1 43 = .ok (.iload_n 2, 1) from by decide +kernel) rfl) <|
  tk_c (show TrOk D (d + 1) mi_X12_trays 44 (tr_callV (C 121) 47 13 2) from ok_callV (ci := 12) (show decode mi_X12_trays.2.1 44 = .ok (.invokevirtual 249, 3) from by decide +kernel) mok_X12_against rfl rfl (gm 1066 (by decide +kernel) rfl) (gm 1068 (by decide +kernel) rfl) (gm 26 (by decide +kernel) rfl) (hC 121)) <|
  tk_c (show TrOk D (d + 1) mi_X12_trays 47 (tr_istore 49 7) from ok_istore (show decode mi_X12_trays.2.1 47 = .ok (.istore 7, 2) from by decide +kernel) (by decide)) <|
  tk_c (show TrOk D (d + 1) mi_X12_trays 49 (tr_iload 51 7) from ok_iload (show decode mi_X12_trays.2.1 49 = .ok (.iload 7, 2) from by decide +kernel)) <|
  tk_c (show TrOk D (d + 1) mi_X12_trays 51 (tr_ifne 54 77) from ok_ifne (show decode mi_X12_trays.2.1 51 = .ok (.ifCond .ne 26, 3) from by decide +kernel) (by decide)) <|
  tk_c (show TrOk D (d + 1) mi_X12_trays 54 (tr_aload 55 0) from ok_aload_n (show decode mi_X12_trays.2.1 54 = .ok (.aload_n 0, 1) from by decide +kernel) rfl) <|
  tk_c (show TrOk D (d + 1) mi_X12_trays 55 (tr_getR 58 13 1235) from ok_getR (ci := 12) (k := 35) (show decode mi_X12_trays.2.1 55 = .ok (.getfield 102, 3) from by decide +kernel) rfl (by decide) (gm 816 (by decide +kernel) rfl) rfl) <|
  tk_c (show TrOk D (d + 1) mi_X12_trays 58 (tr_aload 59 0) from ok_aload_n (show decode mi_X12_trays.2.1 58 = .ok (.aload_n 0, 1) from by decide +kernel) rfl) <|
  tk_c (show TrOk D (d + 1) mi_X12_trays 59 (tr_getI 62 13 1225) from ok_getI (ci := 12) (k := 25) (show decode mi_X12_trays.2.1 59 = .ok (.getfield 186, 3) from by decide +kernel) rfl (by decide) (gm 806 (by decide +kernel) rfl) rfl) <|
  tk_c (show TrOk D (d + 1) mi_X12_trays 62 (tr_ic 63 1) from ok_iconst (show decode mi_X12_trays.2.1 62 = .ok (.iconst 1, 1) from by decide +kernel) rfl) <|
  tk_c (show TrOk D (d + 1) mi_X12_trays 63 (tr_isub 64) from ok_isub (show decode mi_X12_trays.2.1 63 = .ok (.isub, 1) from by decide +kernel)) <|
  tk_c (show TrOk D (d + 1) mi_X12_trays 64 (tr_aload 65 0) from ok_aload_n (show decode mi_X12_trays.2.1 64 = .ok (.aload_n 0, 1) from by decide +kernel) rfl) <|
  tk_c (show TrOk D (d + 1) mi_X12_trays 65 (tr_getR 68 13 1221) from ok_getR (ci := 12) (k := 21) (show decode mi_X12_trays.2.1 65 = .ok (.getfield 66, 3) from by decide +kernel) rfl (by decide) (gm 802 (by decide +kernel) rfl) rfl) <|
  tk_c (show TrOk D (d + 1) mi_X12_trays 68 (tr_ic 70 16) from ok_bipush (show decode mi_X12_trays.2.1 68 = .ok (.bipush 16, 2) from by decide +kernel) rfl) <|
  tk_c (show TrOk D (d + 1) mi_X12_trays 70 (tr_iload 72 6) from ok_iload (show decode mi_X12_trays.2.1 70 = .ok (.iload 6, 2) from by decide +kernel)) <|
  tk_c (show TrOk D (d + 1) mi_X12_trays 72 (tr_imul 73) from ok_imul (show decode mi_X12_trays.2.1 72 = .ok (.imul, 1) from by decide +kernel)) <|
  tk_c (show TrOk D (d + 1) mi_X12_trays 73 (tr_iload 74 2) from ok_iload_n (show decode mi_X12_trays.2.1 73 = .ok (.iload_n 2, 1) from by decide +kernel) rfl) <|
  tk_c (show TrOk D (d + 1) mi_X12_trays 74 (tr_iadd 75) from ok_iadd (show decode mi_X12_trays.2.1 74 = .ok (.iadd, 1) from by decide +kernel)) <|
  tk_c (show TrOk D (d + 1) mi_X12_trays 75 (tr_lald 76) from ok_lald (show decode mi_X12_trays.2.1 75 = .ok (.laload, 1) from by decide +kernel)) <|
  tk_c (show TrOk D (d + 1) mi_X12_trays 76 (tr_last 77) from ok_last (show decode mi_X12_trays.2.1 76 = .ok (.lastore, 1) from by decide +kernel)) <|
  tk_c (show TrOk D (d + 1) mi_X12_trays 77 (tr_iload 79 7) from ok_iload (show decode mi_X12_trays.2.1 77 = .ok (.iload 7, 2) from by decide +kernel)) <|
  tk_c (show TrOk D (d + 1) mi_X12_trays 79 (tr_iret) from ok_iret (show decode mi_X12_trays.2.1 79 = .ok (.ireturn, 1) from by decide +kernel) rfl) <|
  tk_c (show TrOk D (d + 1) mi_X12_trays 80 (tr_aload 81 0) from ok_aload_n (show decode mi_X12_trays.2.1 80 = .ok (.aload_n 0, 1) from by decide +kernel) rfl) <|
  tk_c (show TrOk D (d + 1) mi_X12_trays 81 (tr_iload 83 6) from ok_iload (show decode mi_X12_trays.2.1 81 = .ok (.iload 6, 2) from by decide +kernel)) <|
  tk_c (show TrOk D (d + 1) mi_X12_trays 83 (tr_iload 84 2) from ok_iload_n (show decode mi_X12_trays.2.1 83 = .ok (.iload_n 2, 1) from by decide +kernel) rfl) <|
  tk_c (show TrOk D (d + 1) mi_X12_trays 84 (tr_callV (C 121) 87 13 2) from ok_callV (ci := 12) (show decode mi_X12_trays.2.1 84 = .ok (.invokevirtual 249, 3) from by decide +kernel) mok_X12_against rfl rfl (gm 1066 (by decide +kernel) rfl) (gm 1068 (by decide +kernel) rfl) (gm 26 (by decide +kernel) rfl) (hC 121)) <|
  tk_c (show TrOk D (d + 1) mi_X12_trays 87 (tr_istore 89 7) from ok_istore (show decode mi_X12_trays.2.1 87 = .ok (.istore 7, 2) from by decide +kernel) (by decide)) <|
  tk_c (show TrOk D (d + 1) mi_X12_trays 89 (tr_iload 91 7) from ok_iload (show decode mi_X12_trays.2.1 89 = .ok (.iload 7, 2) from by decide +kernel)) <|
  tk_c (show TrOk D (d + 1) mi_X12_trays 91 (tr_ifne 94 110) from ok_ifne (show decode mi_X12_trays.2.1 91 = .ok (.ifCond .ne 19, 3) from by decide +kernel) (by decide)) <|
  tk_n
def tb_X12_trays_1 (C : Nat → Sp) : Tab := [(94, tr_aload 95 0), (95, tr_getR 98 13 1221), (98, tr_ic 100 16), (100, tr_iload 102 6), (102, tr_imul 103), (103, tr_iload 104 2), (104, tr_iadd 105), (105, tr_lload 107 4), (107, tr_l2i 108), (108, tr_i2l 109), (109, tr_last 110), (110, tr_iload 112 7), (112, tr_iret), (113, tr_iload 114 2), (114, tr_i2l 115), (115, tr_lc 116 0), (116, tr_lc 119 7), (119, tr_callS (C 96) 122 3), (122, tr_ifne 125 127), (125, tr_ic 126 2), (126, tr_iret), (127, tr_aload 128 0), (128, tr_getR 131 13 1218), (131, tr_iload 132 3), (132, tr_iload 133 2), (133, tr_iast 134), (134, tr_ic 135 0), (135, tr_iret), (136, tr_iload 137 2), (137, tr_iflt 140 146), (140, tr_iload 141 2), (141, tr_ic 143 16), (143, tr_icle 146 157), (146, tr_iload 147 2), (147, tr_ifge 150 154), (150, tr_ic 151 4), (151, tr_goto 156), (154, tr_ic 156 6), (156, tr_iret), (157, tr_aload 158 0)]
set_option maxRecDepth 20000 in
theorem tbk_X12_trays_1 {D : DD} {d : Nat} {C : Nat → Sp} (hC : Snd D d C) : ∀ e ∈ tb_X12_trays_1 C, TrOk D (d + 1) mi_X12_trays e.1 e.2 :=
  tk_c (show TrOk D (d + 1) mi_X12_trays 94 (tr_aload 95 0) from ok_aload_n (show decode mi_X12_trays.2.1 94 = .ok (.aload_n 0, 1) from by decide +kernel) rfl) <|
  tk_c (show TrOk D (d + 1) mi_X12_trays 95 (tr_getR 98 13 1221) from ok_getR (ci := 12) (k := 21) (show decode mi_X12_trays.2.1 95 = .ok (.getfield 66, 3) from by decide +kernel) rfl (by decide) (gm 802 (by decide +kernel) rfl) rfl) <|
  tk_c (show TrOk D (d + 1) mi_X12_trays 98 (tr_ic 100 16) from ok_bipush (show decode mi_X12_trays.2.1 98 = .ok (.bipush 16, 2) from by decide +kernel) rfl) <|
  tk_c (show TrOk D (d + 1) mi_X12_trays 100 (tr_iload 102 6) from ok_iload (show decode mi_X12_trays.2.1 100 = .ok (.iload 6, 2) from by decide +kernel)) <|
  tk_c (show TrOk D (d + 1) mi_X12_trays 102 (tr_imul 103) from ok_imul (show decode mi_X12_trays.2.1 102 = .ok (.imul, 1) from by decide +kernel)) <|
  tk_c (show TrOk D (d + 1) mi_X12_trays 103 (tr_iload 104 2) from ok_iload_n (show decode mi_X12_trays.2.1 103 = .ok (.iload_n 2, 1) from by decide +kernel) rfl) <|
  tk_c (show TrOk D (d + 1) mi_X12_trays 104 (tr_iadd 105) from ok_iadd (show decode mi_X12_trays.2.1 104 = .ok (.iadd, 1) from by decide +kernel)) <|
  tk_c (show TrOk D (d + 1) mi_X12_trays 105 (tr_lload 107 4) from ok_lload (show decode mi_X12_trays.2.1 105 = .ok (.lload 4, 2) from by decide +kernel)) <|
  tk_c (show TrOk D (d + 1) mi_X12_trays 107 (tr_l2i 108) from ok_l2i (show decode mi_X12_trays.2.1 107 = .ok (.l2i, 1) from by decide +kernel)) <|
  tk_c (show TrOk D (d + 1) mi_X12_trays 108 (tr_i2l 109) from ok_i2l (show decode mi_X12_trays.2.1 108 = .ok (.i2l, 1) from by decide +kernel)) <|
  tk_c (show TrOk D (d + 1) mi_X12_trays 109 (tr_last 110) from ok_last (show decode mi_X12_trays.2.1 109 = .ok (.lastore, 1) from by decide +kernel)) <|
  tk_c (show TrOk D (d + 1) mi_X12_trays 110 (tr_iload 112 7) from ok_iload (show decode mi_X12_trays.2.1 110 = .ok (.iload 7, 2) from by decide +kernel)) <|
  tk_c (show TrOk D (d + 1) mi_X12_trays 112 (tr_iret) from ok_iret (show decode mi_X12_trays.2.1 112 = .ok (.ireturn, 1) from by decide +kernel) rfl) <|
  tk_c (show TrOk D (d + 1) mi_X12_trays 113 (tr_iload 114 2) from ok_iload_n (show decode mi_X12_trays.2.1 113 = .ok (.iload_n 2, 1) from by decide +kernel) rfl) <|
  tk_c (show TrOk D (d + 1) mi_X12_trays 114 (tr_i2l 115) from ok_i2l (show decode mi_X12_trays.2.1 114 = .ok (.i2l, 1) from by decide +kernel)) <|
  tk_c (show TrOk D (d + 1) mi_X12_trays 115 (tr_lc 116 0) from ok_lconst (show decode mi_X12_trays.2.1 115 = .ok (.lconst 0, 1) from by decide +kernel) rfl) <|
  tk_c (show TrOk D (d + 1) mi_X12_trays 116 (tr_lc 119 7) from ok_ldc2 (show decode mi_X12_trays.2.1 116 = .ok (.ldc2_w 169, 3) from by decide +kernel) (gm 1004 (by decide +kernel) rfl)) <|
  tk_c (show TrOk D (d + 1) mi_X12_trays 119 (tr_callS (C 96) 122 3) from ok_callS (show decode mi_X12_trays.2.1 119 = .ok (.invokestatic 136, 3) from by decide +kernel) mok_X12_in (gm 955 (by decide +kernel) rfl) (gm 956 (by decide +kernel) rfl) (hC 96)) <|
  tk_c (show TrOk D (d + 1) mi_X12_trays 122 (tr_ifne 125 127) from ok_ifne (show decode mi_X12_trays.2.1 122 = .ok (.ifCond .ne 5, 3) from by decide +kernel) (by decide)) <|
  tk_c (show TrOk D (d + 1) mi_X12_trays 125 (tr_ic 126 2) from ok_iconst (show decode mi_X12_trays.2.1 125 = .ok (.iconst 2, 1) from by decide +kernel) rfl) <|
  tk_c (show TrOk D (d + 1) mi_X12_trays 126 (tr_iret) from ok_iret (show decode mi_X12_trays.2.1 126 = .ok (.ireturn, 1) from by decide +kernel) rfl) <|
  tk_c (show TrOk D (d + 1) mi_X12_trays 127 (tr_aload 128 0) from ok_aload_n (show decode mi_X12_trays.2.1 127 = .ok (.aload_n 0, 1) from by decide +kernel) rfl) <|
  tk_c (show TrOk D (d + 1) mi_X12_trays 128 (tr_getR 131 13 1218) from ok_getR (ci := 12) (k := 18) (show decode mi_X12_trays.2.1 128 = .ok (.getfield 57, 3) from by decide +kernel) rfl (by decide) (gm 799 (by decide +kernel) rfl) rfl) <|
  tk_c (show TrOk D (d + 1) mi_X12_trays 131 (tr_iload 132 3) from ok_iload_n (show decode mi_X12_trays.2.1 131 = .ok (.iload_n 3, 1) from by decide +kernel) rfl) <|
  tk_c (show TrOk D (d + 1) mi_X12_trays 132 (tr_iload 133 2) from ok_iload_n (show decode mi_X12_trays.2.1 132 = .ok (.iload_n 2, 1) from by decide +kernel) rfl) <|
  tk_c (show TrOk D (d + 1) mi_X12_trays 133 (tr_iast 134) from ok_iast (show decode mi_X12_trays.2.1 133 = .ok (.iastore, 1) from by decide +kernel)) <|
  tk_c (show TrOk D (d + 1) mi_X12_trays 134 (tr_ic 135 0) from ok_iconst (show decode mi_X12_trays.2.1 134 = .ok (.iconst 0, 1) from by decide +kernel) rfl) <|
  tk_c (show TrOk D (d + 1) mi_X12_trays 135 (tr_iret) from ok_iret (show decode mi_X12_trays.2.1 135 = .ok (.ireturn, 1) from by decide +kernel) rfl) <|
  tk_c (show TrOk D (d + 1) mi_X12_trays 136 (tr_iload 137 2) from ok_iload_n (show decode mi_X12_trays.2.1 136 = .ok (.iload_n 2, 1) from by decide +kernel) rfl) <|
  tk_c (show TrOk D (d + 1) mi_X12_trays 137 (tr_iflt 140 146) from ok_iflt (show decode mi_X12_trays.2.1 137 = .ok (.ifCond .lt 9, 3) from by decide +kernel) (by decide)) <|
  tk_c (show TrOk D (d + 1) mi_X12_trays 140 (tr_iload 141 2) from ok_iload_n (show decode mi_X12_trays.2.1 140 = .ok (.iload_n 2, 1) from by decide +kernel) rfl) <|
  tk_c (show TrOk D (d + 1) mi_X12_trays 141 (tr_ic 143 16) from ok_bipush (show decode mi_X12_trays.2.1 141 = .ok (.bipush 16, 2) from by decide +kernel) rfl) <|
  tk_c (show TrOk D (d + 1) mi_X12_trays 143 (tr_icle 146 157) from ok_icle (show decode mi_X12_trays.2.1 143 = .ok (.if_icmp .le 14, 3) from by decide +kernel) (by decide)) <|
  tk_c (show TrOk D (d + 1) mi_X12_trays 146 (tr_iload 147 2) from ok_iload_n (show decode mi_X12_trays.2.1 146 = .ok (.iload_n 2, 1) from by decide +kernel) rfl) <|
  tk_c (show TrOk D (d + 1) mi_X12_trays 147 (tr_ifge 150 154) from ok_ifge (show decode mi_X12_trays.2.1 147 = .ok (.ifCond .ge 7, 3) from by decide +kernel) (by decide)) <|
  tk_c (show TrOk D (d + 1) mi_X12_trays 150 (tr_ic 151 4) from ok_iconst (show decode mi_X12_trays.2.1 150 = .ok (.iconst 4, 1) from by decide +kernel) rfl) <|
  tk_c (show TrOk D (d + 1) mi_X12_trays 151 (tr_goto 156) from ok_goto (show decode mi_X12_trays.2.1 151 = .ok (.goto 5, 3) from by decide +kernel) (by decide)) <|
  tk_c (show TrOk D (d + 1) mi_X12_trays 154 (tr_ic 156 6) from ok_bipush (show decode mi_X12_trays.2.1 154 = .ok (.bipush 6, 2) from by decide +kernel) rfl) <|
  tk_c (show TrOk D (d + 1) mi_X12_trays 156 (tr_iret) from ok_iret (show decode mi_X12_trays.2.1 156 = .ok (.ireturn, 1) from by decide +kernel) rfl) <|
  tk_c (show TrOk D (d + 1) mi_X12_trays 157 (tr_aload 158 0) from ok_aload_n (show decode mi_X12_trays.2.1 157 = .ok (.aload_n 0, 1) from by decide +kernel) rfl) <|
  tk_n
def tb_X12_trays_2 (C : Nat → Sp) : Tab := [(158, tr_iload 160 6), (160, tr_ic 161 1), (161, tr_iload 162 2), (162, tr_callV (C 108) 165 13 3), (165, tr_ic 166 0), (166, tr_iret)]
set_option maxRecDepth 20000 in
theorem tbk_X12_trays_2 {D : DD} {d : Nat} {C : Nat → Sp} (hC : Snd D d C) : ∀ e ∈ tb_X12_trays_2 C, TrOk D (d + 1) mi_X12_trays e.1 e.2 :=
  tk_c (show TrOk D (d + 1) mi_X12_trays 158 (tr_iload 160 6) from ok_iload (show decode mi_X12_trays.2.1 158 = .ok (.iload 6, 2) from by decide +kernel)) <|
  tk_c (show TrOk D (d + 1) mi_X12_trays 160 (tr_ic 161 1) from ok_iconst (show decode mi_X12_trays.2.1 160 = .ok (.iconst 1, 1) from by decide +kernel) rfl) <|
  tk_c (show TrOk D (d + 1) mi_X12_trays 161 (tr_iload 162 2) from ok_iload_n (show decode mi_X12_trays.2.1 161 = .ok (.iload_n 2, 1) from by decide +kernel) rfl) <|
  tk_c (show TrOk D (d + 1) mi_X12_trays 162 (tr_callV (C 108) 165 13 3) from ok_callV (ci := 12) (show decode mi_X12_trays.2.1 162 = .ok (.invokevirtual 171, 3) from by decide +kernel) mok_X12_lay1 rfl rfl (gm 1005 (by decide +kernel) rfl) (gm 1007 (by decide +kernel) rfl) (gm 15 (by decide +kernel) rfl) (hC 108)) <|
  tk_c (show TrOk D (d + 1) mi_X12_trays 165 (tr_ic 166 0) from ok_iconst (show decode mi_X12_trays.2.1 165 = .ok (.iconst 0, 1) from by decide +kernel) rfl) <|
  tk_c (show TrOk D (d + 1) mi_X12_trays 166 (tr_iret) from ok_iret (show decode mi_X12_trays.2.1 166 = .ok (.ireturn, 1) from by decide +kernel) rfl) <|
  tk_n
def tb_X12_trays (C : Nat → Sp) : Tab := tb_X12_trays_0 C ++ (tb_X12_trays_1 C ++ (tb_X12_trays_2 C))
theorem tbk_X12_trays {D : DD} {d : Nat} {C : Nat → Sp} (hC : Snd D d C) : ∀ e ∈ tb_X12_trays C, TrOk D (d + 1) mi_X12_trays e.1 e.2 := tk_a (tbk_X12_trays_0 hC) (tk_a (tbk_X12_trays_1 hC) (tbk_X12_trays_2 hC))
theorem a_X12_trays_0 (C : Nat → Sp) : ta (tb_X12_trays C) 0 = tr_aload 1 0 := rfl
theorem a_X12_trays_1 (C : Nat → Sp) : ta (tb_X12_trays C) 1 = tr_getR 4 13 1218 := rfl
theorem a_X12_trays_4 (C : Nat → Sp) : ta (tb_X12_trays C) 4 = tr_iload 5 3 := rfl
theorem a_X12_trays_5 (C : Nat → Sp) : ta (tb_X12_trays C) 5 = tr_iald 6 := rfl
theorem a_X12_trays_6 (C : Nat → Sp) : ta (tb_X12_trays C) 6 = tr_istore 8 6 := rfl
theorem a_X12_trays_8 (C : Nat → Sp) : ta (tb_X12_trays C) 8 = tr_ic 9 0 := rfl
theorem a_X12_trays_9 (C : Nat → Sp) : ta (tb_X12_trays C) 9 = tr_istore 11 7 := rfl
theorem a_X12_trays_11 (C : Nat → Sp) : ta (tb_X12_trays C) 11 = tr_iload 12 1 := rfl
theorem a_X12_trays_12 (C : Nat → Sp) : ta (tb_X12_trays C) 12 = tr_sw 14 [40, 80, 113] 136 := rfl
theorem a_X12_trays_40 (C : Nat → Sp) : ta (tb_X12_trays C) 40 = tr_aload 41 0 := rfl
theorem a_X12_trays_41 (C : Nat → Sp) : ta (tb_X12_trays C) 41 = tr_iload 43 6 := rfl
theorem a_X12_trays_43 (C : Nat → Sp) : ta (tb_X12_trays C) 43 = tr_iload 44 2 := rfl
theorem a_X12_trays_44 (C : Nat → Sp) : ta (tb_X12_trays C) 44 = tr_callV (C 121) 47 13 2 := rfl
theorem a_X12_trays_47 (C : Nat → Sp) : ta (tb_X12_trays C) 47 = tr_istore 49 7 := rfl
theorem a_X12_trays_49 (C : Nat → Sp) : ta (tb_X12_trays C) 49 = tr_iload 51 7 := rfl
theorem a_X12_trays_51 (C : Nat → Sp) : ta (tb_X12_trays C) 51 = tr_ifne 54 77 := rfl
theorem a_X12_trays_54 (C : Nat → Sp) : ta (tb_X12_trays C) 54 = tr_aload 55 0 := rfl
theorem a_X12_trays_55 (C : Nat → Sp) : ta (tb_X12_trays C) 55 = tr_getR 58 13 1235 := rfl
theorem a_X12_trays_58 (C : Nat → Sp) : ta (tb_X12_trays C) 58 = tr_aload 59 0 := rfl
theorem a_X12_trays_59 (C : Nat → Sp) : ta (tb_X12_trays C) 59 = tr_getI 62 13 1225 := rfl
theorem a_X12_trays_62 (C : Nat → Sp) : ta (tb_X12_trays C) 62 = tr_ic 63 1 := rfl
theorem a_X12_trays_63 (C : Nat → Sp) : ta (tb_X12_trays C) 63 = tr_isub 64 := rfl
theorem a_X12_trays_64 (C : Nat → Sp) : ta (tb_X12_trays C) 64 = tr_aload 65 0 := rfl
theorem a_X12_trays_65 (C : Nat → Sp) : ta (tb_X12_trays C) 65 = tr_getR 68 13 1221 := rfl
theorem a_X12_trays_68 (C : Nat → Sp) : ta (tb_X12_trays C) 68 = tr_ic 70 16 := rfl
theorem a_X12_trays_70 (C : Nat → Sp) : ta (tb_X12_trays C) 70 = tr_iload 72 6 := rfl
theorem a_X12_trays_72 (C : Nat → Sp) : ta (tb_X12_trays C) 72 = tr_imul 73 := rfl
theorem a_X12_trays_73 (C : Nat → Sp) : ta (tb_X12_trays C) 73 = tr_iload 74 2 := rfl
theorem a_X12_trays_74 (C : Nat → Sp) : ta (tb_X12_trays C) 74 = tr_iadd 75 := rfl
theorem a_X12_trays_75 (C : Nat → Sp) : ta (tb_X12_trays C) 75 = tr_lald 76 := rfl
theorem a_X12_trays_76 (C : Nat → Sp) : ta (tb_X12_trays C) 76 = tr_last 77 := rfl
theorem a_X12_trays_77 (C : Nat → Sp) : ta (tb_X12_trays C) 77 = tr_iload 79 7 := rfl
theorem a_X12_trays_79 (C : Nat → Sp) : ta (tb_X12_trays C) 79 = tr_iret := rfl
theorem a_X12_trays_80 (C : Nat → Sp) : ta (tb_X12_trays C) 80 = tr_aload 81 0 := rfl
theorem a_X12_trays_81 (C : Nat → Sp) : ta (tb_X12_trays C) 81 = tr_iload 83 6 := rfl
theorem a_X12_trays_83 (C : Nat → Sp) : ta (tb_X12_trays C) 83 = tr_iload 84 2 := rfl
theorem a_X12_trays_84 (C : Nat → Sp) : ta (tb_X12_trays C) 84 = tr_callV (C 121) 87 13 2 := rfl
theorem a_X12_trays_87 (C : Nat → Sp) : ta (tb_X12_trays C) 87 = tr_istore 89 7 := rfl
theorem a_X12_trays_89 (C : Nat → Sp) : ta (tb_X12_trays C) 89 = tr_iload 91 7 := rfl
theorem a_X12_trays_91 (C : Nat → Sp) : ta (tb_X12_trays C) 91 = tr_ifne 94 110 := rfl
theorem a_X12_trays_94 (C : Nat → Sp) : ta (tb_X12_trays C) 94 = tr_aload 95 0 := rfl
theorem a_X12_trays_95 (C : Nat → Sp) : ta (tb_X12_trays C) 95 = tr_getR 98 13 1221 := rfl
theorem a_X12_trays_98 (C : Nat → Sp) : ta (tb_X12_trays C) 98 = tr_ic 100 16 := rfl
theorem a_X12_trays_100 (C : Nat → Sp) : ta (tb_X12_trays C) 100 = tr_iload 102 6 := rfl
theorem a_X12_trays_102 (C : Nat → Sp) : ta (tb_X12_trays C) 102 = tr_imul 103 := rfl
theorem a_X12_trays_103 (C : Nat → Sp) : ta (tb_X12_trays C) 103 = tr_iload 104 2 := rfl
theorem a_X12_trays_104 (C : Nat → Sp) : ta (tb_X12_trays C) 104 = tr_iadd 105 := rfl
theorem a_X12_trays_105 (C : Nat → Sp) : ta (tb_X12_trays C) 105 = tr_lload 107 4 := rfl
theorem a_X12_trays_107 (C : Nat → Sp) : ta (tb_X12_trays C) 107 = tr_l2i 108 := rfl
theorem a_X12_trays_108 (C : Nat → Sp) : ta (tb_X12_trays C) 108 = tr_i2l 109 := rfl
theorem a_X12_trays_109 (C : Nat → Sp) : ta (tb_X12_trays C) 109 = tr_last 110 := rfl
theorem a_X12_trays_110 (C : Nat → Sp) : ta (tb_X12_trays C) 110 = tr_iload 112 7 := rfl
theorem a_X12_trays_112 (C : Nat → Sp) : ta (tb_X12_trays C) 112 = tr_iret := rfl
theorem a_X12_trays_113 (C : Nat → Sp) : ta (tb_X12_trays C) 113 = tr_iload 114 2 := rfl
theorem a_X12_trays_114 (C : Nat → Sp) : ta (tb_X12_trays C) 114 = tr_i2l 115 := rfl
theorem a_X12_trays_115 (C : Nat → Sp) : ta (tb_X12_trays C) 115 = tr_lc 116 0 := rfl
theorem a_X12_trays_116 (C : Nat → Sp) : ta (tb_X12_trays C) 116 = tr_lc 119 7 := rfl
theorem a_X12_trays_119 (C : Nat → Sp) : ta (tb_X12_trays C) 119 = tr_callS (C 96) 122 3 := rfl
theorem a_X12_trays_122 (C : Nat → Sp) : ta (tb_X12_trays C) 122 = tr_ifne 125 127 := rfl
theorem a_X12_trays_125 (C : Nat → Sp) : ta (tb_X12_trays C) 125 = tr_ic 126 2 := rfl
set_option maxRecDepth 20000 in
theorem a_X12_trays_126 (C : Nat → Sp) : ta (tb_X12_trays C) 126 = tr_iret := rfl
set_option maxRecDepth 20000 in
theorem a_X12_trays_127 (C : Nat → Sp) : ta (tb_X12_trays C) 127 = tr_aload 128 0 := rfl
set_option maxRecDepth 20000 in
theorem a_X12_trays_128 (C : Nat → Sp) : ta (tb_X12_trays C) 128 = tr_getR 131 13 1218 := rfl
set_option maxRecDepth 20000 in
theorem a_X12_trays_131 (C : Nat → Sp) : ta (tb_X12_trays C) 131 = tr_iload 132 3 := rfl
set_option maxRecDepth 20000 in
theorem a_X12_trays_132 (C : Nat → Sp) : ta (tb_X12_trays C) 132 = tr_iload 133 2 := rfl
set_option maxRecDepth 20000 in
theorem a_X12_trays_133 (C : Nat → Sp) : ta (tb_X12_trays C) 133 = tr_iast 134 := rfl
set_option maxRecDepth 20000 in
theorem a_X12_trays_134 (C : Nat → Sp) : ta (tb_X12_trays C) 134 = tr_ic 135 0 := rfl
set_option maxRecDepth 20000 in
theorem a_X12_trays_135 (C : Nat → Sp) : ta (tb_X12_trays C) 135 = tr_iret := rfl
set_option maxRecDepth 20000 in
theorem a_X12_trays_136 (C : Nat → Sp) : ta (tb_X12_trays C) 136 = tr_iload 137 2 := rfl
set_option maxRecDepth 20000 in
theorem a_X12_trays_137 (C : Nat → Sp) : ta (tb_X12_trays C) 137 = tr_iflt 140 146 := rfl
set_option maxRecDepth 20000 in
theorem a_X12_trays_140 (C : Nat → Sp) : ta (tb_X12_trays C) 140 = tr_iload 141 2 := rfl
set_option maxRecDepth 20000 in
theorem a_X12_trays_141 (C : Nat → Sp) : ta (tb_X12_trays C) 141 = tr_ic 143 16 := rfl
set_option maxRecDepth 20000 in
theorem a_X12_trays_143 (C : Nat → Sp) : ta (tb_X12_trays C) 143 = tr_icle 146 157 := rfl
set_option maxRecDepth 20000 in
theorem a_X12_trays_146 (C : Nat → Sp) : ta (tb_X12_trays C) 146 = tr_iload 147 2 := rfl
set_option maxRecDepth 20000 in
theorem a_X12_trays_147 (C : Nat → Sp) : ta (tb_X12_trays C) 147 = tr_ifge 150 154 := rfl
set_option maxRecDepth 20000 in
theorem a_X12_trays_150 (C : Nat → Sp) : ta (tb_X12_trays C) 150 = tr_ic 151 4 := rfl
set_option maxRecDepth 20000 in
theorem a_X12_trays_151 (C : Nat → Sp) : ta (tb_X12_trays C) 151 = tr_goto 156 := rfl
set_option maxRecDepth 20000 in
theorem a_X12_trays_154 (C : Nat → Sp) : ta (tb_X12_trays C) 154 = tr_ic 156 6 := rfl
set_option maxRecDepth 20000 in
theorem a_X12_trays_156 (C : Nat → Sp) : ta (tb_X12_trays C) 156 = tr_iret := rfl
set_option maxRecDepth 20000 in
theorem a_X12_trays_157 (C : Nat → Sp) : ta (tb_X12_trays C) 157 = tr_aload 158 0 := rfl
set_option maxRecDepth 20000 in
theorem a_X12_trays_158 (C : Nat → Sp) : ta (tb_X12_trays C) 158 = tr_iload 160 6 := rfl
set_option maxRecDepth 20000 in
theorem a_X12_trays_160 (C : Nat → Sp) : ta (tb_X12_trays C) 160 = tr_ic 161 1 := rfl
set_option maxRecDepth 20000 in
theorem a_X12_trays_161 (C : Nat → Sp) : ta (tb_X12_trays C) 161 = tr_iload 162 2 := rfl
set_option maxRecDepth 20000 in
theorem a_X12_trays_162 (C : Nat → Sp) : ta (tb_X12_trays C) 162 = tr_callV (C 108) 165 13 3 := rfl
set_option maxRecDepth 20000 in
theorem a_X12_trays_165 (C : Nat → Sp) : ta (tb_X12_trays C) 165 = tr_ic 166 0 := rfl
set_option maxRecDepth 20000 in
theorem a_X12_trays_166 (C : Nat → Sp) : ta (tb_X12_trays C) 166 = tr_iret := rfl

def tb_X12_goOn_0 (C : Nat → Sp) : Tab := [(0, tr_aload 1 0), (1, tr_getI 4 13 1225), (4, tr_ic 5 1), (5, tr_isub 6), (6, tr_istore 7 2), (7, tr_aload 8 0), (8, tr_getR 11 13 1232), (11, tr_iload 12 2), (12, tr_bald 13), (13, tr_ifeq 16 105), (16, tr_aload 17 0), (17, tr_getR 20 13 1233), (20, tr_iload 21 2), (21, tr_iald 22), (22, tr_istore 23 3), (23, tr_aload 24 0), (24, tr_getR 27 13 1234), (27, tr_iload 28 2), (28, tr_iald 29), (29, tr_aload 30 0), (30, tr_getR 33 13 1214), (33, tr_iload 34 3), (34, tr_iald 35), (35, tr_iclt 38 60), (38, tr_aload 39 0), (39, tr_getR 42 13 1227), (42, tr_iload 43 2), (43, tr_aload 44 0), (44, tr_getR 47 13 1235), (47, tr_iload 48 2), (48, tr_lald 49), (49, tr_last 50), (50, tr_aload 51 0), (51, tr_getR 54 13 1232), (54, tr_iload 55 2), (55, tr_ic 56 0), (56, tr_bast 57), (57, tr_goto 102), (60, tr_ic 62 10), (62, tr_iload 63 3)]
set_option maxRecDepth 20000 in
theorem tbk_X12_goOn_0 {D : DD} {d : Nat} {C : Nat → Sp} (hC : Snd D d C) : ∀ e ∈ tb_X12_goOn_0 C, TrOk D (d + 1) mi_X12_goOn e.1 e.2 :=
  tk_c (show TrOk D (d + 1) mi_X12_goOn 0 (tr_aload 1 0) from ok_aload_n (show decode mi_X12_goOn.2.1 0 = .ok (.aload_n 0, 1) from by decide +kernel) rfl) <|
  tk_c (show TrOk D (d + 1) mi_X12_goOn 1 (tr_getI 4 13 1225) from ok_getI (ci := 12) (k := 25) (show decode mi_X12_goOn.2.1 1 = .ok (.getfield 186, 3) from by decide +kernel) rfl (by decide) (gm 806 (by decide +kernel) rfl) rfl) <|
  tk_c (show TrOk D (d + 1) mi_X12_goOn 4 (tr_ic 5 1) from ok_iconst (show decode mi_X12_goOn.2.1 4 = .ok (.iconst 1, 1) from by decide +kernel) rfl) <|
  tk_c (show TrOk D (d + 1) mi_X12_goOn 5 (tr_isub 6) from ok_isub (show decode mi_X12_goOn.2.1 5 = .ok (.isub, 1) from by decide +kernel)) <|
  tk_c (show TrOk D (d + 1) mi_X12_goOn 6 (tr_istore 7 2) from ok_istore_n (show decode mi_X12_goOn.2.1 6 = .ok (.istore_n 2, 1) from by decide +kernel) rfl (by decide)) <|
  tk_c (show TrOk D (d + 1) mi_X12_goOn 7 (tr_aload 8 0) from ok_aload_n (show decode mi_X12_goOn.2.1 7 = .ok (.aload_n 0, 1) from by decide +kernel) rfl) <|
  tk_c (show TrOk D (d + 1) mi_X12_goOn 8 (tr_getR 11 13 1232) from ok_getR (ci := 12) (k := 32) (show decode mi_X12_goOn.2.1 8 = .ok (.getfield 93, 3) from by decide +kernel) rfl (by decide) (gm 813 (by decide +kernel) rfl) rfl) <|
  tk_c (show TrOk D (d + 1) mi_X12_goOn 11 (tr_iload 12 2) from ok_iload_n (show decode mi_X12_goOn.2.1 11 = .ok (.iload_n 2, 1) from by decide +kernel) rfl) <|
  tk_c (show TrOk D (d + 1) mi_X12_goOn 12 (tr_bald 13) from ok_bald (show decode mi_X12_goOn.2.1 12 = .ok (.baload, 1) from by decide +kernel)) <|
  tk_c (show TrOk D (d + 1) mi_X12_goOn 13 (tr_ifeq 16 105) from ok_ifeq (show decode mi_X12_goOn.2.1 13 = .ok (.ifCond .eq 92, 3) from by decide +kernel) (by decide)) <|
  tk_c (show TrOk D (d + 1) mi_X12_goOn 16 (tr_aload 17 0) from ok_aload_n (show decode mi_X12_goOn.2.1 16 = .ok (.aload_n 0, 1) from by decide +kernel) rfl) <|
  tk_c (show TrOk D (d + 1) mi_X12_goOn 17 (tr_getR 20 13 1233) from ok_getR (ci := 12) (k := 33) (show decode mi_X12_goOn.2.1 17 = .ok (.getfield 96, 3) from by decide +kernel) rfl (by decide) (gm 814 (by decide +kernel) rfl) rfl) <|
  tk_c (show TrOk D (d + 1) mi_X12_goOn 20 (tr_iload 21 2) from ok_iload_n (show decode mi_X12_goOn.2.1 20 = .ok (.iload_n 2, 1) from by decide +kernel) rfl) <|
  tk_c (show TrOk D (d + 1) mi_X12_goOn 21 (tr_iald 22) from ok_iald (show decode mi_X12_goOn.2.1 21 = .ok (.iaload, 1) from by decide +kernel)) <|
  tk_c (show TrOk D (d + 1) mi_X12_goOn 22 (tr_istore 23 3) from ok_istore_n (show decode mi_X12_goOn.2.1 22 = .ok (.istore_n 3, 1) from by decide +kernel) rfl (by decide)) <|
  tk_c (show TrOk D (d + 1) mi_X12_goOn 23 (tr_aload 24 0) from ok_aload_n (show decode mi_X12_goOn.2.1 23 = .ok (.aload_n 0, 1) from by decide +kernel) rfl) <|
  tk_c (show TrOk D (d + 1) mi_X12_goOn 24 (tr_getR 27 13 1234) from ok_getR (ci := 12) (k := 34) (show decode mi_X12_goOn.2.1 24 = .ok (.getfield 99, 3) from by decide +kernel) rfl (by decide) (gm 815 (by decide +kernel) rfl) rfl) <|
  tk_c (show TrOk D (d + 1) mi_X12_goOn 27 (tr_iload 28 2) from ok_iload_n (show decode mi_X12_goOn.2.1 27 = .ok (.iload_n 2, 1) from by decide +kernel) rfl) <|
  tk_c (show TrOk D (d + 1) mi_X12_goOn 28 (tr_iald 29) from ok_iald (show decode mi_X12_goOn.2.1 28 = .ok (.iaload, 1) from by decide +kernel)) <|
  tk_c (show TrOk D (d + 1) mi_X12_goOn 29 (tr_aload 30 0) from ok_aload_n (show decode mi_X12_goOn.2.1 29 = .ok (.aload_n 0, 1) from by decide +kernel) rfl) <|
  tk_c (show TrOk D (d + 1) mi_X12_goOn 30 (tr_getR 33 13 1214) from ok_getR (ci := 12) (k := 14) (show decode mi_X12_goOn.2.1 30 = .ok (.getfield 45, 3) from by decide +kernel) rfl (by decide) (gm 795 (by decide +kernel) rfl) rfl) <|
  tk_c (show TrOk D (d + 1) mi_X12_goOn 33 (tr_iload 34 3) from ok_iload_n (show decode mi_X12_goOn.2.1 33 = .ok (.iload_n 3, 1) from by decide +kernel) rfl) <|
  tk_c (show TrOk D (d + 1) mi_X12_goOn 34 (tr_iald 35) from ok_iald (show decode mi_X12_goOn.2.1 34 = .ok (.iaload, 1) from by decide +kernel)) <|
  tk_c (show TrOk D (d + 1) mi_X12_goOn 35 (tr_iclt 38 60) from ok_iclt (show decode mi_X12_goOn.2.1 35 = .ok (.if_icmp .lt 25, 3) from by decide +kernel) (by decide)) <|
  tk_c (show TrOk D (d + 1) mi_X12_goOn 38 (tr_aload 39 0) from ok_aload_n (show decode mi_X12_goOn.2.1 38 = .ok (.aload_n 0, 1) from by decide +kernel) rfl) <|
  tk_c (show TrOk D (d + 1) mi_X12_goOn 39 (tr_getR 42 13 1227) from ok_getR (ci := 12) (k := 27) (show decode mi_X12_goOn.2.1 39 = .ok (.getfield 78, 3) from by decide +kernel) rfl (by decide) (gm 808 (by decide +kernel) rfl) rfl) <|
  tk_c (show TrOk D (d + 1) mi_X12_goOn 42 (tr_iload 43 2) from ok_iload_n (show decode mi_X12_goOn.2.1 42 = .ok (.iload_n 2, 1) from by decide +kernel) rfl) <|
  tk_c (show TrOk D (d + 1) mi_X12_goOn 43 (tr_aload 44 0) from ok_aload_n (show decode mi_X12_goOn.2.1 43 = .ok (.aload_n 0, 1) from by decide +kernel) rfl) <|
  tk_c (show TrOk D (d + 1) mi_X12_goOn 44 (tr_getR 47 13 1235) from ok_getR (ci := 12) (k := 35) (show decode mi_X12_goOn.2.1 44 = .ok (.getfield 102, 3) from by decide +kernel) rfl (by decide) (gm 816 (by decide +kernel) rfl) rfl) <|
  tk_c (show TrOk D (d + 1) mi_X12_goOn 47 (tr_iload 48 2) from ok_iload_n (show decode mi_X12_goOn.2.1 47 = .ok (.iload_n 2, 1) from by decide +kernel) rfl) <|
  tk_c (show TrOk D (d + 1) mi_X12_goOn 48 (tr_lald 49) from ok_lald (show decode mi_X12_goOn.2.1 48 = .ok (.laload, 1) from by decide +kernel)) <|
  tk_c (show TrOk D (d + 1) mi_X12_goOn 49 (tr_last 50) from ok_last (show decode mi_X12_goOn.2.1 49 = .ok (.lastore, 1) from by decide +kernel)) <|
  tk_c (show TrOk D (d + 1) mi_X12_goOn 50 (tr_aload 51 0) from ok_aload_n (show decode mi_X12_goOn.2.1 50 = .ok (.aload_n 0, 1) from by decide +kernel) rfl) <|
  tk_c (show TrOk D (d + 1) mi_X12_goOn 51 (tr_getR 54 13 1232) from ok_getR (ci := 12) (k := 32) (show decode mi_X12_goOn.2.1 51 = .ok (.getfield 93, 3) from by decide +kernel) rfl (by decide) (gm 813 (by decide +kernel) rfl) rfl) <|
  tk_c (show TrOk D (d + 1) mi_X12_goOn 54 (tr_iload 55 2) from ok_iload_n (show decode mi_X12_goOn.2.1 54 = .ok (.iload_n 2, 1) from by decide +kernel) rfl) <|
  tk_c (show TrOk D (d + 1) mi_X12_goOn 55 (tr_ic 56 0) from ok_iconst (show decode mi_X12_goOn.2.1 55 = .ok (.iconst 0, 1) from by decide +kernel) rfl) <|
  tk_c (show TrOk D (d + 1) mi_X12_goOn 56 (tr_bast 57) from ok_bast (show decode mi_X12_goOn.2.1 56 = .ok (.bastore, 1) from by decide +kernel)) <|
  tk_c (show TrOk D (d + 1) mi_X12_goOn 57 (tr_goto 102) from ok_goto (show decode mi_X12_goOn.2.1 57 = .ok (.goto 45, 3) from by decide +kernel) (by decide)) <|
  tk_c (show TrOk D (d + 1) mi_X12_goOn 60 (tr_ic 62 10) from ok_bipush (show decode mi_X12_goOn.2.1 60 = .ok (.bipush 10, 2) from by decide +kernel) rfl) <|
  tk_c (show TrOk D (d + 1) mi_X12_goOn 62 (tr_iload 63 3) from ok_iload_n (show decode mi_X12_goOn.2.1 62 = .ok (.iload_n 3, 1) from by decide +kernel) rfl) <|
  tk_n
def tb_X12_goOn_1 (C : Nat → Sp) : Tab := [(63, tr_imul 64), (64, tr_aload 65 0), (65, tr_getR 68 13 1234), (68, tr_iload 69 2), (69, tr_iald 70), (70, tr_iadd 71), (71, tr_istore 73 4), (73, tr_aload 74 0), (74, tr_getR 77 13 1234), (77, tr_iload 78 2), (78, tr_dup2 79), (79, tr_iald 80), (80, tr_ic 81 1), (81, tr_iadd 82), (82, tr_iast 83), (83, tr_aload 84 0), (84, tr_aload 85 0), (85, tr_getR 88 13 1215), (88, tr_iload 90 4), (90, tr_iald 91), (91, tr_aload 92 0), (92, tr_getR 95 13 1216), (95, tr_iload 97 4), (97, tr_iald 98), (98, tr_iload 99 1), (99, tr_callV (C 122) 102 13 3), (102, tr_goto 317), (105, tr_aload 106 0), (106, tr_getR 109 13 1230), (109, tr_iload 110 2), (110, tr_iald 111), (111, tr_aload 112 0), (112, tr_getR 115 13 1229), (115, tr_iload 116 2), (116, tr_iald 117), (117, tr_icge 120 274), (120, tr_aload 121 0), (121, tr_getR 124 13 1222), (124, tr_ic 127 200), (127, tr_iload 128 2)]
set_option maxRecDepth 20000 in
theorem tbk_X12_goOn_1 {D : DD} {d : Nat} {C : Nat → Sp} (hC : Snd D d C) : ∀ e ∈ tb_X12_goOn_1 C, TrOk D (d + 1) mi_X12_goOn e.1 e.2 :=
  tk_c (show TrOk D (d + 1) mi_X12_goOn 63 (tr_imul 64) from ok_imul (show decode mi_X12_goOn.2.1 63 = .ok (.imul, 1) from by decide +kernel)) <|
  tk_c (show TrOk D (d + 1) mi_X12_goOn 64 (tr_aload 65 0) from ok_aload_n (show decode mi_X12_goOn.2.1 64 = .ok (.aload_n 0, 1) from by decide +kernel) rfl) <|
  tk_c (show TrOk D (d + 1) mi_X12_goOn 65 (tr_getR 68 13 1234) from ok_getR (ci := 12) (k := 34) (show decode mi_X12_goOn.2.1 65 = .ok (.getfield 99, 3) from by decide +kernel) rfl (by decide) (gm 815 (by decide +kernel) rfl) rfl) <|
  tk_c (show TrOk D (d + 1) mi_X12_goOn 68 (tr_iload 69 2) from ok_iload_n (show decode mi_X12_goOn.2.1 68 = .ok (.iload_n 2, 1) from by decide +kernel) rfl) <|
  tk_c (show TrOk D (d + 1) mi_X12_goOn 69 (tr_iald 70) from ok_iald (show decode mi_X12_goOn.2.1 69 = .ok (.iaload, 1) from by decide +kernel)) <|
  tk_c (show TrOk D (d + 1) mi_X12_goOn 70 (tr_iadd 71) from ok_iadd (show decode mi_X12_goOn.2.1 70 = .ok (.iadd, 1) from by decide +kernel)) <|
  tk_c (show TrOk D (d + 1) mi_X12_goOn 71 (tr_istore 73 4) from ok_istore (show decode mi_X12_goOn.2.1 71 = .ok (.istore 4, 2) from by decide +kernel) (by decide)) <|
  tk_c (show TrOk D (d + 1) mi_X12_goOn 73 (tr_aload 74 0) from ok_aload_n (show decode mi_X12_goOn.2.1 73 = .ok (.aload_n 0, 1) from by decide +kernel) rfl) <|
  tk_c (show TrOk D (d + 1) mi_X12_goOn 74 (tr_getR 77 13 1234) from ok_getR (ci := 12) (k := 34) (show decode mi_X12_goOn.2.1 74 = .ok (.getfield 99, 3) from by decide +kernel) rfl (by decide) (gm 815 (by decide +kernel) rfl) rfl) <|
  tk_c (show TrOk D (d + 1) mi_X12_goOn 77 (tr_iload 78 2) from ok_iload_n (show decode mi_X12_goOn.2.1 77 = .ok (.iload_n 2, 1) from by decide +kernel) rfl) <|
  tk_c (show TrOk D (d + 1) mi_X12_goOn 78 (tr_dup2 79) from ok_dup2 (show decode mi_X12_goOn.2.1 78 = .ok (.dup2, 1) from by decide +kernel)) <|
  tk_c (show TrOk D (d + 1) mi_X12_goOn 79 (tr_iald 80) from ok_iald (show decode mi_X12_goOn.2.1 79 = .ok (.iaload, 1) from by decide +kernel)) <|
  tk_c (show TrOk D (d + 1) mi_X12_goOn 80 (tr_ic 81 1) from ok_iconst (show decode mi_X12_goOn.2.1 80 = .ok (.iconst 1, 1) from by decide +kernel) rfl) <|
  tk_c (show TrOk D (d + 1) mi_X12_goOn 81 (tr_iadd 82) from ok_iadd (show decode mi_X12_goOn.2.1 81 = .ok (.iadd, 1) from by decide +kernel)) <|
  tk_c (show TrOk D (d + 1) mi_X12_goOn 82 (tr_iast 83) from ok_iast (show decode mi_X12_goOn.2.1 82 = .ok (.iastore, 1) from by decide +kernel)) <|
  tk_c (show TrOk D (d + 1) mi_X12_goOn 83 (tr_aload 84 0) from ok_aload_n (show decode mi_X12_goOn.2.1 83 = .ok (.aload_n 0, 1) from by decide +kernel) rfl) <|
  tk_c (show TrOk D (d + 1) mi_X12_goOn 84 (tr_aload 85 0) from ok_aload_n (show decode mi_X12_goOn.2.1 84 = .ok (.aload_n 0, 1) from by decide +kernel) rfl) <|
  tk_c (show TrOk D (d + 1) mi_X12_goOn 85 (tr_getR 88 13 1215) from ok_getR (ci := 12) (k := 15) (show decode mi_X12_goOn.2.1 85 = .ok (.getfield 48, 3) from by decide +kernel) rfl (by decide) (gm 796 (by decide +kernel) rfl) rfl) <|
  tk_c (show TrOk D (d + 1) mi_X12_goOn 88 (tr_iload 90 4) from ok_iload (show decode mi_X12_goOn.2.1 88 = .ok (.iload 4, 2) from by decide +kernel)) <|
  tk_c (show TrOk D (d + 1) mi_X12_goOn 90 (tr_iald 91) from ok_iald (show decode mi_X12_goOn.2.1 90 = .ok (.iaload, 1) from by decide +kernel)) <|
  tk_c (show TrOk D (d + 1) mi_X12_goOn 91 (tr_aload 92 0) from ok_aload_n (show decode mi_X12_goOn.2.1 91 = .ok (.aload_n 0, 1) from by decide +kernel) rfl) <|
  tk_c (show TrOk D (d + 1) mi_X12_goOn 92 (tr_getR 95 13 1216) from ok_getR (ci := 12) (k := 16) (show decode mi_X12_goOn.2.1 92 = .ok (.getfield 51, 3) from by decide +kernel) rfl (by decide) (gm 797 (by decide +kernel) rfl) rfl) <|
  tk_c (show TrOk D (d + 1) mi_X12_goOn 95 (tr_iload 97 4) from ok_iload (show decode mi_X12_goOn.2.1 95 = .ok (.iload 4, 2) from by decide +kernel)) <|
  tk_c (show TrOk D (d + 1) mi_X12_goOn 97 (tr_iald 98) from ok_iald (show decode mi_X12_goOn.2.1 97 = .ok (.iaload, 1) from by decide +kernel)) <|
  tk_c (show TrOk D (d + 1) mi_X12_goOn 98 (tr_iload 99 1) from ok_iload_n (show decode mi_X12_goOn.2.1 98 = .ok (.iload_n 1, 1) from by decide +kernel) rfl) <|
  tk_c (show TrOk D (d + 1) mi_X12_goOn 99 (tr_callV (C 122) 102 13 3) from ok_callV (ci := 12) (show decode mi_X12_goOn.2.1 99 = .ok (.invokevirtual 252, 3) from by decide +kernel) mok_X12_does rfl rfl (gm 1049 (by decide +kernel) rfl) (gm 1051 (by decide +kernel) rfl) (gm 22 (by decide +kernel) rfl) (hC 122)) <|
  tk_c (show TrOk D (d + 1) mi_X12_goOn 102 (tr_goto 317) from ok_goto (show decode mi_X12_goOn.2.1 102 = .ok (.goto 215, 3) from by decide +kernel) (by decide)) <|
  tk_c (show TrOk D (d + 1) mi_X12_goOn 105 (tr_aload 106 0) from ok_aload_n (show decode mi_X12_goOn.2.1 105 = .ok (.aload_n 0, 1) from by decide +kernel) rfl) <|
  tk_c (show TrOk D (d + 1) mi_X12_goOn 106 (tr_getR 109 13 1230) from ok_getR (ci := 12) (k := 30) (show decode mi_X12_goOn.2.1 106 = .ok (.getfield 87, 3) from by decide +kernel) rfl (by decide) (gm 811 (by decide +kernel) rfl) rfl) <|
  tk_c (show TrOk D (d + 1) mi_X12_goOn 109 (tr_iload 110 2) from ok_iload_n (show decode mi_X12_goOn.2.1 109 = .ok (.iload_n 2, 1) from by decide +kernel) rfl) <|
  tk_c (show TrOk D (d + 1) mi_X12_goOn 110 (tr_iald 111) from ok_iald (show decode mi_X12_goOn.2.1 110 = .ok (.iaload, 1) from by decide +kernel)) <|
  tk_c (show TrOk D (d + 1) mi_X12_goOn 111 (tr_aload 112 0) from ok_aload_n (show decode mi_X12_goOn.2.1 111 = .ok (.aload_n 0, 1) from by decide +kernel) rfl) <|
  tk_c (show TrOk D (d + 1) mi_X12_goOn 112 (tr_getR 115 13 1229) from ok_getR (ci := 12) (k := 29) (show decode mi_X12_goOn.2.1 112 = .ok (.getfield 84, 3) from by decide +kernel) rfl (by decide) (gm 810 (by decide +kernel) rfl) rfl) <|
  tk_c (show TrOk D (d + 1) mi_X12_goOn 115 (tr_iload 116 2) from ok_iload_n (show decode mi_X12_goOn.2.1 115 = .ok (.iload_n 2, 1) from by decide +kernel) rfl) <|
  tk_c (show TrOk D (d + 1) mi_X12_goOn 116 (tr_iald 117) from ok_iald (show decode mi_X12_goOn.2.1 116 = .ok (.iaload, 1) from by decide +kernel)) <|
  tk_c (show TrOk D (d + 1) mi_X12_goOn 117 (tr_icge 120 274) from ok_icge (show decode mi_X12_goOn.2.1 117 = .ok (.if_icmp .ge 157, 3) from by decide +kernel) (by decide)) <|
  tk_c (show TrOk D (d + 1) mi_X12_goOn 120 (tr_aload 121 0) from ok_aload_n (show decode mi_X12_goOn.2.1 120 = .ok (.aload_n 0, 1) from by decide +kernel) rfl) <|
  tk_c (show TrOk D (d + 1) mi_X12_goOn 121 (tr_getR 124 13 1222) from ok_getR (ci := 12) (k := 22) (show decode mi_X12_goOn.2.1 121 = .ok (.getfield 69, 3) from by decide +kernel) rfl (by decide) (gm 803 (by decide +kernel) rfl) rfl) <|
  tk_c (show TrOk D (d + 1) mi_X12_goOn 124 (tr_ic 127 200) from ok_sipush (show decode mi_X12_goOn.2.1 124 = .ok (.sipush 200, 3) from by decide +kernel) rfl) <|
  tk_c (show TrOk D (d + 1) mi_X12_goOn 127 (tr_iload 128 2) from ok_iload_n (show decode mi_X12_goOn.2.1 127 = .ok (.iload_n 2, 1) from by decide +kernel) rfl) <|
  tk_n
def tb_X12_goOn_2 (C : Nat → Sp) : Tab := [(128, tr_imul 129), (129, tr_aload 130 0), (130, tr_getR 133 13 1230), (133, tr_iload 134 2), (134, tr_iald 135), (135, tr_iadd 136), (136, tr_iald 137), (137, tr_istore 138 3), (138, tr_aload 139 0), (139, tr_getR 142 13 1230), (142, tr_iload 143 2), (143, tr_dup2 144), (144, tr_iald 145), (145, tr_ic 146 1), (146, tr_iadd 147), (147, tr_iast 148), (148, tr_aload 149 0), (149, tr_getI 152 13 1243), (152, tr_ic 154 24), (154, tr_icge 157 271), (157, tr_aload 158 0), (158, tr_getR 161 13 1213), (161, tr_iload 162 3), (162, tr_bald 163), (163, tr_ifeq 166 271), (166, tr_aload 167 0), (167, tr_getR 170 13 1227), (170, tr_iload 171 2), (171, tr_lald 172), (172, tr_aload 173 0), (173, tr_getR 176 13 1210), (176, tr_iload 177 3), (177, tr_lald 178), (178, tr_lcmp 179), (179, tr_iflt 182 271), (182, tr_aload 183 0), (183, tr_getR 186 13 1227), (186, tr_iload 187 2), (187, tr_lald 188), (188, tr_aload 189 0)]
set_option maxRecDepth 20000 in
theorem tbk_X12_goOn_2 {D : DD} {d : Nat} {C : Nat → Sp} (hC : Snd D d C) : ∀ e ∈ tb_X12_goOn_2 C, TrOk D (d + 1) mi_X12_goOn e.1 e.2 :=
  tk_c (show TrOk D (d + 1) mi_X12_goOn 128 (tr_imul 129) from ok_imul (show decode mi_X12_goOn.2.1 128 = .ok (.imul, 1) from by decide +kernel)) <|
  tk_c (show TrOk D (d + 1) mi_X12_goOn 129 (tr_aload 130 0) from ok_aload_n (show decode mi_X12_goOn.2.1 129 = .ok (.aload_n 0, 1) from by decide +kernel) rfl) <|
  tk_c (show TrOk D (d + 1) mi_X12_goOn 130 (tr_getR 133 13 1230) from ok_getR (ci := 12) (k := 30) (show decode mi_X12_goOn.2.1 130 = .ok (.getfield 87, 3) from by decide +kernel) rfl (by decide) (gm 811 (by decide +kernel) rfl) rfl) <|
  tk_c (show TrOk D (d + 1) mi_X12_goOn 133 (tr_iload 134 2) from ok_iload_n (show decode mi_X12_goOn.2.1 133 = .ok (.iload_n 2, 1) from by decide +kernel) rfl) <|
  tk_c (show TrOk D (d + 1) mi_X12_goOn 134 (tr_iald 135) from ok_iald (show decode mi_X12_goOn.2.1 134 = .ok (.iaload, 1) from by decide +kernel)) <|
  tk_c (show TrOk D (d + 1) mi_X12_goOn 135 (tr_iadd 136) from ok_iadd (show decode mi_X12_goOn.2.1 135 = .ok (.iadd, 1) from by decide +kernel)) <|
  tk_c (show TrOk D (d + 1) mi_X12_goOn 136 (tr_iald 137) from ok_iald (show decode mi_X12_goOn.2.1 136 = .ok (.iaload, 1) from by decide +kernel)) <|
  tk_c (show TrOk D (d + 1) mi_X12_goOn 137 (tr_istore 138 3) from ok_istore_n (show decode mi_X12_goOn.2.1 137 = .ok (.istore_n 3, 1) from by decide +kernel) rfl (by decide)) <|
  tk_c (show TrOk D (d + 1) mi_X12_goOn 138 (tr_aload 139 0) from ok_aload_n (show decode mi_X12_goOn.2.1 138 = .ok (.aload_n 0, 1) from by decide +kernel) rfl) <|
  tk_c (show TrOk D (d + 1) mi_X12_goOn 139 (tr_getR 142 13 1230) from ok_getR (ci := 12) (k := 30) (show decode mi_X12_goOn.2.1 139 = .ok (.getfield 87, 3) from by decide +kernel) rfl (by decide) (gm 811 (by decide +kernel) rfl) rfl) <|
  tk_c (show TrOk D (d + 1) mi_X12_goOn 142 (tr_iload 143 2) from ok_iload_n (show decode mi_X12_goOn.2.1 142 = .ok (.iload_n 2, 1) from by decide +kernel) rfl) <|
  tk_c (show TrOk D (d + 1) mi_X12_goOn 143 (tr_dup2 144) from ok_dup2 (show decode mi_X12_goOn.2.1 143 = .ok (.dup2, 1) from by decide +kernel)) <|
  tk_c (show TrOk D (d + 1) mi_X12_goOn 144 (tr_iald 145) from ok_iald (show decode mi_X12_goOn.2.1 144 = .ok (.iaload, 1) from by decide +kernel)) <|
  tk_c (show TrOk D (d + 1) mi_X12_goOn 145 (tr_ic 146 1) from ok_iconst (show decode mi_X12_goOn.2.1 145 = .ok (.iconst 1, 1) from by decide +kernel) rfl) <|
  tk_c (show TrOk D (d + 1) mi_X12_goOn 146 (tr_iadd 147) from ok_iadd (show decode mi_X12_goOn.2.1 146 = .ok (.iadd, 1) from by decide +kernel)) <|
  tk_c (show TrOk D (d + 1) mi_X12_goOn 147 (tr_iast 148) from ok_iast (show decode mi_X12_goOn.2.1 147 = .ok (.iastore, 1) from by decide +kernel)) <|
  tk_c (show TrOk D (d + 1) mi_X12_goOn 148 (tr_aload 149 0) from ok_aload_n (show decode mi_X12_goOn.2.1 148 = .ok (.aload_n 0, 1) from by decide +kernel) rfl) <|
  tk_c (show TrOk D (d + 1) mi_X12_goOn 149 (tr_getI 152 13 1243) from ok_getI (ci := 12) (k := 43) (show decode mi_X12_goOn.2.1 149 = .ok (.getfield 214, 3) from by decide +kernel) rfl (by decide) (gm 824 (by decide +kernel) rfl) rfl) <|
  tk_c (show TrOk D (d + 1) mi_X12_goOn 152 (tr_ic 154 24) from ok_bipush (show decode mi_X12_goOn.2.1 152 = .ok (.bipush 24, 2) from by decide +kernel) rfl) <|
  tk_c (show TrOk D (d + 1) mi_X12_goOn 154 (tr_icge 157 271) from ok_icge (show decode mi_X12_goOn.2.1 154 = .ok (.if_icmp .ge 117, 3) from by decide +kernel) (by decide)) <|
  tk_c (show TrOk D (d + 1) mi_X12_goOn 157 (tr_aload 158 0) from ok_aload_n (show decode mi_X12_goOn.2.1 157 = .ok (.aload_n 0, 1) from by decide +kernel) rfl) <|
  tk_c (show TrOk D (d + 1) mi_X12_goOn 158 (tr_getR 161 13 1213) from ok_getR (ci := 12) (k := 13) (show decode mi_X12_goOn.2.1 158 = .ok (.getfield 42, 3) from by decide +kernel) rfl (by decide) (gm 794 (by decide +kernel) rfl) rfl) <|
  tk_c (show TrOk D (d + 1) mi_X12_goOn 161 (tr_iload 162 3) from ok_iload_n (show decode mi_X12_goOn.2.1 161 = .ok (.iload_n 3, 1) from by decide +kernel) rfl) <|
  tk_c (show TrOk D (d + 1) mi_X12_goOn 162 (tr_bald 163) from ok_bald (show decode mi_X12_goOn.2.1 162 = .ok (.baload, 1) from by decide +kernel)) <|
  tk_c (show TrOk D (d + 1) mi_X12_goOn 163 (tr_ifeq 166 271) from ok_ifeq (show decode mi_X12_goOn.2.1 163 = .ok (.ifCond .eq 108, 3) from by decide +kernel) (by decide)) <|
  tk_c (show TrOk D (d + 1) mi_X12_goOn 166 (tr_aload 167 0) from ok_aload_n (show decode mi_X12_goOn.2.1 166 = .ok (.aload_n 0, 1) from by decide +kernel) rfl) <|
  tk_c (show TrOk D (d + 1) mi_X12_goOn 167 (tr_getR 170 13 1227) from ok_getR (ci := 12) (k := 27) (show decode mi_X12_goOn.2.1 167 = .ok (.getfield 78, 3) from by decide +kernel) rfl (by decide) (gm 808 (by decide +kernel) rfl) rfl) <|
  tk_c (show TrOk D (d + 1) mi_X12_goOn 170 (tr_iload 171 2) from ok_iload_n (show decode mi_X12_goOn.2.1 170 = .ok (.iload_n 2, 1) from by decide +kernel) rfl) <|
  tk_c (show TrOk D (d + 1) mi_X12_goOn 171 (tr_lald 172) from ok_lald (show decode mi_X12_goOn.2.1 171 = .ok (.laload, 1) from by decide +kernel)) <|
  tk_c (show TrOk D (d + 1) mi_X12_goOn 172 (tr_aload 173 0) from ok_aload_n (show decode mi_X12_goOn.2.1 172 = .ok (.aload_n 0, 1) from by decide +kernel) rfl) <|
  tk_c (show TrOk D (d + 1) mi_X12_goOn 173 (tr_getR 176 13 1210) from ok_getR (ci := 12) (k := 10) (show decode mi_X12_goOn.2.1 173 = .ok (.getfield 33, 3) from by decide +kernel) rfl (by decide) (gm 791 (by decide +kernel) rfl) rfl) <|
  tk_c (show TrOk D (d + 1) mi_X12_goOn 176 (tr_iload 177 3) from ok_iload_n (show decode mi_X12_goOn.2.1 176 = .ok (.iload_n 3, 1) from by decide +kernel) rfl) <|
  tk_c (show TrOk D (d + 1) mi_X12_goOn 177 (tr_lald 178) from ok_lald (show decode mi_X12_goOn.2.1 177 = .ok (.laload, 1) from by decide +kernel)) <|
  tk_c (show TrOk D (d + 1) mi_X12_goOn 178 (tr_lcmp 179) from ok_lcmp (show decode mi_X12_goOn.2.1 178 = .ok (.lcmp, 1) from by decide +kernel)) <|
  tk_c (show TrOk D (d + 1) mi_X12_goOn 179 (tr_iflt 182 271) from ok_iflt (show decode mi_X12_goOn.2.1 179 = .ok (.ifCond .lt 92, 3) from by decide +kernel) (by decide)) <|
  tk_c (show TrOk D (d + 1) mi_X12_goOn 182 (tr_aload 183 0) from ok_aload_n (show decode mi_X12_goOn.2.1 182 = .ok (.aload_n 0, 1) from by decide +kernel) rfl) <|
  tk_c (show TrOk D (d + 1) mi_X12_goOn 183 (tr_getR 186 13 1227) from ok_getR (ci := 12) (k := 27) (show decode mi_X12_goOn.2.1 183 = .ok (.getfield 78, 3) from by decide +kernel) rfl (by decide) (gm 808 (by decide +kernel) rfl) rfl) <|
  tk_c (show TrOk D (d + 1) mi_X12_goOn 186 (tr_iload 187 2) from ok_iload_n (show decode mi_X12_goOn.2.1 186 = .ok (.iload_n 2, 1) from by decide +kernel) rfl) <|
  tk_c (show TrOk D (d + 1) mi_X12_goOn 187 (tr_lald 188) from ok_lald (show decode mi_X12_goOn.2.1 187 = .ok (.laload, 1) from by decide +kernel)) <|
  tk_c (show TrOk D (d + 1) mi_X12_goOn 188 (tr_aload 189 0) from ok_aload_n (show decode mi_X12_goOn.2.1 188 = .ok (.aload_n 0, 1) from by decide +kernel) rfl) <|
  tk_n
def tb_X12_goOn_3 (C : Nat → Sp) : Tab := [(189, tr_getR 192 13 1211), (192, tr_iload 193 3), (193, tr_lald 194), (194, tr_lcmp 195), (195, tr_ifgt 198 271), (198, tr_aload 199 0), (199, tr_getR 202 13 1213), (202, tr_iload 203 3), (203, tr_aload 204 0), (204, tr_getR 207 13 1212), (207, tr_iload 208 3), (208, tr_bald 209), (209, tr_ifne 212 216), (212, tr_ic 213 1), (213, tr_goto 217), (216, tr_ic 217 0), (217, tr_bast 218), (218, tr_aload 219 0), (219, tr_getR 222 13 1217), (222, tr_iload 223 3), (223, tr_dup2 224), (224, tr_iald 225), (225, tr_ic 226 1), (226, tr_iadd 227), (227, tr_iast 228), (228, tr_aload 229 0), (229, tr_dup 230), (230, tr_getI 233 13 1241), (233, tr_ic 234 1), (234, tr_iadd 235), (235, tr_putI 238 13 1241), (238, tr_aload 239 0), (239, tr_getR 242 13 1232), (242, tr_iload 243 2), (243, tr_ic 244 1), (244, tr_bast 245), (245, tr_aload 246 0), (246, tr_getR 249 13 1233), (249, tr_iload 250 2), (250, tr_iload 251 3)]
set_option maxRecDepth 20000 in
theorem tbk_X12_goOn_3 {D : DD} {d : Nat} {C : Nat → Sp} (hC : Snd D d C) : ∀ e ∈ tb_X12_goOn_3 C, TrOk D (d + 1) mi_X12_goOn e.1 e.2 :=
  tk_c (show TrOk D (d + 1) mi_X12_goOn 189 (tr_getR 192 13 1211) from ok_getR (ci := 12) (k := 11) (show decode mi_X12_goOn.2.1 189 = .ok (.getfield 36, 3) from by decide +kernel) rfl (by decide) (gm 792 (by decide +kernel) rfl) rfl) <|
  tk_c (show TrOk D (d + 1) mi_X12_goOn 192 (tr_iload 193 3) from ok_iload_n (show decode mi_X12_goOn.2.1 192 = .ok (.iload_n 3, 1) from by decide +kernel) rfl) <|
  tk_c (show TrOk D (d + 1) mi_X12_goOn 193 (tr_lald 194) from ok_lald (show decode mi_X12_goOn.2.1 193 = .ok (.laload, 1) from by decide +kernel)) <|
  tk_c (show TrOk D (d + 1) mi_X12_goOn 194 (tr_lcmp 195) from ok_lcmp (show decode mi_X12_goOn.2.1 194 = .ok (.lcmp, 1) from by decide +kernel)) <|
  tk_c (show TrOk D (d + 1) mi_X12_goOn 195 (tr_ifgt 198 271) from ok_ifgt (show decode mi_X12_goOn.2.1 195 = .ok (.ifCond .gt 76, 3) from by decide +kernel) (by decide)) <|
  tk_c (show TrOk D (d + 1) mi_X12_goOn 198 (tr_aload 199 0) from ok_aload_n (show decode mi_X12_goOn.2.1 198 = .ok (.aload_n 0, 1) from by decide +kernel) rfl) <|
  tk_c (show TrOk D (d + 1) mi_X12_goOn 199 (tr_getR 202 13 1213) from ok_getR (ci := 12) (k := 13) (show decode mi_X12_goOn.2.1 199 = .ok (.getfield 42, 3) from by decide +kernel) rfl (by decide) (gm 794 (by decide +kernel) rfl) rfl) <|
  tk_c (show TrOk D (d + 1) mi_X12_goOn 202 (tr_iload 203 3) from ok_iload_n (show decode mi_X12_goOn.2.1 202 = .ok (.iload_n 3, 1) from by decide +kernel) rfl) <|
  tk_c (show TrOk D (d + 1) mi_X12_goOn 203 (tr_aload 204 0) from ok_aload_n (show decode mi_X12_goOn.2.1 203 = .ok (.aload_n 0, 1) from by decide +kernel) rfl) <|
  tk_c (show TrOk D (d + 1) mi_X12_goOn 204 (tr_getR 207 13 1212) from ok_getR (ci := 12) (k := 12) (show decode mi_X12_goOn.2.1 204 = .ok (.getfield 39, 3) from by decide +kernel) rfl (by decide) (gm 793 (by decide +kernel) rfl) rfl) <|
  tk_c (show TrOk D (d + 1) mi_X12_goOn 207 (tr_iload 208 3) from ok_iload_n (show decode mi_X12_goOn.2.1 207 = .ok (.iload_n 3, 1) from by decide +kernel) rfl) <|
  tk_c (show TrOk D (d + 1) mi_X12_goOn 208 (tr_bald 209) from ok_bald (show decode mi_X12_goOn.2.1 208 = .ok (.baload, 1) from by decide +kernel)) <|
  tk_c (show TrOk D (d + 1) mi_X12_goOn 209 (tr_ifne 212 216) from ok_ifne (show decode mi_X12_goOn.2.1 209 = .ok (.ifCond .ne 7, 3) from by decide +kernel) (by decide)) <|
  tk_c (show TrOk D (d + 1) mi_X12_goOn 212 (tr_ic 213 1) from ok_iconst (show decode mi_X12_goOn.2.1 212 = .ok (.iconst 1, 1) from by decide +kernel) rfl) <|
  tk_c (show TrOk D (d + 1) mi_X12_goOn 213 (tr_goto 217) from ok_goto (show decode mi_X12_goOn.2.1 213 = .ok (.goto 4, 3) from by decide +kernel) (by decide)) <|
  tk_c (show TrOk D (d + 1) mi_X12_goOn 216 (tr_ic 217 0) from ok_iconst (show decode mi_X12_goOn.2.1 216 = .ok (.iconst 0, 1) from by decide +kernel) rfl) <|
  tk_c (show TrOk D (d + 1) mi_X12_goOn 217 (tr_bast 218) from ok_bast (show decode mi_X12_goOn.2.1 217 = .ok (.bastore, 1) from by decide +kernel)) <|
  tk_c (show TrOk D (d + 1) mi_X12_goOn 218 (tr_aload 219 0) from ok_aload_n (show decode mi_X12_goOn.2.1 218 = .ok (.aload_n 0, 1) from by decide +kernel) rfl) <|
  tk_c (show TrOk D (d + 1) mi_X12_goOn 219 (tr_getR 222 13 1217) from ok_getR (ci := 12) (k := 17) (show decode mi_X12_goOn.2.1 219 = .ok (.getfield 54, 3) from by decide +kernel) rfl (by decide) (gm 798 (by decide +kernel) rfl) rfl) <|
  tk_c (show TrOk D (d + 1) mi_X12_goOn 222 (tr_iload 223 3) from ok_iload_n (show decode mi_X12_goOn.2.1 222 = .ok (.iload_n 3, 1) from by decide +kernel) rfl) <|
  tk_c (show TrOk D (d + 1) mi_X12_goOn 223 (tr_dup2 224) from ok_dup2 (show decode mi_X12_goOn.2.1 223 = .ok (.dup2, 1) from by decide +kernel)) <|
  tk_c (show TrOk D (d + 1) mi_X12_goOn 224 (tr_iald 225) from ok_iald (show decode mi_X12_goOn.2.1 224 = .ok (.iaload, 1) from by decide +kernel)) <|
  tk_c (show TrOk D (d + 1) mi_X12_goOn 225 (tr_ic 226 1) from ok_iconst (show decode mi_X12_goOn.2.1 225 = .ok (.iconst 1, 1) from by decide +kernel) rfl) <|
  tk_c (show TrOk D (d + 1) mi_X12_goOn 226 (tr_iadd 227) from ok_iadd (show decode mi_X12_goOn.2.1 226 = .ok (.iadd, 1) from by decide +kernel)) <|
  tk_c (show TrOk D (d + 1) mi_X12_goOn 227 (tr_iast 228) from ok_iast (show decode mi_X12_goOn.2.1 227 = .ok (.iastore, 1) from by decide +kernel)) <|
  tk_c (show TrOk D (d + 1) mi_X12_goOn 228 (tr_aload 229 0) from ok_aload_n (show decode mi_X12_goOn.2.1 228 = .ok (.aload_n 0, 1) from by decide +kernel) rfl) <|
  tk_c (show TrOk D (d + 1) mi_X12_goOn 229 (tr_dup 230) from ok_dup (show decode mi_X12_goOn.2.1 229 = .ok (.dup, 1) from by decide +kernel)) <|
  tk_c (show TrOk D (d + 1) mi_X12_goOn 230 (tr_getI 233 13 1241) from ok_getI (ci := 12) (k := 41) (show decode mi_X12_goOn.2.1 230 = .ok (.getfield 256, 3) from by decide +kernel) rfl (by decide) (gm 822 (by decide +kernel) rfl) rfl) <|
  tk_c (show TrOk D (d + 1) mi_X12_goOn 233 (tr_ic 234 1) from ok_iconst (show decode mi_X12_goOn.2.1 233 = .ok (.iconst 1, 1) from by decide +kernel) rfl) <|
  tk_c (show TrOk D (d + 1) mi_X12_goOn 234 (tr_iadd 235) from ok_iadd (show decode mi_X12_goOn.2.1 234 = .ok (.iadd, 1) from by decide +kernel)) <|
  tk_c (show TrOk D (d + 1) mi_X12_goOn 235 (tr_putI 238 13 1241) from ok_putI (ci := 12) (k := 41) (show decode mi_X12_goOn.2.1 235 = .ok (.putfield 256, 3) from by decide +kernel) rfl (by decide) (gm 822 (by decide +kernel) rfl) rfl (Or.inl rfl)) <|
  tk_c (show TrOk D (d + 1) mi_X12_goOn 238 (tr_aload 239 0) from ok_aload_n (show decode mi_X12_goOn.2.1 238 = .ok (.aload_n 0, 1) from by decide +kernel) rfl) <|
  tk_c (show TrOk D (d + 1) mi_X12_goOn 239 (tr_getR 242 13 1232) from ok_getR (ci := 12) (k := 32) (show decode mi_X12_goOn.2.1 239 = .ok (.getfield 93, 3) from by decide +kernel) rfl (by decide) (gm 813 (by decide +kernel) rfl) rfl) <|
  tk_c (show TrOk D (d + 1) mi_X12_goOn 242 (tr_iload 243 2) from ok_iload_n (show decode mi_X12_goOn.2.1 242 = .ok (.iload_n 2, 1) from by decide +kernel) rfl) <|
  tk_c (show TrOk D (d + 1) mi_X12_goOn 243 (tr_ic 244 1) from ok_iconst (show decode mi_X12_goOn.2.1 243 = .ok (.iconst 1, 1) from by decide +kernel) rfl) <|
  tk_c (show TrOk D (d + 1) mi_X12_goOn 244 (tr_bast 245) from ok_bast (show decode mi_X12_goOn.2.1 244 = .ok (.bastore, 1) from by decide +kernel)) <|
  tk_c (show TrOk D (d + 1) mi_X12_goOn 245 (tr_aload 246 0) from ok_aload_n (show decode mi_X12_goOn.2.1 245 = .ok (.aload_n 0, 1) from by decide +kernel) rfl) <|
  tk_c (show TrOk D (d + 1) mi_X12_goOn 246 (tr_getR 249 13 1233) from ok_getR (ci := 12) (k := 33) (show decode mi_X12_goOn.2.1 246 = .ok (.getfield 96, 3) from by decide +kernel) rfl (by decide) (gm 814 (by decide +kernel) rfl) rfl) <|
  tk_c (show TrOk D (d + 1) mi_X12_goOn 249 (tr_iload 250 2) from ok_iload_n (show decode mi_X12_goOn.2.1 249 = .ok (.iload_n 2, 1) from by decide +kernel) rfl) <|
  tk_c (show TrOk D (d + 1) mi_X12_goOn 250 (tr_iload 251 3) from ok_iload_n (show decode mi_X12_goOn.2.1 250 = .ok (.iload_n 3, 1) from by decide +kernel) rfl) <|
  tk_n
def tb_X12_goOn_4 (C : Nat → Sp) : Tab := [(251, tr_iast 252), (252, tr_aload 253 0), (253, tr_getR 256 13 1234), (256, tr_iload 257 2), (257, tr_ic 258 0), (258, tr_iast 259), (259, tr_aload 260 0), (260, tr_getR 263 13 1235), (263, tr_iload 264 2), (264, tr_aload 265 0), (265, tr_getR 268 13 1227), (268, tr_iload 269 2), (269, tr_lald 270), (270, tr_last 271), (271, tr_goto 317), (274, tr_aload 275 0), (275, tr_getR 278 13 1228), (278, tr_iload 279 2), (279, tr_iald 280), (280, tr_ic 281 2), (281, tr_icne 284 292), (284, tr_aload 285 0), (285, tr_iload 286 1), (286, tr_callV (C 119) 289 13 1), (289, tr_goto 317), (292, tr_aload 293 0), (293, tr_getR 296 13 1228), (296, tr_iload 297 2), (297, tr_iald 298), (298, tr_ifne 301 305), (301, tr_aload 302 0), (302, tr_callV (C 118) 305 13 0), (305, tr_aload 306 0), (306, tr_aload 307 0), (307, tr_getR 310 13 1228), (310, tr_iload 311 2), (311, tr_iald 312), (312, tr_ic 313 1), (313, tr_iadd 314), (314, tr_callV (C 116) 317 13 1)]
set_option maxRecDepth 20000 in
theorem tbk_X12_goOn_4 {D : DD} {d : Nat} {C : Nat → Sp} (hC : Snd D d C) : ∀ e ∈ tb_X12_goOn_4 C, TrOk D (d + 1) mi_X12_goOn e.1 e.2 :=
  tk_c (show TrOk D (d + 1) mi_X12_goOn 251 (tr_iast 252) from ok_iast (show decode mi_X12_goOn.2.1 251 = .ok (.iastore, 1) from by decide +kernel)) <|
  tk_c (show TrOk D (d + 1) mi_X12_goOn 252 (tr_aload 253 0) from ok_aload_n (show decode mi_X12_goOn.2.1 252 = .ok (.aload_n 0, 1) from by decide +kernel) rfl) <|
  tk_c (show TrOk D (d + 1) mi_X12_goOn 253 (tr_getR 256 13 1234) from ok_getR (ci := 12) (k := 34) (show decode mi_X12_goOn.2.1 253 = .ok (.getfield 99, 3) from by decide +kernel) rfl (by decide) (gm 815 (by decide +kernel) rfl) rfl) <|
  tk_c (show TrOk D (d + 1) mi_X12_goOn 256 (tr_iload 257 2) from ok_iload_n (show decode mi_X12_goOn.2.1 256 = .ok (.iload_n 2, 1) from by decide +kernel) rfl) <|
  tk_c (show TrOk D (d + 1) mi_X12_goOn 257 (tr_ic 258 0) from ok_iconst (show decode mi_X12_goOn.2.1 257 = .ok (.iconst 0, 1) from by decide +kernel) rfl) <|
  tk_c (show TrOk D (d + 1) mi_X12_goOn 258 (tr_iast 259) from ok_iast (show decode mi_X12_goOn.2.1 258 = .ok (.iastore, 1) from by decide +kernel)) <|
  tk_c (show TrOk D (d + 1) mi_X12_goOn 259 (tr_aload 260 0) from ok_aload_n (show decode mi_X12_goOn.2.1 259 = .ok (.aload_n 0, 1) from by decide +kernel) rfl) <|
  tk_c (show TrOk D (d + 1) mi_X12_goOn 260 (tr_getR 263 13 1235) from ok_getR (ci := 12) (k := 35) (show decode mi_X12_goOn.2.1 260 = .ok (.getfield 102, 3) from by decide +kernel) rfl (by decide) (gm 816 (by decide +kernel) rfl) rfl) <|
  tk_c (show TrOk D (d + 1) mi_X12_goOn 263 (tr_iload 264 2) from ok_iload_n (show decode mi_X12_goOn.2.1 263 = .ok (.iload_n 2, 1) from by decide +kernel) rfl) <|
  tk_c (show TrOk D (d + 1) mi_X12_goOn 264 (tr_aload 265 0) from ok_aload_n (show decode mi_X12_goOn.2.1 264 = .ok (.aload_n 0, 1) from by decide +kernel) rfl) <|
  tk_c (show TrOk D (d + 1) mi_X12_goOn 265 (tr_getR 268 13 1227) from ok_getR (ci := 12) (k := 27) (show decode mi_X12_goOn.2.1 265 = .ok (.getfield 78, 3) from by decide +kernel) rfl (by decide) (gm 808 (by decide +kernel) rfl) rfl) <|
  tk_c (show TrOk D (d + 1) mi_X12_goOn 268 (tr_iload 269 2) from ok_iload_n (show decode mi_X12_goOn.2.1 268 = .ok (.iload_n 2, 1) from by decide +kernel) rfl) <|
  tk_c (show TrOk D (d + 1) mi_X12_goOn 269 (tr_lald 270) from ok_lald (show decode mi_X12_goOn.2.1 269 = .ok (.laload, 1) from by decide +kernel)) <|
  tk_c (show TrOk D (d + 1) mi_X12_goOn 270 (tr_last 271) from ok_last (show decode mi_X12_goOn.2.1 270 = .ok (.lastore, 1) from by decide +kernel)) <|
  tk_c (show TrOk D (d + 1) mi_X12_goOn 271 (tr_goto 317) from ok_goto (show decode mi_X12_goOn.2.1 271 = .ok (.goto 46, 3) from by decide +kernel) (by decide)) <|
  tk_c (show TrOk D (d + 1) mi_X12_goOn 274 (tr_aload 275 0) from ok_aload_n (show decode mi_X12_goOn.2.1 274 = .ok (.aload_n 0, 1) from by decide +kernel) rfl) <|
  tk_c (show TrOk D (d + 1) mi_X12_goOn 275 (tr_getR 278 13 1228) from ok_getR (ci := 12) (k := 28) (show decode mi_X12_goOn.2.1 275 = .ok (.getfield 81, 3) from by decide +kernel) rfl (by decide) (gm 809 (by decide +kernel) rfl) rfl) <|
  tk_c (show TrOk D (d + 1) mi_X12_goOn 278 (tr_iload 279 2) from ok_iload_n (show decode mi_X12_goOn.2.1 278 = .ok (.iload_n 2, 1) from by decide +kernel) rfl) <|
  tk_c (show TrOk D (d + 1) mi_X12_goOn 279 (tr_iald 280) from ok_iald (show decode mi_X12_goOn.2.1 279 = .ok (.iaload, 1) from by decide +kernel)) <|
  tk_c (show TrOk D (d + 1) mi_X12_goOn 280 (tr_ic 281 2) from ok_iconst (show decode mi_X12_goOn.2.1 280 = .ok (.iconst 2, 1) from by decide +kernel) rfl) <|
  tk_c (show TrOk D (d + 1) mi_X12_goOn 281 (tr_icne 284 292) from ok_icne (show decode mi_X12_goOn.2.1 281 = .ok (.if_icmp .ne 11, 3) from by decide +kernel) (by decide)) <|
  tk_c (show TrOk D (d + 1) mi_X12_goOn 284 (tr_aload 285 0) from ok_aload_n (show decode mi_X12_goOn.2.1 284 = .ok (.aload_n 0, 1) from by decide +kernel) rfl) <|
  tk_c (show TrOk D (d + 1) mi_X12_goOn 285 (tr_iload 286 1) from ok_iload_n (show decode mi_X12_goOn.2.1 285 = .ok (.iload_n 1, 1) from by decide +kernel) rfl) <|
  tk_c (show TrOk D (d + 1) mi_X12_goOn 286 (tr_callV (C 119) 289 13 1) from ok_callV (ci := 12) (show decode mi_X12_goOn.2.1 286 = .ok (.invokevirtual 220, 3) from by decide +kernel) mok_X12_ends rfl rfl (gm 1053 (by decide +kernel) rfl) (gm 1055 (by decide +kernel) rfl) (gm 23 (by decide +kernel) rfl) (hC 119)) <|
  tk_c (show TrOk D (d + 1) mi_X12_goOn 289 (tr_goto 317) from ok_goto (show decode mi_X12_goOn.2.1 289 = .ok (.goto 28, 3) from by decide +kernel) (by decide)) <|
  tk_c (show TrOk D (d + 1) mi_X12_goOn 292 (tr_aload 293 0) from ok_aload_n (show decode mi_X12_goOn.2.1 292 = .ok (.aload_n 0, 1) from by decide +kernel) rfl) <|
  tk_c (show TrOk D (d + 1) mi_X12_goOn 293 (tr_getR 296 13 1228) from ok_getR (ci := 12) (k := 28) (show decode mi_X12_goOn.2.1 293 = .ok (.getfield 81, 3) from by decide +kernel) rfl (by decide) (gm 809 (by decide +kernel) rfl) rfl) <|
  tk_c (show TrOk D (d + 1) mi_X12_goOn 296 (tr_iload 297 2) from ok_iload_n (show decode mi_X12_goOn.2.1 296 = .ok (.iload_n 2, 1) from by decide +kernel) rfl) <|
  tk_c (show TrOk D (d + 1) mi_X12_goOn 297 (tr_iald 298) from ok_iald (show decode mi_X12_goOn.2.1 297 = .ok (.iaload, 1) from by decide +kernel)) <|
  tk_c (show TrOk D (d + 1) mi_X12_goOn 298 (tr_ifne 301 305) from ok_ifne (show decode mi_X12_goOn.2.1 298 = .ok (.ifCond .ne 7, 3) from by decide +kernel) (by decide)) <|
  tk_c (show TrOk D (d + 1) mi_X12_goOn 301 (tr_aload 302 0) from ok_aload_n (show decode mi_X12_goOn.2.1 301 = .ok (.aload_n 0, 1) from by decide +kernel) rfl) <|
  tk_c (show TrOk D (d + 1) mi_X12_goOn 302 (tr_callV (C 118) 305 13 0) from ok_callV (ci := 12) (show decode mi_X12_goOn.2.1 302 = .ok (.invokevirtual 259, 3) from by decide +kernel) mok_X12_act rfl rfl (gm 1074 (by decide +kernel) rfl) (gm 1076 (by decide +kernel) rfl) (gm 28 (by decide +kernel) rfl) (hC 118)) <|
  tk_c (show TrOk D (d + 1) mi_X12_goOn 305 (tr_aload 306 0) from ok_aload_n (show decode mi_X12_goOn.2.1 305 = .ok (.aload_n 0, 1) from by decide +kernel) rfl) <|
  tk_c (show TrOk D (d + 1) mi_X12_goOn 306 (tr_aload 307 0) from ok_aload_n (show decode mi_X12_goOn.2.1 306 = .ok (.aload_n 0, 1) from by decide +kernel) rfl) <|
  tk_c (show TrOk D (d + 1) mi_X12_goOn 307 (tr_getR 310 13 1228) from ok_getR (ci := 12) (k := 28) (show decode mi_X12_goOn.2.1 307 = .ok (.getfield 81, 3) from by decide +kernel) rfl (by decide) (gm 809 (by decide +kernel) rfl) rfl) <|
  tk_c (show TrOk D (d + 1) mi_X12_goOn 310 (tr_iload 311 2) from ok_iload_n (show decode mi_X12_goOn.2.1 310 = .ok (.iload_n 2, 1) from by decide +kernel) rfl) <|
  tk_c (show TrOk D (d + 1) mi_X12_goOn 311 (tr_iald 312) from ok_iald (show decode mi_X12_goOn.2.1 311 = .ok (.iaload, 1) from by decide +kernel)) <|
  tk_c (show TrOk D (d + 1) mi_X12_goOn 312 (tr_ic 313 1) from ok_iconst (show decode mi_X12_goOn.2.1 312 = .ok (.iconst 1, 1) from by decide +kernel) rfl) <|
  tk_c (show TrOk D (d + 1) mi_X12_goOn 313 (tr_iadd 314) from ok_iadd (show decode mi_X12_goOn.2.1 313 = .ok (.iadd, 1) from by decide +kernel)) <|
  tk_c (show TrOk D (d + 1) mi_X12_goOn 314 (tr_callV (C 116) 317 13 1) from ok_callV (ci := 12) (show decode mi_X12_goOn.2.1 314 = .ok (.invokevirtual 199, 3) from by decide +kernel) mok_X12_beginPhase rfl rfl (gm 1029 (by decide +kernel) rfl) (gm 1031 (by decide +kernel) rfl) (gm 17 (by decide +kernel) rfl) (hC 116)) <|
  tk_n
def tb_X12_goOn_5 (C : Nat → Sp) : Tab := [(317, tr_ret)]
set_option maxRecDepth 20000 in
theorem tbk_X12_goOn_5 {D : DD} {d : Nat} {C : Nat → Sp} (hC : Snd D d C) : ∀ e ∈ tb_X12_goOn_5 C, TrOk D (d + 1) mi_X12_goOn e.1 e.2 :=
  tk_c (show TrOk D (d + 1) mi_X12_goOn 317 (tr_ret) from ok_ret (show decode mi_X12_goOn.2.1 317 = .ok (.return_, 1) from by decide +kernel) rfl) <|
  tk_n
def tb_X12_goOn (C : Nat → Sp) : Tab := tb_X12_goOn_0 C ++ (tb_X12_goOn_1 C ++ (tb_X12_goOn_2 C ++ (tb_X12_goOn_3 C ++ (tb_X12_goOn_4 C ++ (tb_X12_goOn_5 C)))))
theorem tbk_X12_goOn {D : DD} {d : Nat} {C : Nat → Sp} (hC : Snd D d C) : ∀ e ∈ tb_X12_goOn C, TrOk D (d + 1) mi_X12_goOn e.1 e.2 := tk_a (tbk_X12_goOn_0 hC) (tk_a (tbk_X12_goOn_1 hC) (tk_a (tbk_X12_goOn_2 hC) (tk_a (tbk_X12_goOn_3 hC) (tk_a (tbk_X12_goOn_4 hC) (tbk_X12_goOn_5 hC)))))
theorem a_X12_goOn_0 (C : Nat → Sp) : ta (tb_X12_goOn C) 0 = tr_aload 1 0 := rfl
theorem a_X12_goOn_1 (C : Nat → Sp) : ta (tb_X12_goOn C) 1 = tr_getI 4 13 1225 := rfl
theorem a_X12_goOn_4 (C : Nat → Sp) : ta (tb_X12_goOn C) 4 = tr_ic 5 1 := rfl
theorem a_X12_goOn_5 (C : Nat → Sp) : ta (tb_X12_goOn C) 5 = tr_isub 6 := rfl
theorem a_X12_goOn_6 (C : Nat → Sp) : ta (tb_X12_goOn C) 6 = tr_istore 7 2 := rfl
theorem a_X12_goOn_7 (C : Nat → Sp) : ta (tb_X12_goOn C) 7 = tr_aload 8 0 := rfl
theorem a_X12_goOn_8 (C : Nat → Sp) : ta (tb_X12_goOn C) 8 = tr_getR 11 13 1232 := rfl
theorem a_X12_goOn_11 (C : Nat → Sp) : ta (tb_X12_goOn C) 11 = tr_iload 12 2 := rfl
theorem a_X12_goOn_12 (C : Nat → Sp) : ta (tb_X12_goOn C) 12 = tr_bald 13 := rfl
theorem a_X12_goOn_13 (C : Nat → Sp) : ta (tb_X12_goOn C) 13 = tr_ifeq 16 105 := rfl
theorem a_X12_goOn_16 (C : Nat → Sp) : ta (tb_X12_goOn C) 16 = tr_aload 17 0 := rfl
theorem a_X12_goOn_17 (C : Nat → Sp) : ta (tb_X12_goOn C) 17 = tr_getR 20 13 1233 := rfl
theorem a_X12_goOn_20 (C : Nat → Sp) : ta (tb_X12_goOn C) 20 = tr_iload 21 2 := rfl
theorem a_X12_goOn_21 (C : Nat → Sp) : ta (tb_X12_goOn C) 21 = tr_iald 22 := rfl
theorem a_X12_goOn_22 (C : Nat → Sp) : ta (tb_X12_goOn C) 22 = tr_istore 23 3 := rfl
theorem a_X12_goOn_23 (C : Nat → Sp) : ta (tb_X12_goOn C) 23 = tr_aload 24 0 := rfl
theorem a_X12_goOn_24 (C : Nat → Sp) : ta (tb_X12_goOn C) 24 = tr_getR 27 13 1234 := rfl
theorem a_X12_goOn_27 (C : Nat → Sp) : ta (tb_X12_goOn C) 27 = tr_iload 28 2 := rfl
theorem a_X12_goOn_28 (C : Nat → Sp) : ta (tb_X12_goOn C) 28 = tr_iald 29 := rfl
theorem a_X12_goOn_29 (C : Nat → Sp) : ta (tb_X12_goOn C) 29 = tr_aload 30 0 := rfl
theorem a_X12_goOn_30 (C : Nat → Sp) : ta (tb_X12_goOn C) 30 = tr_getR 33 13 1214 := rfl
theorem a_X12_goOn_33 (C : Nat → Sp) : ta (tb_X12_goOn C) 33 = tr_iload 34 3 := rfl
theorem a_X12_goOn_34 (C : Nat → Sp) : ta (tb_X12_goOn C) 34 = tr_iald 35 := rfl
theorem a_X12_goOn_35 (C : Nat → Sp) : ta (tb_X12_goOn C) 35 = tr_iclt 38 60 := rfl
theorem a_X12_goOn_38 (C : Nat → Sp) : ta (tb_X12_goOn C) 38 = tr_aload 39 0 := rfl
theorem a_X12_goOn_39 (C : Nat → Sp) : ta (tb_X12_goOn C) 39 = tr_getR 42 13 1227 := rfl
theorem a_X12_goOn_42 (C : Nat → Sp) : ta (tb_X12_goOn C) 42 = tr_iload 43 2 := rfl
theorem a_X12_goOn_43 (C : Nat → Sp) : ta (tb_X12_goOn C) 43 = tr_aload 44 0 := rfl
theorem a_X12_goOn_44 (C : Nat → Sp) : ta (tb_X12_goOn C) 44 = tr_getR 47 13 1235 := rfl
theorem a_X12_goOn_47 (C : Nat → Sp) : ta (tb_X12_goOn C) 47 = tr_iload 48 2 := rfl
theorem a_X12_goOn_48 (C : Nat → Sp) : ta (tb_X12_goOn C) 48 = tr_lald 49 := rfl
theorem a_X12_goOn_49 (C : Nat → Sp) : ta (tb_X12_goOn C) 49 = tr_last 50 := rfl
theorem a_X12_goOn_50 (C : Nat → Sp) : ta (tb_X12_goOn C) 50 = tr_aload 51 0 := rfl
theorem a_X12_goOn_51 (C : Nat → Sp) : ta (tb_X12_goOn C) 51 = tr_getR 54 13 1232 := rfl
theorem a_X12_goOn_54 (C : Nat → Sp) : ta (tb_X12_goOn C) 54 = tr_iload 55 2 := rfl
theorem a_X12_goOn_55 (C : Nat → Sp) : ta (tb_X12_goOn C) 55 = tr_ic 56 0 := rfl
theorem a_X12_goOn_56 (C : Nat → Sp) : ta (tb_X12_goOn C) 56 = tr_bast 57 := rfl
theorem a_X12_goOn_57 (C : Nat → Sp) : ta (tb_X12_goOn C) 57 = tr_goto 102 := rfl
theorem a_X12_goOn_60 (C : Nat → Sp) : ta (tb_X12_goOn C) 60 = tr_ic 62 10 := rfl
theorem a_X12_goOn_62 (C : Nat → Sp) : ta (tb_X12_goOn C) 62 = tr_iload 63 3 := rfl
theorem a_X12_goOn_63 (C : Nat → Sp) : ta (tb_X12_goOn C) 63 = tr_imul 64 := rfl
theorem a_X12_goOn_64 (C : Nat → Sp) : ta (tb_X12_goOn C) 64 = tr_aload 65 0 := rfl
theorem a_X12_goOn_65 (C : Nat → Sp) : ta (tb_X12_goOn C) 65 = tr_getR 68 13 1234 := rfl
theorem a_X12_goOn_68 (C : Nat → Sp) : ta (tb_X12_goOn C) 68 = tr_iload 69 2 := rfl
theorem a_X12_goOn_69 (C : Nat → Sp) : ta (tb_X12_goOn C) 69 = tr_iald 70 := rfl
theorem a_X12_goOn_70 (C : Nat → Sp) : ta (tb_X12_goOn C) 70 = tr_iadd 71 := rfl
theorem a_X12_goOn_71 (C : Nat → Sp) : ta (tb_X12_goOn C) 71 = tr_istore 73 4 := rfl
theorem a_X12_goOn_73 (C : Nat → Sp) : ta (tb_X12_goOn C) 73 = tr_aload 74 0 := rfl
theorem a_X12_goOn_74 (C : Nat → Sp) : ta (tb_X12_goOn C) 74 = tr_getR 77 13 1234 := rfl
theorem a_X12_goOn_77 (C : Nat → Sp) : ta (tb_X12_goOn C) 77 = tr_iload 78 2 := rfl
theorem a_X12_goOn_78 (C : Nat → Sp) : ta (tb_X12_goOn C) 78 = tr_dup2 79 := rfl
theorem a_X12_goOn_79 (C : Nat → Sp) : ta (tb_X12_goOn C) 79 = tr_iald 80 := rfl
theorem a_X12_goOn_80 (C : Nat → Sp) : ta (tb_X12_goOn C) 80 = tr_ic 81 1 := rfl
theorem a_X12_goOn_81 (C : Nat → Sp) : ta (tb_X12_goOn C) 81 = tr_iadd 82 := rfl
theorem a_X12_goOn_82 (C : Nat → Sp) : ta (tb_X12_goOn C) 82 = tr_iast 83 := rfl
theorem a_X12_goOn_83 (C : Nat → Sp) : ta (tb_X12_goOn C) 83 = tr_aload 84 0 := rfl
theorem a_X12_goOn_84 (C : Nat → Sp) : ta (tb_X12_goOn C) 84 = tr_aload 85 0 := rfl
theorem a_X12_goOn_85 (C : Nat → Sp) : ta (tb_X12_goOn C) 85 = tr_getR 88 13 1215 := rfl
theorem a_X12_goOn_88 (C : Nat → Sp) : ta (tb_X12_goOn C) 88 = tr_iload 90 4 := rfl
theorem a_X12_goOn_90 (C : Nat → Sp) : ta (tb_X12_goOn C) 90 = tr_iald 91 := rfl
set_option maxRecDepth 20000 in
theorem a_X12_goOn_91 (C : Nat → Sp) : ta (tb_X12_goOn C) 91 = tr_aload 92 0 := rfl
set_option maxRecDepth 20000 in
theorem a_X12_goOn_92 (C : Nat → Sp) : ta (tb_X12_goOn C) 92 = tr_getR 95 13 1216 := rfl
set_option maxRecDepth 20000 in
theorem a_X12_goOn_95 (C : Nat → Sp) : ta (tb_X12_goOn C) 95 = tr_iload 97 4 := rfl
set_option maxRecDepth 20000 in
theorem a_X12_goOn_97 (C : Nat → Sp) : ta (tb_X12_goOn C) 97 = tr_iald 98 := rfl
set_option maxRecDepth 20000 in
theorem a_X12_goOn_98 (C : Nat → Sp) : ta (tb_X12_goOn C) 98 = tr_iload 99 1 := rfl
set_option maxRecDepth 20000 in
theorem a_X12_goOn_99 (C : Nat → Sp) : ta (tb_X12_goOn C) 99 = tr_callV (C 122) 102 13 3 := rfl
set_option maxRecDepth 20000 in
theorem a_X12_goOn_102 (C : Nat → Sp) : ta (tb_X12_goOn C) 102 = tr_goto 317 := rfl
set_option maxRecDepth 20000 in
theorem a_X12_goOn_105 (C : Nat → Sp) : ta (tb_X12_goOn C) 105 = tr_aload 106 0 := rfl
set_option maxRecDepth 20000 in
theorem a_X12_goOn_106 (C : Nat → Sp) : ta (tb_X12_goOn C) 106 = tr_getR 109 13 1230 := rfl
set_option maxRecDepth 20000 in
theorem a_X12_goOn_109 (C : Nat → Sp) : ta (tb_X12_goOn C) 109 = tr_iload 110 2 := rfl
set_option maxRecDepth 20000 in
theorem a_X12_goOn_110 (C : Nat → Sp) : ta (tb_X12_goOn C) 110 = tr_iald 111 := rfl
set_option maxRecDepth 20000 in
theorem a_X12_goOn_111 (C : Nat → Sp) : ta (tb_X12_goOn C) 111 = tr_aload 112 0 := rfl
set_option maxRecDepth 20000 in
theorem a_X12_goOn_112 (C : Nat → Sp) : ta (tb_X12_goOn C) 112 = tr_getR 115 13 1229 := rfl
set_option maxRecDepth 20000 in
theorem a_X12_goOn_115 (C : Nat → Sp) : ta (tb_X12_goOn C) 115 = tr_iload 116 2 := rfl
set_option maxRecDepth 20000 in
theorem a_X12_goOn_116 (C : Nat → Sp) : ta (tb_X12_goOn C) 116 = tr_iald 117 := rfl
set_option maxRecDepth 20000 in
theorem a_X12_goOn_117 (C : Nat → Sp) : ta (tb_X12_goOn C) 117 = tr_icge 120 274 := rfl
set_option maxRecDepth 20000 in
theorem a_X12_goOn_120 (C : Nat → Sp) : ta (tb_X12_goOn C) 120 = tr_aload 121 0 := rfl
set_option maxRecDepth 20000 in
theorem a_X12_goOn_121 (C : Nat → Sp) : ta (tb_X12_goOn C) 121 = tr_getR 124 13 1222 := rfl
set_option maxRecDepth 20000 in
theorem a_X12_goOn_124 (C : Nat → Sp) : ta (tb_X12_goOn C) 124 = tr_ic 127 200 := rfl
set_option maxRecDepth 20000 in
theorem a_X12_goOn_127 (C : Nat → Sp) : ta (tb_X12_goOn C) 127 = tr_iload 128 2 := rfl
set_option maxRecDepth 20000 in
theorem a_X12_goOn_128 (C : Nat → Sp) : ta (tb_X12_goOn C) 128 = tr_imul 129 := rfl
set_option maxRecDepth 20000 in
theorem a_X12_goOn_129 (C : Nat → Sp) : ta (tb_X12_goOn C) 129 = tr_aload 130 0 := rfl
set_option maxRecDepth 20000 in
theorem a_X12_goOn_130 (C : Nat → Sp) : ta (tb_X12_goOn C) 130 = tr_getR 133 13 1230 := rfl
set_option maxRecDepth 20000 in
theorem a_X12_goOn_133 (C : Nat → Sp) : ta (tb_X12_goOn C) 133 = tr_iload 134 2 := rfl
set_option maxRecDepth 20000 in
theorem a_X12_goOn_134 (C : Nat → Sp) : ta (tb_X12_goOn C) 134 = tr_iald 135 := rfl
set_option maxRecDepth 20000 in
theorem a_X12_goOn_135 (C : Nat → Sp) : ta (tb_X12_goOn C) 135 = tr_iadd 136 := rfl
set_option maxRecDepth 20000 in
theorem a_X12_goOn_136 (C : Nat → Sp) : ta (tb_X12_goOn C) 136 = tr_iald 137 := rfl
set_option maxRecDepth 20000 in
theorem a_X12_goOn_137 (C : Nat → Sp) : ta (tb_X12_goOn C) 137 = tr_istore 138 3 := rfl
set_option maxRecDepth 20000 in
theorem a_X12_goOn_138 (C : Nat → Sp) : ta (tb_X12_goOn C) 138 = tr_aload 139 0 := rfl
set_option maxRecDepth 20000 in
theorem a_X12_goOn_139 (C : Nat → Sp) : ta (tb_X12_goOn C) 139 = tr_getR 142 13 1230 := rfl
set_option maxRecDepth 20000 in
theorem a_X12_goOn_142 (C : Nat → Sp) : ta (tb_X12_goOn C) 142 = tr_iload 143 2 := rfl
set_option maxRecDepth 20000 in
theorem a_X12_goOn_143 (C : Nat → Sp) : ta (tb_X12_goOn C) 143 = tr_dup2 144 := rfl
set_option maxRecDepth 20000 in
theorem a_X12_goOn_144 (C : Nat → Sp) : ta (tb_X12_goOn C) 144 = tr_iald 145 := rfl
set_option maxRecDepth 20000 in
theorem a_X12_goOn_145 (C : Nat → Sp) : ta (tb_X12_goOn C) 145 = tr_ic 146 1 := rfl
set_option maxRecDepth 20000 in
theorem a_X12_goOn_146 (C : Nat → Sp) : ta (tb_X12_goOn C) 146 = tr_iadd 147 := rfl
set_option maxRecDepth 20000 in
theorem a_X12_goOn_147 (C : Nat → Sp) : ta (tb_X12_goOn C) 147 = tr_iast 148 := rfl
set_option maxRecDepth 20000 in
theorem a_X12_goOn_148 (C : Nat → Sp) : ta (tb_X12_goOn C) 148 = tr_aload 149 0 := rfl
set_option maxRecDepth 20000 in
theorem a_X12_goOn_149 (C : Nat → Sp) : ta (tb_X12_goOn C) 149 = tr_getI 152 13 1243 := rfl
set_option maxRecDepth 20000 in
theorem a_X12_goOn_152 (C : Nat → Sp) : ta (tb_X12_goOn C) 152 = tr_ic 154 24 := rfl
set_option maxRecDepth 20000 in
theorem a_X12_goOn_154 (C : Nat → Sp) : ta (tb_X12_goOn C) 154 = tr_icge 157 271 := rfl
set_option maxRecDepth 20000 in
theorem a_X12_goOn_157 (C : Nat → Sp) : ta (tb_X12_goOn C) 157 = tr_aload 158 0 := rfl
set_option maxRecDepth 20000 in
theorem a_X12_goOn_158 (C : Nat → Sp) : ta (tb_X12_goOn C) 158 = tr_getR 161 13 1213 := rfl
set_option maxRecDepth 20000 in
theorem a_X12_goOn_161 (C : Nat → Sp) : ta (tb_X12_goOn C) 161 = tr_iload 162 3 := rfl
set_option maxRecDepth 20000 in
theorem a_X12_goOn_162 (C : Nat → Sp) : ta (tb_X12_goOn C) 162 = tr_bald 163 := rfl
set_option maxRecDepth 20000 in
theorem a_X12_goOn_163 (C : Nat → Sp) : ta (tb_X12_goOn C) 163 = tr_ifeq 166 271 := rfl
set_option maxRecDepth 20000 in
theorem a_X12_goOn_166 (C : Nat → Sp) : ta (tb_X12_goOn C) 166 = tr_aload 167 0 := rfl
set_option maxRecDepth 20000 in
theorem a_X12_goOn_167 (C : Nat → Sp) : ta (tb_X12_goOn C) 167 = tr_getR 170 13 1227 := rfl
set_option maxRecDepth 20000 in
theorem a_X12_goOn_170 (C : Nat → Sp) : ta (tb_X12_goOn C) 170 = tr_iload 171 2 := rfl
set_option maxRecDepth 20000 in
theorem a_X12_goOn_171 (C : Nat → Sp) : ta (tb_X12_goOn C) 171 = tr_lald 172 := rfl
set_option maxRecDepth 20000 in
theorem a_X12_goOn_172 (C : Nat → Sp) : ta (tb_X12_goOn C) 172 = tr_aload 173 0 := rfl
set_option maxRecDepth 20000 in
theorem a_X12_goOn_173 (C : Nat → Sp) : ta (tb_X12_goOn C) 173 = tr_getR 176 13 1210 := rfl
set_option maxRecDepth 20000 in
theorem a_X12_goOn_176 (C : Nat → Sp) : ta (tb_X12_goOn C) 176 = tr_iload 177 3 := rfl
set_option maxRecDepth 20000 in
theorem a_X12_goOn_177 (C : Nat → Sp) : ta (tb_X12_goOn C) 177 = tr_lald 178 := rfl
set_option maxRecDepth 20000 in
theorem a_X12_goOn_178 (C : Nat → Sp) : ta (tb_X12_goOn C) 178 = tr_lcmp 179 := rfl
set_option maxRecDepth 20000 in
theorem a_X12_goOn_179 (C : Nat → Sp) : ta (tb_X12_goOn C) 179 = tr_iflt 182 271 := rfl
set_option maxRecDepth 20000 in
theorem a_X12_goOn_182 (C : Nat → Sp) : ta (tb_X12_goOn C) 182 = tr_aload 183 0 := rfl
set_option maxRecDepth 20000 in
theorem a_X12_goOn_183 (C : Nat → Sp) : ta (tb_X12_goOn C) 183 = tr_getR 186 13 1227 := rfl
set_option maxRecDepth 20000 in
theorem a_X12_goOn_186 (C : Nat → Sp) : ta (tb_X12_goOn C) 186 = tr_iload 187 2 := rfl
set_option maxRecDepth 20000 in
theorem a_X12_goOn_187 (C : Nat → Sp) : ta (tb_X12_goOn C) 187 = tr_lald 188 := rfl
set_option maxRecDepth 20000 in
theorem a_X12_goOn_188 (C : Nat → Sp) : ta (tb_X12_goOn C) 188 = tr_aload 189 0 := rfl
set_option maxRecDepth 20000 in
theorem a_X12_goOn_189 (C : Nat → Sp) : ta (tb_X12_goOn C) 189 = tr_getR 192 13 1211 := rfl
set_option maxRecDepth 20000 in
theorem a_X12_goOn_192 (C : Nat → Sp) : ta (tb_X12_goOn C) 192 = tr_iload 193 3 := rfl
set_option maxRecDepth 20000 in
theorem a_X12_goOn_193 (C : Nat → Sp) : ta (tb_X12_goOn C) 193 = tr_lald 194 := rfl
set_option maxRecDepth 20000 in
theorem a_X12_goOn_194 (C : Nat → Sp) : ta (tb_X12_goOn C) 194 = tr_lcmp 195 := rfl
set_option maxRecDepth 20000 in
theorem a_X12_goOn_195 (C : Nat → Sp) : ta (tb_X12_goOn C) 195 = tr_ifgt 198 271 := rfl
set_option maxRecDepth 20000 in
theorem a_X12_goOn_198 (C : Nat → Sp) : ta (tb_X12_goOn C) 198 = tr_aload 199 0 := rfl
set_option maxRecDepth 20000 in
theorem a_X12_goOn_199 (C : Nat → Sp) : ta (tb_X12_goOn C) 199 = tr_getR 202 13 1213 := rfl
set_option maxRecDepth 20000 in
theorem a_X12_goOn_202 (C : Nat → Sp) : ta (tb_X12_goOn C) 202 = tr_iload 203 3 := rfl
set_option maxRecDepth 20000 in
theorem a_X12_goOn_203 (C : Nat → Sp) : ta (tb_X12_goOn C) 203 = tr_aload 204 0 := rfl
set_option maxRecDepth 20000 in
theorem a_X12_goOn_204 (C : Nat → Sp) : ta (tb_X12_goOn C) 204 = tr_getR 207 13 1212 := rfl
set_option maxRecDepth 20000 in
theorem a_X12_goOn_207 (C : Nat → Sp) : ta (tb_X12_goOn C) 207 = tr_iload 208 3 := rfl
set_option maxRecDepth 20000 in
theorem a_X12_goOn_208 (C : Nat → Sp) : ta (tb_X12_goOn C) 208 = tr_bald 209 := rfl
set_option maxRecDepth 20000 in
theorem a_X12_goOn_209 (C : Nat → Sp) : ta (tb_X12_goOn C) 209 = tr_ifne 212 216 := rfl
set_option maxRecDepth 20000 in
theorem a_X12_goOn_212 (C : Nat → Sp) : ta (tb_X12_goOn C) 212 = tr_ic 213 1 := rfl
set_option maxRecDepth 20000 in
theorem a_X12_goOn_213 (C : Nat → Sp) : ta (tb_X12_goOn C) 213 = tr_goto 217 := rfl
set_option maxRecDepth 20000 in
theorem a_X12_goOn_216 (C : Nat → Sp) : ta (tb_X12_goOn C) 216 = tr_ic 217 0 := rfl
set_option maxRecDepth 20000 in
theorem a_X12_goOn_217 (C : Nat → Sp) : ta (tb_X12_goOn C) 217 = tr_bast 218 := rfl
set_option maxRecDepth 20000 in
theorem a_X12_goOn_218 (C : Nat → Sp) : ta (tb_X12_goOn C) 218 = tr_aload 219 0 := rfl
set_option maxRecDepth 20000 in
theorem a_X12_goOn_219 (C : Nat → Sp) : ta (tb_X12_goOn C) 219 = tr_getR 222 13 1217 := rfl
set_option maxRecDepth 20000 in
theorem a_X12_goOn_222 (C : Nat → Sp) : ta (tb_X12_goOn C) 222 = tr_iload 223 3 := rfl
set_option maxRecDepth 20000 in
theorem a_X12_goOn_223 (C : Nat → Sp) : ta (tb_X12_goOn C) 223 = tr_dup2 224 := rfl
set_option maxRecDepth 20000 in
theorem a_X12_goOn_224 (C : Nat → Sp) : ta (tb_X12_goOn C) 224 = tr_iald 225 := rfl
set_option maxRecDepth 20000 in
theorem a_X12_goOn_225 (C : Nat → Sp) : ta (tb_X12_goOn C) 225 = tr_ic 226 1 := rfl
set_option maxRecDepth 20000 in
theorem a_X12_goOn_226 (C : Nat → Sp) : ta (tb_X12_goOn C) 226 = tr_iadd 227 := rfl
set_option maxRecDepth 20000 in
theorem a_X12_goOn_227 (C : Nat → Sp) : ta (tb_X12_goOn C) 227 = tr_iast 228 := rfl
set_option maxRecDepth 20000 in
theorem a_X12_goOn_228 (C : Nat → Sp) : ta (tb_X12_goOn C) 228 = tr_aload 229 0 := rfl
set_option maxRecDepth 20000 in
theorem a_X12_goOn_229 (C : Nat → Sp) : ta (tb_X12_goOn C) 229 = tr_dup 230 := rfl
set_option maxRecDepth 20000 in
theorem a_X12_goOn_230 (C : Nat → Sp) : ta (tb_X12_goOn C) 230 = tr_getI 233 13 1241 := rfl
set_option maxRecDepth 20000 in
theorem a_X12_goOn_233 (C : Nat → Sp) : ta (tb_X12_goOn C) 233 = tr_ic 234 1 := rfl
set_option maxRecDepth 20000 in
theorem a_X12_goOn_234 (C : Nat → Sp) : ta (tb_X12_goOn C) 234 = tr_iadd 235 := rfl
set_option maxRecDepth 20000 in
theorem a_X12_goOn_235 (C : Nat → Sp) : ta (tb_X12_goOn C) 235 = tr_putI 238 13 1241 := rfl
set_option maxRecDepth 20000 in
theorem a_X12_goOn_238 (C : Nat → Sp) : ta (tb_X12_goOn C) 238 = tr_aload 239 0 := rfl
set_option maxRecDepth 20000 in
theorem a_X12_goOn_239 (C : Nat → Sp) : ta (tb_X12_goOn C) 239 = tr_getR 242 13 1232 := rfl
set_option maxRecDepth 20000 in
theorem a_X12_goOn_242 (C : Nat → Sp) : ta (tb_X12_goOn C) 242 = tr_iload 243 2 := rfl
set_option maxRecDepth 20000 in
theorem a_X12_goOn_243 (C : Nat → Sp) : ta (tb_X12_goOn C) 243 = tr_ic 244 1 := rfl
set_option maxRecDepth 20000 in
theorem a_X12_goOn_244 (C : Nat → Sp) : ta (tb_X12_goOn C) 244 = tr_bast 245 := rfl
set_option maxRecDepth 20000 in
theorem a_X12_goOn_245 (C : Nat → Sp) : ta (tb_X12_goOn C) 245 = tr_aload 246 0 := rfl
set_option maxRecDepth 20000 in
theorem a_X12_goOn_246 (C : Nat → Sp) : ta (tb_X12_goOn C) 246 = tr_getR 249 13 1233 := rfl
set_option maxRecDepth 20000 in
theorem a_X12_goOn_249 (C : Nat → Sp) : ta (tb_X12_goOn C) 249 = tr_iload 250 2 := rfl
set_option maxRecDepth 20000 in
theorem a_X12_goOn_250 (C : Nat → Sp) : ta (tb_X12_goOn C) 250 = tr_iload 251 3 := rfl
set_option maxRecDepth 20000 in
theorem a_X12_goOn_251 (C : Nat → Sp) : ta (tb_X12_goOn C) 251 = tr_iast 252 := rfl
set_option maxRecDepth 20000 in
theorem a_X12_goOn_252 (C : Nat → Sp) : ta (tb_X12_goOn C) 252 = tr_aload 253 0 := rfl
set_option maxRecDepth 20000 in
theorem a_X12_goOn_253 (C : Nat → Sp) : ta (tb_X12_goOn C) 253 = tr_getR 256 13 1234 := rfl
set_option maxRecDepth 20000 in
theorem a_X12_goOn_256 (C : Nat → Sp) : ta (tb_X12_goOn C) 256 = tr_iload 257 2 := rfl
set_option maxRecDepth 20000 in
theorem a_X12_goOn_257 (C : Nat → Sp) : ta (tb_X12_goOn C) 257 = tr_ic 258 0 := rfl
set_option maxRecDepth 20000 in
theorem a_X12_goOn_258 (C : Nat → Sp) : ta (tb_X12_goOn C) 258 = tr_iast 259 := rfl
set_option maxRecDepth 20000 in
theorem a_X12_goOn_259 (C : Nat → Sp) : ta (tb_X12_goOn C) 259 = tr_aload 260 0 := rfl
set_option maxRecDepth 20000 in
theorem a_X12_goOn_260 (C : Nat → Sp) : ta (tb_X12_goOn C) 260 = tr_getR 263 13 1235 := rfl
set_option maxRecDepth 20000 in
theorem a_X12_goOn_263 (C : Nat → Sp) : ta (tb_X12_goOn C) 263 = tr_iload 264 2 := rfl
set_option maxRecDepth 20000 in
theorem a_X12_goOn_264 (C : Nat → Sp) : ta (tb_X12_goOn C) 264 = tr_aload 265 0 := rfl
set_option maxRecDepth 20000 in
theorem a_X12_goOn_265 (C : Nat → Sp) : ta (tb_X12_goOn C) 265 = tr_getR 268 13 1227 := rfl
set_option maxRecDepth 20000 in
theorem a_X12_goOn_268 (C : Nat → Sp) : ta (tb_X12_goOn C) 268 = tr_iload 269 2 := rfl
set_option maxRecDepth 20000 in
theorem a_X12_goOn_269 (C : Nat → Sp) : ta (tb_X12_goOn C) 269 = tr_lald 270 := rfl
set_option maxRecDepth 20000 in
theorem a_X12_goOn_270 (C : Nat → Sp) : ta (tb_X12_goOn C) 270 = tr_last 271 := rfl
set_option maxRecDepth 20000 in
theorem a_X12_goOn_271 (C : Nat → Sp) : ta (tb_X12_goOn C) 271 = tr_goto 317 := rfl
set_option maxRecDepth 20000 in
theorem a_X12_goOn_274 (C : Nat → Sp) : ta (tb_X12_goOn C) 274 = tr_aload 275 0 := rfl
set_option maxRecDepth 20000 in
theorem a_X12_goOn_275 (C : Nat → Sp) : ta (tb_X12_goOn C) 275 = tr_getR 278 13 1228 := rfl
set_option maxRecDepth 20000 in
theorem a_X12_goOn_278 (C : Nat → Sp) : ta (tb_X12_goOn C) 278 = tr_iload 279 2 := rfl
set_option maxRecDepth 20000 in
theorem a_X12_goOn_279 (C : Nat → Sp) : ta (tb_X12_goOn C) 279 = tr_iald 280 := rfl
set_option maxRecDepth 20000 in
theorem a_X12_goOn_280 (C : Nat → Sp) : ta (tb_X12_goOn C) 280 = tr_ic 281 2 := rfl
set_option maxRecDepth 20000 in
theorem a_X12_goOn_281 (C : Nat → Sp) : ta (tb_X12_goOn C) 281 = tr_icne 284 292 := rfl
set_option maxRecDepth 20000 in
theorem a_X12_goOn_284 (C : Nat → Sp) : ta (tb_X12_goOn C) 284 = tr_aload 285 0 := rfl
set_option maxRecDepth 20000 in
theorem a_X12_goOn_285 (C : Nat → Sp) : ta (tb_X12_goOn C) 285 = tr_iload 286 1 := rfl
set_option maxRecDepth 20000 in
theorem a_X12_goOn_286 (C : Nat → Sp) : ta (tb_X12_goOn C) 286 = tr_callV (C 119) 289 13 1 := rfl
set_option maxRecDepth 20000 in
theorem a_X12_goOn_289 (C : Nat → Sp) : ta (tb_X12_goOn C) 289 = tr_goto 317 := rfl
set_option maxRecDepth 20000 in
theorem a_X12_goOn_292 (C : Nat → Sp) : ta (tb_X12_goOn C) 292 = tr_aload 293 0 := rfl
set_option maxRecDepth 20000 in
theorem a_X12_goOn_293 (C : Nat → Sp) : ta (tb_X12_goOn C) 293 = tr_getR 296 13 1228 := rfl
set_option maxRecDepth 20000 in
theorem a_X12_goOn_296 (C : Nat → Sp) : ta (tb_X12_goOn C) 296 = tr_iload 297 2 := rfl
set_option maxRecDepth 20000 in
theorem a_X12_goOn_297 (C : Nat → Sp) : ta (tb_X12_goOn C) 297 = tr_iald 298 := rfl
set_option maxRecDepth 20000 in
theorem a_X12_goOn_298 (C : Nat → Sp) : ta (tb_X12_goOn C) 298 = tr_ifne 301 305 := rfl
set_option maxRecDepth 20000 in
theorem a_X12_goOn_301 (C : Nat → Sp) : ta (tb_X12_goOn C) 301 = tr_aload 302 0 := rfl
set_option maxRecDepth 20000 in
theorem a_X12_goOn_302 (C : Nat → Sp) : ta (tb_X12_goOn C) 302 = tr_callV (C 118) 305 13 0 := rfl
set_option maxRecDepth 20000 in
theorem a_X12_goOn_305 (C : Nat → Sp) : ta (tb_X12_goOn C) 305 = tr_aload 306 0 := rfl
set_option maxRecDepth 20000 in
theorem a_X12_goOn_306 (C : Nat → Sp) : ta (tb_X12_goOn C) 306 = tr_aload 307 0 := rfl
set_option maxRecDepth 20000 in
theorem a_X12_goOn_307 (C : Nat → Sp) : ta (tb_X12_goOn C) 307 = tr_getR 310 13 1228 := rfl
set_option maxRecDepth 20000 in
theorem a_X12_goOn_310 (C : Nat → Sp) : ta (tb_X12_goOn C) 310 = tr_iload 311 2 := rfl
set_option maxRecDepth 20000 in
theorem a_X12_goOn_311 (C : Nat → Sp) : ta (tb_X12_goOn C) 311 = tr_iald 312 := rfl
set_option maxRecDepth 20000 in
theorem a_X12_goOn_312 (C : Nat → Sp) : ta (tb_X12_goOn C) 312 = tr_ic 313 1 := rfl
set_option maxRecDepth 20000 in
theorem a_X12_goOn_313 (C : Nat → Sp) : ta (tb_X12_goOn C) 313 = tr_iadd 314 := rfl
set_option maxRecDepth 20000 in
theorem a_X12_goOn_314 (C : Nat → Sp) : ta (tb_X12_goOn C) 314 = tr_callV (C 116) 317 13 1 := rfl
set_option maxRecDepth 20000 in
theorem a_X12_goOn_317 (C : Nat → Sp) : ta (tb_X12_goOn C) 317 = tr_ret := rfl

def tb_X12_send_0 (C : Nat → Sp) : Tab := [(0, tr_aload 1 0), (1, tr_iload 2 1), (2, tr_callV (C 97) 5 13 1), (5, tr_ifne 8 10), (8, tr_ic 9 (-1)), (9, tr_iret), (10, tr_aload 11 0), (11, tr_ic 12 0), (12, tr_putZ 15 13 1239), (15, tr_aload 16 0), (16, tr_ic 17 0), (17, tr_putI 20 13 1240), (20, tr_aload 21 0), (21, tr_ic 22 0), (22, tr_putI 25 13 1241), (25, tr_aload 26 0), (26, tr_ic 27 0), (27, tr_putI 30 13 1242), (30, tr_aload 31 0), (31, tr_ic 32 0), (32, tr_putI 35 13 1243), (35, tr_aload 36 0), (36, tr_ic 37 0), (37, tr_putI 40 13 1244), (40, tr_aload 41 0), (41, tr_ic 42 0), (42, tr_putI 45 13 1245), (45, tr_aload 46 0), (46, tr_ic 48 (-4)), (48, tr_putI 51 13 1246), (51, tr_aload 52 0), (52, tr_ic 53 0), (53, tr_putI 56 13 1236), (56, tr_aload 57 0), (57, tr_ic 58 0), (58, tr_putI 61 13 1225), (61, tr_aload 62 0), (62, tr_iload 63 1), (63, tr_lload 64 2), (64, tr_callV (C 117) 67 13 2)]
set_option maxRecDepth 20000 in
theorem tbk_X12_send_0 {D : DD} {d : Nat} {C : Nat → Sp} (hC : Snd D d C) : ∀ e ∈ tb_X12_send_0 C, TrOk D (d + 1) mi_X12_send e.1 e.2 :=
  tk_c (show TrOk D (d + 1) mi_X12_send 0 (tr_aload 1 0) from ok_aload_n (show decode mi_X12_send.2.1 0 = .ok (.aload_n 0, 1) from by decide +kernel) rfl) <|
  tk_c (show TrOk D (d + 1) mi_X12_send 1 (tr_iload 2 1) from ok_iload_n (show decode mi_X12_send.2.1 1 = .ok (.iload_n 1, 1) from by decide +kernel) rfl) <|
  tk_c (show TrOk D (d + 1) mi_X12_send 2 (tr_callV (C 97) 5 13 1) from ok_callV (ci := 12) (show decode mi_X12_send.2.1 2 = .ok (.invokevirtual 143, 3) from by decide +kernel) mok_X12_isKind rfl rfl (gm 951 (by decide +kernel) rfl) (gm 953 (by decide +kernel) rfl) (gm 12 (by decide +kernel) rfl) (hC 97)) <|
  tk_c (show TrOk D (d + 1) mi_X12_send 5 (tr_ifne 8 10) from ok_ifne (show decode mi_X12_send.2.1 5 = .ok (.ifCond .ne 5, 3) from by decide +kernel) (by decide)) <|
  tk_c (show TrOk D (d + 1) mi_X12_send 8 (tr_ic 9 (-1)) from ok_iconst (show decode mi_X12_send.2.1 8 = .ok (.iconst (-1), 1) from by decide +kernel) rfl) <|
  tk_c (show TrOk D (d + 1) mi_X12_send 9 (tr_iret) from ok_iret (show decode mi_X12_send.2.1 9 = .ok (.ireturn, 1) from by decide +kernel) rfl) <|
  tk_c (show TrOk D (d + 1) mi_X12_send 10 (tr_aload 11 0) from ok_aload_n (show decode mi_X12_send.2.1 10 = .ok (.aload_n 0, 1) from by decide +kernel) rfl) <|
  tk_c (show TrOk D (d + 1) mi_X12_send 11 (tr_ic 12 0) from ok_iconst (show decode mi_X12_send.2.1 11 = .ok (.iconst 0, 1) from by decide +kernel) rfl) <|
  tk_c (show TrOk D (d + 1) mi_X12_send 12 (tr_putZ 15 13 1239) from ok_putZ (ci := 12) (k := 39) (show decode mi_X12_send.2.1 12 = .ok (.putfield 206, 3) from by decide +kernel) rfl (by decide) (gm 820 (by decide +kernel) rfl) rfl (Or.inl rfl)) <|
  tk_c (show TrOk D (d + 1) mi_X12_send 15 (tr_aload 16 0) from ok_aload_n (show decode mi_X12_send.2.1 15 = .ok (.aload_n 0, 1) from by decide +kernel) rfl) <|
  tk_c (show TrOk D (d + 1) mi_X12_send 16 (tr_ic 17 0) from ok_iconst (show decode mi_X12_send.2.1 16 = .ok (.iconst 0, 1) from by decide +kernel) rfl) <|
  tk_c (show TrOk D (d + 1) mi_X12_send 17 (tr_putI 20 13 1240) from ok_putI (ci := 12) (k := 40) (show decode mi_X12_send.2.1 17 = .ok (.putfield 196, 3) from by decide +kernel) rfl (by decide) (gm 821 (by decide +kernel) rfl) rfl (Or.inl rfl)) <|
  tk_c (show TrOk D (d + 1) mi_X12_send 20 (tr_aload 21 0) from ok_aload_n (show decode mi_X12_send.2.1 20 = .ok (.aload_n 0, 1) from by decide +kernel) rfl) <|
  tk_c (show TrOk D (d + 1) mi_X12_send 21 (tr_ic 22 0) from ok_iconst (show decode mi_X12_send.2.1 21 = .ok (.iconst 0, 1) from by decide +kernel) rfl) <|
  tk_c (show TrOk D (d + 1) mi_X12_send 22 (tr_putI 25 13 1241) from ok_putI (ci := 12) (k := 41) (show decode mi_X12_send.2.1 22 = .ok (.putfield 256, 3) from by decide +kernel) rfl (by decide) (gm 822 (by decide +kernel) rfl) rfl (Or.inl rfl)) <|
  tk_c (show TrOk D (d + 1) mi_X12_send 25 (tr_aload 26 0) from ok_aload_n (show decode mi_X12_send.2.1 25 = .ok (.aload_n 0, 1) from by decide +kernel) rfl) <|
  tk_c (show TrOk D (d + 1) mi_X12_send 26 (tr_ic 27 0) from ok_iconst (show decode mi_X12_send.2.1 26 = .ok (.iconst 0, 1) from by decide +kernel) rfl) <|
  tk_c (show TrOk D (d + 1) mi_X12_send 27 (tr_putI 30 13 1242) from ok_putI (ci := 12) (k := 42) (show decode mi_X12_send.2.1 27 = .ok (.putfield 224, 3) from by decide +kernel) rfl (by decide) (gm 823 (by decide +kernel) rfl) rfl (Or.inl rfl)) <|
  tk_c (show TrOk D (d + 1) mi_X12_send 30 (tr_aload 31 0) from ok_aload_n (show decode mi_X12_send.2.1 30 = .ok (.aload_n 0, 1) from by decide +kernel) rfl) <|
  tk_c (show TrOk D (d + 1) mi_X12_send 31 (tr_ic 32 0) from ok_iconst (show decode mi_X12_send.2.1 31 = .ok (.iconst 0, 1) from by decide +kernel) rfl) <|
  tk_c (show TrOk D (d + 1) mi_X12_send 32 (tr_putI 35 13 1243) from ok_putI (ci := 12) (k := 43) (show decode mi_X12_send.2.1 32 = .ok (.putfield 214, 3) from by decide +kernel) rfl (by decide) (gm 824 (by decide +kernel) rfl) rfl (Or.inl rfl)) <|
  tk_c (show TrOk D (d + 1) mi_X12_send 35 (tr_aload 36 0) from ok_aload_n (show decode mi_X12_send.2.1 35 = .ok (.aload_n 0, 1) from by decide +kernel) rfl) <|
  tk_c (show TrOk D (d + 1) mi_X12_send 36 (tr_ic 37 0) from ok_iconst (show decode mi_X12_send.2.1 36 = .ok (.iconst 0, 1) from by decide +kernel) rfl) <|
  tk_c (show TrOk D (d + 1) mi_X12_send 37 (tr_putI 40 13 1244) from ok_putI (ci := 12) (k := 44) (show decode mi_X12_send.2.1 37 = .ok (.putfield 217, 3) from by decide +kernel) rfl (by decide) (gm 825 (by decide +kernel) rfl) rfl (Or.inl rfl)) <|
  tk_c (show TrOk D (d + 1) mi_X12_send 40 (tr_aload 41 0) from ok_aload_n (show decode mi_X12_send.2.1 40 = .ok (.aload_n 0, 1) from by decide +kernel) rfl) <|
  tk_c (show TrOk D (d + 1) mi_X12_send 41 (tr_ic 42 0) from ok_iconst (show decode mi_X12_send.2.1 41 = .ok (.iconst 0, 1) from by decide +kernel) rfl) <|
  tk_c (show TrOk D (d + 1) mi_X12_send 42 (tr_putI 45 13 1245) from ok_putI (ci := 12) (k := 45) (show decode mi_X12_send.2.1 42 = .ok (.putfield 193, 3) from by decide +kernel) rfl (by decide) (gm 826 (by decide +kernel) rfl) rfl (Or.inl rfl)) <|
  tk_c (show TrOk D (d + 1) mi_X12_send 45 (tr_aload 46 0) from ok_aload_n (show decode mi_X12_send.2.1 45 = .ok (.aload_n 0, 1) from by decide +kernel) rfl) <|
  tk_c (show TrOk D (d + 1) mi_X12_send 46 (tr_ic 48 (-4)) from ok_bipush (show decode mi_X12_send.2.1 46 = .ok (.bipush (-4), 2) from by decide +kernel) rfl) <|
  tk_c (show TrOk D (d + 1) mi_X12_send 48 (tr_putI 51 13 1246) from ok_putI (ci := 12) (k := 46) (show decode mi_X12_send.2.1 48 = .ok (.putfield 111, 3) from by decide +kernel) rfl (by decide) (gm 827 (by decide +kernel) rfl) rfl (Or.inl rfl)) <|
  tk_c (show TrOk D (d + 1) mi_X12_send 51 (tr_aload 52 0) from ok_aload_n (show decode mi_X12_send.2.1 51 = .ok (.aload_n 0, 1) from by decide +kernel) rfl) <|
  tk_c (show TrOk D (d + 1) mi_X12_send 52 (tr_ic 53 0) from ok_iconst (show decode mi_X12_send.2.1 52 = .ok (.iconst 0, 1) from by decide +kernel) rfl) <|
  tk_c (show TrOk D (d + 1) mi_X12_send 53 (tr_putI 56 13 1236) from ok_putI (ci := 12) (k := 36) (show decode mi_X12_send.2.1 53 = .ok (.putfield 246, 3) from by decide +kernel) rfl (by decide) (gm 817 (by decide +kernel) rfl) rfl (Or.inl rfl)) <|
  tk_c (show TrOk D (d + 1) mi_X12_send 56 (tr_aload 57 0) from ok_aload_n (show decode mi_X12_send.2.1 56 = .ok (.aload_n 0, 1) from by decide +kernel) rfl) <|
  tk_c (show TrOk D (d + 1) mi_X12_send 57 (tr_ic 58 0) from ok_iconst (show decode mi_X12_send.2.1 57 = .ok (.iconst 0, 1) from by decide +kernel) rfl) <|
  tk_c (show TrOk D (d + 1) mi_X12_send 58 (tr_putI 61 13 1225) from ok_putI (ci := 12) (k := 25) (show decode mi_X12_send.2.1 58 = .ok (.putfield 186, 3) from by decide +kernel) rfl (by decide) (gm 806 (by decide +kernel) rfl) rfl (Or.inl rfl)) <|
  tk_c (show TrOk D (d + 1) mi_X12_send 61 (tr_aload 62 0) from ok_aload_n (show decode mi_X12_send.2.1 61 = .ok (.aload_n 0, 1) from by decide +kernel) rfl) <|
  tk_c (show TrOk D (d + 1) mi_X12_send 62 (tr_iload 63 1) from ok_iload_n (show decode mi_X12_send.2.1 62 = .ok (.iload_n 1, 1) from by decide +kernel) rfl) <|
  tk_c (show TrOk D (d + 1) mi_X12_send 63 (tr_lload 64 2) from ok_lload_n (show decode mi_X12_send.2.1 63 = .ok (.lload_n 2, 1) from by decide +kernel) rfl) <|
  tk_c (show TrOk D (d + 1) mi_X12_send 64 (tr_callV (C 117) 67 13 2) from ok_callV (ci := 12) (show decode mi_X12_send.2.1 64 = .ok (.invokevirtual 242, 3) from by decide +kernel) mok_X12_begin rfl rfl (gm 1025 (by decide +kernel) rfl) (gm 1027 (by decide +kernel) rfl) (gm 16 (by decide +kernel) rfl) (hC 117)) <|
  tk_n
def tb_X12_send_1 (C : Nat → Sp) : Tab := [(67, tr_aload 68 0), (68, tr_getI 71 13 1225), (71, tr_ifle 74 82), (74, tr_aload 75 0), (75, tr_ic 76 1), (76, tr_callV (C 125) 79 13 1), (79, tr_goto 67), (82, tr_aload 83 0), (83, tr_getI 86 13 1236), (86, tr_ifle 89 200), (89, tr_aload 90 0), (90, tr_getI 93 13 1240), (93, tr_ic 95 60), (95, tr_icge 98 200), (98, tr_aload 99 0), (99, tr_getR 102 13 1237), (102, tr_ic 103 0), (103, tr_iald 104), (104, tr_istore 106 4), (106, tr_aload 107 0), (107, tr_getR 110 13 1238), (110, tr_ic 111 0), (111, tr_lald 112), (112, tr_lstore 114 5), (114, tr_ic 115 1), (115, tr_istore 117 7), (117, tr_iload 119 7), (119, tr_aload 120 0), (120, tr_getI 123 13 1236), (123, tr_icge 126 164), (126, tr_aload 127 0), (127, tr_getR 130 13 1237), (130, tr_iload 132 7), (132, tr_ic 133 1), (133, tr_isub 134), (134, tr_aload 135 0), (135, tr_getR 138 13 1237), (138, tr_iload 140 7), (140, tr_iald 141), (141, tr_iast 142)]
set_option maxRecDepth 20000 in
theorem tbk_X12_send_1 {D : DD} {d : Nat} {C : Nat → Sp} (hC : Snd D d C) : ∀ e ∈ tb_X12_send_1 C, TrOk D (d + 1) mi_X12_send e.1 e.2 :=
  tk_c (show TrOk D (d + 1) mi_X12_send 67 (tr_aload 68 0) from ok_aload_n (show decode mi_X12_send.2.1 67 = .ok (.aload_n 0, 1) from by decide +kernel) rfl) <|
  tk_c (show TrOk D (d + 1) mi_X12_send 68 (tr_getI 71 13 1225) from ok_getI (ci := 12) (k := 25) (show decode mi_X12_send.2.1 68 = .ok (.getfield 186, 3) from by decide +kernel) rfl (by decide) (gm 806 (by decide +kernel) rfl) rfl) <|
  tk_c (show TrOk D (d + 1) mi_X12_send 71 (tr_ifle 74 82) from ok_ifle (show decode mi_X12_send.2.1 71 = .ok (.ifCond .le 11, 3) from by decide +kernel) (by decide)) <|
  tk_c (show TrOk D (d + 1) mi_X12_send 74 (tr_aload 75 0) from ok_aload_n (show decode mi_X12_send.2.1 74 = .ok (.aload_n 0, 1) from by decide +kernel) rfl) <|
  tk_c (show TrOk D (d + 1) mi_X12_send 75 (tr_ic 76 1) from ok_iconst (show decode mi_X12_send.2.1 75 = .ok (.iconst 1, 1) from by decide +kernel) rfl) <|
  tk_c (show TrOk D (d + 1) mi_X12_send 76 (tr_callV (C 125) 79 13 1) from ok_callV (ci := 12) (show decode mi_X12_send.2.1 76 = .ok (.invokevirtual 262, 3) from by decide +kernel) mok_X12_goOn rfl rfl (gm 1045 (by decide +kernel) rfl) (gm 1047 (by decide +kernel) rfl) (gm 21 (by decide +kernel) rfl) (hC 125)) <|
  tk_c (show TrOk D (d + 1) mi_X12_send 79 (tr_goto 67) from ok_goto (show decode mi_X12_send.2.1 79 = .ok (.goto (-12), 3) from by decide +kernel) (by decide)) <|
  tk_c (show TrOk D (d + 1) mi_X12_send 82 (tr_aload 83 0) from ok_aload_n (show decode mi_X12_send.2.1 82 = .ok (.aload_n 0, 1) from by decide +kernel) rfl) <|
  tk_c (show TrOk D (d + 1) mi_X12_send 83 (tr_getI 86 13 1236) from ok_getI (ci := 12) (k := 36) (show decode mi_X12_send.2.1 83 = .ok (.getfield 246, 3) from by decide +kernel) rfl (by decide) (gm 817 (by decide +kernel) rfl) rfl) <|
  tk_c (show TrOk D (d + 1) mi_X12_send 86 (tr_ifle 89 200) from ok_ifle (show decode mi_X12_send.2.1 86 = .ok (.ifCond .le 114, 3) from by decide +kernel) (by decide)) <|
  tk_c (show TrOk D (d + 1) mi_X12_send 89 (tr_aload 90 0) from ok_aload_n (show decode mi_X12_send.2.1 89 = .ok (.aload_n 0, 1) from by decide +kernel) rfl) <|
  tk_c (show TrOk D (d + 1) mi_X12_send 90 (tr_getI 93 13 1240) from ok_getI (ci := 12) (k := 40) (show decode mi_X12_send.2.1 90 = .ok (.getfield 196, 3) from by decide +kernel) rfl (by decide) (gm 821 (by decide +kernel) rfl) rfl) <|
  tk_c (show TrOk D (d + 1) mi_X12_send 93 (tr_ic 95 60) from ok_bipush (show decode mi_X12_send.2.1 93 = .ok (.bipush 60, 2) from by decide +kernel) rfl) <|
  tk_c (show TrOk D (d + 1) mi_X12_send 95 (tr_icge 98 200) from ok_icge (show decode mi_X12_send.2.1 95 = .ok (.if_icmp .ge 105, 3) from by decide +kernel) (by decide)) <|
  tk_c (show TrOk D (d + 1) mi_X12_send 98 (tr_aload 99 0) from ok_aload_n (show decode mi_X12_send.2.1 98 = .ok (.aload_n 0, 1) from by decide +kernel) rfl) <|
  tk_c (show TrOk D (d + 1) mi_X12_send 99 (tr_getR 102 13 1237) from ok_getR (ci := 12) (k := 37) (show decode mi_X12_send.2.1 99 = .ok (.getfield 105, 3) from by decide +kernel) rfl (by decide) (gm 818 (by decide +kernel) rfl) rfl) <|
  tk_c (show TrOk D (d + 1) mi_X12_send 102 (tr_ic 103 0) from ok_iconst (show decode mi_X12_send.2.1 102 = .ok (.iconst 0, 1) from by decide +kernel) rfl) <|
  tk_c (show TrOk D (d + 1) mi_X12_send 103 (tr_iald 104) from ok_iald (show decode mi_X12_send.2.1 103 = .ok (.iaload, 1) from by decide +kernel)) <|
  tk_c (show TrOk D (d + 1) mi_X12_send 104 (tr_istore 106 4) from ok_istore (show decode mi_X12_send.2.1 104 = .ok (.istore 4, 2) from by decide +kernel) (by decide)) <|
  tk_c (show TrOk D (d + 1) mi_X12_send 106 (tr_aload 107 0) from ok_aload_n (show decode mi_X12_send.2.1 106 = .ok (.aload_n 0, 1) from by decide +kernel) rfl) <|
  tk_c (show TrOk D (d + 1) mi_X12_send 107 (tr_getR 110 13 1238) from ok_getR (ci := 12) (k := 38) (show decode mi_X12_send.2.1 107 = .ok (.getfield 108, 3) from by decide +kernel) rfl (by decide) (gm 819 (by decide +kernel) rfl) rfl) <|
  tk_c (show TrOk D (d + 1) mi_X12_send 110 (tr_ic 111 0) from ok_iconst (show decode mi_X12_send.2.1 110 = .ok (.iconst 0, 1) from by decide +kernel) rfl) <|
  tk_c (show TrOk D (d + 1) mi_X12_send 111 (tr_lald 112) from ok_lald (show decode mi_X12_send.2.1 111 = .ok (.laload, 1) from by decide +kernel)) <|
  tk_c (show TrOk D (d + 1) mi_X12_send 112 (tr_lstore 114 5) from ok_lstore (show decode mi_X12_send.2.1 112 = .ok (.lstore 5, 2) from by decide +kernel) (by decide)) <|
  tk_c (show TrOk D (d + 1) mi_X12_send 114 (tr_ic 115 1) from ok_iconst (show decode mi_X12_send.2.1 114 = .ok (.iconst 1, 1) from by decide +kernel) rfl) <|
  tk_c (show TrOk D (d + 1) mi_X12_send 115 (tr_istore 117 7) from ok_istore (show decode mi_X12_send.2.1 115 = .ok (.istore 7, 2) from by decide +kernel) (by decide)) <|
  tk_c (show TrOk D (d + 1) mi_X12_send 117 (tr_iload 119 7) from ok_iload (show decode mi_X12_send.2.1 117 = .ok (.iload 7, 2) from by decide +kernel)) <|
  tk_c (show TrOk D (d + 1) mi_X12_send 119 (tr_aload 120 0) from ok_aload_n (show decode mi_X12_send.2.1 119 = .ok (.aload_n 0, 1) from by decide +kernel) rfl) <|
  tk_c (show TrOk D (d + 1) mi_X12_send 120 (tr_getI 123 13 1236) from ok_getI (ci := 12) (k := 36) (show decode mi_X12_send.2.1 120 = .ok (.getfield 246, 3) from by decide +kernel) rfl (by decide) (gm 817 (by decide +kernel) rfl) rfl) <|
  tk_c (show TrOk D (d + 1) mi_X12_send 123 (tr_icge 126 164) from ok_icge (show decode mi_X12_send.2.1 123 = .ok (.if_icmp .ge 41, 3) from by decide +kernel) (by decide)) <|
  tk_c (show TrOk D (d + 1) mi_X12_send 126 (tr_aload 127 0) from ok_aload_n (show decode mi_X12_send.2.1 126 = .ok (.aload_n 0, 1) from by decide +kernel) rfl) <|
  tk_c (show TrOk D (d + 1) mi_X12_send 127 (tr_getR 130 13 1237) from ok_getR (ci := 12) (k := 37) (show decode mi_X12_send.2.1 127 = .ok (.getfield 105, 3) from by decide +kernel) rfl (by decide) (gm 818 (by decide +kernel) rfl) rfl) <|
  tk_c (show TrOk D (d + 1) mi_X12_send 130 (tr_iload 132 7) from ok_iload (show decode mi_X12_send.2.1 130 = .ok (.iload 7, 2) from by decide +kernel)) <|
  tk_c (show TrOk D (d + 1) mi_X12_send 132 (tr_ic 133 1) from ok_iconst (show decode mi_X12_send.2.1 132 = .ok (.iconst 1, 1) from by decide +kernel) rfl) <|
  tk_c (show TrOk D (d + 1) mi_X12_send 133 (tr_isub 134) from ok_isub (show decode mi_X12_send.2.1 133 = .ok (.isub, 1) from by decide +kernel)) <|
  tk_c (show TrOk D (d + 1) mi_X12_send 134 (tr_aload 135 0) from ok_aload_n (show decode mi_X12_send.2.1 134 = .ok (.aload_n 0, 1) from by decide +kernel) rfl) <|
  tk_c (show TrOk D (d + 1) mi_X12_send 135 (tr_getR 138 13 1237) from ok_getR (ci := 12) (k := 37) (show decode mi_X12_send.2.1 135 = .ok (.getfield 105, 3) from by decide +kernel) rfl (by decide) (gm 818 (by decide +kernel) rfl) rfl) <|
  tk_c (show TrOk D (d + 1) mi_X12_send 138 (tr_iload 140 7) from ok_iload (show decode mi_X12_send.2.1 138 = .ok (.iload 7, 2) from by decide +kernel)) <|
  tk_c (show TrOk D (d + 1) mi_X12_send 140 (tr_iald 141) from ok_iald (show decode mi_X12_send.2.1 140 = .ok (.iaload, 1) from by decide +kernel)) <|
  tk_c (show TrOk D (d + 1) mi_X12_send 141 (tr_iast 142) from ok_iast (show decode mi_X12_send.2.1 141 = .ok (.iastore, 1) from by decide +kernel)) <|
  tk_n
def tb_X12_send_2 (C : Nat → Sp) : Tab := [(142, tr_aload 143 0), (143, tr_getR 146 13 1238), (146, tr_iload 148 7), (148, tr_ic 149 1), (149, tr_isub 150), (150, tr_aload 151 0), (151, tr_getR 154 13 1238), (154, tr_iload 156 7), (156, tr_lald 157), (157, tr_last 158), (158, tr_iinc 161 7 1), (161, tr_goto 117), (164, tr_aload 165 0), (165, tr_dup 166), (166, tr_getI 169 13 1236), (169, tr_ic 170 1), (170, tr_isub 171), (171, tr_putI 174 13 1236), (174, tr_aload 175 0), (175, tr_iload 177 4), (177, tr_lload 179 5), (179, tr_callV (C 117) 182 13 2), (182, tr_aload 183 0), (183, tr_getI 186 13 1225), (186, tr_ifle 189 197), (189, tr_aload 190 0), (190, tr_ic 191 0), (191, tr_callV (C 125) 194 13 1), (194, tr_goto 182), (197, tr_goto 82), (200, tr_aload 201 0), (201, tr_getI 204 13 1240), (204, tr_iret)]
set_option maxRecDepth 20000 in
theorem tbk_X12_send_2 {D : DD} {d : Nat} {C : Nat → Sp} (hC : Snd D d C) : ∀ e ∈ tb_X12_send_2 C, TrOk D (d + 1) mi_X12_send e.1 e.2 :=
  tk_c (show TrOk D (d + 1) mi_X12_send 142 (tr_aload 143 0) from ok_aload_n (show decode mi_X12_send.2.1 142 = .ok (.aload_n 0, 1) from by decide +kernel) rfl) <|
  tk_c (show TrOk D (d + 1) mi_X12_send 143 (tr_getR 146 13 1238) from ok_getR (ci := 12) (k := 38) (show decode mi_X12_send.2.1 143 = .ok (.getfield 108, 3) from by decide +kernel) rfl (by decide) (gm 819 (by decide +kernel) rfl) rfl) <|
  tk_c (show TrOk D (d + 1) mi_X12_send 146 (tr_iload 148 7) from ok_iload (show decode mi_X12_send.2.1 146 = .ok (.iload 7, 2) from by decide +kernel)) <|
  tk_c (show TrOk D (d + 1) mi_X12_send 148 (tr_ic 149 1) from ok_iconst (show decode mi_X12_send.2.1 148 = .ok (.iconst 1, 1) from by decide +kernel) rfl) <|
  tk_c (show TrOk D (d + 1) mi_X12_send 149 (tr_isub 150) from ok_isub (show decode mi_X12_send.2.1 149 = .ok (.isub, 1) from by decide +kernel)) <|
  tk_c (show TrOk D (d + 1) mi_X12_send 150 (tr_aload 151 0) from ok_aload_n (show decode mi_X12_send.2.1 150 = .ok (.aload_n 0, 1) from by decide +kernel) rfl) <|
  tk_c (show TrOk D (d + 1) mi_X12_send 151 (tr_getR 154 13 1238) from ok_getR (ci := 12) (k := 38) (show decode mi_X12_send.2.1 151 = .ok (.getfield 108, 3) from by decide +kernel) rfl (by decide) (gm 819 (by decide +kernel) rfl) rfl) <|
  tk_c (show TrOk D (d + 1) mi_X12_send 154 (tr_iload 156 7) from ok_iload (show decode mi_X12_send.2.1 154 = .ok (.iload 7, 2) from by decide +kernel)) <|
  tk_c (show TrOk D (d + 1) mi_X12_send 156 (tr_lald 157) from ok_lald (show decode mi_X12_send.2.1 156 = .ok (.laload, 1) from by decide +kernel)) <|
  tk_c (show TrOk D (d + 1) mi_X12_send 157 (tr_last 158) from ok_last (show decode mi_X12_send.2.1 157 = .ok (.lastore, 1) from by decide +kernel)) <|
  tk_c (show TrOk D (d + 1) mi_X12_send 158 (tr_iinc 161 7 1) from ok_iinc (show decode mi_X12_send.2.1 158 = .ok (.iinc 7 1, 3) from by decide +kernel) rfl (by decide)) <|
  tk_c (show TrOk D (d + 1) mi_X12_send 161 (tr_goto 117) from ok_goto (show decode mi_X12_send.2.1 161 = .ok (.goto (-44), 3) from by decide +kernel) (by decide)) <|
  tk_c (show TrOk D (d + 1) mi_X12_send 164 (tr_aload 165 0) from ok_aload_n (show decode mi_X12_send.2.1 164 = .ok (.aload_n 0, 1) from by decide +kernel) rfl) <|
  tk_c (show TrOk D (d + 1) mi_X12_send 165 (tr_dup 166) from ok_dup (show decode mi_X12_send.2.1 165 = .ok (.dup, 1) from by decide +kernel)) <|
  tk_c (show TrOk D (d + 1) mi_X12_send 166 (tr_getI 169 13 1236) from ok_getI (ci := 12) (k := 36) (show decode mi_X12_send.2.1 166 = .ok (.getfield 246, 3) from by decide +kernel) rfl (by decide) (gm 817 (by decide +kernel) rfl) rfl) <|
  tk_c (show TrOk D (d + 1) mi_X12_send 169 (tr_ic 170 1) from ok_iconst (show decode mi_X12_send.2.1 169 = .ok (.iconst 1, 1) from by decide +kernel) rfl) <|
  tk_c (show TrOk D (d + 1) mi_X12_send 170 (tr_isub 171) from ok_isub (show decode mi_X12_send.2.1 170 = .ok (.isub, 1) from by decide +kernel)) <|
  tk_c (show TrOk D (d + 1) mi_X12_send 171 (tr_putI 174 13 1236) from ok_putI (ci := 12) (k := 36) (show decode mi_X12_send.2.1 171 = .ok (.putfield 246, 3) from by decide +kernel) rfl (by decide) (gm 817 (by decide +kernel) rfl) rfl (Or.inl rfl)) <|
  tk_c (show TrOk D (d + 1) mi_X12_send 174 (tr_aload 175 0) from ok_aload_n (show decode mi_X12_send.2.1 174 = .ok (.aload_n 0, 1) from by decide +kernel) rfl) <|
  tk_c (show TrOk D (d + 1) mi_X12_send 175 (tr_iload 177 4) from ok_iload (show decode mi_X12_send.2.1 175 = .ok (.iload 4, 2) from by decide +kernel)) <|
  tk_c (show TrOk D (d + 1) mi_X12_send 177 (tr_lload 179 5) from ok_lload (show decode mi_X12_send.2.1 177 = .ok (.lload 5, 2) from by decide +kernel)) <|
  tk_c (show TrOk D (d + 1) mi_X12_send 179 (tr_callV (C 117) 182 13 2) from ok_callV (ci := 12) (show decode mi_X12_send.2.1 179 = .ok (.invokevirtual 242, 3) from by decide +kernel) mok_X12_begin rfl rfl (gm 1025 (by decide +kernel) rfl) (gm 1027 (by decide +kernel) rfl) (gm 16 (by decide +kernel) rfl) (hC 117)) <|
  tk_c (show TrOk D (d + 1) mi_X12_send 182 (tr_aload 183 0) from ok_aload_n (show decode mi_X12_send.2.1 182 = .ok (.aload_n 0, 1) from by decide +kernel) rfl) <|
  tk_c (show TrOk D (d + 1) mi_X12_send 183 (tr_getI 186 13 1225) from ok_getI (ci := 12) (k := 25) (show decode mi_X12_send.2.1 183 = .ok (.getfield 186, 3) from by decide +kernel) rfl (by decide) (gm 806 (by decide +kernel) rfl) rfl) <|
  tk_c (show TrOk D (d + 1) mi_X12_send 186 (tr_ifle 189 197) from ok_ifle (show decode mi_X12_send.2.1 186 = .ok (.ifCond .le 11, 3) from by decide +kernel) (by decide)) <|
  tk_c (show TrOk D (d + 1) mi_X12_send 189 (tr_aload 190 0) from ok_aload_n (show decode mi_X12_send.2.1 189 = .ok (.aload_n 0, 1) from by decide +kernel) rfl) <|
  tk_c (show TrOk D (d + 1) mi_X12_send 190 (tr_ic 191 0) from ok_iconst (show decode mi_X12_send.2.1 190 = .ok (.iconst 0, 1) from by decide +kernel) rfl) <|
  tk_c (show TrOk D (d + 1) mi_X12_send 191 (tr_callV (C 125) 194 13 1) from ok_callV (ci := 12) (show decode mi_X12_send.2.1 191 = .ok (.invokevirtual 262, 3) from by decide +kernel) mok_X12_goOn rfl rfl (gm 1045 (by decide +kernel) rfl) (gm 1047 (by decide +kernel) rfl) (gm 21 (by decide +kernel) rfl) (hC 125)) <|
  tk_c (show TrOk D (d + 1) mi_X12_send 194 (tr_goto 182) from ok_goto (show decode mi_X12_send.2.1 194 = .ok (.goto (-12), 3) from by decide +kernel) (by decide)) <|
  tk_c (show TrOk D (d + 1) mi_X12_send 197 (tr_goto 82) from ok_goto (show decode mi_X12_send.2.1 197 = .ok (.goto (-115), 3) from by decide +kernel) (by decide)) <|
  tk_c (show TrOk D (d + 1) mi_X12_send 200 (tr_aload 201 0) from ok_aload_n (show decode mi_X12_send.2.1 200 = .ok (.aload_n 0, 1) from by decide +kernel) rfl) <|
  tk_c (show TrOk D (d + 1) mi_X12_send 201 (tr_getI 204 13 1240) from ok_getI (ci := 12) (k := 40) (show decode mi_X12_send.2.1 201 = .ok (.getfield 196, 3) from by decide +kernel) rfl (by decide) (gm 821 (by decide +kernel) rfl) rfl) <|
  tk_c (show TrOk D (d + 1) mi_X12_send 204 (tr_iret) from ok_iret (show decode mi_X12_send.2.1 204 = .ok (.ireturn, 1) from by decide +kernel) rfl) <|
  tk_n
def tb_X12_send (C : Nat → Sp) : Tab := tb_X12_send_0 C ++ (tb_X12_send_1 C ++ (tb_X12_send_2 C))
theorem tbk_X12_send {D : DD} {d : Nat} {C : Nat → Sp} (hC : Snd D d C) : ∀ e ∈ tb_X12_send C, TrOk D (d + 1) mi_X12_send e.1 e.2 := tk_a (tbk_X12_send_0 hC) (tk_a (tbk_X12_send_1 hC) (tbk_X12_send_2 hC))
theorem a_X12_send_0 (C : Nat → Sp) : ta (tb_X12_send C) 0 = tr_aload 1 0 := rfl
theorem a_X12_send_1 (C : Nat → Sp) : ta (tb_X12_send C) 1 = tr_iload 2 1 := rfl
theorem a_X12_send_2 (C : Nat → Sp) : ta (tb_X12_send C) 2 = tr_callV (C 97) 5 13 1 := rfl
theorem a_X12_send_5 (C : Nat → Sp) : ta (tb_X12_send C) 5 = tr_ifne 8 10 := rfl
theorem a_X12_send_8 (C : Nat → Sp) : ta (tb_X12_send C) 8 = tr_ic 9 (-1) := rfl
theorem a_X12_send_9 (C : Nat → Sp) : ta (tb_X12_send C) 9 = tr_iret := rfl
theorem a_X12_send_10 (C : Nat → Sp) : ta (tb_X12_send C) 10 = tr_aload 11 0 := rfl
theorem a_X12_send_11 (C : Nat → Sp) : ta (tb_X12_send C) 11 = tr_ic 12 0 := rfl
theorem a_X12_send_12 (C : Nat → Sp) : ta (tb_X12_send C) 12 = tr_putZ 15 13 1239 := rfl
theorem a_X12_send_15 (C : Nat → Sp) : ta (tb_X12_send C) 15 = tr_aload 16 0 := rfl
theorem a_X12_send_16 (C : Nat → Sp) : ta (tb_X12_send C) 16 = tr_ic 17 0 := rfl
theorem a_X12_send_17 (C : Nat → Sp) : ta (tb_X12_send C) 17 = tr_putI 20 13 1240 := rfl
theorem a_X12_send_20 (C : Nat → Sp) : ta (tb_X12_send C) 20 = tr_aload 21 0 := rfl
theorem a_X12_send_21 (C : Nat → Sp) : ta (tb_X12_send C) 21 = tr_ic 22 0 := rfl
theorem a_X12_send_22 (C : Nat → Sp) : ta (tb_X12_send C) 22 = tr_putI 25 13 1241 := rfl
theorem a_X12_send_25 (C : Nat → Sp) : ta (tb_X12_send C) 25 = tr_aload 26 0 := rfl
theorem a_X12_send_26 (C : Nat → Sp) : ta (tb_X12_send C) 26 = tr_ic 27 0 := rfl
theorem a_X12_send_27 (C : Nat → Sp) : ta (tb_X12_send C) 27 = tr_putI 30 13 1242 := rfl
theorem a_X12_send_30 (C : Nat → Sp) : ta (tb_X12_send C) 30 = tr_aload 31 0 := rfl
theorem a_X12_send_31 (C : Nat → Sp) : ta (tb_X12_send C) 31 = tr_ic 32 0 := rfl
theorem a_X12_send_32 (C : Nat → Sp) : ta (tb_X12_send C) 32 = tr_putI 35 13 1243 := rfl
theorem a_X12_send_35 (C : Nat → Sp) : ta (tb_X12_send C) 35 = tr_aload 36 0 := rfl
theorem a_X12_send_36 (C : Nat → Sp) : ta (tb_X12_send C) 36 = tr_ic 37 0 := rfl
theorem a_X12_send_37 (C : Nat → Sp) : ta (tb_X12_send C) 37 = tr_putI 40 13 1244 := rfl
theorem a_X12_send_40 (C : Nat → Sp) : ta (tb_X12_send C) 40 = tr_aload 41 0 := rfl
theorem a_X12_send_41 (C : Nat → Sp) : ta (tb_X12_send C) 41 = tr_ic 42 0 := rfl
theorem a_X12_send_42 (C : Nat → Sp) : ta (tb_X12_send C) 42 = tr_putI 45 13 1245 := rfl
theorem a_X12_send_45 (C : Nat → Sp) : ta (tb_X12_send C) 45 = tr_aload 46 0 := rfl
theorem a_X12_send_46 (C : Nat → Sp) : ta (tb_X12_send C) 46 = tr_ic 48 (-4) := rfl
theorem a_X12_send_48 (C : Nat → Sp) : ta (tb_X12_send C) 48 = tr_putI 51 13 1246 := rfl
theorem a_X12_send_51 (C : Nat → Sp) : ta (tb_X12_send C) 51 = tr_aload 52 0 := rfl
theorem a_X12_send_52 (C : Nat → Sp) : ta (tb_X12_send C) 52 = tr_ic 53 0 := rfl
theorem a_X12_send_53 (C : Nat → Sp) : ta (tb_X12_send C) 53 = tr_putI 56 13 1236 := rfl
theorem a_X12_send_56 (C : Nat → Sp) : ta (tb_X12_send C) 56 = tr_aload 57 0 := rfl
theorem a_X12_send_57 (C : Nat → Sp) : ta (tb_X12_send C) 57 = tr_ic 58 0 := rfl
theorem a_X12_send_58 (C : Nat → Sp) : ta (tb_X12_send C) 58 = tr_putI 61 13 1225 := rfl
theorem a_X12_send_61 (C : Nat → Sp) : ta (tb_X12_send C) 61 = tr_aload 62 0 := rfl
theorem a_X12_send_62 (C : Nat → Sp) : ta (tb_X12_send C) 62 = tr_iload 63 1 := rfl
theorem a_X12_send_63 (C : Nat → Sp) : ta (tb_X12_send C) 63 = tr_lload 64 2 := rfl
theorem a_X12_send_64 (C : Nat → Sp) : ta (tb_X12_send C) 64 = tr_callV (C 117) 67 13 2 := rfl
theorem a_X12_send_67 (C : Nat → Sp) : ta (tb_X12_send C) 67 = tr_aload 68 0 := rfl
theorem a_X12_send_68 (C : Nat → Sp) : ta (tb_X12_send C) 68 = tr_getI 71 13 1225 := rfl
theorem a_X12_send_71 (C : Nat → Sp) : ta (tb_X12_send C) 71 = tr_ifle 74 82 := rfl
theorem a_X12_send_74 (C : Nat → Sp) : ta (tb_X12_send C) 74 = tr_aload 75 0 := rfl
theorem a_X12_send_75 (C : Nat → Sp) : ta (tb_X12_send C) 75 = tr_ic 76 1 := rfl
theorem a_X12_send_76 (C : Nat → Sp) : ta (tb_X12_send C) 76 = tr_callV (C 125) 79 13 1 := rfl
theorem a_X12_send_79 (C : Nat → Sp) : ta (tb_X12_send C) 79 = tr_goto 67 := rfl
theorem a_X12_send_82 (C : Nat → Sp) : ta (tb_X12_send C) 82 = tr_aload 83 0 := rfl
theorem a_X12_send_83 (C : Nat → Sp) : ta (tb_X12_send C) 83 = tr_getI 86 13 1236 := rfl
theorem a_X12_send_86 (C : Nat → Sp) : ta (tb_X12_send C) 86 = tr_ifle 89 200 := rfl
theorem a_X12_send_89 (C : Nat → Sp) : ta (tb_X12_send C) 89 = tr_aload 90 0 := rfl
theorem a_X12_send_90 (C : Nat → Sp) : ta (tb_X12_send C) 90 = tr_getI 93 13 1240 := rfl
theorem a_X12_send_93 (C : Nat → Sp) : ta (tb_X12_send C) 93 = tr_ic 95 60 := rfl
theorem a_X12_send_95 (C : Nat → Sp) : ta (tb_X12_send C) 95 = tr_icge 98 200 := rfl
theorem a_X12_send_98 (C : Nat → Sp) : ta (tb_X12_send C) 98 = tr_aload 99 0 := rfl
theorem a_X12_send_99 (C : Nat → Sp) : ta (tb_X12_send C) 99 = tr_getR 102 13 1237 := rfl
theorem a_X12_send_102 (C : Nat → Sp) : ta (tb_X12_send C) 102 = tr_ic 103 0 := rfl
theorem a_X12_send_103 (C : Nat → Sp) : ta (tb_X12_send C) 103 = tr_iald 104 := rfl
theorem a_X12_send_104 (C : Nat → Sp) : ta (tb_X12_send C) 104 = tr_istore 106 4 := rfl
theorem a_X12_send_106 (C : Nat → Sp) : ta (tb_X12_send C) 106 = tr_aload 107 0 := rfl
set_option maxRecDepth 20000 in
theorem a_X12_send_107 (C : Nat → Sp) : ta (tb_X12_send C) 107 = tr_getR 110 13 1238 := rfl
set_option maxRecDepth 20000 in
theorem a_X12_send_110 (C : Nat → Sp) : ta (tb_X12_send C) 110 = tr_ic 111 0 := rfl
set_option maxRecDepth 20000 in
theorem a_X12_send_111 (C : Nat → Sp) : ta (tb_X12_send C) 111 = tr_lald 112 := rfl
set_option maxRecDepth 20000 in
theorem a_X12_send_112 (C : Nat → Sp) : ta (tb_X12_send C) 112 = tr_lstore 114 5 := rfl
set_option maxRecDepth 20000 in
theorem a_X12_send_114 (C : Nat → Sp) : ta (tb_X12_send C) 114 = tr_ic 115 1 := rfl
set_option maxRecDepth 20000 in
theorem a_X12_send_115 (C : Nat → Sp) : ta (tb_X12_send C) 115 = tr_istore 117 7 := rfl
set_option maxRecDepth 20000 in
theorem a_X12_send_117 (C : Nat → Sp) : ta (tb_X12_send C) 117 = tr_iload 119 7 := rfl
set_option maxRecDepth 20000 in
theorem a_X12_send_119 (C : Nat → Sp) : ta (tb_X12_send C) 119 = tr_aload 120 0 := rfl
set_option maxRecDepth 20000 in
theorem a_X12_send_120 (C : Nat → Sp) : ta (tb_X12_send C) 120 = tr_getI 123 13 1236 := rfl
set_option maxRecDepth 20000 in
theorem a_X12_send_123 (C : Nat → Sp) : ta (tb_X12_send C) 123 = tr_icge 126 164 := rfl
set_option maxRecDepth 20000 in
theorem a_X12_send_126 (C : Nat → Sp) : ta (tb_X12_send C) 126 = tr_aload 127 0 := rfl
set_option maxRecDepth 20000 in
theorem a_X12_send_127 (C : Nat → Sp) : ta (tb_X12_send C) 127 = tr_getR 130 13 1237 := rfl
set_option maxRecDepth 20000 in
theorem a_X12_send_130 (C : Nat → Sp) : ta (tb_X12_send C) 130 = tr_iload 132 7 := rfl
set_option maxRecDepth 20000 in
theorem a_X12_send_132 (C : Nat → Sp) : ta (tb_X12_send C) 132 = tr_ic 133 1 := rfl
set_option maxRecDepth 20000 in
theorem a_X12_send_133 (C : Nat → Sp) : ta (tb_X12_send C) 133 = tr_isub 134 := rfl
set_option maxRecDepth 20000 in
theorem a_X12_send_134 (C : Nat → Sp) : ta (tb_X12_send C) 134 = tr_aload 135 0 := rfl
set_option maxRecDepth 20000 in
theorem a_X12_send_135 (C : Nat → Sp) : ta (tb_X12_send C) 135 = tr_getR 138 13 1237 := rfl
set_option maxRecDepth 20000 in
theorem a_X12_send_138 (C : Nat → Sp) : ta (tb_X12_send C) 138 = tr_iload 140 7 := rfl
set_option maxRecDepth 20000 in
theorem a_X12_send_140 (C : Nat → Sp) : ta (tb_X12_send C) 140 = tr_iald 141 := rfl
set_option maxRecDepth 20000 in
theorem a_X12_send_141 (C : Nat → Sp) : ta (tb_X12_send C) 141 = tr_iast 142 := rfl
set_option maxRecDepth 20000 in
theorem a_X12_send_142 (C : Nat → Sp) : ta (tb_X12_send C) 142 = tr_aload 143 0 := rfl
set_option maxRecDepth 20000 in
theorem a_X12_send_143 (C : Nat → Sp) : ta (tb_X12_send C) 143 = tr_getR 146 13 1238 := rfl
set_option maxRecDepth 20000 in
theorem a_X12_send_146 (C : Nat → Sp) : ta (tb_X12_send C) 146 = tr_iload 148 7 := rfl
set_option maxRecDepth 20000 in
theorem a_X12_send_148 (C : Nat → Sp) : ta (tb_X12_send C) 148 = tr_ic 149 1 := rfl
set_option maxRecDepth 20000 in
theorem a_X12_send_149 (C : Nat → Sp) : ta (tb_X12_send C) 149 = tr_isub 150 := rfl
set_option maxRecDepth 20000 in
theorem a_X12_send_150 (C : Nat → Sp) : ta (tb_X12_send C) 150 = tr_aload 151 0 := rfl
set_option maxRecDepth 20000 in
theorem a_X12_send_151 (C : Nat → Sp) : ta (tb_X12_send C) 151 = tr_getR 154 13 1238 := rfl
set_option maxRecDepth 20000 in
theorem a_X12_send_154 (C : Nat → Sp) : ta (tb_X12_send C) 154 = tr_iload 156 7 := rfl
set_option maxRecDepth 20000 in
theorem a_X12_send_156 (C : Nat → Sp) : ta (tb_X12_send C) 156 = tr_lald 157 := rfl
set_option maxRecDepth 20000 in
theorem a_X12_send_157 (C : Nat → Sp) : ta (tb_X12_send C) 157 = tr_last 158 := rfl
set_option maxRecDepth 20000 in
theorem a_X12_send_158 (C : Nat → Sp) : ta (tb_X12_send C) 158 = tr_iinc 161 7 1 := rfl
set_option maxRecDepth 20000 in
theorem a_X12_send_161 (C : Nat → Sp) : ta (tb_X12_send C) 161 = tr_goto 117 := rfl
set_option maxRecDepth 20000 in
theorem a_X12_send_164 (C : Nat → Sp) : ta (tb_X12_send C) 164 = tr_aload 165 0 := rfl
set_option maxRecDepth 20000 in
theorem a_X12_send_165 (C : Nat → Sp) : ta (tb_X12_send C) 165 = tr_dup 166 := rfl
set_option maxRecDepth 20000 in
theorem a_X12_send_166 (C : Nat → Sp) : ta (tb_X12_send C) 166 = tr_getI 169 13 1236 := rfl
set_option maxRecDepth 20000 in
theorem a_X12_send_169 (C : Nat → Sp) : ta (tb_X12_send C) 169 = tr_ic 170 1 := rfl
set_option maxRecDepth 20000 in
theorem a_X12_send_170 (C : Nat → Sp) : ta (tb_X12_send C) 170 = tr_isub 171 := rfl
set_option maxRecDepth 20000 in
theorem a_X12_send_171 (C : Nat → Sp) : ta (tb_X12_send C) 171 = tr_putI 174 13 1236 := rfl
set_option maxRecDepth 20000 in
theorem a_X12_send_174 (C : Nat → Sp) : ta (tb_X12_send C) 174 = tr_aload 175 0 := rfl
set_option maxRecDepth 20000 in
theorem a_X12_send_175 (C : Nat → Sp) : ta (tb_X12_send C) 175 = tr_iload 177 4 := rfl
set_option maxRecDepth 20000 in
theorem a_X12_send_177 (C : Nat → Sp) : ta (tb_X12_send C) 177 = tr_lload 179 5 := rfl
set_option maxRecDepth 20000 in
theorem a_X12_send_179 (C : Nat → Sp) : ta (tb_X12_send C) 179 = tr_callV (C 117) 182 13 2 := rfl
set_option maxRecDepth 20000 in
theorem a_X12_send_182 (C : Nat → Sp) : ta (tb_X12_send C) 182 = tr_aload 183 0 := rfl
set_option maxRecDepth 20000 in
theorem a_X12_send_183 (C : Nat → Sp) : ta (tb_X12_send C) 183 = tr_getI 186 13 1225 := rfl
set_option maxRecDepth 20000 in
theorem a_X12_send_186 (C : Nat → Sp) : ta (tb_X12_send C) 186 = tr_ifle 189 197 := rfl
set_option maxRecDepth 20000 in
theorem a_X12_send_189 (C : Nat → Sp) : ta (tb_X12_send C) 189 = tr_aload 190 0 := rfl
set_option maxRecDepth 20000 in
theorem a_X12_send_190 (C : Nat → Sp) : ta (tb_X12_send C) 190 = tr_ic 191 0 := rfl
set_option maxRecDepth 20000 in
theorem a_X12_send_191 (C : Nat → Sp) : ta (tb_X12_send C) 191 = tr_callV (C 125) 194 13 1 := rfl
set_option maxRecDepth 20000 in
theorem a_X12_send_194 (C : Nat → Sp) : ta (tb_X12_send C) 194 = tr_goto 182 := rfl
set_option maxRecDepth 20000 in
theorem a_X12_send_197 (C : Nat → Sp) : ta (tb_X12_send C) 197 = tr_goto 82 := rfl
set_option maxRecDepth 20000 in
theorem a_X12_send_200 (C : Nat → Sp) : ta (tb_X12_send C) 200 = tr_aload 201 0 := rfl
set_option maxRecDepth 20000 in
theorem a_X12_send_201 (C : Nat → Sp) : ta (tb_X12_send C) 201 = tr_getI 204 13 1240 := rfl
set_option maxRecDepth 20000 in
theorem a_X12_send_204 (C : Nat → Sp) : ta (tb_X12_send C) 204 = tr_iret := rfl

def tb_X12_told_0 (C : Nat → Sp) : Tab := [(0, tr_iload 1 1), (1, tr_sw 0 [48, 61, 66, 71, 76, 81, 86, 91] 96), (48, tr_aload 49 0), (49, tr_getI 52 13 1239), (52, tr_ifeq 55 59), (55, tr_ic 56 1), (56, tr_goto 60), (59, tr_ic 60 0), (60, tr_iret), (61, tr_aload 62 0), (62, tr_getI 65 13 1240), (65, tr_iret), (66, tr_aload 67 0), (67, tr_getI 70 13 1241), (70, tr_iret), (71, tr_aload 72 0), (72, tr_getI 75 13 1242), (75, tr_iret), (76, tr_aload 77 0), (77, tr_getI 80 13 1243), (80, tr_iret), (81, tr_aload 82 0), (82, tr_getI 85 13 1244), (85, tr_iret), (86, tr_aload 87 0), (87, tr_getI 90 13 1245), (90, tr_iret), (91, tr_aload 92 0), (92, tr_getI 95 13 1246), (95, tr_iret), (96, tr_ic 97 (-1)), (97, tr_iret)]
set_option maxRecDepth 20000 in
theorem tbk_X12_told_0 {D : DD} {d : Nat} {C : Nat → Sp} (hC : Snd D d C) : ∀ e ∈ tb_X12_told_0 C, TrOk D (d + 1) mi_X12_told e.1 e.2 :=
  tk_c (show TrOk D (d + 1) mi_X12_told 0 (tr_iload 1 1) from ok_iload_n (show decode mi_X12_told.2.1 0 = .ok (.iload_n 1, 1) from by decide +kernel) rfl) <|
  tk_c (show TrOk D (d + 1) mi_X12_told 1 (tr_sw 0 [48, 61, 66, 71, 76, 81, 86, 91] 96) from ok_sw 0 (show decode mi_X12_told.2.1 1 = .ok (.tableswitch 95 0 7 #[47, 60, 65, 70, 75, 80, 85, 90], 47) from by decide +kernel) rfl rfl (by decide) (by decide) (by decide) (by decide +kernel)) <|
  tk_c (show TrOk D (d + 1) mi_X12_told 48 (tr_aload 49 0) from ok_aload_n (show decode mi_X12_told.2.1 48 = .ok (.aload_n 0, 1) from by decide +kernel) rfl) <|
  tk_c (show TrOk D (d + 1) mi_X12_told 49 (tr_getI 52 13 1239) from ok_getI (ci := 12) (k := 39) (show decode mi_X12_told.2.1 49 = .ok (.getfield 206, 3) from by decide +kernel) rfl (by decide) (gm 820 (by decide +kernel) rfl) rfl) <|
  tk_c (show TrOk D (d + 1) mi_X12_told 52 (tr_ifeq 55 59) from ok_ifeq (show decode mi_X12_told.2.1 52 = .ok (.ifCond .eq 7, 3) from by decide +kernel) (by decide)) <|
  tk_c (show TrOk D (d + 1) mi_X12_told 55 (tr_ic 56 1) from ok_iconst (show decode mi_X12_told.2.1 55 = .ok (.iconst 1, 1) from by decide +kernel) rfl) <|
  tk_c (show TrOk D (d + 1) mi_X12_told 56 (tr_goto 60) from ok_goto (show decode mi_X12_told.2.1 56 = .ok (.goto 4, 3) from by decide +kernel) (by decide)) <|
  tk_c (show TrOk D (d + 1) mi_X12_told 59 (tr_ic 60 0) from ok_iconst (show decode mi_X12_told.2.1 59 = .ok (.iconst 0, 1) from by decide +kernel) rfl) <|
  tk_c (show TrOk D (d + 1) mi_X12_told 60 (tr_iret) from ok_iret (show decode mi_X12_told.2.1 60 = .ok (.ireturn, 1) from by decide +kernel) rfl) <|
  tk_c (show TrOk D (d + 1) mi_X12_told 61 (tr_aload 62 0) from ok_aload_n (show decode mi_X12_told.2.1 61 = .ok (.aload_n 0, 1) from by decide +kernel) rfl) <|
  tk_c (show TrOk D (d + 1) mi_X12_told 62 (tr_getI 65 13 1240) from ok_getI (ci := 12) (k := 40) (show decode mi_X12_told.2.1 62 = .ok (.getfield 196, 3) from by decide +kernel) rfl (by decide) (gm 821 (by decide +kernel) rfl) rfl) <|
  tk_c (show TrOk D (d + 1) mi_X12_told 65 (tr_iret) from ok_iret (show decode mi_X12_told.2.1 65 = .ok (.ireturn, 1) from by decide +kernel) rfl) <|
  tk_c (show TrOk D (d + 1) mi_X12_told 66 (tr_aload 67 0) from ok_aload_n (show decode mi_X12_told.2.1 66 = .ok (.aload_n 0, 1) from by decide +kernel) rfl) <|
  tk_c (show TrOk D (d + 1) mi_X12_told 67 (tr_getI 70 13 1241) from ok_getI (ci := 12) (k := 41) (show decode mi_X12_told.2.1 67 = .ok (.getfield 256, 3) from by decide +kernel) rfl (by decide) (gm 822 (by decide +kernel) rfl) rfl) <|
  tk_c (show TrOk D (d + 1) mi_X12_told 70 (tr_iret) from ok_iret (show decode mi_X12_told.2.1 70 = .ok (.ireturn, 1) from by decide +kernel) rfl) <|
  tk_c (show TrOk D (d + 1) mi_X12_told 71 (tr_aload 72 0) from ok_aload_n (show decode mi_X12_told.2.1 71 = .ok (.aload_n 0, 1) from by decide +kernel) rfl) <|
  tk_c (show TrOk D (d + 1) mi_X12_told 72 (tr_getI 75 13 1242) from ok_getI (ci := 12) (k := 42) (show decode mi_X12_told.2.1 72 = .ok (.getfield 224, 3) from by decide +kernel) rfl (by decide) (gm 823 (by decide +kernel) rfl) rfl) <|
  tk_c (show TrOk D (d + 1) mi_X12_told 75 (tr_iret) from ok_iret (show decode mi_X12_told.2.1 75 = .ok (.ireturn, 1) from by decide +kernel) rfl) <|
  tk_c (show TrOk D (d + 1) mi_X12_told 76 (tr_aload 77 0) from ok_aload_n (show decode mi_X12_told.2.1 76 = .ok (.aload_n 0, 1) from by decide +kernel) rfl) <|
  tk_c (show TrOk D (d + 1) mi_X12_told 77 (tr_getI 80 13 1243) from ok_getI (ci := 12) (k := 43) (show decode mi_X12_told.2.1 77 = .ok (.getfield 214, 3) from by decide +kernel) rfl (by decide) (gm 824 (by decide +kernel) rfl) rfl) <|
  tk_c (show TrOk D (d + 1) mi_X12_told 80 (tr_iret) from ok_iret (show decode mi_X12_told.2.1 80 = .ok (.ireturn, 1) from by decide +kernel) rfl) <|
  tk_c (show TrOk D (d + 1) mi_X12_told 81 (tr_aload 82 0) from ok_aload_n (show decode mi_X12_told.2.1 81 = .ok (.aload_n 0, 1) from by decide +kernel) rfl) <|
  tk_c (show TrOk D (d + 1) mi_X12_told 82 (tr_getI 85 13 1244) from ok_getI (ci := 12) (k := 44) (show decode mi_X12_told.2.1 82 = .ok (.getfield 217, 3) from by decide +kernel) rfl (by decide) (gm 825 (by decide +kernel) rfl) rfl) <|
  tk_c (show TrOk D (d + 1) mi_X12_told 85 (tr_iret) from ok_iret (show decode mi_X12_told.2.1 85 = .ok (.ireturn, 1) from by decide +kernel) rfl) <|
  tk_c (show TrOk D (d + 1) mi_X12_told 86 (tr_aload 87 0) from ok_aload_n (show decode mi_X12_told.2.1 86 = .ok (.aload_n 0, 1) from by decide +kernel) rfl) <|
  tk_c (show TrOk D (d + 1) mi_X12_told 87 (tr_getI 90 13 1245) from ok_getI (ci := 12) (k := 45) (show decode mi_X12_told.2.1 87 = .ok (.getfield 193, 3) from by decide +kernel) rfl (by decide) (gm 826 (by decide +kernel) rfl) rfl) <|
  tk_c (show TrOk D (d + 1) mi_X12_told 90 (tr_iret) from ok_iret (show decode mi_X12_told.2.1 90 = .ok (.ireturn, 1) from by decide +kernel) rfl) <|
  tk_c (show TrOk D (d + 1) mi_X12_told 91 (tr_aload 92 0) from ok_aload_n (show decode mi_X12_told.2.1 91 = .ok (.aload_n 0, 1) from by decide +kernel) rfl) <|
  tk_c (show TrOk D (d + 1) mi_X12_told 92 (tr_getI 95 13 1246) from ok_getI (ci := 12) (k := 46) (show decode mi_X12_told.2.1 92 = .ok (.getfield 111, 3) from by decide +kernel) rfl (by decide) (gm 827 (by decide +kernel) rfl) rfl) <|
  tk_c (show TrOk D (d + 1) mi_X12_told 95 (tr_iret) from ok_iret (show decode mi_X12_told.2.1 95 = .ok (.ireturn, 1) from by decide +kernel) rfl) <|
  tk_c (show TrOk D (d + 1) mi_X12_told 96 (tr_ic 97 (-1)) from ok_iconst (show decode mi_X12_told.2.1 96 = .ok (.iconst (-1), 1) from by decide +kernel) rfl) <|
  tk_c (show TrOk D (d + 1) mi_X12_told 97 (tr_iret) from ok_iret (show decode mi_X12_told.2.1 97 = .ok (.ireturn, 1) from by decide +kernel) rfl) <|
  tk_n
def tb_X12_told (C : Nat → Sp) : Tab := tb_X12_told_0 C
theorem tbk_X12_told {D : DD} {d : Nat} {C : Nat → Sp} (hC : Snd D d C) : ∀ e ∈ tb_X12_told C, TrOk D (d + 1) mi_X12_told e.1 e.2 := tbk_X12_told_0 hC
theorem a_X12_told_0 (C : Nat → Sp) : ta (tb_X12_told C) 0 = tr_iload 1 1 := rfl
theorem a_X12_told_1 (C : Nat → Sp) : ta (tb_X12_told C) 1 = tr_sw 0 [48, 61, 66, 71, 76, 81, 86, 91] 96 := rfl
theorem a_X12_told_48 (C : Nat → Sp) : ta (tb_X12_told C) 48 = tr_aload 49 0 := rfl
theorem a_X12_told_49 (C : Nat → Sp) : ta (tb_X12_told C) 49 = tr_getI 52 13 1239 := rfl
theorem a_X12_told_52 (C : Nat → Sp) : ta (tb_X12_told C) 52 = tr_ifeq 55 59 := rfl
theorem a_X12_told_55 (C : Nat → Sp) : ta (tb_X12_told C) 55 = tr_ic 56 1 := rfl
theorem a_X12_told_56 (C : Nat → Sp) : ta (tb_X12_told C) 56 = tr_goto 60 := rfl
theorem a_X12_told_59 (C : Nat → Sp) : ta (tb_X12_told C) 59 = tr_ic 60 0 := rfl
theorem a_X12_told_60 (C : Nat → Sp) : ta (tb_X12_told C) 60 = tr_iret := rfl
theorem a_X12_told_61 (C : Nat → Sp) : ta (tb_X12_told C) 61 = tr_aload 62 0 := rfl
theorem a_X12_told_62 (C : Nat → Sp) : ta (tb_X12_told C) 62 = tr_getI 65 13 1240 := rfl
theorem a_X12_told_65 (C : Nat → Sp) : ta (tb_X12_told C) 65 = tr_iret := rfl
theorem a_X12_told_66 (C : Nat → Sp) : ta (tb_X12_told C) 66 = tr_aload 67 0 := rfl
theorem a_X12_told_67 (C : Nat → Sp) : ta (tb_X12_told C) 67 = tr_getI 70 13 1241 := rfl
theorem a_X12_told_70 (C : Nat → Sp) : ta (tb_X12_told C) 70 = tr_iret := rfl
theorem a_X12_told_71 (C : Nat → Sp) : ta (tb_X12_told C) 71 = tr_aload 72 0 := rfl
theorem a_X12_told_72 (C : Nat → Sp) : ta (tb_X12_told C) 72 = tr_getI 75 13 1242 := rfl
theorem a_X12_told_75 (C : Nat → Sp) : ta (tb_X12_told C) 75 = tr_iret := rfl
theorem a_X12_told_76 (C : Nat → Sp) : ta (tb_X12_told C) 76 = tr_aload 77 0 := rfl
theorem a_X12_told_77 (C : Nat → Sp) : ta (tb_X12_told C) 77 = tr_getI 80 13 1243 := rfl
theorem a_X12_told_80 (C : Nat → Sp) : ta (tb_X12_told C) 80 = tr_iret := rfl
theorem a_X12_told_81 (C : Nat → Sp) : ta (tb_X12_told C) 81 = tr_aload 82 0 := rfl
theorem a_X12_told_82 (C : Nat → Sp) : ta (tb_X12_told C) 82 = tr_getI 85 13 1244 := rfl
theorem a_X12_told_85 (C : Nat → Sp) : ta (tb_X12_told C) 85 = tr_iret := rfl
theorem a_X12_told_86 (C : Nat → Sp) : ta (tb_X12_told C) 86 = tr_aload 87 0 := rfl
theorem a_X12_told_87 (C : Nat → Sp) : ta (tb_X12_told C) 87 = tr_getI 90 13 1245 := rfl
theorem a_X12_told_90 (C : Nat → Sp) : ta (tb_X12_told C) 90 = tr_iret := rfl
theorem a_X12_told_91 (C : Nat → Sp) : ta (tb_X12_told C) 91 = tr_aload 92 0 := rfl
theorem a_X12_told_92 (C : Nat → Sp) : ta (tb_X12_told C) 92 = tr_getI 95 13 1246 := rfl
theorem a_X12_told_95 (C : Nat → Sp) : ta (tb_X12_told C) 95 = tr_iret := rfl
theorem a_X12_told_96 (C : Nat → Sp) : ta (tb_X12_told C) 96 = tr_ic 97 (-1) := rfl
theorem a_X12_told_97 (C : Nat → Sp) : ta (tb_X12_told C) 97 = tr_iret := rfl

def tb_X12_value_0 (C : Nat → Sp) : Tab := [(0, tr_aload 1 0), (1, tr_getL 4 13 1247), (4, tr_lret)]
set_option maxRecDepth 20000 in
theorem tbk_X12_value_0 {D : DD} {d : Nat} {C : Nat → Sp} (hC : Snd D d C) : ∀ e ∈ tb_X12_value_0 C, TrOk D (d + 1) mi_X12_value e.1 e.2 :=
  tk_c (show TrOk D (d + 1) mi_X12_value 0 (tr_aload 1 0) from ok_aload_n (show decode mi_X12_value.2.1 0 = .ok (.aload_n 0, 1) from by decide +kernel) rfl) <|
  tk_c (show TrOk D (d + 1) mi_X12_value 1 (tr_getL 4 13 1247) from ok_getL (ci := 12) (k := 47) (show decode mi_X12_value.2.1 1 = .ok (.getfield 210, 3) from by decide +kernel) rfl (by decide) (gm 828 (by decide +kernel) rfl) rfl) <|
  tk_c (show TrOk D (d + 1) mi_X12_value 4 (tr_lret) from ok_lret (show decode mi_X12_value.2.1 4 = .ok (.lreturn, 1) from by decide +kernel) rfl) <|
  tk_n
def tb_X12_value (C : Nat → Sp) : Tab := tb_X12_value_0 C
theorem tbk_X12_value {D : DD} {d : Nat} {C : Nat → Sp} (hC : Snd D d C) : ∀ e ∈ tb_X12_value C, TrOk D (d + 1) mi_X12_value e.1 e.2 := tbk_X12_value_0 hC
theorem a_X12_value_0 (C : Nat → Sp) : ta (tb_X12_value C) 0 = tr_aload 1 0 := rfl
theorem a_X12_value_1 (C : Nat → Sp) : ta (tb_X12_value C) 1 = tr_getL 4 13 1247 := rfl
theorem a_X12_value_4 (C : Nat → Sp) : ta (tb_X12_value C) 4 = tr_lret := rfl

def tb_X12_logged_0 (C : Nat → Sp) : Tab := [(0, tr_iload 1 1), (1, tr_i2l 2), (2, tr_lc 3 0), (3, tr_lc 6 99), (6, tr_callS (C 96) 9 3), (9, tr_ifeq 12 29), (12, tr_iload 13 1), (13, tr_aload 14 0), (14, tr_getI 17 13 1242), (17, tr_icge 20 29), (20, tr_aload 21 0), (21, tr_getR 24 13 1248), (24, tr_iload 25 1), (25, tr_lald 26), (26, tr_goto 30), (29, tr_lc 30 0), (30, tr_lret)]
set_option maxRecDepth 20000 in
theorem tbk_X12_logged_0 {D : DD} {d : Nat} {C : Nat → Sp} (hC : Snd D d C) : ∀ e ∈ tb_X12_logged_0 C, TrOk D (d + 1) mi_X12_logged e.1 e.2 :=
  tk_c (show TrOk D (d + 1) mi_X12_logged 0 (tr_iload 1 1) from ok_iload_n (show decode mi_X12_logged.2.1 0 = .ok (.iload_n 1, 1) from by decide +kernel) rfl) <|
  tk_c (show TrOk D (d + 1) mi_X12_logged 1 (tr_i2l 2) from ok_i2l (show decode mi_X12_logged.2.1 1 = .ok (.i2l, 1) from by decide +kernel)) <|
  tk_c (show TrOk D (d + 1) mi_X12_logged 2 (tr_lc 3 0) from ok_lconst (show decode mi_X12_logged.2.1 2 = .ok (.lconst 0, 1) from by decide +kernel) rfl) <|
  tk_c (show TrOk D (d + 1) mi_X12_logged 3 (tr_lc 6 99) from ok_ldc2 (show decode mi_X12_logged.2.1 3 = .ok (.ldc2_w 265, 3) from by decide +kernel) (gm 1090 (by decide +kernel) rfl)) <|
  tk_c (show TrOk D (d + 1) mi_X12_logged 6 (tr_callS (C 96) 9 3) from ok_callS (show decode mi_X12_logged.2.1 6 = .ok (.invokestatic 136, 3) from by decide +kernel) mok_X12_in (gm 955 (by decide +kernel) rfl) (gm 956 (by decide +kernel) rfl) (hC 96)) <|
  tk_c (show TrOk D (d + 1) mi_X12_logged 9 (tr_ifeq 12 29) from ok_ifeq (show decode mi_X12_logged.2.1 9 = .ok (.ifCond .eq 20, 3) from by decide +kernel) (by decide)) <|
  tk_c (show TrOk D (d + 1) mi_X12_logged 12 (tr_iload 13 1) from ok_iload_n (show decode mi_X12_logged.2.1 12 = .ok (.iload_n 1, 1) from by decide +kernel) rfl) <|
  tk_c (show TrOk D (d + 1) mi_X12_logged 13 (tr_aload 14 0) from ok_aload_n (show decode mi_X12_logged.2.1 13 = .ok (.aload_n 0, 1) from by decide +kernel) rfl) <|
  tk_c (show TrOk D (d + 1) mi_X12_logged 14 (tr_getI 17 13 1242) from ok_getI (ci := 12) (k := 42) (show decode mi_X12_logged.2.1 14 = .ok (.getfield 224, 3) from by decide +kernel) rfl (by decide) (gm 823 (by decide +kernel) rfl) rfl) <|
  tk_c (show TrOk D (d + 1) mi_X12_logged 17 (tr_icge 20 29) from ok_icge (show decode mi_X12_logged.2.1 17 = .ok (.if_icmp .ge 12, 3) from by decide +kernel) (by decide)) <|
  tk_c (show TrOk D (d + 1) mi_X12_logged 20 (tr_aload 21 0) from ok_aload_n (show decode mi_X12_logged.2.1 20 = .ok (.aload_n 0, 1) from by decide +kernel) rfl) <|
  tk_c (show TrOk D (d + 1) mi_X12_logged 21 (tr_getR 24 13 1248) from ok_getR (ci := 12) (k := 48) (show decode mi_X12_logged.2.1 21 = .ok (.getfield 115, 3) from by decide +kernel) rfl (by decide) (gm 829 (by decide +kernel) rfl) rfl) <|
  tk_c (show TrOk D (d + 1) mi_X12_logged 24 (tr_iload 25 1) from ok_iload_n (show decode mi_X12_logged.2.1 24 = .ok (.iload_n 1, 1) from by decide +kernel) rfl) <|
  tk_c (show TrOk D (d + 1) mi_X12_logged 25 (tr_lald 26) from ok_lald (show decode mi_X12_logged.2.1 25 = .ok (.laload, 1) from by decide +kernel)) <|
  tk_c (show TrOk D (d + 1) mi_X12_logged 26 (tr_goto 30) from ok_goto (show decode mi_X12_logged.2.1 26 = .ok (.goto 4, 3) from by decide +kernel) (by decide)) <|
  tk_c (show TrOk D (d + 1) mi_X12_logged 29 (tr_lc 30 0) from ok_lconst (show decode mi_X12_logged.2.1 29 = .ok (.lconst 0, 1) from by decide +kernel) rfl) <|
  tk_c (show TrOk D (d + 1) mi_X12_logged 30 (tr_lret) from ok_lret (show decode mi_X12_logged.2.1 30 = .ok (.lreturn, 1) from by decide +kernel) rfl) <|
  tk_n
def tb_X12_logged (C : Nat → Sp) : Tab := tb_X12_logged_0 C
theorem tbk_X12_logged {D : DD} {d : Nat} {C : Nat → Sp} (hC : Snd D d C) : ∀ e ∈ tb_X12_logged C, TrOk D (d + 1) mi_X12_logged e.1 e.2 := tbk_X12_logged_0 hC
theorem a_X12_logged_0 (C : Nat → Sp) : ta (tb_X12_logged C) 0 = tr_iload 1 1 := rfl
theorem a_X12_logged_1 (C : Nat → Sp) : ta (tb_X12_logged C) 1 = tr_i2l 2 := rfl
theorem a_X12_logged_2 (C : Nat → Sp) : ta (tb_X12_logged C) 2 = tr_lc 3 0 := rfl
theorem a_X12_logged_3 (C : Nat → Sp) : ta (tb_X12_logged C) 3 = tr_lc 6 99 := rfl
theorem a_X12_logged_6 (C : Nat → Sp) : ta (tb_X12_logged C) 6 = tr_callS (C 96) 9 3 := rfl
theorem a_X12_logged_9 (C : Nat → Sp) : ta (tb_X12_logged C) 9 = tr_ifeq 12 29 := rfl
theorem a_X12_logged_12 (C : Nat → Sp) : ta (tb_X12_logged C) 12 = tr_iload 13 1 := rfl
theorem a_X12_logged_13 (C : Nat → Sp) : ta (tb_X12_logged C) 13 = tr_aload 14 0 := rfl
theorem a_X12_logged_14 (C : Nat → Sp) : ta (tb_X12_logged C) 14 = tr_getI 17 13 1242 := rfl
theorem a_X12_logged_17 (C : Nat → Sp) : ta (tb_X12_logged C) 17 = tr_icge 20 29 := rfl
theorem a_X12_logged_20 (C : Nat → Sp) : ta (tb_X12_logged C) 20 = tr_aload 21 0 := rfl
theorem a_X12_logged_21 (C : Nat → Sp) : ta (tb_X12_logged C) 21 = tr_getR 24 13 1248 := rfl
theorem a_X12_logged_24 (C : Nat → Sp) : ta (tb_X12_logged C) 24 = tr_iload 25 1 := rfl
theorem a_X12_logged_25 (C : Nat → Sp) : ta (tb_X12_logged C) 25 = tr_lald 26 := rfl
theorem a_X12_logged_26 (C : Nat → Sp) : ta (tb_X12_logged C) 26 = tr_goto 30 := rfl
theorem a_X12_logged_29 (C : Nat → Sp) : ta (tb_X12_logged C) 29 = tr_lc 30 0 := rfl
theorem a_X12_logged_30 (C : Nat → Sp) : ta (tb_X12_logged C) 30 = tr_lret := rfl

def tb_X12_failure_0 (C : Nat → Sp) : Tab := [(0, tr_iload 1 1), (1, tr_i2l 2), (2, tr_lc 3 0), (3, tr_aload 4 0), (4, tr_getI 7 13 1243), (7, tr_ic 8 1), (8, tr_isub 9), (9, tr_i2l 10), (10, tr_callS (C 96) 13 3), (13, tr_ifne 16 18), (16, tr_ic 17 (-1)), (17, tr_iret), (18, tr_iload 19 2), (19, tr_ifne 22 31), (22, tr_aload 23 0), (23, tr_getR 26 13 1249), (26, tr_iload 27 1), (27, tr_iald 28), (28, tr_goto 60), (31, tr_iload 32 2), (32, tr_ic 33 1), (33, tr_icne 36 45), (36, tr_aload 37 0), (37, tr_getR 40 13 1250), (40, tr_iload 41 1), (41, tr_iald 42), (42, tr_goto 60), (45, tr_iload 46 2), (46, tr_ic 47 2), (47, tr_icne 50 59), (50, tr_aload 51 0), (51, tr_getR 54 13 1251), (54, tr_iload 55 1), (55, tr_iald 56), (56, tr_goto 60), (59, tr_ic 60 (-1)), (60, tr_iret)]
set_option maxRecDepth 20000 in
theorem tbk_X12_failure_0 {D : DD} {d : Nat} {C : Nat → Sp} (hC : Snd D d C) : ∀ e ∈ tb_X12_failure_0 C, TrOk D (d + 1) mi_X12_failure e.1 e.2 :=
  tk_c (show TrOk D (d + 1) mi_X12_failure 0 (tr_iload 1 1) from ok_iload_n (show decode mi_X12_failure.2.1 0 = .ok (.iload_n 1, 1) from by decide +kernel) rfl) <|
  tk_c (show TrOk D (d + 1) mi_X12_failure 1 (tr_i2l 2) from ok_i2l (show decode mi_X12_failure.2.1 1 = .ok (.i2l, 1) from by decide +kernel)) <|
  tk_c (show TrOk D (d + 1) mi_X12_failure 2 (tr_lc 3 0) from ok_lconst (show decode mi_X12_failure.2.1 2 = .ok (.lconst 0, 1) from by decide +kernel) rfl) <|
  tk_c (show TrOk D (d + 1) mi_X12_failure 3 (tr_aload 4 0) from ok_aload_n (show decode mi_X12_failure.2.1 3 = .ok (.aload_n 0, 1) from by decide +kernel) rfl) <|
  tk_c (show TrOk D (d + 1) mi_X12_failure 4 (tr_getI 7 13 1243) from ok_getI (ci := 12) (k := 43) (show decode mi_X12_failure.2.1 4 = .ok (.getfield 214, 3) from by decide +kernel) rfl (by decide) (gm 824 (by decide +kernel) rfl) rfl) <|
  tk_c (show TrOk D (d + 1) mi_X12_failure 7 (tr_ic 8 1) from ok_iconst (show decode mi_X12_failure.2.1 7 = .ok (.iconst 1, 1) from by decide +kernel) rfl) <|
  tk_c (show TrOk D (d + 1) mi_X12_failure 8 (tr_isub 9) from ok_isub (show decode mi_X12_failure.2.1 8 = .ok (.isub, 1) from by decide +kernel)) <|
  tk_c (show TrOk D (d + 1) mi_X12_failure 9 (tr_i2l 10) from ok_i2l (show decode mi_X12_failure.2.1 9 = .ok (.i2l, 1) from by decide +kernel)) <|
  tk_c (show TrOk D (d + 1) mi_X12_failure 10 (tr_callS (C 96) 13 3) from ok_callS (show decode mi_X12_failure.2.1 10 = .ok (.invokestatic 136, 3) from by decide +kernel) mok_X12_in (gm 955 (by decide +kernel) rfl) (gm 956 (by decide +kernel) rfl) (hC 96)) <|
  tk_c (show TrOk D (d + 1) mi_X12_failure 13 (tr_ifne 16 18) from ok_ifne (show decode mi_X12_failure.2.1 13 = .ok (.ifCond .ne 5, 3) from by decide +kernel) (by decide)) <|
  tk_c (show TrOk D (d + 1) mi_X12_failure 16 (tr_ic 17 (-1)) from ok_iconst (show decode mi_X12_failure.2.1 16 = .ok (.iconst (-1), 1) from by decide +kernel) rfl) <|
  tk_c (show TrOk D (d + 1) mi_X12_failure 17 (tr_iret) from ok_iret (show decode mi_X12_failure.2.1 17 = .ok (.ireturn, 1) from by decide +kernel) rfl) <|
  tk_c (show TrOk D (d + 1) mi_X12_failure 18 (tr_iload 19 2) from ok_iload_n (show decode mi_X12_failure.2.1 18 = .ok (.iload_n 2, 1) from by decide +kernel) rfl) <|
  tk_c (show TrOk D (d + 1) mi_X12_failure 19 (tr_ifne 22 31) from ok_ifne (show decode mi_X12_failure.2.1 19 = .ok (.ifCond .ne 12, 3) from by decide +kernel) (by decide)) <|
  tk_c (show TrOk D (d + 1) mi_X12_failure 22 (tr_aload 23 0) from ok_aload_n (show decode mi_X12_failure.2.1 22 = .ok (.aload_n 0, 1) from by decide +kernel) rfl) <|
  tk_c (show TrOk D (d + 1) mi_X12_failure 23 (tr_getR 26 13 1249) from ok_getR (ci := 12) (k := 49) (show decode mi_X12_failure.2.1 23 = .ok (.getfield 118, 3) from by decide +kernel) rfl (by decide) (gm 830 (by decide +kernel) rfl) rfl) <|
  tk_c (show TrOk D (d + 1) mi_X12_failure 26 (tr_iload 27 1) from ok_iload_n (show decode mi_X12_failure.2.1 26 = .ok (.iload_n 1, 1) from by decide +kernel) rfl) <|
  tk_c (show TrOk D (d + 1) mi_X12_failure 27 (tr_iald 28) from ok_iald (show decode mi_X12_failure.2.1 27 = .ok (.iaload, 1) from by decide +kernel)) <|
  tk_c (show TrOk D (d + 1) mi_X12_failure 28 (tr_goto 60) from ok_goto (show decode mi_X12_failure.2.1 28 = .ok (.goto 32, 3) from by decide +kernel) (by decide)) <|
  tk_c (show TrOk D (d + 1) mi_X12_failure 31 (tr_iload 32 2) from ok_iload_n (show decode mi_X12_failure.2.1 31 = .ok (.iload_n 2, 1) from by decide +kernel) rfl) <|
  tk_c (show TrOk D (d + 1) mi_X12_failure 32 (tr_ic 33 1) from ok_iconst (show decode mi_X12_failure.2.1 32 = .ok (.iconst 1, 1) from by decide +kernel) rfl) <|
  tk_c (show TrOk D (d + 1) mi_X12_failure 33 (tr_icne 36 45) from ok_icne (show decode mi_X12_failure.2.1 33 = .ok (.if_icmp .ne 12, 3) from by decide +kernel) (by decide)) <|
  tk_c (show TrOk D (d + 1) mi_X12_failure 36 (tr_aload 37 0) from ok_aload_n (show decode mi_X12_failure.2.1 36 = .ok (.aload_n 0, 1) from by decide +kernel) rfl) <|
  tk_c (show TrOk D (d + 1) mi_X12_failure 37 (tr_getR 40 13 1250) from ok_getR (ci := 12) (k := 50) (show decode mi_X12_failure.2.1 37 = .ok (.getfield 121, 3) from by decide +kernel) rfl (by decide) (gm 831 (by decide +kernel) rfl) rfl) <|
  tk_c (show TrOk D (d + 1) mi_X12_failure 40 (tr_iload 41 1) from ok_iload_n (show decode mi_X12_failure.2.1 40 = .ok (.iload_n 1, 1) from by decide +kernel) rfl) <|
  tk_c (show TrOk D (d + 1) mi_X12_failure 41 (tr_iald 42) from ok_iald (show decode mi_X12_failure.2.1 41 = .ok (.iaload, 1) from by decide +kernel)) <|
  tk_c (show TrOk D (d + 1) mi_X12_failure 42 (tr_goto 60) from ok_goto (show decode mi_X12_failure.2.1 42 = .ok (.goto 18, 3) from by decide +kernel) (by decide)) <|
  tk_c (show TrOk D (d + 1) mi_X12_failure 45 (tr_iload 46 2) from ok_iload_n (show decode mi_X12_failure.2.1 45 = .ok (.iload_n 2, 1) from by decide +kernel) rfl) <|
  tk_c (show TrOk D (d + 1) mi_X12_failure 46 (tr_ic 47 2) from ok_iconst (show decode mi_X12_failure.2.1 46 = .ok (.iconst 2, 1) from by decide +kernel) rfl) <|
  tk_c (show TrOk D (d + 1) mi_X12_failure 47 (tr_icne 50 59) from ok_icne (show decode mi_X12_failure.2.1 47 = .ok (.if_icmp .ne 12, 3) from by decide +kernel) (by decide)) <|
  tk_c (show TrOk D (d + 1) mi_X12_failure 50 (tr_aload 51 0) from ok_aload_n (show decode mi_X12_failure.2.1 50 = .ok (.aload_n 0, 1) from by decide +kernel) rfl) <|
  tk_c (show TrOk D (d + 1) mi_X12_failure 51 (tr_getR 54 13 1251) from ok_getR (ci := 12) (k := 51) (show decode mi_X12_failure.2.1 51 = .ok (.getfield 124, 3) from by decide +kernel) rfl (by decide) (gm 832 (by decide +kernel) rfl) rfl) <|
  tk_c (show TrOk D (d + 1) mi_X12_failure 54 (tr_iload 55 1) from ok_iload_n (show decode mi_X12_failure.2.1 54 = .ok (.iload_n 1, 1) from by decide +kernel) rfl) <|
  tk_c (show TrOk D (d + 1) mi_X12_failure 55 (tr_iald 56) from ok_iald (show decode mi_X12_failure.2.1 55 = .ok (.iaload, 1) from by decide +kernel)) <|
  tk_c (show TrOk D (d + 1) mi_X12_failure 56 (tr_goto 60) from ok_goto (show decode mi_X12_failure.2.1 56 = .ok (.goto 4, 3) from by decide +kernel) (by decide)) <|
  tk_c (show TrOk D (d + 1) mi_X12_failure 59 (tr_ic 60 (-1)) from ok_iconst (show decode mi_X12_failure.2.1 59 = .ok (.iconst (-1), 1) from by decide +kernel) rfl) <|
  tk_c (show TrOk D (d + 1) mi_X12_failure 60 (tr_iret) from ok_iret (show decode mi_X12_failure.2.1 60 = .ok (.ireturn, 1) from by decide +kernel) rfl) <|
  tk_n
def tb_X12_failure (C : Nat → Sp) : Tab := tb_X12_failure_0 C
theorem tbk_X12_failure {D : DD} {d : Nat} {C : Nat → Sp} (hC : Snd D d C) : ∀ e ∈ tb_X12_failure C, TrOk D (d + 1) mi_X12_failure e.1 e.2 := tbk_X12_failure_0 hC
theorem a_X12_failure_0 (C : Nat → Sp) : ta (tb_X12_failure C) 0 = tr_iload 1 1 := rfl
theorem a_X12_failure_1 (C : Nat → Sp) : ta (tb_X12_failure C) 1 = tr_i2l 2 := rfl
theorem a_X12_failure_2 (C : Nat → Sp) : ta (tb_X12_failure C) 2 = tr_lc 3 0 := rfl
theorem a_X12_failure_3 (C : Nat → Sp) : ta (tb_X12_failure C) 3 = tr_aload 4 0 := rfl
theorem a_X12_failure_4 (C : Nat → Sp) : ta (tb_X12_failure C) 4 = tr_getI 7 13 1243 := rfl
theorem a_X12_failure_7 (C : Nat → Sp) : ta (tb_X12_failure C) 7 = tr_ic 8 1 := rfl
theorem a_X12_failure_8 (C : Nat → Sp) : ta (tb_X12_failure C) 8 = tr_isub 9 := rfl
theorem a_X12_failure_9 (C : Nat → Sp) : ta (tb_X12_failure C) 9 = tr_i2l 10 := rfl
theorem a_X12_failure_10 (C : Nat → Sp) : ta (tb_X12_failure C) 10 = tr_callS (C 96) 13 3 := rfl
theorem a_X12_failure_13 (C : Nat → Sp) : ta (tb_X12_failure C) 13 = tr_ifne 16 18 := rfl
theorem a_X12_failure_16 (C : Nat → Sp) : ta (tb_X12_failure C) 16 = tr_ic 17 (-1) := rfl
theorem a_X12_failure_17 (C : Nat → Sp) : ta (tb_X12_failure C) 17 = tr_iret := rfl
theorem a_X12_failure_18 (C : Nat → Sp) : ta (tb_X12_failure C) 18 = tr_iload 19 2 := rfl
theorem a_X12_failure_19 (C : Nat → Sp) : ta (tb_X12_failure C) 19 = tr_ifne 22 31 := rfl
theorem a_X12_failure_22 (C : Nat → Sp) : ta (tb_X12_failure C) 22 = tr_aload 23 0 := rfl
theorem a_X12_failure_23 (C : Nat → Sp) : ta (tb_X12_failure C) 23 = tr_getR 26 13 1249 := rfl
theorem a_X12_failure_26 (C : Nat → Sp) : ta (tb_X12_failure C) 26 = tr_iload 27 1 := rfl
theorem a_X12_failure_27 (C : Nat → Sp) : ta (tb_X12_failure C) 27 = tr_iald 28 := rfl
theorem a_X12_failure_28 (C : Nat → Sp) : ta (tb_X12_failure C) 28 = tr_goto 60 := rfl
theorem a_X12_failure_31 (C : Nat → Sp) : ta (tb_X12_failure C) 31 = tr_iload 32 2 := rfl
theorem a_X12_failure_32 (C : Nat → Sp) : ta (tb_X12_failure C) 32 = tr_ic 33 1 := rfl
theorem a_X12_failure_33 (C : Nat → Sp) : ta (tb_X12_failure C) 33 = tr_icne 36 45 := rfl
theorem a_X12_failure_36 (C : Nat → Sp) : ta (tb_X12_failure C) 36 = tr_aload 37 0 := rfl
theorem a_X12_failure_37 (C : Nat → Sp) : ta (tb_X12_failure C) 37 = tr_getR 40 13 1250 := rfl
theorem a_X12_failure_40 (C : Nat → Sp) : ta (tb_X12_failure C) 40 = tr_iload 41 1 := rfl
theorem a_X12_failure_41 (C : Nat → Sp) : ta (tb_X12_failure C) 41 = tr_iald 42 := rfl
theorem a_X12_failure_42 (C : Nat → Sp) : ta (tb_X12_failure C) 42 = tr_goto 60 := rfl
theorem a_X12_failure_45 (C : Nat → Sp) : ta (tb_X12_failure C) 45 = tr_iload 46 2 := rfl
theorem a_X12_failure_46 (C : Nat → Sp) : ta (tb_X12_failure C) 46 = tr_ic 47 2 := rfl
theorem a_X12_failure_47 (C : Nat → Sp) : ta (tb_X12_failure C) 47 = tr_icne 50 59 := rfl
theorem a_X12_failure_50 (C : Nat → Sp) : ta (tb_X12_failure C) 50 = tr_aload 51 0 := rfl
theorem a_X12_failure_51 (C : Nat → Sp) : ta (tb_X12_failure C) 51 = tr_getR 54 13 1251 := rfl
theorem a_X12_failure_54 (C : Nat → Sp) : ta (tb_X12_failure C) 54 = tr_iload 55 1 := rfl
theorem a_X12_failure_55 (C : Nat → Sp) : ta (tb_X12_failure C) 55 = tr_iald 56 := rfl
theorem a_X12_failure_56 (C : Nat → Sp) : ta (tb_X12_failure C) 56 = tr_goto 60 := rfl
theorem a_X12_failure_59 (C : Nat → Sp) : ta (tb_X12_failure C) 59 = tr_ic 60 (-1) := rfl
theorem a_X12_failure_60 (C : Nat → Sp) : ta (tb_X12_failure C) 60 = tr_iret := rfl

def tb_X12_meter_0 (C : Nat → Sp) : Tab := [(0, tr_aload 1 0), (1, tr_iload 2 1), (2, tr_callV (C 97) 5 13 1), (5, tr_ifeq 8 17), (8, tr_aload 9 0), (9, tr_getR 12 13 1202), (12, tr_iload 13 1), (13, tr_lald 14), (14, tr_goto 18), (17, tr_lc 18 0), (18, tr_lret)]
set_option maxRecDepth 20000 in
theorem tbk_X12_meter_0 {D : DD} {d : Nat} {C : Nat → Sp} (hC : Snd D d C) : ∀ e ∈ tb_X12_meter_0 C, TrOk D (d + 1) mi_X12_meter e.1 e.2 :=
  tk_c (show TrOk D (d + 1) mi_X12_meter 0 (tr_aload 1 0) from ok_aload_n (show decode mi_X12_meter.2.1 0 = .ok (.aload_n 0, 1) from by decide +kernel) rfl) <|
  tk_c (show TrOk D (d + 1) mi_X12_meter 1 (tr_iload 2 1) from ok_iload_n (show decode mi_X12_meter.2.1 1 = .ok (.iload_n 1, 1) from by decide +kernel) rfl) <|
  tk_c (show TrOk D (d + 1) mi_X12_meter 2 (tr_callV (C 97) 5 13 1) from ok_callV (ci := 12) (show decode mi_X12_meter.2.1 2 = .ok (.invokevirtual 143, 3) from by decide +kernel) mok_X12_isKind rfl rfl (gm 951 (by decide +kernel) rfl) (gm 953 (by decide +kernel) rfl) (gm 12 (by decide +kernel) rfl) (hC 97)) <|
  tk_c (show TrOk D (d + 1) mi_X12_meter 5 (tr_ifeq 8 17) from ok_ifeq (show decode mi_X12_meter.2.1 5 = .ok (.ifCond .eq 12, 3) from by decide +kernel) (by decide)) <|
  tk_c (show TrOk D (d + 1) mi_X12_meter 8 (tr_aload 9 0) from ok_aload_n (show decode mi_X12_meter.2.1 8 = .ok (.aload_n 0, 1) from by decide +kernel) rfl) <|
  tk_c (show TrOk D (d + 1) mi_X12_meter 9 (tr_getR 12 13 1202) from ok_getR (ci := 12) (k := 2) (show decode mi_X12_meter.2.1 9 = .ok (.getfield 13, 3) from by decide +kernel) rfl (by decide) (gm 783 (by decide +kernel) rfl) rfl) <|
  tk_c (show TrOk D (d + 1) mi_X12_meter 12 (tr_iload 13 1) from ok_iload_n (show decode mi_X12_meter.2.1 12 = .ok (.iload_n 1, 1) from by decide +kernel) rfl) <|
  tk_c (show TrOk D (d + 1) mi_X12_meter 13 (tr_lald 14) from ok_lald (show decode mi_X12_meter.2.1 13 = .ok (.laload, 1) from by decide +kernel)) <|
  tk_c (show TrOk D (d + 1) mi_X12_meter 14 (tr_goto 18) from ok_goto (show decode mi_X12_meter.2.1 14 = .ok (.goto 4, 3) from by decide +kernel) (by decide)) <|
  tk_c (show TrOk D (d + 1) mi_X12_meter 17 (tr_lc 18 0) from ok_lconst (show decode mi_X12_meter.2.1 17 = .ok (.lconst 0, 1) from by decide +kernel) rfl) <|
  tk_c (show TrOk D (d + 1) mi_X12_meter 18 (tr_lret) from ok_lret (show decode mi_X12_meter.2.1 18 = .ok (.lreturn, 1) from by decide +kernel) rfl) <|
  tk_n
def tb_X12_meter (C : Nat → Sp) : Tab := tb_X12_meter_0 C
theorem tbk_X12_meter {D : DD} {d : Nat} {C : Nat → Sp} (hC : Snd D d C) : ∀ e ∈ tb_X12_meter C, TrOk D (d + 1) mi_X12_meter e.1 e.2 := tbk_X12_meter_0 hC
theorem a_X12_meter_0 (C : Nat → Sp) : ta (tb_X12_meter C) 0 = tr_aload 1 0 := rfl
theorem a_X12_meter_1 (C : Nat → Sp) : ta (tb_X12_meter C) 1 = tr_iload 2 1 := rfl
theorem a_X12_meter_2 (C : Nat → Sp) : ta (tb_X12_meter C) 2 = tr_callV (C 97) 5 13 1 := rfl
theorem a_X12_meter_5 (C : Nat → Sp) : ta (tb_X12_meter C) 5 = tr_ifeq 8 17 := rfl
theorem a_X12_meter_8 (C : Nat → Sp) : ta (tb_X12_meter C) 8 = tr_aload 9 0 := rfl
theorem a_X12_meter_9 (C : Nat → Sp) : ta (tb_X12_meter C) 9 = tr_getR 12 13 1202 := rfl
theorem a_X12_meter_12 (C : Nat → Sp) : ta (tb_X12_meter C) 12 = tr_iload 13 1 := rfl
theorem a_X12_meter_13 (C : Nat → Sp) : ta (tb_X12_meter C) 13 = tr_lald 14 := rfl
theorem a_X12_meter_14 (C : Nat → Sp) : ta (tb_X12_meter C) 14 = tr_goto 18 := rfl
theorem a_X12_meter_17 (C : Nat → Sp) : ta (tb_X12_meter C) 17 = tr_lc 18 0 := rfl
theorem a_X12_meter_18 (C : Nat → Sp) : ta (tb_X12_meter C) 18 = tr_lret := rfl

def tb_X12_back_0 (C : Nat → Sp) : Tab := [(0, tr_iload 1 1), (1, tr_i2l 2), (2, tr_lc 3 0), (3, tr_lc 6 50), (6, tr_callS (C 96) 9 3), (9, tr_ifne 12 14), (12, tr_ic 13 (-1)), (13, tr_iret), (14, tr_ic 15 0), (15, tr_istore 16 2), (16, tr_iload 17 2), (17, tr_iload 18 1), (18, tr_icge 21 70), (21, tr_aload 22 0), (22, tr_getI 25 13 1252), (25, tr_ifle 28 70), (28, tr_aload 29 0), (29, tr_dup 30), (30, tr_getI 33 13 1252), (33, tr_ic 34 1), (34, tr_isub 35), (35, tr_putI 38 13 1252), (38, tr_aload 39 0), (39, tr_getR 42 13 1202), (42, tr_aload 43 0), (43, tr_getR 46 13 1253), (46, tr_aload 47 0), (47, tr_getI 50 13 1252), (50, tr_iald 51), (51, tr_dup2 52), (52, tr_lald 53), (53, tr_aload 54 0), (54, tr_getR 57 13 1254), (57, tr_aload 58 0), (58, tr_getI 61 13 1252), (61, tr_lald 62), (62, tr_lsub 63), (63, tr_last 64), (64, tr_iinc 67 2 1), (67, tr_goto 16)]
set_option maxRecDepth 20000 in
theorem tbk_X12_back_0 {D : DD} {d : Nat} {C : Nat → Sp} (hC : Snd D d C) : ∀ e ∈ tb_X12_back_0 C, TrOk D (d + 1) mi_X12_back e.1 e.2 :=
  tk_c (show TrOk D (d + 1) mi_X12_back 0 (tr_iload 1 1) from ok_iload_n (show decode mi_X12_back.2.1 0 = .ok (.iload_n 1, 1) from by decide +kernel) rfl) <|
  tk_c (show TrOk D (d + 1) mi_X12_back 1 (tr_i2l 2) from ok_i2l (show decode mi_X12_back.2.1 1 = .ok (.i2l, 1) from by decide +kernel)) <|
  tk_c (show TrOk D (d + 1) mi_X12_back 2 (tr_lc 3 0) from ok_lconst (show decode mi_X12_back.2.1 2 = .ok (.lconst 0, 1) from by decide +kernel) rfl) <|
  tk_c (show TrOk D (d + 1) mi_X12_back 3 (tr_lc 6 50) from ok_ldc2 (show decode mi_X12_back.2.1 3 = .ok (.ldc2_w 267, 3) from by decide +kernel) (gm 1103 (by decide +kernel) rfl)) <|
  tk_c (show TrOk D (d + 1) mi_X12_back 6 (tr_callS (C 96) 9 3) from ok_callS (show decode mi_X12_back.2.1 6 = .ok (.invokestatic 136, 3) from by decide +kernel) mok_X12_in (gm 955 (by decide +kernel) rfl) (gm 956 (by decide +kernel) rfl) (hC 96)) <|
  tk_c (show TrOk D (d + 1) mi_X12_back 9 (tr_ifne 12 14) from ok_ifne (show decode mi_X12_back.2.1 9 = .ok (.ifCond .ne 5, 3) from by decide +kernel) (by decide)) <|
  tk_c (show TrOk D (d + 1) mi_X12_back 12 (tr_ic 13 (-1)) from ok_iconst (show decode mi_X12_back.2.1 12 = .ok (.iconst (-1), 1) from by decide +kernel) rfl) <|
  tk_c (show TrOk D (d + 1) mi_X12_back 13 (tr_iret) from ok_iret (show decode mi_X12_back.2.1 13 = .ok (.ireturn, 1) from by decide +kernel) rfl) <|
  tk_c (show TrOk D (d + 1) mi_X12_back 14 (tr_ic 15 0) from ok_iconst (show decode mi_X12_back.2.1 14 = .ok (.iconst 0, 1) from by decide +kernel) rfl) <|
  tk_c (show TrOk D (d + 1) mi_X12_back 15 (tr_istore 16 2) from ok_istore_n (show decode mi_X12_back.2.1 15 = .ok (.istore_n 2, 1) from by decide +kernel) rfl (by decide)) <|
  tk_c (show TrOk D (d + 1) mi_X12_back 16 (tr_iload 17 2) from ok_iload_n (show decode mi_X12_back.2.1 16 = .ok (.iload_n 2, 1) from by decide +kernel) rfl) <|
  tk_c (show TrOk D (d + 1) mi_X12_back 17 (tr_iload 18 1) from ok_iload_n (show decode mi_X12_back.2.1 17 = .ok (.iload_n 1, 1) from by decide +kernel) rfl) <|
  tk_c (show TrOk D (d + 1) mi_X12_back 18 (tr_icge 21 70) from ok_icge (show decode mi_X12_back.2.1 18 = .ok (.if_icmp .ge 52, 3) from by decide +kernel) (by decide)) <|
  tk_c (show TrOk D (d + 1) mi_X12_back 21 (tr_aload 22 0) from ok_aload_n (show decode mi_X12_back.2.1 21 = .ok (.aload_n 0, 1) from by decide +kernel) rfl) <|
  tk_c (show TrOk D (d + 1) mi_X12_back 22 (tr_getI 25 13 1252) from ok_getI (ci := 12) (k := 52) (show decode mi_X12_back.2.1 22 = .ok (.getfield 203, 3) from by decide +kernel) rfl (by decide) (gm 833 (by decide +kernel) rfl) rfl) <|
  tk_c (show TrOk D (d + 1) mi_X12_back 25 (tr_ifle 28 70) from ok_ifle (show decode mi_X12_back.2.1 25 = .ok (.ifCond .le 45, 3) from by decide +kernel) (by decide)) <|
  tk_c (show TrOk D (d + 1) mi_X12_back 28 (tr_aload 29 0) from ok_aload_n (show decode mi_X12_back.2.1 28 = .ok (.aload_n 0, 1) from by decide +kernel) rfl) <|
  tk_c (show TrOk D (d + 1) mi_X12_back 29 (tr_dup 30) from ok_dup (show decode mi_X12_back.2.1 29 = .ok (.dup, 1) from by decide +kernel)) <|
  tk_c (show TrOk D (d + 1) mi_X12_back 30 (tr_getI 33 13 1252) from ok_getI (ci := 12) (k := 52) (show decode mi_X12_back.2.1 30 = .ok (.getfield 203, 3) from by decide +kernel) rfl (by decide) (gm 833 (by decide +kernel) rfl) rfl) <|
  tk_c (show TrOk D (d + 1) mi_X12_back 33 (tr_ic 34 1) from ok_iconst (show decode mi_X12_back.2.1 33 = .ok (.iconst 1, 1) from by decide +kernel) rfl) <|
  tk_c (show TrOk D (d + 1) mi_X12_back 34 (tr_isub 35) from ok_isub (show decode mi_X12_back.2.1 34 = .ok (.isub, 1) from by decide +kernel)) <|
  tk_c (show TrOk D (d + 1) mi_X12_back 35 (tr_putI 38 13 1252) from ok_putI (ci := 12) (k := 52) (show decode mi_X12_back.2.1 35 = .ok (.putfield 203, 3) from by decide +kernel) rfl (by decide) (gm 833 (by decide +kernel) rfl) rfl (Or.inl rfl)) <|
  tk_c (show TrOk D (d + 1) mi_X12_back 38 (tr_aload 39 0) from ok_aload_n (show decode mi_X12_back.2.1 38 = .ok (.aload_n 0, 1) from by decide +kernel) rfl) <|
  tk_c (show TrOk D (d + 1) mi_X12_back 39 (tr_getR 42 13 1202) from ok_getR (ci := 12) (k := 2) (show decode mi_X12_back.2.1 39 = .ok (.getfield 13, 3) from by decide +kernel) rfl (by decide) (gm 783 (by decide +kernel) rfl) rfl) <|
  tk_c (show TrOk D (d + 1) mi_X12_back 42 (tr_aload 43 0) from ok_aload_n (show decode mi_X12_back.2.1 42 = .ok (.aload_n 0, 1) from by decide +kernel) rfl) <|
  tk_c (show TrOk D (d + 1) mi_X12_back 43 (tr_getR 46 13 1253) from ok_getR (ci := 12) (k := 53) (show decode mi_X12_back.2.1 43 = .ok (.getfield 127, 3) from by decide +kernel) rfl (by decide) (gm 834 (by decide +kernel) rfl) rfl) <|
  tk_c (show TrOk D (d + 1) mi_X12_back 46 (tr_aload 47 0) from ok_aload_n (show decode mi_X12_back.2.1 46 = .ok (.aload_n 0, 1) from by decide +kernel) rfl) <|
  tk_c (show TrOk D (d + 1) mi_X12_back 47 (tr_getI 50 13 1252) from ok_getI (ci := 12) (k := 52) (show decode mi_X12_back.2.1 47 = .ok (.getfield 203, 3) from by decide +kernel) rfl (by decide) (gm 833 (by decide +kernel) rfl) rfl) <|
  tk_c (show TrOk D (d + 1) mi_X12_back 50 (tr_iald 51) from ok_iald (show decode mi_X12_back.2.1 50 = .ok (.iaload, 1) from by decide +kernel)) <|
  tk_c (show TrOk D (d + 1) mi_X12_back 51 (tr_dup2 52) from ok_dup2 (show decode mi_X12_back.2.1 51 = .ok (.dup2, 1) from by decide +kernel)) <|
  tk_c (show TrOk D (d + 1) mi_X12_back 52 (tr_lald 53) from ok_lald (show decode mi_X12_back.2.1 52 = .ok (.laload, 1) from by decide +kernel)) <|
  tk_c (show TrOk D (d + 1) mi_X12_back 53 (tr_aload 54 0) from ok_aload_n (show decode mi_X12_back.2.1 53 = .ok (.aload_n 0, 1) from by decide +kernel) rfl) <|
  tk_c (show TrOk D (d + 1) mi_X12_back 54 (tr_getR 57 13 1254) from ok_getR (ci := 12) (k := 54) (show decode mi_X12_back.2.1 54 = .ok (.getfield 130, 3) from by decide +kernel) rfl (by decide) (gm 835 (by decide +kernel) rfl) rfl) <|
  tk_c (show TrOk D (d + 1) mi_X12_back 57 (tr_aload 58 0) from ok_aload_n (show decode mi_X12_back.2.1 57 = .ok (.aload_n 0, 1) from by decide +kernel) rfl) <|
  tk_c (show TrOk D (d + 1) mi_X12_back 58 (tr_getI 61 13 1252) from ok_getI (ci := 12) (k := 52) (show decode mi_X12_back.2.1 58 = .ok (.getfield 203, 3) from by decide +kernel) rfl (by decide) (gm 833 (by decide +kernel) rfl) rfl) <|
  tk_c (show TrOk D (d + 1) mi_X12_back 61 (tr_lald 62) from ok_lald (show decode mi_X12_back.2.1 61 = .ok (.laload, 1) from by decide +kernel)) <|
  tk_c (show TrOk D (d + 1) mi_X12_back 62 (tr_lsub 63) from ok_lsub (show decode mi_X12_back.2.1 62 = .ok (.lsub, 1) from by decide +kernel)) <|
  tk_c (show TrOk D (d + 1) mi_X12_back 63 (tr_last 64) from ok_last (show decode mi_X12_back.2.1 63 = .ok (.lastore, 1) from by decide +kernel)) <|
  tk_c (show TrOk D (d + 1) mi_X12_back 64 (tr_iinc 67 2 1) from ok_iinc (show decode mi_X12_back.2.1 64 = .ok (.iinc 2 1, 3) from by decide +kernel) rfl (by decide)) <|
  tk_c (show TrOk D (d + 1) mi_X12_back 67 (tr_goto 16) from ok_goto (show decode mi_X12_back.2.1 67 = .ok (.goto (-51), 3) from by decide +kernel) (by decide)) <|
  tk_n
def tb_X12_back_1 (C : Nat → Sp) : Tab := [(70, tr_iload 71 2), (71, tr_iret)]
set_option maxRecDepth 20000 in
theorem tbk_X12_back_1 {D : DD} {d : Nat} {C : Nat → Sp} (hC : Snd D d C) : ∀ e ∈ tb_X12_back_1 C, TrOk D (d + 1) mi_X12_back e.1 e.2 :=
  tk_c (show TrOk D (d + 1) mi_X12_back 70 (tr_iload 71 2) from ok_iload_n (show decode mi_X12_back.2.1 70 = .ok (.iload_n 2, 1) from by decide +kernel) rfl) <|
  tk_c (show TrOk D (d + 1) mi_X12_back 71 (tr_iret) from ok_iret (show decode mi_X12_back.2.1 71 = .ok (.ireturn, 1) from by decide +kernel) rfl) <|
  tk_n
def tb_X12_back (C : Nat → Sp) : Tab := tb_X12_back_0 C ++ (tb_X12_back_1 C)
theorem tbk_X12_back {D : DD} {d : Nat} {C : Nat → Sp} (hC : Snd D d C) : ∀ e ∈ tb_X12_back C, TrOk D (d + 1) mi_X12_back e.1 e.2 := tk_a (tbk_X12_back_0 hC) (tbk_X12_back_1 hC)
theorem a_X12_back_0 (C : Nat → Sp) : ta (tb_X12_back C) 0 = tr_iload 1 1 := rfl
theorem a_X12_back_1 (C : Nat → Sp) : ta (tb_X12_back C) 1 = tr_i2l 2 := rfl
theorem a_X12_back_2 (C : Nat → Sp) : ta (tb_X12_back C) 2 = tr_lc 3 0 := rfl
theorem a_X12_back_3 (C : Nat → Sp) : ta (tb_X12_back C) 3 = tr_lc 6 50 := rfl
theorem a_X12_back_6 (C : Nat → Sp) : ta (tb_X12_back C) 6 = tr_callS (C 96) 9 3 := rfl
theorem a_X12_back_9 (C : Nat → Sp) : ta (tb_X12_back C) 9 = tr_ifne 12 14 := rfl
theorem a_X12_back_12 (C : Nat → Sp) : ta (tb_X12_back C) 12 = tr_ic 13 (-1) := rfl
theorem a_X12_back_13 (C : Nat → Sp) : ta (tb_X12_back C) 13 = tr_iret := rfl
theorem a_X12_back_14 (C : Nat → Sp) : ta (tb_X12_back C) 14 = tr_ic 15 0 := rfl
theorem a_X12_back_15 (C : Nat → Sp) : ta (tb_X12_back C) 15 = tr_istore 16 2 := rfl
theorem a_X12_back_16 (C : Nat → Sp) : ta (tb_X12_back C) 16 = tr_iload 17 2 := rfl
theorem a_X12_back_17 (C : Nat → Sp) : ta (tb_X12_back C) 17 = tr_iload 18 1 := rfl
theorem a_X12_back_18 (C : Nat → Sp) : ta (tb_X12_back C) 18 = tr_icge 21 70 := rfl
theorem a_X12_back_21 (C : Nat → Sp) : ta (tb_X12_back C) 21 = tr_aload 22 0 := rfl
theorem a_X12_back_22 (C : Nat → Sp) : ta (tb_X12_back C) 22 = tr_getI 25 13 1252 := rfl
theorem a_X12_back_25 (C : Nat → Sp) : ta (tb_X12_back C) 25 = tr_ifle 28 70 := rfl
theorem a_X12_back_28 (C : Nat → Sp) : ta (tb_X12_back C) 28 = tr_aload 29 0 := rfl
theorem a_X12_back_29 (C : Nat → Sp) : ta (tb_X12_back C) 29 = tr_dup 30 := rfl
theorem a_X12_back_30 (C : Nat → Sp) : ta (tb_X12_back C) 30 = tr_getI 33 13 1252 := rfl
theorem a_X12_back_33 (C : Nat → Sp) : ta (tb_X12_back C) 33 = tr_ic 34 1 := rfl
theorem a_X12_back_34 (C : Nat → Sp) : ta (tb_X12_back C) 34 = tr_isub 35 := rfl
theorem a_X12_back_35 (C : Nat → Sp) : ta (tb_X12_back C) 35 = tr_putI 38 13 1252 := rfl
theorem a_X12_back_38 (C : Nat → Sp) : ta (tb_X12_back C) 38 = tr_aload 39 0 := rfl
theorem a_X12_back_39 (C : Nat → Sp) : ta (tb_X12_back C) 39 = tr_getR 42 13 1202 := rfl
theorem a_X12_back_42 (C : Nat → Sp) : ta (tb_X12_back C) 42 = tr_aload 43 0 := rfl
theorem a_X12_back_43 (C : Nat → Sp) : ta (tb_X12_back C) 43 = tr_getR 46 13 1253 := rfl
theorem a_X12_back_46 (C : Nat → Sp) : ta (tb_X12_back C) 46 = tr_aload 47 0 := rfl
theorem a_X12_back_47 (C : Nat → Sp) : ta (tb_X12_back C) 47 = tr_getI 50 13 1252 := rfl
theorem a_X12_back_50 (C : Nat → Sp) : ta (tb_X12_back C) 50 = tr_iald 51 := rfl
theorem a_X12_back_51 (C : Nat → Sp) : ta (tb_X12_back C) 51 = tr_dup2 52 := rfl
theorem a_X12_back_52 (C : Nat → Sp) : ta (tb_X12_back C) 52 = tr_lald 53 := rfl
theorem a_X12_back_53 (C : Nat → Sp) : ta (tb_X12_back C) 53 = tr_aload 54 0 := rfl
theorem a_X12_back_54 (C : Nat → Sp) : ta (tb_X12_back C) 54 = tr_getR 57 13 1254 := rfl
theorem a_X12_back_57 (C : Nat → Sp) : ta (tb_X12_back C) 57 = tr_aload 58 0 := rfl
theorem a_X12_back_58 (C : Nat → Sp) : ta (tb_X12_back C) 58 = tr_getI 61 13 1252 := rfl
theorem a_X12_back_61 (C : Nat → Sp) : ta (tb_X12_back C) 61 = tr_lald 62 := rfl
theorem a_X12_back_62 (C : Nat → Sp) : ta (tb_X12_back C) 62 = tr_lsub 63 := rfl
theorem a_X12_back_63 (C : Nat → Sp) : ta (tb_X12_back C) 63 = tr_last 64 := rfl
theorem a_X12_back_64 (C : Nat → Sp) : ta (tb_X12_back C) 64 = tr_iinc 67 2 1 := rfl
theorem a_X12_back_67 (C : Nat → Sp) : ta (tb_X12_back C) 67 = tr_goto 16 := rfl
theorem a_X12_back_70 (C : Nat → Sp) : ta (tb_X12_back C) 70 = tr_iload 71 2 := rfl
theorem a_X12_back_71 (C : Nat → Sp) : ta (tb_X12_back C) 71 = tr_iret := rfl

def tb_X12_listener_0 (C : Nat → Sp) : Tab := [(0, tr_aload 1 0), (1, tr_iload 2 1), (2, tr_callV (C 98) 5 13 1), (5, tr_ifne 8 10), (8, tr_ic 9 (-1)), (9, tr_iret), (10, tr_iload 11 2), (11, tr_sw 0 [60, 75, 82, 89, 96, 103, 110, 125, 132] 139), (60, tr_aload 61 0), (61, tr_getR 64 13 1213), (64, tr_iload 65 1), (65, tr_bald 66), (66, tr_ifeq 69 73), (69, tr_ic 70 1), (70, tr_goto 74), (73, tr_ic 74 0), (74, tr_iret), (75, tr_aload 76 0), (76, tr_getR 79 13 1206), (79, tr_iload 80 1), (80, tr_iald 81), (81, tr_iret), (82, tr_aload 83 0), (83, tr_getR 86 13 1207), (86, tr_iload 87 1), (87, tr_iald 88), (88, tr_iret), (89, tr_aload 90 0), (90, tr_getR 93 13 1208), (93, tr_iload 94 1), (94, tr_iald 95), (95, tr_iret), (96, tr_aload 97 0), (97, tr_getR 100 13 1209), (100, tr_iload 101 1), (101, tr_iald 102), (102, tr_iret), (103, tr_aload 104 0), (104, tr_getR 107 13 1214), (107, tr_iload 108 1)]
set_option maxRecDepth 20000 in
theorem tbk_X12_listener_0 {D : DD} {d : Nat} {C : Nat → Sp} (hC : Snd D d C) : ∀ e ∈ tb_X12_listener_0 C, TrOk D (d + 1) mi_X12_listener e.1 e.2 :=
  tk_c (show TrOk D (d + 1) mi_X12_listener 0 (tr_aload 1 0) from ok_aload_n (show decode mi_X12_listener.2.1 0 = .ok (.aload_n 0, 1) from by decide +kernel) rfl) <|
  tk_c (show TrOk D (d + 1) mi_X12_listener 1 (tr_iload 2 1) from ok_iload_n (show decode mi_X12_listener.2.1 1 = .ok (.iload_n 1, 1) from by decide +kernel) rfl) <|
  tk_c (show TrOk D (d + 1) mi_X12_listener 2 (tr_callV (C 98) 5 13 1) from ok_callV (ci := 12) (show decode mi_X12_listener.2.1 2 = .ok (.invokevirtual 160, 3) from by decide +kernel) mok_X12_isListener rfl rfl (gm 981 (by decide +kernel) rfl) (gm 983 (by decide +kernel) rfl) (gm 14 (by decide +kernel) rfl) (hC 98)) <|
  tk_c (show TrOk D (d + 1) mi_X12_listener 5 (tr_ifne 8 10) from ok_ifne (show decode mi_X12_listener.2.1 5 = .ok (.ifCond .ne 5, 3) from by decide +kernel) (by decide)) <|
  tk_c (show TrOk D (d + 1) mi_X12_listener 8 (tr_ic 9 (-1)) from ok_iconst (show decode mi_X12_listener.2.1 8 = .ok (.iconst (-1), 1) from by decide +kernel) rfl) <|
  tk_c (show TrOk D (d + 1) mi_X12_listener 9 (tr_iret) from ok_iret (show decode mi_X12_listener.2.1 9 = .ok (.ireturn, 1) from by decide +kernel) rfl) <|
  tk_c (show TrOk D (d + 1) mi_X12_listener 10 (tr_iload 11 2) from ok_iload_n (show decode mi_X12_listener.2.1 10 = .ok (.iload_n 2, 1) from by decide +kernel) rfl) <|
  tk_c (show TrOk D (d + 1) mi_X12_listener 11 (tr_sw 0 [60, 75, 82, 89, 96, 103, 110, 125, 132] 139) from ok_sw 0 (show decode mi_X12_listener.2.1 11 = .ok (.tableswitch 128 0 8 #[49, 64, 71, 78, 85, 92, 99, 114, 121], 49) from by decide +kernel) rfl rfl (by decide) (by decide) (by decide) (by decide +kernel)) <|
  tk_c (show TrOk D (d + 1) mi_X12_listener 60 (tr_aload 61 0) from ok_aload_n (show decode mi_X12_listener.2.1 60 = .ok (.aload_n 0, 1) from by decide +kernel) rfl) <|
  tk_c (show TrOk D (d + 1) mi_X12_listener 61 (tr_getR 64 13 1213) from ok_getR (ci := 12) (k := 13) (show decode mi_X12_listener.2.1 61 = .ok (.getfield 42, 3) from by decide +kernel) rfl (by decide) (gm 794 (by decide +kernel) rfl) rfl) <|
  tk_c (show TrOk D (d + 1) mi_X12_listener 64 (tr_iload 65 1) from ok_iload_n (show decode mi_X12_listener.2.1 64 = .ok (.iload_n 1, 1) from by decide +kernel) rfl) <|
  tk_c (show TrOk D (d + 1) mi_X12_listener 65 (tr_bald 66) from ok_bald (show decode mi_X12_listener.2.1 65 = .ok (.baload, 1) from by decide +kernel)) <|
  tk_c (show TrOk D (d + 1) mi_X12_listener 66 (tr_ifeq 69 73) from ok_ifeq (show decode mi_X12_listener.2.1 66 = .ok (.ifCond .eq 7, 3) from by decide +kernel) (by decide)) <|
  tk_c (show TrOk D (d + 1) mi_X12_listener 69 (tr_ic 70 1) from ok_iconst (show decode mi_X12_listener.2.1 69 = .ok (.iconst 1, 1) from by decide +kernel) rfl) <|
  tk_c (show TrOk D (d + 1) mi_X12_listener 70 (tr_goto 74) from ok_goto (show decode mi_X12_listener.2.1 70 = .ok (.goto 4, 3) from by decide +kernel) (by decide)) <|
  tk_c (show TrOk D (d + 1) mi_X12_listener 73 (tr_ic 74 0) from ok_iconst (show decode mi_X12_listener.2.1 73 = .ok (.iconst 0, 1) from by decide +kernel) rfl) <|
  tk_c (show TrOk D (d + 1) mi_X12_listener 74 (tr_iret) from ok_iret (show decode mi_X12_listener.2.1 74 = .ok (.ireturn, 1) from by decide +kernel) rfl) <|
  tk_c (show TrOk D (d + 1) mi_X12_listener 75 (tr_aload 76 0) from ok_aload_n (show decode mi_X12_listener.2.1 75 = .ok (.aload_n 0, 1) from by decide +kernel) rfl) <|
  tk_c (show TrOk D (d + 1) mi_X12_listener 76 (tr_getR 79 13 1206) from ok_getR (ci := 12) (k := 6) (show decode mi_X12_listener.2.1 76 = .ok (.getfield 21, 3) from by decide +kernel) rfl (by decide) (gm 787 (by decide +kernel) rfl) rfl) <|
  tk_c (show TrOk D (d + 1) mi_X12_listener 79 (tr_iload 80 1) from ok_iload_n (show decode mi_X12_listener.2.1 79 = .ok (.iload_n 1, 1) from by decide +kernel) rfl) <|
  tk_c (show TrOk D (d + 1) mi_X12_listener 80 (tr_iald 81) from ok_iald (show decode mi_X12_listener.2.1 80 = .ok (.iaload, 1) from by decide +kernel)) <|
  tk_c (show TrOk D (d + 1) mi_X12_listener 81 (tr_iret) from ok_iret (show decode mi_X12_listener.2.1 81 = .ok (.ireturn, 1) from by decide +kernel) rfl) <|
  tk_c (show TrOk D (d + 1) mi_X12_listener 82 (tr_aload 83 0) from ok_aload_n (show decode mi_X12_listener.2.1 82 = .ok (.aload_n 0, 1) from by decide +kernel) rfl) <|
  tk_c (show TrOk D (d + 1) mi_X12_listener 83 (tr_getR 86 13 1207) from ok_getR (ci := 12) (k := 7) (show decode mi_X12_listener.2.1 83 = .ok (.getfield 24, 3) from by decide +kernel) rfl (by decide) (gm 788 (by decide +kernel) rfl) rfl) <|
  tk_c (show TrOk D (d + 1) mi_X12_listener 86 (tr_iload 87 1) from ok_iload_n (show decode mi_X12_listener.2.1 86 = .ok (.iload_n 1, 1) from by decide +kernel) rfl) <|
  tk_c (show TrOk D (d + 1) mi_X12_listener 87 (tr_iald 88) from ok_iald (show decode mi_X12_listener.2.1 87 = .ok (.iaload, 1) from by decide +kernel)) <|
  tk_c (show TrOk D (d + 1) mi_X12_listener 88 (tr_iret) from ok_iret (show decode mi_X12_listener.2.1 88 = .ok (.ireturn, 1) from by decide +kernel) rfl) <|
  tk_c (show TrOk D (d + 1) mi_X12_listener 89 (tr_aload 90 0) from ok_aload_n (show decode mi_X12_listener.2.1 89 = .ok (.aload_n 0, 1) from by decide +kernel) rfl) <|
  tk_c (show TrOk D (d + 1) mi_X12_listener 90 (tr_getR 93 13 1208) from ok_getR (ci := 12) (k := 8) (show decode mi_X12_listener.2.1 90 = .ok (.getfield 27, 3) from by decide +kernel) rfl (by decide) (gm 789 (by decide +kernel) rfl) rfl) <|
  tk_c (show TrOk D (d + 1) mi_X12_listener 93 (tr_iload 94 1) from ok_iload_n (show decode mi_X12_listener.2.1 93 = .ok (.iload_n 1, 1) from by decide +kernel) rfl) <|
  tk_c (show TrOk D (d + 1) mi_X12_listener 94 (tr_iald 95) from ok_iald (show decode mi_X12_listener.2.1 94 = .ok (.iaload, 1) from by decide +kernel)) <|
  tk_c (show TrOk D (d + 1) mi_X12_listener 95 (tr_iret) from ok_iret (show decode mi_X12_listener.2.1 95 = .ok (.ireturn, 1) from by decide +kernel) rfl) <|
  tk_c (show TrOk D (d + 1) mi_X12_listener 96 (tr_aload 97 0) from ok_aload_n (show decode mi_X12_listener.2.1 96 = .ok (.aload_n 0, 1) from by decide +kernel) rfl) <|
  tk_c (show TrOk D (d + 1) mi_X12_listener 97 (tr_getR 100 13 1209) from ok_getR (ci := 12) (k := 9) (show decode mi_X12_listener.2.1 97 = .ok (.getfield 30, 3) from by decide +kernel) rfl (by decide) (gm 790 (by decide +kernel) rfl) rfl) <|
  tk_c (show TrOk D (d + 1) mi_X12_listener 100 (tr_iload 101 1) from ok_iload_n (show decode mi_X12_listener.2.1 100 = .ok (.iload_n 1, 1) from by decide +kernel) rfl) <|
  tk_c (show TrOk D (d + 1) mi_X12_listener 101 (tr_iald 102) from ok_iald (show decode mi_X12_listener.2.1 101 = .ok (.iaload, 1) from by decide +kernel)) <|
  tk_c (show TrOk D (d + 1) mi_X12_listener 102 (tr_iret) from ok_iret (show decode mi_X12_listener.2.1 102 = .ok (.ireturn, 1) from by decide +kernel) rfl) <|
  tk_c (show TrOk D (d + 1) mi_X12_listener 103 (tr_aload 104 0) from ok_aload_n (show decode mi_X12_listener.2.1 103 = .ok (.aload_n 0, 1) from by decide +kernel) rfl) <|
  tk_c (show TrOk D (d + 1) mi_X12_listener 104 (tr_getR 107 13 1214) from ok_getR (ci := 12) (k := 14) (show decode mi_X12_listener.2.1 104 = .ok (.getfield 45, 3) from by decide +kernel) rfl (by decide) (gm 795 (by decide +kernel) rfl) rfl) <|
  tk_c (show TrOk D (d + 1) mi_X12_listener 107 (tr_iload 108 1) from ok_iload_n (show decode mi_X12_listener.2.1 107 = .ok (.iload_n 1, 1) from by decide +kernel) rfl) <|
  tk_n
def tb_X12_listener_1 (C : Nat → Sp) : Tab := [(108, tr_iald 109), (109, tr_iret), (110, tr_aload 111 0), (111, tr_getR 114 13 1212), (114, tr_iload 115 1), (115, tr_bald 116), (116, tr_ifeq 119 123), (119, tr_ic 120 1), (120, tr_goto 124), (123, tr_ic 124 0), (124, tr_iret), (125, tr_aload 126 0), (126, tr_getR 129 13 1217), (129, tr_iload 130 1), (130, tr_iald 131), (131, tr_iret), (132, tr_aload 133 0), (133, tr_getR 136 13 1218), (136, tr_iload 137 1), (137, tr_iald 138), (138, tr_iret), (139, tr_ic 140 (-1)), (140, tr_iret)]
set_option maxRecDepth 20000 in
theorem tbk_X12_listener_1 {D : DD} {d : Nat} {C : Nat → Sp} (hC : Snd D d C) : ∀ e ∈ tb_X12_listener_1 C, TrOk D (d + 1) mi_X12_listener e.1 e.2 :=
  tk_c (show TrOk D (d + 1) mi_X12_listener 108 (tr_iald 109) from ok_iald (show decode mi_X12_listener.2.1 108 = .ok (.iaload, 1) from by decide +kernel)) <|
  tk_c (show TrOk D (d + 1) mi_X12_listener 109 (tr_iret) from ok_iret (show decode mi_X12_listener.2.1 109 = .ok (.ireturn, 1) from by decide +kernel) rfl) <|
  tk_c (show TrOk D (d + 1) mi_X12_listener 110 (tr_aload 111 0) from ok_aload_n (show decode mi_X12_listener.2.1 110 = .ok (.aload_n 0, 1) from by decide +kernel) rfl) <|
  tk_c (show TrOk D (d + 1) mi_X12_listener 111 (tr_getR 114 13 1212) from ok_getR (ci := 12) (k := 12) (show decode mi_X12_listener.2.1 111 = .ok (.getfield 39, 3) from by decide +kernel) rfl (by decide) (gm 793 (by decide +kernel) rfl) rfl) <|
  tk_c (show TrOk D (d + 1) mi_X12_listener 114 (tr_iload 115 1) from ok_iload_n (show decode mi_X12_listener.2.1 114 = .ok (.iload_n 1, 1) from by decide +kernel) rfl) <|
  tk_c (show TrOk D (d + 1) mi_X12_listener 115 (tr_bald 116) from ok_bald (show decode mi_X12_listener.2.1 115 = .ok (.baload, 1) from by decide +kernel)) <|
  tk_c (show TrOk D (d + 1) mi_X12_listener 116 (tr_ifeq 119 123) from ok_ifeq (show decode mi_X12_listener.2.1 116 = .ok (.ifCond .eq 7, 3) from by decide +kernel) (by decide)) <|
  tk_c (show TrOk D (d + 1) mi_X12_listener 119 (tr_ic 120 1) from ok_iconst (show decode mi_X12_listener.2.1 119 = .ok (.iconst 1, 1) from by decide +kernel) rfl) <|
  tk_c (show TrOk D (d + 1) mi_X12_listener 120 (tr_goto 124) from ok_goto (show decode mi_X12_listener.2.1 120 = .ok (.goto 4, 3) from by decide +kernel) (by decide)) <|
  tk_c (show TrOk D (d + 1) mi_X12_listener 123 (tr_ic 124 0) from ok_iconst (show decode mi_X12_listener.2.1 123 = .ok (.iconst 0, 1) from by decide +kernel) rfl) <|
  tk_c (show TrOk D (d + 1) mi_X12_listener 124 (tr_iret) from ok_iret (show decode mi_X12_listener.2.1 124 = .ok (.ireturn, 1) from by decide +kernel) rfl) <|
  tk_c (show TrOk D (d + 1) mi_X12_listener 125 (tr_aload 126 0) from ok_aload_n (show decode mi_X12_listener.2.1 125 = .ok (.aload_n 0, 1) from by decide +kernel) rfl) <|
  tk_c (show TrOk D (d + 1) mi_X12_listener 126 (tr_getR 129 13 1217) from ok_getR (ci := 12) (k := 17) (show decode mi_X12_listener.2.1 126 = .ok (.getfield 54, 3) from by decide +kernel) rfl (by decide) (gm 798 (by decide +kernel) rfl) rfl) <|
  tk_c (show TrOk D (d + 1) mi_X12_listener 129 (tr_iload 130 1) from ok_iload_n (show decode mi_X12_listener.2.1 129 = .ok (.iload_n 1, 1) from by decide +kernel) rfl) <|
  tk_c (show TrOk D (d + 1) mi_X12_listener 130 (tr_iald 131) from ok_iald (show decode mi_X12_listener.2.1 130 = .ok (.iaload, 1) from by decide +kernel)) <|
  tk_c (show TrOk D (d + 1) mi_X12_listener 131 (tr_iret) from ok_iret (show decode mi_X12_listener.2.1 131 = .ok (.ireturn, 1) from by decide +kernel) rfl) <|
  tk_c (show TrOk D (d + 1) mi_X12_listener 132 (tr_aload 133 0) from ok_aload_n (show decode mi_X12_listener.2.1 132 = .ok (.aload_n 0, 1) from by decide +kernel) rfl) <|
  tk_c (show TrOk D (d + 1) mi_X12_listener 133 (tr_getR 136 13 1218) from ok_getR (ci := 12) (k := 18) (show decode mi_X12_listener.2.1 133 = .ok (.getfield 57, 3) from by decide +kernel) rfl (by decide) (gm 799 (by decide +kernel) rfl) rfl) <|
  tk_c (show TrOk D (d + 1) mi_X12_listener 136 (tr_iload 137 1) from ok_iload_n (show decode mi_X12_listener.2.1 136 = .ok (.iload_n 1, 1) from by decide +kernel) rfl) <|
  tk_c (show TrOk D (d + 1) mi_X12_listener 137 (tr_iald 138) from ok_iald (show decode mi_X12_listener.2.1 137 = .ok (.iaload, 1) from by decide +kernel)) <|
  tk_c (show TrOk D (d + 1) mi_X12_listener 138 (tr_iret) from ok_iret (show decode mi_X12_listener.2.1 138 = .ok (.ireturn, 1) from by decide +kernel) rfl) <|
  tk_c (show TrOk D (d + 1) mi_X12_listener 139 (tr_ic 140 (-1)) from ok_iconst (show decode mi_X12_listener.2.1 139 = .ok (.iconst (-1), 1) from by decide +kernel) rfl) <|
  tk_c (show TrOk D (d + 1) mi_X12_listener 140 (tr_iret) from ok_iret (show decode mi_X12_listener.2.1 140 = .ok (.ireturn, 1) from by decide +kernel) rfl) <|
  tk_n
def tb_X12_listener (C : Nat → Sp) : Tab := tb_X12_listener_0 C ++ (tb_X12_listener_1 C)
theorem tbk_X12_listener {D : DD} {d : Nat} {C : Nat → Sp} (hC : Snd D d C) : ∀ e ∈ tb_X12_listener C, TrOk D (d + 1) mi_X12_listener e.1 e.2 := tk_a (tbk_X12_listener_0 hC) (tbk_X12_listener_1 hC)
theorem a_X12_listener_0 (C : Nat → Sp) : ta (tb_X12_listener C) 0 = tr_aload 1 0 := rfl
theorem a_X12_listener_1 (C : Nat → Sp) : ta (tb_X12_listener C) 1 = tr_iload 2 1 := rfl
theorem a_X12_listener_2 (C : Nat → Sp) : ta (tb_X12_listener C) 2 = tr_callV (C 98) 5 13 1 := rfl
theorem a_X12_listener_5 (C : Nat → Sp) : ta (tb_X12_listener C) 5 = tr_ifne 8 10 := rfl
theorem a_X12_listener_8 (C : Nat → Sp) : ta (tb_X12_listener C) 8 = tr_ic 9 (-1) := rfl
theorem a_X12_listener_9 (C : Nat → Sp) : ta (tb_X12_listener C) 9 = tr_iret := rfl
theorem a_X12_listener_10 (C : Nat → Sp) : ta (tb_X12_listener C) 10 = tr_iload 11 2 := rfl
theorem a_X12_listener_11 (C : Nat → Sp) : ta (tb_X12_listener C) 11 = tr_sw 0 [60, 75, 82, 89, 96, 103, 110, 125, 132] 139 := rfl
theorem a_X12_listener_60 (C : Nat → Sp) : ta (tb_X12_listener C) 60 = tr_aload 61 0 := rfl
theorem a_X12_listener_61 (C : Nat → Sp) : ta (tb_X12_listener C) 61 = tr_getR 64 13 1213 := rfl
theorem a_X12_listener_64 (C : Nat → Sp) : ta (tb_X12_listener C) 64 = tr_iload 65 1 := rfl
theorem a_X12_listener_65 (C : Nat → Sp) : ta (tb_X12_listener C) 65 = tr_bald 66 := rfl
theorem a_X12_listener_66 (C : Nat → Sp) : ta (tb_X12_listener C) 66 = tr_ifeq 69 73 := rfl
theorem a_X12_listener_69 (C : Nat → Sp) : ta (tb_X12_listener C) 69 = tr_ic 70 1 := rfl
theorem a_X12_listener_70 (C : Nat → Sp) : ta (tb_X12_listener C) 70 = tr_goto 74 := rfl
theorem a_X12_listener_73 (C : Nat → Sp) : ta (tb_X12_listener C) 73 = tr_ic 74 0 := rfl
theorem a_X12_listener_74 (C : Nat → Sp) : ta (tb_X12_listener C) 74 = tr_iret := rfl
theorem a_X12_listener_75 (C : Nat → Sp) : ta (tb_X12_listener C) 75 = tr_aload 76 0 := rfl
theorem a_X12_listener_76 (C : Nat → Sp) : ta (tb_X12_listener C) 76 = tr_getR 79 13 1206 := rfl
theorem a_X12_listener_79 (C : Nat → Sp) : ta (tb_X12_listener C) 79 = tr_iload 80 1 := rfl
theorem a_X12_listener_80 (C : Nat → Sp) : ta (tb_X12_listener C) 80 = tr_iald 81 := rfl
theorem a_X12_listener_81 (C : Nat → Sp) : ta (tb_X12_listener C) 81 = tr_iret := rfl
theorem a_X12_listener_82 (C : Nat → Sp) : ta (tb_X12_listener C) 82 = tr_aload 83 0 := rfl
theorem a_X12_listener_83 (C : Nat → Sp) : ta (tb_X12_listener C) 83 = tr_getR 86 13 1207 := rfl
theorem a_X12_listener_86 (C : Nat → Sp) : ta (tb_X12_listener C) 86 = tr_iload 87 1 := rfl
theorem a_X12_listener_87 (C : Nat → Sp) : ta (tb_X12_listener C) 87 = tr_iald 88 := rfl
theorem a_X12_listener_88 (C : Nat → Sp) : ta (tb_X12_listener C) 88 = tr_iret := rfl
theorem a_X12_listener_89 (C : Nat → Sp) : ta (tb_X12_listener C) 89 = tr_aload 90 0 := rfl
theorem a_X12_listener_90 (C : Nat → Sp) : ta (tb_X12_listener C) 90 = tr_getR 93 13 1208 := rfl
theorem a_X12_listener_93 (C : Nat → Sp) : ta (tb_X12_listener C) 93 = tr_iload 94 1 := rfl
theorem a_X12_listener_94 (C : Nat → Sp) : ta (tb_X12_listener C) 94 = tr_iald 95 := rfl
theorem a_X12_listener_95 (C : Nat → Sp) : ta (tb_X12_listener C) 95 = tr_iret := rfl
theorem a_X12_listener_96 (C : Nat → Sp) : ta (tb_X12_listener C) 96 = tr_aload 97 0 := rfl
theorem a_X12_listener_97 (C : Nat → Sp) : ta (tb_X12_listener C) 97 = tr_getR 100 13 1209 := rfl
theorem a_X12_listener_100 (C : Nat → Sp) : ta (tb_X12_listener C) 100 = tr_iload 101 1 := rfl
theorem a_X12_listener_101 (C : Nat → Sp) : ta (tb_X12_listener C) 101 = tr_iald 102 := rfl
theorem a_X12_listener_102 (C : Nat → Sp) : ta (tb_X12_listener C) 102 = tr_iret := rfl
theorem a_X12_listener_103 (C : Nat → Sp) : ta (tb_X12_listener C) 103 = tr_aload 104 0 := rfl
theorem a_X12_listener_104 (C : Nat → Sp) : ta (tb_X12_listener C) 104 = tr_getR 107 13 1214 := rfl
theorem a_X12_listener_107 (C : Nat → Sp) : ta (tb_X12_listener C) 107 = tr_iload 108 1 := rfl
theorem a_X12_listener_108 (C : Nat → Sp) : ta (tb_X12_listener C) 108 = tr_iald 109 := rfl
theorem a_X12_listener_109 (C : Nat → Sp) : ta (tb_X12_listener C) 109 = tr_iret := rfl
theorem a_X12_listener_110 (C : Nat → Sp) : ta (tb_X12_listener C) 110 = tr_aload 111 0 := rfl
theorem a_X12_listener_111 (C : Nat → Sp) : ta (tb_X12_listener C) 111 = tr_getR 114 13 1212 := rfl
theorem a_X12_listener_114 (C : Nat → Sp) : ta (tb_X12_listener C) 114 = tr_iload 115 1 := rfl
theorem a_X12_listener_115 (C : Nat → Sp) : ta (tb_X12_listener C) 115 = tr_bald 116 := rfl
theorem a_X12_listener_116 (C : Nat → Sp) : ta (tb_X12_listener C) 116 = tr_ifeq 119 123 := rfl
theorem a_X12_listener_119 (C : Nat → Sp) : ta (tb_X12_listener C) 119 = tr_ic 120 1 := rfl
theorem a_X12_listener_120 (C : Nat → Sp) : ta (tb_X12_listener C) 120 = tr_goto 124 := rfl
theorem a_X12_listener_123 (C : Nat → Sp) : ta (tb_X12_listener C) 123 = tr_ic 124 0 := rfl
theorem a_X12_listener_124 (C : Nat → Sp) : ta (tb_X12_listener C) 124 = tr_iret := rfl
theorem a_X12_listener_125 (C : Nat → Sp) : ta (tb_X12_listener C) 125 = tr_aload 126 0 := rfl
theorem a_X12_listener_126 (C : Nat → Sp) : ta (tb_X12_listener C) 126 = tr_getR 129 13 1217 := rfl
theorem a_X12_listener_129 (C : Nat → Sp) : ta (tb_X12_listener C) 129 = tr_iload 130 1 := rfl
theorem a_X12_listener_130 (C : Nat → Sp) : ta (tb_X12_listener C) 130 = tr_iald 131 := rfl
theorem a_X12_listener_131 (C : Nat → Sp) : ta (tb_X12_listener C) 131 = tr_iret := rfl
theorem a_X12_listener_132 (C : Nat → Sp) : ta (tb_X12_listener C) 132 = tr_aload 133 0 := rfl
theorem a_X12_listener_133 (C : Nat → Sp) : ta (tb_X12_listener C) 133 = tr_getR 136 13 1218 := rfl
theorem a_X12_listener_136 (C : Nat → Sp) : ta (tb_X12_listener C) 136 = tr_iload 137 1 := rfl
theorem a_X12_listener_137 (C : Nat → Sp) : ta (tb_X12_listener C) 137 = tr_iald 138 := rfl
set_option maxRecDepth 20000 in
theorem a_X12_listener_138 (C : Nat → Sp) : ta (tb_X12_listener C) 138 = tr_iret := rfl
set_option maxRecDepth 20000 in
theorem a_X12_listener_139 (C : Nat → Sp) : ta (tb_X12_listener C) 139 = tr_ic 140 (-1) := rfl
set_option maxRecDepth 20000 in
theorem a_X12_listener_140 (C : Nat → Sp) : ta (tb_X12_listener C) 140 = tr_iret := rfl

def tb_X12_turn_0 (C : Nat → Sp) : Tab := [(0, tr_aload 1 0), (1, tr_iload 2 1), (2, tr_callV (C 97) 5 13 1), (5, tr_ifeq 8 20), (8, tr_iload 9 2), (9, tr_i2l 10), (10, tr_lc 11 0), (11, tr_lc 14 2), (14, tr_callS (C 96) 17 3), (17, tr_ifne 20 22), (20, tr_ic 21 (-1)), (21, tr_iret), (22, tr_aload 23 0), (23, tr_iload 24 1), (24, tr_iload 25 2), (25, tr_callV (C 115) 28 13 2), (28, tr_iload 29 3), (29, tr_i2l 30), (30, tr_lc 31 0), (31, tr_aload 32 0), (32, tr_getI 35 13 1224), (35, tr_ic 36 1), (36, tr_isub 37), (37, tr_i2l 38), (38, tr_callS (C 96) 41 3), (41, tr_ifeq 44 53), (44, tr_aload 45 0), (45, tr_getR 48 13 1223), (48, tr_iload 49 3), (49, tr_iald 50), (50, tr_goto 55), (53, tr_ic 55 (-4)), (55, tr_iret)]
set_option maxRecDepth 20000 in
theorem tbk_X12_turn_0 {D : DD} {d : Nat} {C : Nat → Sp} (hC : Snd D d C) : ∀ e ∈ tb_X12_turn_0 C, TrOk D (d + 1) mi_X12_turn e.1 e.2 :=
  tk_c (show TrOk D (d + 1) mi_X12_turn 0 (tr_aload 1 0) from ok_aload_n (show decode mi_X12_turn.2.1 0 = .ok (.aload_n 0, 1) from by decide +kernel) rfl) <|
  tk_c (show TrOk D (d + 1) mi_X12_turn 1 (tr_iload 2 1) from ok_iload_n (show decode mi_X12_turn.2.1 1 = .ok (.iload_n 1, 1) from by decide +kernel) rfl) <|
  tk_c (show TrOk D (d + 1) mi_X12_turn 2 (tr_callV (C 97) 5 13 1) from ok_callV (ci := 12) (show decode mi_X12_turn.2.1 2 = .ok (.invokevirtual 143, 3) from by decide +kernel) mok_X12_isKind rfl rfl (gm 951 (by decide +kernel) rfl) (gm 953 (by decide +kernel) rfl) (gm 12 (by decide +kernel) rfl) (hC 97)) <|
  tk_c (show TrOk D (d + 1) mi_X12_turn 5 (tr_ifeq 8 20) from ok_ifeq (show decode mi_X12_turn.2.1 5 = .ok (.ifCond .eq 15, 3) from by decide +kernel) (by decide)) <|
  tk_c (show TrOk D (d + 1) mi_X12_turn 8 (tr_iload 9 2) from ok_iload_n (show decode mi_X12_turn.2.1 8 = .ok (.iload_n 2, 1) from by decide +kernel) rfl) <|
  tk_c (show TrOk D (d + 1) mi_X12_turn 9 (tr_i2l 10) from ok_i2l (show decode mi_X12_turn.2.1 9 = .ok (.i2l, 1) from by decide +kernel)) <|
  tk_c (show TrOk D (d + 1) mi_X12_turn 10 (tr_lc 11 0) from ok_lconst (show decode mi_X12_turn.2.1 10 = .ok (.lconst 0, 1) from by decide +kernel) rfl) <|
  tk_c (show TrOk D (d + 1) mi_X12_turn 11 (tr_lc 14 2) from ok_ldc2 (show decode mi_X12_turn.2.1 11 = .ok (.ldc2_w 154, 3) from by decide +kernel) (gm 974 (by decide +kernel) rfl)) <|
  tk_c (show TrOk D (d + 1) mi_X12_turn 14 (tr_callS (C 96) 17 3) from ok_callS (show decode mi_X12_turn.2.1 14 = .ok (.invokestatic 136, 3) from by decide +kernel) mok_X12_in (gm 955 (by decide +kernel) rfl) (gm 956 (by decide +kernel) rfl) (hC 96)) <|
  tk_c (show TrOk D (d + 1) mi_X12_turn 17 (tr_ifne 20 22) from ok_ifne (show decode mi_X12_turn.2.1 17 = .ok (.ifCond .ne 5, 3) from by decide +kernel) (by decide)) <|
  tk_c (show TrOk D (d + 1) mi_X12_turn 20 (tr_ic 21 (-1)) from ok_iconst (show decode mi_X12_turn.2.1 20 = .ok (.iconst (-1), 1) from by decide +kernel) rfl) <|
  tk_c (show TrOk D (d + 1) mi_X12_turn 21 (tr_iret) from ok_iret (show decode mi_X12_turn.2.1 21 = .ok (.ireturn, 1) from by decide +kernel) rfl) <|
  tk_c (show TrOk D (d + 1) mi_X12_turn 22 (tr_aload 23 0) from ok_aload_n (show decode mi_X12_turn.2.1 22 = .ok (.aload_n 0, 1) from by decide +kernel) rfl) <|
  tk_c (show TrOk D (d + 1) mi_X12_turn 23 (tr_iload 24 1) from ok_iload_n (show decode mi_X12_turn.2.1 23 = .ok (.iload_n 1, 1) from by decide +kernel) rfl) <|
  tk_c (show TrOk D (d + 1) mi_X12_turn 24 (tr_iload 25 2) from ok_iload_n (show decode mi_X12_turn.2.1 24 = .ok (.iload_n 2, 1) from by decide +kernel) rfl) <|
  tk_c (show TrOk D (d + 1) mi_X12_turn 25 (tr_callV (C 115) 28 13 2) from ok_callV (ci := 12) (show decode mi_X12_turn.2.1 25 = .ok (.invokevirtual 189, 3) from by decide +kernel) mok_X12_findTurns rfl rfl (gm 1033 (by decide +kernel) rfl) (gm 1035 (by decide +kernel) rfl) (gm 18 (by decide +kernel) rfl) (hC 115)) <|
  tk_c (show TrOk D (d + 1) mi_X12_turn 28 (tr_iload 29 3) from ok_iload_n (show decode mi_X12_turn.2.1 28 = .ok (.iload_n 3, 1) from by decide +kernel) rfl) <|
  tk_c (show TrOk D (d + 1) mi_X12_turn 29 (tr_i2l 30) from ok_i2l (show decode mi_X12_turn.2.1 29 = .ok (.i2l, 1) from by decide +kernel)) <|
  tk_c (show TrOk D (d + 1) mi_X12_turn 30 (tr_lc 31 0) from ok_lconst (show decode mi_X12_turn.2.1 30 = .ok (.lconst 0, 1) from by decide +kernel) rfl) <|
  tk_c (show TrOk D (d + 1) mi_X12_turn 31 (tr_aload 32 0) from ok_aload_n (show decode mi_X12_turn.2.1 31 = .ok (.aload_n 0, 1) from by decide +kernel) rfl) <|
  tk_c (show TrOk D (d + 1) mi_X12_turn 32 (tr_getI 35 13 1224) from ok_getI (ci := 12) (k := 24) (show decode mi_X12_turn.2.1 32 = .ok (.getfield 179, 3) from by decide +kernel) rfl (by decide) (gm 805 (by decide +kernel) rfl) rfl) <|
  tk_c (show TrOk D (d + 1) mi_X12_turn 35 (tr_ic 36 1) from ok_iconst (show decode mi_X12_turn.2.1 35 = .ok (.iconst 1, 1) from by decide +kernel) rfl) <|
  tk_c (show TrOk D (d + 1) mi_X12_turn 36 (tr_isub 37) from ok_isub (show decode mi_X12_turn.2.1 36 = .ok (.isub, 1) from by decide +kernel)) <|
  tk_c (show TrOk D (d + 1) mi_X12_turn 37 (tr_i2l 38) from ok_i2l (show decode mi_X12_turn.2.1 37 = .ok (.i2l, 1) from by decide +kernel)) <|
  tk_c (show TrOk D (d + 1) mi_X12_turn 38 (tr_callS (C 96) 41 3) from ok_callS (show decode mi_X12_turn.2.1 38 = .ok (.invokestatic 136, 3) from by decide +kernel) mok_X12_in (gm 955 (by decide +kernel) rfl) (gm 956 (by decide +kernel) rfl) (hC 96)) <|
  tk_c (show TrOk D (d + 1) mi_X12_turn 41 (tr_ifeq 44 53) from ok_ifeq (show decode mi_X12_turn.2.1 41 = .ok (.ifCond .eq 12, 3) from by decide +kernel) (by decide)) <|
  tk_c (show TrOk D (d + 1) mi_X12_turn 44 (tr_aload 45 0) from ok_aload_n (show decode mi_X12_turn.2.1 44 = .ok (.aload_n 0, 1) from by decide +kernel) rfl) <|
  tk_c (show TrOk D (d + 1) mi_X12_turn 45 (tr_getR 48 13 1223) from ok_getR (ci := 12) (k := 23) (show decode mi_X12_turn.2.1 45 = .ok (.getfield 72, 3) from by decide +kernel) rfl (by decide) (gm 804 (by decide +kernel) rfl) rfl) <|
  tk_c (show TrOk D (d + 1) mi_X12_turn 48 (tr_iload 49 3) from ok_iload_n (show decode mi_X12_turn.2.1 48 = .ok (.iload_n 3, 1) from by decide +kernel) rfl) <|
  tk_c (show TrOk D (d + 1) mi_X12_turn 49 (tr_iald 50) from ok_iald (show decode mi_X12_turn.2.1 49 = .ok (.iaload, 1) from by decide +kernel)) <|
  tk_c (show TrOk D (d + 1) mi_X12_turn 50 (tr_goto 55) from ok_goto (show decode mi_X12_turn.2.1 50 = .ok (.goto 5, 3) from by decide +kernel) (by decide)) <|
  tk_c (show TrOk D (d + 1) mi_X12_turn 53 (tr_ic 55 (-4)) from ok_bipush (show decode mi_X12_turn.2.1 53 = .ok (.bipush (-4), 2) from by decide +kernel) rfl) <|
  tk_c (show TrOk D (d + 1) mi_X12_turn 55 (tr_iret) from ok_iret (show decode mi_X12_turn.2.1 55 = .ok (.ireturn, 1) from by decide +kernel) rfl) <|
  tk_n
def tb_X12_turn (C : Nat → Sp) : Tab := tb_X12_turn_0 C
theorem tbk_X12_turn {D : DD} {d : Nat} {C : Nat → Sp} (hC : Snd D d C) : ∀ e ∈ tb_X12_turn C, TrOk D (d + 1) mi_X12_turn e.1 e.2 := tbk_X12_turn_0 hC
theorem a_X12_turn_0 (C : Nat → Sp) : ta (tb_X12_turn C) 0 = tr_aload 1 0 := rfl
theorem a_X12_turn_1 (C : Nat → Sp) : ta (tb_X12_turn C) 1 = tr_iload 2 1 := rfl
theorem a_X12_turn_2 (C : Nat → Sp) : ta (tb_X12_turn C) 2 = tr_callV (C 97) 5 13 1 := rfl
theorem a_X12_turn_5 (C : Nat → Sp) : ta (tb_X12_turn C) 5 = tr_ifeq 8 20 := rfl
theorem a_X12_turn_8 (C : Nat → Sp) : ta (tb_X12_turn C) 8 = tr_iload 9 2 := rfl
theorem a_X12_turn_9 (C : Nat → Sp) : ta (tb_X12_turn C) 9 = tr_i2l 10 := rfl
theorem a_X12_turn_10 (C : Nat → Sp) : ta (tb_X12_turn C) 10 = tr_lc 11 0 := rfl
theorem a_X12_turn_11 (C : Nat → Sp) : ta (tb_X12_turn C) 11 = tr_lc 14 2 := rfl
theorem a_X12_turn_14 (C : Nat → Sp) : ta (tb_X12_turn C) 14 = tr_callS (C 96) 17 3 := rfl
theorem a_X12_turn_17 (C : Nat → Sp) : ta (tb_X12_turn C) 17 = tr_ifne 20 22 := rfl
theorem a_X12_turn_20 (C : Nat → Sp) : ta (tb_X12_turn C) 20 = tr_ic 21 (-1) := rfl
theorem a_X12_turn_21 (C : Nat → Sp) : ta (tb_X12_turn C) 21 = tr_iret := rfl
theorem a_X12_turn_22 (C : Nat → Sp) : ta (tb_X12_turn C) 22 = tr_aload 23 0 := rfl
theorem a_X12_turn_23 (C : Nat → Sp) : ta (tb_X12_turn C) 23 = tr_iload 24 1 := rfl
theorem a_X12_turn_24 (C : Nat → Sp) : ta (tb_X12_turn C) 24 = tr_iload 25 2 := rfl
theorem a_X12_turn_25 (C : Nat → Sp) : ta (tb_X12_turn C) 25 = tr_callV (C 115) 28 13 2 := rfl
theorem a_X12_turn_28 (C : Nat → Sp) : ta (tb_X12_turn C) 28 = tr_iload 29 3 := rfl
theorem a_X12_turn_29 (C : Nat → Sp) : ta (tb_X12_turn C) 29 = tr_i2l 30 := rfl
theorem a_X12_turn_30 (C : Nat → Sp) : ta (tb_X12_turn C) 30 = tr_lc 31 0 := rfl
theorem a_X12_turn_31 (C : Nat → Sp) : ta (tb_X12_turn C) 31 = tr_aload 32 0 := rfl
theorem a_X12_turn_32 (C : Nat → Sp) : ta (tb_X12_turn C) 32 = tr_getI 35 13 1224 := rfl
theorem a_X12_turn_35 (C : Nat → Sp) : ta (tb_X12_turn C) 35 = tr_ic 36 1 := rfl
theorem a_X12_turn_36 (C : Nat → Sp) : ta (tb_X12_turn C) 36 = tr_isub 37 := rfl
theorem a_X12_turn_37 (C : Nat → Sp) : ta (tb_X12_turn C) 37 = tr_i2l 38 := rfl
theorem a_X12_turn_38 (C : Nat → Sp) : ta (tb_X12_turn C) 38 = tr_callS (C 96) 41 3 := rfl
theorem a_X12_turn_41 (C : Nat → Sp) : ta (tb_X12_turn C) 41 = tr_ifeq 44 53 := rfl
theorem a_X12_turn_44 (C : Nat → Sp) : ta (tb_X12_turn C) 44 = tr_aload 45 0 := rfl
theorem a_X12_turn_45 (C : Nat → Sp) : ta (tb_X12_turn C) 45 = tr_getR 48 13 1223 := rfl
theorem a_X12_turn_48 (C : Nat → Sp) : ta (tb_X12_turn C) 48 = tr_iload 49 3 := rfl
theorem a_X12_turn_49 (C : Nat → Sp) : ta (tb_X12_turn C) 49 = tr_iald 50 := rfl
theorem a_X12_turn_50 (C : Nat → Sp) : ta (tb_X12_turn C) 50 = tr_goto 55 := rfl
theorem a_X12_turn_53 (C : Nat → Sp) : ta (tb_X12_turn C) 53 = tr_ic 55 (-4) := rfl
theorem a_X12_turn_55 (C : Nat → Sp) : ta (tb_X12_turn C) 55 = tr_iret := rfl

def tb_X12_under_0 (C : Nat → Sp) : Tab := [(0, tr_aload 1 0), (1, tr_iload 2 1), (2, tr_callV (C 97) 5 13 1), (5, tr_ifeq 8 16), (8, tr_aload 9 0), (9, tr_iload 10 2), (10, tr_callV (C 97) 13 13 1), (13, tr_ifne 16 18), (16, tr_ic 17 (-1)), (17, tr_iret), (18, tr_aload 19 0), (19, tr_iload 20 1), (20, tr_iload 21 2), (21, tr_callV (C 113) 24 13 2), (24, tr_ic 26 (-4)), (26, tr_icne 29 33), (29, tr_ic 30 0), (30, tr_goto 34), (33, tr_ic 34 1), (34, tr_iret)]
set_option maxRecDepth 20000 in
theorem tbk_X12_under_0 {D : DD} {d : Nat} {C : Nat → Sp} (hC : Snd D d C) : ∀ e ∈ tb_X12_under_0 C, TrOk D (d + 1) mi_X12_under e.1 e.2 :=
  tk_c (show TrOk D (d + 1) mi_X12_under 0 (tr_aload 1 0) from ok_aload_n (show decode mi_X12_under.2.1 0 = .ok (.aload_n 0, 1) from by decide +kernel) rfl) <|
  tk_c (show TrOk D (d + 1) mi_X12_under 1 (tr_iload 2 1) from ok_iload_n (show decode mi_X12_under.2.1 1 = .ok (.iload_n 1, 1) from by decide +kernel) rfl) <|
  tk_c (show TrOk D (d + 1) mi_X12_under 2 (tr_callV (C 97) 5 13 1) from ok_callV (ci := 12) (show decode mi_X12_under.2.1 2 = .ok (.invokevirtual 143, 3) from by decide +kernel) mok_X12_isKind rfl rfl (gm 951 (by decide +kernel) rfl) (gm 953 (by decide +kernel) rfl) (gm 12 (by decide +kernel) rfl) (hC 97)) <|
  tk_c (show TrOk D (d + 1) mi_X12_under 5 (tr_ifeq 8 16) from ok_ifeq (show decode mi_X12_under.2.1 5 = .ok (.ifCond .eq 11, 3) from by decide +kernel) (by decide)) <|
  tk_c (show TrOk D (d + 1) mi_X12_under 8 (tr_aload 9 0) from ok_aload_n (show decode mi_X12_under.2.1 8 = .ok (.aload_n 0, 1) from by decide +kernel) rfl) <|
  tk_c (show TrOk D (d + 1) mi_X12_under 9 (tr_iload 10 2) from ok_iload_n (show decode mi_X12_under.2.1 9 = .ok (.iload_n 2, 1) from by decide +kernel) rfl) <|
  tk_c (show TrOk D (d + 1) mi_X12_under 10 (tr_callV (C 97) 13 13 1) from ok_callV (ci := 12) (show decode mi_X12_under.2.1 10 = .ok (.invokevirtual 143, 3) from by decide +kernel) mok_X12_isKind rfl rfl (gm 951 (by decide +kernel) rfl) (gm 953 (by decide +kernel) rfl) (gm 12 (by decide +kernel) rfl) (hC 97)) <|
  tk_c (show TrOk D (d + 1) mi_X12_under 13 (tr_ifne 16 18) from ok_ifne (show decode mi_X12_under.2.1 13 = .ok (.ifCond .ne 5, 3) from by decide +kernel) (by decide)) <|
  tk_c (show TrOk D (d + 1) mi_X12_under 16 (tr_ic 17 (-1)) from ok_iconst (show decode mi_X12_under.2.1 16 = .ok (.iconst (-1), 1) from by decide +kernel) rfl) <|
  tk_c (show TrOk D (d + 1) mi_X12_under 17 (tr_iret) from ok_iret (show decode mi_X12_under.2.1 17 = .ok (.ireturn, 1) from by decide +kernel) rfl) <|
  tk_c (show TrOk D (d + 1) mi_X12_under 18 (tr_aload 19 0) from ok_aload_n (show decode mi_X12_under.2.1 18 = .ok (.aload_n 0, 1) from by decide +kernel) rfl) <|
  tk_c (show TrOk D (d + 1) mi_X12_under 19 (tr_iload 20 1) from ok_iload_n (show decode mi_X12_under.2.1 19 = .ok (.iload_n 1, 1) from by decide +kernel) rfl) <|
  tk_c (show TrOk D (d + 1) mi_X12_under 20 (tr_iload 21 2) from ok_iload_n (show decode mi_X12_under.2.1 20 = .ok (.iload_n 2, 1) from by decide +kernel) rfl) <|
  tk_c (show TrOk D (d + 1) mi_X12_under 21 (tr_callV (C 113) 24 13 2) from ok_callV (ci := 12) (show decode mi_X12_under.2.1 21 = .ok (.invokevirtual 175, 3) from by decide +kernel) mok_X12_above rfl rfl (gm 1037 (by decide +kernel) rfl) (gm 1039 (by decide +kernel) rfl) (gm 19 (by decide +kernel) rfl) (hC 113)) <|
  tk_c (show TrOk D (d + 1) mi_X12_under 24 (tr_ic 26 (-4)) from ok_bipush (show decode mi_X12_under.2.1 24 = .ok (.bipush (-4), 2) from by decide +kernel) rfl) <|
  tk_c (show TrOk D (d + 1) mi_X12_under 26 (tr_icne 29 33) from ok_icne (show decode mi_X12_under.2.1 26 = .ok (.if_icmp .ne 7, 3) from by decide +kernel) (by decide)) <|
  tk_c (show TrOk D (d + 1) mi_X12_under 29 (tr_ic 30 0) from ok_iconst (show decode mi_X12_under.2.1 29 = .ok (.iconst 0, 1) from by decide +kernel) rfl) <|
  tk_c (show TrOk D (d + 1) mi_X12_under 30 (tr_goto 34) from ok_goto (show decode mi_X12_under.2.1 30 = .ok (.goto 4, 3) from by decide +kernel) (by decide)) <|
  tk_c (show TrOk D (d + 1) mi_X12_under 33 (tr_ic 34 1) from ok_iconst (show decode mi_X12_under.2.1 33 = .ok (.iconst 1, 1) from by decide +kernel) rfl) <|
  tk_c (show TrOk D (d + 1) mi_X12_under 34 (tr_iret) from ok_iret (show decode mi_X12_under.2.1 34 = .ok (.ireturn, 1) from by decide +kernel) rfl) <|
  tk_n
def tb_X12_under (C : Nat → Sp) : Tab := tb_X12_under_0 C
theorem tbk_X12_under {D : DD} {d : Nat} {C : Nat → Sp} (hC : Snd D d C) : ∀ e ∈ tb_X12_under C, TrOk D (d + 1) mi_X12_under e.1 e.2 := tbk_X12_under_0 hC
theorem a_X12_under_0 (C : Nat → Sp) : ta (tb_X12_under C) 0 = tr_aload 1 0 := rfl
theorem a_X12_under_1 (C : Nat → Sp) : ta (tb_X12_under C) 1 = tr_iload 2 1 := rfl
theorem a_X12_under_2 (C : Nat → Sp) : ta (tb_X12_under C) 2 = tr_callV (C 97) 5 13 1 := rfl
theorem a_X12_under_5 (C : Nat → Sp) : ta (tb_X12_under C) 5 = tr_ifeq 8 16 := rfl
theorem a_X12_under_8 (C : Nat → Sp) : ta (tb_X12_under C) 8 = tr_aload 9 0 := rfl
theorem a_X12_under_9 (C : Nat → Sp) : ta (tb_X12_under C) 9 = tr_iload 10 2 := rfl
theorem a_X12_under_10 (C : Nat → Sp) : ta (tb_X12_under C) 10 = tr_callV (C 97) 13 13 1 := rfl
theorem a_X12_under_13 (C : Nat → Sp) : ta (tb_X12_under C) 13 = tr_ifne 16 18 := rfl
theorem a_X12_under_16 (C : Nat → Sp) : ta (tb_X12_under C) 16 = tr_ic 17 (-1) := rfl
theorem a_X12_under_17 (C : Nat → Sp) : ta (tb_X12_under C) 17 = tr_iret := rfl
theorem a_X12_under_18 (C : Nat → Sp) : ta (tb_X12_under C) 18 = tr_aload 19 0 := rfl
theorem a_X12_under_19 (C : Nat → Sp) : ta (tb_X12_under C) 19 = tr_iload 20 1 := rfl
theorem a_X12_under_20 (C : Nat → Sp) : ta (tb_X12_under C) 20 = tr_iload 21 2 := rfl
theorem a_X12_under_21 (C : Nat → Sp) : ta (tb_X12_under C) 21 = tr_callV (C 113) 24 13 2 := rfl
theorem a_X12_under_24 (C : Nat → Sp) : ta (tb_X12_under C) 24 = tr_ic 26 (-4) := rfl
theorem a_X12_under_26 (C : Nat → Sp) : ta (tb_X12_under C) 26 = tr_icne 29 33 := rfl
theorem a_X12_under_29 (C : Nat → Sp) : ta (tb_X12_under C) 29 = tr_ic 30 0 := rfl
theorem a_X12_under_30 (C : Nat → Sp) : ta (tb_X12_under C) 30 = tr_goto 34 := rfl
theorem a_X12_under_33 (C : Nat → Sp) : ta (tb_X12_under C) 33 = tr_ic 34 1 := rfl
theorem a_X12_under_34 (C : Nat → Sp) : ta (tb_X12_under C) 34 = tr_iret := rfl

def tb_X12_count_0 (C : Nat → Sp) : Tab := [(0, tr_ic 1 0), (1, tr_istore 2 2), (2, tr_ic 3 0), (3, tr_istore 4 3), (4, tr_iload 5 3), (5, tr_aload 6 0), (6, tr_getI 9 13 1203), (9, tr_icge 12 35), (12, tr_iload 13 2), (13, tr_aload 14 0), (14, tr_getR 17 13 1204), (17, tr_iload 18 3), (18, tr_bald 19), (19, tr_ifeq 22 26), (22, tr_ic 23 1), (23, tr_goto 27), (26, tr_ic 27 0), (27, tr_iadd 28), (28, tr_istore 29 2), (29, tr_iinc 32 3 1), (32, tr_goto 4), (35, tr_ic 36 0), (36, tr_istore 37 3), (37, tr_ic 38 0), (38, tr_istore 40 4), (40, tr_iload 42 4), (42, tr_aload 43 0), (43, tr_getI 46 13 1205), (46, tr_icge 49 73), (49, tr_iload 50 3), (50, tr_aload 51 0), (51, tr_getR 54 13 1213), (54, tr_iload 56 4), (56, tr_bald 57), (57, tr_ifeq 60 64), (60, tr_ic 61 1), (61, tr_goto 65), (64, tr_ic 65 0), (65, tr_iadd 66), (66, tr_istore 67 3)]
set_option maxRecDepth 20000 in
theorem tbk_X12_count_0 {D : DD} {d : Nat} {C : Nat → Sp} (hC : Snd D d C) : ∀ e ∈ tb_X12_count_0 C, TrOk D (d + 1) mi_X12_count e.1 e.2 :=
  tk_c (show TrOk D (d + 1) mi_X12_count 0 (tr_ic 1 0) from ok_iconst (show decode mi_X12_count.2.1 0 = .ok (.iconst 0, 1) from by decide +kernel) rfl) <|
  tk_c (show TrOk D (d + 1) mi_X12_count 1 (tr_istore 2 2) from ok_istore_n (show decode mi_X12_count.2.1 1 = .ok (.istore_n 2, 1) from by decide +kernel) rfl (by decide)) <|
  tk_c (show TrOk D (d + 1) mi_X12_count 2 (tr_ic 3 0) from ok_iconst (show decode mi_X12_count.2.1 2 = .ok (.iconst 0, 1) from by decide +kernel) rfl) <|
  tk_c (show TrOk D (d + 1) mi_X12_count 3 (tr_istore 4 3) from ok_istore_n (show decode mi_X12_count.2.1 3 = .ok (.istore_n 3, 1) from by decide +kernel) rfl (by decide)) <|
  tk_c (show TrOk D (d + 1) mi_X12_count 4 (tr_iload 5 3) from ok_iload_n (show decode mi_X12_count.2.1 4 = .ok (.iload_n 3, 1) from by decide +kernel) rfl) <|
  tk_c (show TrOk D (d + 1) mi_X12_count 5 (tr_aload 6 0) from ok_aload_n (show decode mi_X12_count.2.1 5 = .ok (.aload_n 0, 1) from by decide +kernel) rfl) <|
  tk_c (show TrOk D (d + 1) mi_X12_count 6 (tr_getI 9 13 1203) from ok_getI (ci := 12) (k := 3) (show decode mi_X12_count.2.1 6 = .ok (.getfield 147, 3) from by decide +kernel) rfl (by decide) (gm 784 (by decide +kernel) rfl) rfl) <|
  tk_c (show TrOk D (d + 1) mi_X12_count 9 (tr_icge 12 35) from ok_icge (show decode mi_X12_count.2.1 9 = .ok (.if_icmp .ge 26, 3) from by decide +kernel) (by decide)) <|
  tk_c (show TrOk D (d + 1) mi_X12_count 12 (tr_iload 13 2) from ok_iload_n (show decode mi_X12_count.2.1 12 = .ok (.iload_n 2, 1) from by decide +kernel) rfl) <|
  tk_c (show TrOk D (d + 1) mi_X12_count 13 (tr_aload 14 0) from ok_aload_n (show decode mi_X12_count.2.1 13 = .ok (.aload_n 0, 1) from by decide +kernel) rfl) <|
  tk_c (show TrOk D (d + 1) mi_X12_count 14 (tr_getR 17 13 1204) from ok_getR (ci := 12) (k := 4) (show decode mi_X12_count.2.1 14 = .ok (.getfield 17, 3) from by decide +kernel) rfl (by decide) (gm 785 (by decide +kernel) rfl) rfl) <|
  tk_c (show TrOk D (d + 1) mi_X12_count 17 (tr_iload 18 3) from ok_iload_n (show decode mi_X12_count.2.1 17 = .ok (.iload_n 3, 1) from by decide +kernel) rfl) <|
  tk_c (show TrOk D (d + 1) mi_X12_count 18 (tr_bald 19) from ok_bald (show decode mi_X12_count.2.1 18 = .ok (.baload, 1) from by decide +kernel)) <|
  tk_c (show TrOk D (d + 1) mi_X12_count 19 (tr_ifeq 22 26) from ok_ifeq (show decode mi_X12_count.2.1 19 = .ok (.ifCond .eq 7, 3) from by decide +kernel) (by decide)) <|
  tk_c (show TrOk D (d + 1) mi_X12_count 22 (tr_ic 23 1) from ok_iconst (show decode mi_X12_count.2.1 22 = .ok (.iconst 1, 1) from by decide +kernel) rfl) <|
  tk_c (show TrOk D (d + 1) mi_X12_count 23 (tr_goto 27) from ok_goto (show decode mi_X12_count.2.1 23 = .ok (.goto 4, 3) from by decide +kernel) (by decide)) <|
  tk_c (show TrOk D (d + 1) mi_X12_count 26 (tr_ic 27 0) from ok_iconst (show decode mi_X12_count.2.1 26 = .ok (.iconst 0, 1) from by decide +kernel) rfl) <|
  tk_c (show TrOk D (d + 1) mi_X12_count 27 (tr_iadd 28) from ok_iadd (show decode mi_X12_count.2.1 27 = .ok (.iadd, 1) from by decide +kernel)) <|
  tk_c (show TrOk D (d + 1) mi_X12_count 28 (tr_istore 29 2) from ok_istore_n (show decode mi_X12_count.2.1 28 = .ok (.istore_n 2, 1) from by decide +kernel) rfl (by decide)) <|
  tk_c (show TrOk D (d + 1) mi_X12_count 29 (tr_iinc 32 3 1) from ok_iinc (show decode mi_X12_count.2.1 29 = .ok (.iinc 3 1, 3) from by decide +kernel) rfl (by decide)) <|
  tk_c (show TrOk D (d + 1) mi_X12_count 32 (tr_goto 4) from ok_goto (show decode mi_X12_count.2.1 32 = .ok (.goto (-28), 3) from by decide +kernel) (by decide)) <|
  tk_c (show TrOk D (d + 1) mi_X12_count 35 (tr_ic 36 0) from ok_iconst (show decode mi_X12_count.2.1 35 = .ok (.iconst 0, 1) from by decide +kernel) rfl) <|
  tk_c (show TrOk D (d + 1) mi_X12_count 36 (tr_istore 37 3) from ok_istore_n (show decode mi_X12_count.2.1 36 = .ok (.istore_n 3, 1) from by decide +kernel) rfl (by decide)) <|
  tk_c (show TrOk D (d + 1) mi_X12_count 37 (tr_ic 38 0) from ok_iconst (show decode mi_X12_count.2.1 37 = .ok (.iconst 0, 1) from by decide +kernel) rfl) <|
  tk_c (show TrOk D (d + 1) mi_X12_count 38 (tr_istore 40 4) from ok_istore (show decode mi_X12_count.2.1 38 = .ok (.istore 4, 2) from by decide +kernel) (by decide)) <|
  tk_c (show TrOk D (d + 1) mi_X12_count 40 (tr_iload 42 4) from ok_iload (show decode mi_X12_count.2.1 40 = .ok (.iload 4, 2) from by decide +kernel)) <|
  tk_c (show TrOk D (d + 1) mi_X12_count 42 (tr_aload 43 0) from ok_aload_n (show decode mi_X12_count.2.1 42 = .ok (.aload_n 0, 1) from by decide +kernel) rfl) <|
  tk_c (show TrOk D (d + 1) mi_X12_count 43 (tr_getI 46 13 1205) from ok_getI (ci := 12) (k := 5) (show decode mi_X12_count.2.1 43 = .ok (.getfield 140, 3) from by decide +kernel) rfl (by decide) (gm 786 (by decide +kernel) rfl) rfl) <|
  tk_c (show TrOk D (d + 1) mi_X12_count 46 (tr_icge 49 73) from ok_icge (show decode mi_X12_count.2.1 46 = .ok (.if_icmp .ge 27, 3) from by decide +kernel) (by decide)) <|
  tk_c (show TrOk D (d + 1) mi_X12_count 49 (tr_iload 50 3) from ok_iload_n (show decode mi_X12_count.2.1 49 = .ok (.iload_n 3, 1) from by decide +kernel) rfl) <|
  tk_c (show TrOk D (d + 1) mi_X12_count 50 (tr_aload 51 0) from ok_aload_n (show decode mi_X12_count.2.1 50 = .ok (.aload_n 0, 1) from by decide +kernel) rfl) <|
  tk_c (show TrOk D (d + 1) mi_X12_count 51 (tr_getR 54 13 1213) from ok_getR (ci := 12) (k := 13) (show decode mi_X12_count.2.1 51 = .ok (.getfield 42, 3) from by decide +kernel) rfl (by decide) (gm 794 (by decide +kernel) rfl) rfl) <|
  tk_c (show TrOk D (d + 1) mi_X12_count 54 (tr_iload 56 4) from ok_iload (show decode mi_X12_count.2.1 54 = .ok (.iload 4, 2) from by decide +kernel)) <|
  tk_c (show TrOk D (d + 1) mi_X12_count 56 (tr_bald 57) from ok_bald (show decode mi_X12_count.2.1 56 = .ok (.baload, 1) from by decide +kernel)) <|
  tk_c (show TrOk D (d + 1) mi_X12_count 57 (tr_ifeq 60 64) from ok_ifeq (show decode mi_X12_count.2.1 57 = .ok (.ifCond .eq 7, 3) from by decide +kernel) (by decide)) <|
  tk_c (show TrOk D (d + 1) mi_X12_count 60 (tr_ic 61 1) from ok_iconst (show decode mi_X12_count.2.1 60 = .ok (.iconst 1, 1) from by decide +kernel) rfl) <|
  tk_c (show TrOk D (d + 1) mi_X12_count 61 (tr_goto 65) from ok_goto (show decode mi_X12_count.2.1 61 = .ok (.goto 4, 3) from by decide +kernel) (by decide)) <|
  tk_c (show TrOk D (d + 1) mi_X12_count 64 (tr_ic 65 0) from ok_iconst (show decode mi_X12_count.2.1 64 = .ok (.iconst 0, 1) from by decide +kernel) rfl) <|
  tk_c (show TrOk D (d + 1) mi_X12_count 65 (tr_iadd 66) from ok_iadd (show decode mi_X12_count.2.1 65 = .ok (.iadd, 1) from by decide +kernel)) <|
  tk_c (show TrOk D (d + 1) mi_X12_count 66 (tr_istore 67 3) from ok_istore_n (show decode mi_X12_count.2.1 66 = .ok (.istore_n 3, 1) from by decide +kernel) rfl (by decide)) <|
  tk_n
def tb_X12_count_1 (C : Nat → Sp) : Tab := [(67, tr_iinc 70 4 1), (70, tr_goto 40), (73, tr_iload 74 1), (74, tr_sw 0 [112, 117, 122, 124, 129, 131] 136), (112, tr_aload 113 0), (113, tr_getI 116 13 1200), (116, tr_iret), (117, tr_aload 118 0), (118, tr_getI 121 13 1203), (121, tr_iret), (122, tr_iload 123 2), (123, tr_iret), (124, tr_aload 125 0), (125, tr_getI 128 13 1205), (128, tr_iret), (129, tr_iload 130 3), (130, tr_iret), (131, tr_aload 132 0), (132, tr_getI 135 13 1252), (135, tr_iret), (136, tr_ic 137 (-1)), (137, tr_iret)]
set_option maxRecDepth 20000 in
theorem tbk_X12_count_1 {D : DD} {d : Nat} {C : Nat → Sp} (hC : Snd D d C) : ∀ e ∈ tb_X12_count_1 C, TrOk D (d + 1) mi_X12_count e.1 e.2 :=
  tk_c (show TrOk D (d + 1) mi_X12_count 67 (tr_iinc 70 4 1) from ok_iinc (show decode mi_X12_count.2.1 67 = .ok (.iinc 4 1, 3) from by decide +kernel) rfl (by decide)) <|
  tk_c (show TrOk D (d + 1) mi_X12_count 70 (tr_goto 40) from ok_goto (show decode mi_X12_count.2.1 70 = .ok (.goto (-30), 3) from by decide +kernel) (by decide)) <|
  tk_c (show TrOk D (d + 1) mi_X12_count 73 (tr_iload 74 1) from ok_iload_n (show decode mi_X12_count.2.1 73 = .ok (.iload_n 1, 1) from by decide +kernel) rfl) <|
  tk_c (show TrOk D (d + 1) mi_X12_count 74 (tr_sw 0 [112, 117, 122, 124, 129, 131] 136) from ok_sw 0 (show decode mi_X12_count.2.1 74 = .ok (.tableswitch 62 0 5 #[38, 43, 48, 50, 55, 57], 38) from by decide +kernel) rfl rfl (by decide) (by decide) (by decide) (by decide +kernel)) <|
  tk_c (show TrOk D (d + 1) mi_X12_count 112 (tr_aload 113 0) from ok_aload_n (show decode mi_X12_count.2.1 112 = .ok (.aload_n 0, 1) from by decide +kernel) rfl) <|
  tk_c (show TrOk D (d + 1) mi_X12_count 113 (tr_getI 116 13 1200) from ok_getI (ci := 12) (k := 0) (show decode mi_X12_count.2.1 113 = .ok (.getfield 133, 3) from by decide +kernel) rfl (by decide) (gm 781 (by decide +kernel) rfl) rfl) <|
  tk_c (show TrOk D (d + 1) mi_X12_count 116 (tr_iret) from ok_iret (show decode mi_X12_count.2.1 116 = .ok (.ireturn, 1) from by decide +kernel) rfl) <|
  tk_c (show TrOk D (d + 1) mi_X12_count 117 (tr_aload 118 0) from ok_aload_n (show decode mi_X12_count.2.1 117 = .ok (.aload_n 0, 1) from by decide +kernel) rfl) <|
  tk_c (show TrOk D (d + 1) mi_X12_count 118 (tr_getI 121 13 1203) from ok_getI (ci := 12) (k := 3) (show decode mi_X12_count.2.1 118 = .ok (.getfield 147, 3) from by decide +kernel) rfl (by decide) (gm 784 (by decide +kernel) rfl) rfl) <|
  tk_c (show TrOk D (d + 1) mi_X12_count 121 (tr_iret) from ok_iret (show decode mi_X12_count.2.1 121 = .ok (.ireturn, 1) from by decide +kernel) rfl) <|
  tk_c (show TrOk D (d + 1) mi_X12_count 122 (tr_iload 123 2) from ok_iload_n (show decode mi_X12_count.2.1 122 = .ok (.iload_n 2, 1) from by decide +kernel) rfl) <|
  tk_c (show TrOk D (d + 1) mi_X12_count 123 (tr_iret) from ok_iret (show decode mi_X12_count.2.1 123 = .ok (.ireturn, 1) from by decide +kernel) rfl) <|
  tk_c (show TrOk D (d + 1) mi_X12_count 124 (tr_aload 125 0) from ok_aload_n (show decode mi_X12_count.2.1 124 = .ok (.aload_n 0, 1) from by decide +kernel) rfl) <|
  tk_c (show TrOk D (d + 1) mi_X12_count 125 (tr_getI 128 13 1205) from ok_getI (ci := 12) (k := 5) (show decode mi_X12_count.2.1 125 = .ok (.getfield 140, 3) from by decide +kernel) rfl (by decide) (gm 786 (by decide +kernel) rfl) rfl) <|
  tk_c (show TrOk D (d + 1) mi_X12_count 128 (tr_iret) from ok_iret (show decode mi_X12_count.2.1 128 = .ok (.ireturn, 1) from by decide +kernel) rfl) <|
  tk_c (show TrOk D (d + 1) mi_X12_count 129 (tr_iload 130 3) from ok_iload_n (show decode mi_X12_count.2.1 129 = .ok (.iload_n 3, 1) from by decide +kernel) rfl) <|
  tk_c (show TrOk D (d + 1) mi_X12_count 130 (tr_iret) from ok_iret (show decode mi_X12_count.2.1 130 = .ok (.ireturn, 1) from by decide +kernel) rfl) <|
  tk_c (show TrOk D (d + 1) mi_X12_count 131 (tr_aload 132 0) from ok_aload_n (show decode mi_X12_count.2.1 131 = .ok (.aload_n 0, 1) from by decide +kernel) rfl) <|
  tk_c (show TrOk D (d + 1) mi_X12_count 132 (tr_getI 135 13 1252) from ok_getI (ci := 12) (k := 52) (show decode mi_X12_count.2.1 132 = .ok (.getfield 203, 3) from by decide +kernel) rfl (by decide) (gm 833 (by decide +kernel) rfl) rfl) <|
  tk_c (show TrOk D (d + 1) mi_X12_count 135 (tr_iret) from ok_iret (show decode mi_X12_count.2.1 135 = .ok (.ireturn, 1) from by decide +kernel) rfl) <|
  tk_c (show TrOk D (d + 1) mi_X12_count 136 (tr_ic 137 (-1)) from ok_iconst (show decode mi_X12_count.2.1 136 = .ok (.iconst (-1), 1) from by decide +kernel) rfl) <|
  tk_c (show TrOk D (d + 1) mi_X12_count 137 (tr_iret) from ok_iret (show decode mi_X12_count.2.1 137 = .ok (.ireturn, 1) from by decide +kernel) rfl) <|
  tk_n
def tb_X12_count (C : Nat → Sp) : Tab := tb_X12_count_0 C ++ (tb_X12_count_1 C)
theorem tbk_X12_count {D : DD} {d : Nat} {C : Nat → Sp} (hC : Snd D d C) : ∀ e ∈ tb_X12_count C, TrOk D (d + 1) mi_X12_count e.1 e.2 := tk_a (tbk_X12_count_0 hC) (tbk_X12_count_1 hC)
theorem a_X12_count_0 (C : Nat → Sp) : ta (tb_X12_count C) 0 = tr_ic 1 0 := rfl
theorem a_X12_count_1 (C : Nat → Sp) : ta (tb_X12_count C) 1 = tr_istore 2 2 := rfl
theorem a_X12_count_2 (C : Nat → Sp) : ta (tb_X12_count C) 2 = tr_ic 3 0 := rfl
theorem a_X12_count_3 (C : Nat → Sp) : ta (tb_X12_count C) 3 = tr_istore 4 3 := rfl
theorem a_X12_count_4 (C : Nat → Sp) : ta (tb_X12_count C) 4 = tr_iload 5 3 := rfl
theorem a_X12_count_5 (C : Nat → Sp) : ta (tb_X12_count C) 5 = tr_aload 6 0 := rfl
theorem a_X12_count_6 (C : Nat → Sp) : ta (tb_X12_count C) 6 = tr_getI 9 13 1203 := rfl
theorem a_X12_count_9 (C : Nat → Sp) : ta (tb_X12_count C) 9 = tr_icge 12 35 := rfl
theorem a_X12_count_12 (C : Nat → Sp) : ta (tb_X12_count C) 12 = tr_iload 13 2 := rfl
theorem a_X12_count_13 (C : Nat → Sp) : ta (tb_X12_count C) 13 = tr_aload 14 0 := rfl
theorem a_X12_count_14 (C : Nat → Sp) : ta (tb_X12_count C) 14 = tr_getR 17 13 1204 := rfl
theorem a_X12_count_17 (C : Nat → Sp) : ta (tb_X12_count C) 17 = tr_iload 18 3 := rfl
theorem a_X12_count_18 (C : Nat → Sp) : ta (tb_X12_count C) 18 = tr_bald 19 := rfl
theorem a_X12_count_19 (C : Nat → Sp) : ta (tb_X12_count C) 19 = tr_ifeq 22 26 := rfl
theorem a_X12_count_22 (C : Nat → Sp) : ta (tb_X12_count C) 22 = tr_ic 23 1 := rfl
theorem a_X12_count_23 (C : Nat → Sp) : ta (tb_X12_count C) 23 = tr_goto 27 := rfl
theorem a_X12_count_26 (C : Nat → Sp) : ta (tb_X12_count C) 26 = tr_ic 27 0 := rfl
theorem a_X12_count_27 (C : Nat → Sp) : ta (tb_X12_count C) 27 = tr_iadd 28 := rfl
theorem a_X12_count_28 (C : Nat → Sp) : ta (tb_X12_count C) 28 = tr_istore 29 2 := rfl
theorem a_X12_count_29 (C : Nat → Sp) : ta (tb_X12_count C) 29 = tr_iinc 32 3 1 := rfl
theorem a_X12_count_32 (C : Nat → Sp) : ta (tb_X12_count C) 32 = tr_goto 4 := rfl
theorem a_X12_count_35 (C : Nat → Sp) : ta (tb_X12_count C) 35 = tr_ic 36 0 := rfl
theorem a_X12_count_36 (C : Nat → Sp) : ta (tb_X12_count C) 36 = tr_istore 37 3 := rfl
theorem a_X12_count_37 (C : Nat → Sp) : ta (tb_X12_count C) 37 = tr_ic 38 0 := rfl
theorem a_X12_count_38 (C : Nat → Sp) : ta (tb_X12_count C) 38 = tr_istore 40 4 := rfl
theorem a_X12_count_40 (C : Nat → Sp) : ta (tb_X12_count C) 40 = tr_iload 42 4 := rfl
theorem a_X12_count_42 (C : Nat → Sp) : ta (tb_X12_count C) 42 = tr_aload 43 0 := rfl
theorem a_X12_count_43 (C : Nat → Sp) : ta (tb_X12_count C) 43 = tr_getI 46 13 1205 := rfl
theorem a_X12_count_46 (C : Nat → Sp) : ta (tb_X12_count C) 46 = tr_icge 49 73 := rfl
theorem a_X12_count_49 (C : Nat → Sp) : ta (tb_X12_count C) 49 = tr_iload 50 3 := rfl
theorem a_X12_count_50 (C : Nat → Sp) : ta (tb_X12_count C) 50 = tr_aload 51 0 := rfl
theorem a_X12_count_51 (C : Nat → Sp) : ta (tb_X12_count C) 51 = tr_getR 54 13 1213 := rfl
theorem a_X12_count_54 (C : Nat → Sp) : ta (tb_X12_count C) 54 = tr_iload 56 4 := rfl
theorem a_X12_count_56 (C : Nat → Sp) : ta (tb_X12_count C) 56 = tr_bald 57 := rfl
theorem a_X12_count_57 (C : Nat → Sp) : ta (tb_X12_count C) 57 = tr_ifeq 60 64 := rfl
theorem a_X12_count_60 (C : Nat → Sp) : ta (tb_X12_count C) 60 = tr_ic 61 1 := rfl
theorem a_X12_count_61 (C : Nat → Sp) : ta (tb_X12_count C) 61 = tr_goto 65 := rfl
theorem a_X12_count_64 (C : Nat → Sp) : ta (tb_X12_count C) 64 = tr_ic 65 0 := rfl
theorem a_X12_count_65 (C : Nat → Sp) : ta (tb_X12_count C) 65 = tr_iadd 66 := rfl
theorem a_X12_count_66 (C : Nat → Sp) : ta (tb_X12_count C) 66 = tr_istore 67 3 := rfl
theorem a_X12_count_67 (C : Nat → Sp) : ta (tb_X12_count C) 67 = tr_iinc 70 4 1 := rfl
theorem a_X12_count_70 (C : Nat → Sp) : ta (tb_X12_count C) 70 = tr_goto 40 := rfl
theorem a_X12_count_73 (C : Nat → Sp) : ta (tb_X12_count C) 73 = tr_iload 74 1 := rfl
theorem a_X12_count_74 (C : Nat → Sp) : ta (tb_X12_count C) 74 = tr_sw 0 [112, 117, 122, 124, 129, 131] 136 := rfl
theorem a_X12_count_112 (C : Nat → Sp) : ta (tb_X12_count C) 112 = tr_aload 113 0 := rfl
theorem a_X12_count_113 (C : Nat → Sp) : ta (tb_X12_count C) 113 = tr_getI 116 13 1200 := rfl
theorem a_X12_count_116 (C : Nat → Sp) : ta (tb_X12_count C) 116 = tr_iret := rfl
theorem a_X12_count_117 (C : Nat → Sp) : ta (tb_X12_count C) 117 = tr_aload 118 0 := rfl
theorem a_X12_count_118 (C : Nat → Sp) : ta (tb_X12_count C) 118 = tr_getI 121 13 1203 := rfl
theorem a_X12_count_121 (C : Nat → Sp) : ta (tb_X12_count C) 121 = tr_iret := rfl
theorem a_X12_count_122 (C : Nat → Sp) : ta (tb_X12_count C) 122 = tr_iload 123 2 := rfl
theorem a_X12_count_123 (C : Nat → Sp) : ta (tb_X12_count C) 123 = tr_iret := rfl
theorem a_X12_count_124 (C : Nat → Sp) : ta (tb_X12_count C) 124 = tr_aload 125 0 := rfl
theorem a_X12_count_125 (C : Nat → Sp) : ta (tb_X12_count C) 125 = tr_getI 128 13 1205 := rfl
theorem a_X12_count_128 (C : Nat → Sp) : ta (tb_X12_count C) 128 = tr_iret := rfl
theorem a_X12_count_129 (C : Nat → Sp) : ta (tb_X12_count C) 129 = tr_iload 130 3 := rfl
theorem a_X12_count_130 (C : Nat → Sp) : ta (tb_X12_count C) 130 = tr_iret := rfl
theorem a_X12_count_131 (C : Nat → Sp) : ta (tb_X12_count C) 131 = tr_aload 132 0 := rfl
theorem a_X12_count_132 (C : Nat → Sp) : ta (tb_X12_count C) 132 = tr_getI 135 13 1252 := rfl
theorem a_X12_count_135 (C : Nat → Sp) : ta (tb_X12_count C) 135 = tr_iret := rfl
set_option maxRecDepth 20000 in
theorem a_X12_count_136 (C : Nat → Sp) : ta (tb_X12_count C) 136 = tr_ic 137 (-1) := rfl
set_option maxRecDepth 20000 in
theorem a_X12_count_137 (C : Nat → Sp) : ta (tb_X12_count C) 137 = tr_iret := rfl
