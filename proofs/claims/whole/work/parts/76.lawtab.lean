/-! The law, by its instructions -/
def tb_L_0 (X : LX) (dd : Nat) (pc : Nat) : Tr := bif Nat.blt pc 20 then (bif Nat.blt pc 12 then (bif Nat.blt pc 7 then (bif Nat.blt pc 3 then (bif Nat.beq 0 pc then tr_newB X 3 12 6 else trF) else (bif Nat.blt pc 4 then (bif Nat.beq 3 pc then tr_dup 4 else trF) else (bif Nat.beq 4 pc then tr_initB X (Call (XD X) dd mi_X11_init) 7 0 else trF))) else (bif Nat.blt pc 8 then (bif Nat.beq 7 pc then tr_astore 8 1 else trF) else (bif Nat.blt pc 11 then (bif Nat.beq 8 pc then tr_newB X 11 13 55 else trF) else (bif Nat.beq 11 pc then tr_dup 12 else trF)))) else (bif Nat.blt pc 17 then (bif Nat.blt pc 15 then (bif Nat.beq 12 pc then tr_initB X (Call (XD X) dd mi_X12_init) 15 0 else trF) else (bif Nat.blt pc 16 then (bif Nat.beq 15 pc then tr_astore 16 2 else trF) else (bif Nat.beq 16 pc then tr_ic 17 0 else trF))) else (bif Nat.blt pc 18 then (bif Nat.beq 17 pc then tr_istore 18 3 else trF) else (bif Nat.blt pc 19 then (bif Nat.beq 18 pc then tr_iload 19 3 else trF) else (bif Nat.beq 19 pc then tr_aload 20 0 else trF))))) else (bif Nat.blt pc 29 then (bif Nat.blt pc 24 then (bif Nat.blt pc 21 then (bif Nat.beq 20 pc then tr_slen X 21 else trF) else (bif Nat.blt pc 23 then (bif Nat.beq 21 pc then tr_ic 23 6 else trF) else (bif Nat.beq 23 pc then tr_isub 24 else trF))) else (bif Nat.blt pc 27 then (bif Nat.beq 24 pc then tr_icgt 27 985 else trF) else (bif Nat.blt pc 28 then (bif Nat.beq 27 pc then tr_aload 28 0 else trF) else (bif Nat.beq 28 pc then tr_iload 29 3 else trF)))) else (bif Nat.blt pc 33 then (bif Nat.blt pc 30 then (bif Nat.beq 29 pc then tr_sald X 30 else trF) else (bif Nat.blt pc 32 then (bif Nat.beq 30 pc then tr_ic 32 31 else trF) else (bif Nat.beq 32 pc then tr_iand 33 else trF))) else (bif Nat.blt pc 140 then (bif Nat.beq 33 pc then tr_sw 0 [140, 163, 176, 199, 252, 355, 404, 447, 470, 513, 586, 620, 643, 706, 729, 743, 767, 800, 824, 847, 880, 923, 956] 979 else trF) else (bif Nat.blt pc 141 then (bif Nat.beq 140 pc then tr_aload 141 1 else trF) else (bif Nat.beq 141 pc then tr_aload 142 0 else trF)))))
theorem k_L_0 {X : LX} {dd : Nat} (hX : LC X) (hdd : dd ≤ 2000) : TrL X 0 (tr_newB X 3 12 6) := kl_newB hX (ci := 11) (show decode code 0 = .ok (.new 7, 3) from by decide +kernel) rfl (gm 42 (by decide +kernel) rfl) (gm 43 (by decide +kernel) rfl) (gm 28 (by decide +kernel) rfl)
theorem k_L_3 {X : LX} {dd : Nat} (hX : LC X) (hdd : dd ≤ 2000) : TrL X 3 (tr_dup 4) := kl_dup hX (show decode code 3 = .ok (.dup, 1) from by decide +kernel)
theorem k_L_4 {X : LX} {dd : Nat} (hX : LC X) (hdd : dd ≤ 2000) : TrL X 4 (tr_initB X (Call (XD X) dd mi_X11_init) 7 0) := kl_callI hX hdd (show decode code 4 = .ok (.invokespecial 9, 3) from by decide +kernel) mok_X11_init rfl rfl (gm 44 (by decide +kernel) rfl) (gm 45 (by decide +kernel) rfl)
theorem k_L_7 {X : LX} {dd : Nat} (hX : LC X) (hdd : dd ≤ 2000) : TrL X 7 (tr_astore 8 1) := kl_astore_n hX (show decode code 7 = .ok (.astore_n 1, 1) from by decide +kernel) rfl (by decide)
theorem k_L_8 {X : LX} {dd : Nat} (hX : LC X) (hdd : dd ≤ 2000) : TrL X 8 (tr_newB X 11 13 55) := kl_newB hX (ci := 12) (show decode code 8 = .ok (.new 10, 3) from by decide +kernel) rfl (gm 750 (by decide +kernel) rfl) (gm 751 (by decide +kernel) rfl) (gm 37 (by decide +kernel) rfl)
theorem k_L_11 {X : LX} {dd : Nat} (hX : LC X) (hdd : dd ≤ 2000) : TrL X 11 (tr_dup 12) := kl_dup hX (show decode code 11 = .ok (.dup, 1) from by decide +kernel)
theorem k_L_12 {X : LX} {dd : Nat} (hX : LC X) (hdd : dd ≤ 2000) : TrL X 12 (tr_initB X (Call (XD X) dd mi_X12_init) 15 0) := kl_callI hX hdd (show decode code 12 = .ok (.invokespecial 12, 3) from by decide +kernel) mok_X12_init rfl rfl (gm 752 (by decide +kernel) rfl) (gm 753 (by decide +kernel) rfl)
theorem k_L_15 {X : LX} {dd : Nat} (hX : LC X) (hdd : dd ≤ 2000) : TrL X 15 (tr_astore 16 2) := kl_astore_n hX (show decode code 15 = .ok (.astore_n 2, 1) from by decide +kernel) rfl (by decide)
theorem k_L_16 {X : LX} {dd : Nat} (hX : LC X) (hdd : dd ≤ 2000) : TrL X 16 (tr_ic 17 0) := kl_iconst hX (show decode code 16 = .ok (.iconst 0, 1) from by decide +kernel) rfl
theorem k_L_17 {X : LX} {dd : Nat} (hX : LC X) (hdd : dd ≤ 2000) : TrL X 17 (tr_istore 18 3) := kl_istore_n hX (show decode code 17 = .ok (.istore_n 3, 1) from by decide +kernel) rfl (by decide)
theorem k_L_18 {X : LX} {dd : Nat} (hX : LC X) (hdd : dd ≤ 2000) : TrL X 18 (tr_iload 19 3) := kl_iload_n hX (show decode code 18 = .ok (.iload_n 3, 1) from by decide +kernel) rfl
theorem k_L_19 {X : LX} {dd : Nat} (hX : LC X) (hdd : dd ≤ 2000) : TrL X 19 (tr_aload 20 0) := kl_aload_n hX (show decode code 19 = .ok (.aload_n 0, 1) from by decide +kernel) rfl
theorem k_L_20 {X : LX} {dd : Nat} (hX : LC X) (hdd : dd ≤ 2000) : TrL X 20 (tr_slen X 21) := kl_slen hX (show decode code 20 = .ok (.arraylength, 1) from by decide +kernel)
theorem k_L_21 {X : LX} {dd : Nat} (hX : LC X) (hdd : dd ≤ 2000) : TrL X 21 (tr_ic 23 6) := kl_bipush hX (show decode code 21 = .ok (.bipush 6, 2) from by decide +kernel) rfl
theorem k_L_23 {X : LX} {dd : Nat} (hX : LC X) (hdd : dd ≤ 2000) : TrL X 23 (tr_isub 24) := kl_isub hX (show decode code 23 = .ok (.isub, 1) from by decide +kernel)
theorem k_L_24 {X : LX} {dd : Nat} (hX : LC X) (hdd : dd ≤ 2000) : TrL X 24 (tr_icgt 27 985) := kl_icgt hX (show decode code 24 = .ok (.if_icmp .gt 961, 3) from by decide +kernel) (by decide)
theorem k_L_27 {X : LX} {dd : Nat} (hX : LC X) (hdd : dd ≤ 2000) : TrL X 27 (tr_aload 28 0) := kl_aload_n hX (show decode code 27 = .ok (.aload_n 0, 1) from by decide +kernel) rfl
theorem k_L_28 {X : LX} {dd : Nat} (hX : LC X) (hdd : dd ≤ 2000) : TrL X 28 (tr_iload 29 3) := kl_iload_n hX (show decode code 28 = .ok (.iload_n 3, 1) from by decide +kernel) rfl
theorem k_L_29 {X : LX} {dd : Nat} (hX : LC X) (hdd : dd ≤ 2000) : TrL X 29 (tr_sald X 30) := kl_sald hX (show decode code 29 = .ok (.iaload, 1) from by decide +kernel)
theorem k_L_30 {X : LX} {dd : Nat} (hX : LC X) (hdd : dd ≤ 2000) : TrL X 30 (tr_ic 32 31) := kl_bipush hX (show decode code 30 = .ok (.bipush 31, 2) from by decide +kernel) rfl
theorem k_L_32 {X : LX} {dd : Nat} (hX : LC X) (hdd : dd ≤ 2000) : TrL X 32 (tr_iand 33) := kl_iand hX (show decode code 32 = .ok (.iand, 1) from by decide +kernel)
theorem k_L_33 {X : LX} {dd : Nat} (hX : LC X) (hdd : dd ≤ 2000) : TrL X 33 (tr_sw 0 [140, 163, 176, 199, 252, 355, 404, 447, 470, 513, 586, 620, 643, 706, 729, 743, 767, 800, 824, 847, 880, 923, 956] 979) := kl_sw hX 0 (show decode code 33 = .ok (.tableswitch 946 0 22 #[107, 130, 143, 166, 219, 322, 371, 414, 437, 480, 553, 587, 610, 673, 696, 710, 734, 767, 791, 814, 847, 890, 923], 107) from by decide +kernel) rfl rfl (by decide) (by decide) (by decide) (by decide +kernel)
theorem k_L_140 {X : LX} {dd : Nat} (hX : LC X) (hdd : dd ≤ 2000) : TrL X 140 (tr_aload 141 1) := kl_aload_n hX (show decode code 140 = .ok (.aload_n 1, 1) from by decide +kernel) rfl
theorem k_L_141 {X : LX} {dd : Nat} (hX : LC X) (hdd : dd ≤ 2000) : TrL X 141 (tr_aload 142 0) := kl_aload_n hX (show decode code 141 = .ok (.aload_n 0, 1) from by decide +kernel) rfl
theorem tbk_L_0 {X : LX} {dd : Nat} (hX : LC X) (hdd : dd ≤ 2000) (pc : Nat) : TrL X pc (tb_L_0 X dd pc) := kt_b (kt_b (kt_b (kt_b (kt_l (k_L_0 hX hdd)) (kt_b (kt_l (k_L_3 hX hdd)) (kt_l (k_L_4 hX hdd)))) (kt_b (kt_l (k_L_7 hX hdd)) (kt_b (kt_l (k_L_8 hX hdd)) (kt_l (k_L_11 hX hdd))))) (kt_b (kt_b (kt_l (k_L_12 hX hdd)) (kt_b (kt_l (k_L_15 hX hdd)) (kt_l (k_L_16 hX hdd)))) (kt_b (kt_l (k_L_17 hX hdd)) (kt_b (kt_l (k_L_18 hX hdd)) (kt_l (k_L_19 hX hdd)))))) (kt_b (kt_b (kt_b (kt_l (k_L_20 hX hdd)) (kt_b (kt_l (k_L_21 hX hdd)) (kt_l (k_L_23 hX hdd)))) (kt_b (kt_l (k_L_24 hX hdd)) (kt_b (kt_l (k_L_27 hX hdd)) (kt_l (k_L_28 hX hdd))))) (kt_b (kt_b (kt_l (k_L_29 hX hdd)) (kt_b (kt_l (k_L_30 hX hdd)) (kt_l (k_L_32 hX hdd)))) (kt_b (kt_l (k_L_33 hX hdd)) (kt_b (kt_l (k_L_140 hX hdd)) (kt_l (k_L_141 hX hdd))))))
def tb_L_1 (X : LX) (dd : Nat) (pc : Nat) : Tr := bif Nat.blt pc 158 then (bif Nat.blt pc 150 then (bif Nat.blt pc 145 then (bif Nat.blt pc 143 then (bif Nat.beq 142 pc then tr_iload 143 3 else trF) else (bif Nat.blt pc 144 then (bif Nat.beq 143 pc then tr_ic 144 1 else trF) else (bif Nat.beq 144 pc then tr_iadd 145 else trF))) else (bif Nat.blt pc 146 then (bif Nat.beq 145 pc then tr_sald X 146 else trF) else (bif Nat.blt pc 149 then (bif Nat.beq 146 pc then tr_callB X (Call (XD X) dd mi_X11_kind) 149 12 1 else trF) else (bif Nat.beq 149 pc then tr_aload 150 2 else trF)))) else (bif Nat.blt pc 153 then (bif Nat.blt pc 151 then (bif Nat.beq 150 pc then tr_aload 151 0 else trF) else (bif Nat.blt pc 152 then (bif Nat.beq 151 pc then tr_iload 152 3 else trF) else (bif Nat.beq 152 pc then tr_ic 153 1 else trF))) else (bif Nat.blt pc 154 then (bif Nat.beq 153 pc then tr_iadd 154 else trF) else (bif Nat.blt pc 155 then (bif Nat.beq 154 pc then tr_sald X 155 else trF) else (bif Nat.beq 155 pc then tr_callB X (Call (XD X) dd mi_X12_kind) 158 13 1 else trF))))) else (bif Nat.blt pc 168 then (bif Nat.blt pc 163 then (bif Nat.blt pc 161 then (bif Nat.beq 158 pc then tr_iceq 161 979 else trF) else (bif Nat.blt pc 162 then (bif Nat.beq 161 pc then tr_ic 162 0 else trF) else (bif Nat.beq 162 pc then tr_zret else trF))) else (bif Nat.blt pc 164 then (bif Nat.beq 163 pc then tr_aload 164 1 else trF) else (bif Nat.blt pc 167 then (bif Nat.beq 164 pc then tr_callB X (Call (XD X) dd mi_X11_scene) 167 12 0 else trF) else (bif Nat.beq 167 pc then tr_aload 168 2 else trF)))) else (bif Nat.blt pc 175 then (bif Nat.blt pc 171 then (bif Nat.beq 168 pc then tr_callB X (Call (XD X) dd mi_X12_scene) 171 13 0 else trF) else (bif Nat.blt pc 174 then (bif Nat.beq 171 pc then tr_iceq 174 979 else trF) else (bif Nat.beq 174 pc then tr_ic 175 0 else trF))) else (bif Nat.blt pc 176 then (bif Nat.beq 175 pc then tr_zret else trF) else (bif Nat.blt pc 177 then (bif Nat.beq 176 pc then tr_aload 177 1 else trF) else (bif Nat.beq 177 pc then tr_aload 178 0 else trF)))))
theorem k_L_142 {X : LX} {dd : Nat} (hX : LC X) (hdd : dd ≤ 2000) : TrL X 142 (tr_iload 143 3) := kl_iload_n hX (show decode code 142 = .ok (.iload_n 3, 1) from by decide +kernel) rfl
theorem k_L_143 {X : LX} {dd : Nat} (hX : LC X) (hdd : dd ≤ 2000) : TrL X 143 (tr_ic 144 1) := kl_iconst hX (show decode code 143 = .ok (.iconst 1, 1) from by decide +kernel) rfl
theorem k_L_144 {X : LX} {dd : Nat} (hX : LC X) (hdd : dd ≤ 2000) : TrL X 144 (tr_iadd 145) := kl_iadd hX (show decode code 144 = .ok (.iadd, 1) from by decide +kernel)
theorem k_L_145 {X : LX} {dd : Nat} (hX : LC X) (hdd : dd ≤ 2000) : TrL X 145 (tr_sald X 146) := kl_sald hX (show decode code 145 = .ok (.iaload, 1) from by decide +kernel)
theorem k_L_146 {X : LX} {dd : Nat} (hX : LC X) (hdd : dd ≤ 2000) : TrL X 146 (tr_callB X (Call (XD X) dd mi_X11_kind) 149 12 1) := kl_callV hX (ci := 11) hdd (show decode code 146 = .ok (.invokevirtual 13, 3) from by decide +kernel) mok_X11_kind rfl rfl (gm 304 (by decide +kernel) rfl) (gm 305 (by decide +kernel) rfl) (gm 306 (by decide +kernel) rfl)
theorem k_L_149 {X : LX} {dd : Nat} (hX : LC X) (hdd : dd ≤ 2000) : TrL X 149 (tr_aload 150 2) := kl_aload_n hX (show decode code 149 = .ok (.aload_n 2, 1) from by decide +kernel) rfl
theorem k_L_150 {X : LX} {dd : Nat} (hX : LC X) (hdd : dd ≤ 2000) : TrL X 150 (tr_aload 151 0) := kl_aload_n hX (show decode code 150 = .ok (.aload_n 0, 1) from by decide +kernel) rfl
theorem k_L_151 {X : LX} {dd : Nat} (hX : LC X) (hdd : dd ≤ 2000) : TrL X 151 (tr_iload 152 3) := kl_iload_n hX (show decode code 151 = .ok (.iload_n 3, 1) from by decide +kernel) rfl
theorem k_L_152 {X : LX} {dd : Nat} (hX : LC X) (hdd : dd ≤ 2000) : TrL X 152 (tr_ic 153 1) := kl_iconst hX (show decode code 152 = .ok (.iconst 1, 1) from by decide +kernel) rfl
theorem k_L_153 {X : LX} {dd : Nat} (hX : LC X) (hdd : dd ≤ 2000) : TrL X 153 (tr_iadd 154) := kl_iadd hX (show decode code 153 = .ok (.iadd, 1) from by decide +kernel)
theorem k_L_154 {X : LX} {dd : Nat} (hX : LC X) (hdd : dd ≤ 2000) : TrL X 154 (tr_sald X 155) := kl_sald hX (show decode code 154 = .ok (.iaload, 1) from by decide +kernel)
theorem k_L_155 {X : LX} {dd : Nat} (hX : LC X) (hdd : dd ≤ 2000) : TrL X 155 (tr_callB X (Call (XD X) dd mi_X12_kind) 158 13 1) := kl_callV hX (ci := 12) hdd (show decode code 155 = .ok (.invokevirtual 17, 3) from by decide +kernel) mok_X12_kind rfl rfl (gm 922 (by decide +kernel) rfl) (gm 923 (by decide +kernel) rfl) (gm 924 (by decide +kernel) rfl)
theorem k_L_158 {X : LX} {dd : Nat} (hX : LC X) (hdd : dd ≤ 2000) : TrL X 158 (tr_iceq 161 979) := kl_iceq hX (show decode code 158 = .ok (.if_icmp .eq 821, 3) from by decide +kernel) (by decide)
theorem k_L_161 {X : LX} {dd : Nat} (hX : LC X) (hdd : dd ≤ 2000) : TrL X 161 (tr_ic 162 0) := kl_iconst hX (show decode code 161 = .ok (.iconst 0, 1) from by decide +kernel) rfl
theorem k_L_162 {X : LX} {dd : Nat} (hX : LC X) (hdd : dd ≤ 2000) : TrL X 162 (tr_zret) := kl_zret hX (show decode code 162 = .ok (.ireturn, 1) from by decide +kernel)
theorem k_L_163 {X : LX} {dd : Nat} (hX : LC X) (hdd : dd ≤ 2000) : TrL X 163 (tr_aload 164 1) := kl_aload_n hX (show decode code 163 = .ok (.aload_n 1, 1) from by decide +kernel) rfl
theorem k_L_164 {X : LX} {dd : Nat} (hX : LC X) (hdd : dd ≤ 2000) : TrL X 164 (tr_callB X (Call (XD X) dd mi_X11_scene) 167 12 0) := kl_callV hX (ci := 11) hdd (show decode code 164 = .ok (.invokevirtual 18, 3) from by decide +kernel) mok_X11_scene rfl rfl (gm 338 (by decide +kernel) rfl) (gm 339 (by decide +kernel) rfl) (gm 340 (by decide +kernel) rfl)
theorem k_L_167 {X : LX} {dd : Nat} (hX : LC X) (hdd : dd ≤ 2000) : TrL X 167 (tr_aload 168 2) := kl_aload_n hX (show decode code 167 = .ok (.aload_n 2, 1) from by decide +kernel) rfl
theorem k_L_168 {X : LX} {dd : Nat} (hX : LC X) (hdd : dd ≤ 2000) : TrL X 168 (tr_callB X (Call (XD X) dd mi_X12_scene) 171 13 0) := kl_callV hX (ci := 12) hdd (show decode code 168 = .ok (.invokevirtual 22, 3) from by decide +kernel) mok_X12_scene rfl rfl (gm 933 (by decide +kernel) rfl) (gm 934 (by decide +kernel) rfl) (gm 935 (by decide +kernel) rfl)
theorem k_L_171 {X : LX} {dd : Nat} (hX : LC X) (hdd : dd ≤ 2000) : TrL X 171 (tr_iceq 174 979) := kl_iceq hX (show decode code 171 = .ok (.if_icmp .eq 808, 3) from by decide +kernel) (by decide)
theorem k_L_174 {X : LX} {dd : Nat} (hX : LC X) (hdd : dd ≤ 2000) : TrL X 174 (tr_ic 175 0) := kl_iconst hX (show decode code 174 = .ok (.iconst 0, 1) from by decide +kernel) rfl
theorem k_L_175 {X : LX} {dd : Nat} (hX : LC X) (hdd : dd ≤ 2000) : TrL X 175 (tr_zret) := kl_zret hX (show decode code 175 = .ok (.ireturn, 1) from by decide +kernel)
theorem k_L_176 {X : LX} {dd : Nat} (hX : LC X) (hdd : dd ≤ 2000) : TrL X 176 (tr_aload 177 1) := kl_aload_n hX (show decode code 176 = .ok (.aload_n 1, 1) from by decide +kernel) rfl
theorem k_L_177 {X : LX} {dd : Nat} (hX : LC X) (hdd : dd ≤ 2000) : TrL X 177 (tr_aload 178 0) := kl_aload_n hX (show decode code 177 = .ok (.aload_n 0, 1) from by decide +kernel) rfl
theorem tbk_L_1 {X : LX} {dd : Nat} (hX : LC X) (hdd : dd ≤ 2000) (pc : Nat) : TrL X pc (tb_L_1 X dd pc) := kt_b (kt_b (kt_b (kt_b (kt_l (k_L_142 hX hdd)) (kt_b (kt_l (k_L_143 hX hdd)) (kt_l (k_L_144 hX hdd)))) (kt_b (kt_l (k_L_145 hX hdd)) (kt_b (kt_l (k_L_146 hX hdd)) (kt_l (k_L_149 hX hdd))))) (kt_b (kt_b (kt_l (k_L_150 hX hdd)) (kt_b (kt_l (k_L_151 hX hdd)) (kt_l (k_L_152 hX hdd)))) (kt_b (kt_l (k_L_153 hX hdd)) (kt_b (kt_l (k_L_154 hX hdd)) (kt_l (k_L_155 hX hdd)))))) (kt_b (kt_b (kt_b (kt_l (k_L_158 hX hdd)) (kt_b (kt_l (k_L_161 hX hdd)) (kt_l (k_L_162 hX hdd)))) (kt_b (kt_l (k_L_163 hX hdd)) (kt_b (kt_l (k_L_164 hX hdd)) (kt_l (k_L_167 hX hdd))))) (kt_b (kt_b (kt_l (k_L_168 hX hdd)) (kt_b (kt_l (k_L_171 hX hdd)) (kt_l (k_L_174 hX hdd)))) (kt_b (kt_l (k_L_175 hX hdd)) (kt_b (kt_l (k_L_176 hX hdd)) (kt_l (k_L_177 hX hdd))))))
def tb_L_2 (X : LX) (dd : Nat) (pc : Nat) : Tr := bif Nat.blt pc 194 then (bif Nat.blt pc 186 then (bif Nat.blt pc 181 then (bif Nat.blt pc 179 then (bif Nat.beq 178 pc then tr_iload 179 3 else trF) else (bif Nat.blt pc 180 then (bif Nat.beq 179 pc then tr_ic 180 1 else trF) else (bif Nat.beq 180 pc then tr_iadd 181 else trF))) else (bif Nat.blt pc 182 then (bif Nat.beq 181 pc then tr_sald X 182 else trF) else (bif Nat.blt pc 185 then (bif Nat.beq 182 pc then tr_callB X (Call (XD X) dd mi_X11_close) 185 12 1 else trF) else (bif Nat.beq 185 pc then tr_aload 186 2 else trF)))) else (bif Nat.blt pc 189 then (bif Nat.blt pc 187 then (bif Nat.beq 186 pc then tr_aload 187 0 else trF) else (bif Nat.blt pc 188 then (bif Nat.beq 187 pc then tr_iload 188 3 else trF) else (bif Nat.beq 188 pc then tr_ic 189 1 else trF))) else (bif Nat.blt pc 190 then (bif Nat.beq 189 pc then tr_iadd 190 else trF) else (bif Nat.blt pc 191 then (bif Nat.beq 190 pc then tr_sald X 191 else trF) else (bif Nat.beq 191 pc then tr_callB X (Call (XD X) dd mi_X12_close) 194 13 1 else trF))))) else (bif Nat.blt pc 202 then (bif Nat.blt pc 199 then (bif Nat.blt pc 197 then (bif Nat.beq 194 pc then tr_iceq 197 979 else trF) else (bif Nat.blt pc 198 then (bif Nat.beq 197 pc then tr_ic 198 0 else trF) else (bif Nat.beq 198 pc then tr_zret else trF))) else (bif Nat.blt pc 200 then (bif Nat.beq 199 pc then tr_aload 200 1 else trF) else (bif Nat.blt pc 201 then (bif Nat.beq 200 pc then tr_aload 201 0 else trF) else (bif Nat.beq 201 pc then tr_iload 202 3 else trF)))) else (bif Nat.blt pc 205 then (bif Nat.blt pc 203 then (bif Nat.beq 202 pc then tr_ic 203 1 else trF) else (bif Nat.blt pc 204 then (bif Nat.beq 203 pc then tr_iadd 204 else trF) else (bif Nat.beq 204 pc then tr_sald X 205 else trF))) else (bif Nat.blt pc 206 then (bif Nat.beq 205 pc then tr_aload 206 0 else trF) else (bif Nat.blt pc 207 then (bif Nat.beq 206 pc then tr_iload 207 3 else trF) else (bif Nat.beq 207 pc then tr_ic 208 2 else trF)))))
theorem k_L_178 {X : LX} {dd : Nat} (hX : LC X) (hdd : dd ≤ 2000) : TrL X 178 (tr_iload 179 3) := kl_iload_n hX (show decode code 178 = .ok (.iload_n 3, 1) from by decide +kernel) rfl
theorem k_L_179 {X : LX} {dd : Nat} (hX : LC X) (hdd : dd ≤ 2000) : TrL X 179 (tr_ic 180 1) := kl_iconst hX (show decode code 179 = .ok (.iconst 1, 1) from by decide +kernel) rfl
theorem k_L_180 {X : LX} {dd : Nat} (hX : LC X) (hdd : dd ≤ 2000) : TrL X 180 (tr_iadd 181) := kl_iadd hX (show decode code 180 = .ok (.iadd, 1) from by decide +kernel)
theorem k_L_181 {X : LX} {dd : Nat} (hX : LC X) (hdd : dd ≤ 2000) : TrL X 181 (tr_sald X 182) := kl_sald hX (show decode code 181 = .ok (.iaload, 1) from by decide +kernel)
theorem k_L_182 {X : LX} {dd : Nat} (hX : LC X) (hdd : dd ≤ 2000) : TrL X 182 (tr_callB X (Call (XD X) dd mi_X11_close) 185 12 1) := kl_callV hX (ci := 11) hdd (show decode code 182 = .ok (.invokevirtual 23, 3) from by decide +kernel) mok_X11_close rfl rfl (gm 346 (by decide +kernel) rfl) (gm 347 (by decide +kernel) rfl) (gm 348 (by decide +kernel) rfl)
theorem k_L_185 {X : LX} {dd : Nat} (hX : LC X) (hdd : dd ≤ 2000) : TrL X 185 (tr_aload 186 2) := kl_aload_n hX (show decode code 185 = .ok (.aload_n 2, 1) from by decide +kernel) rfl
theorem k_L_186 {X : LX} {dd : Nat} (hX : LC X) (hdd : dd ≤ 2000) : TrL X 186 (tr_aload 187 0) := kl_aload_n hX (show decode code 186 = .ok (.aload_n 0, 1) from by decide +kernel) rfl
theorem k_L_187 {X : LX} {dd : Nat} (hX : LC X) (hdd : dd ≤ 2000) : TrL X 187 (tr_iload 188 3) := kl_iload_n hX (show decode code 187 = .ok (.iload_n 3, 1) from by decide +kernel) rfl
theorem k_L_188 {X : LX} {dd : Nat} (hX : LC X) (hdd : dd ≤ 2000) : TrL X 188 (tr_ic 189 1) := kl_iconst hX (show decode code 188 = .ok (.iconst 1, 1) from by decide +kernel) rfl
theorem k_L_189 {X : LX} {dd : Nat} (hX : LC X) (hdd : dd ≤ 2000) : TrL X 189 (tr_iadd 190) := kl_iadd hX (show decode code 189 = .ok (.iadd, 1) from by decide +kernel)
theorem k_L_190 {X : LX} {dd : Nat} (hX : LC X) (hdd : dd ≤ 2000) : TrL X 190 (tr_sald X 191) := kl_sald hX (show decode code 190 = .ok (.iaload, 1) from by decide +kernel)
theorem k_L_191 {X : LX} {dd : Nat} (hX : LC X) (hdd : dd ≤ 2000) : TrL X 191 (tr_callB X (Call (XD X) dd mi_X12_close) 194 13 1) := kl_callV hX (ci := 12) hdd (show decode code 191 = .ok (.invokevirtual 26, 3) from by decide +kernel) mok_X12_close rfl rfl (gm 937 (by decide +kernel) rfl) (gm 938 (by decide +kernel) rfl) (gm 939 (by decide +kernel) rfl)
theorem k_L_194 {X : LX} {dd : Nat} (hX : LC X) (hdd : dd ≤ 2000) : TrL X 194 (tr_iceq 197 979) := kl_iceq hX (show decode code 194 = .ok (.if_icmp .eq 785, 3) from by decide +kernel) (by decide)
theorem k_L_197 {X : LX} {dd : Nat} (hX : LC X) (hdd : dd ≤ 2000) : TrL X 197 (tr_ic 198 0) := kl_iconst hX (show decode code 197 = .ok (.iconst 0, 1) from by decide +kernel) rfl
theorem k_L_198 {X : LX} {dd : Nat} (hX : LC X) (hdd : dd ≤ 2000) : TrL X 198 (tr_zret) := kl_zret hX (show decode code 198 = .ok (.ireturn, 1) from by decide +kernel)
theorem k_L_199 {X : LX} {dd : Nat} (hX : LC X) (hdd : dd ≤ 2000) : TrL X 199 (tr_aload 200 1) := kl_aload_n hX (show decode code 199 = .ok (.aload_n 1, 1) from by decide +kernel) rfl
theorem k_L_200 {X : LX} {dd : Nat} (hX : LC X) (hdd : dd ≤ 2000) : TrL X 200 (tr_aload 201 0) := kl_aload_n hX (show decode code 200 = .ok (.aload_n 0, 1) from by decide +kernel) rfl
theorem k_L_201 {X : LX} {dd : Nat} (hX : LC X) (hdd : dd ≤ 2000) : TrL X 201 (tr_iload 202 3) := kl_iload_n hX (show decode code 201 = .ok (.iload_n 3, 1) from by decide +kernel) rfl
theorem k_L_202 {X : LX} {dd : Nat} (hX : LC X) (hdd : dd ≤ 2000) : TrL X 202 (tr_ic 203 1) := kl_iconst hX (show decode code 202 = .ok (.iconst 1, 1) from by decide +kernel) rfl
theorem k_L_203 {X : LX} {dd : Nat} (hX : LC X) (hdd : dd ≤ 2000) : TrL X 203 (tr_iadd 204) := kl_iadd hX (show decode code 203 = .ok (.iadd, 1) from by decide +kernel)
theorem k_L_204 {X : LX} {dd : Nat} (hX : LC X) (hdd : dd ≤ 2000) : TrL X 204 (tr_sald X 205) := kl_sald hX (show decode code 204 = .ok (.iaload, 1) from by decide +kernel)
theorem k_L_205 {X : LX} {dd : Nat} (hX : LC X) (hdd : dd ≤ 2000) : TrL X 205 (tr_aload 206 0) := kl_aload_n hX (show decode code 205 = .ok (.aload_n 0, 1) from by decide +kernel) rfl
theorem k_L_206 {X : LX} {dd : Nat} (hX : LC X) (hdd : dd ≤ 2000) : TrL X 206 (tr_iload 207 3) := kl_iload_n hX (show decode code 206 = .ok (.iload_n 3, 1) from by decide +kernel) rfl
theorem k_L_207 {X : LX} {dd : Nat} (hX : LC X) (hdd : dd ≤ 2000) : TrL X 207 (tr_ic 208 2) := kl_iconst hX (show decode code 207 = .ok (.iconst 2, 1) from by decide +kernel) rfl
theorem tbk_L_2 {X : LX} {dd : Nat} (hX : LC X) (hdd : dd ≤ 2000) (pc : Nat) : TrL X pc (tb_L_2 X dd pc) := kt_b (kt_b (kt_b (kt_b (kt_l (k_L_178 hX hdd)) (kt_b (kt_l (k_L_179 hX hdd)) (kt_l (k_L_180 hX hdd)))) (kt_b (kt_l (k_L_181 hX hdd)) (kt_b (kt_l (k_L_182 hX hdd)) (kt_l (k_L_185 hX hdd))))) (kt_b (kt_b (kt_l (k_L_186 hX hdd)) (kt_b (kt_l (k_L_187 hX hdd)) (kt_l (k_L_188 hX hdd)))) (kt_b (kt_l (k_L_189 hX hdd)) (kt_b (kt_l (k_L_190 hX hdd)) (kt_l (k_L_191 hX hdd)))))) (kt_b (kt_b (kt_b (kt_l (k_L_194 hX hdd)) (kt_b (kt_l (k_L_197 hX hdd)) (kt_l (k_L_198 hX hdd)))) (kt_b (kt_l (k_L_199 hX hdd)) (kt_b (kt_l (k_L_200 hX hdd)) (kt_l (k_L_201 hX hdd))))) (kt_b (kt_b (kt_l (k_L_202 hX hdd)) (kt_b (kt_l (k_L_203 hX hdd)) (kt_l (k_L_204 hX hdd)))) (kt_b (kt_l (k_L_205 hX hdd)) (kt_b (kt_l (k_L_206 hX hdd)) (kt_l (k_L_207 hX hdd))))))
def tb_L_3 (X : LX) (dd : Nat) (pc : Nat) : Tr := bif Nat.blt pc 220 then (bif Nat.blt pc 214 then (bif Nat.blt pc 211 then (bif Nat.blt pc 209 then (bif Nat.beq 208 pc then tr_iadd 209 else trF) else (bif Nat.blt pc 210 then (bif Nat.beq 209 pc then tr_sald X 210 else trF) else (bif Nat.beq 210 pc then tr_aload 211 0 else trF))) else (bif Nat.blt pc 212 then (bif Nat.beq 211 pc then tr_iload 212 3 else trF) else (bif Nat.blt pc 213 then (bif Nat.beq 212 pc then tr_ic 213 3 else trF) else (bif Nat.beq 213 pc then tr_iadd 214 else trF)))) else (bif Nat.blt pc 217 then (bif Nat.blt pc 215 then (bif Nat.beq 214 pc then tr_sald X 215 else trF) else (bif Nat.blt pc 216 then (bif Nat.beq 215 pc then tr_aload 216 0 else trF) else (bif Nat.beq 216 pc then tr_iload 217 3 else trF))) else (bif Nat.blt pc 218 then (bif Nat.beq 217 pc then tr_ic 218 4 else trF) else (bif Nat.blt pc 219 then (bif Nat.beq 218 pc then tr_iadd 219 else trF) else (bif Nat.beq 219 pc then tr_sald X 220 else trF))))) else (bif Nat.blt pc 228 then (bif Nat.blt pc 225 then (bif Nat.blt pc 223 then (bif Nat.beq 220 pc then tr_callB X (Call (XD X) dd mi_X11_listen) 223 12 4 else trF) else (bif Nat.blt pc 224 then (bif Nat.beq 223 pc then tr_aload 224 2 else trF) else (bif Nat.beq 224 pc then tr_aload 225 0 else trF))) else (bif Nat.blt pc 226 then (bif Nat.beq 225 pc then tr_iload 226 3 else trF) else (bif Nat.blt pc 227 then (bif Nat.beq 226 pc then tr_ic 227 1 else trF) else (bif Nat.beq 227 pc then tr_iadd 228 else trF)))) else (bif Nat.blt pc 231 then (bif Nat.blt pc 229 then (bif Nat.beq 228 pc then tr_sald X 229 else trF) else (bif Nat.blt pc 230 then (bif Nat.beq 229 pc then tr_aload 230 0 else trF) else (bif Nat.beq 230 pc then tr_iload 231 3 else trF))) else (bif Nat.blt pc 232 then (bif Nat.beq 231 pc then tr_ic 232 2 else trF) else (bif Nat.blt pc 233 then (bif Nat.beq 232 pc then tr_iadd 233 else trF) else (bif Nat.beq 233 pc then tr_sald X 234 else trF)))))
theorem k_L_208 {X : LX} {dd : Nat} (hX : LC X) (hdd : dd ≤ 2000) : TrL X 208 (tr_iadd 209) := kl_iadd hX (show decode code 208 = .ok (.iadd, 1) from by decide +kernel)
theorem k_L_209 {X : LX} {dd : Nat} (hX : LC X) (hdd : dd ≤ 2000) : TrL X 209 (tr_sald X 210) := kl_sald hX (show decode code 209 = .ok (.iaload, 1) from by decide +kernel)
theorem k_L_210 {X : LX} {dd : Nat} (hX : LC X) (hdd : dd ≤ 2000) : TrL X 210 (tr_aload 211 0) := kl_aload_n hX (show decode code 210 = .ok (.aload_n 0, 1) from by decide +kernel) rfl
theorem k_L_211 {X : LX} {dd : Nat} (hX : LC X) (hdd : dd ≤ 2000) : TrL X 211 (tr_iload 212 3) := kl_iload_n hX (show decode code 211 = .ok (.iload_n 3, 1) from by decide +kernel) rfl
theorem k_L_212 {X : LX} {dd : Nat} (hX : LC X) (hdd : dd ≤ 2000) : TrL X 212 (tr_ic 213 3) := kl_iconst hX (show decode code 212 = .ok (.iconst 3, 1) from by decide +kernel) rfl
theorem k_L_213 {X : LX} {dd : Nat} (hX : LC X) (hdd : dd ≤ 2000) : TrL X 213 (tr_iadd 214) := kl_iadd hX (show decode code 213 = .ok (.iadd, 1) from by decide +kernel)
theorem k_L_214 {X : LX} {dd : Nat} (hX : LC X) (hdd : dd ≤ 2000) : TrL X 214 (tr_sald X 215) := kl_sald hX (show decode code 214 = .ok (.iaload, 1) from by decide +kernel)
theorem k_L_215 {X : LX} {dd : Nat} (hX : LC X) (hdd : dd ≤ 2000) : TrL X 215 (tr_aload 216 0) := kl_aload_n hX (show decode code 215 = .ok (.aload_n 0, 1) from by decide +kernel) rfl
theorem k_L_216 {X : LX} {dd : Nat} (hX : LC X) (hdd : dd ≤ 2000) : TrL X 216 (tr_iload 217 3) := kl_iload_n hX (show decode code 216 = .ok (.iload_n 3, 1) from by decide +kernel) rfl
theorem k_L_217 {X : LX} {dd : Nat} (hX : LC X) (hdd : dd ≤ 2000) : TrL X 217 (tr_ic 218 4) := kl_iconst hX (show decode code 217 = .ok (.iconst 4, 1) from by decide +kernel) rfl
theorem k_L_218 {X : LX} {dd : Nat} (hX : LC X) (hdd : dd ≤ 2000) : TrL X 218 (tr_iadd 219) := kl_iadd hX (show decode code 218 = .ok (.iadd, 1) from by decide +kernel)
theorem k_L_219 {X : LX} {dd : Nat} (hX : LC X) (hdd : dd ≤ 2000) : TrL X 219 (tr_sald X 220) := kl_sald hX (show decode code 219 = .ok (.iaload, 1) from by decide +kernel)
theorem k_L_220 {X : LX} {dd : Nat} (hX : LC X) (hdd : dd ≤ 2000) : TrL X 220 (tr_callB X (Call (XD X) dd mi_X11_listen) 223 12 4) := kl_callV hX (ci := 11) hdd (show decode code 220 = .ok (.invokevirtual 27, 3) from by decide +kernel) mok_X11_listen rfl rfl (gm 367 (by decide +kernel) rfl) (gm 368 (by decide +kernel) rfl) (gm 369 (by decide +kernel) rfl)
theorem k_L_223 {X : LX} {dd : Nat} (hX : LC X) (hdd : dd ≤ 2000) : TrL X 223 (tr_aload 224 2) := kl_aload_n hX (show decode code 223 = .ok (.aload_n 2, 1) from by decide +kernel) rfl
theorem k_L_224 {X : LX} {dd : Nat} (hX : LC X) (hdd : dd ≤ 2000) : TrL X 224 (tr_aload 225 0) := kl_aload_n hX (show decode code 224 = .ok (.aload_n 0, 1) from by decide +kernel) rfl
theorem k_L_225 {X : LX} {dd : Nat} (hX : LC X) (hdd : dd ≤ 2000) : TrL X 225 (tr_iload 226 3) := kl_iload_n hX (show decode code 225 = .ok (.iload_n 3, 1) from by decide +kernel) rfl
theorem k_L_226 {X : LX} {dd : Nat} (hX : LC X) (hdd : dd ≤ 2000) : TrL X 226 (tr_ic 227 1) := kl_iconst hX (show decode code 226 = .ok (.iconst 1, 1) from by decide +kernel) rfl
theorem k_L_227 {X : LX} {dd : Nat} (hX : LC X) (hdd : dd ≤ 2000) : TrL X 227 (tr_iadd 228) := kl_iadd hX (show decode code 227 = .ok (.iadd, 1) from by decide +kernel)
theorem k_L_228 {X : LX} {dd : Nat} (hX : LC X) (hdd : dd ≤ 2000) : TrL X 228 (tr_sald X 229) := kl_sald hX (show decode code 228 = .ok (.iaload, 1) from by decide +kernel)
theorem k_L_229 {X : LX} {dd : Nat} (hX : LC X) (hdd : dd ≤ 2000) : TrL X 229 (tr_aload 230 0) := kl_aload_n hX (show decode code 229 = .ok (.aload_n 0, 1) from by decide +kernel) rfl
theorem k_L_230 {X : LX} {dd : Nat} (hX : LC X) (hdd : dd ≤ 2000) : TrL X 230 (tr_iload 231 3) := kl_iload_n hX (show decode code 230 = .ok (.iload_n 3, 1) from by decide +kernel) rfl
theorem k_L_231 {X : LX} {dd : Nat} (hX : LC X) (hdd : dd ≤ 2000) : TrL X 231 (tr_ic 232 2) := kl_iconst hX (show decode code 231 = .ok (.iconst 2, 1) from by decide +kernel) rfl
theorem k_L_232 {X : LX} {dd : Nat} (hX : LC X) (hdd : dd ≤ 2000) : TrL X 232 (tr_iadd 233) := kl_iadd hX (show decode code 232 = .ok (.iadd, 1) from by decide +kernel)
theorem k_L_233 {X : LX} {dd : Nat} (hX : LC X) (hdd : dd ≤ 2000) : TrL X 233 (tr_sald X 234) := kl_sald hX (show decode code 233 = .ok (.iaload, 1) from by decide +kernel)
theorem tbk_L_3 {X : LX} {dd : Nat} (hX : LC X) (hdd : dd ≤ 2000) (pc : Nat) : TrL X pc (tb_L_3 X dd pc) := kt_b (kt_b (kt_b (kt_b (kt_l (k_L_208 hX hdd)) (kt_b (kt_l (k_L_209 hX hdd)) (kt_l (k_L_210 hX hdd)))) (kt_b (kt_l (k_L_211 hX hdd)) (kt_b (kt_l (k_L_212 hX hdd)) (kt_l (k_L_213 hX hdd))))) (kt_b (kt_b (kt_l (k_L_214 hX hdd)) (kt_b (kt_l (k_L_215 hX hdd)) (kt_l (k_L_216 hX hdd)))) (kt_b (kt_l (k_L_217 hX hdd)) (kt_b (kt_l (k_L_218 hX hdd)) (kt_l (k_L_219 hX hdd)))))) (kt_b (kt_b (kt_b (kt_l (k_L_220 hX hdd)) (kt_b (kt_l (k_L_223 hX hdd)) (kt_l (k_L_224 hX hdd)))) (kt_b (kt_l (k_L_225 hX hdd)) (kt_b (kt_l (k_L_226 hX hdd)) (kt_l (k_L_227 hX hdd))))) (kt_b (kt_b (kt_l (k_L_228 hX hdd)) (kt_b (kt_l (k_L_229 hX hdd)) (kt_l (k_L_230 hX hdd)))) (kt_b (kt_l (k_L_231 hX hdd)) (kt_b (kt_l (k_L_232 hX hdd)) (kt_l (k_L_233 hX hdd))))))
def tb_L_4 (X : LX) (dd : Nat) (pc : Nat) : Tr := bif Nat.blt pc 250 then (bif Nat.blt pc 240 then (bif Nat.blt pc 237 then (bif Nat.blt pc 235 then (bif Nat.beq 234 pc then tr_aload 235 0 else trF) else (bif Nat.blt pc 236 then (bif Nat.beq 235 pc then tr_iload 236 3 else trF) else (bif Nat.beq 236 pc then tr_ic 237 3 else trF))) else (bif Nat.blt pc 238 then (bif Nat.beq 237 pc then tr_iadd 238 else trF) else (bif Nat.blt pc 239 then (bif Nat.beq 238 pc then tr_sald X 239 else trF) else (bif Nat.beq 239 pc then tr_aload 240 0 else trF)))) else (bif Nat.blt pc 243 then (bif Nat.blt pc 241 then (bif Nat.beq 240 pc then tr_iload 241 3 else trF) else (bif Nat.blt pc 242 then (bif Nat.beq 241 pc then tr_ic 242 4 else trF) else (bif Nat.beq 242 pc then tr_iadd 243 else trF))) else (bif Nat.blt pc 244 then (bif Nat.beq 243 pc then tr_sald X 244 else trF) else (bif Nat.blt pc 247 then (bif Nat.beq 244 pc then tr_callB X (Call (XD X) dd mi_X12_listen) 247 13 4 else trF) else (bif Nat.beq 247 pc then tr_iceq 250 979 else trF))))) else (bif Nat.blt pc 256 then (bif Nat.blt pc 253 then (bif Nat.blt pc 251 then (bif Nat.beq 250 pc then tr_ic 251 0 else trF) else (bif Nat.blt pc 252 then (bif Nat.beq 251 pc then tr_zret else trF) else (bif Nat.beq 252 pc then tr_aload 253 1 else trF))) else (bif Nat.blt pc 254 then (bif Nat.beq 253 pc then tr_aload 254 0 else trF) else (bif Nat.blt pc 255 then (bif Nat.beq 254 pc then tr_iload 255 3 else trF) else (bif Nat.beq 255 pc then tr_ic 256 1 else trF)))) else (bif Nat.blt pc 259 then (bif Nat.blt pc 257 then (bif Nat.beq 256 pc then tr_iadd 257 else trF) else (bif Nat.blt pc 258 then (bif Nat.beq 257 pc then tr_sald X 258 else trF) else (bif Nat.beq 258 pc then tr_aload 259 0 else trF))) else (bif Nat.blt pc 260 then (bif Nat.beq 259 pc then tr_iload 260 3 else trF) else (bif Nat.blt pc 261 then (bif Nat.beq 260 pc then tr_ic 261 2 else trF) else (bif Nat.beq 261 pc then tr_iadd 262 else trF)))))
theorem k_L_234 {X : LX} {dd : Nat} (hX : LC X) (hdd : dd ≤ 2000) : TrL X 234 (tr_aload 235 0) := kl_aload_n hX (show decode code 234 = .ok (.aload_n 0, 1) from by decide +kernel) rfl
theorem k_L_235 {X : LX} {dd : Nat} (hX : LC X) (hdd : dd ≤ 2000) : TrL X 235 (tr_iload 236 3) := kl_iload_n hX (show decode code 235 = .ok (.iload_n 3, 1) from by decide +kernel) rfl
theorem k_L_236 {X : LX} {dd : Nat} (hX : LC X) (hdd : dd ≤ 2000) : TrL X 236 (tr_ic 237 3) := kl_iconst hX (show decode code 236 = .ok (.iconst 3, 1) from by decide +kernel) rfl
theorem k_L_237 {X : LX} {dd : Nat} (hX : LC X) (hdd : dd ≤ 2000) : TrL X 237 (tr_iadd 238) := kl_iadd hX (show decode code 237 = .ok (.iadd, 1) from by decide +kernel)
theorem k_L_238 {X : LX} {dd : Nat} (hX : LC X) (hdd : dd ≤ 2000) : TrL X 238 (tr_sald X 239) := kl_sald hX (show decode code 238 = .ok (.iaload, 1) from by decide +kernel)
theorem k_L_239 {X : LX} {dd : Nat} (hX : LC X) (hdd : dd ≤ 2000) : TrL X 239 (tr_aload 240 0) := kl_aload_n hX (show decode code 239 = .ok (.aload_n 0, 1) from by decide +kernel) rfl
theorem k_L_240 {X : LX} {dd : Nat} (hX : LC X) (hdd : dd ≤ 2000) : TrL X 240 (tr_iload 241 3) := kl_iload_n hX (show decode code 240 = .ok (.iload_n 3, 1) from by decide +kernel) rfl
theorem k_L_241 {X : LX} {dd : Nat} (hX : LC X) (hdd : dd ≤ 2000) : TrL X 241 (tr_ic 242 4) := kl_iconst hX (show decode code 241 = .ok (.iconst 4, 1) from by decide +kernel) rfl
theorem k_L_242 {X : LX} {dd : Nat} (hX : LC X) (hdd : dd ≤ 2000) : TrL X 242 (tr_iadd 243) := kl_iadd hX (show decode code 242 = .ok (.iadd, 1) from by decide +kernel)
theorem k_L_243 {X : LX} {dd : Nat} (hX : LC X) (hdd : dd ≤ 2000) : TrL X 243 (tr_sald X 244) := kl_sald hX (show decode code 243 = .ok (.iaload, 1) from by decide +kernel)
theorem k_L_244 {X : LX} {dd : Nat} (hX : LC X) (hdd : dd ≤ 2000) : TrL X 244 (tr_callB X (Call (XD X) dd mi_X12_listen) 247 13 4) := kl_callV hX (ci := 12) hdd (show decode code 244 = .ok (.invokevirtual 31, 3) from by decide +kernel) mok_X12_listen rfl rfl (gm 945 (by decide +kernel) rfl) (gm 946 (by decide +kernel) rfl) (gm 947 (by decide +kernel) rfl)
theorem k_L_247 {X : LX} {dd : Nat} (hX : LC X) (hdd : dd ≤ 2000) : TrL X 247 (tr_iceq 250 979) := kl_iceq hX (show decode code 247 = .ok (.if_icmp .eq 732, 3) from by decide +kernel) (by decide)
theorem k_L_250 {X : LX} {dd : Nat} (hX : LC X) (hdd : dd ≤ 2000) : TrL X 250 (tr_ic 251 0) := kl_iconst hX (show decode code 250 = .ok (.iconst 0, 1) from by decide +kernel) rfl
theorem k_L_251 {X : LX} {dd : Nat} (hX : LC X) (hdd : dd ≤ 2000) : TrL X 251 (tr_zret) := kl_zret hX (show decode code 251 = .ok (.ireturn, 1) from by decide +kernel)
theorem k_L_252 {X : LX} {dd : Nat} (hX : LC X) (hdd : dd ≤ 2000) : TrL X 252 (tr_aload 253 1) := kl_aload_n hX (show decode code 252 = .ok (.aload_n 1, 1) from by decide +kernel) rfl
theorem k_L_253 {X : LX} {dd : Nat} (hX : LC X) (hdd : dd ≤ 2000) : TrL X 253 (tr_aload 254 0) := kl_aload_n hX (show decode code 253 = .ok (.aload_n 0, 1) from by decide +kernel) rfl
theorem k_L_254 {X : LX} {dd : Nat} (hX : LC X) (hdd : dd ≤ 2000) : TrL X 254 (tr_iload 255 3) := kl_iload_n hX (show decode code 254 = .ok (.iload_n 3, 1) from by decide +kernel) rfl
theorem k_L_255 {X : LX} {dd : Nat} (hX : LC X) (hdd : dd ≤ 2000) : TrL X 255 (tr_ic 256 1) := kl_iconst hX (show decode code 255 = .ok (.iconst 1, 1) from by decide +kernel) rfl
theorem k_L_256 {X : LX} {dd : Nat} (hX : LC X) (hdd : dd ≤ 2000) : TrL X 256 (tr_iadd 257) := kl_iadd hX (show decode code 256 = .ok (.iadd, 1) from by decide +kernel)
theorem k_L_257 {X : LX} {dd : Nat} (hX : LC X) (hdd : dd ≤ 2000) : TrL X 257 (tr_sald X 258) := kl_sald hX (show decode code 257 = .ok (.iaload, 1) from by decide +kernel)
theorem k_L_258 {X : LX} {dd : Nat} (hX : LC X) (hdd : dd ≤ 2000) : TrL X 258 (tr_aload 259 0) := kl_aload_n hX (show decode code 258 = .ok (.aload_n 0, 1) from by decide +kernel) rfl
theorem k_L_259 {X : LX} {dd : Nat} (hX : LC X) (hdd : dd ≤ 2000) : TrL X 259 (tr_iload 260 3) := kl_iload_n hX (show decode code 259 = .ok (.iload_n 3, 1) from by decide +kernel) rfl
theorem k_L_260 {X : LX} {dd : Nat} (hX : LC X) (hdd : dd ≤ 2000) : TrL X 260 (tr_ic 261 2) := kl_iconst hX (show decode code 260 = .ok (.iconst 2, 1) from by decide +kernel) rfl
theorem k_L_261 {X : LX} {dd : Nat} (hX : LC X) (hdd : dd ≤ 2000) : TrL X 261 (tr_iadd 262) := kl_iadd hX (show decode code 261 = .ok (.iadd, 1) from by decide +kernel)
theorem tbk_L_4 {X : LX} {dd : Nat} (hX : LC X) (hdd : dd ≤ 2000) (pc : Nat) : TrL X pc (tb_L_4 X dd pc) := kt_b (kt_b (kt_b (kt_b (kt_l (k_L_234 hX hdd)) (kt_b (kt_l (k_L_235 hX hdd)) (kt_l (k_L_236 hX hdd)))) (kt_b (kt_l (k_L_237 hX hdd)) (kt_b (kt_l (k_L_238 hX hdd)) (kt_l (k_L_239 hX hdd))))) (kt_b (kt_b (kt_l (k_L_240 hX hdd)) (kt_b (kt_l (k_L_241 hX hdd)) (kt_l (k_L_242 hX hdd)))) (kt_b (kt_l (k_L_243 hX hdd)) (kt_b (kt_l (k_L_244 hX hdd)) (kt_l (k_L_247 hX hdd)))))) (kt_b (kt_b (kt_b (kt_l (k_L_250 hX hdd)) (kt_b (kt_l (k_L_251 hX hdd)) (kt_l (k_L_252 hX hdd)))) (kt_b (kt_l (k_L_253 hX hdd)) (kt_b (kt_l (k_L_254 hX hdd)) (kt_l (k_L_255 hX hdd))))) (kt_b (kt_b (kt_l (k_L_256 hX hdd)) (kt_b (kt_l (k_L_257 hX hdd)) (kt_l (k_L_258 hX hdd)))) (kt_b (kt_l (k_L_259 hX hdd)) (kt_b (kt_l (k_L_260 hX hdd)) (kt_l (k_L_261 hX hdd))))))
def tb_L_5 (X : LX) (dd : Nat) (pc : Nat) : Tr := bif Nat.blt pc 277 then (bif Nat.blt pc 269 then (bif Nat.blt pc 266 then (bif Nat.blt pc 263 then (bif Nat.beq 262 pc then tr_sald X 263 else trF) else (bif Nat.blt pc 264 then (bif Nat.beq 263 pc then tr_i2l 264 else trF) else (bif Nat.beq 264 pc then tr_ic 266 32 else trF))) else (bif Nat.blt pc 267 then (bif Nat.beq 266 pc then tr_lshl 267 else trF) else (bif Nat.blt pc 268 then (bif Nat.beq 267 pc then tr_aload 268 0 else trF) else (bif Nat.beq 268 pc then tr_iload 269 3 else trF)))) else (bif Nat.blt pc 272 then (bif Nat.blt pc 270 then (bif Nat.beq 269 pc then tr_ic 270 3 else trF) else (bif Nat.blt pc 271 then (bif Nat.beq 270 pc then tr_iadd 271 else trF) else (bif Nat.beq 271 pc then tr_sald X 272 else trF))) else (bif Nat.blt pc 273 then (bif Nat.beq 272 pc then tr_i2l 273 else trF) else (bif Nat.blt pc 276 then (bif Nat.beq 273 pc then tr_lc 276 4294967295 else trF) else (bif Nat.beq 276 pc then tr_land 277 else trF))))) else (bif Nat.blt pc 283 then (bif Nat.blt pc 280 then (bif Nat.blt pc 278 then (bif Nat.beq 277 pc then tr_lor 278 else trF) else (bif Nat.blt pc 279 then (bif Nat.beq 278 pc then tr_aload 279 0 else trF) else (bif Nat.beq 279 pc then tr_iload 280 3 else trF))) else (bif Nat.blt pc 281 then (bif Nat.beq 280 pc then tr_ic 281 4 else trF) else (bif Nat.blt pc 282 then (bif Nat.beq 281 pc then tr_iadd 282 else trF) else (bif Nat.beq 282 pc then tr_sald X 283 else trF)))) else (bif Nat.blt pc 287 then (bif Nat.blt pc 284 then (bif Nat.beq 283 pc then tr_i2l 284 else trF) else (bif Nat.blt pc 286 then (bif Nat.beq 284 pc then tr_ic 286 32 else trF) else (bif Nat.beq 286 pc then tr_lshl 287 else trF))) else (bif Nat.blt pc 288 then (bif Nat.beq 287 pc then tr_aload 288 0 else trF) else (bif Nat.blt pc 289 then (bif Nat.beq 288 pc then tr_iload 289 3 else trF) else (bif Nat.beq 289 pc then tr_ic 290 5 else trF)))))
theorem k_L_262 {X : LX} {dd : Nat} (hX : LC X) (hdd : dd ≤ 2000) : TrL X 262 (tr_sald X 263) := kl_sald hX (show decode code 262 = .ok (.iaload, 1) from by decide +kernel)
theorem k_L_263 {X : LX} {dd : Nat} (hX : LC X) (hdd : dd ≤ 2000) : TrL X 263 (tr_i2l 264) := kl_i2l hX (show decode code 263 = .ok (.i2l, 1) from by decide +kernel)
theorem k_L_264 {X : LX} {dd : Nat} (hX : LC X) (hdd : dd ≤ 2000) : TrL X 264 (tr_ic 266 32) := kl_bipush hX (show decode code 264 = .ok (.bipush 32, 2) from by decide +kernel) rfl
theorem k_L_266 {X : LX} {dd : Nat} (hX : LC X) (hdd : dd ≤ 2000) : TrL X 266 (tr_lshl 267) := kl_lshl hX (show decode code 266 = .ok (.lshl, 1) from by decide +kernel)
theorem k_L_267 {X : LX} {dd : Nat} (hX : LC X) (hdd : dd ≤ 2000) : TrL X 267 (tr_aload 268 0) := kl_aload_n hX (show decode code 267 = .ok (.aload_n 0, 1) from by decide +kernel) rfl
theorem k_L_268 {X : LX} {dd : Nat} (hX : LC X) (hdd : dd ≤ 2000) : TrL X 268 (tr_iload 269 3) := kl_iload_n hX (show decode code 268 = .ok (.iload_n 3, 1) from by decide +kernel) rfl
theorem k_L_269 {X : LX} {dd : Nat} (hX : LC X) (hdd : dd ≤ 2000) : TrL X 269 (tr_ic 270 3) := kl_iconst hX (show decode code 269 = .ok (.iconst 3, 1) from by decide +kernel) rfl
theorem k_L_270 {X : LX} {dd : Nat} (hX : LC X) (hdd : dd ≤ 2000) : TrL X 270 (tr_iadd 271) := kl_iadd hX (show decode code 270 = .ok (.iadd, 1) from by decide +kernel)
theorem k_L_271 {X : LX} {dd : Nat} (hX : LC X) (hdd : dd ≤ 2000) : TrL X 271 (tr_sald X 272) := kl_sald hX (show decode code 271 = .ok (.iaload, 1) from by decide +kernel)
theorem k_L_272 {X : LX} {dd : Nat} (hX : LC X) (hdd : dd ≤ 2000) : TrL X 272 (tr_i2l 273) := kl_i2l hX (show decode code 272 = .ok (.i2l, 1) from by decide +kernel)
theorem k_L_273 {X : LX} {dd : Nat} (hX : LC X) (hdd : dd ≤ 2000) : TrL X 273 (tr_lc 276 4294967295) := kl_ldc2 hX (show decode code 273 = .ok (.ldc2_w 32, 3) from by decide +kernel) (gm 1095 (by decide +kernel) rfl)
theorem k_L_276 {X : LX} {dd : Nat} (hX : LC X) (hdd : dd ≤ 2000) : TrL X 276 (tr_land 277) := kl_land hX (show decode code 276 = .ok (.land, 1) from by decide +kernel)
theorem k_L_277 {X : LX} {dd : Nat} (hX : LC X) (hdd : dd ≤ 2000) : TrL X 277 (tr_lor 278) := kl_lor hX (show decode code 277 = .ok (.lor, 1) from by decide +kernel)
theorem k_L_278 {X : LX} {dd : Nat} (hX : LC X) (hdd : dd ≤ 2000) : TrL X 278 (tr_aload 279 0) := kl_aload_n hX (show decode code 278 = .ok (.aload_n 0, 1) from by decide +kernel) rfl
theorem k_L_279 {X : LX} {dd : Nat} (hX : LC X) (hdd : dd ≤ 2000) : TrL X 279 (tr_iload 280 3) := kl_iload_n hX (show decode code 279 = .ok (.iload_n 3, 1) from by decide +kernel) rfl
theorem k_L_280 {X : LX} {dd : Nat} (hX : LC X) (hdd : dd ≤ 2000) : TrL X 280 (tr_ic 281 4) := kl_iconst hX (show decode code 280 = .ok (.iconst 4, 1) from by decide +kernel) rfl
theorem k_L_281 {X : LX} {dd : Nat} (hX : LC X) (hdd : dd ≤ 2000) : TrL X 281 (tr_iadd 282) := kl_iadd hX (show decode code 281 = .ok (.iadd, 1) from by decide +kernel)
theorem k_L_282 {X : LX} {dd : Nat} (hX : LC X) (hdd : dd ≤ 2000) : TrL X 282 (tr_sald X 283) := kl_sald hX (show decode code 282 = .ok (.iaload, 1) from by decide +kernel)
theorem k_L_283 {X : LX} {dd : Nat} (hX : LC X) (hdd : dd ≤ 2000) : TrL X 283 (tr_i2l 284) := kl_i2l hX (show decode code 283 = .ok (.i2l, 1) from by decide +kernel)
theorem k_L_284 {X : LX} {dd : Nat} (hX : LC X) (hdd : dd ≤ 2000) : TrL X 284 (tr_ic 286 32) := kl_bipush hX (show decode code 284 = .ok (.bipush 32, 2) from by decide +kernel) rfl
theorem k_L_286 {X : LX} {dd : Nat} (hX : LC X) (hdd : dd ≤ 2000) : TrL X 286 (tr_lshl 287) := kl_lshl hX (show decode code 286 = .ok (.lshl, 1) from by decide +kernel)
theorem k_L_287 {X : LX} {dd : Nat} (hX : LC X) (hdd : dd ≤ 2000) : TrL X 287 (tr_aload 288 0) := kl_aload_n hX (show decode code 287 = .ok (.aload_n 0, 1) from by decide +kernel) rfl
theorem k_L_288 {X : LX} {dd : Nat} (hX : LC X) (hdd : dd ≤ 2000) : TrL X 288 (tr_iload 289 3) := kl_iload_n hX (show decode code 288 = .ok (.iload_n 3, 1) from by decide +kernel) rfl
theorem k_L_289 {X : LX} {dd : Nat} (hX : LC X) (hdd : dd ≤ 2000) : TrL X 289 (tr_ic 290 5) := kl_iconst hX (show decode code 289 = .ok (.iconst 5, 1) from by decide +kernel) rfl
theorem tbk_L_5 {X : LX} {dd : Nat} (hX : LC X) (hdd : dd ≤ 2000) (pc : Nat) : TrL X pc (tb_L_5 X dd pc) := kt_b (kt_b (kt_b (kt_b (kt_l (k_L_262 hX hdd)) (kt_b (kt_l (k_L_263 hX hdd)) (kt_l (k_L_264 hX hdd)))) (kt_b (kt_l (k_L_266 hX hdd)) (kt_b (kt_l (k_L_267 hX hdd)) (kt_l (k_L_268 hX hdd))))) (kt_b (kt_b (kt_l (k_L_269 hX hdd)) (kt_b (kt_l (k_L_270 hX hdd)) (kt_l (k_L_271 hX hdd)))) (kt_b (kt_l (k_L_272 hX hdd)) (kt_b (kt_l (k_L_273 hX hdd)) (kt_l (k_L_276 hX hdd)))))) (kt_b (kt_b (kt_b (kt_l (k_L_277 hX hdd)) (kt_b (kt_l (k_L_278 hX hdd)) (kt_l (k_L_279 hX hdd)))) (kt_b (kt_l (k_L_280 hX hdd)) (kt_b (kt_l (k_L_281 hX hdd)) (kt_l (k_L_282 hX hdd))))) (kt_b (kt_b (kt_l (k_L_283 hX hdd)) (kt_b (kt_l (k_L_284 hX hdd)) (kt_l (k_L_286 hX hdd)))) (kt_b (kt_l (k_L_287 hX hdd)) (kt_b (kt_l (k_L_288 hX hdd)) (kt_l (k_L_289 hX hdd))))))
def tb_L_6 (X : LX) (dd : Nat) (pc : Nat) : Tr := bif Nat.blt pc 306 then (bif Nat.blt pc 298 then (bif Nat.blt pc 293 then (bif Nat.blt pc 291 then (bif Nat.beq 290 pc then tr_iadd 291 else trF) else (bif Nat.blt pc 292 then (bif Nat.beq 291 pc then tr_sald X 292 else trF) else (bif Nat.beq 292 pc then tr_i2l 293 else trF))) else (bif Nat.blt pc 296 then (bif Nat.beq 293 pc then tr_lc 296 4294967295 else trF) else (bif Nat.blt pc 297 then (bif Nat.beq 296 pc then tr_land 297 else trF) else (bif Nat.beq 297 pc then tr_lor 298 else trF)))) else (bif Nat.blt pc 303 then (bif Nat.blt pc 301 then (bif Nat.beq 298 pc then tr_callB X (Call (XD X) dd mi_X11_filter) 301 12 3 else trF) else (bif Nat.blt pc 302 then (bif Nat.beq 301 pc then tr_aload 302 2 else trF) else (bif Nat.beq 302 pc then tr_aload 303 0 else trF))) else (bif Nat.blt pc 304 then (bif Nat.beq 303 pc then tr_iload 304 3 else trF) else (bif Nat.blt pc 305 then (bif Nat.beq 304 pc then tr_ic 305 1 else trF) else (bif Nat.beq 305 pc then tr_iadd 306 else trF))))) else (bif Nat.blt pc 312 then (bif Nat.blt pc 309 then (bif Nat.blt pc 307 then (bif Nat.beq 306 pc then tr_sald X 307 else trF) else (bif Nat.blt pc 308 then (bif Nat.beq 307 pc then tr_aload 308 0 else trF) else (bif Nat.beq 308 pc then tr_iload 309 3 else trF))) else (bif Nat.blt pc 310 then (bif Nat.beq 309 pc then tr_ic 310 2 else trF) else (bif Nat.blt pc 311 then (bif Nat.beq 310 pc then tr_iadd 311 else trF) else (bif Nat.beq 311 pc then tr_sald X 312 else trF)))) else (bif Nat.blt pc 316 then (bif Nat.blt pc 313 then (bif Nat.beq 312 pc then tr_i2l 313 else trF) else (bif Nat.blt pc 315 then (bif Nat.beq 313 pc then tr_ic 315 32 else trF) else (bif Nat.beq 315 pc then tr_lshl 316 else trF))) else (bif Nat.blt pc 317 then (bif Nat.beq 316 pc then tr_aload 317 0 else trF) else (bif Nat.blt pc 318 then (bif Nat.beq 317 pc then tr_iload 318 3 else trF) else (bif Nat.beq 318 pc then tr_ic 319 3 else trF)))))
theorem k_L_290 {X : LX} {dd : Nat} (hX : LC X) (hdd : dd ≤ 2000) : TrL X 290 (tr_iadd 291) := kl_iadd hX (show decode code 290 = .ok (.iadd, 1) from by decide +kernel)
theorem k_L_291 {X : LX} {dd : Nat} (hX : LC X) (hdd : dd ≤ 2000) : TrL X 291 (tr_sald X 292) := kl_sald hX (show decode code 291 = .ok (.iaload, 1) from by decide +kernel)
theorem k_L_292 {X : LX} {dd : Nat} (hX : LC X) (hdd : dd ≤ 2000) : TrL X 292 (tr_i2l 293) := kl_i2l hX (show decode code 292 = .ok (.i2l, 1) from by decide +kernel)
theorem k_L_293 {X : LX} {dd : Nat} (hX : LC X) (hdd : dd ≤ 2000) : TrL X 293 (tr_lc 296 4294967295) := kl_ldc2 hX (show decode code 293 = .ok (.ldc2_w 32, 3) from by decide +kernel) (gm 1095 (by decide +kernel) rfl)
theorem k_L_296 {X : LX} {dd : Nat} (hX : LC X) (hdd : dd ≤ 2000) : TrL X 296 (tr_land 297) := kl_land hX (show decode code 296 = .ok (.land, 1) from by decide +kernel)
theorem k_L_297 {X : LX} {dd : Nat} (hX : LC X) (hdd : dd ≤ 2000) : TrL X 297 (tr_lor 298) := kl_lor hX (show decode code 297 = .ok (.lor, 1) from by decide +kernel)
theorem k_L_298 {X : LX} {dd : Nat} (hX : LC X) (hdd : dd ≤ 2000) : TrL X 298 (tr_callB X (Call (XD X) dd mi_X11_filter) 301 12 3) := kl_callV hX (ci := 11) hdd (show decode code 298 = .ok (.invokevirtual 34, 3) from by decide +kernel) mok_X11_filter rfl rfl (gm 485 (by decide +kernel) rfl) (gm 486 (by decide +kernel) rfl) (gm 487 (by decide +kernel) rfl)
theorem k_L_301 {X : LX} {dd : Nat} (hX : LC X) (hdd : dd ≤ 2000) : TrL X 301 (tr_aload 302 2) := kl_aload_n hX (show decode code 301 = .ok (.aload_n 2, 1) from by decide +kernel) rfl
theorem k_L_302 {X : LX} {dd : Nat} (hX : LC X) (hdd : dd ≤ 2000) : TrL X 302 (tr_aload 303 0) := kl_aload_n hX (show decode code 302 = .ok (.aload_n 0, 1) from by decide +kernel) rfl
theorem k_L_303 {X : LX} {dd : Nat} (hX : LC X) (hdd : dd ≤ 2000) : TrL X 303 (tr_iload 304 3) := kl_iload_n hX (show decode code 303 = .ok (.iload_n 3, 1) from by decide +kernel) rfl
theorem k_L_304 {X : LX} {dd : Nat} (hX : LC X) (hdd : dd ≤ 2000) : TrL X 304 (tr_ic 305 1) := kl_iconst hX (show decode code 304 = .ok (.iconst 1, 1) from by decide +kernel) rfl
theorem k_L_305 {X : LX} {dd : Nat} (hX : LC X) (hdd : dd ≤ 2000) : TrL X 305 (tr_iadd 306) := kl_iadd hX (show decode code 305 = .ok (.iadd, 1) from by decide +kernel)
theorem k_L_306 {X : LX} {dd : Nat} (hX : LC X) (hdd : dd ≤ 2000) : TrL X 306 (tr_sald X 307) := kl_sald hX (show decode code 306 = .ok (.iaload, 1) from by decide +kernel)
theorem k_L_307 {X : LX} {dd : Nat} (hX : LC X) (hdd : dd ≤ 2000) : TrL X 307 (tr_aload 308 0) := kl_aload_n hX (show decode code 307 = .ok (.aload_n 0, 1) from by decide +kernel) rfl
theorem k_L_308 {X : LX} {dd : Nat} (hX : LC X) (hdd : dd ≤ 2000) : TrL X 308 (tr_iload 309 3) := kl_iload_n hX (show decode code 308 = .ok (.iload_n 3, 1) from by decide +kernel) rfl
theorem k_L_309 {X : LX} {dd : Nat} (hX : LC X) (hdd : dd ≤ 2000) : TrL X 309 (tr_ic 310 2) := kl_iconst hX (show decode code 309 = .ok (.iconst 2, 1) from by decide +kernel) rfl
theorem k_L_310 {X : LX} {dd : Nat} (hX : LC X) (hdd : dd ≤ 2000) : TrL X 310 (tr_iadd 311) := kl_iadd hX (show decode code 310 = .ok (.iadd, 1) from by decide +kernel)
theorem k_L_311 {X : LX} {dd : Nat} (hX : LC X) (hdd : dd ≤ 2000) : TrL X 311 (tr_sald X 312) := kl_sald hX (show decode code 311 = .ok (.iaload, 1) from by decide +kernel)
theorem k_L_312 {X : LX} {dd : Nat} (hX : LC X) (hdd : dd ≤ 2000) : TrL X 312 (tr_i2l 313) := kl_i2l hX (show decode code 312 = .ok (.i2l, 1) from by decide +kernel)
theorem k_L_313 {X : LX} {dd : Nat} (hX : LC X) (hdd : dd ≤ 2000) : TrL X 313 (tr_ic 315 32) := kl_bipush hX (show decode code 313 = .ok (.bipush 32, 2) from by decide +kernel) rfl
theorem k_L_315 {X : LX} {dd : Nat} (hX : LC X) (hdd : dd ≤ 2000) : TrL X 315 (tr_lshl 316) := kl_lshl hX (show decode code 315 = .ok (.lshl, 1) from by decide +kernel)
theorem k_L_316 {X : LX} {dd : Nat} (hX : LC X) (hdd : dd ≤ 2000) : TrL X 316 (tr_aload 317 0) := kl_aload_n hX (show decode code 316 = .ok (.aload_n 0, 1) from by decide +kernel) rfl
theorem k_L_317 {X : LX} {dd : Nat} (hX : LC X) (hdd : dd ≤ 2000) : TrL X 317 (tr_iload 318 3) := kl_iload_n hX (show decode code 317 = .ok (.iload_n 3, 1) from by decide +kernel) rfl
theorem k_L_318 {X : LX} {dd : Nat} (hX : LC X) (hdd : dd ≤ 2000) : TrL X 318 (tr_ic 319 3) := kl_iconst hX (show decode code 318 = .ok (.iconst 3, 1) from by decide +kernel) rfl
theorem tbk_L_6 {X : LX} {dd : Nat} (hX : LC X) (hdd : dd ≤ 2000) (pc : Nat) : TrL X pc (tb_L_6 X dd pc) := kt_b (kt_b (kt_b (kt_b (kt_l (k_L_290 hX hdd)) (kt_b (kt_l (k_L_291 hX hdd)) (kt_l (k_L_292 hX hdd)))) (kt_b (kt_l (k_L_293 hX hdd)) (kt_b (kt_l (k_L_296 hX hdd)) (kt_l (k_L_297 hX hdd))))) (kt_b (kt_b (kt_l (k_L_298 hX hdd)) (kt_b (kt_l (k_L_301 hX hdd)) (kt_l (k_L_302 hX hdd)))) (kt_b (kt_l (k_L_303 hX hdd)) (kt_b (kt_l (k_L_304 hX hdd)) (kt_l (k_L_305 hX hdd)))))) (kt_b (kt_b (kt_b (kt_l (k_L_306 hX hdd)) (kt_b (kt_l (k_L_307 hX hdd)) (kt_l (k_L_308 hX hdd)))) (kt_b (kt_l (k_L_309 hX hdd)) (kt_b (kt_l (k_L_310 hX hdd)) (kt_l (k_L_311 hX hdd))))) (kt_b (kt_b (kt_l (k_L_312 hX hdd)) (kt_b (kt_l (k_L_313 hX hdd)) (kt_l (k_L_315 hX hdd)))) (kt_b (kt_l (k_L_316 hX hdd)) (kt_b (kt_l (k_L_317 hX hdd)) (kt_l (k_L_318 hX hdd))))))
def tb_L_7 (X : LX) (dd : Nat) (pc : Nat) : Tr := bif Nat.blt pc 333 then (bif Nat.blt pc 327 then (bif Nat.blt pc 322 then (bif Nat.blt pc 320 then (bif Nat.beq 319 pc then tr_iadd 320 else trF) else (bif Nat.blt pc 321 then (bif Nat.beq 320 pc then tr_sald X 321 else trF) else (bif Nat.beq 321 pc then tr_i2l 322 else trF))) else (bif Nat.blt pc 325 then (bif Nat.beq 322 pc then tr_lc 325 4294967295 else trF) else (bif Nat.blt pc 326 then (bif Nat.beq 325 pc then tr_land 326 else trF) else (bif Nat.beq 326 pc then tr_lor 327 else trF)))) else (bif Nat.blt pc 330 then (bif Nat.blt pc 328 then (bif Nat.beq 327 pc then tr_aload 328 0 else trF) else (bif Nat.blt pc 329 then (bif Nat.beq 328 pc then tr_iload 329 3 else trF) else (bif Nat.beq 329 pc then tr_ic 330 4 else trF))) else (bif Nat.blt pc 331 then (bif Nat.beq 330 pc then tr_iadd 331 else trF) else (bif Nat.blt pc 332 then (bif Nat.beq 331 pc then tr_sald X 332 else trF) else (bif Nat.beq 332 pc then tr_i2l 333 else trF))))) else (bif Nat.blt pc 340 then (bif Nat.blt pc 337 then (bif Nat.blt pc 335 then (bif Nat.beq 333 pc then tr_ic 335 32 else trF) else (bif Nat.blt pc 336 then (bif Nat.beq 335 pc then tr_lshl 336 else trF) else (bif Nat.beq 336 pc then tr_aload 337 0 else trF))) else (bif Nat.blt pc 338 then (bif Nat.beq 337 pc then tr_iload 338 3 else trF) else (bif Nat.blt pc 339 then (bif Nat.beq 338 pc then tr_ic 339 5 else trF) else (bif Nat.beq 339 pc then tr_iadd 340 else trF)))) else (bif Nat.blt pc 345 then (bif Nat.blt pc 341 then (bif Nat.beq 340 pc then tr_sald X 341 else trF) else (bif Nat.blt pc 342 then (bif Nat.beq 341 pc then tr_i2l 342 else trF) else (bif Nat.beq 342 pc then tr_lc 345 4294967295 else trF))) else (bif Nat.blt pc 346 then (bif Nat.beq 345 pc then tr_land 346 else trF) else (bif Nat.blt pc 347 then (bif Nat.beq 346 pc then tr_lor 347 else trF) else (bif Nat.beq 347 pc then tr_callB X (Call (XD X) dd mi_X12_filter) 350 13 3 else trF)))))
theorem k_L_319 {X : LX} {dd : Nat} (hX : LC X) (hdd : dd ≤ 2000) : TrL X 319 (tr_iadd 320) := kl_iadd hX (show decode code 319 = .ok (.iadd, 1) from by decide +kernel)
theorem k_L_320 {X : LX} {dd : Nat} (hX : LC X) (hdd : dd ≤ 2000) : TrL X 320 (tr_sald X 321) := kl_sald hX (show decode code 320 = .ok (.iaload, 1) from by decide +kernel)
theorem k_L_321 {X : LX} {dd : Nat} (hX : LC X) (hdd : dd ≤ 2000) : TrL X 321 (tr_i2l 322) := kl_i2l hX (show decode code 321 = .ok (.i2l, 1) from by decide +kernel)
theorem k_L_322 {X : LX} {dd : Nat} (hX : LC X) (hdd : dd ≤ 2000) : TrL X 322 (tr_lc 325 4294967295) := kl_ldc2 hX (show decode code 322 = .ok (.ldc2_w 32, 3) from by decide +kernel) (gm 1095 (by decide +kernel) rfl)
theorem k_L_325 {X : LX} {dd : Nat} (hX : LC X) (hdd : dd ≤ 2000) : TrL X 325 (tr_land 326) := kl_land hX (show decode code 325 = .ok (.land, 1) from by decide +kernel)
theorem k_L_326 {X : LX} {dd : Nat} (hX : LC X) (hdd : dd ≤ 2000) : TrL X 326 (tr_lor 327) := kl_lor hX (show decode code 326 = .ok (.lor, 1) from by decide +kernel)
theorem k_L_327 {X : LX} {dd : Nat} (hX : LC X) (hdd : dd ≤ 2000) : TrL X 327 (tr_aload 328 0) := kl_aload_n hX (show decode code 327 = .ok (.aload_n 0, 1) from by decide +kernel) rfl
theorem k_L_328 {X : LX} {dd : Nat} (hX : LC X) (hdd : dd ≤ 2000) : TrL X 328 (tr_iload 329 3) := kl_iload_n hX (show decode code 328 = .ok (.iload_n 3, 1) from by decide +kernel) rfl
theorem k_L_329 {X : LX} {dd : Nat} (hX : LC X) (hdd : dd ≤ 2000) : TrL X 329 (tr_ic 330 4) := kl_iconst hX (show decode code 329 = .ok (.iconst 4, 1) from by decide +kernel) rfl
theorem k_L_330 {X : LX} {dd : Nat} (hX : LC X) (hdd : dd ≤ 2000) : TrL X 330 (tr_iadd 331) := kl_iadd hX (show decode code 330 = .ok (.iadd, 1) from by decide +kernel)
theorem k_L_331 {X : LX} {dd : Nat} (hX : LC X) (hdd : dd ≤ 2000) : TrL X 331 (tr_sald X 332) := kl_sald hX (show decode code 331 = .ok (.iaload, 1) from by decide +kernel)
theorem k_L_332 {X : LX} {dd : Nat} (hX : LC X) (hdd : dd ≤ 2000) : TrL X 332 (tr_i2l 333) := kl_i2l hX (show decode code 332 = .ok (.i2l, 1) from by decide +kernel)
theorem k_L_333 {X : LX} {dd : Nat} (hX : LC X) (hdd : dd ≤ 2000) : TrL X 333 (tr_ic 335 32) := kl_bipush hX (show decode code 333 = .ok (.bipush 32, 2) from by decide +kernel) rfl
theorem k_L_335 {X : LX} {dd : Nat} (hX : LC X) (hdd : dd ≤ 2000) : TrL X 335 (tr_lshl 336) := kl_lshl hX (show decode code 335 = .ok (.lshl, 1) from by decide +kernel)
theorem k_L_336 {X : LX} {dd : Nat} (hX : LC X) (hdd : dd ≤ 2000) : TrL X 336 (tr_aload 337 0) := kl_aload_n hX (show decode code 336 = .ok (.aload_n 0, 1) from by decide +kernel) rfl
theorem k_L_337 {X : LX} {dd : Nat} (hX : LC X) (hdd : dd ≤ 2000) : TrL X 337 (tr_iload 338 3) := kl_iload_n hX (show decode code 337 = .ok (.iload_n 3, 1) from by decide +kernel) rfl
theorem k_L_338 {X : LX} {dd : Nat} (hX : LC X) (hdd : dd ≤ 2000) : TrL X 338 (tr_ic 339 5) := kl_iconst hX (show decode code 338 = .ok (.iconst 5, 1) from by decide +kernel) rfl
theorem k_L_339 {X : LX} {dd : Nat} (hX : LC X) (hdd : dd ≤ 2000) : TrL X 339 (tr_iadd 340) := kl_iadd hX (show decode code 339 = .ok (.iadd, 1) from by decide +kernel)
theorem k_L_340 {X : LX} {dd : Nat} (hX : LC X) (hdd : dd ≤ 2000) : TrL X 340 (tr_sald X 341) := kl_sald hX (show decode code 340 = .ok (.iaload, 1) from by decide +kernel)
theorem k_L_341 {X : LX} {dd : Nat} (hX : LC X) (hdd : dd ≤ 2000) : TrL X 341 (tr_i2l 342) := kl_i2l hX (show decode code 341 = .ok (.i2l, 1) from by decide +kernel)
theorem k_L_342 {X : LX} {dd : Nat} (hX : LC X) (hdd : dd ≤ 2000) : TrL X 342 (tr_lc 345 4294967295) := kl_ldc2 hX (show decode code 342 = .ok (.ldc2_w 32, 3) from by decide +kernel) (gm 1095 (by decide +kernel) rfl)
theorem k_L_345 {X : LX} {dd : Nat} (hX : LC X) (hdd : dd ≤ 2000) : TrL X 345 (tr_land 346) := kl_land hX (show decode code 345 = .ok (.land, 1) from by decide +kernel)
theorem k_L_346 {X : LX} {dd : Nat} (hX : LC X) (hdd : dd ≤ 2000) : TrL X 346 (tr_lor 347) := kl_lor hX (show decode code 346 = .ok (.lor, 1) from by decide +kernel)
theorem k_L_347 {X : LX} {dd : Nat} (hX : LC X) (hdd : dd ≤ 2000) : TrL X 347 (tr_callB X (Call (XD X) dd mi_X12_filter) 350 13 3) := kl_callV hX (ci := 12) hdd (show decode code 347 = .ok (.invokevirtual 38, 3) from by decide +kernel) mok_X12_filter rfl rfl (gm 952 (by decide +kernel) rfl) (gm 953 (by decide +kernel) rfl) (gm 954 (by decide +kernel) rfl)
theorem tbk_L_7 {X : LX} {dd : Nat} (hX : LC X) (hdd : dd ≤ 2000) (pc : Nat) : TrL X pc (tb_L_7 X dd pc) := kt_b (kt_b (kt_b (kt_b (kt_l (k_L_319 hX hdd)) (kt_b (kt_l (k_L_320 hX hdd)) (kt_l (k_L_321 hX hdd)))) (kt_b (kt_l (k_L_322 hX hdd)) (kt_b (kt_l (k_L_325 hX hdd)) (kt_l (k_L_326 hX hdd))))) (kt_b (kt_b (kt_l (k_L_327 hX hdd)) (kt_b (kt_l (k_L_328 hX hdd)) (kt_l (k_L_329 hX hdd)))) (kt_b (kt_l (k_L_330 hX hdd)) (kt_b (kt_l (k_L_331 hX hdd)) (kt_l (k_L_332 hX hdd)))))) (kt_b (kt_b (kt_b (kt_l (k_L_333 hX hdd)) (kt_b (kt_l (k_L_335 hX hdd)) (kt_l (k_L_336 hX hdd)))) (kt_b (kt_l (k_L_337 hX hdd)) (kt_b (kt_l (k_L_338 hX hdd)) (kt_l (k_L_339 hX hdd))))) (kt_b (kt_b (kt_l (k_L_340 hX hdd)) (kt_b (kt_l (k_L_341 hX hdd)) (kt_l (k_L_342 hX hdd)))) (kt_b (kt_l (k_L_345 hX hdd)) (kt_b (kt_l (k_L_346 hX hdd)) (kt_l (k_L_347 hX hdd))))))
def tb_L_8 (X : LX) (dd : Nat) (pc : Nat) : Tr := bif Nat.blt pc 364 then (bif Nat.blt pc 358 then (bif Nat.blt pc 355 then (bif Nat.blt pc 353 then (bif Nat.beq 350 pc then tr_iceq 353 979 else trF) else (bif Nat.blt pc 354 then (bif Nat.beq 353 pc then tr_ic 354 0 else trF) else (bif Nat.beq 354 pc then tr_zret else trF))) else (bif Nat.blt pc 356 then (bif Nat.beq 355 pc then tr_aload 356 1 else trF) else (bif Nat.blt pc 357 then (bif Nat.beq 356 pc then tr_aload 357 0 else trF) else (bif Nat.beq 357 pc then tr_iload 358 3 else trF)))) else (bif Nat.blt pc 361 then (bif Nat.blt pc 359 then (bif Nat.beq 358 pc then tr_ic 359 1 else trF) else (bif Nat.blt pc 360 then (bif Nat.beq 359 pc then tr_iadd 360 else trF) else (bif Nat.beq 360 pc then tr_sald X 361 else trF))) else (bif Nat.blt pc 362 then (bif Nat.beq 361 pc then tr_aload 362 0 else trF) else (bif Nat.blt pc 363 then (bif Nat.beq 362 pc then tr_iload 363 3 else trF) else (bif Nat.beq 363 pc then tr_ic 364 2 else trF))))) else (bif Nat.blt pc 374 then (bif Nat.blt pc 369 then (bif Nat.blt pc 365 then (bif Nat.beq 364 pc then tr_iadd 365 else trF) else (bif Nat.blt pc 366 then (bif Nat.beq 365 pc then tr_sald X 366 else trF) else (bif Nat.beq 366 pc then tr_ifeq 369 373 else trF))) else (bif Nat.blt pc 370 then (bif Nat.beq 369 pc then tr_ic 370 1 else trF) else (bif Nat.blt pc 373 then (bif Nat.beq 370 pc then tr_goto 374 else trF) else (bif Nat.beq 373 pc then tr_ic 374 0 else trF)))) else (bif Nat.blt pc 379 then (bif Nat.blt pc 377 then (bif Nat.beq 374 pc then tr_callB X (Call (XD X) dd mi_X11_once) 377 12 2 else trF) else (bif Nat.blt pc 378 then (bif Nat.beq 377 pc then tr_aload 378 2 else trF) else (bif Nat.beq 378 pc then tr_aload 379 0 else trF))) else (bif Nat.blt pc 380 then (bif Nat.beq 379 pc then tr_iload 380 3 else trF) else (bif Nat.blt pc 381 then (bif Nat.beq 380 pc then tr_ic 381 1 else trF) else (bif Nat.beq 381 pc then tr_iadd 382 else trF)))))
theorem k_L_350 {X : LX} {dd : Nat} (hX : LC X) (hdd : dd ≤ 2000) : TrL X 350 (tr_iceq 353 979) := kl_iceq hX (show decode code 350 = .ok (.if_icmp .eq 629, 3) from by decide +kernel) (by decide)
theorem k_L_353 {X : LX} {dd : Nat} (hX : LC X) (hdd : dd ≤ 2000) : TrL X 353 (tr_ic 354 0) := kl_iconst hX (show decode code 353 = .ok (.iconst 0, 1) from by decide +kernel) rfl
theorem k_L_354 {X : LX} {dd : Nat} (hX : LC X) (hdd : dd ≤ 2000) : TrL X 354 (tr_zret) := kl_zret hX (show decode code 354 = .ok (.ireturn, 1) from by decide +kernel)
theorem k_L_355 {X : LX} {dd : Nat} (hX : LC X) (hdd : dd ≤ 2000) : TrL X 355 (tr_aload 356 1) := kl_aload_n hX (show decode code 355 = .ok (.aload_n 1, 1) from by decide +kernel) rfl
theorem k_L_356 {X : LX} {dd : Nat} (hX : LC X) (hdd : dd ≤ 2000) : TrL X 356 (tr_aload 357 0) := kl_aload_n hX (show decode code 356 = .ok (.aload_n 0, 1) from by decide +kernel) rfl
theorem k_L_357 {X : LX} {dd : Nat} (hX : LC X) (hdd : dd ≤ 2000) : TrL X 357 (tr_iload 358 3) := kl_iload_n hX (show decode code 357 = .ok (.iload_n 3, 1) from by decide +kernel) rfl
theorem k_L_358 {X : LX} {dd : Nat} (hX : LC X) (hdd : dd ≤ 2000) : TrL X 358 (tr_ic 359 1) := kl_iconst hX (show decode code 358 = .ok (.iconst 1, 1) from by decide +kernel) rfl
theorem k_L_359 {X : LX} {dd : Nat} (hX : LC X) (hdd : dd ≤ 2000) : TrL X 359 (tr_iadd 360) := kl_iadd hX (show decode code 359 = .ok (.iadd, 1) from by decide +kernel)
theorem k_L_360 {X : LX} {dd : Nat} (hX : LC X) (hdd : dd ≤ 2000) : TrL X 360 (tr_sald X 361) := kl_sald hX (show decode code 360 = .ok (.iaload, 1) from by decide +kernel)
theorem k_L_361 {X : LX} {dd : Nat} (hX : LC X) (hdd : dd ≤ 2000) : TrL X 361 (tr_aload 362 0) := kl_aload_n hX (show decode code 361 = .ok (.aload_n 0, 1) from by decide +kernel) rfl
theorem k_L_362 {X : LX} {dd : Nat} (hX : LC X) (hdd : dd ≤ 2000) : TrL X 362 (tr_iload 363 3) := kl_iload_n hX (show decode code 362 = .ok (.iload_n 3, 1) from by decide +kernel) rfl
theorem k_L_363 {X : LX} {dd : Nat} (hX : LC X) (hdd : dd ≤ 2000) : TrL X 363 (tr_ic 364 2) := kl_iconst hX (show decode code 363 = .ok (.iconst 2, 1) from by decide +kernel) rfl
theorem k_L_364 {X : LX} {dd : Nat} (hX : LC X) (hdd : dd ≤ 2000) : TrL X 364 (tr_iadd 365) := kl_iadd hX (show decode code 364 = .ok (.iadd, 1) from by decide +kernel)
theorem k_L_365 {X : LX} {dd : Nat} (hX : LC X) (hdd : dd ≤ 2000) : TrL X 365 (tr_sald X 366) := kl_sald hX (show decode code 365 = .ok (.iaload, 1) from by decide +kernel)
theorem k_L_366 {X : LX} {dd : Nat} (hX : LC X) (hdd : dd ≤ 2000) : TrL X 366 (tr_ifeq 369 373) := kl_ifeq hX (show decode code 366 = .ok (.ifCond .eq 7, 3) from by decide +kernel) (by decide)
theorem k_L_369 {X : LX} {dd : Nat} (hX : LC X) (hdd : dd ≤ 2000) : TrL X 369 (tr_ic 370 1) := kl_iconst hX (show decode code 369 = .ok (.iconst 1, 1) from by decide +kernel) rfl
theorem k_L_370 {X : LX} {dd : Nat} (hX : LC X) (hdd : dd ≤ 2000) : TrL X 370 (tr_goto 374) := kl_goto hX (show decode code 370 = .ok (.goto 4, 3) from by decide +kernel) (by decide)
theorem k_L_373 {X : LX} {dd : Nat} (hX : LC X) (hdd : dd ≤ 2000) : TrL X 373 (tr_ic 374 0) := kl_iconst hX (show decode code 373 = .ok (.iconst 0, 1) from by decide +kernel) rfl
theorem k_L_374 {X : LX} {dd : Nat} (hX : LC X) (hdd : dd ≤ 2000) : TrL X 374 (tr_callB X (Call (XD X) dd mi_X11_once) 377 12 2) := kl_callV hX (ci := 11) hdd (show decode code 374 = .ok (.invokevirtual 39, 3) from by decide +kernel) mok_X11_once rfl rfl (gm 493 (by decide +kernel) rfl) (gm 494 (by decide +kernel) rfl) (gm 495 (by decide +kernel) rfl)
theorem k_L_377 {X : LX} {dd : Nat} (hX : LC X) (hdd : dd ≤ 2000) : TrL X 377 (tr_aload 378 2) := kl_aload_n hX (show decode code 377 = .ok (.aload_n 2, 1) from by decide +kernel) rfl
theorem k_L_378 {X : LX} {dd : Nat} (hX : LC X) (hdd : dd ≤ 2000) : TrL X 378 (tr_aload 379 0) := kl_aload_n hX (show decode code 378 = .ok (.aload_n 0, 1) from by decide +kernel) rfl
theorem k_L_379 {X : LX} {dd : Nat} (hX : LC X) (hdd : dd ≤ 2000) : TrL X 379 (tr_iload 380 3) := kl_iload_n hX (show decode code 379 = .ok (.iload_n 3, 1) from by decide +kernel) rfl
theorem k_L_380 {X : LX} {dd : Nat} (hX : LC X) (hdd : dd ≤ 2000) : TrL X 380 (tr_ic 381 1) := kl_iconst hX (show decode code 380 = .ok (.iconst 1, 1) from by decide +kernel) rfl
theorem k_L_381 {X : LX} {dd : Nat} (hX : LC X) (hdd : dd ≤ 2000) : TrL X 381 (tr_iadd 382) := kl_iadd hX (show decode code 381 = .ok (.iadd, 1) from by decide +kernel)
theorem tbk_L_8 {X : LX} {dd : Nat} (hX : LC X) (hdd : dd ≤ 2000) (pc : Nat) : TrL X pc (tb_L_8 X dd pc) := kt_b (kt_b (kt_b (kt_b (kt_l (k_L_350 hX hdd)) (kt_b (kt_l (k_L_353 hX hdd)) (kt_l (k_L_354 hX hdd)))) (kt_b (kt_l (k_L_355 hX hdd)) (kt_b (kt_l (k_L_356 hX hdd)) (kt_l (k_L_357 hX hdd))))) (kt_b (kt_b (kt_l (k_L_358 hX hdd)) (kt_b (kt_l (k_L_359 hX hdd)) (kt_l (k_L_360 hX hdd)))) (kt_b (kt_l (k_L_361 hX hdd)) (kt_b (kt_l (k_L_362 hX hdd)) (kt_l (k_L_363 hX hdd)))))) (kt_b (kt_b (kt_b (kt_l (k_L_364 hX hdd)) (kt_b (kt_l (k_L_365 hX hdd)) (kt_l (k_L_366 hX hdd)))) (kt_b (kt_l (k_L_369 hX hdd)) (kt_b (kt_l (k_L_370 hX hdd)) (kt_l (k_L_373 hX hdd))))) (kt_b (kt_b (kt_l (k_L_374 hX hdd)) (kt_b (kt_l (k_L_377 hX hdd)) (kt_l (k_L_378 hX hdd)))) (kt_b (kt_l (k_L_379 hX hdd)) (kt_b (kt_l (k_L_380 hX hdd)) (kt_l (k_L_381 hX hdd))))))
def tb_L_9 (X : LX) (dd : Nat) (pc : Nat) : Tr := bif Nat.blt pc 402 then (bif Nat.blt pc 388 then (bif Nat.blt pc 385 then (bif Nat.blt pc 383 then (bif Nat.beq 382 pc then tr_sald X 383 else trF) else (bif Nat.blt pc 384 then (bif Nat.beq 383 pc then tr_aload 384 0 else trF) else (bif Nat.beq 384 pc then tr_iload 385 3 else trF))) else (bif Nat.blt pc 386 then (bif Nat.beq 385 pc then tr_ic 386 2 else trF) else (bif Nat.blt pc 387 then (bif Nat.beq 386 pc then tr_iadd 387 else trF) else (bif Nat.beq 387 pc then tr_sald X 388 else trF)))) else (bif Nat.blt pc 395 then (bif Nat.blt pc 391 then (bif Nat.beq 388 pc then tr_ifeq 391 395 else trF) else (bif Nat.blt pc 392 then (bif Nat.beq 391 pc then tr_ic 392 1 else trF) else (bif Nat.beq 392 pc then tr_goto 396 else trF))) else (bif Nat.blt pc 396 then (bif Nat.beq 395 pc then tr_ic 396 0 else trF) else (bif Nat.blt pc 399 then (bif Nat.beq 396 pc then tr_callB X (Call (XD X) dd mi_X12_once) 399 13 2 else trF) else (bif Nat.beq 399 pc then tr_iceq 402 979 else trF))))) else (bif Nat.blt pc 408 then (bif Nat.blt pc 405 then (bif Nat.blt pc 403 then (bif Nat.beq 402 pc then tr_ic 403 0 else trF) else (bif Nat.blt pc 404 then (bif Nat.beq 403 pc then tr_zret else trF) else (bif Nat.beq 404 pc then tr_aload 405 1 else trF))) else (bif Nat.blt pc 406 then (bif Nat.beq 405 pc then tr_aload 406 0 else trF) else (bif Nat.blt pc 407 then (bif Nat.beq 406 pc then tr_iload 407 3 else trF) else (bif Nat.beq 407 pc then tr_ic 408 1 else trF)))) else (bif Nat.blt pc 411 then (bif Nat.blt pc 409 then (bif Nat.beq 408 pc then tr_iadd 409 else trF) else (bif Nat.blt pc 410 then (bif Nat.beq 409 pc then tr_sald X 410 else trF) else (bif Nat.beq 410 pc then tr_aload 411 0 else trF))) else (bif Nat.blt pc 412 then (bif Nat.beq 411 pc then tr_iload 412 3 else trF) else (bif Nat.blt pc 413 then (bif Nat.beq 412 pc then tr_ic 413 2 else trF) else (bif Nat.beq 413 pc then tr_iadd 414 else trF)))))
theorem k_L_382 {X : LX} {dd : Nat} (hX : LC X) (hdd : dd ≤ 2000) : TrL X 382 (tr_sald X 383) := kl_sald hX (show decode code 382 = .ok (.iaload, 1) from by decide +kernel)
theorem k_L_383 {X : LX} {dd : Nat} (hX : LC X) (hdd : dd ≤ 2000) : TrL X 383 (tr_aload 384 0) := kl_aload_n hX (show decode code 383 = .ok (.aload_n 0, 1) from by decide +kernel) rfl
theorem k_L_384 {X : LX} {dd : Nat} (hX : LC X) (hdd : dd ≤ 2000) : TrL X 384 (tr_iload 385 3) := kl_iload_n hX (show decode code 384 = .ok (.iload_n 3, 1) from by decide +kernel) rfl
theorem k_L_385 {X : LX} {dd : Nat} (hX : LC X) (hdd : dd ≤ 2000) : TrL X 385 (tr_ic 386 2) := kl_iconst hX (show decode code 385 = .ok (.iconst 2, 1) from by decide +kernel) rfl
theorem k_L_386 {X : LX} {dd : Nat} (hX : LC X) (hdd : dd ≤ 2000) : TrL X 386 (tr_iadd 387) := kl_iadd hX (show decode code 386 = .ok (.iadd, 1) from by decide +kernel)
theorem k_L_387 {X : LX} {dd : Nat} (hX : LC X) (hdd : dd ≤ 2000) : TrL X 387 (tr_sald X 388) := kl_sald hX (show decode code 387 = .ok (.iaload, 1) from by decide +kernel)
theorem k_L_388 {X : LX} {dd : Nat} (hX : LC X) (hdd : dd ≤ 2000) : TrL X 388 (tr_ifeq 391 395) := kl_ifeq hX (show decode code 388 = .ok (.ifCond .eq 7, 3) from by decide +kernel) (by decide)
theorem k_L_391 {X : LX} {dd : Nat} (hX : LC X) (hdd : dd ≤ 2000) : TrL X 391 (tr_ic 392 1) := kl_iconst hX (show decode code 391 = .ok (.iconst 1, 1) from by decide +kernel) rfl
theorem k_L_392 {X : LX} {dd : Nat} (hX : LC X) (hdd : dd ≤ 2000) : TrL X 392 (tr_goto 396) := kl_goto hX (show decode code 392 = .ok (.goto 4, 3) from by decide +kernel) (by decide)
theorem k_L_395 {X : LX} {dd : Nat} (hX : LC X) (hdd : dd ≤ 2000) : TrL X 395 (tr_ic 396 0) := kl_iconst hX (show decode code 395 = .ok (.iconst 0, 1) from by decide +kernel) rfl
theorem k_L_396 {X : LX} {dd : Nat} (hX : LC X) (hdd : dd ≤ 2000) : TrL X 396 (tr_callB X (Call (XD X) dd mi_X12_once) 399 13 2) := kl_callV hX (ci := 12) hdd (show decode code 396 = .ok (.invokevirtual 43, 3) from by decide +kernel) mok_X12_once rfl rfl (gm 960 (by decide +kernel) rfl) (gm 961 (by decide +kernel) rfl) (gm 962 (by decide +kernel) rfl)
theorem k_L_399 {X : LX} {dd : Nat} (hX : LC X) (hdd : dd ≤ 2000) : TrL X 399 (tr_iceq 402 979) := kl_iceq hX (show decode code 399 = .ok (.if_icmp .eq 580, 3) from by decide +kernel) (by decide)
theorem k_L_402 {X : LX} {dd : Nat} (hX : LC X) (hdd : dd ≤ 2000) : TrL X 402 (tr_ic 403 0) := kl_iconst hX (show decode code 402 = .ok (.iconst 0, 1) from by decide +kernel) rfl
theorem k_L_403 {X : LX} {dd : Nat} (hX : LC X) (hdd : dd ≤ 2000) : TrL X 403 (tr_zret) := kl_zret hX (show decode code 403 = .ok (.ireturn, 1) from by decide +kernel)
theorem k_L_404 {X : LX} {dd : Nat} (hX : LC X) (hdd : dd ≤ 2000) : TrL X 404 (tr_aload 405 1) := kl_aload_n hX (show decode code 404 = .ok (.aload_n 1, 1) from by decide +kernel) rfl
theorem k_L_405 {X : LX} {dd : Nat} (hX : LC X) (hdd : dd ≤ 2000) : TrL X 405 (tr_aload 406 0) := kl_aload_n hX (show decode code 405 = .ok (.aload_n 0, 1) from by decide +kernel) rfl
theorem k_L_406 {X : LX} {dd : Nat} (hX : LC X) (hdd : dd ≤ 2000) : TrL X 406 (tr_iload 407 3) := kl_iload_n hX (show decode code 406 = .ok (.iload_n 3, 1) from by decide +kernel) rfl
theorem k_L_407 {X : LX} {dd : Nat} (hX : LC X) (hdd : dd ≤ 2000) : TrL X 407 (tr_ic 408 1) := kl_iconst hX (show decode code 407 = .ok (.iconst 1, 1) from by decide +kernel) rfl
theorem k_L_408 {X : LX} {dd : Nat} (hX : LC X) (hdd : dd ≤ 2000) : TrL X 408 (tr_iadd 409) := kl_iadd hX (show decode code 408 = .ok (.iadd, 1) from by decide +kernel)
theorem k_L_409 {X : LX} {dd : Nat} (hX : LC X) (hdd : dd ≤ 2000) : TrL X 409 (tr_sald X 410) := kl_sald hX (show decode code 409 = .ok (.iaload, 1) from by decide +kernel)
theorem k_L_410 {X : LX} {dd : Nat} (hX : LC X) (hdd : dd ≤ 2000) : TrL X 410 (tr_aload 411 0) := kl_aload_n hX (show decode code 410 = .ok (.aload_n 0, 1) from by decide +kernel) rfl
theorem k_L_411 {X : LX} {dd : Nat} (hX : LC X) (hdd : dd ≤ 2000) : TrL X 411 (tr_iload 412 3) := kl_iload_n hX (show decode code 411 = .ok (.iload_n 3, 1) from by decide +kernel) rfl
theorem k_L_412 {X : LX} {dd : Nat} (hX : LC X) (hdd : dd ≤ 2000) : TrL X 412 (tr_ic 413 2) := kl_iconst hX (show decode code 412 = .ok (.iconst 2, 1) from by decide +kernel) rfl
theorem k_L_413 {X : LX} {dd : Nat} (hX : LC X) (hdd : dd ≤ 2000) : TrL X 413 (tr_iadd 414) := kl_iadd hX (show decode code 413 = .ok (.iadd, 1) from by decide +kernel)
theorem tbk_L_9 {X : LX} {dd : Nat} (hX : LC X) (hdd : dd ≤ 2000) (pc : Nat) : TrL X pc (tb_L_9 X dd pc) := kt_b (kt_b (kt_b (kt_b (kt_l (k_L_382 hX hdd)) (kt_b (kt_l (k_L_383 hX hdd)) (kt_l (k_L_384 hX hdd)))) (kt_b (kt_l (k_L_385 hX hdd)) (kt_b (kt_l (k_L_386 hX hdd)) (kt_l (k_L_387 hX hdd))))) (kt_b (kt_b (kt_l (k_L_388 hX hdd)) (kt_b (kt_l (k_L_391 hX hdd)) (kt_l (k_L_392 hX hdd)))) (kt_b (kt_l (k_L_395 hX hdd)) (kt_b (kt_l (k_L_396 hX hdd)) (kt_l (k_L_399 hX hdd)))))) (kt_b (kt_b (kt_b (kt_l (k_L_402 hX hdd)) (kt_b (kt_l (k_L_403 hX hdd)) (kt_l (k_L_404 hX hdd)))) (kt_b (kt_l (k_L_405 hX hdd)) (kt_b (kt_l (k_L_406 hX hdd)) (kt_l (k_L_407 hX hdd))))) (kt_b (kt_b (kt_l (k_L_408 hX hdd)) (kt_b (kt_l (k_L_409 hX hdd)) (kt_l (k_L_410 hX hdd)))) (kt_b (kt_l (k_L_411 hX hdd)) (kt_b (kt_l (k_L_412 hX hdd)) (kt_l (k_L_413 hX hdd))))))
def tb_L_10 (X : LX) (dd : Nat) (pc : Nat) : Tr := bif Nat.blt pc 428 then (bif Nat.blt pc 420 then (bif Nat.blt pc 417 then (bif Nat.blt pc 415 then (bif Nat.beq 414 pc then tr_sald X 415 else trF) else (bif Nat.blt pc 416 then (bif Nat.beq 415 pc then tr_aload 416 0 else trF) else (bif Nat.beq 416 pc then tr_iload 417 3 else trF))) else (bif Nat.blt pc 418 then (bif Nat.beq 417 pc then tr_ic 418 3 else trF) else (bif Nat.blt pc 419 then (bif Nat.beq 418 pc then tr_iadd 419 else trF) else (bif Nat.beq 419 pc then tr_sald X 420 else trF)))) else (bif Nat.blt pc 425 then (bif Nat.blt pc 423 then (bif Nat.beq 420 pc then tr_callB X (Call (XD X) dd mi_X11_step) 423 12 3 else trF) else (bif Nat.blt pc 424 then (bif Nat.beq 423 pc then tr_aload 424 2 else trF) else (bif Nat.beq 424 pc then tr_aload 425 0 else trF))) else (bif Nat.blt pc 426 then (bif Nat.beq 425 pc then tr_iload 426 3 else trF) else (bif Nat.blt pc 427 then (bif Nat.beq 426 pc then tr_ic 427 1 else trF) else (bif Nat.beq 427 pc then tr_iadd 428 else trF))))) else (bif Nat.blt pc 434 then (bif Nat.blt pc 431 then (bif Nat.blt pc 429 then (bif Nat.beq 428 pc then tr_sald X 429 else trF) else (bif Nat.blt pc 430 then (bif Nat.beq 429 pc then tr_aload 430 0 else trF) else (bif Nat.beq 430 pc then tr_iload 431 3 else trF))) else (bif Nat.blt pc 432 then (bif Nat.beq 431 pc then tr_ic 432 2 else trF) else (bif Nat.blt pc 433 then (bif Nat.beq 432 pc then tr_iadd 433 else trF) else (bif Nat.beq 433 pc then tr_sald X 434 else trF)))) else (bif Nat.blt pc 437 then (bif Nat.blt pc 435 then (bif Nat.beq 434 pc then tr_aload 435 0 else trF) else (bif Nat.blt pc 436 then (bif Nat.beq 435 pc then tr_iload 436 3 else trF) else (bif Nat.beq 436 pc then tr_ic 437 3 else trF))) else (bif Nat.blt pc 438 then (bif Nat.beq 437 pc then tr_iadd 438 else trF) else (bif Nat.blt pc 439 then (bif Nat.beq 438 pc then tr_sald X 439 else trF) else (bif Nat.beq 439 pc then tr_callB X (Call (XD X) dd mi_X12_step) 442 13 3 else trF)))))
theorem k_L_414 {X : LX} {dd : Nat} (hX : LC X) (hdd : dd ≤ 2000) : TrL X 414 (tr_sald X 415) := kl_sald hX (show decode code 414 = .ok (.iaload, 1) from by decide +kernel)
theorem k_L_415 {X : LX} {dd : Nat} (hX : LC X) (hdd : dd ≤ 2000) : TrL X 415 (tr_aload 416 0) := kl_aload_n hX (show decode code 415 = .ok (.aload_n 0, 1) from by decide +kernel) rfl
theorem k_L_416 {X : LX} {dd : Nat} (hX : LC X) (hdd : dd ≤ 2000) : TrL X 416 (tr_iload 417 3) := kl_iload_n hX (show decode code 416 = .ok (.iload_n 3, 1) from by decide +kernel) rfl
theorem k_L_417 {X : LX} {dd : Nat} (hX : LC X) (hdd : dd ≤ 2000) : TrL X 417 (tr_ic 418 3) := kl_iconst hX (show decode code 417 = .ok (.iconst 3, 1) from by decide +kernel) rfl
theorem k_L_418 {X : LX} {dd : Nat} (hX : LC X) (hdd : dd ≤ 2000) : TrL X 418 (tr_iadd 419) := kl_iadd hX (show decode code 418 = .ok (.iadd, 1) from by decide +kernel)
theorem k_L_419 {X : LX} {dd : Nat} (hX : LC X) (hdd : dd ≤ 2000) : TrL X 419 (tr_sald X 420) := kl_sald hX (show decode code 419 = .ok (.iaload, 1) from by decide +kernel)
theorem k_L_420 {X : LX} {dd : Nat} (hX : LC X) (hdd : dd ≤ 2000) : TrL X 420 (tr_callB X (Call (XD X) dd mi_X11_step) 423 12 3) := kl_callV hX (ci := 11) hdd (show decode code 420 = .ok (.invokevirtual 44, 3) from by decide +kernel) mok_X11_step rfl rfl (gm 500 (by decide +kernel) rfl) (gm 501 (by decide +kernel) rfl) (gm 502 (by decide +kernel) rfl)
theorem k_L_423 {X : LX} {dd : Nat} (hX : LC X) (hdd : dd ≤ 2000) : TrL X 423 (tr_aload 424 2) := kl_aload_n hX (show decode code 423 = .ok (.aload_n 2, 1) from by decide +kernel) rfl
theorem k_L_424 {X : LX} {dd : Nat} (hX : LC X) (hdd : dd ≤ 2000) : TrL X 424 (tr_aload 425 0) := kl_aload_n hX (show decode code 424 = .ok (.aload_n 0, 1) from by decide +kernel) rfl
theorem k_L_425 {X : LX} {dd : Nat} (hX : LC X) (hdd : dd ≤ 2000) : TrL X 425 (tr_iload 426 3) := kl_iload_n hX (show decode code 425 = .ok (.iload_n 3, 1) from by decide +kernel) rfl
theorem k_L_426 {X : LX} {dd : Nat} (hX : LC X) (hdd : dd ≤ 2000) : TrL X 426 (tr_ic 427 1) := kl_iconst hX (show decode code 426 = .ok (.iconst 1, 1) from by decide +kernel) rfl
theorem k_L_427 {X : LX} {dd : Nat} (hX : LC X) (hdd : dd ≤ 2000) : TrL X 427 (tr_iadd 428) := kl_iadd hX (show decode code 427 = .ok (.iadd, 1) from by decide +kernel)
theorem k_L_428 {X : LX} {dd : Nat} (hX : LC X) (hdd : dd ≤ 2000) : TrL X 428 (tr_sald X 429) := kl_sald hX (show decode code 428 = .ok (.iaload, 1) from by decide +kernel)
theorem k_L_429 {X : LX} {dd : Nat} (hX : LC X) (hdd : dd ≤ 2000) : TrL X 429 (tr_aload 430 0) := kl_aload_n hX (show decode code 429 = .ok (.aload_n 0, 1) from by decide +kernel) rfl
theorem k_L_430 {X : LX} {dd : Nat} (hX : LC X) (hdd : dd ≤ 2000) : TrL X 430 (tr_iload 431 3) := kl_iload_n hX (show decode code 430 = .ok (.iload_n 3, 1) from by decide +kernel) rfl
theorem k_L_431 {X : LX} {dd : Nat} (hX : LC X) (hdd : dd ≤ 2000) : TrL X 431 (tr_ic 432 2) := kl_iconst hX (show decode code 431 = .ok (.iconst 2, 1) from by decide +kernel) rfl
theorem k_L_432 {X : LX} {dd : Nat} (hX : LC X) (hdd : dd ≤ 2000) : TrL X 432 (tr_iadd 433) := kl_iadd hX (show decode code 432 = .ok (.iadd, 1) from by decide +kernel)
theorem k_L_433 {X : LX} {dd : Nat} (hX : LC X) (hdd : dd ≤ 2000) : TrL X 433 (tr_sald X 434) := kl_sald hX (show decode code 433 = .ok (.iaload, 1) from by decide +kernel)
theorem k_L_434 {X : LX} {dd : Nat} (hX : LC X) (hdd : dd ≤ 2000) : TrL X 434 (tr_aload 435 0) := kl_aload_n hX (show decode code 434 = .ok (.aload_n 0, 1) from by decide +kernel) rfl
theorem k_L_435 {X : LX} {dd : Nat} (hX : LC X) (hdd : dd ≤ 2000) : TrL X 435 (tr_iload 436 3) := kl_iload_n hX (show decode code 435 = .ok (.iload_n 3, 1) from by decide +kernel) rfl
theorem k_L_436 {X : LX} {dd : Nat} (hX : LC X) (hdd : dd ≤ 2000) : TrL X 436 (tr_ic 437 3) := kl_iconst hX (show decode code 436 = .ok (.iconst 3, 1) from by decide +kernel) rfl
theorem k_L_437 {X : LX} {dd : Nat} (hX : LC X) (hdd : dd ≤ 2000) : TrL X 437 (tr_iadd 438) := kl_iadd hX (show decode code 437 = .ok (.iadd, 1) from by decide +kernel)
theorem k_L_438 {X : LX} {dd : Nat} (hX : LC X) (hdd : dd ≤ 2000) : TrL X 438 (tr_sald X 439) := kl_sald hX (show decode code 438 = .ok (.iaload, 1) from by decide +kernel)
theorem k_L_439 {X : LX} {dd : Nat} (hX : LC X) (hdd : dd ≤ 2000) : TrL X 439 (tr_callB X (Call (XD X) dd mi_X12_step) 442 13 3) := kl_callV hX (ci := 12) hdd (show decode code 439 = .ok (.invokevirtual 48, 3) from by decide +kernel) mok_X12_step rfl rfl (gm 964 (by decide +kernel) rfl) (gm 965 (by decide +kernel) rfl) (gm 966 (by decide +kernel) rfl)
theorem tbk_L_10 {X : LX} {dd : Nat} (hX : LC X) (hdd : dd ≤ 2000) (pc : Nat) : TrL X pc (tb_L_10 X dd pc) := kt_b (kt_b (kt_b (kt_b (kt_l (k_L_414 hX hdd)) (kt_b (kt_l (k_L_415 hX hdd)) (kt_l (k_L_416 hX hdd)))) (kt_b (kt_l (k_L_417 hX hdd)) (kt_b (kt_l (k_L_418 hX hdd)) (kt_l (k_L_419 hX hdd))))) (kt_b (kt_b (kt_l (k_L_420 hX hdd)) (kt_b (kt_l (k_L_423 hX hdd)) (kt_l (k_L_424 hX hdd)))) (kt_b (kt_l (k_L_425 hX hdd)) (kt_b (kt_l (k_L_426 hX hdd)) (kt_l (k_L_427 hX hdd)))))) (kt_b (kt_b (kt_b (kt_l (k_L_428 hX hdd)) (kt_b (kt_l (k_L_429 hX hdd)) (kt_l (k_L_430 hX hdd)))) (kt_b (kt_l (k_L_431 hX hdd)) (kt_b (kt_l (k_L_432 hX hdd)) (kt_l (k_L_433 hX hdd))))) (kt_b (kt_b (kt_l (k_L_434 hX hdd)) (kt_b (kt_l (k_L_435 hX hdd)) (kt_l (k_L_436 hX hdd)))) (kt_b (kt_l (k_L_437 hX hdd)) (kt_b (kt_l (k_L_438 hX hdd)) (kt_l (k_L_439 hX hdd))))))
def tb_L_11 (X : LX) (dd : Nat) (pc : Nat) : Tr := bif Nat.blt pc 458 then (bif Nat.blt pc 450 then (bif Nat.blt pc 447 then (bif Nat.blt pc 445 then (bif Nat.beq 442 pc then tr_iceq 445 979 else trF) else (bif Nat.blt pc 446 then (bif Nat.beq 445 pc then tr_ic 446 0 else trF) else (bif Nat.beq 446 pc then tr_zret else trF))) else (bif Nat.blt pc 448 then (bif Nat.beq 447 pc then tr_aload 448 1 else trF) else (bif Nat.blt pc 449 then (bif Nat.beq 448 pc then tr_aload 449 0 else trF) else (bif Nat.beq 449 pc then tr_iload 450 3 else trF)))) else (bif Nat.blt pc 453 then (bif Nat.blt pc 451 then (bif Nat.beq 450 pc then tr_ic 451 1 else trF) else (bif Nat.blt pc 452 then (bif Nat.beq 451 pc then tr_iadd 452 else trF) else (bif Nat.beq 452 pc then tr_sald X 453 else trF))) else (bif Nat.blt pc 456 then (bif Nat.beq 453 pc then tr_callB X (Call (XD X) dd mi_X11_leave) 456 12 1 else trF) else (bif Nat.blt pc 457 then (bif Nat.beq 456 pc then tr_aload 457 2 else trF) else (bif Nat.beq 457 pc then tr_aload 458 0 else trF))))) else (bif Nat.blt pc 468 then (bif Nat.blt pc 461 then (bif Nat.blt pc 459 then (bif Nat.beq 458 pc then tr_iload 459 3 else trF) else (bif Nat.blt pc 460 then (bif Nat.beq 459 pc then tr_ic 460 1 else trF) else (bif Nat.beq 460 pc then tr_iadd 461 else trF))) else (bif Nat.blt pc 462 then (bif Nat.beq 461 pc then tr_sald X 462 else trF) else (bif Nat.blt pc 465 then (bif Nat.beq 462 pc then tr_callB X (Call (XD X) dd mi_X12_leave) 465 13 1 else trF) else (bif Nat.beq 465 pc then tr_iceq 468 979 else trF)))) else (bif Nat.blt pc 471 then (bif Nat.blt pc 469 then (bif Nat.beq 468 pc then tr_ic 469 0 else trF) else (bif Nat.blt pc 470 then (bif Nat.beq 469 pc then tr_zret else trF) else (bif Nat.beq 470 pc then tr_aload 471 1 else trF))) else (bif Nat.blt pc 472 then (bif Nat.beq 471 pc then tr_aload 472 0 else trF) else (bif Nat.blt pc 473 then (bif Nat.beq 472 pc then tr_iload 473 3 else trF) else (bif Nat.beq 473 pc then tr_ic 474 1 else trF)))))
theorem k_L_442 {X : LX} {dd : Nat} (hX : LC X) (hdd : dd ≤ 2000) : TrL X 442 (tr_iceq 445 979) := kl_iceq hX (show decode code 442 = .ok (.if_icmp .eq 537, 3) from by decide +kernel) (by decide)
theorem k_L_445 {X : LX} {dd : Nat} (hX : LC X) (hdd : dd ≤ 2000) : TrL X 445 (tr_ic 446 0) := kl_iconst hX (show decode code 445 = .ok (.iconst 0, 1) from by decide +kernel) rfl
theorem k_L_446 {X : LX} {dd : Nat} (hX : LC X) (hdd : dd ≤ 2000) : TrL X 446 (tr_zret) := kl_zret hX (show decode code 446 = .ok (.ireturn, 1) from by decide +kernel)
theorem k_L_447 {X : LX} {dd : Nat} (hX : LC X) (hdd : dd ≤ 2000) : TrL X 447 (tr_aload 448 1) := kl_aload_n hX (show decode code 447 = .ok (.aload_n 1, 1) from by decide +kernel) rfl
theorem k_L_448 {X : LX} {dd : Nat} (hX : LC X) (hdd : dd ≤ 2000) : TrL X 448 (tr_aload 449 0) := kl_aload_n hX (show decode code 448 = .ok (.aload_n 0, 1) from by decide +kernel) rfl
theorem k_L_449 {X : LX} {dd : Nat} (hX : LC X) (hdd : dd ≤ 2000) : TrL X 449 (tr_iload 450 3) := kl_iload_n hX (show decode code 449 = .ok (.iload_n 3, 1) from by decide +kernel) rfl
theorem k_L_450 {X : LX} {dd : Nat} (hX : LC X) (hdd : dd ≤ 2000) : TrL X 450 (tr_ic 451 1) := kl_iconst hX (show decode code 450 = .ok (.iconst 1, 1) from by decide +kernel) rfl
theorem k_L_451 {X : LX} {dd : Nat} (hX : LC X) (hdd : dd ≤ 2000) : TrL X 451 (tr_iadd 452) := kl_iadd hX (show decode code 451 = .ok (.iadd, 1) from by decide +kernel)
theorem k_L_452 {X : LX} {dd : Nat} (hX : LC X) (hdd : dd ≤ 2000) : TrL X 452 (tr_sald X 453) := kl_sald hX (show decode code 452 = .ok (.iaload, 1) from by decide +kernel)
theorem k_L_453 {X : LX} {dd : Nat} (hX : LC X) (hdd : dd ≤ 2000) : TrL X 453 (tr_callB X (Call (XD X) dd mi_X11_leave) 456 12 1) := kl_callV hX (ci := 11) hdd (show decode code 453 = .ok (.invokevirtual 49, 3) from by decide +kernel) mok_X11_leave rfl rfl (gm 508 (by decide +kernel) rfl) (gm 509 (by decide +kernel) rfl) (gm 510 (by decide +kernel) rfl)
theorem k_L_456 {X : LX} {dd : Nat} (hX : LC X) (hdd : dd ≤ 2000) : TrL X 456 (tr_aload 457 2) := kl_aload_n hX (show decode code 456 = .ok (.aload_n 2, 1) from by decide +kernel) rfl
theorem k_L_457 {X : LX} {dd : Nat} (hX : LC X) (hdd : dd ≤ 2000) : TrL X 457 (tr_aload 458 0) := kl_aload_n hX (show decode code 457 = .ok (.aload_n 0, 1) from by decide +kernel) rfl
theorem k_L_458 {X : LX} {dd : Nat} (hX : LC X) (hdd : dd ≤ 2000) : TrL X 458 (tr_iload 459 3) := kl_iload_n hX (show decode code 458 = .ok (.iload_n 3, 1) from by decide +kernel) rfl
theorem k_L_459 {X : LX} {dd : Nat} (hX : LC X) (hdd : dd ≤ 2000) : TrL X 459 (tr_ic 460 1) := kl_iconst hX (show decode code 459 = .ok (.iconst 1, 1) from by decide +kernel) rfl
theorem k_L_460 {X : LX} {dd : Nat} (hX : LC X) (hdd : dd ≤ 2000) : TrL X 460 (tr_iadd 461) := kl_iadd hX (show decode code 460 = .ok (.iadd, 1) from by decide +kernel)
theorem k_L_461 {X : LX} {dd : Nat} (hX : LC X) (hdd : dd ≤ 2000) : TrL X 461 (tr_sald X 462) := kl_sald hX (show decode code 461 = .ok (.iaload, 1) from by decide +kernel)
theorem k_L_462 {X : LX} {dd : Nat} (hX : LC X) (hdd : dd ≤ 2000) : TrL X 462 (tr_callB X (Call (XD X) dd mi_X12_leave) 465 13 1) := kl_callV hX (ci := 12) hdd (show decode code 462 = .ok (.invokevirtual 52, 3) from by decide +kernel) mok_X12_leave rfl rfl (gm 971 (by decide +kernel) rfl) (gm 972 (by decide +kernel) rfl) (gm 973 (by decide +kernel) rfl)
theorem k_L_465 {X : LX} {dd : Nat} (hX : LC X) (hdd : dd ≤ 2000) : TrL X 465 (tr_iceq 468 979) := kl_iceq hX (show decode code 465 = .ok (.if_icmp .eq 514, 3) from by decide +kernel) (by decide)
theorem k_L_468 {X : LX} {dd : Nat} (hX : LC X) (hdd : dd ≤ 2000) : TrL X 468 (tr_ic 469 0) := kl_iconst hX (show decode code 468 = .ok (.iconst 0, 1) from by decide +kernel) rfl
theorem k_L_469 {X : LX} {dd : Nat} (hX : LC X) (hdd : dd ≤ 2000) : TrL X 469 (tr_zret) := kl_zret hX (show decode code 469 = .ok (.ireturn, 1) from by decide +kernel)
theorem k_L_470 {X : LX} {dd : Nat} (hX : LC X) (hdd : dd ≤ 2000) : TrL X 470 (tr_aload 471 1) := kl_aload_n hX (show decode code 470 = .ok (.aload_n 1, 1) from by decide +kernel) rfl
theorem k_L_471 {X : LX} {dd : Nat} (hX : LC X) (hdd : dd ≤ 2000) : TrL X 471 (tr_aload 472 0) := kl_aload_n hX (show decode code 471 = .ok (.aload_n 0, 1) from by decide +kernel) rfl
theorem k_L_472 {X : LX} {dd : Nat} (hX : LC X) (hdd : dd ≤ 2000) : TrL X 472 (tr_iload 473 3) := kl_iload_n hX (show decode code 472 = .ok (.iload_n 3, 1) from by decide +kernel) rfl
theorem k_L_473 {X : LX} {dd : Nat} (hX : LC X) (hdd : dd ≤ 2000) : TrL X 473 (tr_ic 474 1) := kl_iconst hX (show decode code 473 = .ok (.iconst 1, 1) from by decide +kernel) rfl
theorem tbk_L_11 {X : LX} {dd : Nat} (hX : LC X) (hdd : dd ≤ 2000) (pc : Nat) : TrL X pc (tb_L_11 X dd pc) := kt_b (kt_b (kt_b (kt_b (kt_l (k_L_442 hX hdd)) (kt_b (kt_l (k_L_445 hX hdd)) (kt_l (k_L_446 hX hdd)))) (kt_b (kt_l (k_L_447 hX hdd)) (kt_b (kt_l (k_L_448 hX hdd)) (kt_l (k_L_449 hX hdd))))) (kt_b (kt_b (kt_l (k_L_450 hX hdd)) (kt_b (kt_l (k_L_451 hX hdd)) (kt_l (k_L_452 hX hdd)))) (kt_b (kt_l (k_L_453 hX hdd)) (kt_b (kt_l (k_L_456 hX hdd)) (kt_l (k_L_457 hX hdd)))))) (kt_b (kt_b (kt_b (kt_l (k_L_458 hX hdd)) (kt_b (kt_l (k_L_459 hX hdd)) (kt_l (k_L_460 hX hdd)))) (kt_b (kt_l (k_L_461 hX hdd)) (kt_b (kt_l (k_L_462 hX hdd)) (kt_l (k_L_465 hX hdd))))) (kt_b (kt_b (kt_l (k_L_468 hX hdd)) (kt_b (kt_l (k_L_469 hX hdd)) (kt_l (k_L_470 hX hdd)))) (kt_b (kt_l (k_L_471 hX hdd)) (kt_b (kt_l (k_L_472 hX hdd)) (kt_l (k_L_473 hX hdd))))))
def tb_L_12 (X : LX) (dd : Nat) (pc : Nat) : Tr := bif Nat.blt pc 486 then (bif Nat.blt pc 480 then (bif Nat.blt pc 477 then (bif Nat.blt pc 475 then (bif Nat.beq 474 pc then tr_iadd 475 else trF) else (bif Nat.blt pc 476 then (bif Nat.beq 475 pc then tr_sald X 476 else trF) else (bif Nat.beq 476 pc then tr_aload 477 0 else trF))) else (bif Nat.blt pc 478 then (bif Nat.beq 477 pc then tr_iload 478 3 else trF) else (bif Nat.blt pc 479 then (bif Nat.beq 478 pc then tr_ic 479 2 else trF) else (bif Nat.beq 479 pc then tr_iadd 480 else trF)))) else (bif Nat.blt pc 483 then (bif Nat.blt pc 481 then (bif Nat.beq 480 pc then tr_sald X 481 else trF) else (bif Nat.blt pc 482 then (bif Nat.beq 481 pc then tr_aload 482 0 else trF) else (bif Nat.beq 482 pc then tr_iload 483 3 else trF))) else (bif Nat.blt pc 484 then (bif Nat.beq 483 pc then tr_ic 484 3 else trF) else (bif Nat.blt pc 485 then (bif Nat.beq 484 pc then tr_iadd 485 else trF) else (bif Nat.beq 485 pc then tr_sald X 486 else trF))))) else (bif Nat.blt pc 494 then (bif Nat.blt pc 491 then (bif Nat.blt pc 489 then (bif Nat.beq 486 pc then tr_callB X (Call (XD X) dd mi_X11_tray) 489 12 3 else trF) else (bif Nat.blt pc 490 then (bif Nat.beq 489 pc then tr_aload 490 2 else trF) else (bif Nat.beq 490 pc then tr_aload 491 0 else trF))) else (bif Nat.blt pc 492 then (bif Nat.beq 491 pc then tr_iload 492 3 else trF) else (bif Nat.blt pc 493 then (bif Nat.beq 492 pc then tr_ic 493 1 else trF) else (bif Nat.beq 493 pc then tr_iadd 494 else trF)))) else (bif Nat.blt pc 497 then (bif Nat.blt pc 495 then (bif Nat.beq 494 pc then tr_sald X 495 else trF) else (bif Nat.blt pc 496 then (bif Nat.beq 495 pc then tr_aload 496 0 else trF) else (bif Nat.beq 496 pc then tr_iload 497 3 else trF))) else (bif Nat.blt pc 498 then (bif Nat.beq 497 pc then tr_ic 498 2 else trF) else (bif Nat.blt pc 499 then (bif Nat.beq 498 pc then tr_iadd 499 else trF) else (bif Nat.beq 499 pc then tr_sald X 500 else trF)))))
theorem k_L_474 {X : LX} {dd : Nat} (hX : LC X) (hdd : dd ≤ 2000) : TrL X 474 (tr_iadd 475) := kl_iadd hX (show decode code 474 = .ok (.iadd, 1) from by decide +kernel)
theorem k_L_475 {X : LX} {dd : Nat} (hX : LC X) (hdd : dd ≤ 2000) : TrL X 475 (tr_sald X 476) := kl_sald hX (show decode code 475 = .ok (.iaload, 1) from by decide +kernel)
theorem k_L_476 {X : LX} {dd : Nat} (hX : LC X) (hdd : dd ≤ 2000) : TrL X 476 (tr_aload 477 0) := kl_aload_n hX (show decode code 476 = .ok (.aload_n 0, 1) from by decide +kernel) rfl
theorem k_L_477 {X : LX} {dd : Nat} (hX : LC X) (hdd : dd ≤ 2000) : TrL X 477 (tr_iload 478 3) := kl_iload_n hX (show decode code 477 = .ok (.iload_n 3, 1) from by decide +kernel) rfl
theorem k_L_478 {X : LX} {dd : Nat} (hX : LC X) (hdd : dd ≤ 2000) : TrL X 478 (tr_ic 479 2) := kl_iconst hX (show decode code 478 = .ok (.iconst 2, 1) from by decide +kernel) rfl
theorem k_L_479 {X : LX} {dd : Nat} (hX : LC X) (hdd : dd ≤ 2000) : TrL X 479 (tr_iadd 480) := kl_iadd hX (show decode code 479 = .ok (.iadd, 1) from by decide +kernel)
theorem k_L_480 {X : LX} {dd : Nat} (hX : LC X) (hdd : dd ≤ 2000) : TrL X 480 (tr_sald X 481) := kl_sald hX (show decode code 480 = .ok (.iaload, 1) from by decide +kernel)
theorem k_L_481 {X : LX} {dd : Nat} (hX : LC X) (hdd : dd ≤ 2000) : TrL X 481 (tr_aload 482 0) := kl_aload_n hX (show decode code 481 = .ok (.aload_n 0, 1) from by decide +kernel) rfl
theorem k_L_482 {X : LX} {dd : Nat} (hX : LC X) (hdd : dd ≤ 2000) : TrL X 482 (tr_iload 483 3) := kl_iload_n hX (show decode code 482 = .ok (.iload_n 3, 1) from by decide +kernel) rfl
theorem k_L_483 {X : LX} {dd : Nat} (hX : LC X) (hdd : dd ≤ 2000) : TrL X 483 (tr_ic 484 3) := kl_iconst hX (show decode code 483 = .ok (.iconst 3, 1) from by decide +kernel) rfl
theorem k_L_484 {X : LX} {dd : Nat} (hX : LC X) (hdd : dd ≤ 2000) : TrL X 484 (tr_iadd 485) := kl_iadd hX (show decode code 484 = .ok (.iadd, 1) from by decide +kernel)
theorem k_L_485 {X : LX} {dd : Nat} (hX : LC X) (hdd : dd ≤ 2000) : TrL X 485 (tr_sald X 486) := kl_sald hX (show decode code 485 = .ok (.iaload, 1) from by decide +kernel)
theorem k_L_486 {X : LX} {dd : Nat} (hX : LC X) (hdd : dd ≤ 2000) : TrL X 486 (tr_callB X (Call (XD X) dd mi_X11_tray) 489 12 3) := kl_callV hX (ci := 11) hdd (show decode code 486 = .ok (.invokevirtual 53, 3) from by decide +kernel) mok_X11_tray rfl rfl (gm 513 (by decide +kernel) rfl) (gm 514 (by decide +kernel) rfl) (gm 515 (by decide +kernel) rfl)
theorem k_L_489 {X : LX} {dd : Nat} (hX : LC X) (hdd : dd ≤ 2000) : TrL X 489 (tr_aload 490 2) := kl_aload_n hX (show decode code 489 = .ok (.aload_n 2, 1) from by decide +kernel) rfl
theorem k_L_490 {X : LX} {dd : Nat} (hX : LC X) (hdd : dd ≤ 2000) : TrL X 490 (tr_aload 491 0) := kl_aload_n hX (show decode code 490 = .ok (.aload_n 0, 1) from by decide +kernel) rfl
theorem k_L_491 {X : LX} {dd : Nat} (hX : LC X) (hdd : dd ≤ 2000) : TrL X 491 (tr_iload 492 3) := kl_iload_n hX (show decode code 491 = .ok (.iload_n 3, 1) from by decide +kernel) rfl
theorem k_L_492 {X : LX} {dd : Nat} (hX : LC X) (hdd : dd ≤ 2000) : TrL X 492 (tr_ic 493 1) := kl_iconst hX (show decode code 492 = .ok (.iconst 1, 1) from by decide +kernel) rfl
theorem k_L_493 {X : LX} {dd : Nat} (hX : LC X) (hdd : dd ≤ 2000) : TrL X 493 (tr_iadd 494) := kl_iadd hX (show decode code 493 = .ok (.iadd, 1) from by decide +kernel)
theorem k_L_494 {X : LX} {dd : Nat} (hX : LC X) (hdd : dd ≤ 2000) : TrL X 494 (tr_sald X 495) := kl_sald hX (show decode code 494 = .ok (.iaload, 1) from by decide +kernel)
theorem k_L_495 {X : LX} {dd : Nat} (hX : LC X) (hdd : dd ≤ 2000) : TrL X 495 (tr_aload 496 0) := kl_aload_n hX (show decode code 495 = .ok (.aload_n 0, 1) from by decide +kernel) rfl
theorem k_L_496 {X : LX} {dd : Nat} (hX : LC X) (hdd : dd ≤ 2000) : TrL X 496 (tr_iload 497 3) := kl_iload_n hX (show decode code 496 = .ok (.iload_n 3, 1) from by decide +kernel) rfl
theorem k_L_497 {X : LX} {dd : Nat} (hX : LC X) (hdd : dd ≤ 2000) : TrL X 497 (tr_ic 498 2) := kl_iconst hX (show decode code 497 = .ok (.iconst 2, 1) from by decide +kernel) rfl
theorem k_L_498 {X : LX} {dd : Nat} (hX : LC X) (hdd : dd ≤ 2000) : TrL X 498 (tr_iadd 499) := kl_iadd hX (show decode code 498 = .ok (.iadd, 1) from by decide +kernel)
theorem k_L_499 {X : LX} {dd : Nat} (hX : LC X) (hdd : dd ≤ 2000) : TrL X 499 (tr_sald X 500) := kl_sald hX (show decode code 499 = .ok (.iaload, 1) from by decide +kernel)
theorem tbk_L_12 {X : LX} {dd : Nat} (hX : LC X) (hdd : dd ≤ 2000) (pc : Nat) : TrL X pc (tb_L_12 X dd pc) := kt_b (kt_b (kt_b (kt_b (kt_l (k_L_474 hX hdd)) (kt_b (kt_l (k_L_475 hX hdd)) (kt_l (k_L_476 hX hdd)))) (kt_b (kt_l (k_L_477 hX hdd)) (kt_b (kt_l (k_L_478 hX hdd)) (kt_l (k_L_479 hX hdd))))) (kt_b (kt_b (kt_l (k_L_480 hX hdd)) (kt_b (kt_l (k_L_481 hX hdd)) (kt_l (k_L_482 hX hdd)))) (kt_b (kt_l (k_L_483 hX hdd)) (kt_b (kt_l (k_L_484 hX hdd)) (kt_l (k_L_485 hX hdd)))))) (kt_b (kt_b (kt_b (kt_l (k_L_486 hX hdd)) (kt_b (kt_l (k_L_489 hX hdd)) (kt_l (k_L_490 hX hdd)))) (kt_b (kt_l (k_L_491 hX hdd)) (kt_b (kt_l (k_L_492 hX hdd)) (kt_l (k_L_493 hX hdd))))) (kt_b (kt_b (kt_l (k_L_494 hX hdd)) (kt_b (kt_l (k_L_495 hX hdd)) (kt_l (k_L_496 hX hdd)))) (kt_b (kt_l (k_L_497 hX hdd)) (kt_b (kt_l (k_L_498 hX hdd)) (kt_l (k_L_499 hX hdd))))))
def tb_L_13 (X : LX) (dd : Nat) (pc : Nat) : Tr := bif Nat.blt pc 516 then (bif Nat.blt pc 508 then (bif Nat.blt pc 503 then (bif Nat.blt pc 501 then (bif Nat.beq 500 pc then tr_aload 501 0 else trF) else (bif Nat.blt pc 502 then (bif Nat.beq 501 pc then tr_iload 502 3 else trF) else (bif Nat.beq 502 pc then tr_ic 503 3 else trF))) else (bif Nat.blt pc 504 then (bif Nat.beq 503 pc then tr_iadd 504 else trF) else (bif Nat.blt pc 505 then (bif Nat.beq 504 pc then tr_sald X 505 else trF) else (bif Nat.beq 505 pc then tr_callB X (Call (XD X) dd mi_X12_tray) 508 13 3 else trF)))) else (bif Nat.blt pc 513 then (bif Nat.blt pc 511 then (bif Nat.beq 508 pc then tr_iceq 511 979 else trF) else (bif Nat.blt pc 512 then (bif Nat.beq 511 pc then tr_ic 512 0 else trF) else (bif Nat.beq 512 pc then tr_zret else trF))) else (bif Nat.blt pc 514 then (bif Nat.beq 513 pc then tr_aload 514 1 else trF) else (bif Nat.blt pc 515 then (bif Nat.beq 514 pc then tr_aload 515 0 else trF) else (bif Nat.beq 515 pc then tr_iload 516 3 else trF))))) else (bif Nat.blt pc 522 then (bif Nat.blt pc 519 then (bif Nat.blt pc 517 then (bif Nat.beq 516 pc then tr_ic 517 1 else trF) else (bif Nat.blt pc 518 then (bif Nat.beq 517 pc then tr_iadd 518 else trF) else (bif Nat.beq 518 pc then tr_sald X 519 else trF))) else (bif Nat.blt pc 520 then (bif Nat.beq 519 pc then tr_aload 520 0 else trF) else (bif Nat.blt pc 521 then (bif Nat.beq 520 pc then tr_iload 521 3 else trF) else (bif Nat.beq 521 pc then tr_ic 522 2 else trF)))) else (bif Nat.blt pc 525 then (bif Nat.blt pc 523 then (bif Nat.beq 522 pc then tr_iadd 523 else trF) else (bif Nat.blt pc 524 then (bif Nat.beq 523 pc then tr_sald X 524 else trF) else (bif Nat.beq 524 pc then tr_aload 525 0 else trF))) else (bif Nat.blt pc 526 then (bif Nat.beq 525 pc then tr_iload 526 3 else trF) else (bif Nat.blt pc 527 then (bif Nat.beq 526 pc then tr_ic 527 3 else trF) else (bif Nat.beq 527 pc then tr_iadd 528 else trF)))))
theorem k_L_500 {X : LX} {dd : Nat} (hX : LC X) (hdd : dd ≤ 2000) : TrL X 500 (tr_aload 501 0) := kl_aload_n hX (show decode code 500 = .ok (.aload_n 0, 1) from by decide +kernel) rfl
theorem k_L_501 {X : LX} {dd : Nat} (hX : LC X) (hdd : dd ≤ 2000) : TrL X 501 (tr_iload 502 3) := kl_iload_n hX (show decode code 501 = .ok (.iload_n 3, 1) from by decide +kernel) rfl
theorem k_L_502 {X : LX} {dd : Nat} (hX : LC X) (hdd : dd ≤ 2000) : TrL X 502 (tr_ic 503 3) := kl_iconst hX (show decode code 502 = .ok (.iconst 3, 1) from by decide +kernel) rfl
theorem k_L_503 {X : LX} {dd : Nat} (hX : LC X) (hdd : dd ≤ 2000) : TrL X 503 (tr_iadd 504) := kl_iadd hX (show decode code 503 = .ok (.iadd, 1) from by decide +kernel)
theorem k_L_504 {X : LX} {dd : Nat} (hX : LC X) (hdd : dd ≤ 2000) : TrL X 504 (tr_sald X 505) := kl_sald hX (show decode code 504 = .ok (.iaload, 1) from by decide +kernel)
theorem k_L_505 {X : LX} {dd : Nat} (hX : LC X) (hdd : dd ≤ 2000) : TrL X 505 (tr_callB X (Call (XD X) dd mi_X12_tray) 508 13 3) := kl_callV hX (ci := 12) hdd (show decode code 505 = .ok (.invokevirtual 56, 3) from by decide +kernel) mok_X12_tray rfl rfl (gm 975 (by decide +kernel) rfl) (gm 976 (by decide +kernel) rfl) (gm 977 (by decide +kernel) rfl)
theorem k_L_508 {X : LX} {dd : Nat} (hX : LC X) (hdd : dd ≤ 2000) : TrL X 508 (tr_iceq 511 979) := kl_iceq hX (show decode code 508 = .ok (.if_icmp .eq 471, 3) from by decide +kernel) (by decide)
theorem k_L_511 {X : LX} {dd : Nat} (hX : LC X) (hdd : dd ≤ 2000) : TrL X 511 (tr_ic 512 0) := kl_iconst hX (show decode code 511 = .ok (.iconst 0, 1) from by decide +kernel) rfl
theorem k_L_512 {X : LX} {dd : Nat} (hX : LC X) (hdd : dd ≤ 2000) : TrL X 512 (tr_zret) := kl_zret hX (show decode code 512 = .ok (.ireturn, 1) from by decide +kernel)
theorem k_L_513 {X : LX} {dd : Nat} (hX : LC X) (hdd : dd ≤ 2000) : TrL X 513 (tr_aload 514 1) := kl_aload_n hX (show decode code 513 = .ok (.aload_n 1, 1) from by decide +kernel) rfl
theorem k_L_514 {X : LX} {dd : Nat} (hX : LC X) (hdd : dd ≤ 2000) : TrL X 514 (tr_aload 515 0) := kl_aload_n hX (show decode code 514 = .ok (.aload_n 0, 1) from by decide +kernel) rfl
theorem k_L_515 {X : LX} {dd : Nat} (hX : LC X) (hdd : dd ≤ 2000) : TrL X 515 (tr_iload 516 3) := kl_iload_n hX (show decode code 515 = .ok (.iload_n 3, 1) from by decide +kernel) rfl
theorem k_L_516 {X : LX} {dd : Nat} (hX : LC X) (hdd : dd ≤ 2000) : TrL X 516 (tr_ic 517 1) := kl_iconst hX (show decode code 516 = .ok (.iconst 1, 1) from by decide +kernel) rfl
theorem k_L_517 {X : LX} {dd : Nat} (hX : LC X) (hdd : dd ≤ 2000) : TrL X 517 (tr_iadd 518) := kl_iadd hX (show decode code 517 = .ok (.iadd, 1) from by decide +kernel)
theorem k_L_518 {X : LX} {dd : Nat} (hX : LC X) (hdd : dd ≤ 2000) : TrL X 518 (tr_sald X 519) := kl_sald hX (show decode code 518 = .ok (.iaload, 1) from by decide +kernel)
theorem k_L_519 {X : LX} {dd : Nat} (hX : LC X) (hdd : dd ≤ 2000) : TrL X 519 (tr_aload 520 0) := kl_aload_n hX (show decode code 519 = .ok (.aload_n 0, 1) from by decide +kernel) rfl
theorem k_L_520 {X : LX} {dd : Nat} (hX : LC X) (hdd : dd ≤ 2000) : TrL X 520 (tr_iload 521 3) := kl_iload_n hX (show decode code 520 = .ok (.iload_n 3, 1) from by decide +kernel) rfl
theorem k_L_521 {X : LX} {dd : Nat} (hX : LC X) (hdd : dd ≤ 2000) : TrL X 521 (tr_ic 522 2) := kl_iconst hX (show decode code 521 = .ok (.iconst 2, 1) from by decide +kernel) rfl
theorem k_L_522 {X : LX} {dd : Nat} (hX : LC X) (hdd : dd ≤ 2000) : TrL X 522 (tr_iadd 523) := kl_iadd hX (show decode code 522 = .ok (.iadd, 1) from by decide +kernel)
theorem k_L_523 {X : LX} {dd : Nat} (hX : LC X) (hdd : dd ≤ 2000) : TrL X 523 (tr_sald X 524) := kl_sald hX (show decode code 523 = .ok (.iaload, 1) from by decide +kernel)
theorem k_L_524 {X : LX} {dd : Nat} (hX : LC X) (hdd : dd ≤ 2000) : TrL X 524 (tr_aload 525 0) := kl_aload_n hX (show decode code 524 = .ok (.aload_n 0, 1) from by decide +kernel) rfl
theorem k_L_525 {X : LX} {dd : Nat} (hX : LC X) (hdd : dd ≤ 2000) : TrL X 525 (tr_iload 526 3) := kl_iload_n hX (show decode code 525 = .ok (.iload_n 3, 1) from by decide +kernel) rfl
theorem k_L_526 {X : LX} {dd : Nat} (hX : LC X) (hdd : dd ≤ 2000) : TrL X 526 (tr_ic 527 3) := kl_iconst hX (show decode code 526 = .ok (.iconst 3, 1) from by decide +kernel) rfl
theorem k_L_527 {X : LX} {dd : Nat} (hX : LC X) (hdd : dd ≤ 2000) : TrL X 527 (tr_iadd 528) := kl_iadd hX (show decode code 527 = .ok (.iadd, 1) from by decide +kernel)
theorem tbk_L_13 {X : LX} {dd : Nat} (hX : LC X) (hdd : dd ≤ 2000) (pc : Nat) : TrL X pc (tb_L_13 X dd pc) := kt_b (kt_b (kt_b (kt_b (kt_l (k_L_500 hX hdd)) (kt_b (kt_l (k_L_501 hX hdd)) (kt_l (k_L_502 hX hdd)))) (kt_b (kt_l (k_L_503 hX hdd)) (kt_b (kt_l (k_L_504 hX hdd)) (kt_l (k_L_505 hX hdd))))) (kt_b (kt_b (kt_l (k_L_508 hX hdd)) (kt_b (kt_l (k_L_511 hX hdd)) (kt_l (k_L_512 hX hdd)))) (kt_b (kt_l (k_L_513 hX hdd)) (kt_b (kt_l (k_L_514 hX hdd)) (kt_l (k_L_515 hX hdd)))))) (kt_b (kt_b (kt_b (kt_l (k_L_516 hX hdd)) (kt_b (kt_l (k_L_517 hX hdd)) (kt_l (k_L_518 hX hdd)))) (kt_b (kt_l (k_L_519 hX hdd)) (kt_b (kt_l (k_L_520 hX hdd)) (kt_l (k_L_521 hX hdd))))) (kt_b (kt_b (kt_l (k_L_522 hX hdd)) (kt_b (kt_l (k_L_523 hX hdd)) (kt_l (k_L_524 hX hdd)))) (kt_b (kt_l (k_L_525 hX hdd)) (kt_b (kt_l (k_L_526 hX hdd)) (kt_l (k_L_527 hX hdd))))))
def tb_L_14 (X : LX) (dd : Nat) (pc : Nat) : Tr := bif Nat.blt pc 543 then (bif Nat.blt pc 535 then (bif Nat.blt pc 532 then (bif Nat.blt pc 529 then (bif Nat.beq 528 pc then tr_sald X 529 else trF) else (bif Nat.blt pc 530 then (bif Nat.beq 529 pc then tr_i2l 530 else trF) else (bif Nat.beq 530 pc then tr_ic 532 32 else trF))) else (bif Nat.blt pc 533 then (bif Nat.beq 532 pc then tr_lshl 533 else trF) else (bif Nat.blt pc 534 then (bif Nat.beq 533 pc then tr_aload 534 0 else trF) else (bif Nat.beq 534 pc then tr_iload 535 3 else trF)))) else (bif Nat.blt pc 538 then (bif Nat.blt pc 536 then (bif Nat.beq 535 pc then tr_ic 536 4 else trF) else (bif Nat.blt pc 537 then (bif Nat.beq 536 pc then tr_iadd 537 else trF) else (bif Nat.beq 537 pc then tr_sald X 538 else trF))) else (bif Nat.blt pc 539 then (bif Nat.beq 538 pc then tr_i2l 539 else trF) else (bif Nat.blt pc 542 then (bif Nat.beq 539 pc then tr_lc 542 4294967295 else trF) else (bif Nat.beq 542 pc then tr_land 543 else trF))))) else (bif Nat.blt pc 551 then (bif Nat.blt pc 548 then (bif Nat.blt pc 544 then (bif Nat.beq 543 pc then tr_lor 544 else trF) else (bif Nat.blt pc 547 then (bif Nat.beq 544 pc then tr_callB X (Call (XD X) dd mi_X11_lay) 547 12 3 else trF) else (bif Nat.beq 547 pc then tr_aload 548 2 else trF))) else (bif Nat.blt pc 549 then (bif Nat.beq 548 pc then tr_aload 549 0 else trF) else (bif Nat.blt pc 550 then (bif Nat.beq 549 pc then tr_iload 550 3 else trF) else (bif Nat.beq 550 pc then tr_ic 551 1 else trF)))) else (bif Nat.blt pc 554 then (bif Nat.blt pc 552 then (bif Nat.beq 551 pc then tr_iadd 552 else trF) else (bif Nat.blt pc 553 then (bif Nat.beq 552 pc then tr_sald X 553 else trF) else (bif Nat.beq 553 pc then tr_aload 554 0 else trF))) else (bif Nat.blt pc 555 then (bif Nat.beq 554 pc then tr_iload 555 3 else trF) else (bif Nat.blt pc 556 then (bif Nat.beq 555 pc then tr_ic 556 2 else trF) else (bif Nat.beq 556 pc then tr_iadd 557 else trF)))))
theorem k_L_528 {X : LX} {dd : Nat} (hX : LC X) (hdd : dd ≤ 2000) : TrL X 528 (tr_sald X 529) := kl_sald hX (show decode code 528 = .ok (.iaload, 1) from by decide +kernel)
theorem k_L_529 {X : LX} {dd : Nat} (hX : LC X) (hdd : dd ≤ 2000) : TrL X 529 (tr_i2l 530) := kl_i2l hX (show decode code 529 = .ok (.i2l, 1) from by decide +kernel)
theorem k_L_530 {X : LX} {dd : Nat} (hX : LC X) (hdd : dd ≤ 2000) : TrL X 530 (tr_ic 532 32) := kl_bipush hX (show decode code 530 = .ok (.bipush 32, 2) from by decide +kernel) rfl
theorem k_L_532 {X : LX} {dd : Nat} (hX : LC X) (hdd : dd ≤ 2000) : TrL X 532 (tr_lshl 533) := kl_lshl hX (show decode code 532 = .ok (.lshl, 1) from by decide +kernel)
theorem k_L_533 {X : LX} {dd : Nat} (hX : LC X) (hdd : dd ≤ 2000) : TrL X 533 (tr_aload 534 0) := kl_aload_n hX (show decode code 533 = .ok (.aload_n 0, 1) from by decide +kernel) rfl
theorem k_L_534 {X : LX} {dd : Nat} (hX : LC X) (hdd : dd ≤ 2000) : TrL X 534 (tr_iload 535 3) := kl_iload_n hX (show decode code 534 = .ok (.iload_n 3, 1) from by decide +kernel) rfl
theorem k_L_535 {X : LX} {dd : Nat} (hX : LC X) (hdd : dd ≤ 2000) : TrL X 535 (tr_ic 536 4) := kl_iconst hX (show decode code 535 = .ok (.iconst 4, 1) from by decide +kernel) rfl
theorem k_L_536 {X : LX} {dd : Nat} (hX : LC X) (hdd : dd ≤ 2000) : TrL X 536 (tr_iadd 537) := kl_iadd hX (show decode code 536 = .ok (.iadd, 1) from by decide +kernel)
theorem k_L_537 {X : LX} {dd : Nat} (hX : LC X) (hdd : dd ≤ 2000) : TrL X 537 (tr_sald X 538) := kl_sald hX (show decode code 537 = .ok (.iaload, 1) from by decide +kernel)
theorem k_L_538 {X : LX} {dd : Nat} (hX : LC X) (hdd : dd ≤ 2000) : TrL X 538 (tr_i2l 539) := kl_i2l hX (show decode code 538 = .ok (.i2l, 1) from by decide +kernel)
theorem k_L_539 {X : LX} {dd : Nat} (hX : LC X) (hdd : dd ≤ 2000) : TrL X 539 (tr_lc 542 4294967295) := kl_ldc2 hX (show decode code 539 = .ok (.ldc2_w 32, 3) from by decide +kernel) (gm 1095 (by decide +kernel) rfl)
theorem k_L_542 {X : LX} {dd : Nat} (hX : LC X) (hdd : dd ≤ 2000) : TrL X 542 (tr_land 543) := kl_land hX (show decode code 542 = .ok (.land, 1) from by decide +kernel)
theorem k_L_543 {X : LX} {dd : Nat} (hX : LC X) (hdd : dd ≤ 2000) : TrL X 543 (tr_lor 544) := kl_lor hX (show decode code 543 = .ok (.lor, 1) from by decide +kernel)
theorem k_L_544 {X : LX} {dd : Nat} (hX : LC X) (hdd : dd ≤ 2000) : TrL X 544 (tr_callB X (Call (XD X) dd mi_X11_lay) 547 12 3) := kl_callV hX (ci := 11) hdd (show decode code 544 = .ok (.invokevirtual 57, 3) from by decide +kernel) mok_X11_lay rfl rfl (gm 524 (by decide +kernel) rfl) (gm 525 (by decide +kernel) rfl) (gm 526 (by decide +kernel) rfl)
theorem k_L_547 {X : LX} {dd : Nat} (hX : LC X) (hdd : dd ≤ 2000) : TrL X 547 (tr_aload 548 2) := kl_aload_n hX (show decode code 547 = .ok (.aload_n 2, 1) from by decide +kernel) rfl
theorem k_L_548 {X : LX} {dd : Nat} (hX : LC X) (hdd : dd ≤ 2000) : TrL X 548 (tr_aload 549 0) := kl_aload_n hX (show decode code 548 = .ok (.aload_n 0, 1) from by decide +kernel) rfl
theorem k_L_549 {X : LX} {dd : Nat} (hX : LC X) (hdd : dd ≤ 2000) : TrL X 549 (tr_iload 550 3) := kl_iload_n hX (show decode code 549 = .ok (.iload_n 3, 1) from by decide +kernel) rfl
theorem k_L_550 {X : LX} {dd : Nat} (hX : LC X) (hdd : dd ≤ 2000) : TrL X 550 (tr_ic 551 1) := kl_iconst hX (show decode code 550 = .ok (.iconst 1, 1) from by decide +kernel) rfl
theorem k_L_551 {X : LX} {dd : Nat} (hX : LC X) (hdd : dd ≤ 2000) : TrL X 551 (tr_iadd 552) := kl_iadd hX (show decode code 551 = .ok (.iadd, 1) from by decide +kernel)
theorem k_L_552 {X : LX} {dd : Nat} (hX : LC X) (hdd : dd ≤ 2000) : TrL X 552 (tr_sald X 553) := kl_sald hX (show decode code 552 = .ok (.iaload, 1) from by decide +kernel)
theorem k_L_553 {X : LX} {dd : Nat} (hX : LC X) (hdd : dd ≤ 2000) : TrL X 553 (tr_aload 554 0) := kl_aload_n hX (show decode code 553 = .ok (.aload_n 0, 1) from by decide +kernel) rfl
theorem k_L_554 {X : LX} {dd : Nat} (hX : LC X) (hdd : dd ≤ 2000) : TrL X 554 (tr_iload 555 3) := kl_iload_n hX (show decode code 554 = .ok (.iload_n 3, 1) from by decide +kernel) rfl
theorem k_L_555 {X : LX} {dd : Nat} (hX : LC X) (hdd : dd ≤ 2000) : TrL X 555 (tr_ic 556 2) := kl_iconst hX (show decode code 555 = .ok (.iconst 2, 1) from by decide +kernel) rfl
theorem k_L_556 {X : LX} {dd : Nat} (hX : LC X) (hdd : dd ≤ 2000) : TrL X 556 (tr_iadd 557) := kl_iadd hX (show decode code 556 = .ok (.iadd, 1) from by decide +kernel)
theorem tbk_L_14 {X : LX} {dd : Nat} (hX : LC X) (hdd : dd ≤ 2000) (pc : Nat) : TrL X pc (tb_L_14 X dd pc) := kt_b (kt_b (kt_b (kt_b (kt_l (k_L_528 hX hdd)) (kt_b (kt_l (k_L_529 hX hdd)) (kt_l (k_L_530 hX hdd)))) (kt_b (kt_l (k_L_532 hX hdd)) (kt_b (kt_l (k_L_533 hX hdd)) (kt_l (k_L_534 hX hdd))))) (kt_b (kt_b (kt_l (k_L_535 hX hdd)) (kt_b (kt_l (k_L_536 hX hdd)) (kt_l (k_L_537 hX hdd)))) (kt_b (kt_l (k_L_538 hX hdd)) (kt_b (kt_l (k_L_539 hX hdd)) (kt_l (k_L_542 hX hdd)))))) (kt_b (kt_b (kt_b (kt_l (k_L_543 hX hdd)) (kt_b (kt_l (k_L_544 hX hdd)) (kt_l (k_L_547 hX hdd)))) (kt_b (kt_l (k_L_548 hX hdd)) (kt_b (kt_l (k_L_549 hX hdd)) (kt_l (k_L_550 hX hdd))))) (kt_b (kt_b (kt_l (k_L_551 hX hdd)) (kt_b (kt_l (k_L_552 hX hdd)) (kt_l (k_L_553 hX hdd)))) (kt_b (kt_l (k_L_554 hX hdd)) (kt_b (kt_l (k_L_555 hX hdd)) (kt_l (k_L_556 hX hdd))))))
def tb_L_15 (X : LX) (dd : Nat) (pc : Nat) : Tr := bif Nat.blt pc 570 then (bif Nat.blt pc 563 then (bif Nat.blt pc 560 then (bif Nat.blt pc 558 then (bif Nat.beq 557 pc then tr_sald X 558 else trF) else (bif Nat.blt pc 559 then (bif Nat.beq 558 pc then tr_aload 559 0 else trF) else (bif Nat.beq 559 pc then tr_iload 560 3 else trF))) else (bif Nat.blt pc 561 then (bif Nat.beq 560 pc then tr_ic 561 3 else trF) else (bif Nat.blt pc 562 then (bif Nat.beq 561 pc then tr_iadd 562 else trF) else (bif Nat.beq 562 pc then tr_sald X 563 else trF)))) else (bif Nat.blt pc 567 then (bif Nat.blt pc 564 then (bif Nat.beq 563 pc then tr_i2l 564 else trF) else (bif Nat.blt pc 566 then (bif Nat.beq 564 pc then tr_ic 566 32 else trF) else (bif Nat.beq 566 pc then tr_lshl 567 else trF))) else (bif Nat.blt pc 568 then (bif Nat.beq 567 pc then tr_aload 568 0 else trF) else (bif Nat.blt pc 569 then (bif Nat.beq 568 pc then tr_iload 569 3 else trF) else (bif Nat.beq 569 pc then tr_ic 570 4 else trF))))) else (bif Nat.blt pc 578 then (bif Nat.blt pc 573 then (bif Nat.blt pc 571 then (bif Nat.beq 570 pc then tr_iadd 571 else trF) else (bif Nat.blt pc 572 then (bif Nat.beq 571 pc then tr_sald X 572 else trF) else (bif Nat.beq 572 pc then tr_i2l 573 else trF))) else (bif Nat.blt pc 576 then (bif Nat.beq 573 pc then tr_lc 576 4294967295 else trF) else (bif Nat.blt pc 577 then (bif Nat.beq 576 pc then tr_land 577 else trF) else (bif Nat.beq 577 pc then tr_lor 578 else trF)))) else (bif Nat.blt pc 585 then (bif Nat.blt pc 581 then (bif Nat.beq 578 pc then tr_callB X (Call (XD X) dd mi_X12_lay) 581 13 3 else trF) else (bif Nat.blt pc 584 then (bif Nat.beq 581 pc then tr_iceq 584 979 else trF) else (bif Nat.beq 584 pc then tr_ic 585 0 else trF))) else (bif Nat.blt pc 586 then (bif Nat.beq 585 pc then tr_zret else trF) else (bif Nat.blt pc 587 then (bif Nat.beq 586 pc then tr_aload 587 1 else trF) else (bif Nat.beq 587 pc then tr_aload 588 0 else trF)))))
theorem k_L_557 {X : LX} {dd : Nat} (hX : LC X) (hdd : dd ≤ 2000) : TrL X 557 (tr_sald X 558) := kl_sald hX (show decode code 557 = .ok (.iaload, 1) from by decide +kernel)
theorem k_L_558 {X : LX} {dd : Nat} (hX : LC X) (hdd : dd ≤ 2000) : TrL X 558 (tr_aload 559 0) := kl_aload_n hX (show decode code 558 = .ok (.aload_n 0, 1) from by decide +kernel) rfl
theorem k_L_559 {X : LX} {dd : Nat} (hX : LC X) (hdd : dd ≤ 2000) : TrL X 559 (tr_iload 560 3) := kl_iload_n hX (show decode code 559 = .ok (.iload_n 3, 1) from by decide +kernel) rfl
theorem k_L_560 {X : LX} {dd : Nat} (hX : LC X) (hdd : dd ≤ 2000) : TrL X 560 (tr_ic 561 3) := kl_iconst hX (show decode code 560 = .ok (.iconst 3, 1) from by decide +kernel) rfl
theorem k_L_561 {X : LX} {dd : Nat} (hX : LC X) (hdd : dd ≤ 2000) : TrL X 561 (tr_iadd 562) := kl_iadd hX (show decode code 561 = .ok (.iadd, 1) from by decide +kernel)
theorem k_L_562 {X : LX} {dd : Nat} (hX : LC X) (hdd : dd ≤ 2000) : TrL X 562 (tr_sald X 563) := kl_sald hX (show decode code 562 = .ok (.iaload, 1) from by decide +kernel)
theorem k_L_563 {X : LX} {dd : Nat} (hX : LC X) (hdd : dd ≤ 2000) : TrL X 563 (tr_i2l 564) := kl_i2l hX (show decode code 563 = .ok (.i2l, 1) from by decide +kernel)
theorem k_L_564 {X : LX} {dd : Nat} (hX : LC X) (hdd : dd ≤ 2000) : TrL X 564 (tr_ic 566 32) := kl_bipush hX (show decode code 564 = .ok (.bipush 32, 2) from by decide +kernel) rfl
theorem k_L_566 {X : LX} {dd : Nat} (hX : LC X) (hdd : dd ≤ 2000) : TrL X 566 (tr_lshl 567) := kl_lshl hX (show decode code 566 = .ok (.lshl, 1) from by decide +kernel)
theorem k_L_567 {X : LX} {dd : Nat} (hX : LC X) (hdd : dd ≤ 2000) : TrL X 567 (tr_aload 568 0) := kl_aload_n hX (show decode code 567 = .ok (.aload_n 0, 1) from by decide +kernel) rfl
theorem k_L_568 {X : LX} {dd : Nat} (hX : LC X) (hdd : dd ≤ 2000) : TrL X 568 (tr_iload 569 3) := kl_iload_n hX (show decode code 568 = .ok (.iload_n 3, 1) from by decide +kernel) rfl
theorem k_L_569 {X : LX} {dd : Nat} (hX : LC X) (hdd : dd ≤ 2000) : TrL X 569 (tr_ic 570 4) := kl_iconst hX (show decode code 569 = .ok (.iconst 4, 1) from by decide +kernel) rfl
theorem k_L_570 {X : LX} {dd : Nat} (hX : LC X) (hdd : dd ≤ 2000) : TrL X 570 (tr_iadd 571) := kl_iadd hX (show decode code 570 = .ok (.iadd, 1) from by decide +kernel)
theorem k_L_571 {X : LX} {dd : Nat} (hX : LC X) (hdd : dd ≤ 2000) : TrL X 571 (tr_sald X 572) := kl_sald hX (show decode code 571 = .ok (.iaload, 1) from by decide +kernel)
theorem k_L_572 {X : LX} {dd : Nat} (hX : LC X) (hdd : dd ≤ 2000) : TrL X 572 (tr_i2l 573) := kl_i2l hX (show decode code 572 = .ok (.i2l, 1) from by decide +kernel)
theorem k_L_573 {X : LX} {dd : Nat} (hX : LC X) (hdd : dd ≤ 2000) : TrL X 573 (tr_lc 576 4294967295) := kl_ldc2 hX (show decode code 573 = .ok (.ldc2_w 32, 3) from by decide +kernel) (gm 1095 (by decide +kernel) rfl)
theorem k_L_576 {X : LX} {dd : Nat} (hX : LC X) (hdd : dd ≤ 2000) : TrL X 576 (tr_land 577) := kl_land hX (show decode code 576 = .ok (.land, 1) from by decide +kernel)
theorem k_L_577 {X : LX} {dd : Nat} (hX : LC X) (hdd : dd ≤ 2000) : TrL X 577 (tr_lor 578) := kl_lor hX (show decode code 577 = .ok (.lor, 1) from by decide +kernel)
theorem k_L_578 {X : LX} {dd : Nat} (hX : LC X) (hdd : dd ≤ 2000) : TrL X 578 (tr_callB X (Call (XD X) dd mi_X12_lay) 581 13 3) := kl_callV hX (ci := 12) hdd (show decode code 578 = .ok (.invokevirtual 61, 3) from by decide +kernel) mok_X12_lay rfl rfl (gm 984 (by decide +kernel) rfl) (gm 985 (by decide +kernel) rfl) (gm 986 (by decide +kernel) rfl)
theorem k_L_581 {X : LX} {dd : Nat} (hX : LC X) (hdd : dd ≤ 2000) : TrL X 581 (tr_iceq 584 979) := kl_iceq hX (show decode code 581 = .ok (.if_icmp .eq 398, 3) from by decide +kernel) (by decide)
theorem k_L_584 {X : LX} {dd : Nat} (hX : LC X) (hdd : dd ≤ 2000) : TrL X 584 (tr_ic 585 0) := kl_iconst hX (show decode code 584 = .ok (.iconst 0, 1) from by decide +kernel) rfl
theorem k_L_585 {X : LX} {dd : Nat} (hX : LC X) (hdd : dd ≤ 2000) : TrL X 585 (tr_zret) := kl_zret hX (show decode code 585 = .ok (.ireturn, 1) from by decide +kernel)
theorem k_L_586 {X : LX} {dd : Nat} (hX : LC X) (hdd : dd ≤ 2000) : TrL X 586 (tr_aload 587 1) := kl_aload_n hX (show decode code 586 = .ok (.aload_n 1, 1) from by decide +kernel) rfl
theorem k_L_587 {X : LX} {dd : Nat} (hX : LC X) (hdd : dd ≤ 2000) : TrL X 587 (tr_aload 588 0) := kl_aload_n hX (show decode code 587 = .ok (.aload_n 0, 1) from by decide +kernel) rfl
theorem tbk_L_15 {X : LX} {dd : Nat} (hX : LC X) (hdd : dd ≤ 2000) (pc : Nat) : TrL X pc (tb_L_15 X dd pc) := kt_b (kt_b (kt_b (kt_b (kt_l (k_L_557 hX hdd)) (kt_b (kt_l (k_L_558 hX hdd)) (kt_l (k_L_559 hX hdd)))) (kt_b (kt_l (k_L_560 hX hdd)) (kt_b (kt_l (k_L_561 hX hdd)) (kt_l (k_L_562 hX hdd))))) (kt_b (kt_b (kt_l (k_L_563 hX hdd)) (kt_b (kt_l (k_L_564 hX hdd)) (kt_l (k_L_566 hX hdd)))) (kt_b (kt_l (k_L_567 hX hdd)) (kt_b (kt_l (k_L_568 hX hdd)) (kt_l (k_L_569 hX hdd)))))) (kt_b (kt_b (kt_b (kt_l (k_L_570 hX hdd)) (kt_b (kt_l (k_L_571 hX hdd)) (kt_l (k_L_572 hX hdd)))) (kt_b (kt_l (k_L_573 hX hdd)) (kt_b (kt_l (k_L_576 hX hdd)) (kt_l (k_L_577 hX hdd))))) (kt_b (kt_b (kt_l (k_L_578 hX hdd)) (kt_b (kt_l (k_L_581 hX hdd)) (kt_l (k_L_584 hX hdd)))) (kt_b (kt_l (k_L_585 hX hdd)) (kt_b (kt_l (k_L_586 hX hdd)) (kt_l (k_L_587 hX hdd))))))
def tb_L_16 (X : LX) (dd : Nat) (pc : Nat) : Tr := bif Nat.blt pc 602 then (bif Nat.blt pc 594 then (bif Nat.blt pc 591 then (bif Nat.blt pc 589 then (bif Nat.beq 588 pc then tr_iload 589 3 else trF) else (bif Nat.blt pc 590 then (bif Nat.beq 589 pc then tr_ic 590 1 else trF) else (bif Nat.beq 590 pc then tr_iadd 591 else trF))) else (bif Nat.blt pc 592 then (bif Nat.beq 591 pc then tr_sald X 592 else trF) else (bif Nat.blt pc 593 then (bif Nat.beq 592 pc then tr_aload 593 0 else trF) else (bif Nat.beq 593 pc then tr_iload 594 3 else trF)))) else (bif Nat.blt pc 597 then (bif Nat.blt pc 595 then (bif Nat.beq 594 pc then tr_ic 595 2 else trF) else (bif Nat.blt pc 596 then (bif Nat.beq 595 pc then tr_iadd 596 else trF) else (bif Nat.beq 596 pc then tr_sald X 597 else trF))) else (bif Nat.blt pc 600 then (bif Nat.beq 597 pc then tr_callB X (Call (XD X) dd mi_X11_cell) 600 12 2 else trF) else (bif Nat.blt pc 601 then (bif Nat.beq 600 pc then tr_aload 601 2 else trF) else (bif Nat.beq 601 pc then tr_aload 602 0 else trF))))) else (bif Nat.blt pc 608 then (bif Nat.blt pc 605 then (bif Nat.blt pc 603 then (bif Nat.beq 602 pc then tr_iload 603 3 else trF) else (bif Nat.blt pc 604 then (bif Nat.beq 603 pc then tr_ic 604 1 else trF) else (bif Nat.beq 604 pc then tr_iadd 605 else trF))) else (bif Nat.blt pc 606 then (bif Nat.beq 605 pc then tr_sald X 606 else trF) else (bif Nat.blt pc 607 then (bif Nat.beq 606 pc then tr_aload 607 0 else trF) else (bif Nat.beq 607 pc then tr_iload 608 3 else trF)))) else (bif Nat.blt pc 611 then (bif Nat.blt pc 609 then (bif Nat.beq 608 pc then tr_ic 609 2 else trF) else (bif Nat.blt pc 610 then (bif Nat.beq 609 pc then tr_iadd 610 else trF) else (bif Nat.beq 610 pc then tr_sald X 611 else trF))) else (bif Nat.blt pc 614 then (bif Nat.beq 611 pc then tr_callB X (Call (XD X) dd mi_X12_cell) 614 13 2 else trF) else (bif Nat.blt pc 615 then (bif Nat.beq 614 pc then tr_lcmp 615 else trF) else (bif Nat.beq 615 pc then tr_ifeq 618 979 else trF)))))
theorem k_L_588 {X : LX} {dd : Nat} (hX : LC X) (hdd : dd ≤ 2000) : TrL X 588 (tr_iload 589 3) := kl_iload_n hX (show decode code 588 = .ok (.iload_n 3, 1) from by decide +kernel) rfl
theorem k_L_589 {X : LX} {dd : Nat} (hX : LC X) (hdd : dd ≤ 2000) : TrL X 589 (tr_ic 590 1) := kl_iconst hX (show decode code 589 = .ok (.iconst 1, 1) from by decide +kernel) rfl
theorem k_L_590 {X : LX} {dd : Nat} (hX : LC X) (hdd : dd ≤ 2000) : TrL X 590 (tr_iadd 591) := kl_iadd hX (show decode code 590 = .ok (.iadd, 1) from by decide +kernel)
theorem k_L_591 {X : LX} {dd : Nat} (hX : LC X) (hdd : dd ≤ 2000) : TrL X 591 (tr_sald X 592) := kl_sald hX (show decode code 591 = .ok (.iaload, 1) from by decide +kernel)
theorem k_L_592 {X : LX} {dd : Nat} (hX : LC X) (hdd : dd ≤ 2000) : TrL X 592 (tr_aload 593 0) := kl_aload_n hX (show decode code 592 = .ok (.aload_n 0, 1) from by decide +kernel) rfl
theorem k_L_593 {X : LX} {dd : Nat} (hX : LC X) (hdd : dd ≤ 2000) : TrL X 593 (tr_iload 594 3) := kl_iload_n hX (show decode code 593 = .ok (.iload_n 3, 1) from by decide +kernel) rfl
theorem k_L_594 {X : LX} {dd : Nat} (hX : LC X) (hdd : dd ≤ 2000) : TrL X 594 (tr_ic 595 2) := kl_iconst hX (show decode code 594 = .ok (.iconst 2, 1) from by decide +kernel) rfl
theorem k_L_595 {X : LX} {dd : Nat} (hX : LC X) (hdd : dd ≤ 2000) : TrL X 595 (tr_iadd 596) := kl_iadd hX (show decode code 595 = .ok (.iadd, 1) from by decide +kernel)
theorem k_L_596 {X : LX} {dd : Nat} (hX : LC X) (hdd : dd ≤ 2000) : TrL X 596 (tr_sald X 597) := kl_sald hX (show decode code 596 = .ok (.iaload, 1) from by decide +kernel)
theorem k_L_597 {X : LX} {dd : Nat} (hX : LC X) (hdd : dd ≤ 2000) : TrL X 597 (tr_callB X (Call (XD X) dd mi_X11_cell) 600 12 2) := kl_callV hX (ci := 11) hdd (show decode code 597 = .ok (.invokevirtual 62, 3) from by decide +kernel) mok_X11_cell rfl rfl (gm 537 (by decide +kernel) rfl) (gm 538 (by decide +kernel) rfl) (gm 539 (by decide +kernel) rfl)
theorem k_L_600 {X : LX} {dd : Nat} (hX : LC X) (hdd : dd ≤ 2000) : TrL X 600 (tr_aload 601 2) := kl_aload_n hX (show decode code 600 = .ok (.aload_n 2, 1) from by decide +kernel) rfl
theorem k_L_601 {X : LX} {dd : Nat} (hX : LC X) (hdd : dd ≤ 2000) : TrL X 601 (tr_aload 602 0) := kl_aload_n hX (show decode code 601 = .ok (.aload_n 0, 1) from by decide +kernel) rfl
theorem k_L_602 {X : LX} {dd : Nat} (hX : LC X) (hdd : dd ≤ 2000) : TrL X 602 (tr_iload 603 3) := kl_iload_n hX (show decode code 602 = .ok (.iload_n 3, 1) from by decide +kernel) rfl
theorem k_L_603 {X : LX} {dd : Nat} (hX : LC X) (hdd : dd ≤ 2000) : TrL X 603 (tr_ic 604 1) := kl_iconst hX (show decode code 603 = .ok (.iconst 1, 1) from by decide +kernel) rfl
theorem k_L_604 {X : LX} {dd : Nat} (hX : LC X) (hdd : dd ≤ 2000) : TrL X 604 (tr_iadd 605) := kl_iadd hX (show decode code 604 = .ok (.iadd, 1) from by decide +kernel)
theorem k_L_605 {X : LX} {dd : Nat} (hX : LC X) (hdd : dd ≤ 2000) : TrL X 605 (tr_sald X 606) := kl_sald hX (show decode code 605 = .ok (.iaload, 1) from by decide +kernel)
theorem k_L_606 {X : LX} {dd : Nat} (hX : LC X) (hdd : dd ≤ 2000) : TrL X 606 (tr_aload 607 0) := kl_aload_n hX (show decode code 606 = .ok (.aload_n 0, 1) from by decide +kernel) rfl
theorem k_L_607 {X : LX} {dd : Nat} (hX : LC X) (hdd : dd ≤ 2000) : TrL X 607 (tr_iload 608 3) := kl_iload_n hX (show decode code 607 = .ok (.iload_n 3, 1) from by decide +kernel) rfl
theorem k_L_608 {X : LX} {dd : Nat} (hX : LC X) (hdd : dd ≤ 2000) : TrL X 608 (tr_ic 609 2) := kl_iconst hX (show decode code 608 = .ok (.iconst 2, 1) from by decide +kernel) rfl
theorem k_L_609 {X : LX} {dd : Nat} (hX : LC X) (hdd : dd ≤ 2000) : TrL X 609 (tr_iadd 610) := kl_iadd hX (show decode code 609 = .ok (.iadd, 1) from by decide +kernel)
theorem k_L_610 {X : LX} {dd : Nat} (hX : LC X) (hdd : dd ≤ 2000) : TrL X 610 (tr_sald X 611) := kl_sald hX (show decode code 610 = .ok (.iaload, 1) from by decide +kernel)
theorem k_L_611 {X : LX} {dd : Nat} (hX : LC X) (hdd : dd ≤ 2000) : TrL X 611 (tr_callB X (Call (XD X) dd mi_X12_cell) 614 13 2) := kl_callV hX (ci := 12) hdd (show decode code 611 = .ok (.invokevirtual 66, 3) from by decide +kernel) mok_X12_cell rfl rfl (gm 988 (by decide +kernel) rfl) (gm 989 (by decide +kernel) rfl) (gm 990 (by decide +kernel) rfl)
theorem k_L_614 {X : LX} {dd : Nat} (hX : LC X) (hdd : dd ≤ 2000) : TrL X 614 (tr_lcmp 615) := kl_lcmp hX (show decode code 614 = .ok (.lcmp, 1) from by decide +kernel)
theorem k_L_615 {X : LX} {dd : Nat} (hX : LC X) (hdd : dd ≤ 2000) : TrL X 615 (tr_ifeq 618 979) := kl_ifeq hX (show decode code 615 = .ok (.ifCond .eq 364, 3) from by decide +kernel) (by decide)
theorem tbk_L_16 {X : LX} {dd : Nat} (hX : LC X) (hdd : dd ≤ 2000) (pc : Nat) : TrL X pc (tb_L_16 X dd pc) := kt_b (kt_b (kt_b (kt_b (kt_l (k_L_588 hX hdd)) (kt_b (kt_l (k_L_589 hX hdd)) (kt_l (k_L_590 hX hdd)))) (kt_b (kt_l (k_L_591 hX hdd)) (kt_b (kt_l (k_L_592 hX hdd)) (kt_l (k_L_593 hX hdd))))) (kt_b (kt_b (kt_l (k_L_594 hX hdd)) (kt_b (kt_l (k_L_595 hX hdd)) (kt_l (k_L_596 hX hdd)))) (kt_b (kt_l (k_L_597 hX hdd)) (kt_b (kt_l (k_L_600 hX hdd)) (kt_l (k_L_601 hX hdd)))))) (kt_b (kt_b (kt_b (kt_l (k_L_602 hX hdd)) (kt_b (kt_l (k_L_603 hX hdd)) (kt_l (k_L_604 hX hdd)))) (kt_b (kt_l (k_L_605 hX hdd)) (kt_b (kt_l (k_L_606 hX hdd)) (kt_l (k_L_607 hX hdd))))) (kt_b (kt_b (kt_l (k_L_608 hX hdd)) (kt_b (kt_l (k_L_609 hX hdd)) (kt_l (k_L_610 hX hdd)))) (kt_b (kt_l (k_L_611 hX hdd)) (kt_b (kt_l (k_L_614 hX hdd)) (kt_l (k_L_615 hX hdd))))))
def tb_L_17 (X : LX) (dd : Nat) (pc : Nat) : Tr := bif Nat.blt pc 632 then (bif Nat.blt pc 624 then (bif Nat.blt pc 621 then (bif Nat.blt pc 619 then (bif Nat.beq 618 pc then tr_ic 619 0 else trF) else (bif Nat.blt pc 620 then (bif Nat.beq 619 pc then tr_zret else trF) else (bif Nat.beq 620 pc then tr_aload 621 1 else trF))) else (bif Nat.blt pc 622 then (bif Nat.beq 621 pc then tr_aload 622 0 else trF) else (bif Nat.blt pc 623 then (bif Nat.beq 622 pc then tr_iload 623 3 else trF) else (bif Nat.beq 623 pc then tr_ic 624 1 else trF)))) else (bif Nat.blt pc 629 then (bif Nat.blt pc 625 then (bif Nat.beq 624 pc then tr_iadd 625 else trF) else (bif Nat.blt pc 626 then (bif Nat.beq 625 pc then tr_sald X 626 else trF) else (bif Nat.beq 626 pc then tr_callB X (Call (XD X) dd mi_X11_cells) 629 12 1 else trF))) else (bif Nat.blt pc 630 then (bif Nat.beq 629 pc then tr_aload 630 2 else trF) else (bif Nat.blt pc 631 then (bif Nat.beq 630 pc then tr_aload 631 0 else trF) else (bif Nat.beq 631 pc then tr_iload 632 3 else trF))))) else (bif Nat.blt pc 642 then (bif Nat.blt pc 635 then (bif Nat.blt pc 633 then (bif Nat.beq 632 pc then tr_ic 633 1 else trF) else (bif Nat.blt pc 634 then (bif Nat.beq 633 pc then tr_iadd 634 else trF) else (bif Nat.beq 634 pc then tr_sald X 635 else trF))) else (bif Nat.blt pc 638 then (bif Nat.beq 635 pc then tr_callB X (Call (XD X) dd mi_X12_cells) 638 13 1 else trF) else (bif Nat.blt pc 641 then (bif Nat.beq 638 pc then tr_iceq 641 979 else trF) else (bif Nat.beq 641 pc then tr_ic 642 0 else trF)))) else (bif Nat.blt pc 645 then (bif Nat.blt pc 643 then (bif Nat.beq 642 pc then tr_zret else trF) else (bif Nat.blt pc 644 then (bif Nat.beq 643 pc then tr_aload 644 1 else trF) else (bif Nat.beq 644 pc then tr_aload 645 0 else trF))) else (bif Nat.blt pc 646 then (bif Nat.beq 645 pc then tr_iload 646 3 else trF) else (bif Nat.blt pc 647 then (bif Nat.beq 646 pc then tr_ic 647 1 else trF) else (bif Nat.beq 647 pc then tr_iadd 648 else trF)))))
theorem k_L_618 {X : LX} {dd : Nat} (hX : LC X) (hdd : dd ≤ 2000) : TrL X 618 (tr_ic 619 0) := kl_iconst hX (show decode code 618 = .ok (.iconst 0, 1) from by decide +kernel) rfl
theorem k_L_619 {X : LX} {dd : Nat} (hX : LC X) (hdd : dd ≤ 2000) : TrL X 619 (tr_zret) := kl_zret hX (show decode code 619 = .ok (.ireturn, 1) from by decide +kernel)
theorem k_L_620 {X : LX} {dd : Nat} (hX : LC X) (hdd : dd ≤ 2000) : TrL X 620 (tr_aload 621 1) := kl_aload_n hX (show decode code 620 = .ok (.aload_n 1, 1) from by decide +kernel) rfl
theorem k_L_621 {X : LX} {dd : Nat} (hX : LC X) (hdd : dd ≤ 2000) : TrL X 621 (tr_aload 622 0) := kl_aload_n hX (show decode code 621 = .ok (.aload_n 0, 1) from by decide +kernel) rfl
theorem k_L_622 {X : LX} {dd : Nat} (hX : LC X) (hdd : dd ≤ 2000) : TrL X 622 (tr_iload 623 3) := kl_iload_n hX (show decode code 622 = .ok (.iload_n 3, 1) from by decide +kernel) rfl
theorem k_L_623 {X : LX} {dd : Nat} (hX : LC X) (hdd : dd ≤ 2000) : TrL X 623 (tr_ic 624 1) := kl_iconst hX (show decode code 623 = .ok (.iconst 1, 1) from by decide +kernel) rfl
theorem k_L_624 {X : LX} {dd : Nat} (hX : LC X) (hdd : dd ≤ 2000) : TrL X 624 (tr_iadd 625) := kl_iadd hX (show decode code 624 = .ok (.iadd, 1) from by decide +kernel)
theorem k_L_625 {X : LX} {dd : Nat} (hX : LC X) (hdd : dd ≤ 2000) : TrL X 625 (tr_sald X 626) := kl_sald hX (show decode code 625 = .ok (.iaload, 1) from by decide +kernel)
theorem k_L_626 {X : LX} {dd : Nat} (hX : LC X) (hdd : dd ≤ 2000) : TrL X 626 (tr_callB X (Call (XD X) dd mi_X11_cells) 629 12 1) := kl_callV hX (ci := 11) hdd (show decode code 626 = .ok (.invokevirtual 67, 3) from by decide +kernel) mok_X11_cells rfl rfl (gm 541 (by decide +kernel) rfl) (gm 542 (by decide +kernel) rfl) (gm 543 (by decide +kernel) rfl)
theorem k_L_629 {X : LX} {dd : Nat} (hX : LC X) (hdd : dd ≤ 2000) : TrL X 629 (tr_aload 630 2) := kl_aload_n hX (show decode code 629 = .ok (.aload_n 2, 1) from by decide +kernel) rfl
theorem k_L_630 {X : LX} {dd : Nat} (hX : LC X) (hdd : dd ≤ 2000) : TrL X 630 (tr_aload 631 0) := kl_aload_n hX (show decode code 630 = .ok (.aload_n 0, 1) from by decide +kernel) rfl
theorem k_L_631 {X : LX} {dd : Nat} (hX : LC X) (hdd : dd ≤ 2000) : TrL X 631 (tr_iload 632 3) := kl_iload_n hX (show decode code 631 = .ok (.iload_n 3, 1) from by decide +kernel) rfl
theorem k_L_632 {X : LX} {dd : Nat} (hX : LC X) (hdd : dd ≤ 2000) : TrL X 632 (tr_ic 633 1) := kl_iconst hX (show decode code 632 = .ok (.iconst 1, 1) from by decide +kernel) rfl
theorem k_L_633 {X : LX} {dd : Nat} (hX : LC X) (hdd : dd ≤ 2000) : TrL X 633 (tr_iadd 634) := kl_iadd hX (show decode code 633 = .ok (.iadd, 1) from by decide +kernel)
theorem k_L_634 {X : LX} {dd : Nat} (hX : LC X) (hdd : dd ≤ 2000) : TrL X 634 (tr_sald X 635) := kl_sald hX (show decode code 634 = .ok (.iaload, 1) from by decide +kernel)
theorem k_L_635 {X : LX} {dd : Nat} (hX : LC X) (hdd : dd ≤ 2000) : TrL X 635 (tr_callB X (Call (XD X) dd mi_X12_cells) 638 13 1) := kl_callV hX (ci := 12) hdd (show decode code 635 = .ok (.invokevirtual 70, 3) from by decide +kernel) mok_X12_cells rfl rfl (gm 992 (by decide +kernel) rfl) (gm 993 (by decide +kernel) rfl) (gm 994 (by decide +kernel) rfl)
theorem k_L_638 {X : LX} {dd : Nat} (hX : LC X) (hdd : dd ≤ 2000) : TrL X 638 (tr_iceq 641 979) := kl_iceq hX (show decode code 638 = .ok (.if_icmp .eq 341, 3) from by decide +kernel) (by decide)
theorem k_L_641 {X : LX} {dd : Nat} (hX : LC X) (hdd : dd ≤ 2000) : TrL X 641 (tr_ic 642 0) := kl_iconst hX (show decode code 641 = .ok (.iconst 0, 1) from by decide +kernel) rfl
theorem k_L_642 {X : LX} {dd : Nat} (hX : LC X) (hdd : dd ≤ 2000) : TrL X 642 (tr_zret) := kl_zret hX (show decode code 642 = .ok (.ireturn, 1) from by decide +kernel)
theorem k_L_643 {X : LX} {dd : Nat} (hX : LC X) (hdd : dd ≤ 2000) : TrL X 643 (tr_aload 644 1) := kl_aload_n hX (show decode code 643 = .ok (.aload_n 1, 1) from by decide +kernel) rfl
theorem k_L_644 {X : LX} {dd : Nat} (hX : LC X) (hdd : dd ≤ 2000) : TrL X 644 (tr_aload 645 0) := kl_aload_n hX (show decode code 644 = .ok (.aload_n 0, 1) from by decide +kernel) rfl
theorem k_L_645 {X : LX} {dd : Nat} (hX : LC X) (hdd : dd ≤ 2000) : TrL X 645 (tr_iload 646 3) := kl_iload_n hX (show decode code 645 = .ok (.iload_n 3, 1) from by decide +kernel) rfl
theorem k_L_646 {X : LX} {dd : Nat} (hX : LC X) (hdd : dd ≤ 2000) : TrL X 646 (tr_ic 647 1) := kl_iconst hX (show decode code 646 = .ok (.iconst 1, 1) from by decide +kernel) rfl
theorem k_L_647 {X : LX} {dd : Nat} (hX : LC X) (hdd : dd ≤ 2000) : TrL X 647 (tr_iadd 648) := kl_iadd hX (show decode code 647 = .ok (.iadd, 1) from by decide +kernel)
theorem tbk_L_17 {X : LX} {dd : Nat} (hX : LC X) (hdd : dd ≤ 2000) (pc : Nat) : TrL X pc (tb_L_17 X dd pc) := kt_b (kt_b (kt_b (kt_b (kt_l (k_L_618 hX hdd)) (kt_b (kt_l (k_L_619 hX hdd)) (kt_l (k_L_620 hX hdd)))) (kt_b (kt_l (k_L_621 hX hdd)) (kt_b (kt_l (k_L_622 hX hdd)) (kt_l (k_L_623 hX hdd))))) (kt_b (kt_b (kt_l (k_L_624 hX hdd)) (kt_b (kt_l (k_L_625 hX hdd)) (kt_l (k_L_626 hX hdd)))) (kt_b (kt_l (k_L_629 hX hdd)) (kt_b (kt_l (k_L_630 hX hdd)) (kt_l (k_L_631 hX hdd)))))) (kt_b (kt_b (kt_b (kt_l (k_L_632 hX hdd)) (kt_b (kt_l (k_L_633 hX hdd)) (kt_l (k_L_634 hX hdd)))) (kt_b (kt_l (k_L_635 hX hdd)) (kt_b (kt_l (k_L_638 hX hdd)) (kt_l (k_L_641 hX hdd))))) (kt_b (kt_b (kt_l (k_L_642 hX hdd)) (kt_b (kt_l (k_L_643 hX hdd)) (kt_l (k_L_644 hX hdd)))) (kt_b (kt_l (k_L_645 hX hdd)) (kt_b (kt_l (k_L_646 hX hdd)) (kt_l (k_L_647 hX hdd))))))
def tb_L_18 (X : LX) (dd : Nat) (pc : Nat) : Tr := bif Nat.blt pc 661 then (bif Nat.blt pc 654 then (bif Nat.blt pc 651 then (bif Nat.blt pc 649 then (bif Nat.beq 648 pc then tr_sald X 649 else trF) else (bif Nat.blt pc 650 then (bif Nat.beq 649 pc then tr_aload 650 0 else trF) else (bif Nat.beq 650 pc then tr_iload 651 3 else trF))) else (bif Nat.blt pc 652 then (bif Nat.beq 651 pc then tr_ic 652 2 else trF) else (bif Nat.blt pc 653 then (bif Nat.beq 652 pc then tr_iadd 653 else trF) else (bif Nat.beq 653 pc then tr_sald X 654 else trF)))) else (bif Nat.blt pc 658 then (bif Nat.blt pc 655 then (bif Nat.beq 654 pc then tr_i2l 655 else trF) else (bif Nat.blt pc 657 then (bif Nat.beq 655 pc then tr_ic 657 32 else trF) else (bif Nat.beq 657 pc then tr_lshl 658 else trF))) else (bif Nat.blt pc 659 then (bif Nat.beq 658 pc then tr_aload 659 0 else trF) else (bif Nat.blt pc 660 then (bif Nat.beq 659 pc then tr_iload 660 3 else trF) else (bif Nat.beq 660 pc then tr_ic 661 3 else trF))))) else (bif Nat.blt pc 669 then (bif Nat.blt pc 664 then (bif Nat.blt pc 662 then (bif Nat.beq 661 pc then tr_iadd 662 else trF) else (bif Nat.blt pc 663 then (bif Nat.beq 662 pc then tr_sald X 663 else trF) else (bif Nat.beq 663 pc then tr_i2l 664 else trF))) else (bif Nat.blt pc 667 then (bif Nat.beq 664 pc then tr_lc 667 4294967295 else trF) else (bif Nat.blt pc 668 then (bif Nat.beq 667 pc then tr_land 668 else trF) else (bif Nat.beq 668 pc then tr_lor 669 else trF)))) else (bif Nat.blt pc 674 then (bif Nat.blt pc 672 then (bif Nat.beq 669 pc then tr_callB X (Call (XD X) dd mi_X11_send) 672 12 2 else trF) else (bif Nat.blt pc 673 then (bif Nat.beq 672 pc then tr_aload 673 2 else trF) else (bif Nat.beq 673 pc then tr_aload 674 0 else trF))) else (bif Nat.blt pc 675 then (bif Nat.beq 674 pc then tr_iload 675 3 else trF) else (bif Nat.blt pc 676 then (bif Nat.beq 675 pc then tr_ic 676 1 else trF) else (bif Nat.beq 676 pc then tr_iadd 677 else trF)))))
theorem k_L_648 {X : LX} {dd : Nat} (hX : LC X) (hdd : dd ≤ 2000) : TrL X 648 (tr_sald X 649) := kl_sald hX (show decode code 648 = .ok (.iaload, 1) from by decide +kernel)
theorem k_L_649 {X : LX} {dd : Nat} (hX : LC X) (hdd : dd ≤ 2000) : TrL X 649 (tr_aload 650 0) := kl_aload_n hX (show decode code 649 = .ok (.aload_n 0, 1) from by decide +kernel) rfl
theorem k_L_650 {X : LX} {dd : Nat} (hX : LC X) (hdd : dd ≤ 2000) : TrL X 650 (tr_iload 651 3) := kl_iload_n hX (show decode code 650 = .ok (.iload_n 3, 1) from by decide +kernel) rfl
theorem k_L_651 {X : LX} {dd : Nat} (hX : LC X) (hdd : dd ≤ 2000) : TrL X 651 (tr_ic 652 2) := kl_iconst hX (show decode code 651 = .ok (.iconst 2, 1) from by decide +kernel) rfl
theorem k_L_652 {X : LX} {dd : Nat} (hX : LC X) (hdd : dd ≤ 2000) : TrL X 652 (tr_iadd 653) := kl_iadd hX (show decode code 652 = .ok (.iadd, 1) from by decide +kernel)
theorem k_L_653 {X : LX} {dd : Nat} (hX : LC X) (hdd : dd ≤ 2000) : TrL X 653 (tr_sald X 654) := kl_sald hX (show decode code 653 = .ok (.iaload, 1) from by decide +kernel)
theorem k_L_654 {X : LX} {dd : Nat} (hX : LC X) (hdd : dd ≤ 2000) : TrL X 654 (tr_i2l 655) := kl_i2l hX (show decode code 654 = .ok (.i2l, 1) from by decide +kernel)
theorem k_L_655 {X : LX} {dd : Nat} (hX : LC X) (hdd : dd ≤ 2000) : TrL X 655 (tr_ic 657 32) := kl_bipush hX (show decode code 655 = .ok (.bipush 32, 2) from by decide +kernel) rfl
theorem k_L_657 {X : LX} {dd : Nat} (hX : LC X) (hdd : dd ≤ 2000) : TrL X 657 (tr_lshl 658) := kl_lshl hX (show decode code 657 = .ok (.lshl, 1) from by decide +kernel)
theorem k_L_658 {X : LX} {dd : Nat} (hX : LC X) (hdd : dd ≤ 2000) : TrL X 658 (tr_aload 659 0) := kl_aload_n hX (show decode code 658 = .ok (.aload_n 0, 1) from by decide +kernel) rfl
theorem k_L_659 {X : LX} {dd : Nat} (hX : LC X) (hdd : dd ≤ 2000) : TrL X 659 (tr_iload 660 3) := kl_iload_n hX (show decode code 659 = .ok (.iload_n 3, 1) from by decide +kernel) rfl
theorem k_L_660 {X : LX} {dd : Nat} (hX : LC X) (hdd : dd ≤ 2000) : TrL X 660 (tr_ic 661 3) := kl_iconst hX (show decode code 660 = .ok (.iconst 3, 1) from by decide +kernel) rfl
theorem k_L_661 {X : LX} {dd : Nat} (hX : LC X) (hdd : dd ≤ 2000) : TrL X 661 (tr_iadd 662) := kl_iadd hX (show decode code 661 = .ok (.iadd, 1) from by decide +kernel)
theorem k_L_662 {X : LX} {dd : Nat} (hX : LC X) (hdd : dd ≤ 2000) : TrL X 662 (tr_sald X 663) := kl_sald hX (show decode code 662 = .ok (.iaload, 1) from by decide +kernel)
theorem k_L_663 {X : LX} {dd : Nat} (hX : LC X) (hdd : dd ≤ 2000) : TrL X 663 (tr_i2l 664) := kl_i2l hX (show decode code 663 = .ok (.i2l, 1) from by decide +kernel)
theorem k_L_664 {X : LX} {dd : Nat} (hX : LC X) (hdd : dd ≤ 2000) : TrL X 664 (tr_lc 667 4294967295) := kl_ldc2 hX (show decode code 664 = .ok (.ldc2_w 32, 3) from by decide +kernel) (gm 1095 (by decide +kernel) rfl)
theorem k_L_667 {X : LX} {dd : Nat} (hX : LC X) (hdd : dd ≤ 2000) : TrL X 667 (tr_land 668) := kl_land hX (show decode code 667 = .ok (.land, 1) from by decide +kernel)
theorem k_L_668 {X : LX} {dd : Nat} (hX : LC X) (hdd : dd ≤ 2000) : TrL X 668 (tr_lor 669) := kl_lor hX (show decode code 668 = .ok (.lor, 1) from by decide +kernel)
theorem k_L_669 {X : LX} {dd : Nat} (hX : LC X) (hdd : dd ≤ 2000) : TrL X 669 (tr_callB X (Call (XD X) dd mi_X11_send) 672 12 2) := kl_callV hX (ci := 11) hdd (show decode code 669 = .ok (.invokevirtual 71, 3) from by decide +kernel) mok_X11_send rfl rfl (gm 545 (by decide +kernel) rfl) (gm 546 (by decide +kernel) rfl) (gm 547 (by decide +kernel) rfl)
theorem k_L_672 {X : LX} {dd : Nat} (hX : LC X) (hdd : dd ≤ 2000) : TrL X 672 (tr_aload 673 2) := kl_aload_n hX (show decode code 672 = .ok (.aload_n 2, 1) from by decide +kernel) rfl
theorem k_L_673 {X : LX} {dd : Nat} (hX : LC X) (hdd : dd ≤ 2000) : TrL X 673 (tr_aload 674 0) := kl_aload_n hX (show decode code 673 = .ok (.aload_n 0, 1) from by decide +kernel) rfl
theorem k_L_674 {X : LX} {dd : Nat} (hX : LC X) (hdd : dd ≤ 2000) : TrL X 674 (tr_iload 675 3) := kl_iload_n hX (show decode code 674 = .ok (.iload_n 3, 1) from by decide +kernel) rfl
theorem k_L_675 {X : LX} {dd : Nat} (hX : LC X) (hdd : dd ≤ 2000) : TrL X 675 (tr_ic 676 1) := kl_iconst hX (show decode code 675 = .ok (.iconst 1, 1) from by decide +kernel) rfl
theorem k_L_676 {X : LX} {dd : Nat} (hX : LC X) (hdd : dd ≤ 2000) : TrL X 676 (tr_iadd 677) := kl_iadd hX (show decode code 676 = .ok (.iadd, 1) from by decide +kernel)
theorem tbk_L_18 {X : LX} {dd : Nat} (hX : LC X) (hdd : dd ≤ 2000) (pc : Nat) : TrL X pc (tb_L_18 X dd pc) := kt_b (kt_b (kt_b (kt_b (kt_l (k_L_648 hX hdd)) (kt_b (kt_l (k_L_649 hX hdd)) (kt_l (k_L_650 hX hdd)))) (kt_b (kt_l (k_L_651 hX hdd)) (kt_b (kt_l (k_L_652 hX hdd)) (kt_l (k_L_653 hX hdd))))) (kt_b (kt_b (kt_l (k_L_654 hX hdd)) (kt_b (kt_l (k_L_655 hX hdd)) (kt_l (k_L_657 hX hdd)))) (kt_b (kt_l (k_L_658 hX hdd)) (kt_b (kt_l (k_L_659 hX hdd)) (kt_l (k_L_660 hX hdd)))))) (kt_b (kt_b (kt_b (kt_l (k_L_661 hX hdd)) (kt_b (kt_l (k_L_662 hX hdd)) (kt_l (k_L_663 hX hdd)))) (kt_b (kt_l (k_L_664 hX hdd)) (kt_b (kt_l (k_L_667 hX hdd)) (kt_l (k_L_668 hX hdd))))) (kt_b (kt_b (kt_l (k_L_669 hX hdd)) (kt_b (kt_l (k_L_672 hX hdd)) (kt_l (k_L_673 hX hdd)))) (kt_b (kt_l (k_L_674 hX hdd)) (kt_b (kt_l (k_L_675 hX hdd)) (kt_l (k_L_676 hX hdd))))))
def tb_L_19 (X : LX) (dd : Nat) (pc : Nat) : Tr := bif Nat.blt pc 690 then (bif Nat.blt pc 683 then (bif Nat.blt pc 680 then (bif Nat.blt pc 678 then (bif Nat.beq 677 pc then tr_sald X 678 else trF) else (bif Nat.blt pc 679 then (bif Nat.beq 678 pc then tr_aload 679 0 else trF) else (bif Nat.beq 679 pc then tr_iload 680 3 else trF))) else (bif Nat.blt pc 681 then (bif Nat.beq 680 pc then tr_ic 681 2 else trF) else (bif Nat.blt pc 682 then (bif Nat.beq 681 pc then tr_iadd 682 else trF) else (bif Nat.beq 682 pc then tr_sald X 683 else trF)))) else (bif Nat.blt pc 687 then (bif Nat.blt pc 684 then (bif Nat.beq 683 pc then tr_i2l 684 else trF) else (bif Nat.blt pc 686 then (bif Nat.beq 684 pc then tr_ic 686 32 else trF) else (bif Nat.beq 686 pc then tr_lshl 687 else trF))) else (bif Nat.blt pc 688 then (bif Nat.beq 687 pc then tr_aload 688 0 else trF) else (bif Nat.blt pc 689 then (bif Nat.beq 688 pc then tr_iload 689 3 else trF) else (bif Nat.beq 689 pc then tr_ic 690 3 else trF))))) else (bif Nat.blt pc 698 then (bif Nat.blt pc 693 then (bif Nat.blt pc 691 then (bif Nat.beq 690 pc then tr_iadd 691 else trF) else (bif Nat.blt pc 692 then (bif Nat.beq 691 pc then tr_sald X 692 else trF) else (bif Nat.beq 692 pc then tr_i2l 693 else trF))) else (bif Nat.blt pc 696 then (bif Nat.beq 693 pc then tr_lc 696 4294967295 else trF) else (bif Nat.blt pc 697 then (bif Nat.beq 696 pc then tr_land 697 else trF) else (bif Nat.beq 697 pc then tr_lor 698 else trF)))) else (bif Nat.blt pc 705 then (bif Nat.blt pc 701 then (bif Nat.beq 698 pc then tr_callB X (Call (XD X) dd mi_X12_send) 701 13 2 else trF) else (bif Nat.blt pc 704 then (bif Nat.beq 701 pc then tr_iceq 704 979 else trF) else (bif Nat.beq 704 pc then tr_ic 705 0 else trF))) else (bif Nat.blt pc 706 then (bif Nat.beq 705 pc then tr_zret else trF) else (bif Nat.blt pc 707 then (bif Nat.beq 706 pc then tr_aload 707 1 else trF) else (bif Nat.beq 707 pc then tr_aload 708 0 else trF)))))
theorem k_L_677 {X : LX} {dd : Nat} (hX : LC X) (hdd : dd ≤ 2000) : TrL X 677 (tr_sald X 678) := kl_sald hX (show decode code 677 = .ok (.iaload, 1) from by decide +kernel)
theorem k_L_678 {X : LX} {dd : Nat} (hX : LC X) (hdd : dd ≤ 2000) : TrL X 678 (tr_aload 679 0) := kl_aload_n hX (show decode code 678 = .ok (.aload_n 0, 1) from by decide +kernel) rfl
theorem k_L_679 {X : LX} {dd : Nat} (hX : LC X) (hdd : dd ≤ 2000) : TrL X 679 (tr_iload 680 3) := kl_iload_n hX (show decode code 679 = .ok (.iload_n 3, 1) from by decide +kernel) rfl
theorem k_L_680 {X : LX} {dd : Nat} (hX : LC X) (hdd : dd ≤ 2000) : TrL X 680 (tr_ic 681 2) := kl_iconst hX (show decode code 680 = .ok (.iconst 2, 1) from by decide +kernel) rfl
theorem k_L_681 {X : LX} {dd : Nat} (hX : LC X) (hdd : dd ≤ 2000) : TrL X 681 (tr_iadd 682) := kl_iadd hX (show decode code 681 = .ok (.iadd, 1) from by decide +kernel)
theorem k_L_682 {X : LX} {dd : Nat} (hX : LC X) (hdd : dd ≤ 2000) : TrL X 682 (tr_sald X 683) := kl_sald hX (show decode code 682 = .ok (.iaload, 1) from by decide +kernel)
theorem k_L_683 {X : LX} {dd : Nat} (hX : LC X) (hdd : dd ≤ 2000) : TrL X 683 (tr_i2l 684) := kl_i2l hX (show decode code 683 = .ok (.i2l, 1) from by decide +kernel)
theorem k_L_684 {X : LX} {dd : Nat} (hX : LC X) (hdd : dd ≤ 2000) : TrL X 684 (tr_ic 686 32) := kl_bipush hX (show decode code 684 = .ok (.bipush 32, 2) from by decide +kernel) rfl
theorem k_L_686 {X : LX} {dd : Nat} (hX : LC X) (hdd : dd ≤ 2000) : TrL X 686 (tr_lshl 687) := kl_lshl hX (show decode code 686 = .ok (.lshl, 1) from by decide +kernel)
theorem k_L_687 {X : LX} {dd : Nat} (hX : LC X) (hdd : dd ≤ 2000) : TrL X 687 (tr_aload 688 0) := kl_aload_n hX (show decode code 687 = .ok (.aload_n 0, 1) from by decide +kernel) rfl
theorem k_L_688 {X : LX} {dd : Nat} (hX : LC X) (hdd : dd ≤ 2000) : TrL X 688 (tr_iload 689 3) := kl_iload_n hX (show decode code 688 = .ok (.iload_n 3, 1) from by decide +kernel) rfl
theorem k_L_689 {X : LX} {dd : Nat} (hX : LC X) (hdd : dd ≤ 2000) : TrL X 689 (tr_ic 690 3) := kl_iconst hX (show decode code 689 = .ok (.iconst 3, 1) from by decide +kernel) rfl
theorem k_L_690 {X : LX} {dd : Nat} (hX : LC X) (hdd : dd ≤ 2000) : TrL X 690 (tr_iadd 691) := kl_iadd hX (show decode code 690 = .ok (.iadd, 1) from by decide +kernel)
theorem k_L_691 {X : LX} {dd : Nat} (hX : LC X) (hdd : dd ≤ 2000) : TrL X 691 (tr_sald X 692) := kl_sald hX (show decode code 691 = .ok (.iaload, 1) from by decide +kernel)
theorem k_L_692 {X : LX} {dd : Nat} (hX : LC X) (hdd : dd ≤ 2000) : TrL X 692 (tr_i2l 693) := kl_i2l hX (show decode code 692 = .ok (.i2l, 1) from by decide +kernel)
theorem k_L_693 {X : LX} {dd : Nat} (hX : LC X) (hdd : dd ≤ 2000) : TrL X 693 (tr_lc 696 4294967295) := kl_ldc2 hX (show decode code 693 = .ok (.ldc2_w 32, 3) from by decide +kernel) (gm 1095 (by decide +kernel) rfl)
theorem k_L_696 {X : LX} {dd : Nat} (hX : LC X) (hdd : dd ≤ 2000) : TrL X 696 (tr_land 697) := kl_land hX (show decode code 696 = .ok (.land, 1) from by decide +kernel)
theorem k_L_697 {X : LX} {dd : Nat} (hX : LC X) (hdd : dd ≤ 2000) : TrL X 697 (tr_lor 698) := kl_lor hX (show decode code 697 = .ok (.lor, 1) from by decide +kernel)
theorem k_L_698 {X : LX} {dd : Nat} (hX : LC X) (hdd : dd ≤ 2000) : TrL X 698 (tr_callB X (Call (XD X) dd mi_X12_send) 701 13 2) := kl_callV hX (ci := 12) hdd (show decode code 698 = .ok (.invokevirtual 75, 3) from by decide +kernel) mok_X12_send rfl rfl (gm 996 (by decide +kernel) rfl) (gm 997 (by decide +kernel) rfl) (gm 998 (by decide +kernel) rfl)
theorem k_L_701 {X : LX} {dd : Nat} (hX : LC X) (hdd : dd ≤ 2000) : TrL X 701 (tr_iceq 704 979) := kl_iceq hX (show decode code 701 = .ok (.if_icmp .eq 278, 3) from by decide +kernel) (by decide)
theorem k_L_704 {X : LX} {dd : Nat} (hX : LC X) (hdd : dd ≤ 2000) : TrL X 704 (tr_ic 705 0) := kl_iconst hX (show decode code 704 = .ok (.iconst 0, 1) from by decide +kernel) rfl
theorem k_L_705 {X : LX} {dd : Nat} (hX : LC X) (hdd : dd ≤ 2000) : TrL X 705 (tr_zret) := kl_zret hX (show decode code 705 = .ok (.ireturn, 1) from by decide +kernel)
theorem k_L_706 {X : LX} {dd : Nat} (hX : LC X) (hdd : dd ≤ 2000) : TrL X 706 (tr_aload 707 1) := kl_aload_n hX (show decode code 706 = .ok (.aload_n 1, 1) from by decide +kernel) rfl
theorem k_L_707 {X : LX} {dd : Nat} (hX : LC X) (hdd : dd ≤ 2000) : TrL X 707 (tr_aload 708 0) := kl_aload_n hX (show decode code 707 = .ok (.aload_n 0, 1) from by decide +kernel) rfl
theorem tbk_L_19 {X : LX} {dd : Nat} (hX : LC X) (hdd : dd ≤ 2000) (pc : Nat) : TrL X pc (tb_L_19 X dd pc) := kt_b (kt_b (kt_b (kt_b (kt_l (k_L_677 hX hdd)) (kt_b (kt_l (k_L_678 hX hdd)) (kt_l (k_L_679 hX hdd)))) (kt_b (kt_l (k_L_680 hX hdd)) (kt_b (kt_l (k_L_681 hX hdd)) (kt_l (k_L_682 hX hdd))))) (kt_b (kt_b (kt_l (k_L_683 hX hdd)) (kt_b (kt_l (k_L_684 hX hdd)) (kt_l (k_L_686 hX hdd)))) (kt_b (kt_l (k_L_687 hX hdd)) (kt_b (kt_l (k_L_688 hX hdd)) (kt_l (k_L_689 hX hdd)))))) (kt_b (kt_b (kt_b (kt_l (k_L_690 hX hdd)) (kt_b (kt_l (k_L_691 hX hdd)) (kt_l (k_L_692 hX hdd)))) (kt_b (kt_l (k_L_693 hX hdd)) (kt_b (kt_l (k_L_696 hX hdd)) (kt_l (k_L_697 hX hdd))))) (kt_b (kt_b (kt_l (k_L_698 hX hdd)) (kt_b (kt_l (k_L_701 hX hdd)) (kt_l (k_L_704 hX hdd)))) (kt_b (kt_l (k_L_705 hX hdd)) (kt_b (kt_l (k_L_706 hX hdd)) (kt_l (k_L_707 hX hdd))))))
def tb_L_20 (X : LX) (dd : Nat) (pc : Nat) : Tr := bif Nat.blt pc 724 then (bif Nat.blt pc 716 then (bif Nat.blt pc 711 then (bif Nat.blt pc 709 then (bif Nat.beq 708 pc then tr_iload 709 3 else trF) else (bif Nat.blt pc 710 then (bif Nat.beq 709 pc then tr_ic 710 1 else trF) else (bif Nat.beq 710 pc then tr_iadd 711 else trF))) else (bif Nat.blt pc 712 then (bif Nat.beq 711 pc then tr_sald X 712 else trF) else (bif Nat.blt pc 715 then (bif Nat.beq 712 pc then tr_callB X (Call (XD X) dd mi_X11_told) 715 12 1 else trF) else (bif Nat.beq 715 pc then tr_aload 716 2 else trF)))) else (bif Nat.blt pc 719 then (bif Nat.blt pc 717 then (bif Nat.beq 716 pc then tr_aload 717 0 else trF) else (bif Nat.blt pc 718 then (bif Nat.beq 717 pc then tr_iload 718 3 else trF) else (bif Nat.beq 718 pc then tr_ic 719 1 else trF))) else (bif Nat.blt pc 720 then (bif Nat.beq 719 pc then tr_iadd 720 else trF) else (bif Nat.blt pc 721 then (bif Nat.beq 720 pc then tr_sald X 721 else trF) else (bif Nat.beq 721 pc then tr_callB X (Call (XD X) dd mi_X12_told) 724 13 1 else trF))))) else (bif Nat.blt pc 734 then (bif Nat.blt pc 729 then (bif Nat.blt pc 727 then (bif Nat.beq 724 pc then tr_iceq 727 979 else trF) else (bif Nat.blt pc 728 then (bif Nat.beq 727 pc then tr_ic 728 0 else trF) else (bif Nat.beq 728 pc then tr_zret else trF))) else (bif Nat.blt pc 730 then (bif Nat.beq 729 pc then tr_aload 730 1 else trF) else (bif Nat.blt pc 733 then (bif Nat.beq 730 pc then tr_callB X (Call (XD X) dd mi_X11_value) 733 12 0 else trF) else (bif Nat.beq 733 pc then tr_aload 734 2 else trF)))) else (bif Nat.blt pc 741 then (bif Nat.blt pc 737 then (bif Nat.beq 734 pc then tr_callB X (Call (XD X) dd mi_X12_value) 737 13 0 else trF) else (bif Nat.blt pc 738 then (bif Nat.beq 737 pc then tr_lcmp 738 else trF) else (bif Nat.beq 738 pc then tr_ifeq 741 979 else trF))) else (bif Nat.blt pc 742 then (bif Nat.beq 741 pc then tr_ic 742 0 else trF) else (bif Nat.blt pc 743 then (bif Nat.beq 742 pc then tr_zret else trF) else (bif Nat.beq 743 pc then tr_aload 744 1 else trF)))))
theorem k_L_708 {X : LX} {dd : Nat} (hX : LC X) (hdd : dd ≤ 2000) : TrL X 708 (tr_iload 709 3) := kl_iload_n hX (show decode code 708 = .ok (.iload_n 3, 1) from by decide +kernel) rfl
theorem k_L_709 {X : LX} {dd : Nat} (hX : LC X) (hdd : dd ≤ 2000) : TrL X 709 (tr_ic 710 1) := kl_iconst hX (show decode code 709 = .ok (.iconst 1, 1) from by decide +kernel) rfl
theorem k_L_710 {X : LX} {dd : Nat} (hX : LC X) (hdd : dd ≤ 2000) : TrL X 710 (tr_iadd 711) := kl_iadd hX (show decode code 710 = .ok (.iadd, 1) from by decide +kernel)
theorem k_L_711 {X : LX} {dd : Nat} (hX : LC X) (hdd : dd ≤ 2000) : TrL X 711 (tr_sald X 712) := kl_sald hX (show decode code 711 = .ok (.iaload, 1) from by decide +kernel)
theorem k_L_712 {X : LX} {dd : Nat} (hX : LC X) (hdd : dd ≤ 2000) : TrL X 712 (tr_callB X (Call (XD X) dd mi_X11_told) 715 12 1) := kl_callV hX (ci := 11) hdd (show decode code 712 = .ok (.invokevirtual 76, 3) from by decide +kernel) mok_X11_told rfl rfl (gm 696 (by decide +kernel) rfl) (gm 697 (by decide +kernel) rfl) (gm 698 (by decide +kernel) rfl)
theorem k_L_715 {X : LX} {dd : Nat} (hX : LC X) (hdd : dd ≤ 2000) : TrL X 715 (tr_aload 716 2) := kl_aload_n hX (show decode code 715 = .ok (.aload_n 2, 1) from by decide +kernel) rfl
theorem k_L_716 {X : LX} {dd : Nat} (hX : LC X) (hdd : dd ≤ 2000) : TrL X 716 (tr_aload 717 0) := kl_aload_n hX (show decode code 716 = .ok (.aload_n 0, 1) from by decide +kernel) rfl
theorem k_L_717 {X : LX} {dd : Nat} (hX : LC X) (hdd : dd ≤ 2000) : TrL X 717 (tr_iload 718 3) := kl_iload_n hX (show decode code 717 = .ok (.iload_n 3, 1) from by decide +kernel) rfl
theorem k_L_718 {X : LX} {dd : Nat} (hX : LC X) (hdd : dd ≤ 2000) : TrL X 718 (tr_ic 719 1) := kl_iconst hX (show decode code 718 = .ok (.iconst 1, 1) from by decide +kernel) rfl
theorem k_L_719 {X : LX} {dd : Nat} (hX : LC X) (hdd : dd ≤ 2000) : TrL X 719 (tr_iadd 720) := kl_iadd hX (show decode code 719 = .ok (.iadd, 1) from by decide +kernel)
theorem k_L_720 {X : LX} {dd : Nat} (hX : LC X) (hdd : dd ≤ 2000) : TrL X 720 (tr_sald X 721) := kl_sald hX (show decode code 720 = .ok (.iaload, 1) from by decide +kernel)
theorem k_L_721 {X : LX} {dd : Nat} (hX : LC X) (hdd : dd ≤ 2000) : TrL X 721 (tr_callB X (Call (XD X) dd mi_X12_told) 724 13 1) := kl_callV hX (ci := 12) hdd (show decode code 721 = .ok (.invokevirtual 79, 3) from by decide +kernel) mok_X12_told rfl rfl (gm 1053 (by decide +kernel) rfl) (gm 1054 (by decide +kernel) rfl) (gm 1055 (by decide +kernel) rfl)
theorem k_L_724 {X : LX} {dd : Nat} (hX : LC X) (hdd : dd ≤ 2000) : TrL X 724 (tr_iceq 727 979) := kl_iceq hX (show decode code 724 = .ok (.if_icmp .eq 255, 3) from by decide +kernel) (by decide)
theorem k_L_727 {X : LX} {dd : Nat} (hX : LC X) (hdd : dd ≤ 2000) : TrL X 727 (tr_ic 728 0) := kl_iconst hX (show decode code 727 = .ok (.iconst 0, 1) from by decide +kernel) rfl
theorem k_L_728 {X : LX} {dd : Nat} (hX : LC X) (hdd : dd ≤ 2000) : TrL X 728 (tr_zret) := kl_zret hX (show decode code 728 = .ok (.ireturn, 1) from by decide +kernel)
theorem k_L_729 {X : LX} {dd : Nat} (hX : LC X) (hdd : dd ≤ 2000) : TrL X 729 (tr_aload 730 1) := kl_aload_n hX (show decode code 729 = .ok (.aload_n 1, 1) from by decide +kernel) rfl
theorem k_L_730 {X : LX} {dd : Nat} (hX : LC X) (hdd : dd ≤ 2000) : TrL X 730 (tr_callB X (Call (XD X) dd mi_X11_value) 733 12 0) := kl_callV hX (ci := 11) hdd (show decode code 730 = .ok (.invokevirtual 80, 3) from by decide +kernel) mok_X11_value rfl rfl (gm 700 (by decide +kernel) rfl) (gm 701 (by decide +kernel) rfl) (gm 702 (by decide +kernel) rfl)
theorem k_L_733 {X : LX} {dd : Nat} (hX : LC X) (hdd : dd ≤ 2000) : TrL X 733 (tr_aload 734 2) := kl_aload_n hX (show decode code 733 = .ok (.aload_n 2, 1) from by decide +kernel) rfl
theorem k_L_734 {X : LX} {dd : Nat} (hX : LC X) (hdd : dd ≤ 2000) : TrL X 734 (tr_callB X (Call (XD X) dd mi_X12_value) 737 13 0) := kl_callV hX (ci := 12) hdd (show decode code 734 = .ok (.invokevirtual 84, 3) from by decide +kernel) mok_X12_value rfl rfl (gm 1057 (by decide +kernel) rfl) (gm 1058 (by decide +kernel) rfl) (gm 1059 (by decide +kernel) rfl)
theorem k_L_737 {X : LX} {dd : Nat} (hX : LC X) (hdd : dd ≤ 2000) : TrL X 737 (tr_lcmp 738) := kl_lcmp hX (show decode code 737 = .ok (.lcmp, 1) from by decide +kernel)
theorem k_L_738 {X : LX} {dd : Nat} (hX : LC X) (hdd : dd ≤ 2000) : TrL X 738 (tr_ifeq 741 979) := kl_ifeq hX (show decode code 738 = .ok (.ifCond .eq 241, 3) from by decide +kernel) (by decide)
theorem k_L_741 {X : LX} {dd : Nat} (hX : LC X) (hdd : dd ≤ 2000) : TrL X 741 (tr_ic 742 0) := kl_iconst hX (show decode code 741 = .ok (.iconst 0, 1) from by decide +kernel) rfl
theorem k_L_742 {X : LX} {dd : Nat} (hX : LC X) (hdd : dd ≤ 2000) : TrL X 742 (tr_zret) := kl_zret hX (show decode code 742 = .ok (.ireturn, 1) from by decide +kernel)
theorem k_L_743 {X : LX} {dd : Nat} (hX : LC X) (hdd : dd ≤ 2000) : TrL X 743 (tr_aload 744 1) := kl_aload_n hX (show decode code 743 = .ok (.aload_n 1, 1) from by decide +kernel) rfl
theorem tbk_L_20 {X : LX} {dd : Nat} (hX : LC X) (hdd : dd ≤ 2000) (pc : Nat) : TrL X pc (tb_L_20 X dd pc) := kt_b (kt_b (kt_b (kt_b (kt_l (k_L_708 hX hdd)) (kt_b (kt_l (k_L_709 hX hdd)) (kt_l (k_L_710 hX hdd)))) (kt_b (kt_l (k_L_711 hX hdd)) (kt_b (kt_l (k_L_712 hX hdd)) (kt_l (k_L_715 hX hdd))))) (kt_b (kt_b (kt_l (k_L_716 hX hdd)) (kt_b (kt_l (k_L_717 hX hdd)) (kt_l (k_L_718 hX hdd)))) (kt_b (kt_l (k_L_719 hX hdd)) (kt_b (kt_l (k_L_720 hX hdd)) (kt_l (k_L_721 hX hdd)))))) (kt_b (kt_b (kt_b (kt_l (k_L_724 hX hdd)) (kt_b (kt_l (k_L_727 hX hdd)) (kt_l (k_L_728 hX hdd)))) (kt_b (kt_l (k_L_729 hX hdd)) (kt_b (kt_l (k_L_730 hX hdd)) (kt_l (k_L_733 hX hdd))))) (kt_b (kt_b (kt_l (k_L_734 hX hdd)) (kt_b (kt_l (k_L_737 hX hdd)) (kt_l (k_L_738 hX hdd)))) (kt_b (kt_l (k_L_741 hX hdd)) (kt_b (kt_l (k_L_742 hX hdd)) (kt_l (k_L_743 hX hdd))))))
def tb_L_21 (X : LX) (dd : Nat) (pc : Nat) : Tr := bif Nat.blt pc 758 then (bif Nat.blt pc 752 then (bif Nat.blt pc 747 then (bif Nat.blt pc 745 then (bif Nat.beq 744 pc then tr_aload 745 0 else trF) else (bif Nat.blt pc 746 then (bif Nat.beq 745 pc then tr_iload 746 3 else trF) else (bif Nat.beq 746 pc then tr_ic 747 1 else trF))) else (bif Nat.blt pc 748 then (bif Nat.beq 747 pc then tr_iadd 748 else trF) else (bif Nat.blt pc 749 then (bif Nat.beq 748 pc then tr_sald X 749 else trF) else (bif Nat.beq 749 pc then tr_callB X (Call (XD X) dd mi_X11_logged) 752 12 1 else trF)))) else (bif Nat.blt pc 755 then (bif Nat.blt pc 753 then (bif Nat.beq 752 pc then tr_aload 753 2 else trF) else (bif Nat.blt pc 754 then (bif Nat.beq 753 pc then tr_aload 754 0 else trF) else (bif Nat.beq 754 pc then tr_iload 755 3 else trF))) else (bif Nat.blt pc 756 then (bif Nat.beq 755 pc then tr_ic 756 1 else trF) else (bif Nat.blt pc 757 then (bif Nat.beq 756 pc then tr_iadd 757 else trF) else (bif Nat.beq 757 pc then tr_sald X 758 else trF))))) else (bif Nat.blt pc 768 then (bif Nat.blt pc 765 then (bif Nat.blt pc 761 then (bif Nat.beq 758 pc then tr_callB X (Call (XD X) dd mi_X12_logged) 761 13 1 else trF) else (bif Nat.blt pc 762 then (bif Nat.beq 761 pc then tr_lcmp 762 else trF) else (bif Nat.beq 762 pc then tr_ifeq 765 979 else trF))) else (bif Nat.blt pc 766 then (bif Nat.beq 765 pc then tr_ic 766 0 else trF) else (bif Nat.blt pc 767 then (bif Nat.beq 766 pc then tr_zret else trF) else (bif Nat.beq 767 pc then tr_aload 768 1 else trF)))) else (bif Nat.blt pc 771 then (bif Nat.blt pc 769 then (bif Nat.beq 768 pc then tr_aload 769 0 else trF) else (bif Nat.blt pc 770 then (bif Nat.beq 769 pc then tr_iload 770 3 else trF) else (bif Nat.beq 770 pc then tr_ic 771 1 else trF))) else (bif Nat.blt pc 772 then (bif Nat.beq 771 pc then tr_iadd 772 else trF) else (bif Nat.blt pc 773 then (bif Nat.beq 772 pc then tr_sald X 773 else trF) else (bif Nat.beq 773 pc then tr_aload 774 0 else trF)))))
theorem k_L_744 {X : LX} {dd : Nat} (hX : LC X) (hdd : dd ≤ 2000) : TrL X 744 (tr_aload 745 0) := kl_aload_n hX (show decode code 744 = .ok (.aload_n 0, 1) from by decide +kernel) rfl
theorem k_L_745 {X : LX} {dd : Nat} (hX : LC X) (hdd : dd ≤ 2000) : TrL X 745 (tr_iload 746 3) := kl_iload_n hX (show decode code 745 = .ok (.iload_n 3, 1) from by decide +kernel) rfl
theorem k_L_746 {X : LX} {dd : Nat} (hX : LC X) (hdd : dd ≤ 2000) : TrL X 746 (tr_ic 747 1) := kl_iconst hX (show decode code 746 = .ok (.iconst 1, 1) from by decide +kernel) rfl
theorem k_L_747 {X : LX} {dd : Nat} (hX : LC X) (hdd : dd ≤ 2000) : TrL X 747 (tr_iadd 748) := kl_iadd hX (show decode code 747 = .ok (.iadd, 1) from by decide +kernel)
theorem k_L_748 {X : LX} {dd : Nat} (hX : LC X) (hdd : dd ≤ 2000) : TrL X 748 (tr_sald X 749) := kl_sald hX (show decode code 748 = .ok (.iaload, 1) from by decide +kernel)
theorem k_L_749 {X : LX} {dd : Nat} (hX : LC X) (hdd : dd ≤ 2000) : TrL X 749 (tr_callB X (Call (XD X) dd mi_X11_logged) 752 12 1) := kl_callV hX (ci := 11) hdd (show decode code 749 = .ok (.invokevirtual 85, 3) from by decide +kernel) mok_X11_logged rfl rfl (gm 704 (by decide +kernel) rfl) (gm 705 (by decide +kernel) rfl) (gm 706 (by decide +kernel) rfl)
theorem k_L_752 {X : LX} {dd : Nat} (hX : LC X) (hdd : dd ≤ 2000) : TrL X 752 (tr_aload 753 2) := kl_aload_n hX (show decode code 752 = .ok (.aload_n 2, 1) from by decide +kernel) rfl
theorem k_L_753 {X : LX} {dd : Nat} (hX : LC X) (hdd : dd ≤ 2000) : TrL X 753 (tr_aload 754 0) := kl_aload_n hX (show decode code 753 = .ok (.aload_n 0, 1) from by decide +kernel) rfl
theorem k_L_754 {X : LX} {dd : Nat} (hX : LC X) (hdd : dd ≤ 2000) : TrL X 754 (tr_iload 755 3) := kl_iload_n hX (show decode code 754 = .ok (.iload_n 3, 1) from by decide +kernel) rfl
theorem k_L_755 {X : LX} {dd : Nat} (hX : LC X) (hdd : dd ≤ 2000) : TrL X 755 (tr_ic 756 1) := kl_iconst hX (show decode code 755 = .ok (.iconst 1, 1) from by decide +kernel) rfl
theorem k_L_756 {X : LX} {dd : Nat} (hX : LC X) (hdd : dd ≤ 2000) : TrL X 756 (tr_iadd 757) := kl_iadd hX (show decode code 756 = .ok (.iadd, 1) from by decide +kernel)
theorem k_L_757 {X : LX} {dd : Nat} (hX : LC X) (hdd : dd ≤ 2000) : TrL X 757 (tr_sald X 758) := kl_sald hX (show decode code 757 = .ok (.iaload, 1) from by decide +kernel)
theorem k_L_758 {X : LX} {dd : Nat} (hX : LC X) (hdd : dd ≤ 2000) : TrL X 758 (tr_callB X (Call (XD X) dd mi_X12_logged) 761 13 1) := kl_callV hX (ci := 12) hdd (show decode code 758 = .ok (.invokevirtual 89, 3) from by decide +kernel) mok_X12_logged rfl rfl (gm 1061 (by decide +kernel) rfl) (gm 1062 (by decide +kernel) rfl) (gm 1063 (by decide +kernel) rfl)
theorem k_L_761 {X : LX} {dd : Nat} (hX : LC X) (hdd : dd ≤ 2000) : TrL X 761 (tr_lcmp 762) := kl_lcmp hX (show decode code 761 = .ok (.lcmp, 1) from by decide +kernel)
theorem k_L_762 {X : LX} {dd : Nat} (hX : LC X) (hdd : dd ≤ 2000) : TrL X 762 (tr_ifeq 765 979) := kl_ifeq hX (show decode code 762 = .ok (.ifCond .eq 217, 3) from by decide +kernel) (by decide)
theorem k_L_765 {X : LX} {dd : Nat} (hX : LC X) (hdd : dd ≤ 2000) : TrL X 765 (tr_ic 766 0) := kl_iconst hX (show decode code 765 = .ok (.iconst 0, 1) from by decide +kernel) rfl
theorem k_L_766 {X : LX} {dd : Nat} (hX : LC X) (hdd : dd ≤ 2000) : TrL X 766 (tr_zret) := kl_zret hX (show decode code 766 = .ok (.ireturn, 1) from by decide +kernel)
theorem k_L_767 {X : LX} {dd : Nat} (hX : LC X) (hdd : dd ≤ 2000) : TrL X 767 (tr_aload 768 1) := kl_aload_n hX (show decode code 767 = .ok (.aload_n 1, 1) from by decide +kernel) rfl
theorem k_L_768 {X : LX} {dd : Nat} (hX : LC X) (hdd : dd ≤ 2000) : TrL X 768 (tr_aload 769 0) := kl_aload_n hX (show decode code 768 = .ok (.aload_n 0, 1) from by decide +kernel) rfl
theorem k_L_769 {X : LX} {dd : Nat} (hX : LC X) (hdd : dd ≤ 2000) : TrL X 769 (tr_iload 770 3) := kl_iload_n hX (show decode code 769 = .ok (.iload_n 3, 1) from by decide +kernel) rfl
theorem k_L_770 {X : LX} {dd : Nat} (hX : LC X) (hdd : dd ≤ 2000) : TrL X 770 (tr_ic 771 1) := kl_iconst hX (show decode code 770 = .ok (.iconst 1, 1) from by decide +kernel) rfl
theorem k_L_771 {X : LX} {dd : Nat} (hX : LC X) (hdd : dd ≤ 2000) : TrL X 771 (tr_iadd 772) := kl_iadd hX (show decode code 771 = .ok (.iadd, 1) from by decide +kernel)
theorem k_L_772 {X : LX} {dd : Nat} (hX : LC X) (hdd : dd ≤ 2000) : TrL X 772 (tr_sald X 773) := kl_sald hX (show decode code 772 = .ok (.iaload, 1) from by decide +kernel)
theorem k_L_773 {X : LX} {dd : Nat} (hX : LC X) (hdd : dd ≤ 2000) : TrL X 773 (tr_aload 774 0) := kl_aload_n hX (show decode code 773 = .ok (.aload_n 0, 1) from by decide +kernel) rfl
theorem tbk_L_21 {X : LX} {dd : Nat} (hX : LC X) (hdd : dd ≤ 2000) (pc : Nat) : TrL X pc (tb_L_21 X dd pc) := kt_b (kt_b (kt_b (kt_b (kt_l (k_L_744 hX hdd)) (kt_b (kt_l (k_L_745 hX hdd)) (kt_l (k_L_746 hX hdd)))) (kt_b (kt_l (k_L_747 hX hdd)) (kt_b (kt_l (k_L_748 hX hdd)) (kt_l (k_L_749 hX hdd))))) (kt_b (kt_b (kt_l (k_L_752 hX hdd)) (kt_b (kt_l (k_L_753 hX hdd)) (kt_l (k_L_754 hX hdd)))) (kt_b (kt_l (k_L_755 hX hdd)) (kt_b (kt_l (k_L_756 hX hdd)) (kt_l (k_L_757 hX hdd)))))) (kt_b (kt_b (kt_b (kt_l (k_L_758 hX hdd)) (kt_b (kt_l (k_L_761 hX hdd)) (kt_l (k_L_762 hX hdd)))) (kt_b (kt_l (k_L_765 hX hdd)) (kt_b (kt_l (k_L_766 hX hdd)) (kt_l (k_L_767 hX hdd))))) (kt_b (kt_b (kt_l (k_L_768 hX hdd)) (kt_b (kt_l (k_L_769 hX hdd)) (kt_l (k_L_770 hX hdd)))) (kt_b (kt_l (k_L_771 hX hdd)) (kt_b (kt_l (k_L_772 hX hdd)) (kt_l (k_L_773 hX hdd))))))
def tb_L_22 (X : LX) (dd : Nat) (pc : Nat) : Tr := bif Nat.blt pc 788 then (bif Nat.blt pc 782 then (bif Nat.blt pc 777 then (bif Nat.blt pc 775 then (bif Nat.beq 774 pc then tr_iload 775 3 else trF) else (bif Nat.blt pc 776 then (bif Nat.beq 775 pc then tr_ic 776 2 else trF) else (bif Nat.beq 776 pc then tr_iadd 777 else trF))) else (bif Nat.blt pc 778 then (bif Nat.beq 777 pc then tr_sald X 778 else trF) else (bif Nat.blt pc 781 then (bif Nat.beq 778 pc then tr_callB X (Call (XD X) dd mi_X11_failure) 781 12 2 else trF) else (bif Nat.beq 781 pc then tr_aload 782 2 else trF)))) else (bif Nat.blt pc 785 then (bif Nat.blt pc 783 then (bif Nat.beq 782 pc then tr_aload 783 0 else trF) else (bif Nat.blt pc 784 then (bif Nat.beq 783 pc then tr_iload 784 3 else trF) else (bif Nat.beq 784 pc then tr_ic 785 1 else trF))) else (bif Nat.blt pc 786 then (bif Nat.beq 785 pc then tr_iadd 786 else trF) else (bif Nat.blt pc 787 then (bif Nat.beq 786 pc then tr_sald X 787 else trF) else (bif Nat.beq 787 pc then tr_aload 788 0 else trF))))) else (bif Nat.blt pc 798 then (bif Nat.blt pc 791 then (bif Nat.blt pc 789 then (bif Nat.beq 788 pc then tr_iload 789 3 else trF) else (bif Nat.blt pc 790 then (bif Nat.beq 789 pc then tr_ic 790 2 else trF) else (bif Nat.beq 790 pc then tr_iadd 791 else trF))) else (bif Nat.blt pc 792 then (bif Nat.beq 791 pc then tr_sald X 792 else trF) else (bif Nat.blt pc 795 then (bif Nat.beq 792 pc then tr_callB X (Call (XD X) dd mi_X12_failure) 795 13 2 else trF) else (bif Nat.beq 795 pc then tr_iceq 798 979 else trF)))) else (bif Nat.blt pc 801 then (bif Nat.blt pc 799 then (bif Nat.beq 798 pc then tr_ic 799 0 else trF) else (bif Nat.blt pc 800 then (bif Nat.beq 799 pc then tr_zret else trF) else (bif Nat.beq 800 pc then tr_aload 801 1 else trF))) else (bif Nat.blt pc 802 then (bif Nat.beq 801 pc then tr_aload 802 0 else trF) else (bif Nat.blt pc 803 then (bif Nat.beq 802 pc then tr_iload 803 3 else trF) else (bif Nat.beq 803 pc then tr_ic 804 1 else trF)))))
theorem k_L_774 {X : LX} {dd : Nat} (hX : LC X) (hdd : dd ≤ 2000) : TrL X 774 (tr_iload 775 3) := kl_iload_n hX (show decode code 774 = .ok (.iload_n 3, 1) from by decide +kernel) rfl
theorem k_L_775 {X : LX} {dd : Nat} (hX : LC X) (hdd : dd ≤ 2000) : TrL X 775 (tr_ic 776 2) := kl_iconst hX (show decode code 775 = .ok (.iconst 2, 1) from by decide +kernel) rfl
theorem k_L_776 {X : LX} {dd : Nat} (hX : LC X) (hdd : dd ≤ 2000) : TrL X 776 (tr_iadd 777) := kl_iadd hX (show decode code 776 = .ok (.iadd, 1) from by decide +kernel)
theorem k_L_777 {X : LX} {dd : Nat} (hX : LC X) (hdd : dd ≤ 2000) : TrL X 777 (tr_sald X 778) := kl_sald hX (show decode code 777 = .ok (.iaload, 1) from by decide +kernel)
theorem k_L_778 {X : LX} {dd : Nat} (hX : LC X) (hdd : dd ≤ 2000) : TrL X 778 (tr_callB X (Call (XD X) dd mi_X11_failure) 781 12 2) := kl_callV hX (ci := 11) hdd (show decode code 778 = .ok (.invokevirtual 90, 3) from by decide +kernel) mok_X11_failure rfl rfl (gm 708 (by decide +kernel) rfl) (gm 709 (by decide +kernel) rfl) (gm 710 (by decide +kernel) rfl)
theorem k_L_781 {X : LX} {dd : Nat} (hX : LC X) (hdd : dd ≤ 2000) : TrL X 781 (tr_aload 782 2) := kl_aload_n hX (show decode code 781 = .ok (.aload_n 2, 1) from by decide +kernel) rfl
theorem k_L_782 {X : LX} {dd : Nat} (hX : LC X) (hdd : dd ≤ 2000) : TrL X 782 (tr_aload 783 0) := kl_aload_n hX (show decode code 782 = .ok (.aload_n 0, 1) from by decide +kernel) rfl
theorem k_L_783 {X : LX} {dd : Nat} (hX : LC X) (hdd : dd ≤ 2000) : TrL X 783 (tr_iload 784 3) := kl_iload_n hX (show decode code 783 = .ok (.iload_n 3, 1) from by decide +kernel) rfl
theorem k_L_784 {X : LX} {dd : Nat} (hX : LC X) (hdd : dd ≤ 2000) : TrL X 784 (tr_ic 785 1) := kl_iconst hX (show decode code 784 = .ok (.iconst 1, 1) from by decide +kernel) rfl
theorem k_L_785 {X : LX} {dd : Nat} (hX : LC X) (hdd : dd ≤ 2000) : TrL X 785 (tr_iadd 786) := kl_iadd hX (show decode code 785 = .ok (.iadd, 1) from by decide +kernel)
theorem k_L_786 {X : LX} {dd : Nat} (hX : LC X) (hdd : dd ≤ 2000) : TrL X 786 (tr_sald X 787) := kl_sald hX (show decode code 786 = .ok (.iaload, 1) from by decide +kernel)
theorem k_L_787 {X : LX} {dd : Nat} (hX : LC X) (hdd : dd ≤ 2000) : TrL X 787 (tr_aload 788 0) := kl_aload_n hX (show decode code 787 = .ok (.aload_n 0, 1) from by decide +kernel) rfl
theorem k_L_788 {X : LX} {dd : Nat} (hX : LC X) (hdd : dd ≤ 2000) : TrL X 788 (tr_iload 789 3) := kl_iload_n hX (show decode code 788 = .ok (.iload_n 3, 1) from by decide +kernel) rfl
theorem k_L_789 {X : LX} {dd : Nat} (hX : LC X) (hdd : dd ≤ 2000) : TrL X 789 (tr_ic 790 2) := kl_iconst hX (show decode code 789 = .ok (.iconst 2, 1) from by decide +kernel) rfl
theorem k_L_790 {X : LX} {dd : Nat} (hX : LC X) (hdd : dd ≤ 2000) : TrL X 790 (tr_iadd 791) := kl_iadd hX (show decode code 790 = .ok (.iadd, 1) from by decide +kernel)
theorem k_L_791 {X : LX} {dd : Nat} (hX : LC X) (hdd : dd ≤ 2000) : TrL X 791 (tr_sald X 792) := kl_sald hX (show decode code 791 = .ok (.iaload, 1) from by decide +kernel)
theorem k_L_792 {X : LX} {dd : Nat} (hX : LC X) (hdd : dd ≤ 2000) : TrL X 792 (tr_callB X (Call (XD X) dd mi_X12_failure) 795 13 2) := kl_callV hX (ci := 12) hdd (show decode code 792 = .ok (.invokevirtual 94, 3) from by decide +kernel) mok_X12_failure rfl rfl (gm 1066 (by decide +kernel) rfl) (gm 1067 (by decide +kernel) rfl) (gm 1068 (by decide +kernel) rfl)
theorem k_L_795 {X : LX} {dd : Nat} (hX : LC X) (hdd : dd ≤ 2000) : TrL X 795 (tr_iceq 798 979) := kl_iceq hX (show decode code 795 = .ok (.if_icmp .eq 184, 3) from by decide +kernel) (by decide)
theorem k_L_798 {X : LX} {dd : Nat} (hX : LC X) (hdd : dd ≤ 2000) : TrL X 798 (tr_ic 799 0) := kl_iconst hX (show decode code 798 = .ok (.iconst 0, 1) from by decide +kernel) rfl
theorem k_L_799 {X : LX} {dd : Nat} (hX : LC X) (hdd : dd ≤ 2000) : TrL X 799 (tr_zret) := kl_zret hX (show decode code 799 = .ok (.ireturn, 1) from by decide +kernel)
theorem k_L_800 {X : LX} {dd : Nat} (hX : LC X) (hdd : dd ≤ 2000) : TrL X 800 (tr_aload 801 1) := kl_aload_n hX (show decode code 800 = .ok (.aload_n 1, 1) from by decide +kernel) rfl
theorem k_L_801 {X : LX} {dd : Nat} (hX : LC X) (hdd : dd ≤ 2000) : TrL X 801 (tr_aload 802 0) := kl_aload_n hX (show decode code 801 = .ok (.aload_n 0, 1) from by decide +kernel) rfl
theorem k_L_802 {X : LX} {dd : Nat} (hX : LC X) (hdd : dd ≤ 2000) : TrL X 802 (tr_iload 803 3) := kl_iload_n hX (show decode code 802 = .ok (.iload_n 3, 1) from by decide +kernel) rfl
theorem k_L_803 {X : LX} {dd : Nat} (hX : LC X) (hdd : dd ≤ 2000) : TrL X 803 (tr_ic 804 1) := kl_iconst hX (show decode code 803 = .ok (.iconst 1, 1) from by decide +kernel) rfl
theorem tbk_L_22 {X : LX} {dd : Nat} (hX : LC X) (hdd : dd ≤ 2000) (pc : Nat) : TrL X pc (tb_L_22 X dd pc) := kt_b (kt_b (kt_b (kt_b (kt_l (k_L_774 hX hdd)) (kt_b (kt_l (k_L_775 hX hdd)) (kt_l (k_L_776 hX hdd)))) (kt_b (kt_l (k_L_777 hX hdd)) (kt_b (kt_l (k_L_778 hX hdd)) (kt_l (k_L_781 hX hdd))))) (kt_b (kt_b (kt_l (k_L_782 hX hdd)) (kt_b (kt_l (k_L_783 hX hdd)) (kt_l (k_L_784 hX hdd)))) (kt_b (kt_l (k_L_785 hX hdd)) (kt_b (kt_l (k_L_786 hX hdd)) (kt_l (k_L_787 hX hdd)))))) (kt_b (kt_b (kt_b (kt_l (k_L_788 hX hdd)) (kt_b (kt_l (k_L_789 hX hdd)) (kt_l (k_L_790 hX hdd)))) (kt_b (kt_l (k_L_791 hX hdd)) (kt_b (kt_l (k_L_792 hX hdd)) (kt_l (k_L_795 hX hdd))))) (kt_b (kt_b (kt_l (k_L_798 hX hdd)) (kt_b (kt_l (k_L_799 hX hdd)) (kt_l (k_L_800 hX hdd)))) (kt_b (kt_l (k_L_801 hX hdd)) (kt_b (kt_l (k_L_802 hX hdd)) (kt_l (k_L_803 hX hdd))))))
def tb_L_23 (X : LX) (dd : Nat) (pc : Nat) : Tr := bif Nat.blt pc 822 then (bif Nat.blt pc 812 then (bif Nat.blt pc 809 then (bif Nat.blt pc 805 then (bif Nat.beq 804 pc then tr_iadd 805 else trF) else (bif Nat.blt pc 806 then (bif Nat.beq 805 pc then tr_sald X 806 else trF) else (bif Nat.beq 806 pc then tr_callB X (Call (XD X) dd mi_X11_meter) 809 12 1 else trF))) else (bif Nat.blt pc 810 then (bif Nat.beq 809 pc then tr_aload 810 2 else trF) else (bif Nat.blt pc 811 then (bif Nat.beq 810 pc then tr_aload 811 0 else trF) else (bif Nat.beq 811 pc then tr_iload 812 3 else trF)))) else (bif Nat.blt pc 815 then (bif Nat.blt pc 813 then (bif Nat.beq 812 pc then tr_ic 813 1 else trF) else (bif Nat.blt pc 814 then (bif Nat.beq 813 pc then tr_iadd 814 else trF) else (bif Nat.beq 814 pc then tr_sald X 815 else trF))) else (bif Nat.blt pc 818 then (bif Nat.beq 815 pc then tr_callB X (Call (XD X) dd mi_X12_meter) 818 13 1 else trF) else (bif Nat.blt pc 819 then (bif Nat.beq 818 pc then tr_lcmp 819 else trF) else (bif Nat.beq 819 pc then tr_ifeq 822 979 else trF))))) else (bif Nat.blt pc 828 then (bif Nat.blt pc 825 then (bif Nat.blt pc 823 then (bif Nat.beq 822 pc then tr_ic 823 0 else trF) else (bif Nat.blt pc 824 then (bif Nat.beq 823 pc then tr_zret else trF) else (bif Nat.beq 824 pc then tr_aload 825 1 else trF))) else (bif Nat.blt pc 826 then (bif Nat.beq 825 pc then tr_aload 826 0 else trF) else (bif Nat.blt pc 827 then (bif Nat.beq 826 pc then tr_iload 827 3 else trF) else (bif Nat.beq 827 pc then tr_ic 828 1 else trF)))) else (bif Nat.blt pc 833 then (bif Nat.blt pc 829 then (bif Nat.beq 828 pc then tr_iadd 829 else trF) else (bif Nat.blt pc 830 then (bif Nat.beq 829 pc then tr_sald X 830 else trF) else (bif Nat.beq 830 pc then tr_callB X (Call (XD X) dd mi_X11_back) 833 12 1 else trF))) else (bif Nat.blt pc 834 then (bif Nat.beq 833 pc then tr_aload 834 2 else trF) else (bif Nat.blt pc 835 then (bif Nat.beq 834 pc then tr_aload 835 0 else trF) else (bif Nat.beq 835 pc then tr_iload 836 3 else trF)))))
theorem k_L_804 {X : LX} {dd : Nat} (hX : LC X) (hdd : dd ≤ 2000) : TrL X 804 (tr_iadd 805) := kl_iadd hX (show decode code 804 = .ok (.iadd, 1) from by decide +kernel)
theorem k_L_805 {X : LX} {dd : Nat} (hX : LC X) (hdd : dd ≤ 2000) : TrL X 805 (tr_sald X 806) := kl_sald hX (show decode code 805 = .ok (.iaload, 1) from by decide +kernel)
theorem k_L_806 {X : LX} {dd : Nat} (hX : LC X) (hdd : dd ≤ 2000) : TrL X 806 (tr_callB X (Call (XD X) dd mi_X11_meter) 809 12 1) := kl_callV hX (ci := 11) hdd (show decode code 806 = .ok (.invokevirtual 95, 3) from by decide +kernel) mok_X11_meter rfl rfl (gm 712 (by decide +kernel) rfl) (gm 713 (by decide +kernel) rfl) (gm 714 (by decide +kernel) rfl)
theorem k_L_809 {X : LX} {dd : Nat} (hX : LC X) (hdd : dd ≤ 2000) : TrL X 809 (tr_aload 810 2) := kl_aload_n hX (show decode code 809 = .ok (.aload_n 2, 1) from by decide +kernel) rfl
theorem k_L_810 {X : LX} {dd : Nat} (hX : LC X) (hdd : dd ≤ 2000) : TrL X 810 (tr_aload 811 0) := kl_aload_n hX (show decode code 810 = .ok (.aload_n 0, 1) from by decide +kernel) rfl
theorem k_L_811 {X : LX} {dd : Nat} (hX : LC X) (hdd : dd ≤ 2000) : TrL X 811 (tr_iload 812 3) := kl_iload_n hX (show decode code 811 = .ok (.iload_n 3, 1) from by decide +kernel) rfl
theorem k_L_812 {X : LX} {dd : Nat} (hX : LC X) (hdd : dd ≤ 2000) : TrL X 812 (tr_ic 813 1) := kl_iconst hX (show decode code 812 = .ok (.iconst 1, 1) from by decide +kernel) rfl
theorem k_L_813 {X : LX} {dd : Nat} (hX : LC X) (hdd : dd ≤ 2000) : TrL X 813 (tr_iadd 814) := kl_iadd hX (show decode code 813 = .ok (.iadd, 1) from by decide +kernel)
theorem k_L_814 {X : LX} {dd : Nat} (hX : LC X) (hdd : dd ≤ 2000) : TrL X 814 (tr_sald X 815) := kl_sald hX (show decode code 814 = .ok (.iaload, 1) from by decide +kernel)
theorem k_L_815 {X : LX} {dd : Nat} (hX : LC X) (hdd : dd ≤ 2000) : TrL X 815 (tr_callB X (Call (XD X) dd mi_X12_meter) 818 13 1) := kl_callV hX (ci := 12) hdd (show decode code 815 = .ok (.invokevirtual 98, 3) from by decide +kernel) mok_X12_meter rfl rfl (gm 1070 (by decide +kernel) rfl) (gm 1071 (by decide +kernel) rfl) (gm 1072 (by decide +kernel) rfl)
theorem k_L_818 {X : LX} {dd : Nat} (hX : LC X) (hdd : dd ≤ 2000) : TrL X 818 (tr_lcmp 819) := kl_lcmp hX (show decode code 818 = .ok (.lcmp, 1) from by decide +kernel)
theorem k_L_819 {X : LX} {dd : Nat} (hX : LC X) (hdd : dd ≤ 2000) : TrL X 819 (tr_ifeq 822 979) := kl_ifeq hX (show decode code 819 = .ok (.ifCond .eq 160, 3) from by decide +kernel) (by decide)
theorem k_L_822 {X : LX} {dd : Nat} (hX : LC X) (hdd : dd ≤ 2000) : TrL X 822 (tr_ic 823 0) := kl_iconst hX (show decode code 822 = .ok (.iconst 0, 1) from by decide +kernel) rfl
theorem k_L_823 {X : LX} {dd : Nat} (hX : LC X) (hdd : dd ≤ 2000) : TrL X 823 (tr_zret) := kl_zret hX (show decode code 823 = .ok (.ireturn, 1) from by decide +kernel)
theorem k_L_824 {X : LX} {dd : Nat} (hX : LC X) (hdd : dd ≤ 2000) : TrL X 824 (tr_aload 825 1) := kl_aload_n hX (show decode code 824 = .ok (.aload_n 1, 1) from by decide +kernel) rfl
theorem k_L_825 {X : LX} {dd : Nat} (hX : LC X) (hdd : dd ≤ 2000) : TrL X 825 (tr_aload 826 0) := kl_aload_n hX (show decode code 825 = .ok (.aload_n 0, 1) from by decide +kernel) rfl
theorem k_L_826 {X : LX} {dd : Nat} (hX : LC X) (hdd : dd ≤ 2000) : TrL X 826 (tr_iload 827 3) := kl_iload_n hX (show decode code 826 = .ok (.iload_n 3, 1) from by decide +kernel) rfl
theorem k_L_827 {X : LX} {dd : Nat} (hX : LC X) (hdd : dd ≤ 2000) : TrL X 827 (tr_ic 828 1) := kl_iconst hX (show decode code 827 = .ok (.iconst 1, 1) from by decide +kernel) rfl
theorem k_L_828 {X : LX} {dd : Nat} (hX : LC X) (hdd : dd ≤ 2000) : TrL X 828 (tr_iadd 829) := kl_iadd hX (show decode code 828 = .ok (.iadd, 1) from by decide +kernel)
theorem k_L_829 {X : LX} {dd : Nat} (hX : LC X) (hdd : dd ≤ 2000) : TrL X 829 (tr_sald X 830) := kl_sald hX (show decode code 829 = .ok (.iaload, 1) from by decide +kernel)
theorem k_L_830 {X : LX} {dd : Nat} (hX : LC X) (hdd : dd ≤ 2000) : TrL X 830 (tr_callB X (Call (XD X) dd mi_X11_back) 833 12 1) := kl_callV hX (ci := 11) hdd (show decode code 830 = .ok (.invokevirtual 99, 3) from by decide +kernel) mok_X11_back rfl rfl (gm 716 (by decide +kernel) rfl) (gm 717 (by decide +kernel) rfl) (gm 718 (by decide +kernel) rfl)
theorem k_L_833 {X : LX} {dd : Nat} (hX : LC X) (hdd : dd ≤ 2000) : TrL X 833 (tr_aload 834 2) := kl_aload_n hX (show decode code 833 = .ok (.aload_n 2, 1) from by decide +kernel) rfl
theorem k_L_834 {X : LX} {dd : Nat} (hX : LC X) (hdd : dd ≤ 2000) : TrL X 834 (tr_aload 835 0) := kl_aload_n hX (show decode code 834 = .ok (.aload_n 0, 1) from by decide +kernel) rfl
theorem k_L_835 {X : LX} {dd : Nat} (hX : LC X) (hdd : dd ≤ 2000) : TrL X 835 (tr_iload 836 3) := kl_iload_n hX (show decode code 835 = .ok (.iload_n 3, 1) from by decide +kernel) rfl
theorem tbk_L_23 {X : LX} {dd : Nat} (hX : LC X) (hdd : dd ≤ 2000) (pc : Nat) : TrL X pc (tb_L_23 X dd pc) := kt_b (kt_b (kt_b (kt_b (kt_l (k_L_804 hX hdd)) (kt_b (kt_l (k_L_805 hX hdd)) (kt_l (k_L_806 hX hdd)))) (kt_b (kt_l (k_L_809 hX hdd)) (kt_b (kt_l (k_L_810 hX hdd)) (kt_l (k_L_811 hX hdd))))) (kt_b (kt_b (kt_l (k_L_812 hX hdd)) (kt_b (kt_l (k_L_813 hX hdd)) (kt_l (k_L_814 hX hdd)))) (kt_b (kt_l (k_L_815 hX hdd)) (kt_b (kt_l (k_L_818 hX hdd)) (kt_l (k_L_819 hX hdd)))))) (kt_b (kt_b (kt_b (kt_l (k_L_822 hX hdd)) (kt_b (kt_l (k_L_823 hX hdd)) (kt_l (k_L_824 hX hdd)))) (kt_b (kt_l (k_L_825 hX hdd)) (kt_b (kt_l (k_L_826 hX hdd)) (kt_l (k_L_827 hX hdd))))) (kt_b (kt_b (kt_l (k_L_828 hX hdd)) (kt_b (kt_l (k_L_829 hX hdd)) (kt_l (k_L_830 hX hdd)))) (kt_b (kt_l (k_L_833 hX hdd)) (kt_b (kt_l (k_L_834 hX hdd)) (kt_l (k_L_835 hX hdd))))))
def tb_L_24 (X : LX) (dd : Nat) (pc : Nat) : Tr := bif Nat.blt pc 852 then (bif Nat.blt pc 846 then (bif Nat.blt pc 839 then (bif Nat.blt pc 837 then (bif Nat.beq 836 pc then tr_ic 837 1 else trF) else (bif Nat.blt pc 838 then (bif Nat.beq 837 pc then tr_iadd 838 else trF) else (bif Nat.beq 838 pc then tr_sald X 839 else trF))) else (bif Nat.blt pc 842 then (bif Nat.beq 839 pc then tr_callB X (Call (XD X) dd mi_X12_back) 842 13 1 else trF) else (bif Nat.blt pc 845 then (bif Nat.beq 842 pc then tr_iceq 845 979 else trF) else (bif Nat.beq 845 pc then tr_ic 846 0 else trF)))) else (bif Nat.blt pc 849 then (bif Nat.blt pc 847 then (bif Nat.beq 846 pc then tr_zret else trF) else (bif Nat.blt pc 848 then (bif Nat.beq 847 pc then tr_aload 848 1 else trF) else (bif Nat.beq 848 pc then tr_aload 849 0 else trF))) else (bif Nat.blt pc 850 then (bif Nat.beq 849 pc then tr_iload 850 3 else trF) else (bif Nat.blt pc 851 then (bif Nat.beq 850 pc then tr_ic 851 1 else trF) else (bif Nat.beq 851 pc then tr_iadd 852 else trF))))) else (bif Nat.blt pc 858 then (bif Nat.blt pc 855 then (bif Nat.blt pc 853 then (bif Nat.beq 852 pc then tr_sald X 853 else trF) else (bif Nat.blt pc 854 then (bif Nat.beq 853 pc then tr_aload 854 0 else trF) else (bif Nat.beq 854 pc then tr_iload 855 3 else trF))) else (bif Nat.blt pc 856 then (bif Nat.beq 855 pc then tr_ic 856 2 else trF) else (bif Nat.blt pc 857 then (bif Nat.beq 856 pc then tr_iadd 857 else trF) else (bif Nat.beq 857 pc then tr_sald X 858 else trF)))) else (bif Nat.blt pc 863 then (bif Nat.blt pc 861 then (bif Nat.beq 858 pc then tr_callB X (Call (XD X) dd mi_X11_listener) 861 12 2 else trF) else (bif Nat.blt pc 862 then (bif Nat.beq 861 pc then tr_aload 862 2 else trF) else (bif Nat.beq 862 pc then tr_aload 863 0 else trF))) else (bif Nat.blt pc 864 then (bif Nat.beq 863 pc then tr_iload 864 3 else trF) else (bif Nat.blt pc 865 then (bif Nat.beq 864 pc then tr_ic 865 1 else trF) else (bif Nat.beq 865 pc then tr_iadd 866 else trF)))))
theorem k_L_836 {X : LX} {dd : Nat} (hX : LC X) (hdd : dd ≤ 2000) : TrL X 836 (tr_ic 837 1) := kl_iconst hX (show decode code 836 = .ok (.iconst 1, 1) from by decide +kernel) rfl
theorem k_L_837 {X : LX} {dd : Nat} (hX : LC X) (hdd : dd ≤ 2000) : TrL X 837 (tr_iadd 838) := kl_iadd hX (show decode code 837 = .ok (.iadd, 1) from by decide +kernel)
theorem k_L_838 {X : LX} {dd : Nat} (hX : LC X) (hdd : dd ≤ 2000) : TrL X 838 (tr_sald X 839) := kl_sald hX (show decode code 838 = .ok (.iaload, 1) from by decide +kernel)
theorem k_L_839 {X : LX} {dd : Nat} (hX : LC X) (hdd : dd ≤ 2000) : TrL X 839 (tr_callB X (Call (XD X) dd mi_X12_back) 842 13 1) := kl_callV hX (ci := 12) hdd (show decode code 839 = .ok (.invokevirtual 102, 3) from by decide +kernel) mok_X12_back rfl rfl (gm 1074 (by decide +kernel) rfl) (gm 1075 (by decide +kernel) rfl) (gm 1076 (by decide +kernel) rfl)
theorem k_L_842 {X : LX} {dd : Nat} (hX : LC X) (hdd : dd ≤ 2000) : TrL X 842 (tr_iceq 845 979) := kl_iceq hX (show decode code 842 = .ok (.if_icmp .eq 137, 3) from by decide +kernel) (by decide)
theorem k_L_845 {X : LX} {dd : Nat} (hX : LC X) (hdd : dd ≤ 2000) : TrL X 845 (tr_ic 846 0) := kl_iconst hX (show decode code 845 = .ok (.iconst 0, 1) from by decide +kernel) rfl
theorem k_L_846 {X : LX} {dd : Nat} (hX : LC X) (hdd : dd ≤ 2000) : TrL X 846 (tr_zret) := kl_zret hX (show decode code 846 = .ok (.ireturn, 1) from by decide +kernel)
theorem k_L_847 {X : LX} {dd : Nat} (hX : LC X) (hdd : dd ≤ 2000) : TrL X 847 (tr_aload 848 1) := kl_aload_n hX (show decode code 847 = .ok (.aload_n 1, 1) from by decide +kernel) rfl
theorem k_L_848 {X : LX} {dd : Nat} (hX : LC X) (hdd : dd ≤ 2000) : TrL X 848 (tr_aload 849 0) := kl_aload_n hX (show decode code 848 = .ok (.aload_n 0, 1) from by decide +kernel) rfl
theorem k_L_849 {X : LX} {dd : Nat} (hX : LC X) (hdd : dd ≤ 2000) : TrL X 849 (tr_iload 850 3) := kl_iload_n hX (show decode code 849 = .ok (.iload_n 3, 1) from by decide +kernel) rfl
theorem k_L_850 {X : LX} {dd : Nat} (hX : LC X) (hdd : dd ≤ 2000) : TrL X 850 (tr_ic 851 1) := kl_iconst hX (show decode code 850 = .ok (.iconst 1, 1) from by decide +kernel) rfl
theorem k_L_851 {X : LX} {dd : Nat} (hX : LC X) (hdd : dd ≤ 2000) : TrL X 851 (tr_iadd 852) := kl_iadd hX (show decode code 851 = .ok (.iadd, 1) from by decide +kernel)
theorem k_L_852 {X : LX} {dd : Nat} (hX : LC X) (hdd : dd ≤ 2000) : TrL X 852 (tr_sald X 853) := kl_sald hX (show decode code 852 = .ok (.iaload, 1) from by decide +kernel)
theorem k_L_853 {X : LX} {dd : Nat} (hX : LC X) (hdd : dd ≤ 2000) : TrL X 853 (tr_aload 854 0) := kl_aload_n hX (show decode code 853 = .ok (.aload_n 0, 1) from by decide +kernel) rfl
theorem k_L_854 {X : LX} {dd : Nat} (hX : LC X) (hdd : dd ≤ 2000) : TrL X 854 (tr_iload 855 3) := kl_iload_n hX (show decode code 854 = .ok (.iload_n 3, 1) from by decide +kernel) rfl
theorem k_L_855 {X : LX} {dd : Nat} (hX : LC X) (hdd : dd ≤ 2000) : TrL X 855 (tr_ic 856 2) := kl_iconst hX (show decode code 855 = .ok (.iconst 2, 1) from by decide +kernel) rfl
theorem k_L_856 {X : LX} {dd : Nat} (hX : LC X) (hdd : dd ≤ 2000) : TrL X 856 (tr_iadd 857) := kl_iadd hX (show decode code 856 = .ok (.iadd, 1) from by decide +kernel)
theorem k_L_857 {X : LX} {dd : Nat} (hX : LC X) (hdd : dd ≤ 2000) : TrL X 857 (tr_sald X 858) := kl_sald hX (show decode code 857 = .ok (.iaload, 1) from by decide +kernel)
theorem k_L_858 {X : LX} {dd : Nat} (hX : LC X) (hdd : dd ≤ 2000) : TrL X 858 (tr_callB X (Call (XD X) dd mi_X11_listener) 861 12 2) := kl_callV hX (ci := 11) hdd (show decode code 858 = .ok (.invokevirtual 103, 3) from by decide +kernel) mok_X11_listener rfl rfl (gm 727 (by decide +kernel) rfl) (gm 728 (by decide +kernel) rfl) (gm 729 (by decide +kernel) rfl)
theorem k_L_861 {X : LX} {dd : Nat} (hX : LC X) (hdd : dd ≤ 2000) : TrL X 861 (tr_aload 862 2) := kl_aload_n hX (show decode code 861 = .ok (.aload_n 2, 1) from by decide +kernel) rfl
theorem k_L_862 {X : LX} {dd : Nat} (hX : LC X) (hdd : dd ≤ 2000) : TrL X 862 (tr_aload 863 0) := kl_aload_n hX (show decode code 862 = .ok (.aload_n 0, 1) from by decide +kernel) rfl
theorem k_L_863 {X : LX} {dd : Nat} (hX : LC X) (hdd : dd ≤ 2000) : TrL X 863 (tr_iload 864 3) := kl_iload_n hX (show decode code 863 = .ok (.iload_n 3, 1) from by decide +kernel) rfl
theorem k_L_864 {X : LX} {dd : Nat} (hX : LC X) (hdd : dd ≤ 2000) : TrL X 864 (tr_ic 865 1) := kl_iconst hX (show decode code 864 = .ok (.iconst 1, 1) from by decide +kernel) rfl
theorem k_L_865 {X : LX} {dd : Nat} (hX : LC X) (hdd : dd ≤ 2000) : TrL X 865 (tr_iadd 866) := kl_iadd hX (show decode code 865 = .ok (.iadd, 1) from by decide +kernel)
theorem tbk_L_24 {X : LX} {dd : Nat} (hX : LC X) (hdd : dd ≤ 2000) (pc : Nat) : TrL X pc (tb_L_24 X dd pc) := kt_b (kt_b (kt_b (kt_b (kt_l (k_L_836 hX hdd)) (kt_b (kt_l (k_L_837 hX hdd)) (kt_l (k_L_838 hX hdd)))) (kt_b (kt_l (k_L_839 hX hdd)) (kt_b (kt_l (k_L_842 hX hdd)) (kt_l (k_L_845 hX hdd))))) (kt_b (kt_b (kt_l (k_L_846 hX hdd)) (kt_b (kt_l (k_L_847 hX hdd)) (kt_l (k_L_848 hX hdd)))) (kt_b (kt_l (k_L_849 hX hdd)) (kt_b (kt_l (k_L_850 hX hdd)) (kt_l (k_L_851 hX hdd)))))) (kt_b (kt_b (kt_b (kt_l (k_L_852 hX hdd)) (kt_b (kt_l (k_L_853 hX hdd)) (kt_l (k_L_854 hX hdd)))) (kt_b (kt_l (k_L_855 hX hdd)) (kt_b (kt_l (k_L_856 hX hdd)) (kt_l (k_L_857 hX hdd))))) (kt_b (kt_b (kt_l (k_L_858 hX hdd)) (kt_b (kt_l (k_L_861 hX hdd)) (kt_l (k_L_862 hX hdd)))) (kt_b (kt_l (k_L_863 hX hdd)) (kt_b (kt_l (k_L_864 hX hdd)) (kt_l (k_L_865 hX hdd))))))
def tb_L_25 (X : LX) (dd : Nat) (pc : Nat) : Tr := bif Nat.blt pc 882 then (bif Nat.blt pc 872 then (bif Nat.blt pc 869 then (bif Nat.blt pc 867 then (bif Nat.beq 866 pc then tr_sald X 867 else trF) else (bif Nat.blt pc 868 then (bif Nat.beq 867 pc then tr_aload 868 0 else trF) else (bif Nat.beq 868 pc then tr_iload 869 3 else trF))) else (bif Nat.blt pc 870 then (bif Nat.beq 869 pc then tr_ic 870 2 else trF) else (bif Nat.blt pc 871 then (bif Nat.beq 870 pc then tr_iadd 871 else trF) else (bif Nat.beq 871 pc then tr_sald X 872 else trF)))) else (bif Nat.blt pc 879 then (bif Nat.blt pc 875 then (bif Nat.beq 872 pc then tr_callB X (Call (XD X) dd mi_X12_listener) 875 13 2 else trF) else (bif Nat.blt pc 878 then (bif Nat.beq 875 pc then tr_iceq 878 979 else trF) else (bif Nat.beq 878 pc then tr_ic 879 0 else trF))) else (bif Nat.blt pc 880 then (bif Nat.beq 879 pc then tr_zret else trF) else (bif Nat.blt pc 881 then (bif Nat.beq 880 pc then tr_aload 881 1 else trF) else (bif Nat.beq 881 pc then tr_aload 882 0 else trF))))) else (bif Nat.blt pc 888 then (bif Nat.blt pc 885 then (bif Nat.blt pc 883 then (bif Nat.beq 882 pc then tr_iload 883 3 else trF) else (bif Nat.blt pc 884 then (bif Nat.beq 883 pc then tr_ic 884 1 else trF) else (bif Nat.beq 884 pc then tr_iadd 885 else trF))) else (bif Nat.blt pc 886 then (bif Nat.beq 885 pc then tr_sald X 886 else trF) else (bif Nat.blt pc 887 then (bif Nat.beq 886 pc then tr_aload 887 0 else trF) else (bif Nat.beq 887 pc then tr_iload 888 3 else trF)))) else (bif Nat.blt pc 891 then (bif Nat.blt pc 889 then (bif Nat.beq 888 pc then tr_ic 889 2 else trF) else (bif Nat.blt pc 890 then (bif Nat.beq 889 pc then tr_iadd 890 else trF) else (bif Nat.beq 890 pc then tr_sald X 891 else trF))) else (bif Nat.blt pc 892 then (bif Nat.beq 891 pc then tr_aload 892 0 else trF) else (bif Nat.blt pc 893 then (bif Nat.beq 892 pc then tr_iload 893 3 else trF) else (bif Nat.beq 893 pc then tr_ic 894 3 else trF)))))
theorem k_L_866 {X : LX} {dd : Nat} (hX : LC X) (hdd : dd ≤ 2000) : TrL X 866 (tr_sald X 867) := kl_sald hX (show decode code 866 = .ok (.iaload, 1) from by decide +kernel)
theorem k_L_867 {X : LX} {dd : Nat} (hX : LC X) (hdd : dd ≤ 2000) : TrL X 867 (tr_aload 868 0) := kl_aload_n hX (show decode code 867 = .ok (.aload_n 0, 1) from by decide +kernel) rfl
theorem k_L_868 {X : LX} {dd : Nat} (hX : LC X) (hdd : dd ≤ 2000) : TrL X 868 (tr_iload 869 3) := kl_iload_n hX (show decode code 868 = .ok (.iload_n 3, 1) from by decide +kernel) rfl
theorem k_L_869 {X : LX} {dd : Nat} (hX : LC X) (hdd : dd ≤ 2000) : TrL X 869 (tr_ic 870 2) := kl_iconst hX (show decode code 869 = .ok (.iconst 2, 1) from by decide +kernel) rfl
theorem k_L_870 {X : LX} {dd : Nat} (hX : LC X) (hdd : dd ≤ 2000) : TrL X 870 (tr_iadd 871) := kl_iadd hX (show decode code 870 = .ok (.iadd, 1) from by decide +kernel)
theorem k_L_871 {X : LX} {dd : Nat} (hX : LC X) (hdd : dd ≤ 2000) : TrL X 871 (tr_sald X 872) := kl_sald hX (show decode code 871 = .ok (.iaload, 1) from by decide +kernel)
theorem k_L_872 {X : LX} {dd : Nat} (hX : LC X) (hdd : dd ≤ 2000) : TrL X 872 (tr_callB X (Call (XD X) dd mi_X12_listener) 875 13 2) := kl_callV hX (ci := 12) hdd (show decode code 872 = .ok (.invokevirtual 106, 3) from by decide +kernel) mok_X12_listener rfl rfl (gm 1079 (by decide +kernel) rfl) (gm 1080 (by decide +kernel) rfl) (gm 1081 (by decide +kernel) rfl)
theorem k_L_875 {X : LX} {dd : Nat} (hX : LC X) (hdd : dd ≤ 2000) : TrL X 875 (tr_iceq 878 979) := kl_iceq hX (show decode code 875 = .ok (.if_icmp .eq 104, 3) from by decide +kernel) (by decide)
theorem k_L_878 {X : LX} {dd : Nat} (hX : LC X) (hdd : dd ≤ 2000) : TrL X 878 (tr_ic 879 0) := kl_iconst hX (show decode code 878 = .ok (.iconst 0, 1) from by decide +kernel) rfl
theorem k_L_879 {X : LX} {dd : Nat} (hX : LC X) (hdd : dd ≤ 2000) : TrL X 879 (tr_zret) := kl_zret hX (show decode code 879 = .ok (.ireturn, 1) from by decide +kernel)
theorem k_L_880 {X : LX} {dd : Nat} (hX : LC X) (hdd : dd ≤ 2000) : TrL X 880 (tr_aload 881 1) := kl_aload_n hX (show decode code 880 = .ok (.aload_n 1, 1) from by decide +kernel) rfl
theorem k_L_881 {X : LX} {dd : Nat} (hX : LC X) (hdd : dd ≤ 2000) : TrL X 881 (tr_aload 882 0) := kl_aload_n hX (show decode code 881 = .ok (.aload_n 0, 1) from by decide +kernel) rfl
theorem k_L_882 {X : LX} {dd : Nat} (hX : LC X) (hdd : dd ≤ 2000) : TrL X 882 (tr_iload 883 3) := kl_iload_n hX (show decode code 882 = .ok (.iload_n 3, 1) from by decide +kernel) rfl
theorem k_L_883 {X : LX} {dd : Nat} (hX : LC X) (hdd : dd ≤ 2000) : TrL X 883 (tr_ic 884 1) := kl_iconst hX (show decode code 883 = .ok (.iconst 1, 1) from by decide +kernel) rfl
theorem k_L_884 {X : LX} {dd : Nat} (hX : LC X) (hdd : dd ≤ 2000) : TrL X 884 (tr_iadd 885) := kl_iadd hX (show decode code 884 = .ok (.iadd, 1) from by decide +kernel)
theorem k_L_885 {X : LX} {dd : Nat} (hX : LC X) (hdd : dd ≤ 2000) : TrL X 885 (tr_sald X 886) := kl_sald hX (show decode code 885 = .ok (.iaload, 1) from by decide +kernel)
theorem k_L_886 {X : LX} {dd : Nat} (hX : LC X) (hdd : dd ≤ 2000) : TrL X 886 (tr_aload 887 0) := kl_aload_n hX (show decode code 886 = .ok (.aload_n 0, 1) from by decide +kernel) rfl
theorem k_L_887 {X : LX} {dd : Nat} (hX : LC X) (hdd : dd ≤ 2000) : TrL X 887 (tr_iload 888 3) := kl_iload_n hX (show decode code 887 = .ok (.iload_n 3, 1) from by decide +kernel) rfl
theorem k_L_888 {X : LX} {dd : Nat} (hX : LC X) (hdd : dd ≤ 2000) : TrL X 888 (tr_ic 889 2) := kl_iconst hX (show decode code 888 = .ok (.iconst 2, 1) from by decide +kernel) rfl
theorem k_L_889 {X : LX} {dd : Nat} (hX : LC X) (hdd : dd ≤ 2000) : TrL X 889 (tr_iadd 890) := kl_iadd hX (show decode code 889 = .ok (.iadd, 1) from by decide +kernel)
theorem k_L_890 {X : LX} {dd : Nat} (hX : LC X) (hdd : dd ≤ 2000) : TrL X 890 (tr_sald X 891) := kl_sald hX (show decode code 890 = .ok (.iaload, 1) from by decide +kernel)
theorem k_L_891 {X : LX} {dd : Nat} (hX : LC X) (hdd : dd ≤ 2000) : TrL X 891 (tr_aload 892 0) := kl_aload_n hX (show decode code 891 = .ok (.aload_n 0, 1) from by decide +kernel) rfl
theorem k_L_892 {X : LX} {dd : Nat} (hX : LC X) (hdd : dd ≤ 2000) : TrL X 892 (tr_iload 893 3) := kl_iload_n hX (show decode code 892 = .ok (.iload_n 3, 1) from by decide +kernel) rfl
theorem k_L_893 {X : LX} {dd : Nat} (hX : LC X) (hdd : dd ≤ 2000) : TrL X 893 (tr_ic 894 3) := kl_iconst hX (show decode code 893 = .ok (.iconst 3, 1) from by decide +kernel) rfl
theorem tbk_L_25 {X : LX} {dd : Nat} (hX : LC X) (hdd : dd ≤ 2000) (pc : Nat) : TrL X pc (tb_L_25 X dd pc) := kt_b (kt_b (kt_b (kt_b (kt_l (k_L_866 hX hdd)) (kt_b (kt_l (k_L_867 hX hdd)) (kt_l (k_L_868 hX hdd)))) (kt_b (kt_l (k_L_869 hX hdd)) (kt_b (kt_l (k_L_870 hX hdd)) (kt_l (k_L_871 hX hdd))))) (kt_b (kt_b (kt_l (k_L_872 hX hdd)) (kt_b (kt_l (k_L_875 hX hdd)) (kt_l (k_L_878 hX hdd)))) (kt_b (kt_l (k_L_879 hX hdd)) (kt_b (kt_l (k_L_880 hX hdd)) (kt_l (k_L_881 hX hdd)))))) (kt_b (kt_b (kt_b (kt_l (k_L_882 hX hdd)) (kt_b (kt_l (k_L_883 hX hdd)) (kt_l (k_L_884 hX hdd)))) (kt_b (kt_l (k_L_885 hX hdd)) (kt_b (kt_l (k_L_886 hX hdd)) (kt_l (k_L_887 hX hdd))))) (kt_b (kt_b (kt_l (k_L_888 hX hdd)) (kt_b (kt_l (k_L_889 hX hdd)) (kt_l (k_L_890 hX hdd)))) (kt_b (kt_l (k_L_891 hX hdd)) (kt_b (kt_l (k_L_892 hX hdd)) (kt_l (k_L_893 hX hdd))))))
def tb_L_26 (X : LX) (dd : Nat) (pc : Nat) : Tr := bif Nat.blt pc 908 then (bif Nat.blt pc 902 then (bif Nat.blt pc 899 then (bif Nat.blt pc 895 then (bif Nat.beq 894 pc then tr_iadd 895 else trF) else (bif Nat.blt pc 896 then (bif Nat.beq 895 pc then tr_sald X 896 else trF) else (bif Nat.beq 896 pc then tr_callB X (Call (XD X) dd mi_X11_turn) 899 12 3 else trF))) else (bif Nat.blt pc 900 then (bif Nat.beq 899 pc then tr_aload 900 2 else trF) else (bif Nat.blt pc 901 then (bif Nat.beq 900 pc then tr_aload 901 0 else trF) else (bif Nat.beq 901 pc then tr_iload 902 3 else trF)))) else (bif Nat.blt pc 905 then (bif Nat.blt pc 903 then (bif Nat.beq 902 pc then tr_ic 903 1 else trF) else (bif Nat.blt pc 904 then (bif Nat.beq 903 pc then tr_iadd 904 else trF) else (bif Nat.beq 904 pc then tr_sald X 905 else trF))) else (bif Nat.blt pc 906 then (bif Nat.beq 905 pc then tr_aload 906 0 else trF) else (bif Nat.blt pc 907 then (bif Nat.beq 906 pc then tr_iload 907 3 else trF) else (bif Nat.beq 907 pc then tr_ic 908 2 else trF))))) else (bif Nat.blt pc 914 then (bif Nat.blt pc 911 then (bif Nat.blt pc 909 then (bif Nat.beq 908 pc then tr_iadd 909 else trF) else (bif Nat.blt pc 910 then (bif Nat.beq 909 pc then tr_sald X 910 else trF) else (bif Nat.beq 910 pc then tr_aload 911 0 else trF))) else (bif Nat.blt pc 912 then (bif Nat.beq 911 pc then tr_iload 912 3 else trF) else (bif Nat.blt pc 913 then (bif Nat.beq 912 pc then tr_ic 913 3 else trF) else (bif Nat.beq 913 pc then tr_iadd 914 else trF)))) else (bif Nat.blt pc 921 then (bif Nat.blt pc 915 then (bif Nat.beq 914 pc then tr_sald X 915 else trF) else (bif Nat.blt pc 918 then (bif Nat.beq 915 pc then tr_callB X (Call (XD X) dd mi_X12_turn) 918 13 3 else trF) else (bif Nat.beq 918 pc then tr_iceq 921 979 else trF))) else (bif Nat.blt pc 922 then (bif Nat.beq 921 pc then tr_ic 922 0 else trF) else (bif Nat.blt pc 923 then (bif Nat.beq 922 pc then tr_zret else trF) else (bif Nat.beq 923 pc then tr_aload 924 1 else trF)))))
theorem k_L_894 {X : LX} {dd : Nat} (hX : LC X) (hdd : dd ≤ 2000) : TrL X 894 (tr_iadd 895) := kl_iadd hX (show decode code 894 = .ok (.iadd, 1) from by decide +kernel)
theorem k_L_895 {X : LX} {dd : Nat} (hX : LC X) (hdd : dd ≤ 2000) : TrL X 895 (tr_sald X 896) := kl_sald hX (show decode code 895 = .ok (.iaload, 1) from by decide +kernel)
theorem k_L_896 {X : LX} {dd : Nat} (hX : LC X) (hdd : dd ≤ 2000) : TrL X 896 (tr_callB X (Call (XD X) dd mi_X11_turn) 899 12 3) := kl_callV hX (ci := 11) hdd (show decode code 896 = .ok (.invokevirtual 107, 3) from by decide +kernel) mok_X11_turn rfl rfl (gm 731 (by decide +kernel) rfl) (gm 732 (by decide +kernel) rfl) (gm 733 (by decide +kernel) rfl)
theorem k_L_899 {X : LX} {dd : Nat} (hX : LC X) (hdd : dd ≤ 2000) : TrL X 899 (tr_aload 900 2) := kl_aload_n hX (show decode code 899 = .ok (.aload_n 2, 1) from by decide +kernel) rfl
theorem k_L_900 {X : LX} {dd : Nat} (hX : LC X) (hdd : dd ≤ 2000) : TrL X 900 (tr_aload 901 0) := kl_aload_n hX (show decode code 900 = .ok (.aload_n 0, 1) from by decide +kernel) rfl
theorem k_L_901 {X : LX} {dd : Nat} (hX : LC X) (hdd : dd ≤ 2000) : TrL X 901 (tr_iload 902 3) := kl_iload_n hX (show decode code 901 = .ok (.iload_n 3, 1) from by decide +kernel) rfl
theorem k_L_902 {X : LX} {dd : Nat} (hX : LC X) (hdd : dd ≤ 2000) : TrL X 902 (tr_ic 903 1) := kl_iconst hX (show decode code 902 = .ok (.iconst 1, 1) from by decide +kernel) rfl
theorem k_L_903 {X : LX} {dd : Nat} (hX : LC X) (hdd : dd ≤ 2000) : TrL X 903 (tr_iadd 904) := kl_iadd hX (show decode code 903 = .ok (.iadd, 1) from by decide +kernel)
theorem k_L_904 {X : LX} {dd : Nat} (hX : LC X) (hdd : dd ≤ 2000) : TrL X 904 (tr_sald X 905) := kl_sald hX (show decode code 904 = .ok (.iaload, 1) from by decide +kernel)
theorem k_L_905 {X : LX} {dd : Nat} (hX : LC X) (hdd : dd ≤ 2000) : TrL X 905 (tr_aload 906 0) := kl_aload_n hX (show decode code 905 = .ok (.aload_n 0, 1) from by decide +kernel) rfl
theorem k_L_906 {X : LX} {dd : Nat} (hX : LC X) (hdd : dd ≤ 2000) : TrL X 906 (tr_iload 907 3) := kl_iload_n hX (show decode code 906 = .ok (.iload_n 3, 1) from by decide +kernel) rfl
theorem k_L_907 {X : LX} {dd : Nat} (hX : LC X) (hdd : dd ≤ 2000) : TrL X 907 (tr_ic 908 2) := kl_iconst hX (show decode code 907 = .ok (.iconst 2, 1) from by decide +kernel) rfl
theorem k_L_908 {X : LX} {dd : Nat} (hX : LC X) (hdd : dd ≤ 2000) : TrL X 908 (tr_iadd 909) := kl_iadd hX (show decode code 908 = .ok (.iadd, 1) from by decide +kernel)
theorem k_L_909 {X : LX} {dd : Nat} (hX : LC X) (hdd : dd ≤ 2000) : TrL X 909 (tr_sald X 910) := kl_sald hX (show decode code 909 = .ok (.iaload, 1) from by decide +kernel)
theorem k_L_910 {X : LX} {dd : Nat} (hX : LC X) (hdd : dd ≤ 2000) : TrL X 910 (tr_aload 911 0) := kl_aload_n hX (show decode code 910 = .ok (.aload_n 0, 1) from by decide +kernel) rfl
theorem k_L_911 {X : LX} {dd : Nat} (hX : LC X) (hdd : dd ≤ 2000) : TrL X 911 (tr_iload 912 3) := kl_iload_n hX (show decode code 911 = .ok (.iload_n 3, 1) from by decide +kernel) rfl
theorem k_L_912 {X : LX} {dd : Nat} (hX : LC X) (hdd : dd ≤ 2000) : TrL X 912 (tr_ic 913 3) := kl_iconst hX (show decode code 912 = .ok (.iconst 3, 1) from by decide +kernel) rfl
theorem k_L_913 {X : LX} {dd : Nat} (hX : LC X) (hdd : dd ≤ 2000) : TrL X 913 (tr_iadd 914) := kl_iadd hX (show decode code 913 = .ok (.iadd, 1) from by decide +kernel)
theorem k_L_914 {X : LX} {dd : Nat} (hX : LC X) (hdd : dd ≤ 2000) : TrL X 914 (tr_sald X 915) := kl_sald hX (show decode code 914 = .ok (.iaload, 1) from by decide +kernel)
theorem k_L_915 {X : LX} {dd : Nat} (hX : LC X) (hdd : dd ≤ 2000) : TrL X 915 (tr_callB X (Call (XD X) dd mi_X12_turn) 918 13 3) := kl_callV hX (ci := 12) hdd (show decode code 915 = .ok (.invokevirtual 110, 3) from by decide +kernel) mok_X12_turn rfl rfl (gm 1083 (by decide +kernel) rfl) (gm 1084 (by decide +kernel) rfl) (gm 1085 (by decide +kernel) rfl)
theorem k_L_918 {X : LX} {dd : Nat} (hX : LC X) (hdd : dd ≤ 2000) : TrL X 918 (tr_iceq 921 979) := kl_iceq hX (show decode code 918 = .ok (.if_icmp .eq 61, 3) from by decide +kernel) (by decide)
theorem k_L_921 {X : LX} {dd : Nat} (hX : LC X) (hdd : dd ≤ 2000) : TrL X 921 (tr_ic 922 0) := kl_iconst hX (show decode code 921 = .ok (.iconst 0, 1) from by decide +kernel) rfl
theorem k_L_922 {X : LX} {dd : Nat} (hX : LC X) (hdd : dd ≤ 2000) : TrL X 922 (tr_zret) := kl_zret hX (show decode code 922 = .ok (.ireturn, 1) from by decide +kernel)
theorem k_L_923 {X : LX} {dd : Nat} (hX : LC X) (hdd : dd ≤ 2000) : TrL X 923 (tr_aload 924 1) := kl_aload_n hX (show decode code 923 = .ok (.aload_n 1, 1) from by decide +kernel) rfl
theorem tbk_L_26 {X : LX} {dd : Nat} (hX : LC X) (hdd : dd ≤ 2000) (pc : Nat) : TrL X pc (tb_L_26 X dd pc) := kt_b (kt_b (kt_b (kt_b (kt_l (k_L_894 hX hdd)) (kt_b (kt_l (k_L_895 hX hdd)) (kt_l (k_L_896 hX hdd)))) (kt_b (kt_l (k_L_899 hX hdd)) (kt_b (kt_l (k_L_900 hX hdd)) (kt_l (k_L_901 hX hdd))))) (kt_b (kt_b (kt_l (k_L_902 hX hdd)) (kt_b (kt_l (k_L_903 hX hdd)) (kt_l (k_L_904 hX hdd)))) (kt_b (kt_l (k_L_905 hX hdd)) (kt_b (kt_l (k_L_906 hX hdd)) (kt_l (k_L_907 hX hdd)))))) (kt_b (kt_b (kt_b (kt_l (k_L_908 hX hdd)) (kt_b (kt_l (k_L_909 hX hdd)) (kt_l (k_L_910 hX hdd)))) (kt_b (kt_l (k_L_911 hX hdd)) (kt_b (kt_l (k_L_912 hX hdd)) (kt_l (k_L_913 hX hdd))))) (kt_b (kt_b (kt_l (k_L_914 hX hdd)) (kt_b (kt_l (k_L_915 hX hdd)) (kt_l (k_L_918 hX hdd)))) (kt_b (kt_l (k_L_921 hX hdd)) (kt_b (kt_l (k_L_922 hX hdd)) (kt_l (k_L_923 hX hdd))))))
def tb_L_27 (X : LX) (dd : Nat) (pc : Nat) : Tr := bif Nat.blt pc 938 then (bif Nat.blt pc 930 then (bif Nat.blt pc 927 then (bif Nat.blt pc 925 then (bif Nat.beq 924 pc then tr_aload 925 0 else trF) else (bif Nat.blt pc 926 then (bif Nat.beq 925 pc then tr_iload 926 3 else trF) else (bif Nat.beq 926 pc then tr_ic 927 1 else trF))) else (bif Nat.blt pc 928 then (bif Nat.beq 927 pc then tr_iadd 928 else trF) else (bif Nat.blt pc 929 then (bif Nat.beq 928 pc then tr_sald X 929 else trF) else (bif Nat.beq 929 pc then tr_aload 930 0 else trF)))) else (bif Nat.blt pc 933 then (bif Nat.blt pc 931 then (bif Nat.beq 930 pc then tr_iload 931 3 else trF) else (bif Nat.blt pc 932 then (bif Nat.beq 931 pc then tr_ic 932 2 else trF) else (bif Nat.beq 932 pc then tr_iadd 933 else trF))) else (bif Nat.blt pc 934 then (bif Nat.beq 933 pc then tr_sald X 934 else trF) else (bif Nat.blt pc 937 then (bif Nat.beq 934 pc then tr_callB X (Call (XD X) dd mi_X11_under) 937 12 2 else trF) else (bif Nat.beq 937 pc then tr_aload 938 2 else trF))))) else (bif Nat.blt pc 944 then (bif Nat.blt pc 941 then (bif Nat.blt pc 939 then (bif Nat.beq 938 pc then tr_aload 939 0 else trF) else (bif Nat.blt pc 940 then (bif Nat.beq 939 pc then tr_iload 940 3 else trF) else (bif Nat.beq 940 pc then tr_ic 941 1 else trF))) else (bif Nat.blt pc 942 then (bif Nat.beq 941 pc then tr_iadd 942 else trF) else (bif Nat.blt pc 943 then (bif Nat.beq 942 pc then tr_sald X 943 else trF) else (bif Nat.beq 943 pc then tr_aload 944 0 else trF)))) else (bif Nat.blt pc 947 then (bif Nat.blt pc 945 then (bif Nat.beq 944 pc then tr_iload 945 3 else trF) else (bif Nat.blt pc 946 then (bif Nat.beq 945 pc then tr_ic 946 2 else trF) else (bif Nat.beq 946 pc then tr_iadd 947 else trF))) else (bif Nat.blt pc 948 then (bif Nat.beq 947 pc then tr_sald X 948 else trF) else (bif Nat.blt pc 951 then (bif Nat.beq 948 pc then tr_callB X (Call (XD X) dd mi_X12_under) 951 13 2 else trF) else (bif Nat.beq 951 pc then tr_iceq 954 979 else trF)))))
theorem k_L_924 {X : LX} {dd : Nat} (hX : LC X) (hdd : dd ≤ 2000) : TrL X 924 (tr_aload 925 0) := kl_aload_n hX (show decode code 924 = .ok (.aload_n 0, 1) from by decide +kernel) rfl
theorem k_L_925 {X : LX} {dd : Nat} (hX : LC X) (hdd : dd ≤ 2000) : TrL X 925 (tr_iload 926 3) := kl_iload_n hX (show decode code 925 = .ok (.iload_n 3, 1) from by decide +kernel) rfl
theorem k_L_926 {X : LX} {dd : Nat} (hX : LC X) (hdd : dd ≤ 2000) : TrL X 926 (tr_ic 927 1) := kl_iconst hX (show decode code 926 = .ok (.iconst 1, 1) from by decide +kernel) rfl
theorem k_L_927 {X : LX} {dd : Nat} (hX : LC X) (hdd : dd ≤ 2000) : TrL X 927 (tr_iadd 928) := kl_iadd hX (show decode code 927 = .ok (.iadd, 1) from by decide +kernel)
theorem k_L_928 {X : LX} {dd : Nat} (hX : LC X) (hdd : dd ≤ 2000) : TrL X 928 (tr_sald X 929) := kl_sald hX (show decode code 928 = .ok (.iaload, 1) from by decide +kernel)
theorem k_L_929 {X : LX} {dd : Nat} (hX : LC X) (hdd : dd ≤ 2000) : TrL X 929 (tr_aload 930 0) := kl_aload_n hX (show decode code 929 = .ok (.aload_n 0, 1) from by decide +kernel) rfl
theorem k_L_930 {X : LX} {dd : Nat} (hX : LC X) (hdd : dd ≤ 2000) : TrL X 930 (tr_iload 931 3) := kl_iload_n hX (show decode code 930 = .ok (.iload_n 3, 1) from by decide +kernel) rfl
theorem k_L_931 {X : LX} {dd : Nat} (hX : LC X) (hdd : dd ≤ 2000) : TrL X 931 (tr_ic 932 2) := kl_iconst hX (show decode code 931 = .ok (.iconst 2, 1) from by decide +kernel) rfl
theorem k_L_932 {X : LX} {dd : Nat} (hX : LC X) (hdd : dd ≤ 2000) : TrL X 932 (tr_iadd 933) := kl_iadd hX (show decode code 932 = .ok (.iadd, 1) from by decide +kernel)
theorem k_L_933 {X : LX} {dd : Nat} (hX : LC X) (hdd : dd ≤ 2000) : TrL X 933 (tr_sald X 934) := kl_sald hX (show decode code 933 = .ok (.iaload, 1) from by decide +kernel)
theorem k_L_934 {X : LX} {dd : Nat} (hX : LC X) (hdd : dd ≤ 2000) : TrL X 934 (tr_callB X (Call (XD X) dd mi_X11_under) 937 12 2) := kl_callV hX (ci := 11) hdd (show decode code 934 = .ok (.invokevirtual 111, 3) from by decide +kernel) mok_X11_under rfl rfl (gm 741 (by decide +kernel) rfl) (gm 742 (by decide +kernel) rfl) (gm 743 (by decide +kernel) rfl)
theorem k_L_937 {X : LX} {dd : Nat} (hX : LC X) (hdd : dd ≤ 2000) : TrL X 937 (tr_aload 938 2) := kl_aload_n hX (show decode code 937 = .ok (.aload_n 2, 1) from by decide +kernel) rfl
theorem k_L_938 {X : LX} {dd : Nat} (hX : LC X) (hdd : dd ≤ 2000) : TrL X 938 (tr_aload 939 0) := kl_aload_n hX (show decode code 938 = .ok (.aload_n 0, 1) from by decide +kernel) rfl
theorem k_L_939 {X : LX} {dd : Nat} (hX : LC X) (hdd : dd ≤ 2000) : TrL X 939 (tr_iload 940 3) := kl_iload_n hX (show decode code 939 = .ok (.iload_n 3, 1) from by decide +kernel) rfl
theorem k_L_940 {X : LX} {dd : Nat} (hX : LC X) (hdd : dd ≤ 2000) : TrL X 940 (tr_ic 941 1) := kl_iconst hX (show decode code 940 = .ok (.iconst 1, 1) from by decide +kernel) rfl
theorem k_L_941 {X : LX} {dd : Nat} (hX : LC X) (hdd : dd ≤ 2000) : TrL X 941 (tr_iadd 942) := kl_iadd hX (show decode code 941 = .ok (.iadd, 1) from by decide +kernel)
theorem k_L_942 {X : LX} {dd : Nat} (hX : LC X) (hdd : dd ≤ 2000) : TrL X 942 (tr_sald X 943) := kl_sald hX (show decode code 942 = .ok (.iaload, 1) from by decide +kernel)
theorem k_L_943 {X : LX} {dd : Nat} (hX : LC X) (hdd : dd ≤ 2000) : TrL X 943 (tr_aload 944 0) := kl_aload_n hX (show decode code 943 = .ok (.aload_n 0, 1) from by decide +kernel) rfl
theorem k_L_944 {X : LX} {dd : Nat} (hX : LC X) (hdd : dd ≤ 2000) : TrL X 944 (tr_iload 945 3) := kl_iload_n hX (show decode code 944 = .ok (.iload_n 3, 1) from by decide +kernel) rfl
theorem k_L_945 {X : LX} {dd : Nat} (hX : LC X) (hdd : dd ≤ 2000) : TrL X 945 (tr_ic 946 2) := kl_iconst hX (show decode code 945 = .ok (.iconst 2, 1) from by decide +kernel) rfl
theorem k_L_946 {X : LX} {dd : Nat} (hX : LC X) (hdd : dd ≤ 2000) : TrL X 946 (tr_iadd 947) := kl_iadd hX (show decode code 946 = .ok (.iadd, 1) from by decide +kernel)
theorem k_L_947 {X : LX} {dd : Nat} (hX : LC X) (hdd : dd ≤ 2000) : TrL X 947 (tr_sald X 948) := kl_sald hX (show decode code 947 = .ok (.iaload, 1) from by decide +kernel)
theorem k_L_948 {X : LX} {dd : Nat} (hX : LC X) (hdd : dd ≤ 2000) : TrL X 948 (tr_callB X (Call (XD X) dd mi_X12_under) 951 13 2) := kl_callV hX (ci := 12) hdd (show decode code 948 = .ok (.invokevirtual 114, 3) from by decide +kernel) mok_X12_under rfl rfl (gm 1087 (by decide +kernel) rfl) (gm 1088 (by decide +kernel) rfl) (gm 1089 (by decide +kernel) rfl)
theorem k_L_951 {X : LX} {dd : Nat} (hX : LC X) (hdd : dd ≤ 2000) : TrL X 951 (tr_iceq 954 979) := kl_iceq hX (show decode code 951 = .ok (.if_icmp .eq 28, 3) from by decide +kernel) (by decide)
theorem tbk_L_27 {X : LX} {dd : Nat} (hX : LC X) (hdd : dd ≤ 2000) (pc : Nat) : TrL X pc (tb_L_27 X dd pc) := kt_b (kt_b (kt_b (kt_b (kt_l (k_L_924 hX hdd)) (kt_b (kt_l (k_L_925 hX hdd)) (kt_l (k_L_926 hX hdd)))) (kt_b (kt_l (k_L_927 hX hdd)) (kt_b (kt_l (k_L_928 hX hdd)) (kt_l (k_L_929 hX hdd))))) (kt_b (kt_b (kt_l (k_L_930 hX hdd)) (kt_b (kt_l (k_L_931 hX hdd)) (kt_l (k_L_932 hX hdd)))) (kt_b (kt_l (k_L_933 hX hdd)) (kt_b (kt_l (k_L_934 hX hdd)) (kt_l (k_L_937 hX hdd)))))) (kt_b (kt_b (kt_b (kt_l (k_L_938 hX hdd)) (kt_b (kt_l (k_L_939 hX hdd)) (kt_l (k_L_940 hX hdd)))) (kt_b (kt_l (k_L_941 hX hdd)) (kt_b (kt_l (k_L_942 hX hdd)) (kt_l (k_L_943 hX hdd))))) (kt_b (kt_b (kt_l (k_L_944 hX hdd)) (kt_b (kt_l (k_L_945 hX hdd)) (kt_l (k_L_946 hX hdd)))) (kt_b (kt_l (k_L_947 hX hdd)) (kt_b (kt_l (k_L_948 hX hdd)) (kt_l (k_L_951 hX hdd))))))
def tb_L_28 (X : LX) (dd : Nat) (pc : Nat) : Tr := bif Nat.blt pc 967 then (bif Nat.blt pc 959 then (bif Nat.blt pc 956 then (bif Nat.blt pc 955 then (bif Nat.beq 954 pc then tr_ic 955 0 else trF) else (bif Nat.beq 955 pc then tr_zret else trF)) else (bif Nat.blt pc 957 then (bif Nat.beq 956 pc then tr_aload 957 1 else trF) else (bif Nat.blt pc 958 then (bif Nat.beq 957 pc then tr_aload 958 0 else trF) else (bif Nat.beq 958 pc then tr_iload 959 3 else trF)))) else (bif Nat.blt pc 962 then (bif Nat.blt pc 960 then (bif Nat.beq 959 pc then tr_ic 960 1 else trF) else (bif Nat.blt pc 961 then (bif Nat.beq 960 pc then tr_iadd 961 else trF) else (bif Nat.beq 961 pc then tr_sald X 962 else trF))) else (bif Nat.blt pc 965 then (bif Nat.beq 962 pc then tr_callB X (Call (XD X) dd mi_X11_count) 965 12 1 else trF) else (bif Nat.blt pc 966 then (bif Nat.beq 965 pc then tr_aload 966 2 else trF) else (bif Nat.beq 966 pc then tr_aload 967 0 else trF))))) else (bif Nat.blt pc 977 then (bif Nat.blt pc 970 then (bif Nat.blt pc 968 then (bif Nat.beq 967 pc then tr_iload 968 3 else trF) else (bif Nat.blt pc 969 then (bif Nat.beq 968 pc then tr_ic 969 1 else trF) else (bif Nat.beq 969 pc then tr_iadd 970 else trF))) else (bif Nat.blt pc 971 then (bif Nat.beq 970 pc then tr_sald X 971 else trF) else (bif Nat.blt pc 974 then (bif Nat.beq 971 pc then tr_callB X (Call (XD X) dd mi_X12_count) 974 13 1 else trF) else (bif Nat.beq 974 pc then tr_iceq 977 979 else trF)))) else (bif Nat.blt pc 982 then (bif Nat.blt pc 978 then (bif Nat.beq 977 pc then tr_ic 978 0 else trF) else (bif Nat.blt pc 979 then (bif Nat.beq 978 pc then tr_zret else trF) else (bif Nat.beq 979 pc then tr_iinc 982 3 6 else trF))) else (bif Nat.blt pc 985 then (bif Nat.beq 982 pc then tr_goto 18 else trF) else (bif Nat.blt pc 986 then (bif Nat.beq 985 pc then tr_ic 986 1 else trF) else (bif Nat.beq 986 pc then tr_zret else trF)))))
theorem k_L_954 {X : LX} {dd : Nat} (hX : LC X) (hdd : dd ≤ 2000) : TrL X 954 (tr_ic 955 0) := kl_iconst hX (show decode code 954 = .ok (.iconst 0, 1) from by decide +kernel) rfl
theorem k_L_955 {X : LX} {dd : Nat} (hX : LC X) (hdd : dd ≤ 2000) : TrL X 955 (tr_zret) := kl_zret hX (show decode code 955 = .ok (.ireturn, 1) from by decide +kernel)
theorem k_L_956 {X : LX} {dd : Nat} (hX : LC X) (hdd : dd ≤ 2000) : TrL X 956 (tr_aload 957 1) := kl_aload_n hX (show decode code 956 = .ok (.aload_n 1, 1) from by decide +kernel) rfl
theorem k_L_957 {X : LX} {dd : Nat} (hX : LC X) (hdd : dd ≤ 2000) : TrL X 957 (tr_aload 958 0) := kl_aload_n hX (show decode code 957 = .ok (.aload_n 0, 1) from by decide +kernel) rfl
theorem k_L_958 {X : LX} {dd : Nat} (hX : LC X) (hdd : dd ≤ 2000) : TrL X 958 (tr_iload 959 3) := kl_iload_n hX (show decode code 958 = .ok (.iload_n 3, 1) from by decide +kernel) rfl
theorem k_L_959 {X : LX} {dd : Nat} (hX : LC X) (hdd : dd ≤ 2000) : TrL X 959 (tr_ic 960 1) := kl_iconst hX (show decode code 959 = .ok (.iconst 1, 1) from by decide +kernel) rfl
theorem k_L_960 {X : LX} {dd : Nat} (hX : LC X) (hdd : dd ≤ 2000) : TrL X 960 (tr_iadd 961) := kl_iadd hX (show decode code 960 = .ok (.iadd, 1) from by decide +kernel)
theorem k_L_961 {X : LX} {dd : Nat} (hX : LC X) (hdd : dd ≤ 2000) : TrL X 961 (tr_sald X 962) := kl_sald hX (show decode code 961 = .ok (.iaload, 1) from by decide +kernel)
theorem k_L_962 {X : LX} {dd : Nat} (hX : LC X) (hdd : dd ≤ 2000) : TrL X 962 (tr_callB X (Call (XD X) dd mi_X11_count) 965 12 1) := kl_callV hX (ci := 11) hdd (show decode code 962 = .ok (.invokevirtual 115, 3) from by decide +kernel) mok_X11_count rfl rfl (gm 746 (by decide +kernel) rfl) (gm 747 (by decide +kernel) rfl) (gm 748 (by decide +kernel) rfl)
theorem k_L_965 {X : LX} {dd : Nat} (hX : LC X) (hdd : dd ≤ 2000) : TrL X 965 (tr_aload 966 2) := kl_aload_n hX (show decode code 965 = .ok (.aload_n 2, 1) from by decide +kernel) rfl
theorem k_L_966 {X : LX} {dd : Nat} (hX : LC X) (hdd : dd ≤ 2000) : TrL X 966 (tr_aload 967 0) := kl_aload_n hX (show decode code 966 = .ok (.aload_n 0, 1) from by decide +kernel) rfl
theorem k_L_967 {X : LX} {dd : Nat} (hX : LC X) (hdd : dd ≤ 2000) : TrL X 967 (tr_iload 968 3) := kl_iload_n hX (show decode code 967 = .ok (.iload_n 3, 1) from by decide +kernel) rfl
theorem k_L_968 {X : LX} {dd : Nat} (hX : LC X) (hdd : dd ≤ 2000) : TrL X 968 (tr_ic 969 1) := kl_iconst hX (show decode code 968 = .ok (.iconst 1, 1) from by decide +kernel) rfl
theorem k_L_969 {X : LX} {dd : Nat} (hX : LC X) (hdd : dd ≤ 2000) : TrL X 969 (tr_iadd 970) := kl_iadd hX (show decode code 969 = .ok (.iadd, 1) from by decide +kernel)
theorem k_L_970 {X : LX} {dd : Nat} (hX : LC X) (hdd : dd ≤ 2000) : TrL X 970 (tr_sald X 971) := kl_sald hX (show decode code 970 = .ok (.iaload, 1) from by decide +kernel)
theorem k_L_971 {X : LX} {dd : Nat} (hX : LC X) (hdd : dd ≤ 2000) : TrL X 971 (tr_callB X (Call (XD X) dd mi_X12_count) 974 13 1) := kl_callV hX (ci := 12) hdd (show decode code 971 = .ok (.invokevirtual 118, 3) from by decide +kernel) mok_X12_count rfl rfl (gm 1091 (by decide +kernel) rfl) (gm 1092 (by decide +kernel) rfl) (gm 1093 (by decide +kernel) rfl)
theorem k_L_974 {X : LX} {dd : Nat} (hX : LC X) (hdd : dd ≤ 2000) : TrL X 974 (tr_iceq 977 979) := kl_iceq hX (show decode code 974 = .ok (.if_icmp .eq 5, 3) from by decide +kernel) (by decide)
theorem k_L_977 {X : LX} {dd : Nat} (hX : LC X) (hdd : dd ≤ 2000) : TrL X 977 (tr_ic 978 0) := kl_iconst hX (show decode code 977 = .ok (.iconst 0, 1) from by decide +kernel) rfl
theorem k_L_978 {X : LX} {dd : Nat} (hX : LC X) (hdd : dd ≤ 2000) : TrL X 978 (tr_zret) := kl_zret hX (show decode code 978 = .ok (.ireturn, 1) from by decide +kernel)
theorem k_L_979 {X : LX} {dd : Nat} (hX : LC X) (hdd : dd ≤ 2000) : TrL X 979 (tr_iinc 982 3 6) := kl_iinc hX (show decode code 979 = .ok (.iinc 3 6, 3) from by decide +kernel) rfl (by decide)
theorem k_L_982 {X : LX} {dd : Nat} (hX : LC X) (hdd : dd ≤ 2000) : TrL X 982 (tr_goto 18) := kl_goto hX (show decode code 982 = .ok (.goto (-964), 3) from by decide +kernel) (by decide)
theorem k_L_985 {X : LX} {dd : Nat} (hX : LC X) (hdd : dd ≤ 2000) : TrL X 985 (tr_ic 986 1) := kl_iconst hX (show decode code 985 = .ok (.iconst 1, 1) from by decide +kernel) rfl
theorem k_L_986 {X : LX} {dd : Nat} (hX : LC X) (hdd : dd ≤ 2000) : TrL X 986 (tr_zret) := kl_zret hX (show decode code 986 = .ok (.ireturn, 1) from by decide +kernel)
theorem tbk_L_28 {X : LX} {dd : Nat} (hX : LC X) (hdd : dd ≤ 2000) (pc : Nat) : TrL X pc (tb_L_28 X dd pc) := kt_b (kt_b (kt_b (kt_b (kt_l (k_L_954 hX hdd)) (kt_l (k_L_955 hX hdd))) (kt_b (kt_l (k_L_956 hX hdd)) (kt_b (kt_l (k_L_957 hX hdd)) (kt_l (k_L_958 hX hdd))))) (kt_b (kt_b (kt_l (k_L_959 hX hdd)) (kt_b (kt_l (k_L_960 hX hdd)) (kt_l (k_L_961 hX hdd)))) (kt_b (kt_l (k_L_962 hX hdd)) (kt_b (kt_l (k_L_965 hX hdd)) (kt_l (k_L_966 hX hdd)))))) (kt_b (kt_b (kt_b (kt_l (k_L_967 hX hdd)) (kt_b (kt_l (k_L_968 hX hdd)) (kt_l (k_L_969 hX hdd)))) (kt_b (kt_l (k_L_970 hX hdd)) (kt_b (kt_l (k_L_971 hX hdd)) (kt_l (k_L_974 hX hdd))))) (kt_b (kt_b (kt_l (k_L_977 hX hdd)) (kt_b (kt_l (k_L_978 hX hdd)) (kt_l (k_L_979 hX hdd)))) (kt_b (kt_l (k_L_982 hX hdd)) (kt_b (kt_l (k_L_985 hX hdd)) (kt_l (k_L_986 hX hdd))))))
def tb_L (X : LX) (dd : Nat) (pc : Nat) : Tr := bif Nat.blt pc 528 then (bif Nat.blt pc 319 then (bif Nat.blt pc 208 then (bif Nat.blt pc 142 then (tb_L_0 X dd pc) else (bif Nat.blt pc 178 then (tb_L_1 X dd pc) else (tb_L_2 X dd pc))) else (bif Nat.blt pc 262 then (bif Nat.blt pc 234 then (tb_L_3 X dd pc) else (tb_L_4 X dd pc)) else (bif Nat.blt pc 290 then (tb_L_5 X dd pc) else (tb_L_6 X dd pc)))) else (bif Nat.blt pc 414 then (bif Nat.blt pc 350 then (tb_L_7 X dd pc) else (bif Nat.blt pc 382 then (tb_L_8 X dd pc) else (tb_L_9 X dd pc))) else (bif Nat.blt pc 474 then (bif Nat.blt pc 442 then (tb_L_10 X dd pc) else (tb_L_11 X dd pc)) else (bif Nat.blt pc 500 then (tb_L_12 X dd pc) else (tb_L_13 X dd pc))))) else (bif Nat.blt pc 744 then (bif Nat.blt pc 618 then (bif Nat.blt pc 557 then (tb_L_14 X dd pc) else (bif Nat.blt pc 588 then (tb_L_15 X dd pc) else (tb_L_16 X dd pc))) else (bif Nat.blt pc 677 then (bif Nat.blt pc 648 then (tb_L_17 X dd pc) else (tb_L_18 X dd pc)) else (bif Nat.blt pc 708 then (tb_L_19 X dd pc) else (tb_L_20 X dd pc)))) else (bif Nat.blt pc 866 then (bif Nat.blt pc 804 then (bif Nat.blt pc 774 then (tb_L_21 X dd pc) else (tb_L_22 X dd pc)) else (bif Nat.blt pc 836 then (tb_L_23 X dd pc) else (tb_L_24 X dd pc))) else (bif Nat.blt pc 924 then (bif Nat.blt pc 894 then (tb_L_25 X dd pc) else (tb_L_26 X dd pc)) else (bif Nat.blt pc 954 then (tb_L_27 X dd pc) else (tb_L_28 X dd pc)))))
theorem tbk_L {X : LX} {dd : Nat} (hX : LC X) (hdd : dd ≤ 2000) (pc : Nat) : TrL X pc (tb_L X dd pc) := kt_b (kt_b (kt_b (kt_b (tbk_L_0 hX hdd pc) (kt_b (tbk_L_1 hX hdd pc) (tbk_L_2 hX hdd pc))) (kt_b (kt_b (tbk_L_3 hX hdd pc) (tbk_L_4 hX hdd pc)) (kt_b (tbk_L_5 hX hdd pc) (tbk_L_6 hX hdd pc)))) (kt_b (kt_b (tbk_L_7 hX hdd pc) (kt_b (tbk_L_8 hX hdd pc) (tbk_L_9 hX hdd pc))) (kt_b (kt_b (tbk_L_10 hX hdd pc) (tbk_L_11 hX hdd pc)) (kt_b (tbk_L_12 hX hdd pc) (tbk_L_13 hX hdd pc))))) (kt_b (kt_b (kt_b (tbk_L_14 hX hdd pc) (kt_b (tbk_L_15 hX hdd pc) (tbk_L_16 hX hdd pc))) (kt_b (kt_b (tbk_L_17 hX hdd pc) (tbk_L_18 hX hdd pc)) (kt_b (tbk_L_19 hX hdd pc) (tbk_L_20 hX hdd pc)))) (kt_b (kt_b (kt_b (tbk_L_21 hX hdd pc) (tbk_L_22 hX hdd pc)) (kt_b (tbk_L_23 hX hdd pc) (tbk_L_24 hX hdd pc))) (kt_b (kt_b (tbk_L_25 hX hdd pc) (tbk_L_26 hX hdd pc)) (kt_b (tbk_L_27 hX hdd pc) (tbk_L_28 hX hdd pc)))))
theorem a_L_0 (X : LX) (dd : Nat) : tb_L X dd 0 = tr_newB X 3 12 6 := rfl
theorem a_L_3 (X : LX) (dd : Nat) : tb_L X dd 3 = tr_dup 4 := rfl
theorem a_L_4 (X : LX) (dd : Nat) : tb_L X dd 4 = tr_initB X (Call (XD X) dd mi_X11_init) 7 0 := rfl
theorem a_L_7 (X : LX) (dd : Nat) : tb_L X dd 7 = tr_astore 8 1 := rfl
theorem a_L_8 (X : LX) (dd : Nat) : tb_L X dd 8 = tr_newB X 11 13 55 := rfl
theorem a_L_11 (X : LX) (dd : Nat) : tb_L X dd 11 = tr_dup 12 := rfl
theorem a_L_12 (X : LX) (dd : Nat) : tb_L X dd 12 = tr_initB X (Call (XD X) dd mi_X12_init) 15 0 := rfl
theorem a_L_15 (X : LX) (dd : Nat) : tb_L X dd 15 = tr_astore 16 2 := rfl
theorem a_L_16 (X : LX) (dd : Nat) : tb_L X dd 16 = tr_ic 17 0 := rfl
theorem a_L_17 (X : LX) (dd : Nat) : tb_L X dd 17 = tr_istore 18 3 := rfl
theorem a_L_18 (X : LX) (dd : Nat) : tb_L X dd 18 = tr_iload 19 3 := rfl
theorem a_L_19 (X : LX) (dd : Nat) : tb_L X dd 19 = tr_aload 20 0 := rfl
theorem a_L_20 (X : LX) (dd : Nat) : tb_L X dd 20 = tr_slen X 21 := rfl
theorem a_L_21 (X : LX) (dd : Nat) : tb_L X dd 21 = tr_ic 23 6 := rfl
theorem a_L_23 (X : LX) (dd : Nat) : tb_L X dd 23 = tr_isub 24 := rfl
theorem a_L_24 (X : LX) (dd : Nat) : tb_L X dd 24 = tr_icgt 27 985 := rfl
theorem a_L_27 (X : LX) (dd : Nat) : tb_L X dd 27 = tr_aload 28 0 := rfl
theorem a_L_28 (X : LX) (dd : Nat) : tb_L X dd 28 = tr_iload 29 3 := rfl
theorem a_L_29 (X : LX) (dd : Nat) : tb_L X dd 29 = tr_sald X 30 := rfl
theorem a_L_30 (X : LX) (dd : Nat) : tb_L X dd 30 = tr_ic 32 31 := rfl
theorem a_L_32 (X : LX) (dd : Nat) : tb_L X dd 32 = tr_iand 33 := rfl
theorem a_L_33 (X : LX) (dd : Nat) : tb_L X dd 33 = tr_sw 0 [140, 163, 176, 199, 252, 355, 404, 447, 470, 513, 586, 620, 643, 706, 729, 743, 767, 800, 824, 847, 880, 923, 956] 979 := rfl
theorem a_L_140 (X : LX) (dd : Nat) : tb_L X dd 140 = tr_aload 141 1 := rfl
theorem a_L_141 (X : LX) (dd : Nat) : tb_L X dd 141 = tr_aload 142 0 := rfl
theorem a_L_142 (X : LX) (dd : Nat) : tb_L X dd 142 = tr_iload 143 3 := rfl
theorem a_L_143 (X : LX) (dd : Nat) : tb_L X dd 143 = tr_ic 144 1 := rfl
theorem a_L_144 (X : LX) (dd : Nat) : tb_L X dd 144 = tr_iadd 145 := rfl
theorem a_L_145 (X : LX) (dd : Nat) : tb_L X dd 145 = tr_sald X 146 := rfl
theorem a_L_146 (X : LX) (dd : Nat) : tb_L X dd 146 = tr_callB X (Call (XD X) dd mi_X11_kind) 149 12 1 := rfl
theorem a_L_149 (X : LX) (dd : Nat) : tb_L X dd 149 = tr_aload 150 2 := rfl
theorem a_L_150 (X : LX) (dd : Nat) : tb_L X dd 150 = tr_aload 151 0 := rfl
theorem a_L_151 (X : LX) (dd : Nat) : tb_L X dd 151 = tr_iload 152 3 := rfl
theorem a_L_152 (X : LX) (dd : Nat) : tb_L X dd 152 = tr_ic 153 1 := rfl
theorem a_L_153 (X : LX) (dd : Nat) : tb_L X dd 153 = tr_iadd 154 := rfl
theorem a_L_154 (X : LX) (dd : Nat) : tb_L X dd 154 = tr_sald X 155 := rfl
theorem a_L_155 (X : LX) (dd : Nat) : tb_L X dd 155 = tr_callB X (Call (XD X) dd mi_X12_kind) 158 13 1 := rfl
theorem a_L_158 (X : LX) (dd : Nat) : tb_L X dd 158 = tr_iceq 161 979 := rfl
theorem a_L_161 (X : LX) (dd : Nat) : tb_L X dd 161 = tr_ic 162 0 := rfl
theorem a_L_162 (X : LX) (dd : Nat) : tb_L X dd 162 = tr_zret := rfl
theorem a_L_163 (X : LX) (dd : Nat) : tb_L X dd 163 = tr_aload 164 1 := rfl
theorem a_L_164 (X : LX) (dd : Nat) : tb_L X dd 164 = tr_callB X (Call (XD X) dd mi_X11_scene) 167 12 0 := rfl
theorem a_L_167 (X : LX) (dd : Nat) : tb_L X dd 167 = tr_aload 168 2 := rfl
theorem a_L_168 (X : LX) (dd : Nat) : tb_L X dd 168 = tr_callB X (Call (XD X) dd mi_X12_scene) 171 13 0 := rfl
theorem a_L_171 (X : LX) (dd : Nat) : tb_L X dd 171 = tr_iceq 174 979 := rfl
theorem a_L_174 (X : LX) (dd : Nat) : tb_L X dd 174 = tr_ic 175 0 := rfl
theorem a_L_175 (X : LX) (dd : Nat) : tb_L X dd 175 = tr_zret := rfl
theorem a_L_176 (X : LX) (dd : Nat) : tb_L X dd 176 = tr_aload 177 1 := rfl
theorem a_L_177 (X : LX) (dd : Nat) : tb_L X dd 177 = tr_aload 178 0 := rfl
theorem a_L_178 (X : LX) (dd : Nat) : tb_L X dd 178 = tr_iload 179 3 := rfl
theorem a_L_179 (X : LX) (dd : Nat) : tb_L X dd 179 = tr_ic 180 1 := rfl
theorem a_L_180 (X : LX) (dd : Nat) : tb_L X dd 180 = tr_iadd 181 := rfl
theorem a_L_181 (X : LX) (dd : Nat) : tb_L X dd 181 = tr_sald X 182 := rfl
theorem a_L_182 (X : LX) (dd : Nat) : tb_L X dd 182 = tr_callB X (Call (XD X) dd mi_X11_close) 185 12 1 := rfl
theorem a_L_185 (X : LX) (dd : Nat) : tb_L X dd 185 = tr_aload 186 2 := rfl
theorem a_L_186 (X : LX) (dd : Nat) : tb_L X dd 186 = tr_aload 187 0 := rfl
theorem a_L_187 (X : LX) (dd : Nat) : tb_L X dd 187 = tr_iload 188 3 := rfl
theorem a_L_188 (X : LX) (dd : Nat) : tb_L X dd 188 = tr_ic 189 1 := rfl
theorem a_L_189 (X : LX) (dd : Nat) : tb_L X dd 189 = tr_iadd 190 := rfl
theorem a_L_190 (X : LX) (dd : Nat) : tb_L X dd 190 = tr_sald X 191 := rfl
theorem a_L_191 (X : LX) (dd : Nat) : tb_L X dd 191 = tr_callB X (Call (XD X) dd mi_X12_close) 194 13 1 := rfl
theorem a_L_194 (X : LX) (dd : Nat) : tb_L X dd 194 = tr_iceq 197 979 := rfl
theorem a_L_197 (X : LX) (dd : Nat) : tb_L X dd 197 = tr_ic 198 0 := rfl
theorem a_L_198 (X : LX) (dd : Nat) : tb_L X dd 198 = tr_zret := rfl
theorem a_L_199 (X : LX) (dd : Nat) : tb_L X dd 199 = tr_aload 200 1 := rfl
theorem a_L_200 (X : LX) (dd : Nat) : tb_L X dd 200 = tr_aload 201 0 := rfl
theorem a_L_201 (X : LX) (dd : Nat) : tb_L X dd 201 = tr_iload 202 3 := rfl
theorem a_L_202 (X : LX) (dd : Nat) : tb_L X dd 202 = tr_ic 203 1 := rfl
theorem a_L_203 (X : LX) (dd : Nat) : tb_L X dd 203 = tr_iadd 204 := rfl
theorem a_L_204 (X : LX) (dd : Nat) : tb_L X dd 204 = tr_sald X 205 := rfl
theorem a_L_205 (X : LX) (dd : Nat) : tb_L X dd 205 = tr_aload 206 0 := rfl
theorem a_L_206 (X : LX) (dd : Nat) : tb_L X dd 206 = tr_iload 207 3 := rfl
theorem a_L_207 (X : LX) (dd : Nat) : tb_L X dd 207 = tr_ic 208 2 := rfl
theorem a_L_208 (X : LX) (dd : Nat) : tb_L X dd 208 = tr_iadd 209 := rfl
theorem a_L_209 (X : LX) (dd : Nat) : tb_L X dd 209 = tr_sald X 210 := rfl
theorem a_L_210 (X : LX) (dd : Nat) : tb_L X dd 210 = tr_aload 211 0 := rfl
theorem a_L_211 (X : LX) (dd : Nat) : tb_L X dd 211 = tr_iload 212 3 := rfl
theorem a_L_212 (X : LX) (dd : Nat) : tb_L X dd 212 = tr_ic 213 3 := rfl
theorem a_L_213 (X : LX) (dd : Nat) : tb_L X dd 213 = tr_iadd 214 := rfl
theorem a_L_214 (X : LX) (dd : Nat) : tb_L X dd 214 = tr_sald X 215 := rfl
theorem a_L_215 (X : LX) (dd : Nat) : tb_L X dd 215 = tr_aload 216 0 := rfl
theorem a_L_216 (X : LX) (dd : Nat) : tb_L X dd 216 = tr_iload 217 3 := rfl
theorem a_L_217 (X : LX) (dd : Nat) : tb_L X dd 217 = tr_ic 218 4 := rfl
theorem a_L_218 (X : LX) (dd : Nat) : tb_L X dd 218 = tr_iadd 219 := rfl
theorem a_L_219 (X : LX) (dd : Nat) : tb_L X dd 219 = tr_sald X 220 := rfl
theorem a_L_220 (X : LX) (dd : Nat) : tb_L X dd 220 = tr_callB X (Call (XD X) dd mi_X11_listen) 223 12 4 := rfl
theorem a_L_223 (X : LX) (dd : Nat) : tb_L X dd 223 = tr_aload 224 2 := rfl
theorem a_L_224 (X : LX) (dd : Nat) : tb_L X dd 224 = tr_aload 225 0 := rfl
theorem a_L_225 (X : LX) (dd : Nat) : tb_L X dd 225 = tr_iload 226 3 := rfl
theorem a_L_226 (X : LX) (dd : Nat) : tb_L X dd 226 = tr_ic 227 1 := rfl
theorem a_L_227 (X : LX) (dd : Nat) : tb_L X dd 227 = tr_iadd 228 := rfl
theorem a_L_228 (X : LX) (dd : Nat) : tb_L X dd 228 = tr_sald X 229 := rfl
theorem a_L_229 (X : LX) (dd : Nat) : tb_L X dd 229 = tr_aload 230 0 := rfl
theorem a_L_230 (X : LX) (dd : Nat) : tb_L X dd 230 = tr_iload 231 3 := rfl
theorem a_L_231 (X : LX) (dd : Nat) : tb_L X dd 231 = tr_ic 232 2 := rfl
theorem a_L_232 (X : LX) (dd : Nat) : tb_L X dd 232 = tr_iadd 233 := rfl
theorem a_L_233 (X : LX) (dd : Nat) : tb_L X dd 233 = tr_sald X 234 := rfl
theorem a_L_234 (X : LX) (dd : Nat) : tb_L X dd 234 = tr_aload 235 0 := rfl
theorem a_L_235 (X : LX) (dd : Nat) : tb_L X dd 235 = tr_iload 236 3 := rfl
theorem a_L_236 (X : LX) (dd : Nat) : tb_L X dd 236 = tr_ic 237 3 := rfl
theorem a_L_237 (X : LX) (dd : Nat) : tb_L X dd 237 = tr_iadd 238 := rfl
theorem a_L_238 (X : LX) (dd : Nat) : tb_L X dd 238 = tr_sald X 239 := rfl
theorem a_L_239 (X : LX) (dd : Nat) : tb_L X dd 239 = tr_aload 240 0 := rfl
theorem a_L_240 (X : LX) (dd : Nat) : tb_L X dd 240 = tr_iload 241 3 := rfl
theorem a_L_241 (X : LX) (dd : Nat) : tb_L X dd 241 = tr_ic 242 4 := rfl
theorem a_L_242 (X : LX) (dd : Nat) : tb_L X dd 242 = tr_iadd 243 := rfl
theorem a_L_243 (X : LX) (dd : Nat) : tb_L X dd 243 = tr_sald X 244 := rfl
theorem a_L_244 (X : LX) (dd : Nat) : tb_L X dd 244 = tr_callB X (Call (XD X) dd mi_X12_listen) 247 13 4 := rfl
theorem a_L_247 (X : LX) (dd : Nat) : tb_L X dd 247 = tr_iceq 250 979 := rfl
theorem a_L_250 (X : LX) (dd : Nat) : tb_L X dd 250 = tr_ic 251 0 := rfl
theorem a_L_251 (X : LX) (dd : Nat) : tb_L X dd 251 = tr_zret := rfl
theorem a_L_252 (X : LX) (dd : Nat) : tb_L X dd 252 = tr_aload 253 1 := rfl
theorem a_L_253 (X : LX) (dd : Nat) : tb_L X dd 253 = tr_aload 254 0 := rfl
theorem a_L_254 (X : LX) (dd : Nat) : tb_L X dd 254 = tr_iload 255 3 := rfl
theorem a_L_255 (X : LX) (dd : Nat) : tb_L X dd 255 = tr_ic 256 1 := rfl
theorem a_L_256 (X : LX) (dd : Nat) : tb_L X dd 256 = tr_iadd 257 := rfl
theorem a_L_257 (X : LX) (dd : Nat) : tb_L X dd 257 = tr_sald X 258 := rfl
theorem a_L_258 (X : LX) (dd : Nat) : tb_L X dd 258 = tr_aload 259 0 := rfl
theorem a_L_259 (X : LX) (dd : Nat) : tb_L X dd 259 = tr_iload 260 3 := rfl
theorem a_L_260 (X : LX) (dd : Nat) : tb_L X dd 260 = tr_ic 261 2 := rfl
theorem a_L_261 (X : LX) (dd : Nat) : tb_L X dd 261 = tr_iadd 262 := rfl
theorem a_L_262 (X : LX) (dd : Nat) : tb_L X dd 262 = tr_sald X 263 := rfl
theorem a_L_263 (X : LX) (dd : Nat) : tb_L X dd 263 = tr_i2l 264 := rfl
theorem a_L_264 (X : LX) (dd : Nat) : tb_L X dd 264 = tr_ic 266 32 := rfl
theorem a_L_266 (X : LX) (dd : Nat) : tb_L X dd 266 = tr_lshl 267 := rfl
theorem a_L_267 (X : LX) (dd : Nat) : tb_L X dd 267 = tr_aload 268 0 := rfl
theorem a_L_268 (X : LX) (dd : Nat) : tb_L X dd 268 = tr_iload 269 3 := rfl
theorem a_L_269 (X : LX) (dd : Nat) : tb_L X dd 269 = tr_ic 270 3 := rfl
theorem a_L_270 (X : LX) (dd : Nat) : tb_L X dd 270 = tr_iadd 271 := rfl
theorem a_L_271 (X : LX) (dd : Nat) : tb_L X dd 271 = tr_sald X 272 := rfl
theorem a_L_272 (X : LX) (dd : Nat) : tb_L X dd 272 = tr_i2l 273 := rfl
theorem a_L_273 (X : LX) (dd : Nat) : tb_L X dd 273 = tr_lc 276 4294967295 := rfl
theorem a_L_276 (X : LX) (dd : Nat) : tb_L X dd 276 = tr_land 277 := rfl
theorem a_L_277 (X : LX) (dd : Nat) : tb_L X dd 277 = tr_lor 278 := rfl
theorem a_L_278 (X : LX) (dd : Nat) : tb_L X dd 278 = tr_aload 279 0 := rfl
theorem a_L_279 (X : LX) (dd : Nat) : tb_L X dd 279 = tr_iload 280 3 := rfl
theorem a_L_280 (X : LX) (dd : Nat) : tb_L X dd 280 = tr_ic 281 4 := rfl
theorem a_L_281 (X : LX) (dd : Nat) : tb_L X dd 281 = tr_iadd 282 := rfl
theorem a_L_282 (X : LX) (dd : Nat) : tb_L X dd 282 = tr_sald X 283 := rfl
theorem a_L_283 (X : LX) (dd : Nat) : tb_L X dd 283 = tr_i2l 284 := rfl
theorem a_L_284 (X : LX) (dd : Nat) : tb_L X dd 284 = tr_ic 286 32 := rfl
theorem a_L_286 (X : LX) (dd : Nat) : tb_L X dd 286 = tr_lshl 287 := rfl
theorem a_L_287 (X : LX) (dd : Nat) : tb_L X dd 287 = tr_aload 288 0 := rfl
theorem a_L_288 (X : LX) (dd : Nat) : tb_L X dd 288 = tr_iload 289 3 := rfl
theorem a_L_289 (X : LX) (dd : Nat) : tb_L X dd 289 = tr_ic 290 5 := rfl
theorem a_L_290 (X : LX) (dd : Nat) : tb_L X dd 290 = tr_iadd 291 := rfl
theorem a_L_291 (X : LX) (dd : Nat) : tb_L X dd 291 = tr_sald X 292 := rfl
theorem a_L_292 (X : LX) (dd : Nat) : tb_L X dd 292 = tr_i2l 293 := rfl
theorem a_L_293 (X : LX) (dd : Nat) : tb_L X dd 293 = tr_lc 296 4294967295 := rfl
theorem a_L_296 (X : LX) (dd : Nat) : tb_L X dd 296 = tr_land 297 := rfl
theorem a_L_297 (X : LX) (dd : Nat) : tb_L X dd 297 = tr_lor 298 := rfl
theorem a_L_298 (X : LX) (dd : Nat) : tb_L X dd 298 = tr_callB X (Call (XD X) dd mi_X11_filter) 301 12 3 := rfl
theorem a_L_301 (X : LX) (dd : Nat) : tb_L X dd 301 = tr_aload 302 2 := rfl
theorem a_L_302 (X : LX) (dd : Nat) : tb_L X dd 302 = tr_aload 303 0 := rfl
theorem a_L_303 (X : LX) (dd : Nat) : tb_L X dd 303 = tr_iload 304 3 := rfl
theorem a_L_304 (X : LX) (dd : Nat) : tb_L X dd 304 = tr_ic 305 1 := rfl
theorem a_L_305 (X : LX) (dd : Nat) : tb_L X dd 305 = tr_iadd 306 := rfl
theorem a_L_306 (X : LX) (dd : Nat) : tb_L X dd 306 = tr_sald X 307 := rfl
theorem a_L_307 (X : LX) (dd : Nat) : tb_L X dd 307 = tr_aload 308 0 := rfl
theorem a_L_308 (X : LX) (dd : Nat) : tb_L X dd 308 = tr_iload 309 3 := rfl
theorem a_L_309 (X : LX) (dd : Nat) : tb_L X dd 309 = tr_ic 310 2 := rfl
theorem a_L_310 (X : LX) (dd : Nat) : tb_L X dd 310 = tr_iadd 311 := rfl
theorem a_L_311 (X : LX) (dd : Nat) : tb_L X dd 311 = tr_sald X 312 := rfl
theorem a_L_312 (X : LX) (dd : Nat) : tb_L X dd 312 = tr_i2l 313 := rfl
theorem a_L_313 (X : LX) (dd : Nat) : tb_L X dd 313 = tr_ic 315 32 := rfl
theorem a_L_315 (X : LX) (dd : Nat) : tb_L X dd 315 = tr_lshl 316 := rfl
theorem a_L_316 (X : LX) (dd : Nat) : tb_L X dd 316 = tr_aload 317 0 := rfl
theorem a_L_317 (X : LX) (dd : Nat) : tb_L X dd 317 = tr_iload 318 3 := rfl
theorem a_L_318 (X : LX) (dd : Nat) : tb_L X dd 318 = tr_ic 319 3 := rfl
theorem a_L_319 (X : LX) (dd : Nat) : tb_L X dd 319 = tr_iadd 320 := rfl
theorem a_L_320 (X : LX) (dd : Nat) : tb_L X dd 320 = tr_sald X 321 := rfl
theorem a_L_321 (X : LX) (dd : Nat) : tb_L X dd 321 = tr_i2l 322 := rfl
theorem a_L_322 (X : LX) (dd : Nat) : tb_L X dd 322 = tr_lc 325 4294967295 := rfl
theorem a_L_325 (X : LX) (dd : Nat) : tb_L X dd 325 = tr_land 326 := rfl
theorem a_L_326 (X : LX) (dd : Nat) : tb_L X dd 326 = tr_lor 327 := rfl
theorem a_L_327 (X : LX) (dd : Nat) : tb_L X dd 327 = tr_aload 328 0 := rfl
theorem a_L_328 (X : LX) (dd : Nat) : tb_L X dd 328 = tr_iload 329 3 := rfl
theorem a_L_329 (X : LX) (dd : Nat) : tb_L X dd 329 = tr_ic 330 4 := rfl
theorem a_L_330 (X : LX) (dd : Nat) : tb_L X dd 330 = tr_iadd 331 := rfl
theorem a_L_331 (X : LX) (dd : Nat) : tb_L X dd 331 = tr_sald X 332 := rfl
theorem a_L_332 (X : LX) (dd : Nat) : tb_L X dd 332 = tr_i2l 333 := rfl
theorem a_L_333 (X : LX) (dd : Nat) : tb_L X dd 333 = tr_ic 335 32 := rfl
theorem a_L_335 (X : LX) (dd : Nat) : tb_L X dd 335 = tr_lshl 336 := rfl
theorem a_L_336 (X : LX) (dd : Nat) : tb_L X dd 336 = tr_aload 337 0 := rfl
theorem a_L_337 (X : LX) (dd : Nat) : tb_L X dd 337 = tr_iload 338 3 := rfl
theorem a_L_338 (X : LX) (dd : Nat) : tb_L X dd 338 = tr_ic 339 5 := rfl
theorem a_L_339 (X : LX) (dd : Nat) : tb_L X dd 339 = tr_iadd 340 := rfl
theorem a_L_340 (X : LX) (dd : Nat) : tb_L X dd 340 = tr_sald X 341 := rfl
theorem a_L_341 (X : LX) (dd : Nat) : tb_L X dd 341 = tr_i2l 342 := rfl
theorem a_L_342 (X : LX) (dd : Nat) : tb_L X dd 342 = tr_lc 345 4294967295 := rfl
theorem a_L_345 (X : LX) (dd : Nat) : tb_L X dd 345 = tr_land 346 := rfl
theorem a_L_346 (X : LX) (dd : Nat) : tb_L X dd 346 = tr_lor 347 := rfl
theorem a_L_347 (X : LX) (dd : Nat) : tb_L X dd 347 = tr_callB X (Call (XD X) dd mi_X12_filter) 350 13 3 := rfl
theorem a_L_350 (X : LX) (dd : Nat) : tb_L X dd 350 = tr_iceq 353 979 := rfl
theorem a_L_353 (X : LX) (dd : Nat) : tb_L X dd 353 = tr_ic 354 0 := rfl
theorem a_L_354 (X : LX) (dd : Nat) : tb_L X dd 354 = tr_zret := rfl
theorem a_L_355 (X : LX) (dd : Nat) : tb_L X dd 355 = tr_aload 356 1 := rfl
theorem a_L_356 (X : LX) (dd : Nat) : tb_L X dd 356 = tr_aload 357 0 := rfl
theorem a_L_357 (X : LX) (dd : Nat) : tb_L X dd 357 = tr_iload 358 3 := rfl
theorem a_L_358 (X : LX) (dd : Nat) : tb_L X dd 358 = tr_ic 359 1 := rfl
theorem a_L_359 (X : LX) (dd : Nat) : tb_L X dd 359 = tr_iadd 360 := rfl
theorem a_L_360 (X : LX) (dd : Nat) : tb_L X dd 360 = tr_sald X 361 := rfl
theorem a_L_361 (X : LX) (dd : Nat) : tb_L X dd 361 = tr_aload 362 0 := rfl
theorem a_L_362 (X : LX) (dd : Nat) : tb_L X dd 362 = tr_iload 363 3 := rfl
theorem a_L_363 (X : LX) (dd : Nat) : tb_L X dd 363 = tr_ic 364 2 := rfl
theorem a_L_364 (X : LX) (dd : Nat) : tb_L X dd 364 = tr_iadd 365 := rfl
theorem a_L_365 (X : LX) (dd : Nat) : tb_L X dd 365 = tr_sald X 366 := rfl
theorem a_L_366 (X : LX) (dd : Nat) : tb_L X dd 366 = tr_ifeq 369 373 := rfl
theorem a_L_369 (X : LX) (dd : Nat) : tb_L X dd 369 = tr_ic 370 1 := rfl
theorem a_L_370 (X : LX) (dd : Nat) : tb_L X dd 370 = tr_goto 374 := rfl
theorem a_L_373 (X : LX) (dd : Nat) : tb_L X dd 373 = tr_ic 374 0 := rfl
theorem a_L_374 (X : LX) (dd : Nat) : tb_L X dd 374 = tr_callB X (Call (XD X) dd mi_X11_once) 377 12 2 := rfl
theorem a_L_377 (X : LX) (dd : Nat) : tb_L X dd 377 = tr_aload 378 2 := rfl
theorem a_L_378 (X : LX) (dd : Nat) : tb_L X dd 378 = tr_aload 379 0 := rfl
theorem a_L_379 (X : LX) (dd : Nat) : tb_L X dd 379 = tr_iload 380 3 := rfl
theorem a_L_380 (X : LX) (dd : Nat) : tb_L X dd 380 = tr_ic 381 1 := rfl
theorem a_L_381 (X : LX) (dd : Nat) : tb_L X dd 381 = tr_iadd 382 := rfl
theorem a_L_382 (X : LX) (dd : Nat) : tb_L X dd 382 = tr_sald X 383 := rfl
theorem a_L_383 (X : LX) (dd : Nat) : tb_L X dd 383 = tr_aload 384 0 := rfl
theorem a_L_384 (X : LX) (dd : Nat) : tb_L X dd 384 = tr_iload 385 3 := rfl
theorem a_L_385 (X : LX) (dd : Nat) : tb_L X dd 385 = tr_ic 386 2 := rfl
theorem a_L_386 (X : LX) (dd : Nat) : tb_L X dd 386 = tr_iadd 387 := rfl
theorem a_L_387 (X : LX) (dd : Nat) : tb_L X dd 387 = tr_sald X 388 := rfl
theorem a_L_388 (X : LX) (dd : Nat) : tb_L X dd 388 = tr_ifeq 391 395 := rfl
theorem a_L_391 (X : LX) (dd : Nat) : tb_L X dd 391 = tr_ic 392 1 := rfl
theorem a_L_392 (X : LX) (dd : Nat) : tb_L X dd 392 = tr_goto 396 := rfl
theorem a_L_395 (X : LX) (dd : Nat) : tb_L X dd 395 = tr_ic 396 0 := rfl
theorem a_L_396 (X : LX) (dd : Nat) : tb_L X dd 396 = tr_callB X (Call (XD X) dd mi_X12_once) 399 13 2 := rfl
theorem a_L_399 (X : LX) (dd : Nat) : tb_L X dd 399 = tr_iceq 402 979 := rfl
theorem a_L_402 (X : LX) (dd : Nat) : tb_L X dd 402 = tr_ic 403 0 := rfl
theorem a_L_403 (X : LX) (dd : Nat) : tb_L X dd 403 = tr_zret := rfl
theorem a_L_404 (X : LX) (dd : Nat) : tb_L X dd 404 = tr_aload 405 1 := rfl
theorem a_L_405 (X : LX) (dd : Nat) : tb_L X dd 405 = tr_aload 406 0 := rfl
theorem a_L_406 (X : LX) (dd : Nat) : tb_L X dd 406 = tr_iload 407 3 := rfl
theorem a_L_407 (X : LX) (dd : Nat) : tb_L X dd 407 = tr_ic 408 1 := rfl
theorem a_L_408 (X : LX) (dd : Nat) : tb_L X dd 408 = tr_iadd 409 := rfl
theorem a_L_409 (X : LX) (dd : Nat) : tb_L X dd 409 = tr_sald X 410 := rfl
theorem a_L_410 (X : LX) (dd : Nat) : tb_L X dd 410 = tr_aload 411 0 := rfl
theorem a_L_411 (X : LX) (dd : Nat) : tb_L X dd 411 = tr_iload 412 3 := rfl
theorem a_L_412 (X : LX) (dd : Nat) : tb_L X dd 412 = tr_ic 413 2 := rfl
theorem a_L_413 (X : LX) (dd : Nat) : tb_L X dd 413 = tr_iadd 414 := rfl
theorem a_L_414 (X : LX) (dd : Nat) : tb_L X dd 414 = tr_sald X 415 := rfl
theorem a_L_415 (X : LX) (dd : Nat) : tb_L X dd 415 = tr_aload 416 0 := rfl
theorem a_L_416 (X : LX) (dd : Nat) : tb_L X dd 416 = tr_iload 417 3 := rfl
theorem a_L_417 (X : LX) (dd : Nat) : tb_L X dd 417 = tr_ic 418 3 := rfl
theorem a_L_418 (X : LX) (dd : Nat) : tb_L X dd 418 = tr_iadd 419 := rfl
theorem a_L_419 (X : LX) (dd : Nat) : tb_L X dd 419 = tr_sald X 420 := rfl
theorem a_L_420 (X : LX) (dd : Nat) : tb_L X dd 420 = tr_callB X (Call (XD X) dd mi_X11_step) 423 12 3 := rfl
theorem a_L_423 (X : LX) (dd : Nat) : tb_L X dd 423 = tr_aload 424 2 := rfl
theorem a_L_424 (X : LX) (dd : Nat) : tb_L X dd 424 = tr_aload 425 0 := rfl
theorem a_L_425 (X : LX) (dd : Nat) : tb_L X dd 425 = tr_iload 426 3 := rfl
theorem a_L_426 (X : LX) (dd : Nat) : tb_L X dd 426 = tr_ic 427 1 := rfl
theorem a_L_427 (X : LX) (dd : Nat) : tb_L X dd 427 = tr_iadd 428 := rfl
theorem a_L_428 (X : LX) (dd : Nat) : tb_L X dd 428 = tr_sald X 429 := rfl
theorem a_L_429 (X : LX) (dd : Nat) : tb_L X dd 429 = tr_aload 430 0 := rfl
theorem a_L_430 (X : LX) (dd : Nat) : tb_L X dd 430 = tr_iload 431 3 := rfl
theorem a_L_431 (X : LX) (dd : Nat) : tb_L X dd 431 = tr_ic 432 2 := rfl
theorem a_L_432 (X : LX) (dd : Nat) : tb_L X dd 432 = tr_iadd 433 := rfl
theorem a_L_433 (X : LX) (dd : Nat) : tb_L X dd 433 = tr_sald X 434 := rfl
theorem a_L_434 (X : LX) (dd : Nat) : tb_L X dd 434 = tr_aload 435 0 := rfl
theorem a_L_435 (X : LX) (dd : Nat) : tb_L X dd 435 = tr_iload 436 3 := rfl
theorem a_L_436 (X : LX) (dd : Nat) : tb_L X dd 436 = tr_ic 437 3 := rfl
theorem a_L_437 (X : LX) (dd : Nat) : tb_L X dd 437 = tr_iadd 438 := rfl
theorem a_L_438 (X : LX) (dd : Nat) : tb_L X dd 438 = tr_sald X 439 := rfl
theorem a_L_439 (X : LX) (dd : Nat) : tb_L X dd 439 = tr_callB X (Call (XD X) dd mi_X12_step) 442 13 3 := rfl
theorem a_L_442 (X : LX) (dd : Nat) : tb_L X dd 442 = tr_iceq 445 979 := rfl
theorem a_L_445 (X : LX) (dd : Nat) : tb_L X dd 445 = tr_ic 446 0 := rfl
theorem a_L_446 (X : LX) (dd : Nat) : tb_L X dd 446 = tr_zret := rfl
theorem a_L_447 (X : LX) (dd : Nat) : tb_L X dd 447 = tr_aload 448 1 := rfl
theorem a_L_448 (X : LX) (dd : Nat) : tb_L X dd 448 = tr_aload 449 0 := rfl
theorem a_L_449 (X : LX) (dd : Nat) : tb_L X dd 449 = tr_iload 450 3 := rfl
theorem a_L_450 (X : LX) (dd : Nat) : tb_L X dd 450 = tr_ic 451 1 := rfl
theorem a_L_451 (X : LX) (dd : Nat) : tb_L X dd 451 = tr_iadd 452 := rfl
theorem a_L_452 (X : LX) (dd : Nat) : tb_L X dd 452 = tr_sald X 453 := rfl
theorem a_L_453 (X : LX) (dd : Nat) : tb_L X dd 453 = tr_callB X (Call (XD X) dd mi_X11_leave) 456 12 1 := rfl
theorem a_L_456 (X : LX) (dd : Nat) : tb_L X dd 456 = tr_aload 457 2 := rfl
theorem a_L_457 (X : LX) (dd : Nat) : tb_L X dd 457 = tr_aload 458 0 := rfl
theorem a_L_458 (X : LX) (dd : Nat) : tb_L X dd 458 = tr_iload 459 3 := rfl
theorem a_L_459 (X : LX) (dd : Nat) : tb_L X dd 459 = tr_ic 460 1 := rfl
theorem a_L_460 (X : LX) (dd : Nat) : tb_L X dd 460 = tr_iadd 461 := rfl
theorem a_L_461 (X : LX) (dd : Nat) : tb_L X dd 461 = tr_sald X 462 := rfl
theorem a_L_462 (X : LX) (dd : Nat) : tb_L X dd 462 = tr_callB X (Call (XD X) dd mi_X12_leave) 465 13 1 := rfl
theorem a_L_465 (X : LX) (dd : Nat) : tb_L X dd 465 = tr_iceq 468 979 := rfl
theorem a_L_468 (X : LX) (dd : Nat) : tb_L X dd 468 = tr_ic 469 0 := rfl
theorem a_L_469 (X : LX) (dd : Nat) : tb_L X dd 469 = tr_zret := rfl
theorem a_L_470 (X : LX) (dd : Nat) : tb_L X dd 470 = tr_aload 471 1 := rfl
theorem a_L_471 (X : LX) (dd : Nat) : tb_L X dd 471 = tr_aload 472 0 := rfl
theorem a_L_472 (X : LX) (dd : Nat) : tb_L X dd 472 = tr_iload 473 3 := rfl
theorem a_L_473 (X : LX) (dd : Nat) : tb_L X dd 473 = tr_ic 474 1 := rfl
theorem a_L_474 (X : LX) (dd : Nat) : tb_L X dd 474 = tr_iadd 475 := rfl
theorem a_L_475 (X : LX) (dd : Nat) : tb_L X dd 475 = tr_sald X 476 := rfl
theorem a_L_476 (X : LX) (dd : Nat) : tb_L X dd 476 = tr_aload 477 0 := rfl
theorem a_L_477 (X : LX) (dd : Nat) : tb_L X dd 477 = tr_iload 478 3 := rfl
theorem a_L_478 (X : LX) (dd : Nat) : tb_L X dd 478 = tr_ic 479 2 := rfl
theorem a_L_479 (X : LX) (dd : Nat) : tb_L X dd 479 = tr_iadd 480 := rfl
theorem a_L_480 (X : LX) (dd : Nat) : tb_L X dd 480 = tr_sald X 481 := rfl
theorem a_L_481 (X : LX) (dd : Nat) : tb_L X dd 481 = tr_aload 482 0 := rfl
theorem a_L_482 (X : LX) (dd : Nat) : tb_L X dd 482 = tr_iload 483 3 := rfl
theorem a_L_483 (X : LX) (dd : Nat) : tb_L X dd 483 = tr_ic 484 3 := rfl
theorem a_L_484 (X : LX) (dd : Nat) : tb_L X dd 484 = tr_iadd 485 := rfl
theorem a_L_485 (X : LX) (dd : Nat) : tb_L X dd 485 = tr_sald X 486 := rfl
theorem a_L_486 (X : LX) (dd : Nat) : tb_L X dd 486 = tr_callB X (Call (XD X) dd mi_X11_tray) 489 12 3 := rfl
theorem a_L_489 (X : LX) (dd : Nat) : tb_L X dd 489 = tr_aload 490 2 := rfl
theorem a_L_490 (X : LX) (dd : Nat) : tb_L X dd 490 = tr_aload 491 0 := rfl
theorem a_L_491 (X : LX) (dd : Nat) : tb_L X dd 491 = tr_iload 492 3 := rfl
theorem a_L_492 (X : LX) (dd : Nat) : tb_L X dd 492 = tr_ic 493 1 := rfl
theorem a_L_493 (X : LX) (dd : Nat) : tb_L X dd 493 = tr_iadd 494 := rfl
theorem a_L_494 (X : LX) (dd : Nat) : tb_L X dd 494 = tr_sald X 495 := rfl
theorem a_L_495 (X : LX) (dd : Nat) : tb_L X dd 495 = tr_aload 496 0 := rfl
theorem a_L_496 (X : LX) (dd : Nat) : tb_L X dd 496 = tr_iload 497 3 := rfl
theorem a_L_497 (X : LX) (dd : Nat) : tb_L X dd 497 = tr_ic 498 2 := rfl
theorem a_L_498 (X : LX) (dd : Nat) : tb_L X dd 498 = tr_iadd 499 := rfl
theorem a_L_499 (X : LX) (dd : Nat) : tb_L X dd 499 = tr_sald X 500 := rfl
theorem a_L_500 (X : LX) (dd : Nat) : tb_L X dd 500 = tr_aload 501 0 := rfl
theorem a_L_501 (X : LX) (dd : Nat) : tb_L X dd 501 = tr_iload 502 3 := rfl
theorem a_L_502 (X : LX) (dd : Nat) : tb_L X dd 502 = tr_ic 503 3 := rfl
theorem a_L_503 (X : LX) (dd : Nat) : tb_L X dd 503 = tr_iadd 504 := rfl
theorem a_L_504 (X : LX) (dd : Nat) : tb_L X dd 504 = tr_sald X 505 := rfl
theorem a_L_505 (X : LX) (dd : Nat) : tb_L X dd 505 = tr_callB X (Call (XD X) dd mi_X12_tray) 508 13 3 := rfl
theorem a_L_508 (X : LX) (dd : Nat) : tb_L X dd 508 = tr_iceq 511 979 := rfl
theorem a_L_511 (X : LX) (dd : Nat) : tb_L X dd 511 = tr_ic 512 0 := rfl
theorem a_L_512 (X : LX) (dd : Nat) : tb_L X dd 512 = tr_zret := rfl
theorem a_L_513 (X : LX) (dd : Nat) : tb_L X dd 513 = tr_aload 514 1 := rfl
theorem a_L_514 (X : LX) (dd : Nat) : tb_L X dd 514 = tr_aload 515 0 := rfl
theorem a_L_515 (X : LX) (dd : Nat) : tb_L X dd 515 = tr_iload 516 3 := rfl
theorem a_L_516 (X : LX) (dd : Nat) : tb_L X dd 516 = tr_ic 517 1 := rfl
theorem a_L_517 (X : LX) (dd : Nat) : tb_L X dd 517 = tr_iadd 518 := rfl
theorem a_L_518 (X : LX) (dd : Nat) : tb_L X dd 518 = tr_sald X 519 := rfl
theorem a_L_519 (X : LX) (dd : Nat) : tb_L X dd 519 = tr_aload 520 0 := rfl
theorem a_L_520 (X : LX) (dd : Nat) : tb_L X dd 520 = tr_iload 521 3 := rfl
theorem a_L_521 (X : LX) (dd : Nat) : tb_L X dd 521 = tr_ic 522 2 := rfl
theorem a_L_522 (X : LX) (dd : Nat) : tb_L X dd 522 = tr_iadd 523 := rfl
theorem a_L_523 (X : LX) (dd : Nat) : tb_L X dd 523 = tr_sald X 524 := rfl
theorem a_L_524 (X : LX) (dd : Nat) : tb_L X dd 524 = tr_aload 525 0 := rfl
theorem a_L_525 (X : LX) (dd : Nat) : tb_L X dd 525 = tr_iload 526 3 := rfl
theorem a_L_526 (X : LX) (dd : Nat) : tb_L X dd 526 = tr_ic 527 3 := rfl
theorem a_L_527 (X : LX) (dd : Nat) : tb_L X dd 527 = tr_iadd 528 := rfl
theorem a_L_528 (X : LX) (dd : Nat) : tb_L X dd 528 = tr_sald X 529 := rfl
theorem a_L_529 (X : LX) (dd : Nat) : tb_L X dd 529 = tr_i2l 530 := rfl
theorem a_L_530 (X : LX) (dd : Nat) : tb_L X dd 530 = tr_ic 532 32 := rfl
theorem a_L_532 (X : LX) (dd : Nat) : tb_L X dd 532 = tr_lshl 533 := rfl
theorem a_L_533 (X : LX) (dd : Nat) : tb_L X dd 533 = tr_aload 534 0 := rfl
theorem a_L_534 (X : LX) (dd : Nat) : tb_L X dd 534 = tr_iload 535 3 := rfl
theorem a_L_535 (X : LX) (dd : Nat) : tb_L X dd 535 = tr_ic 536 4 := rfl
theorem a_L_536 (X : LX) (dd : Nat) : tb_L X dd 536 = tr_iadd 537 := rfl
theorem a_L_537 (X : LX) (dd : Nat) : tb_L X dd 537 = tr_sald X 538 := rfl
theorem a_L_538 (X : LX) (dd : Nat) : tb_L X dd 538 = tr_i2l 539 := rfl
theorem a_L_539 (X : LX) (dd : Nat) : tb_L X dd 539 = tr_lc 542 4294967295 := rfl
theorem a_L_542 (X : LX) (dd : Nat) : tb_L X dd 542 = tr_land 543 := rfl
theorem a_L_543 (X : LX) (dd : Nat) : tb_L X dd 543 = tr_lor 544 := rfl
theorem a_L_544 (X : LX) (dd : Nat) : tb_L X dd 544 = tr_callB X (Call (XD X) dd mi_X11_lay) 547 12 3 := rfl
theorem a_L_547 (X : LX) (dd : Nat) : tb_L X dd 547 = tr_aload 548 2 := rfl
theorem a_L_548 (X : LX) (dd : Nat) : tb_L X dd 548 = tr_aload 549 0 := rfl
theorem a_L_549 (X : LX) (dd : Nat) : tb_L X dd 549 = tr_iload 550 3 := rfl
theorem a_L_550 (X : LX) (dd : Nat) : tb_L X dd 550 = tr_ic 551 1 := rfl
theorem a_L_551 (X : LX) (dd : Nat) : tb_L X dd 551 = tr_iadd 552 := rfl
theorem a_L_552 (X : LX) (dd : Nat) : tb_L X dd 552 = tr_sald X 553 := rfl
theorem a_L_553 (X : LX) (dd : Nat) : tb_L X dd 553 = tr_aload 554 0 := rfl
theorem a_L_554 (X : LX) (dd : Nat) : tb_L X dd 554 = tr_iload 555 3 := rfl
theorem a_L_555 (X : LX) (dd : Nat) : tb_L X dd 555 = tr_ic 556 2 := rfl
theorem a_L_556 (X : LX) (dd : Nat) : tb_L X dd 556 = tr_iadd 557 := rfl
theorem a_L_557 (X : LX) (dd : Nat) : tb_L X dd 557 = tr_sald X 558 := rfl
theorem a_L_558 (X : LX) (dd : Nat) : tb_L X dd 558 = tr_aload 559 0 := rfl
theorem a_L_559 (X : LX) (dd : Nat) : tb_L X dd 559 = tr_iload 560 3 := rfl
theorem a_L_560 (X : LX) (dd : Nat) : tb_L X dd 560 = tr_ic 561 3 := rfl
theorem a_L_561 (X : LX) (dd : Nat) : tb_L X dd 561 = tr_iadd 562 := rfl
theorem a_L_562 (X : LX) (dd : Nat) : tb_L X dd 562 = tr_sald X 563 := rfl
theorem a_L_563 (X : LX) (dd : Nat) : tb_L X dd 563 = tr_i2l 564 := rfl
theorem a_L_564 (X : LX) (dd : Nat) : tb_L X dd 564 = tr_ic 566 32 := rfl
theorem a_L_566 (X : LX) (dd : Nat) : tb_L X dd 566 = tr_lshl 567 := rfl
theorem a_L_567 (X : LX) (dd : Nat) : tb_L X dd 567 = tr_aload 568 0 := rfl
theorem a_L_568 (X : LX) (dd : Nat) : tb_L X dd 568 = tr_iload 569 3 := rfl
theorem a_L_569 (X : LX) (dd : Nat) : tb_L X dd 569 = tr_ic 570 4 := rfl
theorem a_L_570 (X : LX) (dd : Nat) : tb_L X dd 570 = tr_iadd 571 := rfl
theorem a_L_571 (X : LX) (dd : Nat) : tb_L X dd 571 = tr_sald X 572 := rfl
theorem a_L_572 (X : LX) (dd : Nat) : tb_L X dd 572 = tr_i2l 573 := rfl
theorem a_L_573 (X : LX) (dd : Nat) : tb_L X dd 573 = tr_lc 576 4294967295 := rfl
theorem a_L_576 (X : LX) (dd : Nat) : tb_L X dd 576 = tr_land 577 := rfl
theorem a_L_577 (X : LX) (dd : Nat) : tb_L X dd 577 = tr_lor 578 := rfl
theorem a_L_578 (X : LX) (dd : Nat) : tb_L X dd 578 = tr_callB X (Call (XD X) dd mi_X12_lay) 581 13 3 := rfl
theorem a_L_581 (X : LX) (dd : Nat) : tb_L X dd 581 = tr_iceq 584 979 := rfl
theorem a_L_584 (X : LX) (dd : Nat) : tb_L X dd 584 = tr_ic 585 0 := rfl
theorem a_L_585 (X : LX) (dd : Nat) : tb_L X dd 585 = tr_zret := rfl
theorem a_L_586 (X : LX) (dd : Nat) : tb_L X dd 586 = tr_aload 587 1 := rfl
theorem a_L_587 (X : LX) (dd : Nat) : tb_L X dd 587 = tr_aload 588 0 := rfl
theorem a_L_588 (X : LX) (dd : Nat) : tb_L X dd 588 = tr_iload 589 3 := rfl
theorem a_L_589 (X : LX) (dd : Nat) : tb_L X dd 589 = tr_ic 590 1 := rfl
theorem a_L_590 (X : LX) (dd : Nat) : tb_L X dd 590 = tr_iadd 591 := rfl
theorem a_L_591 (X : LX) (dd : Nat) : tb_L X dd 591 = tr_sald X 592 := rfl
theorem a_L_592 (X : LX) (dd : Nat) : tb_L X dd 592 = tr_aload 593 0 := rfl
theorem a_L_593 (X : LX) (dd : Nat) : tb_L X dd 593 = tr_iload 594 3 := rfl
theorem a_L_594 (X : LX) (dd : Nat) : tb_L X dd 594 = tr_ic 595 2 := rfl
theorem a_L_595 (X : LX) (dd : Nat) : tb_L X dd 595 = tr_iadd 596 := rfl
theorem a_L_596 (X : LX) (dd : Nat) : tb_L X dd 596 = tr_sald X 597 := rfl
theorem a_L_597 (X : LX) (dd : Nat) : tb_L X dd 597 = tr_callB X (Call (XD X) dd mi_X11_cell) 600 12 2 := rfl
theorem a_L_600 (X : LX) (dd : Nat) : tb_L X dd 600 = tr_aload 601 2 := rfl
theorem a_L_601 (X : LX) (dd : Nat) : tb_L X dd 601 = tr_aload 602 0 := rfl
theorem a_L_602 (X : LX) (dd : Nat) : tb_L X dd 602 = tr_iload 603 3 := rfl
theorem a_L_603 (X : LX) (dd : Nat) : tb_L X dd 603 = tr_ic 604 1 := rfl
theorem a_L_604 (X : LX) (dd : Nat) : tb_L X dd 604 = tr_iadd 605 := rfl
theorem a_L_605 (X : LX) (dd : Nat) : tb_L X dd 605 = tr_sald X 606 := rfl
theorem a_L_606 (X : LX) (dd : Nat) : tb_L X dd 606 = tr_aload 607 0 := rfl
theorem a_L_607 (X : LX) (dd : Nat) : tb_L X dd 607 = tr_iload 608 3 := rfl
theorem a_L_608 (X : LX) (dd : Nat) : tb_L X dd 608 = tr_ic 609 2 := rfl
theorem a_L_609 (X : LX) (dd : Nat) : tb_L X dd 609 = tr_iadd 610 := rfl
theorem a_L_610 (X : LX) (dd : Nat) : tb_L X dd 610 = tr_sald X 611 := rfl
theorem a_L_611 (X : LX) (dd : Nat) : tb_L X dd 611 = tr_callB X (Call (XD X) dd mi_X12_cell) 614 13 2 := rfl
theorem a_L_614 (X : LX) (dd : Nat) : tb_L X dd 614 = tr_lcmp 615 := rfl
theorem a_L_615 (X : LX) (dd : Nat) : tb_L X dd 615 = tr_ifeq 618 979 := rfl
theorem a_L_618 (X : LX) (dd : Nat) : tb_L X dd 618 = tr_ic 619 0 := rfl
theorem a_L_619 (X : LX) (dd : Nat) : tb_L X dd 619 = tr_zret := rfl
theorem a_L_620 (X : LX) (dd : Nat) : tb_L X dd 620 = tr_aload 621 1 := rfl
theorem a_L_621 (X : LX) (dd : Nat) : tb_L X dd 621 = tr_aload 622 0 := rfl
theorem a_L_622 (X : LX) (dd : Nat) : tb_L X dd 622 = tr_iload 623 3 := rfl
theorem a_L_623 (X : LX) (dd : Nat) : tb_L X dd 623 = tr_ic 624 1 := rfl
theorem a_L_624 (X : LX) (dd : Nat) : tb_L X dd 624 = tr_iadd 625 := rfl
theorem a_L_625 (X : LX) (dd : Nat) : tb_L X dd 625 = tr_sald X 626 := rfl
theorem a_L_626 (X : LX) (dd : Nat) : tb_L X dd 626 = tr_callB X (Call (XD X) dd mi_X11_cells) 629 12 1 := rfl
theorem a_L_629 (X : LX) (dd : Nat) : tb_L X dd 629 = tr_aload 630 2 := rfl
theorem a_L_630 (X : LX) (dd : Nat) : tb_L X dd 630 = tr_aload 631 0 := rfl
theorem a_L_631 (X : LX) (dd : Nat) : tb_L X dd 631 = tr_iload 632 3 := rfl
theorem a_L_632 (X : LX) (dd : Nat) : tb_L X dd 632 = tr_ic 633 1 := rfl
theorem a_L_633 (X : LX) (dd : Nat) : tb_L X dd 633 = tr_iadd 634 := rfl
theorem a_L_634 (X : LX) (dd : Nat) : tb_L X dd 634 = tr_sald X 635 := rfl
theorem a_L_635 (X : LX) (dd : Nat) : tb_L X dd 635 = tr_callB X (Call (XD X) dd mi_X12_cells) 638 13 1 := rfl
theorem a_L_638 (X : LX) (dd : Nat) : tb_L X dd 638 = tr_iceq 641 979 := rfl
theorem a_L_641 (X : LX) (dd : Nat) : tb_L X dd 641 = tr_ic 642 0 := rfl
theorem a_L_642 (X : LX) (dd : Nat) : tb_L X dd 642 = tr_zret := rfl
theorem a_L_643 (X : LX) (dd : Nat) : tb_L X dd 643 = tr_aload 644 1 := rfl
theorem a_L_644 (X : LX) (dd : Nat) : tb_L X dd 644 = tr_aload 645 0 := rfl
theorem a_L_645 (X : LX) (dd : Nat) : tb_L X dd 645 = tr_iload 646 3 := rfl
theorem a_L_646 (X : LX) (dd : Nat) : tb_L X dd 646 = tr_ic 647 1 := rfl
theorem a_L_647 (X : LX) (dd : Nat) : tb_L X dd 647 = tr_iadd 648 := rfl
theorem a_L_648 (X : LX) (dd : Nat) : tb_L X dd 648 = tr_sald X 649 := rfl
theorem a_L_649 (X : LX) (dd : Nat) : tb_L X dd 649 = tr_aload 650 0 := rfl
theorem a_L_650 (X : LX) (dd : Nat) : tb_L X dd 650 = tr_iload 651 3 := rfl
theorem a_L_651 (X : LX) (dd : Nat) : tb_L X dd 651 = tr_ic 652 2 := rfl
theorem a_L_652 (X : LX) (dd : Nat) : tb_L X dd 652 = tr_iadd 653 := rfl
theorem a_L_653 (X : LX) (dd : Nat) : tb_L X dd 653 = tr_sald X 654 := rfl
theorem a_L_654 (X : LX) (dd : Nat) : tb_L X dd 654 = tr_i2l 655 := rfl
theorem a_L_655 (X : LX) (dd : Nat) : tb_L X dd 655 = tr_ic 657 32 := rfl
theorem a_L_657 (X : LX) (dd : Nat) : tb_L X dd 657 = tr_lshl 658 := rfl
theorem a_L_658 (X : LX) (dd : Nat) : tb_L X dd 658 = tr_aload 659 0 := rfl
theorem a_L_659 (X : LX) (dd : Nat) : tb_L X dd 659 = tr_iload 660 3 := rfl
theorem a_L_660 (X : LX) (dd : Nat) : tb_L X dd 660 = tr_ic 661 3 := rfl
theorem a_L_661 (X : LX) (dd : Nat) : tb_L X dd 661 = tr_iadd 662 := rfl
theorem a_L_662 (X : LX) (dd : Nat) : tb_L X dd 662 = tr_sald X 663 := rfl
theorem a_L_663 (X : LX) (dd : Nat) : tb_L X dd 663 = tr_i2l 664 := rfl
theorem a_L_664 (X : LX) (dd : Nat) : tb_L X dd 664 = tr_lc 667 4294967295 := rfl
theorem a_L_667 (X : LX) (dd : Nat) : tb_L X dd 667 = tr_land 668 := rfl
theorem a_L_668 (X : LX) (dd : Nat) : tb_L X dd 668 = tr_lor 669 := rfl
theorem a_L_669 (X : LX) (dd : Nat) : tb_L X dd 669 = tr_callB X (Call (XD X) dd mi_X11_send) 672 12 2 := rfl
theorem a_L_672 (X : LX) (dd : Nat) : tb_L X dd 672 = tr_aload 673 2 := rfl
theorem a_L_673 (X : LX) (dd : Nat) : tb_L X dd 673 = tr_aload 674 0 := rfl
theorem a_L_674 (X : LX) (dd : Nat) : tb_L X dd 674 = tr_iload 675 3 := rfl
theorem a_L_675 (X : LX) (dd : Nat) : tb_L X dd 675 = tr_ic 676 1 := rfl
theorem a_L_676 (X : LX) (dd : Nat) : tb_L X dd 676 = tr_iadd 677 := rfl
theorem a_L_677 (X : LX) (dd : Nat) : tb_L X dd 677 = tr_sald X 678 := rfl
theorem a_L_678 (X : LX) (dd : Nat) : tb_L X dd 678 = tr_aload 679 0 := rfl
theorem a_L_679 (X : LX) (dd : Nat) : tb_L X dd 679 = tr_iload 680 3 := rfl
theorem a_L_680 (X : LX) (dd : Nat) : tb_L X dd 680 = tr_ic 681 2 := rfl
theorem a_L_681 (X : LX) (dd : Nat) : tb_L X dd 681 = tr_iadd 682 := rfl
theorem a_L_682 (X : LX) (dd : Nat) : tb_L X dd 682 = tr_sald X 683 := rfl
theorem a_L_683 (X : LX) (dd : Nat) : tb_L X dd 683 = tr_i2l 684 := rfl
theorem a_L_684 (X : LX) (dd : Nat) : tb_L X dd 684 = tr_ic 686 32 := rfl
theorem a_L_686 (X : LX) (dd : Nat) : tb_L X dd 686 = tr_lshl 687 := rfl
theorem a_L_687 (X : LX) (dd : Nat) : tb_L X dd 687 = tr_aload 688 0 := rfl
theorem a_L_688 (X : LX) (dd : Nat) : tb_L X dd 688 = tr_iload 689 3 := rfl
theorem a_L_689 (X : LX) (dd : Nat) : tb_L X dd 689 = tr_ic 690 3 := rfl
theorem a_L_690 (X : LX) (dd : Nat) : tb_L X dd 690 = tr_iadd 691 := rfl
theorem a_L_691 (X : LX) (dd : Nat) : tb_L X dd 691 = tr_sald X 692 := rfl
theorem a_L_692 (X : LX) (dd : Nat) : tb_L X dd 692 = tr_i2l 693 := rfl
theorem a_L_693 (X : LX) (dd : Nat) : tb_L X dd 693 = tr_lc 696 4294967295 := rfl
theorem a_L_696 (X : LX) (dd : Nat) : tb_L X dd 696 = tr_land 697 := rfl
theorem a_L_697 (X : LX) (dd : Nat) : tb_L X dd 697 = tr_lor 698 := rfl
theorem a_L_698 (X : LX) (dd : Nat) : tb_L X dd 698 = tr_callB X (Call (XD X) dd mi_X12_send) 701 13 2 := rfl
theorem a_L_701 (X : LX) (dd : Nat) : tb_L X dd 701 = tr_iceq 704 979 := rfl
theorem a_L_704 (X : LX) (dd : Nat) : tb_L X dd 704 = tr_ic 705 0 := rfl
theorem a_L_705 (X : LX) (dd : Nat) : tb_L X dd 705 = tr_zret := rfl
theorem a_L_706 (X : LX) (dd : Nat) : tb_L X dd 706 = tr_aload 707 1 := rfl
theorem a_L_707 (X : LX) (dd : Nat) : tb_L X dd 707 = tr_aload 708 0 := rfl
theorem a_L_708 (X : LX) (dd : Nat) : tb_L X dd 708 = tr_iload 709 3 := rfl
theorem a_L_709 (X : LX) (dd : Nat) : tb_L X dd 709 = tr_ic 710 1 := rfl
theorem a_L_710 (X : LX) (dd : Nat) : tb_L X dd 710 = tr_iadd 711 := rfl
theorem a_L_711 (X : LX) (dd : Nat) : tb_L X dd 711 = tr_sald X 712 := rfl
theorem a_L_712 (X : LX) (dd : Nat) : tb_L X dd 712 = tr_callB X (Call (XD X) dd mi_X11_told) 715 12 1 := rfl
theorem a_L_715 (X : LX) (dd : Nat) : tb_L X dd 715 = tr_aload 716 2 := rfl
theorem a_L_716 (X : LX) (dd : Nat) : tb_L X dd 716 = tr_aload 717 0 := rfl
theorem a_L_717 (X : LX) (dd : Nat) : tb_L X dd 717 = tr_iload 718 3 := rfl
theorem a_L_718 (X : LX) (dd : Nat) : tb_L X dd 718 = tr_ic 719 1 := rfl
theorem a_L_719 (X : LX) (dd : Nat) : tb_L X dd 719 = tr_iadd 720 := rfl
theorem a_L_720 (X : LX) (dd : Nat) : tb_L X dd 720 = tr_sald X 721 := rfl
theorem a_L_721 (X : LX) (dd : Nat) : tb_L X dd 721 = tr_callB X (Call (XD X) dd mi_X12_told) 724 13 1 := rfl
theorem a_L_724 (X : LX) (dd : Nat) : tb_L X dd 724 = tr_iceq 727 979 := rfl
theorem a_L_727 (X : LX) (dd : Nat) : tb_L X dd 727 = tr_ic 728 0 := rfl
theorem a_L_728 (X : LX) (dd : Nat) : tb_L X dd 728 = tr_zret := rfl
theorem a_L_729 (X : LX) (dd : Nat) : tb_L X dd 729 = tr_aload 730 1 := rfl
theorem a_L_730 (X : LX) (dd : Nat) : tb_L X dd 730 = tr_callB X (Call (XD X) dd mi_X11_value) 733 12 0 := rfl
theorem a_L_733 (X : LX) (dd : Nat) : tb_L X dd 733 = tr_aload 734 2 := rfl
theorem a_L_734 (X : LX) (dd : Nat) : tb_L X dd 734 = tr_callB X (Call (XD X) dd mi_X12_value) 737 13 0 := rfl
theorem a_L_737 (X : LX) (dd : Nat) : tb_L X dd 737 = tr_lcmp 738 := rfl
theorem a_L_738 (X : LX) (dd : Nat) : tb_L X dd 738 = tr_ifeq 741 979 := rfl
theorem a_L_741 (X : LX) (dd : Nat) : tb_L X dd 741 = tr_ic 742 0 := rfl
theorem a_L_742 (X : LX) (dd : Nat) : tb_L X dd 742 = tr_zret := rfl
theorem a_L_743 (X : LX) (dd : Nat) : tb_L X dd 743 = tr_aload 744 1 := rfl
theorem a_L_744 (X : LX) (dd : Nat) : tb_L X dd 744 = tr_aload 745 0 := rfl
theorem a_L_745 (X : LX) (dd : Nat) : tb_L X dd 745 = tr_iload 746 3 := rfl
theorem a_L_746 (X : LX) (dd : Nat) : tb_L X dd 746 = tr_ic 747 1 := rfl
theorem a_L_747 (X : LX) (dd : Nat) : tb_L X dd 747 = tr_iadd 748 := rfl
theorem a_L_748 (X : LX) (dd : Nat) : tb_L X dd 748 = tr_sald X 749 := rfl
theorem a_L_749 (X : LX) (dd : Nat) : tb_L X dd 749 = tr_callB X (Call (XD X) dd mi_X11_logged) 752 12 1 := rfl
theorem a_L_752 (X : LX) (dd : Nat) : tb_L X dd 752 = tr_aload 753 2 := rfl
theorem a_L_753 (X : LX) (dd : Nat) : tb_L X dd 753 = tr_aload 754 0 := rfl
theorem a_L_754 (X : LX) (dd : Nat) : tb_L X dd 754 = tr_iload 755 3 := rfl
theorem a_L_755 (X : LX) (dd : Nat) : tb_L X dd 755 = tr_ic 756 1 := rfl
theorem a_L_756 (X : LX) (dd : Nat) : tb_L X dd 756 = tr_iadd 757 := rfl
theorem a_L_757 (X : LX) (dd : Nat) : tb_L X dd 757 = tr_sald X 758 := rfl
theorem a_L_758 (X : LX) (dd : Nat) : tb_L X dd 758 = tr_callB X (Call (XD X) dd mi_X12_logged) 761 13 1 := rfl
theorem a_L_761 (X : LX) (dd : Nat) : tb_L X dd 761 = tr_lcmp 762 := rfl
theorem a_L_762 (X : LX) (dd : Nat) : tb_L X dd 762 = tr_ifeq 765 979 := rfl
theorem a_L_765 (X : LX) (dd : Nat) : tb_L X dd 765 = tr_ic 766 0 := rfl
theorem a_L_766 (X : LX) (dd : Nat) : tb_L X dd 766 = tr_zret := rfl
theorem a_L_767 (X : LX) (dd : Nat) : tb_L X dd 767 = tr_aload 768 1 := rfl
theorem a_L_768 (X : LX) (dd : Nat) : tb_L X dd 768 = tr_aload 769 0 := rfl
theorem a_L_769 (X : LX) (dd : Nat) : tb_L X dd 769 = tr_iload 770 3 := rfl
theorem a_L_770 (X : LX) (dd : Nat) : tb_L X dd 770 = tr_ic 771 1 := rfl
theorem a_L_771 (X : LX) (dd : Nat) : tb_L X dd 771 = tr_iadd 772 := rfl
theorem a_L_772 (X : LX) (dd : Nat) : tb_L X dd 772 = tr_sald X 773 := rfl
theorem a_L_773 (X : LX) (dd : Nat) : tb_L X dd 773 = tr_aload 774 0 := rfl
theorem a_L_774 (X : LX) (dd : Nat) : tb_L X dd 774 = tr_iload 775 3 := rfl
theorem a_L_775 (X : LX) (dd : Nat) : tb_L X dd 775 = tr_ic 776 2 := rfl
theorem a_L_776 (X : LX) (dd : Nat) : tb_L X dd 776 = tr_iadd 777 := rfl
theorem a_L_777 (X : LX) (dd : Nat) : tb_L X dd 777 = tr_sald X 778 := rfl
theorem a_L_778 (X : LX) (dd : Nat) : tb_L X dd 778 = tr_callB X (Call (XD X) dd mi_X11_failure) 781 12 2 := rfl
theorem a_L_781 (X : LX) (dd : Nat) : tb_L X dd 781 = tr_aload 782 2 := rfl
theorem a_L_782 (X : LX) (dd : Nat) : tb_L X dd 782 = tr_aload 783 0 := rfl
theorem a_L_783 (X : LX) (dd : Nat) : tb_L X dd 783 = tr_iload 784 3 := rfl
theorem a_L_784 (X : LX) (dd : Nat) : tb_L X dd 784 = tr_ic 785 1 := rfl
theorem a_L_785 (X : LX) (dd : Nat) : tb_L X dd 785 = tr_iadd 786 := rfl
theorem a_L_786 (X : LX) (dd : Nat) : tb_L X dd 786 = tr_sald X 787 := rfl
theorem a_L_787 (X : LX) (dd : Nat) : tb_L X dd 787 = tr_aload 788 0 := rfl
theorem a_L_788 (X : LX) (dd : Nat) : tb_L X dd 788 = tr_iload 789 3 := rfl
theorem a_L_789 (X : LX) (dd : Nat) : tb_L X dd 789 = tr_ic 790 2 := rfl
theorem a_L_790 (X : LX) (dd : Nat) : tb_L X dd 790 = tr_iadd 791 := rfl
theorem a_L_791 (X : LX) (dd : Nat) : tb_L X dd 791 = tr_sald X 792 := rfl
theorem a_L_792 (X : LX) (dd : Nat) : tb_L X dd 792 = tr_callB X (Call (XD X) dd mi_X12_failure) 795 13 2 := rfl
theorem a_L_795 (X : LX) (dd : Nat) : tb_L X dd 795 = tr_iceq 798 979 := rfl
theorem a_L_798 (X : LX) (dd : Nat) : tb_L X dd 798 = tr_ic 799 0 := rfl
theorem a_L_799 (X : LX) (dd : Nat) : tb_L X dd 799 = tr_zret := rfl
theorem a_L_800 (X : LX) (dd : Nat) : tb_L X dd 800 = tr_aload 801 1 := rfl
theorem a_L_801 (X : LX) (dd : Nat) : tb_L X dd 801 = tr_aload 802 0 := rfl
theorem a_L_802 (X : LX) (dd : Nat) : tb_L X dd 802 = tr_iload 803 3 := rfl
theorem a_L_803 (X : LX) (dd : Nat) : tb_L X dd 803 = tr_ic 804 1 := rfl
theorem a_L_804 (X : LX) (dd : Nat) : tb_L X dd 804 = tr_iadd 805 := rfl
theorem a_L_805 (X : LX) (dd : Nat) : tb_L X dd 805 = tr_sald X 806 := rfl
theorem a_L_806 (X : LX) (dd : Nat) : tb_L X dd 806 = tr_callB X (Call (XD X) dd mi_X11_meter) 809 12 1 := rfl
theorem a_L_809 (X : LX) (dd : Nat) : tb_L X dd 809 = tr_aload 810 2 := rfl
theorem a_L_810 (X : LX) (dd : Nat) : tb_L X dd 810 = tr_aload 811 0 := rfl
theorem a_L_811 (X : LX) (dd : Nat) : tb_L X dd 811 = tr_iload 812 3 := rfl
theorem a_L_812 (X : LX) (dd : Nat) : tb_L X dd 812 = tr_ic 813 1 := rfl
theorem a_L_813 (X : LX) (dd : Nat) : tb_L X dd 813 = tr_iadd 814 := rfl
theorem a_L_814 (X : LX) (dd : Nat) : tb_L X dd 814 = tr_sald X 815 := rfl
theorem a_L_815 (X : LX) (dd : Nat) : tb_L X dd 815 = tr_callB X (Call (XD X) dd mi_X12_meter) 818 13 1 := rfl
theorem a_L_818 (X : LX) (dd : Nat) : tb_L X dd 818 = tr_lcmp 819 := rfl
theorem a_L_819 (X : LX) (dd : Nat) : tb_L X dd 819 = tr_ifeq 822 979 := rfl
theorem a_L_822 (X : LX) (dd : Nat) : tb_L X dd 822 = tr_ic 823 0 := rfl
theorem a_L_823 (X : LX) (dd : Nat) : tb_L X dd 823 = tr_zret := rfl
theorem a_L_824 (X : LX) (dd : Nat) : tb_L X dd 824 = tr_aload 825 1 := rfl
theorem a_L_825 (X : LX) (dd : Nat) : tb_L X dd 825 = tr_aload 826 0 := rfl
theorem a_L_826 (X : LX) (dd : Nat) : tb_L X dd 826 = tr_iload 827 3 := rfl
theorem a_L_827 (X : LX) (dd : Nat) : tb_L X dd 827 = tr_ic 828 1 := rfl
theorem a_L_828 (X : LX) (dd : Nat) : tb_L X dd 828 = tr_iadd 829 := rfl
theorem a_L_829 (X : LX) (dd : Nat) : tb_L X dd 829 = tr_sald X 830 := rfl
theorem a_L_830 (X : LX) (dd : Nat) : tb_L X dd 830 = tr_callB X (Call (XD X) dd mi_X11_back) 833 12 1 := rfl
theorem a_L_833 (X : LX) (dd : Nat) : tb_L X dd 833 = tr_aload 834 2 := rfl
theorem a_L_834 (X : LX) (dd : Nat) : tb_L X dd 834 = tr_aload 835 0 := rfl
theorem a_L_835 (X : LX) (dd : Nat) : tb_L X dd 835 = tr_iload 836 3 := rfl
theorem a_L_836 (X : LX) (dd : Nat) : tb_L X dd 836 = tr_ic 837 1 := rfl
theorem a_L_837 (X : LX) (dd : Nat) : tb_L X dd 837 = tr_iadd 838 := rfl
theorem a_L_838 (X : LX) (dd : Nat) : tb_L X dd 838 = tr_sald X 839 := rfl
theorem a_L_839 (X : LX) (dd : Nat) : tb_L X dd 839 = tr_callB X (Call (XD X) dd mi_X12_back) 842 13 1 := rfl
theorem a_L_842 (X : LX) (dd : Nat) : tb_L X dd 842 = tr_iceq 845 979 := rfl
theorem a_L_845 (X : LX) (dd : Nat) : tb_L X dd 845 = tr_ic 846 0 := rfl
theorem a_L_846 (X : LX) (dd : Nat) : tb_L X dd 846 = tr_zret := rfl
theorem a_L_847 (X : LX) (dd : Nat) : tb_L X dd 847 = tr_aload 848 1 := rfl
theorem a_L_848 (X : LX) (dd : Nat) : tb_L X dd 848 = tr_aload 849 0 := rfl
theorem a_L_849 (X : LX) (dd : Nat) : tb_L X dd 849 = tr_iload 850 3 := rfl
theorem a_L_850 (X : LX) (dd : Nat) : tb_L X dd 850 = tr_ic 851 1 := rfl
theorem a_L_851 (X : LX) (dd : Nat) : tb_L X dd 851 = tr_iadd 852 := rfl
theorem a_L_852 (X : LX) (dd : Nat) : tb_L X dd 852 = tr_sald X 853 := rfl
theorem a_L_853 (X : LX) (dd : Nat) : tb_L X dd 853 = tr_aload 854 0 := rfl
theorem a_L_854 (X : LX) (dd : Nat) : tb_L X dd 854 = tr_iload 855 3 := rfl
theorem a_L_855 (X : LX) (dd : Nat) : tb_L X dd 855 = tr_ic 856 2 := rfl
theorem a_L_856 (X : LX) (dd : Nat) : tb_L X dd 856 = tr_iadd 857 := rfl
theorem a_L_857 (X : LX) (dd : Nat) : tb_L X dd 857 = tr_sald X 858 := rfl
theorem a_L_858 (X : LX) (dd : Nat) : tb_L X dd 858 = tr_callB X (Call (XD X) dd mi_X11_listener) 861 12 2 := rfl
theorem a_L_861 (X : LX) (dd : Nat) : tb_L X dd 861 = tr_aload 862 2 := rfl
theorem a_L_862 (X : LX) (dd : Nat) : tb_L X dd 862 = tr_aload 863 0 := rfl
theorem a_L_863 (X : LX) (dd : Nat) : tb_L X dd 863 = tr_iload 864 3 := rfl
theorem a_L_864 (X : LX) (dd : Nat) : tb_L X dd 864 = tr_ic 865 1 := rfl
theorem a_L_865 (X : LX) (dd : Nat) : tb_L X dd 865 = tr_iadd 866 := rfl
theorem a_L_866 (X : LX) (dd : Nat) : tb_L X dd 866 = tr_sald X 867 := rfl
theorem a_L_867 (X : LX) (dd : Nat) : tb_L X dd 867 = tr_aload 868 0 := rfl
theorem a_L_868 (X : LX) (dd : Nat) : tb_L X dd 868 = tr_iload 869 3 := rfl
theorem a_L_869 (X : LX) (dd : Nat) : tb_L X dd 869 = tr_ic 870 2 := rfl
theorem a_L_870 (X : LX) (dd : Nat) : tb_L X dd 870 = tr_iadd 871 := rfl
theorem a_L_871 (X : LX) (dd : Nat) : tb_L X dd 871 = tr_sald X 872 := rfl
theorem a_L_872 (X : LX) (dd : Nat) : tb_L X dd 872 = tr_callB X (Call (XD X) dd mi_X12_listener) 875 13 2 := rfl
theorem a_L_875 (X : LX) (dd : Nat) : tb_L X dd 875 = tr_iceq 878 979 := rfl
theorem a_L_878 (X : LX) (dd : Nat) : tb_L X dd 878 = tr_ic 879 0 := rfl
theorem a_L_879 (X : LX) (dd : Nat) : tb_L X dd 879 = tr_zret := rfl
theorem a_L_880 (X : LX) (dd : Nat) : tb_L X dd 880 = tr_aload 881 1 := rfl
theorem a_L_881 (X : LX) (dd : Nat) : tb_L X dd 881 = tr_aload 882 0 := rfl
theorem a_L_882 (X : LX) (dd : Nat) : tb_L X dd 882 = tr_iload 883 3 := rfl
theorem a_L_883 (X : LX) (dd : Nat) : tb_L X dd 883 = tr_ic 884 1 := rfl
theorem a_L_884 (X : LX) (dd : Nat) : tb_L X dd 884 = tr_iadd 885 := rfl
theorem a_L_885 (X : LX) (dd : Nat) : tb_L X dd 885 = tr_sald X 886 := rfl
theorem a_L_886 (X : LX) (dd : Nat) : tb_L X dd 886 = tr_aload 887 0 := rfl
theorem a_L_887 (X : LX) (dd : Nat) : tb_L X dd 887 = tr_iload 888 3 := rfl
theorem a_L_888 (X : LX) (dd : Nat) : tb_L X dd 888 = tr_ic 889 2 := rfl
theorem a_L_889 (X : LX) (dd : Nat) : tb_L X dd 889 = tr_iadd 890 := rfl
theorem a_L_890 (X : LX) (dd : Nat) : tb_L X dd 890 = tr_sald X 891 := rfl
theorem a_L_891 (X : LX) (dd : Nat) : tb_L X dd 891 = tr_aload 892 0 := rfl
theorem a_L_892 (X : LX) (dd : Nat) : tb_L X dd 892 = tr_iload 893 3 := rfl
theorem a_L_893 (X : LX) (dd : Nat) : tb_L X dd 893 = tr_ic 894 3 := rfl
theorem a_L_894 (X : LX) (dd : Nat) : tb_L X dd 894 = tr_iadd 895 := rfl
theorem a_L_895 (X : LX) (dd : Nat) : tb_L X dd 895 = tr_sald X 896 := rfl
theorem a_L_896 (X : LX) (dd : Nat) : tb_L X dd 896 = tr_callB X (Call (XD X) dd mi_X11_turn) 899 12 3 := rfl
theorem a_L_899 (X : LX) (dd : Nat) : tb_L X dd 899 = tr_aload 900 2 := rfl
theorem a_L_900 (X : LX) (dd : Nat) : tb_L X dd 900 = tr_aload 901 0 := rfl
theorem a_L_901 (X : LX) (dd : Nat) : tb_L X dd 901 = tr_iload 902 3 := rfl
theorem a_L_902 (X : LX) (dd : Nat) : tb_L X dd 902 = tr_ic 903 1 := rfl
theorem a_L_903 (X : LX) (dd : Nat) : tb_L X dd 903 = tr_iadd 904 := rfl
theorem a_L_904 (X : LX) (dd : Nat) : tb_L X dd 904 = tr_sald X 905 := rfl
theorem a_L_905 (X : LX) (dd : Nat) : tb_L X dd 905 = tr_aload 906 0 := rfl
theorem a_L_906 (X : LX) (dd : Nat) : tb_L X dd 906 = tr_iload 907 3 := rfl
theorem a_L_907 (X : LX) (dd : Nat) : tb_L X dd 907 = tr_ic 908 2 := rfl
theorem a_L_908 (X : LX) (dd : Nat) : tb_L X dd 908 = tr_iadd 909 := rfl
theorem a_L_909 (X : LX) (dd : Nat) : tb_L X dd 909 = tr_sald X 910 := rfl
theorem a_L_910 (X : LX) (dd : Nat) : tb_L X dd 910 = tr_aload 911 0 := rfl
theorem a_L_911 (X : LX) (dd : Nat) : tb_L X dd 911 = tr_iload 912 3 := rfl
theorem a_L_912 (X : LX) (dd : Nat) : tb_L X dd 912 = tr_ic 913 3 := rfl
theorem a_L_913 (X : LX) (dd : Nat) : tb_L X dd 913 = tr_iadd 914 := rfl
theorem a_L_914 (X : LX) (dd : Nat) : tb_L X dd 914 = tr_sald X 915 := rfl
theorem a_L_915 (X : LX) (dd : Nat) : tb_L X dd 915 = tr_callB X (Call (XD X) dd mi_X12_turn) 918 13 3 := rfl
theorem a_L_918 (X : LX) (dd : Nat) : tb_L X dd 918 = tr_iceq 921 979 := rfl
theorem a_L_921 (X : LX) (dd : Nat) : tb_L X dd 921 = tr_ic 922 0 := rfl
theorem a_L_922 (X : LX) (dd : Nat) : tb_L X dd 922 = tr_zret := rfl
theorem a_L_923 (X : LX) (dd : Nat) : tb_L X dd 923 = tr_aload 924 1 := rfl
theorem a_L_924 (X : LX) (dd : Nat) : tb_L X dd 924 = tr_aload 925 0 := rfl
theorem a_L_925 (X : LX) (dd : Nat) : tb_L X dd 925 = tr_iload 926 3 := rfl
theorem a_L_926 (X : LX) (dd : Nat) : tb_L X dd 926 = tr_ic 927 1 := rfl
theorem a_L_927 (X : LX) (dd : Nat) : tb_L X dd 927 = tr_iadd 928 := rfl
theorem a_L_928 (X : LX) (dd : Nat) : tb_L X dd 928 = tr_sald X 929 := rfl
theorem a_L_929 (X : LX) (dd : Nat) : tb_L X dd 929 = tr_aload 930 0 := rfl
theorem a_L_930 (X : LX) (dd : Nat) : tb_L X dd 930 = tr_iload 931 3 := rfl
theorem a_L_931 (X : LX) (dd : Nat) : tb_L X dd 931 = tr_ic 932 2 := rfl
theorem a_L_932 (X : LX) (dd : Nat) : tb_L X dd 932 = tr_iadd 933 := rfl
theorem a_L_933 (X : LX) (dd : Nat) : tb_L X dd 933 = tr_sald X 934 := rfl
theorem a_L_934 (X : LX) (dd : Nat) : tb_L X dd 934 = tr_callB X (Call (XD X) dd mi_X11_under) 937 12 2 := rfl
theorem a_L_937 (X : LX) (dd : Nat) : tb_L X dd 937 = tr_aload 938 2 := rfl
theorem a_L_938 (X : LX) (dd : Nat) : tb_L X dd 938 = tr_aload 939 0 := rfl
theorem a_L_939 (X : LX) (dd : Nat) : tb_L X dd 939 = tr_iload 940 3 := rfl
theorem a_L_940 (X : LX) (dd : Nat) : tb_L X dd 940 = tr_ic 941 1 := rfl
theorem a_L_941 (X : LX) (dd : Nat) : tb_L X dd 941 = tr_iadd 942 := rfl
theorem a_L_942 (X : LX) (dd : Nat) : tb_L X dd 942 = tr_sald X 943 := rfl
theorem a_L_943 (X : LX) (dd : Nat) : tb_L X dd 943 = tr_aload 944 0 := rfl
theorem a_L_944 (X : LX) (dd : Nat) : tb_L X dd 944 = tr_iload 945 3 := rfl
theorem a_L_945 (X : LX) (dd : Nat) : tb_L X dd 945 = tr_ic 946 2 := rfl
theorem a_L_946 (X : LX) (dd : Nat) : tb_L X dd 946 = tr_iadd 947 := rfl
theorem a_L_947 (X : LX) (dd : Nat) : tb_L X dd 947 = tr_sald X 948 := rfl
theorem a_L_948 (X : LX) (dd : Nat) : tb_L X dd 948 = tr_callB X (Call (XD X) dd mi_X12_under) 951 13 2 := rfl
theorem a_L_951 (X : LX) (dd : Nat) : tb_L X dd 951 = tr_iceq 954 979 := rfl
theorem a_L_954 (X : LX) (dd : Nat) : tb_L X dd 954 = tr_ic 955 0 := rfl
theorem a_L_955 (X : LX) (dd : Nat) : tb_L X dd 955 = tr_zret := rfl
theorem a_L_956 (X : LX) (dd : Nat) : tb_L X dd 956 = tr_aload 957 1 := rfl
theorem a_L_957 (X : LX) (dd : Nat) : tb_L X dd 957 = tr_aload 958 0 := rfl
theorem a_L_958 (X : LX) (dd : Nat) : tb_L X dd 958 = tr_iload 959 3 := rfl
theorem a_L_959 (X : LX) (dd : Nat) : tb_L X dd 959 = tr_ic 960 1 := rfl
theorem a_L_960 (X : LX) (dd : Nat) : tb_L X dd 960 = tr_iadd 961 := rfl
theorem a_L_961 (X : LX) (dd : Nat) : tb_L X dd 961 = tr_sald X 962 := rfl
theorem a_L_962 (X : LX) (dd : Nat) : tb_L X dd 962 = tr_callB X (Call (XD X) dd mi_X11_count) 965 12 1 := rfl
theorem a_L_965 (X : LX) (dd : Nat) : tb_L X dd 965 = tr_aload 966 2 := rfl
theorem a_L_966 (X : LX) (dd : Nat) : tb_L X dd 966 = tr_aload 967 0 := rfl
theorem a_L_967 (X : LX) (dd : Nat) : tb_L X dd 967 = tr_iload 968 3 := rfl
theorem a_L_968 (X : LX) (dd : Nat) : tb_L X dd 968 = tr_ic 969 1 := rfl
theorem a_L_969 (X : LX) (dd : Nat) : tb_L X dd 969 = tr_iadd 970 := rfl
theorem a_L_970 (X : LX) (dd : Nat) : tb_L X dd 970 = tr_sald X 971 := rfl
theorem a_L_971 (X : LX) (dd : Nat) : tb_L X dd 971 = tr_callB X (Call (XD X) dd mi_X12_count) 974 13 1 := rfl
theorem a_L_974 (X : LX) (dd : Nat) : tb_L X dd 974 = tr_iceq 977 979 := rfl
theorem a_L_977 (X : LX) (dd : Nat) : tb_L X dd 977 = tr_ic 978 0 := rfl
theorem a_L_978 (X : LX) (dd : Nat) : tb_L X dd 978 = tr_zret := rfl
theorem a_L_979 (X : LX) (dd : Nat) : tb_L X dd 979 = tr_iinc 982 3 6 := rfl
theorem a_L_982 (X : LX) (dd : Nat) : tb_L X dd 982 = tr_goto 18 := rfl
theorem a_L_985 (X : LX) (dd : Nat) : tb_L X dd 985 = tr_ic 986 1 := rfl
theorem a_L_986 (X : LX) (dd : Nat) : tb_L X dd 986 = tr_zret := rfl
