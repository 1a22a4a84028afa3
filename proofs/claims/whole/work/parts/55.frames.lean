/-! Cores that differ in some fields alone; parts kept -/
def Skn (K : List Nat) (c c' : Core) : Prop := ∀ k, k ∉ K → (∀ i, kI c' k i = kI c k i) ∧ ∀ i, kL c' k i = kL c k i
theorem Skn.rf {K : List Nat} {c : Core} : Skn K c c := fun _ _ => ⟨fun _ => rfl, fun _ => rfl⟩
theorem Skn.tr {K : List Nat} {c c1 c2 : Core} (h : Skn K c c1) (g : Skn K c1 c2) : Skn K c c2 := fun k hk => ⟨fun i => ((g k hk).1 i).trans ((h k hk).1 i), fun i => ((g k hk).2 i).trans ((h k hk).2 i)⟩
theorem Skn.uI {K : List Nat} {c c1 : Core} (h : Skn K c c1) {k i : Nat} {v : Int32} (hk : k ∈ K) : Skn K c (uI c1 k i v) := fun k' hk' => ⟨fun j => by
  rw [kI_uI, if_neg (fun q => hk' (by rw [q.1]; exact hk))]; exact (h k' hk').1 j, (h k' hk').2⟩
theorem Skn.uL {K : List Nat} {c c1 : Core} (h : Skn K c c1) {k i : Nat} {v : Int64} (hk : k ∈ K) : Skn K c (uL c1 k i v) := fun k' hk' => ⟨(h k' hk').1, fun j => by
  rw [kL_uL, if_neg (fun q => hk' (by rw [q.1]; exact hk))]; exact (h k' hk').2 j⟩
theorem Skn.wcI {K : List Nat} {c c1 : Core} (h : Skn K c c1) {k : Nat} {f : Nat → Int32} (hk : k ∈ K) : Skn K c (wcI c1 k f) := fun k' hk' => ⟨fun j => by
  rw [kI_wcI, if_neg (fun q => hk' (by rw [q]; exact hk))]; exact (h k' hk').1 j, (h k' hk').2⟩
theorem Skn.wcL {K : List Nat} {c c1 : Core} (h : Skn K c c1) {k : Nat} {f : Nat → Int64} (hk : k ∈ K) : Skn K c (wcL c1 k f) := fun k' hk' => ⟨(h k' hk').1, fun j => by
  rw [kL_wcL, if_neg (fun q => hk' (by rw [q]; exact hk))]; exact (h k' hk').2 j⟩
theorem Skn.of {K : List Nat} {c c' : Core} (h : Sk c c') (hK : ∀ k ∈ SK, k ∈ K) : Skn K c c' := fun k hk => h k (fun q => hk (hK k q))
theorem KI_skn {M : Mem} {x : Nat} {c : Core} {ka : Nat → Nat} {dp : Nat → Nat} {i : Nat} {K : List Nat} {c' : Core} (F : Skn K c c') (dK : dj K [1, 2] = true) : KI M x c' ka dp i = KI M x c ka dp i := by
  have kI1 := (F 1 (dj_ne dK (by decide))).1
  have kL2 := (F 2 (dj_ne dK (by decide))).2
  simp only [KI, kI1, kL2]
theorem RK_skn {M : Mem} {x : Nat} {c : Core} {nk : Nat} {ka : Nat → Nat} {dp : Nat → Nat} {K : List Nat} {c' : Core} (F : Skn K c c') (dK : dj K [0, 1, 2] = true) : RK M x c' nk ka dp = RK M x c nk ka dp := by
  have kI0 := (F 0 (dj_ne dK (by decide))).1
  have kI1 := (F 1 (dj_ne dK (by decide))).1
  have kL2 := (F 2 (dj_ne dK (by decide))).2
  simp only [RK, KI, kI0, kI1, kL2]
theorem LI_skn {M : Mem} {x : Nat} {c : Core} {nk : Nat} {ka : Nat → Nat} {ns : Nat} {a : Nat} {l : Nat} {K : List Nat} {c' : Core} (F : Skn K c c') (dK : dj K [6, 7, 8, 9, 10, 11, 12, 13, 14, 15, 16, 17, 18] = true) : LI M x c' nk ka ns a l = LI M x c nk ka ns a l := by
  have kI6 := (F 6 (dj_ne dK (by decide))).1
  have kI7 := (F 7 (dj_ne dK (by decide))).1
  have kI8 := (F 8 (dj_ne dK (by decide))).1
  have kI9 := (F 9 (dj_ne dK (by decide))).1
  have kI12 := (F 12 (dj_ne dK (by decide))).1
  have kI13 := (F 13 (dj_ne dK (by decide))).1
  have kI14 := (F 14 (dj_ne dK (by decide))).1
  have kI15 := (F 15 (dj_ne dK (by decide))).1
  have kI16 := (F 16 (dj_ne dK (by decide))).1
  have kI17 := (F 17 (dj_ne dK (by decide))).1
  have kI18 := (F 18 (dj_ne dK (by decide))).1
  have kL10 := (F 10 (dj_ne dK (by decide))).2
  have kL11 := (F 11 (dj_ne dK (by decide))).2
  simp only [LI, kI6, kI7, kI8, kI9, kI12, kI13, kI14, kI15, kI16, kI17, kI18, kL10, kL11]
theorem RLs_skn {M : Mem} {x : Nat} {c : Core} {nk : Nat} {ka : Nat → Nat} {ns : Nat} {nl : Nat} {la : Nat → Nat} {K : List Nat} {c' : Core} (F : Skn K c c') (dK : dj K [5, 6, 7, 8, 9, 10, 11, 12, 13, 14, 15, 16, 17, 18] = true) : RLs M x c' nk ka ns nl la = RLs M x c nk ka ns nl la := by
  have kI5 := (F 5 (dj_ne dK (by decide))).1
  have kI6 := (F 6 (dj_ne dK (by decide))).1
  have kI7 := (F 7 (dj_ne dK (by decide))).1
  have kI8 := (F 8 (dj_ne dK (by decide))).1
  have kI9 := (F 9 (dj_ne dK (by decide))).1
  have kI12 := (F 12 (dj_ne dK (by decide))).1
  have kI13 := (F 13 (dj_ne dK (by decide))).1
  have kI14 := (F 14 (dj_ne dK (by decide))).1
  have kI15 := (F 15 (dj_ne dK (by decide))).1
  have kI16 := (F 16 (dj_ne dK (by decide))).1
  have kI17 := (F 17 (dj_ne dK (by decide))).1
  have kI18 := (F 18 (dj_ne dK (by decide))).1
  have kL10 := (F 10 (dj_ne dK (by decide))).2
  have kL11 := (F 11 (dj_ne dK (by decide))).2
  simp only [RLs, LI, kI5, kI6, kI7, kI8, kI9, kI12, kI13, kI14, kI15, kI16, kI17, kI18, kL10, kL11]
theorem CI_skn {M : Mem} {x : Nat} {c : Core} {dp : Nat → Nat} {nl : Nat} {la : Nat → Nat} {p : Nat} {L : List Nat} {K : List Nat} {c' : Core} (F : Skn K c c') (dK : dj K [6, 7, 8] = true) : CI M x c' dp nl la p L = CI M x c dp nl la p L := by
  have kI6 := (F 6 (dj_ne dK (by decide))).1
  have kI7 := (F 7 (dj_ne dK (by decide))).1
  have kI8 := (F 8 (dj_ne dK (by decide))).1
  simp only [CI, dqc, kI6, kI7, kI8]
theorem RC_skn {M : Mem} {x : Nat} {c : Core} {dp : Nat → Nat} {nl : Nat} {la : Nat → Nat} {ch : Nat → List Nat} {K : List Nat} {c' : Core} (F : Skn K c c') (dK : dj K [6, 7, 8] = true) : RC M x c' dp nl la ch = RC M x c dp nl la ch := by
  have kI6 := (F 6 (dj_ne dK (by decide))).1
  have kI7 := (F 7 (dj_ne dK (by decide))).1
  have kI8 := (F 8 (dj_ne dK (by decide))).1
  simp only [RC, CI, dqc, kI6, kI7, kI8]
theorem RS_skn {M : Mem} {x : Nat} {c : Core} {ns : Nat} {nl : Nat} {K : List Nat} {c' : Core} (F : Skn K c c') (dK : dj K [3, 4, 13] = true) : RS M x c' ns nl = RS M x c ns nl := by
  have kI3 := (F 3 (dj_ne dK (by decide))).1
  have kI4 := (F 4 (dj_ne dK (by decide))).1
  have kI13 := (F 13 (dj_ne dK (by decide))).1
  simp only [RS, kI3, kI4, kI13]
theorem TI_skn {M : Mem} {c : Core} {a : Nat} {b : Nat} {t : Nat} {K : List Nat} {c' : Core} (F : Skn K c c') (dK : dj K [19, 20, 21] = true) : TI M c' a b t = TI M c a b t := by
  have kI19 := (F 19 (dj_ne dK (by decide))).1
  have kI20 := (F 20 (dj_ne dK (by decide))).1
  have kL21 := (F 21 (dj_ne dK (by decide))).2
  simp only [TI, kI19, kI20, kL21]
theorem RT_skn {M : Mem} {x : Nat} {c : Core} {K : List Nat} {c' : Core} (F : Skn K c c') (dK : dj K [19, 20, 21] = true) : RT M x c' = RT M x c := by
  have kI19 := (F 19 (dj_ne dK (by decide))).1
  have kI20 := (F 20 (dj_ne dK (by decide))).1
  have kL21 := (F 21 (dj_ne dK (by decide))).2
  simp only [RT, TI, kI19, kI20, kL21]
theorem RA_skn {M : Mem} {x : Nat} {c : Core} {nk : Nat} {ka : Nat → Nat} {K : List Nat} {c' : Core} (F : Skn K c c') (dK : dj K [52, 53, 54] = true) : RA M x c' nk ka = RA M x c nk ka := by
  have kI52 := (F 52 (dj_ne dK (by decide))).1
  have kI53 := (F 53 (dj_ne dK (by decide))).1
  have kL54 := (F 54 (dj_ne dK (by decide))).2
  simp only [RA, kI52, kI53, kL54]
theorem RP_skn {M : Mem} {x : Nat} {c : Core} {cu : Nat} {nf : Nat} {lg : Nat} {K : List Nat} {c' : Core} (F : Skn K c c') (dK : dj K [40, 41, 42, 43, 44, 45, 48, 49, 50, 51] = true) : RP M x c' cu nf lg = RP M x c cu nf lg := by
  have kI40 := (F 40 (dj_ne dK (by decide))).1
  have kI41 := (F 41 (dj_ne dK (by decide))).1
  have kI42 := (F 42 (dj_ne dK (by decide))).1
  have kI43 := (F 43 (dj_ne dK (by decide))).1
  have kI44 := (F 44 (dj_ne dK (by decide))).1
  have kI45 := (F 45 (dj_ne dK (by decide))).1
  have kI49 := (F 49 (dj_ne dK (by decide))).1
  have kI50 := (F 50 (dj_ne dK (by decide))).1
  have kI51 := (F 51 (dj_ne dK (by decide))).1
  have kL48 := (F 48 (dj_ne dK (by decide))).2
  simp only [RP, kI40, kI41, kI42, kI43, kI44, kI45, kI49, kI50, kI51, kL48]
theorem RW_skn {M : Mem} {x : Nat} {c : Core} {nk : Nat} {ka : Nat → Nat} {wn : Nat} {K : List Nat} {c' : Core} (F : Skn K c c') (dK : dj K [36, 37, 38] = true) : RW M x c' nk ka wn = RW M x c nk ka wn := by
  have kI36 := (F 36 (dj_ne dK (by decide))).1
  have kI37 := (F 37 (dj_ne dK (by decide))).1
  have kL38 := (F 38 (dj_ne dK (by decide))).2
  simp only [RW, kI36, kI37, kL38]
def r0I : List Nat := [2, 3, 100, 203, 204, 205, 206, 300, 301, 401, 500, 502, 503, 504, 508, 509, 510, 511, 602, 901, 902, 1029007, 1029015, 3006025]
def r0L : List Nat := [302, 303, 506, 507, 2000016, 2050007]
def r0R : List Nat := [501, 505, 512, 600, 601, 5000007, 5022007, 6006008, 6006016]
theorem R0_fx {M M' : Mem} {x : Nat} {c : Core} {nk : Nat} {ka dp : Nat → Nat} {ns nl : Nat} {la : Nat → Nat} {ch : Nat → List Nat} {S0 U0 : Nat} {ki kl kr : List Nat} (F : Fx ki kl kr M M') (d1 : dj ki r0I = true) (d2 : dj kl r0L = true) (d3 : dj kr (r0R ++ 7038029 :: 900 :: 4038071 :: shR.map (fun q => q.1)) = true) (hc : Cln M') (R : R0 M x c nk ka dp ns nl la ch S0 U0) : R0 M' x c nk ka dp ns nl la ch S0 U0 := by
  have zs := rz_s (r0_z R)
  have zu := rz_u (r0_z R)
  refine ⟨⟨by rw [F.2.2.1]; exact zs, by rw [F.2.2.2.1]; exact zu, hc⟩, SH_fx F (sub_dj d1 (by decide)) (sub_dj d3 (fun k hk => List.mem_append_right _ hk)) (r0_sh R), ?_, ?_, ?_, ?_, ?_, ?_⟩
  · rw [RK_fx F (sub_dj d1 (by decide)) (sub_dj d2 (by decide)) (sub_dj d3 (by decide))]; exact r0_k R
  · rw [RLs_fx F (sub_dj d1 (by decide)) (sub_dj d2 (by decide)) (sub_dj d3 (by decide))]; exact r0_l R
  · rw [RC_fx F (sub_dj d3 (by decide))]; exact r0_c R
  · rw [RS_fx F (sub_dj d1 (by decide))]; exact r0_s R
  · rw [RT_fx F (sub_dj d1 (by decide)) (sub_dj d2 (by decide))]; exact r0_t R
  · rw [RA_fx F (sub_dj d1 (by decide)) (sub_dj d2 (by decide)) (sub_dj d3 (by decide))]; exact r0_a R
def r0K : List Nat := [0, 1, 2, 3, 4, 5, 6, 7, 8, 9, 10, 11, 12, 13, 14, 15, 16, 17, 18, 19, 20, 21, 52, 53, 54]
theorem R0_skn {M : Mem} {x : Nat} {c c' : Core} {nk : Nat} {ka dp : Nat → Nat} {ns nl : Nat} {la : Nat → Nat} {ch : Nat → List Nat} {S0 U0 : Nat} {K : List Nat} (F : Skn K c c') (dK : dj K r0K = true) (R : R0 M x c nk ka dp ns nl la ch S0 U0) : R0 M x c' nk ka dp ns nl la ch S0 U0 := ⟨r0_z R, r0_sh R, by rw [RK_skn F (sub_dj dK (by decide))]; exact r0_k R, by rw [RLs_skn F (sub_dj dK (by decide))]; exact r0_l R, by rw [RC_skn F (sub_dj dK (by decide))]; exact r0_c R, by rw [RS_skn F (sub_dj dK (by decide))]; exact r0_s R, by rw [RT_skn F (sub_dj dK (by decide))]; exact r0_t R, by rw [RA_skn F (sub_dj dK (by decide))]; exact r0_a R⟩

/-- a step that goes on, with what it has changed -/
theorem PSt_go {b : Int32} {x e s Rs : Nat} {c c' : Core} {M M' : Mem} {nk : Nat} {ka dp : Nat → Nat} {ns nl : Nat} {la : Nat → Nat} {ch : Nat → List Nat} {S0 U0 cu nf lg wn : Nat} {nl' : Nat} {la' : Nat → Nat} {ch' : Nat → List Nat} {cu' nf' lg' wn' : Nat} (hg : Gst b c c') (hN : ∀ k, k ∈ SK → (∀ i, kI c' k i = kI (uI c 34 e (nI (s + 1))) k i) ∧ ∀ i, kL c' k i = kL c k i) (hM : MS M' x c' nk ka dp ns nl' la' ch' S0 U0 cu' nf' lg' wn') (hE : Evl c nl la ch c' nl' la' ch') (hC : Cfr x (e + 1) M M') (hv : (mL M 103 ((x + 37 + e)) 0) = kL c 35 e) (hnf : nf' + e + 1 ≤ 35) (hlg : lg' + Rs + (10 - (s + 1)) ≤ 6000 * cu') : PSt b x e s Rs c M nk ka dp ns nl la ch S0 U0 nf M' 0 := by
  have hne : ∀ k i, k ∈ SK → (¬ k = 34 ∨ ¬ i = e) → kI c' k i = kI c k i := fun k i hk h => by
    rw [(hN k hk).1 i, kI_uI, if_neg (fun q => h.elim (fun z => z q.1) (fun z => z q.2))]
  obtain ⟨c1, c2, c3, c4, c5⟩ := hC.1 e (by omega)
  refine Or.inr (Or.inr ⟨c', nl', la', ch', cu', nf', lg', wn', s + 1, Gs.one hg, hM, hE, ⟨hC.le (by omega), ⟨fun e' he' => ⟨fun k hk => hne k e' ?_ (Or.inr (by omega)), (hN 27 (by decide)).2 _, (hN 35 (by decide)).2 _⟩, fun q _ => hne _ _ (by decide) (Or.inl (by decide))⟩, hne _ _ (by decide) (Or.inl (by decide)), fun k hk => hne k e ?_ (Or.inl ?_), (hN 27 (by decide)).2 _, fun q _ => hne _ _ (by decide) (Or.inl (by decide)), ⟨c1, c2, c3, c5⟩, hne _ _ (by decide) (Or.inl (by decide)), hne _ _ (by decide) (Or.inl (by decide)), (hN 47 (by decide)).2 _⟩, ?_, Or.inl ⟨rfl, rfl⟩, ?_, hnf, hlg⟩)
  · simp only [List.mem_cons, List.not_mem_nil, or_false] at hk
    rcases hk with rfl | rfl | rfl | rfl | rfl | rfl | rfl | rfl <;> decide
  · simp only [List.mem_cons, List.not_mem_nil, or_false] at hk
    rcases hk with rfl | rfl | rfl | rfl | rfl | rfl | rfl <;> decide
  · simp only [List.mem_cons, List.not_mem_nil, or_false] at hk
    omega
  · rw [c4, (hN 35 (by decide)).2]; exact hv
  · rw [(hN 34 (by decide)).1, kI_uI, if_pos ⟨rfl, rfl⟩]
/-- the cues are kept where other keys were written -/
theorem Cfr_fx {x e : Nat} {M M' : Mem} {ki kl kr : List Nat} (F : Fz ki kl kr M M') (d1 : dj ki [101, 104, 710] = true) (d2 : dj kl [102, 103, 711] = true) (d3 : dj kr [199] = true) (d4 : (ki ++ kl ++ kr).all (fun k => !rk k) = true) : Cfr x e M M' := by
  have i1 := F.2.1 101 (dj_ne d1 (by decide))
  have i2 := F.2.1 104 (dj_ne d1 (by decide))
  have i3 := F.2.1 710 (dj_ne d1 (by decide))
  have l1 := F.2.2.1 102 (dj_ne d2 (by decide))
  have l2 := F.2.2.1 103 (dj_ne d2 (by decide))
  have l3 := F.2.2.1 711 (dj_ne d2 (by decide))
  have r1 := F.2.2.2 199 (dj_ne d3 (by decide))
  exact ⟨fun e' _ => ⟨by rw [r1], by rw [i1], by rw [l1], by rw [l2], by rw [i2]⟩, by rw [i3], by rw [l3], Fk_fz F d4⟩
