/-! A step of a program, in the class and in the reference -/
/-- what a step leaves at depth e -/
def Kp (x e : Nat) (c c' : Core) (M M' : Mem) : Prop := Cfr x e M M' ∧ Ofr e c c' ∧ kI c' 25 0 = kI c 25 0 ∧ (∀ k, k ∈ [26, 28, 29, 30, 31, 32, 33] → kI c' k e = kI c k e) ∧ kL c' 27 e = kL c 27 e ∧ (∀ q, q < 200 * (e + 1) → kI c' 22 q = kI c 22 q) ∧ ((mR M' 199 ((x + 37 + e)) 0) = (mR M 199 ((x + 37 + e)) 0) ∧ (mI M' 101 ((x + 37 + e)) 0) = (mI M 101 ((x + 37 + e)) 0) ∧ (mL M' 102 ((x + 37 + e)) 0) = (mL M 102 ((x + 37 + e)) 0) ∧ (mI M' 104 ((x + 37 + e)) 0) = (mI M 104 ((x + 37 + e)) 0)) ∧ kI c' 39 0 = kI c 39 0 ∧ kI c' 46 0 = kI c 46 0 ∧ kL c' 47 0 = kL c 47 0
theorem Kp.rf {x e : Nat} {c : Core} {M : Mem} : Kp x e c c M M := ⟨Cfr.rf, Ofr.rf, rfl, fun _ _ => rfl, rfl, fun _ _ => rfl, ⟨rfl, rfl, rfl, rfl⟩, rfl, rfl, rfl⟩
theorem Kp.tr {x e : Nat} {c c1 c2 : Core} {M M1 M2 : Mem} (h : Kp x e c c1 M M1) (g : Kp x e c1 c2 M1 M2) : Kp x e c c2 M M2 := by
  obtain ⟨a1, a2, a3, a4, a5, a6, ⟨a7, a8, a9, a10⟩, a11, a12, a13⟩ := h
  obtain ⟨b1, b2, b3, b4, b5, b6, ⟨b7, b8, b9, b10⟩, b11, b12, b13⟩ := g
  exact ⟨a1.tr b1, a2.tr b2, b3.trans a3, fun k hk => (b4 k hk).trans (a4 k hk), b5.trans a5, fun q hq => (b6 q hq).trans (a6 q hq), ⟨b7.trans a7, b8.trans a8, b9.trans a9, b10.trans a10⟩, b11.trans a11, b12.trans a12, b13.trans a13⟩
/-- how a step ends: failed, vetoed, or on to step s' -/
def PSt (b : Int32) (x e s Rs : Nat) (c : Core) (M : Mem) (nk : Nat) (ka dp : Nat → Nat) (ns nl : Nat) (la : Nat → Nat) (ch : Nat → List Nat) (S0 U0 nf : Nat) (M' : Mem) (r : Int32) : Prop :=
  (¬ r ≤ 0 ∧ M' = M ∧ Gst b c (flC (uI c 34 e (nI (s + 1))) e nf r)) ∨
  (r = -3 ∧ M' = M ∧ (kI c 28 (e)) = 0 ∧ Gst b c (vtC (uI c 34 e (nI (s + 1))) e b)) ∨
  ∃ (c' : Core) (nl' : Nat) (la' : Nat → Nat) (ch' : Nat → List Nat) (cu' nf' lg' wn' s' : Nat), Gs b c c' ∧ MS M' x c' nk ka dp ns nl' la' ch' S0 U0 cu' nf' lg' wn' ∧ Evl c nl la ch c' nl' la' ch' ∧ Kp x e c c' M M' ∧ (mL M' 103 ((x + 37 + e)) 0) = kL c' 35 e ∧ ((r = 0 ∧ s' = s + 1) ∨ (r = -1 ∧ s' = s + 2) ∨ (r = -2 ∧ s' = 10)) ∧ kI c' 34 e = nI s' ∧ nf' + e + 1 ≤ 35 ∧ lg' + Rs + (10 - s') ≤ 6000 * cu'
theorem MS_ch {M : Mem} {x : Nat} {c : Core} {nk : Nat} {ka dp : Nat → Nat} {ns nl : Nat} {la : Nat → Nat} {ch : Nat → List Nat} {S0 U0 cu nf lg wn : Nat} (R : MS M x c nk ka dp ns nl la ch S0 U0 cu nf lg wn) : ∀ q, q < 3 → ∀ l ∈ ch q, l < nl := fun q hq l hl => ((ch_mem (r0_c R.1 q hq) l).mp hl).1
def msI : List Nat := [2, 3, 100, 203, 204, 205, 206, 300, 301, 401, 500, 502, 503, 504, 508, 509, 510, 511, 602, 704, 705, 706, 707, 708, 709, 901, 902, 1002, 1003, 1029007, 1029015, 1032015, 1032023, 1032031, 3006025]
def msL : List Nat := [302, 303, 506, 507, 2000016, 2032007, 2050007, 2056016]
def msR : List Nat := [501, 505, 512, 600, 601, 5000007, 5022007, 5056007, 6006008, 6006016]
theorem sub_dj {a b b' : List Nat} (h : dj a b = true) (hs : ∀ k ∈ b', k ∈ b) : dj a b' = true := List.all_eq_true.mpr (fun k hk => List.all_eq_true.mp h k (hs k hk))
/-- writes to the cues, to the report's first value and vetoer -/
theorem MS_fx {M M' : Mem} {x : Nat} {c : Core} {nk : Nat} {ka dp : Nat → Nat} {ns nl : Nat} {la : Nat → Nat} {ch : Nat → List Nat} {S0 U0 cu nf lg wn : Nat} {ki kl kr : List Nat} (F : Fx ki kl kr M M') (d1 : dj ki msI = true) (d2 : dj kl msL = true) (d3 : dj kr (msR ++ 7038029 :: 900 :: 4038071 :: shR.map (fun q => q.1)) = true) (hc : Cln M') (R : MS M x c nk ka dp ns nl la ch S0 U0 cu nf lg wn) : MS M' x c nk ka dp ns nl la ch S0 U0 cu nf lg wn := by
  have zs := rz_s (r0_z R.1)
  have zu := rz_u (r0_z R.1)
  refine ⟨⟨⟨by rw [F.2.2.1]; exact zs, by rw [F.2.2.2.1]; exact zu, hc⟩, SH_fx F (sub_dj d1 (by decide)) (sub_dj d3 (fun k hk => List.mem_append_right _ hk)) (r0_sh R.1), ?_, ?_, ?_, ?_, ?_, ?_⟩, ?_, ?_⟩
  · rw [RK_fx F (sub_dj d1 (by decide)) (sub_dj d2 (by decide)) (sub_dj d3 (by decide))]; exact r0_k R.1
  · rw [RLs_fx F (sub_dj d1 (by decide)) (sub_dj d2 (by decide)) (sub_dj d3 (by decide))]; exact r0_l R.1
  · rw [RC_fx F (sub_dj d3 (by decide))]; exact r0_c R.1
  · rw [RS_fx F (sub_dj d1 (by decide))]; exact r0_s R.1
  · rw [RT_fx F (sub_dj d1 (by decide)) (sub_dj d2 (by decide))]; exact r0_t R.1
  · rw [RA_fx F (sub_dj d1 (by decide)) (sub_dj d2 (by decide)) (sub_dj d3 (by decide))]; exact r0_a R.1
  · rw [RP_fx F (sub_dj d1 (by decide)) (sub_dj d2 (by decide))]; exact R.2.1
  · rw [RW_fx F (sub_dj d1 (by decide)) (sub_dj d2 (by decide)) (sub_dj d3 (by decide))]; exact R.2.2
theorem MS_v {M : Mem} {x e : Nat} {c : Core} {nk : Nat} {ka dp : Nat → Nat} {ns nl : Nat} {la : Nat → Nat} {ch : Nat → List Nat} {S0 U0 cu nf lg wn : Nat} {w : Int64} (he : e < 12) (R : MS M x c nk ka dp ns nl la ch S0 U0 cu nf lg wn) : MS (sL M 103 (x + 37 + e) 0 w) x c nk ka dp ns nl la ch S0 U0 cu nf lg wn :=
  MS_fx (ki := []) (kl := [103]) (kr := []) (Fx.rf.sL (by decide)) (by decide) (by decide) (by decide) (cl_sL (rz_cl (r0_z R.1)) (by rw [(sh_cue (r0_sh R.1) he).2.1]; decide)) R
theorem Cfr_v {x e : Nat} {M : Mem} {w : Int64} : Cfr x e M (sL M 103 (x + 37 + e) 0 w) := by
  refine ⟨fun e' he => ⟨rfl, rfl, ?_, ?_, rfl⟩, rfl, ?_, Fk_fz (ki := []) (kl := [103]) (kr := []) (Fz.of (Fx.rf.sL (by decide))) (by decide)⟩
  · rw [mL_sL, if_neg (fun q => absurd q.1 (by decide))]
  · rw [mL_sL, if_neg (fun q => by have := q.2.1; omega)]
  · rw [mL_sL, if_neg (fun q => absurd q.1 (by decide))]
/-- a step that gives the program another value -/
theorem PSt_val {b o n : Int32} {x e s Rs l sm : Nat} {c : Core} {M : Mem} {nk : Nat} {ka dp : Nat → Nat} {ns nl : Nat} {la : Nat → Nat} {ch : Nat → List Nat} {S0 U0 cu nf lg wn : Nat} {w : Int64} (R : MS M x c nk ka dp ns nl la ch S0 U0 cu nf lg wn) (he : e < 12) (hnf : nf + e + 1 ≤ 35) (hlg : lg + Rs + (10 - s) ≤ 6000 * cu) (hs : s < 10) (hg : Gst b c (uL (uI c 34 e (nI (s + 1))) 35 e w)) : PSt b x e s Rs c M nk ka dp ns nl la ch S0 U0 nf (sL M 103 (x + 37 + e) 0 w) 0 := by
  have F : Sk c (uL (uI c 34 e (nI (s + 1))) 35 e w) := (Sk.rf.uI (by decide)).uL (by decide)
  refine Or.inr (Or.inr ⟨_, nl, la, ch, cu, nf, lg, wn, s + 1, Gs.one hg, MS_sk F (MS_v he R), Evl.sk (MS_ch R) F, ⟨Cfr_v, ⟨fun e' he' => ⟨fun k hk => ?_, ?_, ?_⟩, fun q _ => ?_⟩, ?_, fun k hk => ?_, ?_, fun q _ => ?_, ⟨rfl, rfl, ?_, rfl⟩, ?_, ?_, ?_⟩, ?_, Or.inl ⟨rfl, rfl⟩, ?_, hnf, by omega⟩)
  · simp only [List.mem_cons, List.not_mem_nil, or_false] at hk
    rw [kI_uL, kI_uI, if_neg (fun q => by have := q.2; omega)]
  · rw [kL_uL, if_neg (fun q => absurd q.1 (by decide))]; rfl
  · rw [kL_uL, if_neg (fun q => by have := q.2; omega)]; rfl
  · rw [kI_uL, kI_uI, if_neg (fun q => absurd q.1 (by decide))]
  · rw [kI_uL, kI_uI, if_neg (fun q => absurd q.1 (by decide))]
  · rw [kI_uL, kI_uI, if_neg]
    simp only [List.mem_cons, List.not_mem_nil, or_false] at hk
    intro q; omega
  · rw [kL_uL, if_neg (fun q => absurd q.1 (by decide))]; rfl
  · rw [kI_uL, kI_uI, if_neg (fun q => absurd q.1 (by decide))]
  · rw [mL_sL, if_neg (fun q => absurd q.1 (by decide))]
  · rw [kI_uL, kI_uI, if_neg (fun q => absurd q.1 (by decide))]
  · rw [kI_uL, kI_uI, if_neg (fun q => absurd q.1 (by decide))]
  · rw [kL_uL, if_neg (fun q => absurd q.1 (by decide))]; rfl
  · rw [mL_sL, if_pos ⟨rfl, rfl, rfl⟩, kL_uL, if_pos ⟨rfl, rfl⟩]
  · rw [kI_uL, kI_uI, if_pos ⟨rfl, rfl⟩]
/-- a step that passes one over, or ends the program -/
theorem PSt_ps {b r : Int32} {x e s s' Rs : Nat} {c : Core} {M : Mem} {nk : Nat} {ka dp : Nat → Nat} {ns nl : Nat} {la : Nat → Nat} {ch : Nat → List Nat} {S0 U0 cu nf lg wn : Nat} (R : MS M x c nk ka dp ns nl la ch S0 U0 cu nf lg wn) (hnf : nf + e + 1 ≤ 35) (hlg : lg + Rs + (10 - s) ≤ 6000 * cu) (hv : (mL M 103 ((x + 37 + e)) 0) = kL c 35 e) (hr : (r = 0 ∧ s' = s + 1) ∨ (r = -1 ∧ s' = s + 2) ∨ (r = -2 ∧ s' = 10)) (hg : Gst b c (uI (uI c 34 e (nI (s + 1))) 34 e (nI s'))) : PSt b x e s Rs c M nk ka dp ns nl la ch S0 U0 nf M r := by
  have F : Sk c (uI (uI c 34 e (nI (s + 1))) 34 e (nI s')) := (Sk.rf.uI (by decide)).uI (by decide)
  have hne : ∀ k i, (¬ k = 34 ∨ ¬ i = e) → kI (uI (uI c 34 e (nI (s + 1))) 34 e (nI s')) k i = kI c k i := fun k i h => by
    rw [kI_uI, if_neg (fun q => h.elim (fun z => z q.1) (fun z => z q.2)), kI_uI, if_neg (fun q => h.elim (fun z => z q.1) (fun z => z q.2))]
  refine Or.inr (Or.inr ⟨_, nl, la, ch, cu, nf, lg, wn, s', Gs.one hg, MS_sk F R, Evl.sk (MS_ch R) F, ⟨Cfr.rf, ⟨fun e' he' => ⟨fun k hk => hne k e' (Or.inr (by omega)), rfl, rfl⟩, fun q _ => hne _ _ (Or.inl (by decide))⟩, hne _ _ (Or.inl (by decide)), fun k hk => hne k e (Or.inl ?_), rfl, fun q _ => hne _ _ (Or.inl (by decide)), ⟨rfl, rfl, rfl, rfl⟩, hne _ _ (Or.inl (by decide)), hne _ _ (Or.inl (by decide)), rfl⟩, hv, hr, ?_, hnf, ?_⟩)
  · simp only [List.mem_cons, List.not_mem_nil, or_false] at hk
    omega
  · rw [kI_uI, if_pos ⟨rfl, rfl⟩]
  · rcases hr with ⟨_, h⟩ | ⟨_, h⟩ | ⟨_, h⟩ <;> omega
