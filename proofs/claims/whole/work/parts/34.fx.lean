/-! The class's part of the memory: what is left where only some keys were written -/
def Fx (ki kl kr : List Nat) (M M' : Mem) : Prop := mK M' = mK M ∧ mN M' = mN M ∧ mS M' = mS M ∧ mU M' = mU M ∧ (∀ k, k ∉ ki → mI M' k = mI M k) ∧ (∀ k, k ∉ kl → mL M' k = mL M k) ∧ (∀ k, k ∉ kr → mR M' k = mR M k)
def dj (a b : List Nat) : Bool := b.all (fun k => !a.contains k)
theorem dj_ne {a b : List Nat} (h : dj a b = true) {k : Nat} (hk : k ∈ b) : k ∉ a := by
  have := List.all_eq_true.mp h k hk
  simpa using this
theorem Fx.rf {ki kl kr : List Nat} {M : Mem} : Fx ki kl kr M M := ⟨rfl, rfl, rfl, rfl, fun _ _ => rfl, fun _ _ => rfl, fun _ _ => rfl⟩
theorem Fx.tr {ki kl kr : List Nat} {M M1 M2 : Mem} (h : Fx ki kl kr M M1) (g : Fx ki kl kr M1 M2) : Fx ki kl kr M M2 := ⟨g.1.trans h.1, g.2.1.trans h.2.1, g.2.2.1.trans h.2.2.1, g.2.2.2.1.trans h.2.2.2.1, fun k hk => (g.2.2.2.2.1 k hk).trans (h.2.2.2.2.1 k hk), fun k hk => (g.2.2.2.2.2.1 k hk).trans (h.2.2.2.2.2.1 k hk), fun k hk => (g.2.2.2.2.2.2 k hk).trans (h.2.2.2.2.2.2 k hk)⟩
theorem Fx.mono {ki kl kr ki' kl' kr' : List Nat} {M M1 : Mem} (h : Fx ki kl kr M M1) (h1 : ∀ k ∈ ki, k ∈ ki') (h2 : ∀ k ∈ kl, k ∈ kl') (h3 : ∀ k ∈ kr, k ∈ kr') : Fx ki' kl' kr' M M1 := ⟨h.1, h.2.1, h.2.2.1, h.2.2.2.1, fun k hk => h.2.2.2.2.1 k (fun q => hk (h1 k q)), fun k hk => h.2.2.2.2.2.1 k (fun q => hk (h2 k q)), fun k hk => h.2.2.2.2.2.2 k (fun q => hk (h3 k q))⟩
theorem Fx.sI {ki kl kr : List Nat} {M M1 : Mem} (h : Fx ki kl kr M M1) {k a i : Nat} {v : Int32} (hk : k ∈ ki) : Fx ki kl kr M (sI M1 k a i v) := by
  refine ⟨h.1, h.2.1, h.2.2.1, h.2.2.2.1, fun k' hk' => ?_, h.2.2.2.2.2.1, h.2.2.2.2.2.2⟩
  rw [← h.2.2.2.2.1 k' hk']
  funext a' i'
  rw [mI_sI, if_neg]
  intro e; exact hk' (by rw [e.1]; exact hk)
theorem Fx.sL {ki kl kr : List Nat} {M M1 : Mem} (h : Fx ki kl kr M M1) {k a i : Nat} {v : Int64} (hk : k ∈ kl) : Fx ki kl kr M (sL M1 k a i v) := by
  refine ⟨h.1, h.2.1, h.2.2.1, h.2.2.2.1, h.2.2.2.2.1, fun k' hk' => ?_, h.2.2.2.2.2.2⟩
  rw [← h.2.2.2.2.2.1 k' hk']
  funext a' i'
  rw [mL_sL, if_neg]
  intro e; exact hk' (by rw [e.1]; exact hk)
theorem Fx.sR {ki kl kr : List Nat} {M M1 : Mem} (h : Fx ki kl kr M M1) {k a i : Nat} {v : Option Nat} (hk : k ∈ kr) : Fx ki kl kr M (sR M1 k a i v) := by
  refine ⟨h.1, h.2.1, h.2.2.1, h.2.2.2.1, h.2.2.2.2.1, h.2.2.2.2.2.1, fun k' hk' => ?_⟩
  rw [← h.2.2.2.2.2.2 k' hk']
  funext a' i'
  rw [mR_sR, if_neg]
  intro e; exact hk' (by rw [e.1]; exact hk)
theorem Fx.wL {ki kl kr : List Nat} {M M1 : Mem} (h : Fx ki kl kr M M1) {k a : Nat} {f : Nat → Int64} (hk : k ∈ kl) : Fx ki kl kr M (wL M1 k a f) := by
  refine ⟨h.1, h.2.1, h.2.2.1, h.2.2.2.1, h.2.2.2.2.1, fun k' hk' => ?_, h.2.2.2.2.2.2⟩
  rw [← h.2.2.2.2.2.1 k' hk']
  funext a' i'
  rw [mL_wL, if_neg]
  intro e; exact hk' (by rw [e.1]; exact hk)
theorem Fx.i {ki kl kr : List Nat} {M M1 : Mem} (h : Fx ki kl kr M M1) (k : Nat) (hk : dj ki [k] = true) : mI M1 k = mI M k := h.2.2.2.2.1 k (dj_ne hk (List.mem_singleton.mpr rfl))
theorem Fx.l {ki kl kr : List Nat} {M M1 : Mem} (h : Fx ki kl kr M M1) (k : Nat) (hk : dj kl [k] = true) : mL M1 k = mL M k := h.2.2.2.2.2.1 k (dj_ne hk (List.mem_singleton.mpr rfl))
theorem Fx.r {ki kl kr : List Nat} {M M1 : Mem} (h : Fx ki kl kr M M1) (k : Nat) (hk : dj kr [k] = true) : mR M1 k = mR M k := h.2.2.2.2.2.2 k (dj_ne hk (List.mem_singleton.mpr rfl))
theorem core_fx {ki kl kr : List Nat} {M M1 : Mem} {h : Nat} (F : Fx ki kl kr M M1) (d1 : ki.all (fun k => !rk k) = true) (d2 : kl.all (fun k => !rk k) = true) : core M1 h = core M h := by
  refine Prod.ext ?_ ?_
  · funext k i
    show mI M1 (kc k) (h + ko k) i = mI M (kc k) (h + ko k) i
    rw [F.2.2.2.2.1 (kc k) (fun q => by have := List.all_eq_true.mp d1 _ q; rw [rk_kc] at this; cases this)]
  · funext k i
    show mL M1 (kc k) (h + ko k) i = mL M (kc k) (h + ko k) i
    rw [F.2.2.2.2.2.1 (kc k) (fun q => by have := List.all_eq_true.mp d2 _ q; rw [rk_kc] at this; cases this)]
theorem RM_fx {ki kl kr : List Nat} {M M1 : Mem} {h : Nat} (F : Fx ki kl kr M M1) (d3 : dj kr (rmF.map (fun q => q.1)) = true) (H : RM M h) : RM M1 h := by
  refine ⟨by rw [F.1]; exact H.1, fun q hq => ?_⟩
  rw [F.1, F.2.1, F.2.2.2.2.2.2 q.1 (dj_ne d3 (List.mem_map.mpr ⟨q, hq, rfl⟩))]
  exact H.2 q hq
theorem SH_fx {ki kl kr : List Nat} {M M1 : Mem} {x : Nat} (F : Fx ki kl kr M M1) (d1 : dj ki [100] = true) (d3 : dj kr (7038029 :: 900 :: 4038071 :: shR.map (fun q => q.1)) = true) (H : SH M x) : SH M1 x := by
  have r1 := F.2.2.2.2.2.2 7038029 (dj_ne d3 (by decide))
  have r2 := F.2.2.2.2.2.2 900 (dj_ne d3 (by decide))
  have r3 := F.2.2.2.2.2.2 4038071 (dj_ne d3 (by decide))
  have i1 := F.2.2.2.2.1 100 (dj_ne d1 (by decide))
  unfold SH
  rw [F.1, F.2.1, r1, r2, r3, i1]
  refine ⟨H.1, H.2.1, fun q hq => ?_, H.2.2.2.1, H.2.2.2.2⟩
  rw [F.2.2.2.2.2.2 q.1 (dj_ne d3 (List.mem_cons_of_mem _ (List.mem_cons_of_mem _ (List.mem_cons_of_mem _ (List.mem_map.mpr ⟨q, hq, rfl⟩)))))]
  exact H.2.2.1 q hq
theorem KI_fx {M : Mem} {x : Nat} {c : Core} {ka : Nat → Nat} {dp : Nat → Nat} {i : Nat} {ki kl kr : List Nat} {M1 : Mem} (F : Fx ki kl kr M M1) (d1 : dj ki [300, 301] = true) (d2 : dj kl [302, 303] = true) (d3 : dj kr [5022007] = true) : KI M1 x c ka dp i = KI M x c ka dp i := by
  have mI300 := F.2.2.2.2.1 300 (dj_ne d1 (by decide))
  have mI301 := F.2.2.2.2.1 301 (dj_ne d1 (by decide))
  have mL302 := F.2.2.2.2.2.1 302 (dj_ne d2 (by decide))
  have mL303 := F.2.2.2.2.2.1 303 (dj_ne d2 (by decide))
  have mR5022007 := F.2.2.2.2.2.2 5022007 (dj_ne d3 (by decide))
  simp only [KI, mI300, mI301, mL302, mL303, mR5022007, F.1]
theorem RK_fx {M : Mem} {x : Nat} {c : Core} {nk : Nat} {ka : Nat → Nat} {dp : Nat → Nat} {ki kl kr : List Nat} {M1 : Mem} (F : Fx ki kl kr M M1) (d1 : dj ki [300, 301, 401] = true) (d2 : dj kl [302, 303] = true) (d3 : dj kr [5022007] = true) : RK M1 x c nk ka dp = RK M x c nk ka dp := by
  have mI300 := F.2.2.2.2.1 300 (dj_ne d1 (by decide))
  have mI301 := F.2.2.2.2.1 301 (dj_ne d1 (by decide))
  have mI401 := F.2.2.2.2.1 401 (dj_ne d1 (by decide))
  have mL302 := F.2.2.2.2.2.1 302 (dj_ne d2 (by decide))
  have mL303 := F.2.2.2.2.2.1 303 (dj_ne d2 (by decide))
  have mR5022007 := F.2.2.2.2.2.2 5022007 (dj_ne d3 (by decide))
  simp only [RK, KI, mI300, mI301, mI401, mL302, mL303, mR5022007, F.1]
theorem LI_fx {M : Mem} {x : Nat} {c : Core} {nk : Nat} {ka : Nat → Nat} {ns : Nat} {a : Nat} {l : Nat} {ki kl kr : List Nat} {M1 : Mem} (F : Fx ki kl kr M M1) (d1 : dj ki [500, 502, 503, 504, 508, 509, 510, 511, 602, 1029007, 1029015] = true) (d2 : dj kl [506, 507] = true) (d3 : dj kr [501, 505, 600, 601, 6006008] = true) : LI M1 x c nk ka ns a l = LI M x c nk ka ns a l := by
  have mI500 := F.2.2.2.2.1 500 (dj_ne d1 (by decide))
  have mI502 := F.2.2.2.2.1 502 (dj_ne d1 (by decide))
  have mI503 := F.2.2.2.2.1 503 (dj_ne d1 (by decide))
  have mI504 := F.2.2.2.2.1 504 (dj_ne d1 (by decide))
  have mI508 := F.2.2.2.2.1 508 (dj_ne d1 (by decide))
  have mI509 := F.2.2.2.2.1 509 (dj_ne d1 (by decide))
  have mI510 := F.2.2.2.2.1 510 (dj_ne d1 (by decide))
  have mI511 := F.2.2.2.2.1 511 (dj_ne d1 (by decide))
  have mI602 := F.2.2.2.2.1 602 (dj_ne d1 (by decide))
  have mI1029007 := F.2.2.2.2.1 1029007 (dj_ne d1 (by decide))
  have mI1029015 := F.2.2.2.2.1 1029015 (dj_ne d1 (by decide))
  have mL506 := F.2.2.2.2.2.1 506 (dj_ne d2 (by decide))
  have mL507 := F.2.2.2.2.2.1 507 (dj_ne d2 (by decide))
  have mR501 := F.2.2.2.2.2.2 501 (dj_ne d3 (by decide))
  have mR505 := F.2.2.2.2.2.2 505 (dj_ne d3 (by decide))
  have mR600 := F.2.2.2.2.2.2 600 (dj_ne d3 (by decide))
  have mR601 := F.2.2.2.2.2.2 601 (dj_ne d3 (by decide))
  have mR6006008 := F.2.2.2.2.2.2 6006008 (dj_ne d3 (by decide))
  simp only [LI, mI500, mI502, mI503, mI504, mI508, mI509, mI510, mI511, mI602, mI1029007, mI1029015, mL506, mL507, mR501, mR505, mR600, mR601, mR6006008, F.1, F.2.1]
theorem RLs_fx {M : Mem} {x : Nat} {c : Core} {nk : Nat} {ka : Nat → Nat} {ns : Nat} {nl : Nat} {la : Nat → Nat} {ki kl kr : List Nat} {M1 : Mem} (F : Fx ki kl kr M M1) (d1 : dj ki [203, 500, 502, 503, 504, 508, 509, 510, 511, 602, 1029007, 1029015] = true) (d2 : dj kl [506, 507] = true) (d3 : dj kr [501, 505, 600, 601, 6006008] = true) : RLs M1 x c nk ka ns nl la = RLs M x c nk ka ns nl la := by
  have mI203 := F.2.2.2.2.1 203 (dj_ne d1 (by decide))
  have mI500 := F.2.2.2.2.1 500 (dj_ne d1 (by decide))
  have mI502 := F.2.2.2.2.1 502 (dj_ne d1 (by decide))
  have mI503 := F.2.2.2.2.1 503 (dj_ne d1 (by decide))
  have mI504 := F.2.2.2.2.1 504 (dj_ne d1 (by decide))
  have mI508 := F.2.2.2.2.1 508 (dj_ne d1 (by decide))
  have mI509 := F.2.2.2.2.1 509 (dj_ne d1 (by decide))
  have mI510 := F.2.2.2.2.1 510 (dj_ne d1 (by decide))
  have mI511 := F.2.2.2.2.1 511 (dj_ne d1 (by decide))
  have mI602 := F.2.2.2.2.1 602 (dj_ne d1 (by decide))
  have mI1029007 := F.2.2.2.2.1 1029007 (dj_ne d1 (by decide))
  have mI1029015 := F.2.2.2.2.1 1029015 (dj_ne d1 (by decide))
  have mL506 := F.2.2.2.2.2.1 506 (dj_ne d2 (by decide))
  have mL507 := F.2.2.2.2.2.1 507 (dj_ne d2 (by decide))
  have mR501 := F.2.2.2.2.2.2 501 (dj_ne d3 (by decide))
  have mR505 := F.2.2.2.2.2.2 505 (dj_ne d3 (by decide))
  have mR600 := F.2.2.2.2.2.2 600 (dj_ne d3 (by decide))
  have mR601 := F.2.2.2.2.2.2 601 (dj_ne d3 (by decide))
  have mR6006008 := F.2.2.2.2.2.2 6006008 (dj_ne d3 (by decide))
  simp only [RLs, LI, mI203, mI500, mI502, mI503, mI504, mI508, mI509, mI510, mI511, mI602, mI1029007, mI1029015, mL506, mL507, mR501, mR505, mR600, mR601, mR6006008, F.1, F.2.1]
theorem CI_fx {M : Mem} {x : Nat} {c : Core} {dp : Nat → Nat} {nl : Nat} {la : Nat → Nat} {p : Nat} {L : List Nat} {ki kl kr : List Nat} {M1 : Mem} (F : Fx ki kl kr M M1) (d3 : dj kr [512, 6006016] = true) : CI M1 x c dp nl la p L = CI M x c dp nl la p L := by
  have mR512 := F.2.2.2.2.2.2 512 (dj_ne d3 (by decide))
  have mR6006016 := F.2.2.2.2.2.2 6006016 (dj_ne d3 (by decide))
  simp only [CI, mR512, mR6006016]
theorem RC_fx {M : Mem} {x : Nat} {c : Core} {dp : Nat → Nat} {nl : Nat} {la : Nat → Nat} {ch : Nat → List Nat} {ki kl kr : List Nat} {M1 : Mem} (F : Fx ki kl kr M M1) (d3 : dj kr [512, 6006016] = true) : RC M1 x c dp nl la ch = RC M x c dp nl la ch := by
  have mR512 := F.2.2.2.2.2.2 512 (dj_ne d3 (by decide))
  have mR6006016 := F.2.2.2.2.2.2 6006016 (dj_ne d3 (by decide))
  simp only [RC, CI, mR512, mR6006016]
theorem RS_fx {M : Mem} {x : Nat} {c : Core} {ns : Nat} {nl : Nat} {ki kl kr : List Nat} {M1 : Mem} (F : Fx ki kl kr M M1) (d1 : dj ki [204, 205, 206, 3006025] = true) : RS M1 x c ns nl = RS M x c ns nl := by
  have mI204 := F.2.2.2.2.1 204 (dj_ne d1 (by decide))
  have mI205 := F.2.2.2.2.1 205 (dj_ne d1 (by decide))
  have mI206 := F.2.2.2.2.1 206 (dj_ne d1 (by decide))
  have mI3006025 := F.2.2.2.2.1 3006025 (dj_ne d1 (by decide))
  simp only [RS, mI204, mI205, mI206, mI3006025]
theorem TI_fx {M : Mem} {c : Core} {a : Nat} {b : Nat} {t : Nat} {ki kl kr : List Nat} {M1 : Mem} (F : Fx ki kl kr M M1) (d1 : dj ki [901, 902] = true) (d2 : dj kl [2050007] = true) : TI M1 c a b t = TI M c a b t := by
  have mI901 := F.2.2.2.2.1 901 (dj_ne d1 (by decide))
  have mI902 := F.2.2.2.2.1 902 (dj_ne d1 (by decide))
  have mL2050007 := F.2.2.2.2.2.1 2050007 (dj_ne d2 (by decide))
  simp only [TI, mI901, mI902, mL2050007]
theorem RT_fx {M : Mem} {x : Nat} {c : Core} {ki kl kr : List Nat} {M1 : Mem} (F : Fx ki kl kr M M1) (d1 : dj ki [901, 902] = true) (d2 : dj kl [2050007] = true) : RT M1 x c = RT M x c := by
  have mI901 := F.2.2.2.2.1 901 (dj_ne d1 (by decide))
  have mI902 := F.2.2.2.2.1 902 (dj_ne d1 (by decide))
  have mL2050007 := F.2.2.2.2.2.1 2050007 (dj_ne d2 (by decide))
  simp only [RT, TI, mI901, mI902, mL2050007]
theorem RA_fx {M : Mem} {x : Nat} {c : Core} {nk : Nat} {ka : Nat → Nat} {ki kl kr : List Nat} {M1 : Mem} (F : Fx ki kl kr M M1) (d1 : dj ki [2, 3] = true) (d2 : dj kl [2000016] = true) (d3 : dj kr [5000007] = true) : RA M1 x c nk ka = RA M x c nk ka := by
  have mI2 := F.2.2.2.2.1 2 (dj_ne d1 (by decide))
  have mI3 := F.2.2.2.2.1 3 (dj_ne d1 (by decide))
  have mL2000016 := F.2.2.2.2.2.1 2000016 (dj_ne d2 (by decide))
  have mR5000007 := F.2.2.2.2.2.2 5000007 (dj_ne d3 (by decide))
  simp only [RA, mI2, mI3, mL2000016, mR5000007]
theorem RP_fx {M : Mem} {x : Nat} {c : Core} {cu : Nat} {nf : Nat} {lg : Nat} {ki kl kr : List Nat} {M1 : Mem} (F : Fx ki kl kr M M1) (d1 : dj ki [704, 705, 706, 707, 708, 709, 1032015, 1032023, 1032031] = true) (d2 : dj kl [2032007] = true) : RP M1 x c cu nf lg = RP M x c cu nf lg := by
  have mI704 := F.2.2.2.2.1 704 (dj_ne d1 (by decide))
  have mI705 := F.2.2.2.2.1 705 (dj_ne d1 (by decide))
  have mI706 := F.2.2.2.2.1 706 (dj_ne d1 (by decide))
  have mI707 := F.2.2.2.2.1 707 (dj_ne d1 (by decide))
  have mI708 := F.2.2.2.2.1 708 (dj_ne d1 (by decide))
  have mI709 := F.2.2.2.2.1 709 (dj_ne d1 (by decide))
  have mI1032015 := F.2.2.2.2.1 1032015 (dj_ne d1 (by decide))
  have mI1032023 := F.2.2.2.2.1 1032023 (dj_ne d1 (by decide))
  have mI1032031 := F.2.2.2.2.1 1032031 (dj_ne d1 (by decide))
  have mL2032007 := F.2.2.2.2.2.1 2032007 (dj_ne d2 (by decide))
  simp only [RP, mI704, mI705, mI706, mI707, mI708, mI709, mI1032015, mI1032023, mI1032031, mL2032007]
theorem RV_fx {M : Mem} {x : Nat} {c : Core} {ki kl kr : List Nat} {M1 : Mem} (F : Fx ki kl kr M M1) (d1 : dj ki [710] = true) (d2 : dj kl [711] = true) : RV M1 x c = RV M x c := by
  have mI710 := F.2.2.2.2.1 710 (dj_ne d1 (by decide))
  have mL711 := F.2.2.2.2.2.1 711 (dj_ne d2 (by decide))
  simp only [RV, mI710, mL711]
theorem RW_fx {M : Mem} {x : Nat} {c : Core} {nk : Nat} {ka : Nat → Nat} {wn : Nat} {ki kl kr : List Nat} {M1 : Mem} (F : Fx ki kl kr M M1) (d1 : dj ki [1002, 1003] = true) (d2 : dj kl [2056016] = true) (d3 : dj kr [5056007] = true) : RW M1 x c nk ka wn = RW M x c nk ka wn := by
  have mI1002 := F.2.2.2.2.1 1002 (dj_ne d1 (by decide))
  have mI1003 := F.2.2.2.2.1 1003 (dj_ne d1 (by decide))
  have mL2056016 := F.2.2.2.2.2.1 2056016 (dj_ne d2 (by decide))
  have mR5056007 := F.2.2.2.2.2.2 5056007 (dj_ne d3 (by decide))
  simp only [RW, mI1002, mI1003, mL2056016, mR5056007]

