/-! A listener is told -/
/-- a listener has been told, the cue goes on -/
def Kq (x e : Nat) (c c' : Core) (M M' : Mem) : Prop := Cfr x e M M' ∧ Ofr e c c' ∧ kI c' 25 0 = kI c 25 0 ∧ (∀ k, k ∈ [26, 28, 29, 30, 31] → kI c' k e = kI c k e) ∧ kI c' 32 e = 0 ∧ (∀ q, q < 200 * (e + 1) → kI c' 22 q = kI c 22 q) ∧ ((mR M' 199 ((x + 37 + e)) 0) = (mR M 199 ((x + 37 + e)) 0) ∧ (mI M' 101 ((x + 37 + e)) 0) = (mI M 101 ((x + 37 + e)) 0) ∧ (mI M' 104 ((x + 37 + e)) 0) = (mI M 104 ((x + 37 + e)) 0)) ∧ (mL M' 102 ((x + 37 + e)) 0) = kL c' 27 e ∧ kI c' 39 0 = kI c 39 0 ∧ kI c' 46 0 = kI c 46 0 ∧ kL c' 47 0 = kL c 47 0
def PostL (b : Int32) (x e Rs : Nat) (c2 : Core) (M2 : Mem) (nk : Nat) (ka dp : Nat → Nat) (ns nl2 : Nat) (la2 : Nat → Nat) (ch2 : Nat → List Nat) (S0 U0 : Nat) (M' : Mem) : Prop := ∃ (c' : Core) (nl' : Nat) (la' : Nat → Nat) (ch' : Nat → List Nat) (cu' nf' lg' wn' : Nat), Gs b c2 c' ∧ MS M' x c' nk ka dp ns nl' la' ch' S0 U0 cu' nf' lg' wn' ∧ Evl c2 nl2 la2 ch2 c' nl' la' ch' ∧ nf' + e ≤ 35 ∧ lg' + Rs ≤ 6000 * cu' ∧ (Kq x e c2 c' M2 M' ∨ (Fin b x e c2 M2 c' M' ∧ ¬ (mI M' 104 ((x + 37 + e)) 0) = -4 ∧ kI c2 28 e = 0))
theorem RP_fail {M M' : Mem} {x cu nf lg l s : Nat} {c c' : Core} {f : Int32} (P : RP M x c cu nf lg) (F : Fx [1032015, 1032023, 1032031, 707] [] [] M M') (Fc : Skn [32, 34, 43, 49, 50, 51] c c') (hb : nf + 1 ≤ 35) (m1 : (mI M' 707 (x + 12) 0) = nI (nf + 1)) (c1 : (kI c' 43 0) = nI (nf + 1))
    (m2 : ∀ i, (mI M' 1032015 (x + 14) (i)) = (if i = nf then f else (mI M 1032015 (x + 14) (i)))) (m3 : ∀ i, (mI M' 1032023 (x + 15) (i)) = (if i = nf then nI l else (mI M 1032023 (x + 15) (i)))) (m4 : ∀ i, (mI M' 1032031 (x + 16) (i)) = (if i = nf then nI s else (mI M 1032031 (x + 16) (i))))
    (c2 : ∀ i, (kI c' 49 (i)) = (if i = nf then f else (kI c 49 (i)))) (c3 : ∀ i, (kI c' 50 (i)) = (if i = nf then nI l else (kI c 50 (i)))) (c4 : ∀ i, (kI c' 51 (i)) = (if i = nf then nI s else (kI c 51 (i)))) : RP M' x c' cu (nf + 1) lg := by
  refine ⟨by rw [F.i _ (by decide)]; exact rp_cu P, by rw [(Fc 40 (by decide)).1]; exact rp_cuc P, rp_cu60 P, by rw [F.i _ (by decide), (Fc 41 (by decide)).1]; exact rp_told P, by rw [F.i _ (by decide)]; exact rp_lg P, by rw [(Fc 42 (by decide)).1]; exact rp_lgc P, rp_lgb P, fun i h1 h2 => by rw [F.l _ (by decide), (Fc 48 (by decide)).2]; exact rp_log P i h1 h2, m1, c1, hb, fun i hi => ?_, by rw [F.i _ (by decide), (Fc 44 (by decide)).1]; exact rp_vet P, by rw [F.i _ (by decide), (Fc 45 (by decide)).1]; exact rp_deep P⟩
  rw [m2, m3, m4, c2, c3, c4]
  by_cases e : i = nf
  · rw [if_pos e, if_pos e, if_pos e, if_pos e, if_pos e, if_pos e]; exact ⟨rfl, rfl, rfl⟩
  · rw [if_neg e, if_neg e, if_neg e, if_neg e, if_neg e, if_neg e]; exact rp_fs P i (by omega)
theorem RP_veto {M M' : Mem} {x cu nf lg : Nat} {c c' : Core} {K : List Nat} (P : RP M x c cu nf lg) (F : Fx [708, 104] [] [] M M') (Fc : Skn K c c') (hK : dj K [40, 41, 42, 43, 45, 48, 49, 50, 51] = true) (h1 : (mI M' 708 (x + 12) 0) = (mI M 708 (x + 12) 0) + 1) (h2 : (kI c' 44 0) = (kI c 44 0) + 1) : RP M' x c' cu nf lg := by
  have f := fun k (hk : k ∈ [40, 41, 42, 43, 45, 48, 49, 50, 51]) => Fc k (dj_ne hK hk)
  refine ⟨by rw [F.i _ (by decide)]; exact rp_cu P, by rw [(f 40 (by decide)).1]; exact rp_cuc P, rp_cu60 P, by rw [F.i _ (by decide), (f 41 (by decide)).1]; exact rp_told P, by rw [F.i _ (by decide)]; exact rp_lg P, by rw [(f 42 (by decide)).1]; exact rp_lgc P, rp_lgb P, fun i h1 h2 => by rw [F.l _ (by decide), (f 48 (by decide)).2]; exact rp_log P i h1 h2, by rw [F.i _ (by decide)]; exact rp_nf P, by rw [(f 43 (by decide)).1]; exact rp_nfc P, rp_nfb P, fun i hi => by rw [F.i 1032015 (by decide), F.i 1032023 (by decide), F.i 1032031 (by decide), (f 49 (by decide)).1, (f 50 (by decide)).1, (f 51 (by decide)).1]; exact rp_fs P i hi, by rw [h1, h2, rp_vet P], by rw [F.i _ (by decide), (f 45 (by decide)).1]; exact rp_deep P⟩
/-- what a veto leaves in the reference -/
theorem vt_sk {c : Core} {e s : Nat} {b : Int32} : Skn [25, 31, 32, 34, 35, 39, 44, 46, 47] c (vtC (uI c 34 e (nI (s + 1))) e b) := by
  unfold vtC enC
  have h := ((((Skn.rf (K := [25, 31, 32, 34, 35, 39, 44, 46, 47]) (c := c)).uI (k := 34) (i := e) (v := nI (s + 1)) (by decide)).uI (k := 44) (i := 0) (v := kI (uI c 34 e (nI (s + 1))) 44 0 + 1) (by decide)).uI (k := 31) (i := e) (v := 1) (by decide)).uI (k := 32) (i := e) (v := 0) (by decide)
  split
  · split
    · exact (h.uI (by decide)).uI (by decide)
    · exact (((h.uI (by decide)).uI (by decide)).uI (by decide)).uL (by decide)
  · exact ((h.uI (by decide)).uI (by decide)).uL (by decide)
theorem vt_44 {c : Core} {e s : Nat} {b : Int32} : kI (vtC (uI c 34 e (nI (s + 1))) e b) 44 0 = kI c 44 0 + 1 ∧ kI (vtC (uI c 34 e (nI (s + 1))) e b) 25 0 = nI e := by
  unfold vtC enC
  split
  · split <;> simp only [kI_uI, kI_uL, Nat.reduceEqDiff, false_and, if_false, and_self, if_true]
  · simp only [kI_uI, kI_uL, Nat.reduceEqDiff, false_and, if_false, and_self, if_true]
theorem vt_o {c : Core} {e s : Nat} {b : Int32} : (∀ k i, ¬ i = e → ¬ k = 25 → ¬ k = 39 → ¬ k = 44 → ¬ k = 46 → kI (vtC (uI c 34 e (nI (s + 1))) e b) k i = kI c k i) ∧ (∀ k i, ¬ k = 47 → kL (vtC (uI c 34 e (nI (s + 1))) e b) k i = kL c k i) := by
  refine ⟨fun k i h1 h2 h3 h4 h5 => ?_, fun k i h => ?_⟩
  · unfold vtC enC
    split
    · split <;> simp only [kI_uI, kI_uL, h1, h2, h3, h4, h5, and_false, false_and, if_false]
    · simp only [kI_uI, kI_uL, h1, h2, h3, h4, h5, and_false, false_and, if_false]
  · unfold vtC enC
    split
    · split <;> simp only [kL_uI, kL_uL, h, false_and, if_false]
    · simp only [kL_uI, kL_uL, kI_uI, Nat.reduceEqDiff, false_and, if_false, and_self, if_true]
      rw [if_neg (by decide : ¬ (1 : Int32) = 0)]
      by_cases q : k = 35 ∧ i = e - 1
      · rw [if_pos q, q.1, q.2]
      · rw [if_neg q]
theorem vt_0 {c : Core} {s : Nat} {b : Int32} (hb : ¬ b = 0) : kI (vtC (uI c 34 0 (nI (s + 1))) 0 b) 39 0 = 1 ∧ kI (vtC (uI c 34 0 (nI (s + 1))) 0 b) 46 0 = kI c 33 0 ∧ kL (vtC (uI c 34 0 (nI (s + 1))) 0 b) 47 0 = kL c 27 0 := by
  unfold vtC enC
  rw [if_pos rfl, if_neg hb]
  simp only [kI_uI, kI_uL, kL_uI, kL_uL, hb, Nat.reduceEqDiff, false_and, if_false, and_self, if_true]
theorem vt_n {c : Core} {e s : Nat} {b : Int32} (h : ¬ (e = 0 ∧ ¬ b = 0)) : kI (vtC (uI c 34 e (nI (s + 1))) e b) 39 0 = kI c 39 0 ∧ kI (vtC (uI c 34 e (nI (s + 1))) e b) 46 0 = kI c 46 0 ∧ kL (vtC (uI c 34 e (nI (s + 1))) e b) 47 0 = kL c 47 0 := by
  unfold vtC enC
  by_cases he : e = 0
  · have hb : b = 0 := Classical.byContradiction (fun q => h ⟨he, q⟩)
    rw [if_pos he, if_pos hb]
    simp only [kI_uI, kI_uL, kL_uI, kL_uL, hb, Nat.reduceEqDiff, false_and, if_false, and_self, if_true]
  · rw [if_neg he]
    simp only [kI_uI, kI_uL, kL_uI, kL_uL, he, Nat.reduceEqDiff, false_and, if_false, and_self, if_true, ite_self]
