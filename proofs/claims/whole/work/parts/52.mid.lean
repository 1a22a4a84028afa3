/-! Within a send: what both hold, and how it goes on -/
/-- the reference's fields that speak of the cues being told -/
def SK : List Nat := [22, 25, 26, 27, 28, 29, 30, 31, 32, 33, 34, 35, 39, 46, 47]
def Sk (c c' : Core) : Prop := ∀ k, k ∉ SK → (∀ i, kI c' k i = kI c k i) ∧ ∀ i, kL c' k i = kL c k i
theorem Sk.rf {c : Core} : Sk c c := fun _ _ => ⟨fun _ => rfl, fun _ => rfl⟩
theorem Sk.tr {c c1 c2 : Core} (h : Sk c c1) (g : Sk c1 c2) : Sk c c2 := fun k hk => ⟨fun i => ((g k hk).1 i).trans ((h k hk).1 i), fun i => ((g k hk).2 i).trans ((h k hk).2 i)⟩
theorem Sk.uI {c c1 : Core} (h : Sk c c1) {k i : Nat} {v : Int32} (hk : k ∈ SK) : Sk c (uI c1 k i v) := fun k' hk' => ⟨fun j => by
  rw [kI_uI, if_neg (fun q => hk' (by rw [q.1]; exact hk))]; exact (h k' hk').1 j, (h k' hk').2⟩
theorem Sk.uL {c c1 : Core} (h : Sk c c1) {k i : Nat} {v : Int64} (hk : k ∈ SK) : Sk c (uL c1 k i v) := fun k' hk' => ⟨(h k' hk').1, fun j => by
  rw [kL_uL, if_neg (fun q => hk' (by rw [q.1]; exact hk))]; exact (h k' hk').2 j⟩
theorem Sk.wcI {c c1 : Core} (h : Sk c c1) {k : Nat} {f : Nat → Int32} (hk : k ∈ SK) : Sk c (wcI c1 k f) := fun k' hk' => ⟨fun j => by
  rw [kI_wcI, if_neg (fun q => hk' (by rw [q]; exact hk))]; exact (h k' hk').1 j, (h k' hk').2⟩
theorem KI_sk {M : Mem} {x : Nat} {c : Core} {ka : Nat → Nat} {dp : Nat → Nat} {i : Nat} {c' : Core} (F : Sk c c') : KI M x c' ka dp i = KI M x c ka dp i := by
  have kI1 := (F 1 (by decide)).1
  have kL2 := (F 2 (by decide)).2
  simp only [KI, kI1, kL2]
theorem RK_sk {M : Mem} {x : Nat} {c : Core} {nk : Nat} {ka : Nat → Nat} {dp : Nat → Nat} {c' : Core} (F : Sk c c') : RK M x c' nk ka dp = RK M x c nk ka dp := by
  have kI0 := (F 0 (by decide)).1
  have kI1 := (F 1 (by decide)).1
  have kL2 := (F 2 (by decide)).2
  simp only [RK, KI, kI0, kI1, kL2]
theorem LI_sk {M : Mem} {x : Nat} {c : Core} {nk : Nat} {ka : Nat → Nat} {ns : Nat} {a : Nat} {l : Nat} {c' : Core} (F : Sk c c') : LI M x c' nk ka ns a l = LI M x c nk ka ns a l := by
  have kI6 := (F 6 (by decide)).1
  have kI7 := (F 7 (by decide)).1
  have kI8 := (F 8 (by decide)).1
  have kI9 := (F 9 (by decide)).1
  have kI12 := (F 12 (by decide)).1
  have kI13 := (F 13 (by decide)).1
  have kI14 := (F 14 (by decide)).1
  have kI15 := (F 15 (by decide)).1
  have kI16 := (F 16 (by decide)).1
  have kI17 := (F 17 (by decide)).1
  have kI18 := (F 18 (by decide)).1
  have kL10 := (F 10 (by decide)).2
  have kL11 := (F 11 (by decide)).2
  simp only [LI, kI6, kI7, kI8, kI9, kI12, kI13, kI14, kI15, kI16, kI17, kI18, kL10, kL11]
theorem RLs_sk {M : Mem} {x : Nat} {c : Core} {nk : Nat} {ka : Nat → Nat} {ns : Nat} {nl : Nat} {la : Nat → Nat} {c' : Core} (F : Sk c c') : RLs M x c' nk ka ns nl la = RLs M x c nk ka ns nl la := by
  have kI5 := (F 5 (by decide)).1
  have kI6 := (F 6 (by decide)).1
  have kI7 := (F 7 (by decide)).1
  have kI8 := (F 8 (by decide)).1
  have kI9 := (F 9 (by decide)).1
  have kI12 := (F 12 (by decide)).1
  have kI13 := (F 13 (by decide)).1
  have kI14 := (F 14 (by decide)).1
  have kI15 := (F 15 (by decide)).1
  have kI16 := (F 16 (by decide)).1
  have kI17 := (F 17 (by decide)).1
  have kI18 := (F 18 (by decide)).1
  have kL10 := (F 10 (by decide)).2
  have kL11 := (F 11 (by decide)).2
  simp only [RLs, LI, kI5, kI6, kI7, kI8, kI9, kI12, kI13, kI14, kI15, kI16, kI17, kI18, kL10, kL11]
theorem CI_sk {M : Mem} {x : Nat} {c : Core} {dp : Nat → Nat} {nl : Nat} {la : Nat → Nat} {p : Nat} {L : List Nat} {c' : Core} (F : Sk c c') : CI M x c' dp nl la p L = CI M x c dp nl la p L := by
  have kI6 := (F 6 (by decide)).1
  have kI7 := (F 7 (by decide)).1
  have kI8 := (F 8 (by decide)).1
  simp only [CI, dqc, kI6, kI7, kI8]
theorem RC_sk {M : Mem} {x : Nat} {c : Core} {dp : Nat → Nat} {nl : Nat} {la : Nat → Nat} {ch : Nat → List Nat} {c' : Core} (F : Sk c c') : RC M x c' dp nl la ch = RC M x c dp nl la ch := by
  have kI6 := (F 6 (by decide)).1
  have kI7 := (F 7 (by decide)).1
  have kI8 := (F 8 (by decide)).1
  simp only [RC, CI, dqc, kI6, kI7, kI8]
theorem RS_sk {M : Mem} {x : Nat} {c : Core} {ns : Nat} {nl : Nat} {c' : Core} (F : Sk c c') : RS M x c' ns nl = RS M x c ns nl := by
  have kI3 := (F 3 (by decide)).1
  have kI4 := (F 4 (by decide)).1
  have kI13 := (F 13 (by decide)).1
  simp only [RS, kI3, kI4, kI13]
theorem TI_sk {M : Mem} {c : Core} {a : Nat} {b : Nat} {t : Nat} {c' : Core} (F : Sk c c') : TI M c' a b t = TI M c a b t := by
  have kI19 := (F 19 (by decide)).1
  have kI20 := (F 20 (by decide)).1
  have kL21 := (F 21 (by decide)).2
  simp only [TI, kI19, kI20, kL21]
theorem RT_sk {M : Mem} {x : Nat} {c : Core} {c' : Core} (F : Sk c c') : RT M x c' = RT M x c := by
  have kI19 := (F 19 (by decide)).1
  have kI20 := (F 20 (by decide)).1
  have kL21 := (F 21 (by decide)).2
  simp only [RT, TI, kI19, kI20, kL21]
theorem RA_sk {M : Mem} {x : Nat} {c : Core} {nk : Nat} {ka : Nat → Nat} {c' : Core} (F : Sk c c') : RA M x c' nk ka = RA M x c nk ka := by
  have kI52 := (F 52 (by decide)).1
  have kI53 := (F 53 (by decide)).1
  have kL54 := (F 54 (by decide)).2
  simp only [RA, kI52, kI53, kL54]
theorem RP_sk {M : Mem} {x : Nat} {c : Core} {cu : Nat} {nf : Nat} {lg : Nat} {c' : Core} (F : Sk c c') : RP M x c' cu nf lg = RP M x c cu nf lg := by
  have kI40 := (F 40 (by decide)).1
  have kI41 := (F 41 (by decide)).1
  have kI42 := (F 42 (by decide)).1
  have kI43 := (F 43 (by decide)).1
  have kI44 := (F 44 (by decide)).1
  have kI45 := (F 45 (by decide)).1
  have kI49 := (F 49 (by decide)).1
  have kI50 := (F 50 (by decide)).1
  have kI51 := (F 51 (by decide)).1
  have kL48 := (F 48 (by decide)).2
  simp only [RP, kI40, kI41, kI42, kI43, kI44, kI45, kI49, kI50, kI51, kL48]
theorem RW_sk {M : Mem} {x : Nat} {c : Core} {nk : Nat} {ka : Nat → Nat} {wn : Nat} {c' : Core} (F : Sk c c') : RW M x c' nk ka wn = RW M x c nk ka wn := by
  have kI36 := (F 36 (by decide)).1
  have kI37 := (F 37 (by decide)).1
  have kL38 := (F 38 (by decide)).2
  simp only [RW, kI36, kI37, kL38]

theorem R0_sk {M : Mem} {x : Nat} {c c' : Core} {nk : Nat} {ka dp : Nat → Nat} {ns nl : Nat} {la : Nat → Nat} {ch : Nat → List Nat} {S0 U0 : Nat} (F : Sk c c') (R : R0 M x c nk ka dp ns nl la ch S0 U0) : R0 M x c' nk ka dp ns nl la ch S0 U0 :=
  ⟨r0_z R, r0_sh R, by rw [RK_sk F]; exact r0_k R, by rw [RLs_sk F]; exact r0_l R, by rw [RC_sk F]; exact r0_c R, by rw [RS_sk F]; exact r0_s R, by rw [RT_sk F]; exact r0_t R, by rw [RA_sk F]; exact r0_a R⟩
/-- the state in a send: class and reference hold the same -/
def MS (M : Mem) (x : Nat) (c : Core) (nk : Nat) (ka dp : Nat → Nat) (ns nl : Nat) (la : Nat → Nat) (ch : Nat → List Nat) (S0 U0 cu nf lg wn : Nat) : Prop := R0 M x c nk ka dp ns nl la ch S0 U0 ∧ RP M x c cu nf lg ∧ RW M x c nk ka wn
theorem MS_sk {M : Mem} {x : Nat} {c c' : Core} {nk : Nat} {ka dp : Nat → Nat} {ns nl : Nat} {la : Nat → Nat} {ch : Nat → List Nat} {S0 U0 cu nf lg wn : Nat} (F : Sk c c') (R : MS M x c nk ka dp ns nl la ch S0 U0 cu nf lg wn) : MS M x c' nk ka dp ns nl la ch S0 U0 cu nf lg wn := ⟨R0_sk F R.1, by rw [RP_sk F]; exact R.2.1, by rw [RW_sk F]; exact R.2.2⟩
/-- the cue objects below depth e, and what the report keeps of the first cue -/
def Fk (M M' : Mem) : Prop := ∀ k, rk k = true → mI M' k = mI M k ∧ mL M' k = mL M k ∧ mR M' k = mR M k
theorem Fk.rf {M : Mem} : Fk M M := fun _ _ => ⟨rfl, rfl, rfl⟩
theorem Fk.tr {M M1 M2 : Mem} (h : Fk M M1) (g : Fk M1 M2) : Fk M M2 := fun k hk => ⟨(g k hk).1.trans (h k hk).1, (g k hk).2.1.trans (h k hk).2.1, (g k hk).2.2.trans (h k hk).2.2⟩
theorem Fk_fz {ki kl kr : List Nat} {M M' : Mem} (F : Fz ki kl kr M M') (d : (ki ++ kl ++ kr).all (fun k => !rk k) = true) : Fk M M' := fun k hk => by
  have n : ∀ q ∈ ki ++ kl ++ kr, ¬ q = k := fun q hq e => by have := List.all_eq_true.mp d q hq; rw [e, hk] at this; cases this
  exact ⟨F.2.1 k (fun q => n k (List.mem_append_left _ (List.mem_append_left _ q)) rfl), F.2.2.1 k (fun q => n k (List.mem_append_left _ (List.mem_append_right _ q)) rfl), F.2.2.2 k (fun q => n k (List.mem_append_right _ q) rfl)⟩
def Cfr (x e : Nat) (M M' : Mem) : Prop := (∀ e', e' < e → (mR M' 199 (x + 37 + e') 0) = (mR M 199 (x + 37 + e') 0) ∧ (mI M' 101 (x + 37 + e') 0) = (mI M 101 (x + 37 + e') 0) ∧ (mL M' 102 (x + 37 + e') 0) = (mL M 102 (x + 37 + e') 0) ∧ (mL M' 103 (x + 37 + e') 0) = (mL M 103 (x + 37 + e') 0) ∧ (mI M' 104 (x + 37 + e') 0) = (mI M 104 (x + 37 + e') 0)) ∧ (mI M' 710 (x + 12) 0) = (mI M 710 (x + 12) 0) ∧ (mL M' 711 (x + 12) 0) = (mL M 711 (x + 12) 0) ∧ Fk M M'
theorem Cfr.rf {x e : Nat} {M : Mem} : Cfr x e M M := ⟨fun _ _ => ⟨rfl, rfl, rfl, rfl, rfl⟩, rfl, rfl, Fk.rf⟩
theorem Cfr.tr {x e : Nat} {M M1 M2 : Mem} (h : Cfr x e M M1) (g : Cfr x e M1 M2) : Cfr x e M M2 := by
  refine ⟨fun e' he => ?_, g.2.1.trans h.2.1, g.2.2.1.trans h.2.2.1, h.2.2.2.tr g.2.2.2⟩
  obtain ⟨a1, a2, a3, a4, a5⟩ := h.1 e' he
  obtain ⟨b1, b2, b3, b4, b5⟩ := g.1 e' he
  exact ⟨b1.trans a1, b2.trans a2, b3.trans a3, b4.trans a4, b5.trans a5⟩
theorem Cfr.le {x e e' : Nat} {M M1 : Mem} (h : Cfr x e M M1) (he : e' ≤ e) : Cfr x e' M M1 := ⟨fun k hk => h.1 k (by omega), h.2⟩
/-- the reference's cues below depth e -/
def Ofr (e : Nat) (c c' : Core) : Prop := (∀ e', e' < e → (∀ k, k ∈ [26, 28, 29, 30, 31, 32, 33, 34] → kI c' k e' = kI c k e') ∧ kL c' 27 e' = kL c 27 e' ∧ kL c' 35 e' = kL c 35 e') ∧ (∀ q, q < 200 * e → kI c' 22 q = kI c 22 q)
theorem Ofr.rf {e : Nat} {c : Core} : Ofr e c c := ⟨fun _ _ => ⟨fun _ _ => rfl, rfl, rfl⟩, fun _ _ => rfl⟩
theorem Ofr.tr {e : Nat} {c c1 c2 : Core} (h : Ofr e c c1) (g : Ofr e c1 c2) : Ofr e c c2 := by
  refine ⟨fun e' he => ?_, fun q hq => (g.2 q hq).trans (h.2 q hq)⟩
  obtain ⟨a1, a2, a3⟩ := h.1 e' he
  obtain ⟨b1, b2, b3⟩ := g.1 e' he
  exact ⟨fun k hk => (b1 k hk).trans (a1 k hk), b2.trans a2, b3.trans a3⟩
theorem Ofr.le {e e' : Nat} {c c1 : Core} (h : Ofr e c c1) (he : e' ≤ e) : Ofr e' c c1 := ⟨fun k hk => h.1 k (by omega), fun q hq => h.2 q (by omega)⟩
/-- what the listeners have become: none comes back, the new ones have greater numbers -/
def Evl (c : Core) (nl : Nat) (la : Nat → Nat) (ch : Nat → List Nat) (c' : Core) (nl' : Nat) (la' : Nat → Nat) (ch' : Nat → List Nat) : Prop := nl ≤ nl' ∧ (∀ l, l < nl → la' l = la l) ∧ (∀ q, q < 3 → (ch' q).filter (fun l => decide (l < nl)) = ch q) ∧ (∀ l, l < nl → (¬ kI c' 13 l = 0 → ¬ kI c 13 l = 0) ∧ kI c' 6 l = kI c 6 l ∧ kI c' 7 l = kI c 7 l ∧ kI c' 8 l = kI c 8 l ∧ kI c' 14 l = kI c 14 l ∧ kL c' 10 l = kL c 10 l ∧ kL c' 11 l = kL c 11 l ∧ ∀ j, j < 10 → kI c' 15 (10 * l + j) = kI c 15 (10 * l + j) ∧ kI c' 16 (10 * l + j) = kI c 16 (10 * l + j)) ∧ (∀ i, kI c' 1 i = kI c 1 i) ∧ (kI c 40 0).toInt ≤ (kI c' 40 0).toInt
theorem Evl.rf {c : Core} {nl : Nat} {la : Nat → Nat} {ch : Nat → List Nat} (h : ∀ q, q < 3 → ∀ l ∈ ch q, l < nl) : Evl c nl la ch c nl la ch := ⟨Nat.le_refl _, fun _ _ => rfl, fun q hq => List.filter_eq_self.mpr (fun l hl => by simpa using h q hq l hl), fun _ _ => ⟨fun h => h, rfl, rfl, rfl, rfl, rfl, rfl, fun _ _ => ⟨rfl, rfl⟩⟩, fun _ => rfl, Int.le_refl _⟩
theorem Evl.tr {c c1 c2 : Core} {nl nl1 nl2 : Nat} {la la1 la2 : Nat → Nat} {ch ch1 ch2 : Nat → List Nat} (h : Evl c nl la ch c1 nl1 la1 ch1) (g : Evl c1 nl1 la1 ch1 c2 nl2 la2 ch2) : Evl c nl la ch c2 nl2 la2 ch2 := by
  obtain ⟨a1, a2, a3, a4, a5, a6⟩ := h
  obtain ⟨b1, b2, b3, b4, b5, b6⟩ := g
  refine ⟨Nat.le_trans a1 b1, fun l hl => (b2 l (by omega)).trans (a2 l hl), fun q hq => ?_, fun l hl => ?_, fun i => (b5 i).trans (a5 i), Int.le_trans a6 b6⟩
  · rw [← a3 q hq, ← b3 q hq, List.filter_filter]
    refine List.filter_congr (fun m _ => ?_)
    by_cases e : m < nl
    · simp [e, show m < nl1 by omega]
    · simp [e]
  · obtain ⟨p1, p2, p3, p4, p5, p6, p7, p8⟩ := a4 l hl
    obtain ⟨q1, q2, q3, q4, q5, q6, q7, q8⟩ := b4 l (by omega)
    exact ⟨fun z => p1 (q1 z), q2.trans p2, q3.trans p3, q4.trans p4, q5.trans p5, q6.trans p6, q7.trans p7, fun j hj => ⟨(q8 j hj).1.trans (p8 j hj).1, (q8 j hj).2.trans (p8 j hj).2⟩⟩
theorem Evl.sk {c c' : Core} {nl : Nat} {la : Nat → Nat} {ch : Nat → List Nat} (h : ∀ q, q < 3 → ∀ l ∈ ch q, l < nl) (F : Sk c c') : Evl c nl la ch c' nl la ch := ⟨Nat.le_refl _, fun _ _ => rfl, fun q hq => List.filter_eq_self.mpr (fun l hl => by simpa using h q hq l hl), fun l _ => ⟨fun z => by rw [← (F 13 (by decide)).1 l]; exact z, (F 6 (by decide)).1 l, (F 7 (by decide)).1 l, (F 8 (by decide)).1 l, (F 14 (by decide)).1 l, (F 10 (by decide)).2 l, (F 11 (by decide)).2 l, fun j _ => ⟨(F 15 (by decide)).1 _, (F 16 (by decide)).1 _⟩⟩, fun i => (F 1 (by decide)).1 i, by rw [(F 40 (by decide)).1]; exact Int.le_refl _⟩
