/-! doStep, whatever it does -/
set_option maxRecDepth 20000 in
theorem x_step {D : DD} {d : Nat} {M : Mem} {x e l s sm Rs : Nat} {c : Core} {b : Int32} {nk : Nat} {ka dp : Nat → Nat} {ns nl : Nat} {la : Nat → Nat} {ch : Nat → List Nat} {S0 U0 cu nf lg wn : Nat} (R : MS M x c nk ka dp ns nl la ch S0 U0 cu nf lg wn) (he : e < 12) (h1 : (kI c 25 0) = nI (e + 1)) (hu : (kI c 32 (e)) = 1) (hpl : (kI c 33 (e)) = nI l) (hl : l < nl) (hps : (kI c 34 (e)) = nI s) (hsm : (kI c 14 (l)) = nI sm) (hsm10 : sm ≤ 10) (hss : s < sm) (hv : (mL M 103 ((x + 37 + e)) 0) = kL c 35 e) (hph : (mI M 101 ((x + 37 + e)) 0) = (kI c 28 (e))) (hnf : nf + e + 1 ≤ 35) (hlg : lg + Rs + (10 - s) ≤ 6000 * cu) (hb : b = 0 ∨ b = 1) (hT : e + 1 < 12 → TellC D (d + 20) b (e + 1)) : Call D (d + 22) mi_X8_doStep [.ref (x + 1), .ref (x + 37 + e), .ref (la l), .int (kI c 15 (10 * l + s)), .int (kI c 16 (10 * l + s))] M (fun M' r => ∃ v, r = some (.int v) ∧ PSt b x e s Rs c M nk ka dp ns nl la ch S0 U0 nf M' v) := by
  have I := rl_i (r0_l R.1) l hl
  obtain ⟨sm', t1, t2, t3, t4⟩ := li_size I
  have esm : sm' = sm := (nI_eq (by omega) (by omega)).mp (t3.symm.trans hsm)
  subst esm
  obtain ⟨_, _, o, o18, ho, h3⟩ := t4 s hss
  rcases (by omega : o = 0 ∨ o = 1 ∨ o = 2 ∨ o = 3 ∨ o = 4 ∨ o = 5 ∨ o = 6 ∨ o = 7 ∨ o = 8 ∨ o = 9 ∨ o = 10 ∨ o = 11 ∨ o = 12 ∨ o = 13 ∨ o = 14 ∨ o = 15 ∨ o = 16 ∨ o = 17) with rfl | rfl | rfl | rfl | rfl | rfl | rfl | rfl | rfl | rfl | rfl | rfl | rfl | rfl | rfl | rfl | rfl | rfl
  · have ho' : (kI c 15 (10 * l + s)) = 0 := ho
    rw [ho']
    exact x_s0 (d := d + 14) R he h1 hu hpl hl hps hsm hsm10 hss hv hph hnf hlg ho' rfl
  · have ho' : (kI c 15 (10 * l + s)) = 1 := ho
    rw [ho']
    exact x_s1 (d := d + 14) R he h1 hu hpl hl hps hsm hsm10 hss hv hph hnf hlg ho' rfl
  · have ho' : (kI c 15 (10 * l + s)) = 2 := ho
    rw [ho']
    exact x_s2 (d := d + 14) R he h1 hu hpl hl hps hsm hsm10 hss hv hph hnf hlg hb ho' rfl
  · obtain ⟨n', n1, n2, n3⟩ := h3 rfl
    have ho' : (kI c 15 (10 * l + s)) = 3 := ho
    rw [ho']
    exact x_s3 (d := d + 14) R he h1 hu hpl hl hps hsm hsm10 hss hv hph hnf hlg (by rw [n3]; exact nI_nle (by omega) (by omega)) ho' rfl
  · have ho' : (kI c 15 (10 * l + s)) = 4 := ho
    rw [ho']
    exact x_s4 (d := d + 14) R he h1 hu hpl hl hps hsm hsm10 hss hv hph hnf hlg ho' rfl
  · have ho' : (kI c 15 (10 * l + s)) = 5 := ho
    rw [ho']
    exact x_s5 (d := d + 14) R he h1 hu hpl hl hps hsm hsm10 hss hv hph hnf hlg ho' rfl
  · have ho' : (kI c 15 (10 * l + s)) = 6 := ho
    rw [ho']
    exact x_s6 (d := d + 14) R he h1 hu hpl hl hps hsm hsm10 hss hv hph hnf hlg ho' rfl
  · have ho' : (kI c 15 (10 * l + s)) = 7 := ho
    rw [ho']
    exact x_s7 (d := d + 14) R he h1 hu hpl hl hps hsm hsm10 hss hv hph hnf hlg ho' rfl
  · have ho' : (kI c 15 (10 * l + s)) = 8 := ho
    rw [ho']
    exact x_s8 (d := d + 14) R he h1 hu hpl hl hps hsm hsm10 hss hv hph hnf hlg ho' rfl
  · have ho' : (kI c 15 (10 * l + s)) = 9 := ho
    rw [ho']
    exact x_s9 (d := d + 10) R he h1 hu hpl hl hps hsm hsm10 hss hv hph hnf hlg ho' rfl
  · have ho' : (kI c 15 (10 * l + s)) = 10 := ho
    rw [ho']
    exact x_s10 (d := d + 14) R he h1 hu hpl hl hps hsm hsm10 hss hv hph hnf hlg ho' rfl
  · have ho' : (kI c 15 (10 * l + s)) = 11 := ho
    rw [ho']
    exact x_s11 (d := d) R he h1 hu hpl hl hps hsm hsm10 hss hv hph hnf hlg hT ho' rfl
  · have ho' : (kI c 15 (10 * l + s)) = 12 := ho
    rw [ho']
    exact x_s12 (d := d + 14) R he h1 hu hpl hl hps hsm hsm10 hss hv hph hnf hlg ho' rfl
  · have ho' : (kI c 15 (10 * l + s)) = 13 := ho
    rw [ho']
    exact x_s13 (d := d + 10) R he h1 hu hpl hl hps hsm hsm10 hss hv hph hnf hlg ho' rfl
  · have ho' : (kI c 15 (10 * l + s)) = 14 := ho
    rw [ho']
    exact x_s14 (d := d + 14) R he h1 hu hpl hl hps hsm hsm10 hss hv hph hnf hlg ho' rfl
  · have ho' : (kI c 15 (10 * l + s)) = 15 := ho
    rw [ho']
    exact x_s15 (d := d + 14) R he h1 hu hpl hl hps hsm hsm10 hss hv hph hnf hlg ho' rfl
  · have ho' : (kI c 15 (10 * l + s)) = 16 := ho
    rw [ho']
    exact x_s16 (d := d + 14) R he h1 hu hpl hl hps hsm hsm10 hss hv hph hnf hlg ho' rfl
  · have ho' : (kI c 15 (10 * l + s)) = 17 := ho
    rw [ho']
    exact x_s17 (d := d + 14) R he h1 hu hpl hl hps hsm hsm10 hss hv hph hnf hlg ho' rfl
