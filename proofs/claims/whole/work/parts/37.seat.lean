/-! A comer takes its seat -/
/-- all of a listener but its place in the row -/
def LJ (M : Mem) (x : Nat) (c : Core) (nk : Nat) (ka : Nat → Nat) (ns : Nat) (a : Nat) (l : Nat) : Prop :=
  (mK M a = 6) ∧
  ((mI M 500 (a) 0) = nI l) ∧
  (∃ k, k < nk ∧ (mR M 501 (a) 0) = some (ka k) ∧ (kI c 6 (l)) = nI k) ∧
  (∃ p, p < 3 ∧ (mI M 502 (a) 0) = nI p ∧ (kI c 7 (l)) = nI p) ∧
  ((mI M 503 (a) 0) = (kI c 8 (l))) ∧
  ((mI M 504 (a) 0) = (kI c 9 (l))) ∧
  ((kI c 9 (l)) = -4 ∨ inN (kI c 9 (l)) ns) ∧
  ((mL M 506 (a) 0) = (kL c 10 (l))) ∧
  ((mL M 507 (a) 0) = (kL c 11 (l))) ∧
  ((mI M 508 (a) 0) = (kI c 12 (l))) ∧
  ((kI c 12 (l)) = 0 ∨ (kI c 12 (l)) = 1) ∧
  ((mI M 509 (a) 0) = (kI c 13 (l))) ∧
  ((kI c 13 (l)) = 0 ∨ (kI c 13 (l)) = 1) ∧
  ((mI M 510 (a) 0) = (kI c 17 (l))) ∧
  (∃ t, t < 8 ∧ (mI M 511 (a) 0) = nI t ∧ (kI c 18 (l)) = nI t) ∧
  ((mR M 505 (a) 0) = some (a + 1)) ∧
  (mK M (a + 1) = 7) ∧
  ((mR M 600 (a + 1) 0) = some (a + 2)) ∧
  (mK M (a + 2) = 1029007) ∧
  (mN M (a + 2) = 10) ∧
  ((mR M 601 (a + 1) 0) = some (a + 3)) ∧
  (mK M (a + 3) = 1029015) ∧
  (mN M (a + 3) = 10) ∧
  (∃ sm, sm ≤ 10 ∧ (mI M 602 (a + 1) 0) = nI sm ∧ (kI c 14 (l)) = nI sm ∧ ∀ j, j < sm → (mI M 1029007 (a + 2) (j)) = (kI c 15 (10 * l + j)) ∧ (mI M 1029015 (a + 3) (j)) = (kI c 16 (10 * l + j)) ∧ ∃ o, o < 18 ∧ (kI c 15 (10 * l + j)) = nI o ∧ (o = 3 → ∃ n, 20 ≤ n ∧ n ≤ 29 ∧ (kI c 16 (10 * l + j)) = nI n))
theorem lj_k {M : Mem} {x : Nat} {c : Core} {nk : Nat} {ka : Nat → Nat} {ns a l : Nat} (H : LJ M x c nk ka ns a l) : (mK M a = 6) := H.1
theorem lj_num {M : Mem} {x : Nat} {c : Core} {nk : Nat} {ka : Nat → Nat} {ns a l : Nat} (H : LJ M x c nk ka ns a l) : ((mI M 500 (a) 0) = nI l) := H.2.1
theorem lj_kind {M : Mem} {x : Nat} {c : Core} {nk : Nat} {ka : Nat → Nat} {ns a l : Nat} (H : LJ M x c nk ka ns a l) : (∃ k, k < nk ∧ (mR M 501 (a) 0) = some (ka k) ∧ (kI c 6 (l)) = nI k) := H.2.2.1
theorem lj_phase {M : Mem} {x : Nat} {c : Core} {nk : Nat} {ka : Nat → Nat} {ns a l : Nat} (H : LJ M x c nk ka ns a l) : (∃ p, p < 3 ∧ (mI M 502 (a) 0) = nI p ∧ (kI c 7 (l)) = nI p) := H.2.2.2.1
theorem lj_rank {M : Mem} {x : Nat} {c : Core} {nk : Nat} {ka : Nat → Nat} {ns a l : Nat} (H : LJ M x c nk ka ns a l) : ((mI M 503 (a) 0) = (kI c 8 (l))) := H.2.2.2.2.1
theorem lj_scene {M : Mem} {x : Nat} {c : Core} {nk : Nat} {ka : Nat → Nat} {ns a l : Nat} (H : LJ M x c nk ka ns a l) : ((mI M 504 (a) 0) = (kI c 9 (l))) := H.2.2.2.2.2.1
theorem lj_sc {M : Mem} {x : Nat} {c : Core} {nk : Nat} {ka : Nat → Nat} {ns a l : Nat} (H : LJ M x c nk ka ns a l) : ((kI c 9 (l)) = -4 ∨ inN (kI c 9 (l)) ns) := H.2.2.2.2.2.2.1
theorem lj_low {M : Mem} {x : Nat} {c : Core} {nk : Nat} {ka : Nat → Nat} {ns a l : Nat} (H : LJ M x c nk ka ns a l) : ((mL M 506 (a) 0) = (kL c 10 (l))) := H.2.2.2.2.2.2.2.1
theorem lj_high {M : Mem} {x : Nat} {c : Core} {nk : Nat} {ka : Nat → Nat} {ns a l : Nat} (H : LJ M x c nk ka ns a l) : ((mL M 507 (a) 0) = (kL c 11 (l))) := H.2.2.2.2.2.2.2.2.1
theorem lj_once {M : Mem} {x : Nat} {c : Core} {nk : Nat} {ka : Nat → Nat} {ns a l : Nat} (H : LJ M x c nk ka ns a l) : ((mI M 508 (a) 0) = (kI c 12 (l))) := H.2.2.2.2.2.2.2.2.2.1
theorem lj_on {M : Mem} {x : Nat} {c : Core} {nk : Nat} {ka : Nat → Nat} {ns a l : Nat} (H : LJ M x c nk ka ns a l) : ((kI c 12 (l)) = 0 ∨ (kI c 12 (l)) = 1) := H.2.2.2.2.2.2.2.2.2.2.1
theorem lj_there {M : Mem} {x : Nat} {c : Core} {nk : Nat} {ka : Nat → Nat} {ns a l : Nat} (H : LJ M x c nk ka ns a l) : ((mI M 509 (a) 0) = (kI c 13 (l))) := H.2.2.2.2.2.2.2.2.2.2.2.1
theorem lj_th {M : Mem} {x : Nat} {c : Core} {nk : Nat} {ka : Nat → Nat} {ns a l : Nat} (H : LJ M x c nk ka ns a l) : ((kI c 13 (l)) = 0 ∨ (kI c 13 (l)) = 1) := H.2.2.2.2.2.2.2.2.2.2.2.2.1
theorem lj_told {M : Mem} {x : Nat} {c : Core} {nk : Nat} {ka : Nat → Nat} {ns a l : Nat} (H : LJ M x c nk ka ns a l) : ((mI M 510 (a) 0) = (kI c 17 (l))) := H.2.2.2.2.2.2.2.2.2.2.2.2.2.1
theorem lj_tray {M : Mem} {x : Nat} {c : Core} {nk : Nat} {ka : Nat → Nat} {ns a l : Nat} (H : LJ M x c nk ka ns a l) : (∃ t, t < 8 ∧ (mI M 511 (a) 0) = nI t ∧ (kI c 18 (l)) = nI t) := H.2.2.2.2.2.2.2.2.2.2.2.2.2.2.1
theorem lj_prog {M : Mem} {x : Nat} {c : Core} {nk : Nat} {ka : Nat → Nat} {ns a l : Nat} (H : LJ M x c nk ka ns a l) : ((mR M 505 (a) 0) = some (a + 1)) := H.2.2.2.2.2.2.2.2.2.2.2.2.2.2.2.1
theorem lj_pk {M : Mem} {x : Nat} {c : Core} {nk : Nat} {ka : Nat → Nat} {ns a l : Nat} (H : LJ M x c nk ka ns a l) : (mK M (a + 1) = 7) := H.2.2.2.2.2.2.2.2.2.2.2.2.2.2.2.2.1
theorem lj_ops {M : Mem} {x : Nat} {c : Core} {nk : Nat} {ka : Nat → Nat} {ns a l : Nat} (H : LJ M x c nk ka ns a l) : ((mR M 600 (a + 1) 0) = some (a + 2)) := H.2.2.2.2.2.2.2.2.2.2.2.2.2.2.2.2.2.1
theorem lj_ok {M : Mem} {x : Nat} {c : Core} {nk : Nat} {ka : Nat → Nat} {ns a l : Nat} (H : LJ M x c nk ka ns a l) : (mK M (a + 2) = 1029007) := H.2.2.2.2.2.2.2.2.2.2.2.2.2.2.2.2.2.2.1
theorem lj_on10 {M : Mem} {x : Nat} {c : Core} {nk : Nat} {ka : Nat → Nat} {ns a l : Nat} (H : LJ M x c nk ka ns a l) : (mN M (a + 2) = 10) := H.2.2.2.2.2.2.2.2.2.2.2.2.2.2.2.2.2.2.2.1
theorem lj_nums {M : Mem} {x : Nat} {c : Core} {nk : Nat} {ka : Nat → Nat} {ns a l : Nat} (H : LJ M x c nk ka ns a l) : ((mR M 601 (a + 1) 0) = some (a + 3)) := H.2.2.2.2.2.2.2.2.2.2.2.2.2.2.2.2.2.2.2.2.1
theorem lj_nk {M : Mem} {x : Nat} {c : Core} {nk : Nat} {ka : Nat → Nat} {ns a l : Nat} (H : LJ M x c nk ka ns a l) : (mK M (a + 3) = 1029015) := H.2.2.2.2.2.2.2.2.2.2.2.2.2.2.2.2.2.2.2.2.2.1
theorem lj_nn10 {M : Mem} {x : Nat} {c : Core} {nk : Nat} {ka : Nat → Nat} {ns a l : Nat} (H : LJ M x c nk ka ns a l) : (mN M (a + 3) = 10) := H.2.2.2.2.2.2.2.2.2.2.2.2.2.2.2.2.2.2.2.2.2.2.1
theorem lj_size {M : Mem} {x : Nat} {c : Core} {nk : Nat} {ka : Nat → Nat} {ns a l : Nat} (H : LJ M x c nk ka ns a l) : (∃ sm, sm ≤ 10 ∧ (mI M 602 (a + 1) 0) = nI sm ∧ (kI c 14 (l)) = nI sm ∧ ∀ j, j < sm → (mI M 1029007 (a + 2) (j)) = (kI c 15 (10 * l + j)) ∧ (mI M 1029015 (a + 3) (j)) = (kI c 16 (10 * l + j)) ∧ ∃ o, o < 18 ∧ (kI c 15 (10 * l + j)) = nI o ∧ (o = 3 → ∃ n, 20 ≤ n ∧ n ≤ 29 ∧ (kI c 16 (10 * l + j)) = nI n)) := H.2.2.2.2.2.2.2.2.2.2.2.2.2.2.2.2.2.2.2.2.2.2.2
theorem LI_LJ {M : Mem} {x : Nat} {c : Core} {nk : Nat} {ka : Nat → Nat} {ns a l : Nat} : LI M x c nk ka ns a l = (((mR M 6006008 (x + 5) (l)) = some a) ∧ LJ M x c nk ka ns a l) := rfl
theorem LJ_sI {M : Mem} {x : Nat} {c : Core} {nk : Nat} {ka : Nat → Nat} {ns a l : Nat} {k q j : Nat} {v : Int32} (h500 : ¬ 500 = k) (h502 : ¬ 502 = k) (h503 : ¬ 503 = k) (h504 : ¬ 504 = k) (h508 : ¬ 508 = k) (h509 : ¬ 509 = k) (h510 : ¬ 510 = k) (h511 : ¬ 511 = k) (h602 : ¬ 602 = k) (h1029007 : ¬ 1029007 = k) (h1029015 : ¬ 1029015 = k) : LJ (sI M k q j v) x c nk ka ns a l = LJ M x c nk ka ns a l := by
  simp only [LJ, mK_sI, mN_sI, mI_sI, mL_sI, mR_sI, h500, h502, h503, h504, h508, h509, h510, h511, h602, h1029007, h1029015, false_and, if_false]
theorem LJ_sR {M : Mem} {x : Nat} {c : Core} {nk : Nat} {ka : Nat → Nat} {ns a l : Nat} {k q j : Nat} {v : Option Nat} (h501 : ¬ 501 = k) (h505 : ¬ 505 = k) (h600 : ¬ 600 = k) (h601 : ¬ 601 = k) : LJ (sR M k q j v) x c nk ka ns a l = LJ M x c nk ka ns a l := by
  simp only [LJ, mK_sR, mN_sR, mI_sR, mL_sR, mR_sR, h501, h505, h600, h601, false_and, if_false]

theorem Ld_of {M : Mem} {x : Nat} {c c0 : Core} {nk : Nat} {ka dp : Nat → Nat} {ns a l : Nat} (K : RK M x c0 nk ka dp) (I : LJ M x c nk ka ns a l) : Ld M a (kI c 8 l) (dqc c dp l) := by
  obtain ⟨k, k1, k2, k3⟩ := lj_kind I
  have nk40 := rk_le K
  have J := rk_i K k k1
  have e : dqc c dp l = dp k := by rw [dqc, k3, nI_clamp (by omega)]
  rw [e]
  exact ⟨lj_k I, lj_rank I, ki_dp J, _, k2, ki_k J, ki_dep J⟩
def la1 (la : Nat → Nat) (n a : Nat) : Nat → Nat := fun l => if l = n then a else la l
theorem cnt_one {f : Nat → Int32} {n : Nat} (h : f n = 1) : cnt f (n + 1) = cnt f n + 1 := by rw [cnt, if_neg (by rw [h]; decide)]
/-- where a comer has its seat -/
def PostSeat (M1 : Mem) (x : Nat) (c : Core) (nk : Nat) (ka dp : Nat → Nat) (ns nl : Nat) (la : Nat → Nat) (ch : Nat → List Nat) (a : Nat) (M' : Mem) : Prop :=
  Fx [203, 204] [] [6006008, 512, 6006016] M1 M' ∧ Cln M' ∧ RLs M' x c nk ka ns (nl + 1) (la1 la nl a) ∧ RS M' x c ns (nl + 1) ∧ ∃ ch' : Nat → List Nat, RC M' x c dp (nl + 1) (la1 la nl a) ch' ∧ ∀ q, q < 3 → (ch' q).filter (fun l => decide (l < nl)) = ch q
theorem post_seat {M1 M2 : Mem} {x : Nat} {c c0 : Core} {nk : Nat} {ka dp : Nat → Nat} {ns nl : Nat} {la : Nat → Nat} {ch : Nat → List Nat} {a p : Nat} (hM2 : M2 = sI (sI (sR M1 6006008 (x + 5) nl (some a)) 203 (x + 4) 0 (nI (nl + 1))) 204 (x + 4) 0 ((mI M1 204 (x + 4) 0) + 1))
    (S : SH M1 x) (hcl : Cln M1) (hnl : nl < 200) (K : RK M1 x c0 nk ka dp) (IJ : LJ M1 x c nk ka ns a nl) (hl : ∀ l, l < nl → LI M1 x c nk ka ns (la l) l) (C : RC M1 x c dp nl la ch) (Sc : RS M1 x c ns nl) (h5 : (kI c 5 0) = nI (nl + 1)) (h13 : (kI c 13 (nl)) = 1) (hp : p < 3) (hph : (kI c 7 (nl)) = nI p) (hne : ∀ l, l < nl → la l ≠ a)
    {A B : List Nat} (hAB : ch p = A ++ B) (hI : InsAt (fun l => (kI c 8 (l))) (fun l => dqc c dp l) nl A B) :
    PostSeat M1 x c nk ka dp ns nl la ch a (match A.getLast? with | none => sR (sR M2 512 a 0 (hdo la B)) 6006016 (x + 6) p (some a) | some m => sR (sR M2 512 a 0 (hdo la B)) 512 (la m) 0 (some a)) := by
  have hchm : ∀ q, q < 3 → ∀ m ∈ ch q, m < nl ∧ kI c 7 m = nI q := fun q hq m hm => (ch_mem (C q hq) m).mp hm
  have hlast : ∀ m, A.getLast? = some m → m ∈ A := fun m hm => List.mem_of_getLast? hm
  have hAl : ∀ m ∈ A, m < nl := fun m hm => (hchm p hp m (by rw [hAB]; exact List.mem_append_left _ hm)).1
  have hBl : ∀ m ∈ B, m < nl := fun m hm => (hchm p hp m (by rw [hAB]; exact List.mem_append_right _ hm)).1
  have hnd : ∀ {l : List Nat}, l.Pairwise (ah (fun l => kI c 8 l) (fun l => dqc c dp l)) → l.Nodup := fun h => h.imp (fun hab e => by rw [e] at hab; exact ah_ir hab)
  have hAB2 : (A ++ B).Nodup := by rw [← hAB]; exact hnd (ch_pw (C p hp))
  have lainj : ∀ {i j : Nat}, i < nl → j < nl → la i = la j → i = j := fun {i j} hi hj e => by
    have h1 := li_num (hl i hi)
    have h2 := li_num (hl j hj)
    rw [e, h2] at h1
    exact ((nI_eq (by omega) (by omega)).mp h1).symm
  -- the memory: M2 with two links
  have key : ∃ M', (match A.getLast? with | none => sR (sR M2 512 a 0 (hdo la B)) 6006016 (x + 6) p (some a) | some m => sR (sR M2 512 a 0 (hdo la B)) 512 (la m) 0 (some a)) = M' ∧
      Fx [] [] [512, 6006016] M2 M' ∧ Cln M' ∧ (∀ b, mR M' 512 b 0 = if ∃ m, A.getLast? = some m ∧ b = la m then some a else if b = a then hdo la B else mR M1 512 b 0) ∧ (∀ q, mR M' 6006016 (x + 6) q = if A.getLast? = none ∧ q = p then some a else mR M1 6006016 (x + 6) q) := by
    have hk2 : mK M2 = mK M1 := by rw [hM2]; rfl
    have hcl2 : Cln M2 := by
      rw [hM2]
      refine cl_sI (cl_sI (cl_sR hcl ?_) ?_) ?_
      · rw [(sh_k5 S).1]; decide
      · rw [mK_sR, (sh_k4 S).1]; decide
      · rw [mK_sI, mK_sR, (sh_k4 S).1]; decide
    have hR : ∀ b, mR M2 512 b 0 = mR M1 512 b 0 := fun b => by rw [hM2]; simp only [mK_sI, mK_sL, mK_sR, mK_nw, mN_sI, mN_sL, mN_sR, mN_nw, mI_sI, mI_sL, mI_sR, mI_nw, mL_sI, mL_sL, mL_sR, mL_nw, mR_sI, mR_sL, mR_sR, mR_nw, mS_sI, mS_sL, mS_sR, mS_nw, mU_sI, mU_sL, mU_sR, mU_nw, Nat.reduceEqDiff, false_and, if_false]
    have hF : ∀ q, mR M2 6006016 (x + 6) q = mR M1 6006016 (x + 6) q := fun b => by rw [hM2]; simp only [mK_sI, mK_sL, mK_sR, mK_nw, mN_sI, mN_sL, mN_sR, mN_nw, mI_sI, mI_sL, mI_sR, mI_nw, mL_sI, mL_sL, mL_sR, mL_nw, mR_sI, mR_sL, mR_sR, mR_nw, mS_sI, mS_sL, mS_sR, mS_nw, mU_sI, mU_sL, mU_sR, mU_nw, Nat.reduceEqDiff, false_and, if_false]
    cases eA : A.getLast? with
    | none =>
      refine ⟨_, rfl, (Fx.rf.sR (by decide)).sR (by decide), ?_, fun b => ?_, fun q => ?_⟩
      · refine cl_sR (cl_sR hcl2 ?_) ?_
        · rw [hk2, lj_k IJ]; decide
        · rw [mK_sR, hk2, (sh_k6 S).1]; decide
      · simp only [mK_sI, mK_sL, mK_sR, mK_nw, mN_sI, mN_sL, mN_sR, mN_nw, mI_sI, mI_sL, mI_sR, mI_nw, mL_sI, mL_sL, mL_sR, mL_nw, mR_sI, mR_sL, mR_sR, mR_nw, mS_sI, mS_sL, mS_sR, mS_nw, mU_sI, mU_sL, mU_sR, mU_nw, hR, Nat.reduceEqDiff, false_and, if_false, true_and, and_true, reduceCtorEq, exists_const]
      · simp only [mK_sI, mK_sL, mK_sR, mK_nw, mN_sI, mN_sL, mN_sR, mN_nw, mI_sI, mI_sL, mI_sR, mI_nw, mL_sI, mL_sL, mL_sR, mL_nw, mR_sI, mR_sL, mR_sR, mR_nw, mS_sI, mS_sL, mS_sR, mS_nw, mU_sI, mU_sL, mU_sR, mU_nw, hF, Nat.reduceEqDiff, false_and, if_false, true_and]
    | some m =>
      have hm := hAl m (hlast m eA)
      refine ⟨_, rfl, (Fx.rf.sR (by decide)).sR (by decide), ?_, fun b => ?_, fun q => ?_⟩
      · refine cl_sR (cl_sR hcl2 ?_) ?_
        · rw [hk2, lj_k IJ]; decide
        · rw [mK_sR, hk2, li_k (hl m hm)]; decide
      · simp only [mK_sI, mK_sL, mK_sR, mK_nw, mN_sI, mN_sL, mN_sR, mN_nw, mI_sI, mI_sL, mI_sR, mI_nw, mL_sI, mL_sL, mL_sR, mL_nw, mR_sI, mR_sL, mR_sR, mR_nw, mS_sI, mS_sL, mS_sR, mS_nw, mU_sI, mU_sL, mU_sR, mU_nw, hR, Nat.reduceEqDiff, false_and, if_false, true_and, and_true, Option.some.injEq, exists_eq_left']
      · simp only [mK_sI, mK_sL, mK_sR, mK_nw, mN_sI, mN_sL, mN_sR, mN_nw, mI_sI, mI_sL, mI_sR, mI_nw, mL_sI, mL_sL, mL_sR, mL_nw, mR_sI, mR_sL, mR_sR, mR_nw, mS_sI, mS_sL, mS_sR, mS_nw, mU_sI, mU_sL, mU_sR, mU_nw, hF, Nat.reduceEqDiff, false_and, if_false, true_and, reduceCtorEq]
  obtain ⟨M', eM, F2, hcl', hnx, hfs⟩ := key
  rw [eM]
  have F1 : Fx [203, 204] [] [6006008, 512, 6006016] M1 M2 := by rw [hM2]; exact ((Fx.rf.sR (by decide)).sI (by decide)).sI (by decide)
  have F : Fx [203, 204] [] [6006008, 512, 6006016] M1 M' := F1.tr (F2.mono (fun _ h => absurd h List.not_mem_nil) (fun _ h => h) (fun k hk => by
    simp only [List.mem_cons, List.not_mem_nil, or_false] at hk ⊢
    rcases hk with rfl | rfl <;> simp))
  have hall : ∀ l, mR M' 6006008 (x + 5) l = if l = nl then some a else mR M1 6006008 (x + 5) l := fun l => by
    rw [F2.r 6006008 (by decide), hM2]
    simp only [mK_sI, mK_sL, mK_sR, mK_nw, mN_sI, mN_sL, mN_sR, mN_nw, mI_sI, mI_sL, mI_sR, mI_nw, mL_sI, mL_sL, mL_sR, mL_nw, mR_sI, mR_sL, mR_sR, mR_nw, mS_sI, mS_sL, mS_sR, mS_nw, mU_sI, mU_sL, mU_sR, mU_nw, Nat.reduceEqDiff, false_and, if_false, true_and]
  have hcome : mI M' 203 (x + 4) 0 = nI (nl + 1) := by
    rw [F2.i 203 (by decide), hM2]
    simp only [mK_sI, mK_sL, mK_sR, mK_nw, mN_sI, mN_sL, mN_sR, mN_nw, mI_sI, mI_sL, mI_sR, mI_nw, mL_sI, mL_sL, mL_sR, mL_nw, mR_sI, mR_sL, mR_sR, mR_nw, mS_sI, mS_sL, mS_sR, mS_nw, mU_sI, mU_sL, mU_sR, mU_nw, Nat.reduceEqDiff, false_and, if_false, true_and, and_self, if_true]
  have hthere : mI M' 204 (x + 4) 0 = mI M1 204 (x + 4) 0 + 1 := by
    rw [F2.i 204 (by decide), hM2]
    simp only [mK_sI, mK_sL, mK_sR, mK_nw, mN_sI, mN_sL, mN_sR, mN_nw, mI_sI, mI_sL, mI_sR, mI_nw, mL_sI, mL_sL, mL_sR, mL_nw, mR_sI, mR_sL, mR_sR, mR_nw, mS_sI, mS_sL, mS_sR, mS_nw, mU_sI, mU_sL, mU_sR, mU_nw, Nat.reduceEqDiff, false_and, if_false, true_and, and_self, if_true]
  have hLJ : ∀ {a' l : Nat}, LJ M1 x c nk ka ns a' l → LJ M' x c nk ka ns a' l := by
    intro a' l h
    have i1 := F.1
    have i2 := F.2.1
    have r501 := F.r 501 (by decide)
    have r505 := F.r 505 (by decide)
    have r600 := F.r 600 (by decide)
    have r601 := F.r 601 (by decide)
    have q500 := F.i 500 (by decide)
    have q502 := F.i 502 (by decide)
    have q503 := F.i 503 (by decide)
    have q504 := F.i 504 (by decide)
    have q508 := F.i 508 (by decide)
    have q509 := F.i 509 (by decide)
    have q510 := F.i 510 (by decide)
    have q511 := F.i 511 (by decide)
    have q602 := F.i 602 (by decide)
    have qo := F.i 1029007 (by decide)
    have qn := F.i 1029015 (by decide)
    have l506 := F.l 506 (by decide)
    have l507 := F.l 507 (by decide)
    simp only [LJ, i1, i2, r501, r505, r600, r601, q500, q502, q503, q504, q508, q509, q510, q511, q602, qo, qn, l506, l507]
    exact h
  have la1n : la1 la nl a nl = a := if_pos rfl
  have la1o : ∀ {l : Nat}, l < nl → la1 la nl a l = la l := fun {l} h => if_neg (by omega)
  refine ⟨F, hcl', ⟨by omega, hcome, h5, fun l hl' => ?_⟩, ?_, ?_⟩
  · rw [LI_LJ, hall]
    by_cases e : l = nl
    · subst e
      rw [if_pos rfl, la1n]
      exact ⟨rfl, hLJ IJ⟩
    · rw [if_neg e, la1o (by omega)]
      have h1 := hl l (by omega)
      exact ⟨li_at h1, hLJ h1.2⟩
  · have g1 := rs_sc Sc
    have g3 := rs_open Sc
    have g4 := rs_cnt Sc
    refine ⟨rs_le Sc, by rw [F.i 205 (by decide)]; exact g1, rs_c Sc, by rw [F.i 3006025 (by decide)]; exact g3, by rw [F.i 206 (by decide)]; exact g4, ?_⟩
    rw [hthere, rs_there Sc, cnt_one h13, nI_succ]
  · refine ⟨fun q => if q = p then A ++ nl :: B else ch q, fun q hq => ?_, fun q hq => ?_⟩
    · dsimp only
      by_cases e : q = p
      · subst e
        rw [if_pos rfl]
        have Cq := C q hq
        refine ⟨?_, pw_ins (n := nl) (fun m hm => (hchm q hq m (by rw [hAB]; exact hm)).1) (by rw [← hAB]; exact ch_pw Cq) hI, fun l => ?_⟩
        · rw [hfs]
          have hlk := ch_lk Cq
          rw [hAB] at hlk
          have := Lk_ins (nx := fun b => mR M1 512 b 0) (nx' := fun b => mR M' 512 b 0) (la := la) (la' := la1 la nl a) (n := nl) (B := B) (A := A) (fun m hm => ⟨?_, la1o (hBl m hm)⟩) (by
            show mR M' 512 (la1 la nl a nl) 0 = hdo la B
            rw [la1n, hnx, if_neg, if_pos rfl]
            rintro ⟨m, hm, e⟩
            exact hne m (hAl m (hlast m hm)) e.symm) (fun m hm => la1o (hAl m hm)) (fun m hm => ?_) (fun m hm => by
            show mR M' 512 (la m) 0 = some (la1 la nl a nl)
            rw [la1n, hnx, if_pos ⟨m, hm, rfl⟩]) hlk
          · by_cases eA : A = []
            · rw [if_pos eA] at this
              rw [if_pos ⟨by rw [eA]; rfl, rfl⟩]
              rw [la1n] at this
              exact this
            · rw [if_neg eA] at this
              rw [if_neg (fun z => eA (List.getLast?_eq_none_iff.mp z.1))]
              exact this
          · show mR M' 512 (la m) 0 = mR M1 512 (la m) 0
            rw [hnx, if_neg, if_neg (hne m (hBl m hm))]
            rintro ⟨m', hm', e⟩
            have e2 := lainj (hBl m hm) (hAl m' (hlast m' hm')) e
            subst e2
            exact (List.nodup_append.mp hAB2).2.2 m (hlast m hm') m hm rfl
          · show mR M' 512 (la m) 0 = mR M1 512 (la m) 0
            have hmA := List.dropLast_subset _ hm
            rw [hnx, if_neg, if_neg (hne m (hAl m hmA))]
            rintro ⟨m', hm', e⟩
            have e2 := lainj (hAl m hmA) (hAl m' (hlast m' hm')) e
            subst e2
            have hA : A = A.dropLast ++ [m] := by
              have hne' : A ≠ [] := fun z => by rw [z] at hm'; cases hm'
              have := List.dropLast_concat_getLast hne'
              rw [List.getLast?_eq_some_getLast hne'] at hm'
              rw [← Option.some.inj hm']
              exact this.symm
            have hn := (List.nodup_append.mp hAB2).1
            rw [hA] at hn
            exact (List.nodup_append.mp hn).2.2 m hm m (List.mem_singleton.mpr rfl) rfl
        · have := ch_mem Cq l
          rw [hAB] at this
          constructor
          · intro h
            rcases List.mem_append.mp h with h | h
            · have := this.mp (List.mem_append_left _ h); exact ⟨by omega, this.2⟩
            · rcases List.mem_cons.mp h with rfl | h
              · exact ⟨by omega, hph⟩
              · have := this.mp (List.mem_append_right _ h); exact ⟨by omega, this.2⟩
          · rintro ⟨h1, h2⟩
            by_cases e : l = nl
            · rw [e]; exact List.mem_append_right _ List.mem_cons_self
            · rcases List.mem_append.mp (this.mpr ⟨by omega, h2⟩) with h | h
              · exact List.mem_append_left _ h
              · exact List.mem_append_right _ (List.mem_cons_of_mem _ h)
      · rw [if_neg e]
        have Cq := C q hq
        refine ⟨?_, ch_pw Cq, fun l => ?_⟩
        · rw [hfs, if_neg (fun z => e z.2)]
          refine Lk_congr (fun m hm => ⟨?_, la1o (hchm q hq m hm).1⟩) (ch_lk Cq)
          show mR M' 512 (la m) 0 = mR M1 512 (la m) 0
          rw [hnx, if_neg, if_neg (hne m (hchm q hq m hm).1)]
          rintro ⟨m', hm', e'⟩
          have hm2 := hchm p hp m' (by rw [hAB]; exact List.mem_append_left _ (hlast m' hm'))
          have e2 := lainj (hchm q hq m hm).1 hm2.1 e'
          rw [← e2, (hchm q hq m hm).2] at hm2
          exact e ((nI_eq (by omega) (by omega)).mp hm2.2)
        · rw [ch_mem Cq l]
          constructor
          · rintro ⟨h1, h2⟩; exact ⟨by omega, h2⟩
          · rintro ⟨h1, h2⟩
            refine ⟨?_, h2⟩
            by_cases e3 : l = nl
            · rw [e3, hph] at h2
              exact absurd ((nI_eq (by omega) (by omega)).mp h2).symm e
            · omega
    · dsimp only
      by_cases e : q = p
      · subst e
        rw [if_pos rfl, List.filter_append, List.filter_cons_of_neg (by simp), ← List.filter_append, ← hAB]
        exact List.filter_eq_self.mpr (fun m hm => by simpa using (hchm q hq m hm).1)
      · rw [if_neg e]
        exact List.filter_eq_self.mpr (fun m hm => by simpa using (hchm q hq m hm).1)
