/-! listen -/
/-- after a seat is taken: the whole relation, for a memory M1 in which the new one was made -/
theorem Rel_come {M M1 M' : Mem} {x S0 U0 : Nat} {c c' : Core} {nk : Nat} {ka dp : Nat → Nat} {ns nl : Nat} {la : Nat → Nat} {ch : Nat → List Nat} {a : Nat} {ki kl kr : List Nat} (R : R0 M x c nk ka dp ns nl la ch S0 U0) (F1 : Fz ki kl kr M M1)
    (d1 : dj ki [100, 300, 301, 401, 901, 902, 2, 3] = true) (d2 : dj kl [302, 303, 2050007, 2000016] = true) (d3 : dj kr (5022007 :: 5000007 :: 7038029 :: 900 :: 4038071 :: shR.map (fun q => q.1)) = true)
    (hS : mS M1 ≤ mS M + 4) (hU : mU M1 ≤ mU M + 60) (PS : PostSeat M1 x c' nk ka dp ns nl la ch a M')
    (e1 : ∀ i, kI c' 0 i = kI c 0 i ∧ kI c' 1 i = kI c 1 i ∧ kL c' 2 i = kL c 2 i ∧ kI c' 19 i = kI c 19 i ∧ kI c' 20 i = kI c 20 i ∧ kL c' 21 i = kL c 21 i ∧ kI c' 52 i = kI c 52 i ∧ kI c' 53 i = kI c 53 i ∧ kL c' 54 i = kL c 54 i) : ∃ ch', R0 M' x c' nk ka dp ns (nl + 1) (la1 la nl a) ch' S0 U0 ∧ ∀ q, q < 3 → (ch' q).filter (fun l => decide (l < nl)) = ch q := by
  obtain ⟨F2, hcl, L', C', ch', RC', hch⟩ := PS
  have F2z := Fz.of F2
  have S := SH_fz F2z (by decide) (by decide) (SH_fz F1 (by
    refine List.all_eq_true.mpr (fun k hk => List.all_eq_true.mp d1 k (by simp only [List.mem_cons, List.not_mem_nil, or_false] at hk ⊢; exact Or.inl hk))) (by
    refine List.all_eq_true.mpr (fun k hk => List.all_eq_true.mp d3 k (List.mem_cons_of_mem _ (List.mem_cons_of_mem _ hk)))) (r0_sh R))
  have m1 : ∀ {l : List Nat}, (∀ k ∈ l, k ∈ [100, 300, 301, 401, 901, 902, 2, 3]) → dj ki l = true := fun {l} hl => List.all_eq_true.mpr (fun k hk => List.all_eq_true.mp d1 k (hl k hk))
  have m2 : ∀ {l : List Nat}, (∀ k ∈ l, k ∈ [302, 303, 2050007, 2000016]) → dj kl l = true := fun {l} hl => List.all_eq_true.mpr (fun k hk => List.all_eq_true.mp d2 k (hl k hk))
  have m3 : ∀ {l : List Nat}, (∀ k ∈ l, k ∈ [5022007, 5000007]) → dj kr l = true := fun {l} hl => List.all_eq_true.mpr (fun k hk => List.all_eq_true.mp d3 k (by
    have := hl k hk
    simp only [List.mem_cons, List.not_mem_nil, or_false] at this ⊢
    rcases this with rfl | rfl <;> simp))
  have K1 := RK_fz F1 (m1 (by decide)) (m2 (by decide)) (m3 (by decide)) (r0_k R)
  have K2 := RK_fz F2z (by decide) (by decide) (by decide) K1
  have K' : RK M' x c' nk ka dp := by
    refine ⟨rk_le K2, rk_sz K2, by rw [(e1 0).1]; exact rk_c K2, fun i hi => ?_⟩
    have I := rk_i K2 i hi
    refine ⟨ki_at I, ki_k I, ki_num I, ki_dep I, ki_dp I, by rw [(e1 i).2.2.1]; exact ki_met I, ?_⟩
    rw [(e1 i).2.1]; exact ki_par I
  have T' : RT M' x c' := by
    have T2 : RT M' x c := by rw [RT_fz F2z (by decide) (by decide), RT_fz F1 (m1 (by decide)) (m2 (by decide))]; exact r0_t R
    intro t ht
    have I := T2 t ht
    obtain ⟨n, n1, n2, n3, n4⟩ := ti_size I
    refine ⟨?_, n, n1, n2, by rw [(e1 t).2.2.2.2.1]; exact n3, fun i hi => by rw [(e1 (16 * t + i)).2.2.2.2.2.1]; exact n4 i hi⟩
    rw [(e1 t).2.2.2.1, (e1 t).2.2.2.2.1]; exact ti_lane I
  have A' : RA M' x c' nk ka := by
    have A2 : RA M' x c nk ka := by rw [RA_fz F2z (by decide) (by decide) (by decide), RA_fz F1 (m1 (by decide)) (m2 (by decide)) (m3 (by decide))]; exact r0_a R
    obtain ⟨na, nx, a1, a2, a3, a4, a5, a6⟩ := ra_all A2
    refine ⟨na, nx, a1, a2, a3, by rw [(e1 0).2.2.2.2.2.2.1]; exact a4, a5, fun j hj => ?_⟩
    rw [(e1 j).2.2.2.2.2.2.2.1, (e1 j).2.2.2.2.2.2.2.2]
    exact a6 j hj
  have zs := rz_s (r0_z R)
  have zu := rz_u (r0_z R)
  have q1 := F2.2.2.1
  have q2 := F2.2.2.2.1
  exact ⟨ch', ⟨⟨by omega, by omega, hcl⟩, S, K', L', RC', C', T', A'⟩, hch⟩
