/-! What the telling of a cue leaves -/
def Tfr (e : Nat) (c c' : Core) : Prop := (∀ e', e' < e → (∀ k, k ∈ [26, 28, 29, 30, 31, 32, 33, 34] → kI c' k e' = kI c k e') ∧ kL c' 27 e' = kL c 27 e' ∧ (e' + 1 < e → kL c' 35 e' = kL c 35 e')) ∧ ∀ q, q < 200 * e → kI c' 22 q = kI c 22 q
/-- a cue at depth e has been told -/
def Fin (b : Int32) (x e : Nat) (c : Core) (M : Mem) (c' : Core) (M' : Mem) : Prop := kI c' 25 0 = nI e ∧ Tfr e c c' ∧ Cfr x e M M' ∧ (∀ e1, e = e1 + 1 → kL c' 35 e1 = if (mI M' 104 ((x + 37 + e)) 0) = -4 then (mL M' 102 ((x + 37 + e)) 0) else kL c 35 e1) ∧ (¬ (e = 0 ∧ ¬ b = 0) → kI c' 39 0 = kI c 39 0 ∧ kI c' 46 0 = kI c 46 0 ∧ kL c' 47 0 = kL c 47 0) ∧ (e = 0 → ¬ b = 0 → kL c' 47 0 = (mL M' 102 ((x + 37 + e)) 0) ∧ (((mI M' 104 ((x + 37 + e)) 0) = -4 ∧ kI c' 39 0 = 0 ∧ kI c' 46 0 = kI c 46 0) ∨ (¬ (mI M' 104 ((x + 37 + e)) 0) = -4 ∧ kI c' 39 0 = 1 ∧ kI c' 46 0 = (mI M' 104 ((x + 37 + e)) 0))))
/-- tell, at depth e -/
def TellC (D : DD) (dd : Nat) (b : Int32) (e : Nat) : Prop := ∀ (M : Mem) (x : Nat) (c : Core) (nk : Nat) (ka dp : Nat → Nat) (ns nl : Nat) (la : Nat → Nat) (ch : Nat → List Nat) (S0 U0 cu nf lg wn kk Rv : Nat) (v : Int64), MS M x c nk ka dp ns nl la ch S0 U0 cu nf lg wn → kI c 25 0 = nI e → kk < nk → cu < 60 → nf + e ≤ 35 → lg + Rv ≤ 6000 * cu →
  Call D dd mi_X8_tell [.ref (x + 1), .ref (x + 37 + e), .ref (ka kk), .long v] M (fun M' r => r = none ∧ ∃ (c' : Core) (nl' : Nat) (la' : Nat → Nat) (ch' : Nat → List Nat) (cu' nf' lg' wn' : Nat), Gs b (bgC c e kk v (tsn c kk (ch 0))) c' ∧ MS M' x c' nk ka dp ns nl' la' ch' S0 U0 cu' nf' lg' wn' ∧ Evl c nl la ch c' nl' la' ch' ∧ Fin b x e c M c' M' ∧ nf' + e ≤ 35 ∧ lg' + Rv ≤ 6000 * cu' ∧ cu < cu')
theorem TnC_of {M : Mem} {x : Nat} {c : Core} {nk : Nat} {ka dp : Nat → Nat} {ns nl : Nat} {la : Nat → Nat} {ch : Nat → List Nat} {S0 U0 : Nat} (R : R0 M x c nk ka dp ns nl la ch S0 U0) {kk p : Nat} (hk : kk < nk) (hp : p < 3) : TnC c kk nk nl dp (dqc c dp) (nI p) (tsn c kk (ch p)) := by
  have K := r0_k R
  have L := r0_l R
  have C := r0_c R
  refine ⟨⟨rk_le K, fun j hj => ⟨ki_dp (rk_i K j hj), (ki_par (rk_i K j hj)).imp (fun z => ⟨z.1, z.2.1⟩) (fun ⟨i, a1, a2, a3, _⟩ => ⟨i, a1, a2, a3⟩)⟩⟩, hk, rl_c L, rl_le L, fun l hl => akc_of K L hk hl, (ch_pw (C p hp)).filter _, fun l => ?_⟩
  have hm := ch_mem (C p hp) l
  rw [tsn, List.mem_filter, hm]
  constructor
  · rintro ⟨⟨g1, g2⟩, g3⟩
    have g4 := of_decide_eq_true g3
    exact ⟨g1, g4.1, g2, g4.2⟩
  · rintro ⟨g1, g2, g3, g4⟩
    exact ⟨⟨g1, g3⟩, decide_eq_true ⟨g2, g4⟩⟩
