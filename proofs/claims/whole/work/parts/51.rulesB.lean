/-! More small steps, told of the core -/
theorem no9 (o : Nat) (h : 9 ≤ o) (h2 : o < 100) {L : Int32} (hL : nI o = L) : ¬ inN L 9 := fun q => by
  rw [← hL] at q
  have := q.2
  rw [nI_toInt (by omega)] at this
  omega
theorem ds_10 {b n : Int32} {c : Core} {e nf nl : Nat} (h1 : (kI c 25 0) = nI (e + 1)) (h2 : e < 12) (h3 : (kI c 43 0) = nI nf) (h4 : nf < 64) (hl : (kI c 5 0) = nI nl) (hln : nl ≤ 200) (g : inN n nl ∧ ¬ (kI c 13 (n.toNatClampNeg)) = 0) : Dst b 10 n c (uI c 13 n.toNatClampNeg 0) := fun D d M h H hc => by
  subst hc
  refine d_more (d := d + 7) (nf := nf) H h1 h2 (no9 10 (by decide) (by decide) rfl) (by decide) (c_m10 (d := d + 5) H hl hln ?_)
  exact Eq.mpr (if_pos g) ⟨0, rfl, Or.inl ⟨rfl, rfl, cu_there M h _ _, Fr.rf.sI rfl⟩⟩
theorem ds_10f {b n : Int32} {c : Core} {e nf nl : Nat} (h1 : (kI c 25 0) = nI (e + 1)) (h2 : e < 12) (h3 : (kI c 43 0) = nI nf) (h4 : nf < 64) (hl : (kI c 5 0) = nI nl) (hln : nl ≤ 200) (g : ¬ (inN n nl ∧ ¬ (kI c 13 (n.toNatClampNeg)) = 0)) : Dst b 10 n c (flC c e nf 1) := fun D d M h H hc => by
  subst hc
  refine d_more (d := d + 7) (nf := nf) H h1 h2 (no9 10 (by decide) (by decide) rfl) (by decide) (c_m10 (d := d + 5) H hl hln ?_)
  exact Eq.mpr (if_neg g) ⟨1, rfl, Or.inr ⟨by decide, H, h1, h3, h4, rfl, core_fails M h e nf 1, fails_fr⟩⟩
theorem ds_12 {b n : Int32} {c : Core} {e nf nk lm : Nat} (h1 : (kI c 25 0) = nI (e + 1)) (h2 : e < 12) (h3 : (kI c 43 0) = nI nf) (h4 : nf < 64) (hk : (kI c 0 0) = nI nk) (hn : nk ≤ 40) (hl : (kI c 36 0) = nI lm) (hlm : lm ≤ 40) (g : inN n nk) (g2 : ¬ lm = 40) : Dst b 12 n c (uI (uL (uI c 37 lm n) 38 lm (kL c 35 (e))) 36 0 (nI (lm + 1))) := fun D d M h H hc => by
  subst hc
  refine d_more (d := d + 7) (nf := nf) H h1 h2 (no9 12 (by decide) (by decide) rfl) (by decide) (c_m12 (d := d + 5) H hk hn hl hlm ?_)
  exact Eq.mpr (if_pos g) (Eq.mpr (if_neg g2) ⟨0, rfl, Or.inl ⟨rfl, rfl, (by rw [cu_laterMany, cu_laterValue, cu_laterKind]; rfl), ((Fr.rf.sI rfl).sL rfl).sI rfl⟩⟩)
theorem ds_12r {b n : Int32} {c : Core} {e nf nk lm : Nat} (h1 : (kI c 25 0) = nI (e + 1)) (h2 : e < 12) (h3 : (kI c 43 0) = nI nf) (h4 : nf < 64) (hk : (kI c 0 0) = nI nk) (hn : nk ≤ 40) (hl : (kI c 36 0) = nI lm) (hlm : lm ≤ 40) (g : inN n nk) (g2 : lm = 40) : Dst b 12 n c (flC c e nf 6) := fun D d M h H hc => by
  subst hc
  refine d_more (d := d + 7) (nf := nf) H h1 h2 (no9 12 (by decide) (by decide) rfl) (by decide) (c_m12 (d := d + 5) H hk hn hl hlm ?_)
  exact Eq.mpr (if_pos g) (Eq.mpr (if_pos g2) ⟨6, rfl, Or.inr ⟨by decide, H, h1, h3, h4, rfl, core_fails M h e nf 6, fails_fr⟩⟩)
theorem ds_12f {b n : Int32} {c : Core} {e nf nk lm : Nat} (h1 : (kI c 25 0) = nI (e + 1)) (h2 : e < 12) (h3 : (kI c 43 0) = nI nf) (h4 : nf < 64) (hk : (kI c 0 0) = nI nk) (hn : nk ≤ 40) (hl : (kI c 36 0) = nI lm) (hlm : lm ≤ 40) (g : ¬ inN n nk) : Dst b 12 n c (flC c e nf 1) := fun D d M h H hc => by
  subst hc
  refine d_more (d := d + 7) (nf := nf) H h1 h2 (no9 12 (by decide) (by decide) rfl) (by decide) (c_m12 (d := d + 5) H hk hn hl hlm ?_)
  exact Eq.mpr (if_neg g) ⟨1, rfl, Or.inr ⟨by decide, H, h1, h3, h4, rfl, core_fails M h e nf 1, fails_fr⟩⟩
def shC (c : Core) (nl sv : Nat) : Core := wcI (uI c 4 sv 0) 13 (gone (kI c 13) (kI c 9) (nI sv) nl)
theorem core_shut (M : Mem) (h nl sv : Nat) : core (s_shut M h nl sv) h = shC (core M h) nl sv := by
  unfold s_shut shC
  rw [cw_there, cu_isOpen]; rfl
theorem ds_13 {b n : Int32} {c : Core} {e nf nl ns : Nat} (h1 : (kI c 25 0) = nI (e + 1)) (h2 : e < 12) (h3 : (kI c 43 0) = nI nf) (h4 : nf < 64) (hl : (kI c 5 0) = nI nl) (hln : nl ≤ 200) (hs : (kI c 3 0) = nI ns) (hns : ns ≤ 30) (g : inN n ns ∧ ¬ (kI c 4 (n.toNatClampNeg)) = 0) : Dst b 13 n c (shC c nl n.toNatClampNeg) := fun D d M h H hc => by
  subst hc
  refine d_more (d := d + 7) (nf := nf) H h1 h2 (no9 13 (by decide) (by decide) rfl) (by decide) (c_m13 (d := d + 5) H hl hln hs hns ?_)
  exact Eq.mpr (if_pos g) ⟨0, rfl, Or.inl ⟨rfl, rfl, core_shut M h nl _, (Fr.rf.sI rfl).wI rfl⟩⟩
theorem ds_13f {b n : Int32} {c : Core} {e nf nl ns : Nat} (h1 : (kI c 25 0) = nI (e + 1)) (h2 : e < 12) (h3 : (kI c 43 0) = nI nf) (h4 : nf < 64) (hl : (kI c 5 0) = nI nl) (hln : nl ≤ 200) (hs : (kI c 3 0) = nI ns) (hns : ns ≤ 30) (g : ¬ (inN n ns ∧ ¬ (kI c 4 (n.toNatClampNeg)) = 0)) : Dst b 13 n c (flC c e nf 1) := fun D d M h H hc => by
  subst hc
  refine d_more (d := d + 7) (nf := nf) H h1 h2 (no9 13 (by decide) (by decide) rfl) (by decide) (c_m13 (d := d + 5) H hl hln hs hns ?_)
  exact Eq.mpr (if_neg g) ⟨1, rfl, Or.inr ⟨by decide, H, h1, h3, h4, rfl, core_fails M h e nf 1, fails_fr⟩⟩
def TnC (c : Core) (kk nk nl : Nat) (dp dq : Nat → Nat) (ph : Int32) (ts : List Nat) : Prop := (nk ≤ 40 ∧ ∀ j, j < nk → dp j ≤ 10 ∧ (((kI c 1 (j)) = -4 ∧ dp j = 0) ∨ ∃ i, i < j ∧ (kI c 1 (j)) = nI i ∧ dp j = dp i + 1)) ∧ kk < nk ∧ (kI c 5 0) = nI nl ∧ nl ≤ 200 ∧ (∀ l, l < nl → (akc c kk l = -4 ∨ (dq l ≤ dp kk ∧ akc c kk l = nI (dp kk - dq l)))) ∧ ts.Pairwise (ah (fun l => (kI c 8 (l))) dq) ∧ ∀ l, l ∈ ts ↔ l < nl ∧ ¬ (kI c 13 (l)) = 0 ∧ (kI c 7 (l)) = ph ∧ ¬ akc c kk l = -4
theorem TnC_M {M : Mem} {h kk nk nl : Nat} {dp dq : Nat → Nat} {ph : Int32} {ts : List Nat} (H : RM M h) (hT : TnC (core M h) kk nk nl dp dq ph ts) : Tns M h kk nk nl dp dq ph ts := ⟨H, hT⟩
theorem TnC_len {c : Core} {kk nk nl : Nat} {dp dq : Nat → Nat} {ph : Int32} {ts : List Nat} (hT : TnC c kk nk nl dp dq ph ts) : ts.length ≤ 200 := by
  have := nodup_lt_len (Z := ts) (n := nl) (hT.2.2.2.2.2.1.imp (fun hab e => by rw [e] at hab; exact ah_ir hab)) (fun m hm => ((hT.2.2.2.2.2.2 m).mp hm).1)
  have := hT.2.2.2.1
  omega
theorem ds_11f {b n f : Int32} {c : Core} {e nf nk cu : Nat} (h1 : (kI c 25 0) = nI (e + 1)) (h2 : e < 12) (h3 : (kI c 43 0) = nI nf) (h4 : nf < 64) (hk : (kI c 0 0) = nI nk) (hn : nk ≤ 40) (hc60 : (kI c 40 0) = nI cu) (hcu : cu ≤ 60) (hf : (¬ inN n nk ∧ f = 1) ∨ (inN n nk ∧ e + 1 = 12 ∧ f = 7) ∨ (inN n nk ∧ ¬ e + 1 = 12 ∧ cu = 60 ∧ f = 9)) : Dst b 11 n c (flC c e nf f) := fun D d M h H hc => by
  subst hc
  refine d_more (d := d + 7) (nf := nf) H h1 h2 (no9 11 (by decide) (by decide) rfl) (by decide) (c_m11 (d := d + 5) (dd := e + 1) H hk hn h1 (by omega) hc60 hcu ?_)
  rcases hf with ⟨g1, rfl⟩ | ⟨g1, g2, rfl⟩ | ⟨g1, g2, g3, rfl⟩
  · rw [if_neg g1]; exact ⟨1, rfl, Or.inr ⟨by decide, H, h1, h3, h4, rfl, core_fails M h e nf 1, fails_fr⟩⟩
  · rw [if_pos g1, if_pos g2]; exact ⟨7, rfl, Or.inr ⟨by decide, H, h1, h3, h4, rfl, core_fails M h e nf 7, fails_fr⟩⟩
  · rw [if_pos g1, if_neg g2, if_pos g3]; exact ⟨9, rfl, Or.inr ⟨by decide, H, h1, h3, h4, rfl, core_fails M h e nf 9, fails_fr⟩⟩
theorem ds_11 {b : Int32} {c : Core} {e nk nl cu kk : Nat} {dp dq : Nat → Nat} {ts : List Nat} (h1 : (kI c 25 0) = nI (e + 1)) (h2 : e < 12) (hk : (kI c 0 0) = nI nk) (hn : nk ≤ 40) (hc60 : (kI c 40 0) = nI cu) (hcu : cu < 60) (he : e + 1 < 12) (hT : TnC c kk nk nl dp dq 0 ts) : Dst b 11 (nI kk) c (bgC c (e + 1) kk (kL c 35 (e)) ts) := fun D d M h H hc => by
  subst hc
  refine d_more (d := d + 7) (nf := 0) H h1 h2 (no9 11 (by decide) (by decide) rfl) (by decide) (c_m11 (d := d + 5) (dd := e + 1) H hk hn h1 (by omega) hc60 (by omega) ?_)
  rw [if_pos (nI_inN hT.2.1 (by omega)), if_neg (by omega), if_neg (by omega)]
  exact c_begin (d := d + 2) H h1 he (TnC_M H hT) (TnC_len hT) (fun M' hc' hF => ⟨rfl, ⟨0, rfl, Or.inl ⟨rfl, rfl, hc', hF⟩⟩⟩)
def lkC (c : Core) (l j : Nat) : Core := wcI (wcI (uI (uI (uL (uL (lstC c l (kI c 6 (j)) (kI c 7 (j)) (kI c 8 (j)) (kI c 9 (j))) 10 l (kL c 10 (j))) 11 l (kL c 11 (j))) 12 l (kI c 12 (j))) 14 l (kI c 14 (j))) 15 (cpy10 (kI c 15) l j 10)) 16 (cpy10 (kI c 16) l j 10)
theorem core_like (M : Mem) (h l j : Nat) : core (s_like M h l j) h = lkC (core M h) l j := by
  unfold s_like s_like0 lkC
  rw [cw_numbers, cw_ops, cu_stepMany, cu_isOnce, cu_highOf, cu_lowOf, core_listen]; rfl
theorem like_fr {M : Mem} {h l j : Nat} : Fr M (s_like M h l j) := by
  unfold s_like s_like0
  exact (((((listen_fr.sL rfl).sL rfl).sI rfl).sI rfl).wI rfl).wI rfl
theorem ds_9 {b n : Int32} {c c' : Core} {e nf nk ns nl : Nat} (h1 : (kI c 25 0) = nI (e + 1)) (h2 : e < 12) (h3 : (kI c 43 0) = nI nf) (h4 : nf < 64) (hl : (kI c 5 0) = nI nl) (hln : nl ≤ 200) (hk : (kI c 0 0) = nI nk) (hn : nk ≤ 40) (hs : (kI c 3 0) = nI ns) (hns : ns ≤ 30)
    (hw : ∀ j, j < nl → inN (kI c 6 (j)) nk ∧ inN (kI c 7 (j)) 3 ∧ ((kI c 9 (j)) = -4 ∨ inN (kI c 9 (j)) ns) ∧ ((kI c 12 (j)) = 0 ∨ (kI c 12 (j)) = 1))
    (q0 : ¬ inN n nl → c' = flC c e nf 1) (q1 : ∀ j, j < nl → n = nI j → ¬ (kI c 9 (j)) = -4 → (kI c 4 (((kI c 9 (j))).toNatClampNeg)) = 0 → c' = flC c e nf 1)
    (q2 : ∀ j, j < nl → n = nI j → ((kI c 9 (j)) = -4 ∨ ¬ (kI c 4 (((kI c 9 (j))).toNatClampNeg)) = 0) → (nl = 200 → c' = flC c e nf 6) ∧ (nl < 200 → c' = lkC c nl j)) : Dst b 9 n c c' := fun D d M h H hc => by
  subst hc
  refine d_more (d := d + 7) (nf := nf) H h1 h2 (no9 9 (by decide) (by decide) rfl) (by decide) (c_m9 (d := d + 4) H hk hn hs hns hl hln hw (fun g => ?_) (fun j g1 g2 g3 g4 => ?_) (fun j g1 g2 g3 => ⟨fun g4 => ?_, fun g4 => ?_⟩))
  · rw [q0 g]; exact ⟨1, rfl, Or.inr ⟨by decide, H, h1, h3, h4, rfl, core_fails M h e nf 1, fails_fr⟩⟩
  · rw [q1 j g1 g2 g3 g4]; exact ⟨1, rfl, Or.inr ⟨by decide, H, h1, h3, h4, rfl, core_fails M h e nf 1, fails_fr⟩⟩
  · rw [(q2 j g1 g2 g3).1 g4]; exact ⟨6, rfl, Or.inr ⟨by decide, H, h1, h3, h4, rfl, core_fails M h e nf 6, fails_fr⟩⟩
  · rw [(q2 j g1 g2 g3).2 g4]; exact ⟨0, rfl, Or.inl ⟨rfl, rfl, core_like M h nl j, like_fr⟩⟩
theorem ds_14 {b n : Int32} {c : Core} {e nf l t sz : Nat} (h1 : (kI c 25 0) = nI (e + 1)) (h2 : e < 12) (h3 : (kI c 43 0) = nI nf) (h4 : nf < 64) (hl : (kI c 33 (e)) = nI l) (hl2 : l < 200) (ht : (kI c 18 (l)) = nI t) (ht2 : t < 8) (hsz : sz ≤ 16) (hs : (kI c 20 (t)) = nI sz) (g1 : ¬ (kI c 19 (t)) = -4) (g2 : (kI c 19 (t)) = 1) (g3 : inN n sz) : Dst b 14 n c (uL c 35 e (kL c 21 (16 * t + n.toNatClampNeg))) := fun D d M h H hc => by
  subst hc
  refine d_tray (d := d + 7) (nf := nf) H h1 h2 (no9 14 (by decide) (by decide) rfl) (by decide) (c_t14 (d := d + 5) H h1 h2 hl hl2 ht ht2 hsz hs ?_)
  exact Eq.mpr (if_neg g1) (Eq.mpr (if_pos g2) (Eq.mpr (if_pos g3) ⟨0, rfl, Or.inl ⟨rfl, rfl, cu_pValue M h e _, Fr.rf.sL rfl⟩⟩))
theorem ds_14n {b n : Int32} {c : Core} {e nf l t sz : Nat} (h1 : (kI c 25 0) = nI (e + 1)) (h2 : e < 12) (h3 : (kI c 43 0) = nI nf) (h4 : nf < 64) (hl : (kI c 33 (e)) = nI l) (hl2 : l < 200) (ht : (kI c 18 (l)) = nI t) (ht2 : t < 8) (hsz : sz ≤ 16) (hs : (kI c 20 (t)) = nI sz) (g1 : (kI c 19 (t)) = -4) : Dst b 14 n c (flC c e nf 1) := fun D d M h H hc => by
  subst hc
  refine d_tray (d := d + 7) (nf := nf) H h1 h2 (no9 14 (by decide) (by decide) rfl) (by decide) (c_t14 (d := d + 5) H h1 h2 hl hl2 ht ht2 hsz hs ?_)
  exact Eq.mpr (if_pos g1) ⟨1, rfl, Or.inr ⟨by decide, H, h1, h3, h4, rfl, core_fails M h e nf 1, fails_fr⟩⟩
theorem ds_14i {b n : Int32} {c : Core} {e nf l t sz : Nat} (h1 : (kI c 25 0) = nI (e + 1)) (h2 : e < 12) (h3 : (kI c 43 0) = nI nf) (h4 : nf < 64) (hl : (kI c 33 (e)) = nI l) (hl2 : l < 200) (ht : (kI c 18 (l)) = nI t) (ht2 : t < 8) (hsz : sz ≤ 16) (hs : (kI c 20 (t)) = nI sz) (g1 : ¬ (kI c 19 (t)) = -4) (g2 : (kI c 19 (t)) = 1) (g3 : ¬ inN n sz) : Dst b 14 n c (flC c e nf 2) := fun D d M h H hc => by
  subst hc
  refine d_tray (d := d + 7) (nf := nf) H h1 h2 (no9 14 (by decide) (by decide) rfl) (by decide) (c_t14 (d := d + 5) H h1 h2 hl hl2 ht ht2 hsz hs ?_)
  exact Eq.mpr (if_neg g1) (Eq.mpr (if_pos g2) (Eq.mpr (if_neg g3) ⟨2, rfl, Or.inr ⟨by decide, H, h1, h3, h4, rfl, core_fails M h e nf 2, fails_fr⟩⟩))
theorem ds_14c {b n : Int32} {c : Core} {e nf l t sz : Nat} (h1 : (kI c 25 0) = nI (e + 1)) (h2 : e < 12) (h3 : (kI c 43 0) = nI nf) (h4 : nf < 64) (hl : (kI c 33 (e)) = nI l) (hl2 : l < 200) (ht : (kI c 18 (l)) = nI t) (ht2 : t < 8) (hsz : sz ≤ 16) (hs : (kI c 20 (t)) = nI sz) (g1 : ¬ (kI c 19 (t)) = -4) (g2 : ¬ (kI c 19 (t)) = 1) : Dst b 14 n c (flC c e nf 3) := fun D d M h H hc => by
  subst hc
  refine d_tray (d := d + 7) (nf := nf) H h1 h2 (no9 14 (by decide) (by decide) rfl) (by decide) (c_t14 (d := d + 5) H h1 h2 hl hl2 ht ht2 hsz hs ?_)
  exact Eq.mpr (if_neg g1) (Eq.mpr (if_neg g2) ⟨3, rfl, Or.inr ⟨by decide, H, h1, h3, h4, rfl, core_fails M h e nf 3, fails_fr⟩⟩)
theorem ds_15 {b n : Int32} {c : Core} {e nf l t sz : Nat} (h1 : (kI c 25 0) = nI (e + 1)) (h2 : e < 12) (h3 : (kI c 43 0) = nI nf) (h4 : nf < 64) (hl : (kI c 33 (e)) = nI l) (hl2 : l < 200) (ht : (kI c 18 (l)) = nI t) (ht2 : t < 8) (hsz : sz ≤ 16) (hs : (kI c 20 (t)) = nI sz) (g1 : ¬ (kI c 19 (t)) = -4) (g2 : (kI c 19 (t)) = 1) (g3 : inN n sz) : Dst b 15 n c (uL c 21 (16 * t + n.toNatClampNeg) ((kL c 35 (e))).toInt32.toInt64) := fun D d M h H hc => by
  subst hc
  refine d_tray (d := d + 7) (nf := nf) H h1 h2 (no9 15 (by decide) (by decide) rfl) (by decide) (c_t15 (d := d + 5) H h1 h2 hl hl2 ht ht2 hsz hs ?_)
  exact Eq.mpr (if_neg g1) (Eq.mpr (if_pos g2) (Eq.mpr (if_pos g3) ⟨0, rfl, Or.inl ⟨rfl, rfl, cu_cell M h _ _, Fr.rf.sL rfl⟩⟩))
theorem ds_15n {b n : Int32} {c : Core} {e nf l t sz : Nat} (h1 : (kI c 25 0) = nI (e + 1)) (h2 : e < 12) (h3 : (kI c 43 0) = nI nf) (h4 : nf < 64) (hl : (kI c 33 (e)) = nI l) (hl2 : l < 200) (ht : (kI c 18 (l)) = nI t) (ht2 : t < 8) (hsz : sz ≤ 16) (hs : (kI c 20 (t)) = nI sz) (g1 : (kI c 19 (t)) = -4) : Dst b 15 n c (flC c e nf 1) := fun D d M h H hc => by
  subst hc
  refine d_tray (d := d + 7) (nf := nf) H h1 h2 (no9 15 (by decide) (by decide) rfl) (by decide) (c_t15 (d := d + 5) H h1 h2 hl hl2 ht ht2 hsz hs ?_)
  exact Eq.mpr (if_pos g1) ⟨1, rfl, Or.inr ⟨by decide, H, h1, h3, h4, rfl, core_fails M h e nf 1, fails_fr⟩⟩
theorem ds_15i {b n : Int32} {c : Core} {e nf l t sz : Nat} (h1 : (kI c 25 0) = nI (e + 1)) (h2 : e < 12) (h3 : (kI c 43 0) = nI nf) (h4 : nf < 64) (hl : (kI c 33 (e)) = nI l) (hl2 : l < 200) (ht : (kI c 18 (l)) = nI t) (ht2 : t < 8) (hsz : sz ≤ 16) (hs : (kI c 20 (t)) = nI sz) (g1 : ¬ (kI c 19 (t)) = -4) (g2 : (kI c 19 (t)) = 1) (g3 : ¬ inN n sz) : Dst b 15 n c (flC c e nf 2) := fun D d M h H hc => by
  subst hc
  refine d_tray (d := d + 7) (nf := nf) H h1 h2 (no9 15 (by decide) (by decide) rfl) (by decide) (c_t15 (d := d + 5) H h1 h2 hl hl2 ht ht2 hsz hs ?_)
  exact Eq.mpr (if_neg g1) (Eq.mpr (if_pos g2) (Eq.mpr (if_neg g3) ⟨2, rfl, Or.inr ⟨by decide, H, h1, h3, h4, rfl, core_fails M h e nf 2, fails_fr⟩⟩))
theorem ds_15c {b n : Int32} {c : Core} {e nf l t sz : Nat} (h1 : (kI c 25 0) = nI (e + 1)) (h2 : e < 12) (h3 : (kI c 43 0) = nI nf) (h4 : nf < 64) (hl : (kI c 33 (e)) = nI l) (hl2 : l < 200) (ht : (kI c 18 (l)) = nI t) (ht2 : t < 8) (hsz : sz ≤ 16) (hs : (kI c 20 (t)) = nI sz) (g1 : ¬ (kI c 19 (t)) = -4) (g2 : ¬ (kI c 19 (t)) = 1) : Dst b 15 n c (flC c e nf 3) := fun D d M h H hc => by
  subst hc
  refine d_tray (d := d + 7) (nf := nf) H h1 h2 (no9 15 (by decide) (by decide) rfl) (by decide) (c_t15 (d := d + 5) H h1 h2 hl hl2 ht ht2 hsz hs ?_)
  exact Eq.mpr (if_neg g1) (Eq.mpr (if_neg g2) ⟨3, rfl, Or.inr ⟨by decide, H, h1, h3, h4, rfl, core_fails M h e nf 3, fails_fr⟩⟩)
theorem ds_16 {b n : Int32} {c : Core} {e nf l t : Nat} (h1 : (kI c 25 0) = nI (e + 1)) (h2 : e < 12) (h3 : (kI c 43 0) = nI nf) (h4 : nf < 64) (hl : (kI c 33 (e)) = nI l) (hl2 : l < 200) (ht : (kI c 18 (l)) = nI t) (ht2 : t < 8) (g : inN n 8) : Dst b 16 n c (uI c 18 l n) := fun D d M h H hc => by
  subst hc
  refine d_tray (d := d + 7) (nf := nf) H h1 h2 (no9 16 (by decide) (by decide) rfl) (by decide) (c_t16 (d := d + 6) H h1 h2 hl hl2 ht ht2 ?_)
  exact Eq.mpr (if_pos g) ⟨0, rfl, Or.inl ⟨rfl, rfl, cu_trayOf M h l n, Fr.rf.sI rfl⟩⟩
theorem ds_16f {b n : Int32} {c : Core} {e nf l t : Nat} (h1 : (kI c 25 0) = nI (e + 1)) (h2 : e < 12) (h3 : (kI c 43 0) = nI nf) (h4 : nf < 64) (hl : (kI c 33 (e)) = nI l) (hl2 : l < 200) (ht : (kI c 18 (l)) = nI t) (ht2 : t < 8) (g : ¬ inN n 8) : Dst b 16 n c (flC c e nf 2) := fun D d M h H hc => by
  subst hc
  refine d_tray (d := d + 7) (nf := nf) H h1 h2 (no9 16 (by decide) (by decide) rfl) (by decide) (c_t16 (d := d + 6) H h1 h2 hl hl2 ht ht2 ?_)
  exact Eq.mpr (if_neg g) ⟨2, rfl, Or.inr ⟨by decide, H, h1, h3, h4, rfl, core_fails M h e nf 2, fails_fr⟩⟩
def lyC (c : Core) (t : Nat) (n : Int32) : Core := wcL (uI (uI c 19 t 1) 20 t n) 21 (clr (kL c 21) t 16)
theorem core_lay1 (M : Mem) (h t : Nat) (n : Int32) : core (s_lay1 M h t 1 n) h = lyC (core M h) t n := by
  unfold s_lay1 lyC
  rw [cw_cell, cu_sizes, cu_lanes]; rfl
theorem ds_17 {b n : Int32} {c : Core} {e nf l t : Nat} (h1 : (kI c 25 0) = nI (e + 1)) (h2 : e < 12) (h3 : (kI c 43 0) = nI nf) (h4 : nf < 64) (hl : (kI c 33 (e)) = nI l) (hl2 : l < 200) (ht : (kI c 18 (l)) = nI t) (ht2 : t < 8) (g : ¬ n < 0) (g2 : ¬ 16 < n) : Dst b 17 n c (lyC c t n) := fun D d M h H hc => by
  subst hc
  refine d_tray (d := d + 7) (nf := nf) H h1 h2 (no9 17 (by decide) (by decide) rfl) (by decide) (c_t17 (d := d + 6) H h1 h2 hl hl2 ht ht2 ?_)
  exact Eq.mpr (if_neg g) (Eq.mpr (if_neg g2) ⟨0, rfl, Or.inl ⟨rfl, rfl, core_lay1 M h t n, ((Fr.rf.sI rfl).sI rfl).wL rfl⟩⟩)
theorem ds_17n {b n : Int32} {c : Core} {e nf l t : Nat} (h1 : (kI c 25 0) = nI (e + 1)) (h2 : e < 12) (h3 : (kI c 43 0) = nI nf) (h4 : nf < 64) (hl : (kI c 33 (e)) = nI l) (hl2 : l < 200) (ht : (kI c 18 (l)) = nI t) (ht2 : t < 8) (g : n < 0) : Dst b 17 n c (flC c e nf 4) := fun D d M h H hc => by
  subst hc
  refine d_tray (d := d + 7) (nf := nf) H h1 h2 (no9 17 (by decide) (by decide) rfl) (by decide) (c_t17 (d := d + 6) H h1 h2 hl hl2 ht ht2 ?_)
  exact Eq.mpr (if_pos g) ⟨4, rfl, Or.inr ⟨by decide, H, h1, h3, h4, rfl, core_fails M h e nf 4, fails_fr⟩⟩
theorem ds_17r {b n : Int32} {c : Core} {e nf l t : Nat} (h1 : (kI c 25 0) = nI (e + 1)) (h2 : e < 12) (h3 : (kI c 43 0) = nI nf) (h4 : nf < 64) (hl : (kI c 33 (e)) = nI l) (hl2 : l < 200) (ht : (kI c 18 (l)) = nI t) (ht2 : t < 8) (g : ¬ n < 0) (g2 : 16 < n) : Dst b 17 n c (flC c e nf 6) := fun D d M h H hc => by
  subst hc
  refine d_tray (d := d + 7) (nf := nf) H h1 h2 (no9 17 (by decide) (by decide) rfl) (by decide) (c_t17 (d := d + 6) H h1 h2 hl hl2 ht ht2 ?_)
  exact Eq.mpr (if_neg g) (Eq.mpr (if_pos g2) ⟨6, rfl, Or.inr ⟨by decide, H, h1, h3, h4, rfl, core_fails M h e nf 6, fails_fr⟩⟩)
theorem gs_progEnd {b : Int32} {c : Core} {e l s sm : Nat} (h1 : (kI c 25 0) = nI (e + 1)) (h2 : e < 12) (hu : (kI c 32 (e)) = 1) (hl : (kI c 33 (e)) = nI l) (hl2 : l < 200) (hp : (kI c 34 (e)) = nI s) (hs : (kI c 14 (l)) = nI sm) (hp2 : s < 1000) (hsp : sm ≤ s) : Gst b c (uI (uL c 27 e (kL c 35 (e))) 32 e 0) := by
  refine ⟨⟨e, h1, h2⟩, fun D d M h H hc => ?_⟩
  subst hc
  exact g_progEnd (d := d + 9) H h1 h2 hu hl hl2 hp hs hp2 hsp ⟨rfl, by rw [cu_isUnder, cu_cValue]; rfl, (Fr.rf.sL rfl).sI rfl⟩
theorem gs_pass {b : Int32} {c : Core} {e l nx mn nf : Nat} (h1 : (kI c 25 0) = nI (e + 1)) (h2 : e < 12) (hu : (kI c 32 (e)) = 0) (hx : (kI c 30 (e)) = nI nx) (hm : (kI c 29 (e)) = nI mn) (hxm : nx < mn) (hmn : mn ≤ 200) (ht : (kI c 22 (200 * e + nx)) = nI l) (hl2 : l < 200) (hf : (kI c 43 0) = nI nf) (hnf : nf < 64) (hcc : ¬ (nf < 24 ∧ ¬ (kI c 13 (l)) = 0 ∧ ¬ (kL c 27 (e)) < (kL c 10 (l)) ∧ ¬ (kL c 11 (l)) < (kL c 27 (e)))) : Gst b c (uI c 30 e (nI (nx + 1))) := by
  refine ⟨⟨e, h1, h2⟩, fun D d M h H hc => ?_⟩
  subst hc
  exact g_pass (d := d + 9) H h1 h2 hu hx hm hxm hmn ht hl2 hf hnf hcc ⟨rfl, cu_cNext M h e _, Fr.rf.sI rfl⟩
def tlC (c : Core) (e l nx : Nat) : Core := uL (uI (uI (uI (uI (uI (uI (uI c 30 e (nI (nx + 1))) 13 l (if (kI c 12 (l)) = 0 then 1 else 0)) 17 l ((kI c 17 (l)) + 1)) 41 0 ((kI c 41 0) + 1)) 32 e 1) 33 e (nI l)) 34 e 0) 35 e (kL c 27 (e))
theorem gs_tell {b : Int32} {c : Core} {e l nx mn nf : Nat} (h1 : (kI c 25 0) = nI (e + 1)) (h2 : e < 12) (hu : (kI c 32 (e)) = 0) (hx : (kI c 30 (e)) = nI nx) (hm : (kI c 29 (e)) = nI mn) (hxm : nx < mn) (hmn : mn ≤ 200) (ht : (kI c 22 (200 * e + nx)) = nI l) (hl2 : l < 200) (hf : (kI c 43 0) = nI nf) (hnf : nf < 24) (c2 : ¬ (kI c 13 (l)) = 0) (c3 : ¬ (kL c 27 (e)) < (kL c 10 (l))) (c4 : ¬ (kL c 11 (l)) < (kL c 27 (e))) : Gst b c (tlC c e l nx) := by
  refine ⟨⟨e, h1, h2⟩, fun D d M h H hc => ?_⟩
  subst hc
  refine g_tell (d := d + 9) H h1 h2 hu hx hm hxm hmn ht hl2 hf hnf c2 c3 c4 ⟨rfl, ?_, ?_⟩
  · unfold s_tell tlC
    rw [cu_pValue, cu_pStep, cu_pListener, cu_isUnder, cu_tolds, cu_toldOften, cu_there, cu_cNext]; rfl
  · unfold s_tell
    exact (((((((Fr.rf.sI rfl).sI rfl).sI rfl).sI rfl).sI rfl).sI rfl).sI rfl).sL rfl
theorem gs_end {b : Int32} {c : Core} {e nx mn : Nat} (h1 : (kI c 25 0) = nI (e + 1)) (h2 : e < 12) (hu : (kI c 32 (e)) = 0) (hx : (kI c 30 (e)) = nI nx) (hm : (kI c 29 (e)) = nI mn) (hxm : mn ≤ nx) (hnx : nx < 1000) (hp : (kI c 28 (e)) = 2) (hv : (kI c 31 (e)) = 0 ∨ (kI c 31 (e)) = 1) : Gst b c (enC c e b) := by
  refine ⟨⟨e, h1, h2⟩, fun D d M h H hc => ?_⟩
  subst hc
  exact g_end (d := d + 8) H h1 h2 hu hx hm hxm hnx hp hv ⟨rfl, core_ends M h e b, ends_fr⟩
theorem gs_after {b : Int32} {c : Core} {e nx mn kk nk nl : Nat} {dp dq : Nat → Nat} {ts : List Nat} (h1 : (kI c 25 0) = nI (e + 1)) (h2 : e < 12) (hu : (kI c 32 (e)) = 0) (hx : (kI c 30 (e)) = nI nx) (hm : (kI c 29 (e)) = nI mn) (hxm : mn ≤ nx) (hnx : nx < 1000) (hp : (kI c 28 (e)) = 1) (hk : (kI c 26 (e)) = nI kk) (hT : TnC c kk nk nl dp dq 2 ts) : Gst b c (bpC c e 2 ts) := by
  refine ⟨⟨e, h1, h2⟩, fun D d M h H hc => ?_⟩
  subst hc
  exact g_after (d := d + 9) H h1 h2 hu hx hm hxm hnx hp (c_beginPhase (d := d + 5) H h1 h2 hk (TnC_M H hT) (TnC_len hT) (fun M' hc' hF => ⟨rfl, rfl, hc', hF⟩))
def acC (c : Core) (e kk na : Nat) : Core :=
  if na = 50 then uI (uL (uI (uI (wcL (wcI (uL c 2 kk ((kL c 2 (kk)) + (kL c 27 (e)))) 53 (shf (kI c 53) 50)) 54 (shf (kL c 54) 50)) 52 0 (nI 49)) 53 49 (nI kk)) 54 49 (kL c 27 (e))) 52 0 (nI 50)
  else uI (uL (uI (uL c 2 kk ((kL c 2 (kk)) + (kL c 27 (e)))) 53 na (nI kk)) 54 na (kL c 27 (e))) 52 0 (nI (na + 1))
theorem core_act (M : Mem) (h e kk na : Nat) : core (s_act M h e kk na) h = acC (core M h) e kk na := by
  unfold s_act acC s_act0
  by_cases c1 : na = 50
  · rw [if_pos c1, if_pos c1, cu_acts, cu_actValue, cu_actKind, cu_acts, cw_actValue, cw_actKind, cu_meters]; rfl
  · rw [if_neg c1, if_neg c1, cu_acts, cu_actValue, cu_actKind, cu_meters]; rfl
theorem act_fr {M : Mem} {h e kk na : Nat} : Fr M (s_act M h e kk na) := by
  unfold s_act s_act0
  split
  · exact ((((((Fr.rf.sL rfl).wI rfl).wL rfl).sI rfl).sI rfl).sL rfl).sI rfl
  · exact (((Fr.rf.sL rfl).sI rfl).sL rfl).sI rfl
theorem acC_o {c : Core} {e kk na k : Nat} (h : k ∉ [2, 52, 53, 54]) (i : Nat) : kI (acC c e kk na) k i = kI c k i ∧ kL (acC c e kk na) k i = kL c k i := by
  simp only [List.mem_cons, List.not_mem_nil, or_false, not_or] at h
  obtain ⟨h1, h2, h3, h4⟩ := h
  unfold acC
  split <;> simp only [kI_uI, kI_uL, kI_wcI, kI_wcL, kL_uI, kL_uL, kL_wcI, kL_wcL, h1, h2, h3, h4, false_and, if_false, and_self]
theorem gs_act {b : Int32} {c : Core} {e nx mn kk nk nl na : Nat} {dp dq : Nat → Nat} {ts : List Nat} (h1 : (kI c 25 0) = nI (e + 1)) (h2 : e < 12) (hu : (kI c 32 (e)) = 0) (hx : (kI c 30 (e)) = nI nx) (hm : (kI c 29 (e)) = nI mn) (hxm : mn ≤ nx) (hnx : nx < 1000) (hp : (kI c 28 (e)) = 0) (hk : (kI c 26 (e)) = nI kk) (hkk : kk < 40) (ha : (kI c 52 0) = nI na) (hna : na ≤ 50) (hT : TnC (acC c e kk na) kk nk nl dp dq 1 ts) : Gst b c (bpC (acC c e kk na) e 1 ts) := by
  refine ⟨⟨e, h1, h2⟩, fun D d M h H hc => ?_⟩
  subst hc
  refine g_act (d := d + 9) H h1 h2 hu hx hm hxm hnx hp (c_act (d := d + 8) H h1 h2 hk hkk ha hna ⟨rfl, H.fr act_fr, ?_, ?_⟩)
  · have := (acC_o (c := core M h) (e := e) (kk := kk) (na := na) (k := 28) (by decide) e).1
    rw [← core_act] at this
    exact this.trans hp
  · refine c_beginPhase (d := d + 5) (kk := kk) (H.fr act_fr) ?_ h2 ?_ (TnC_M (H.fr act_fr) (by rw [core_act]; exact hT)) (TnC_len hT) (fun M' hc' hF => ⟨rfl, rfl, by rw [hc', core_act], act_fr.tr hF⟩)
    · have := (acC_o (c := core M h) (e := e) (kk := kk) (na := na) (k := 25) (by decide) 0).1
      rw [← core_act] at this
      exact this.trans h1
    · have := (acC_o (c := core M h) (e := e) (kk := kk) (na := na) (k := 26) (by decide) e).1
      rw [← core_act] at this
      exact this.trans hk
