/-- the cells to come hold nothing of the class -/
def Cln (M : Mem) : Prop := ∀ a, mS M ≤ a → mK M a = 0 ∧ ∀ k i, rk k = false → mI M k a i = 0 ∧ mL M k a i = 0 ∧ mR M k a i = none
/-! The class beside the reference: how its objects lie, and what they hold -/
def shO : List (Nat × Nat × Nat) := [(2, 5, 0), (4, 3, 0), (9, 1, 0), (12, 8, 0), (1, 9, 0), (17, 11, 0), (3, 5022007, 40), (5, 6006008, 200), (6, 6006016, 3), (7, 3006025, 30), (8, 7038029, 8), (10, 5000007, 50), (11, 2000016, 50), (13, 2032007, 100), (14, 1032015, 35), (15, 1032023, 35), (16, 1032031, 35), (18, 5056007, 40), (19, 2056016, 40), (20, 4038071, 12)]
def shR : List (Nat × Nat × Nat) := [(1100, 0, 1), (1101, 0, 2), (1102, 0, 4), (1103, 0, 8), (1104, 0, 9), (1105, 0, 12), (400, 2, 3), (200, 4, 5), (201, 4, 6), (202, 4, 7), (0, 9, 10), (1, 9, 11), (700, 12, 13), (701, 12, 14), (702, 12, 15), (703, 12, 16), (800, 1, 2), (801, 1, 4), (802, 1, 8), (803, 1, 9), (804, 1, 12), (805, 1, 17), (806, 1, 20), (1000, 17, 18), (1001, 17, 19)]
def SH (M : Mem) (x : Nat) : Prop := mK M (x + 0) = 12 ∧ (∀ q ∈ shO, mK M (x + q.1) = q.2.1 ∧ mN M (x + q.1) = q.2.2) ∧ (∀ q ∈ shR, mR M q.1 (x + q.2.1) 0 = some (x + q.2.2)) ∧
  (∀ t, t < 8 → mR M 7038029 (x + 8) t = some (x + 21 + 2 * t) ∧ mK M (x + 21 + 2 * t) = 10 ∧ mR M 900 (x + 21 + 2 * t) 0 = some (x + 22 + 2 * t) ∧ mK M (x + 22 + 2 * t) = 2050007 ∧ mN M (x + 22 + 2 * t) = 16) ∧
  (∀ e, e < 12 → mR M 4038071 (x + 20) e = some (x + 37 + e) ∧ mK M (x + 37 + e) = 2 ∧ mI M 100 (x + 37 + e) 0 = nI (e + 1))
theorem sh_x {M : Mem} {x : Nat} (H : SH M x) : mK M x = 12 := H.1
theorem sh_tray {M : Mem} {x : Nat} (H : SH M x) {t : Nat} (ht : t < 8) : mR M 7038029 (x + 8) t = some (x + 21 + 2 * t) ∧ mK M (x + 21 + 2 * t) = 10 ∧ mR M 900 (x + 21 + 2 * t) 0 = some (x + 22 + 2 * t) ∧ mK M (x + 22 + 2 * t) = 2050007 ∧ mN M (x + 22 + 2 * t) = 16 := H.2.2.2.1 t ht
theorem sh_cue {M : Mem} {x : Nat} (H : SH M x) {e : Nat} (he : e < 12) : mR M 4038071 (x + 20) e = some (x + 37 + e) ∧ mK M (x + 37 + e) = 2 ∧ mI M 100 (x + 37 + e) 0 = nI (e + 1) := H.2.2.2.2 e he
theorem sh_k2 {M : Mem} {x : Nat} (H : SH M x) : mK M (x + 2) = 5 ∧ mN M (x + 2) = 0 := H.2.1 (2, 5, 0) (by decide)
theorem sh_k4 {M : Mem} {x : Nat} (H : SH M x) : mK M (x + 4) = 3 ∧ mN M (x + 4) = 0 := H.2.1 (4, 3, 0) (by decide)
theorem sh_k9 {M : Mem} {x : Nat} (H : SH M x) : mK M (x + 9) = 1 ∧ mN M (x + 9) = 0 := H.2.1 (9, 1, 0) (by decide)
theorem sh_k12 {M : Mem} {x : Nat} (H : SH M x) : mK M (x + 12) = 8 ∧ mN M (x + 12) = 0 := H.2.1 (12, 8, 0) (by decide)
theorem sh_k1 {M : Mem} {x : Nat} (H : SH M x) : mK M (x + 1) = 9 ∧ mN M (x + 1) = 0 := H.2.1 (1, 9, 0) (by decide)
theorem sh_k17 {M : Mem} {x : Nat} (H : SH M x) : mK M (x + 17) = 11 ∧ mN M (x + 17) = 0 := H.2.1 (17, 11, 0) (by decide)
theorem sh_k3 {M : Mem} {x : Nat} (H : SH M x) : mK M (x + 3) = 5022007 ∧ mN M (x + 3) = 40 := H.2.1 (3, 5022007, 40) (by decide)
theorem sh_k5 {M : Mem} {x : Nat} (H : SH M x) : mK M (x + 5) = 6006008 ∧ mN M (x + 5) = 200 := H.2.1 (5, 6006008, 200) (by decide)
theorem sh_k6 {M : Mem} {x : Nat} (H : SH M x) : mK M (x + 6) = 6006016 ∧ mN M (x + 6) = 3 := H.2.1 (6, 6006016, 3) (by decide)
theorem sh_k7 {M : Mem} {x : Nat} (H : SH M x) : mK M (x + 7) = 3006025 ∧ mN M (x + 7) = 30 := H.2.1 (7, 3006025, 30) (by decide)
theorem sh_k8 {M : Mem} {x : Nat} (H : SH M x) : mK M (x + 8) = 7038029 ∧ mN M (x + 8) = 8 := H.2.1 (8, 7038029, 8) (by decide)
theorem sh_k10 {M : Mem} {x : Nat} (H : SH M x) : mK M (x + 10) = 5000007 ∧ mN M (x + 10) = 50 := H.2.1 (10, 5000007, 50) (by decide)
theorem sh_k11 {M : Mem} {x : Nat} (H : SH M x) : mK M (x + 11) = 2000016 ∧ mN M (x + 11) = 50 := H.2.1 (11, 2000016, 50) (by decide)
theorem sh_k13 {M : Mem} {x : Nat} (H : SH M x) : mK M (x + 13) = 2032007 ∧ mN M (x + 13) = 100 := H.2.1 (13, 2032007, 100) (by decide)
theorem sh_k14 {M : Mem} {x : Nat} (H : SH M x) : mK M (x + 14) = 1032015 ∧ mN M (x + 14) = 35 := H.2.1 (14, 1032015, 35) (by decide)
theorem sh_k15 {M : Mem} {x : Nat} (H : SH M x) : mK M (x + 15) = 1032023 ∧ mN M (x + 15) = 35 := H.2.1 (15, 1032023, 35) (by decide)
theorem sh_k16 {M : Mem} {x : Nat} (H : SH M x) : mK M (x + 16) = 1032031 ∧ mN M (x + 16) = 35 := H.2.1 (16, 1032031, 35) (by decide)
theorem sh_k18 {M : Mem} {x : Nat} (H : SH M x) : mK M (x + 18) = 5056007 ∧ mN M (x + 18) = 40 := H.2.1 (18, 5056007, 40) (by decide)
theorem sh_k19 {M : Mem} {x : Nat} (H : SH M x) : mK M (x + 19) = 2056016 ∧ mN M (x + 19) = 40 := H.2.1 (19, 2056016, 40) (by decide)
theorem sh_k20 {M : Mem} {x : Nat} (H : SH M x) : mK M (x + 20) = 4038071 ∧ mN M (x + 20) = 12 := H.2.1 (20, 4038071, 12) (by decide)
theorem sh_Desk_teller {M : Mem} {x : Nat} (H : SH M x) : mR M 1100 x 0 = some (x + 1) := H.2.2.1 (1100, 0, 1) (by decide)
theorem sh_Desk_kinds {M : Mem} {x : Nat} (H : SH M x) : mR M 1101 x 0 = some (x + 2) := H.2.2.1 (1101, 0, 2) (by decide)
theorem sh_Desk_house {M : Mem} {x : Nat} (H : SH M x) : mR M 1102 x 0 = some (x + 4) := H.2.2.1 (1102, 0, 4) (by decide)
theorem sh_Desk_trays {M : Mem} {x : Nat} (H : SH M x) : mR M 1103 x 0 = some (x + 8) := H.2.2.1 (1103, 0, 8) (by decide)
theorem sh_Desk_acts {M : Mem} {x : Nat} (H : SH M x) : mR M 1104 x 0 = some (x + 9) := H.2.2.1 (1104, 0, 9) (by decide)
theorem sh_Desk_report {M : Mem} {x : Nat} (H : SH M x) : mR M 1105 x 0 = some (x + 12) := H.2.2.1 (1105, 0, 12) (by decide)
theorem sh_Kinds_all {M : Mem} {x : Nat} (H : SH M x) : mR M 400 (x + 2) 0 = some (x + 3) := H.2.2.1 (400, 2, 3) (by decide)
theorem sh_House_all {M : Mem} {x : Nat} (H : SH M x) : mR M 200 (x + 4) 0 = some (x + 5) := H.2.2.1 (200, 4, 5) (by decide)
theorem sh_House_firsts {M : Mem} {x : Nat} (H : SH M x) : mR M 201 (x + 4) 0 = some (x + 6) := H.2.2.1 (201, 4, 6) (by decide)
theorem sh_House_open {M : Mem} {x : Nat} (H : SH M x) : mR M 202 (x + 4) 0 = some (x + 7) := H.2.2.1 (202, 4, 7) (by decide)
theorem sh_Acts_of {M : Mem} {x : Nat} (H : SH M x) : mR M 0 (x + 9) 0 = some (x + 10) := H.2.2.1 (0, 9, 10) (by decide)
theorem sh_Acts_values {M : Mem} {x : Nat} (H : SH M x) : mR M 1 (x + 9) 0 = some (x + 11) := H.2.2.1 (1, 9, 11) (by decide)
theorem sh_Report_log {M : Mem} {x : Nat} (H : SH M x) : mR M 700 (x + 12) 0 = some (x + 13) := H.2.2.1 (700, 12, 13) (by decide)
theorem sh_Report_failureOf {M : Mem} {x : Nat} (H : SH M x) : mR M 701 (x + 12) 0 = some (x + 14) := H.2.2.1 (701, 12, 14) (by decide)
theorem sh_Report_failureBy {M : Mem} {x : Nat} (H : SH M x) : mR M 702 (x + 12) 0 = some (x + 15) := H.2.2.1 (702, 12, 15) (by decide)
theorem sh_Report_failureAt {M : Mem} {x : Nat} (H : SH M x) : mR M 703 (x + 12) 0 = some (x + 16) := H.2.2.1 (703, 12, 16) (by decide)
theorem sh_Teller_kinds {M : Mem} {x : Nat} (H : SH M x) : mR M 800 (x + 1) 0 = some (x + 2) := H.2.2.1 (800, 1, 2) (by decide)
theorem sh_Teller_house {M : Mem} {x : Nat} (H : SH M x) : mR M 801 (x + 1) 0 = some (x + 4) := H.2.2.1 (801, 1, 4) (by decide)
theorem sh_Teller_trays {M : Mem} {x : Nat} (H : SH M x) : mR M 802 (x + 1) 0 = some (x + 8) := H.2.2.1 (802, 1, 8) (by decide)
theorem sh_Teller_acts {M : Mem} {x : Nat} (H : SH M x) : mR M 803 (x + 1) 0 = some (x + 9) := H.2.2.1 (803, 1, 9) (by decide)
theorem sh_Teller_report {M : Mem} {x : Nat} (H : SH M x) : mR M 804 (x + 1) 0 = some (x + 12) := H.2.2.1 (804, 1, 12) (by decide)
theorem sh_Teller_waiting {M : Mem} {x : Nat} (H : SH M x) : mR M 805 (x + 1) 0 = some (x + 17) := H.2.2.1 (805, 1, 17) (by decide)
theorem sh_Teller_cues {M : Mem} {x : Nat} (H : SH M x) : mR M 806 (x + 1) 0 = some (x + 20) := H.2.2.1 (806, 1, 20) (by decide)
theorem sh_Waiting_of {M : Mem} {x : Nat} (H : SH M x) : mR M 1000 (x + 17) 0 = some (x + 18) := H.2.2.1 (1000, 17, 18) (by decide)
theorem sh_Waiting_values {M : Mem} {x : Nat} (H : SH M x) : mR M 1001 (x + 17) 0 = some (x + 19) := H.2.2.1 (1001, 17, 19) (by decide)
def KI (M : Mem) (x : Nat) (c : Core) (ka : Nat → Nat) (dp : Nat → Nat) (i : Nat) : Prop :=
  ((mR M 5022007 (x + 3) (i)) = some (ka i)) ∧
  (mK M (ka i) = 4) ∧
  ((mI M 300 (ka i) 0) = nI i) ∧
  ((mI M 301 (ka i) 0) = nI (dp i)) ∧
  (dp i ≤ 10) ∧
  ((mL M 303 (ka i) 0) = (kL c 2 (i))) ∧
  (((kI c 1 (i)) = -4 ∧ dp i = 0 ∧ (mL M 302 (ka i) 0) = (1 : Int64) <<< ((nI i).toInt64 &&& 63)) ∨ ∃ j, j < i ∧ (kI c 1 (i)) = nI j ∧ dp i = dp j + 1 ∧ (mL M 302 (ka i) 0) = ((1 : Int64) <<< ((nI i).toInt64 &&& 63)) ||| (mL M 302 (ka j) 0))
theorem ki_at {M : Mem} {x : Nat} {c : Core} {ka : Nat → Nat} {dp : Nat → Nat} {i : Nat} (H : KI M x c ka dp i) : (mR M 5022007 (x + 3) (i)) = some (ka i) := H.1
theorem ki_k {M : Mem} {x : Nat} {c : Core} {ka : Nat → Nat} {dp : Nat → Nat} {i : Nat} (H : KI M x c ka dp i) : mK M (ka i) = 4 := H.2.1
theorem ki_num {M : Mem} {x : Nat} {c : Core} {ka : Nat → Nat} {dp : Nat → Nat} {i : Nat} (H : KI M x c ka dp i) : (mI M 300 (ka i) 0) = nI i := H.2.2.1
theorem ki_dep {M : Mem} {x : Nat} {c : Core} {ka : Nat → Nat} {dp : Nat → Nat} {i : Nat} (H : KI M x c ka dp i) : (mI M 301 (ka i) 0) = nI (dp i) := H.2.2.2.1
theorem ki_dp {M : Mem} {x : Nat} {c : Core} {ka : Nat → Nat} {dp : Nat → Nat} {i : Nat} (H : KI M x c ka dp i) : dp i ≤ 10 := H.2.2.2.2.1
theorem ki_met {M : Mem} {x : Nat} {c : Core} {ka : Nat → Nat} {dp : Nat → Nat} {i : Nat} (H : KI M x c ka dp i) : (mL M 303 (ka i) 0) = (kL c 2 (i)) := H.2.2.2.2.2.1
theorem ki_par {M : Mem} {x : Nat} {c : Core} {ka : Nat → Nat} {dp : Nat → Nat} {i : Nat} (H : KI M x c ka dp i) : ((kI c 1 (i)) = -4 ∧ dp i = 0 ∧ (mL M 302 (ka i) 0) = (1 : Int64) <<< ((nI i).toInt64 &&& 63)) ∨ ∃ j, j < i ∧ (kI c 1 (i)) = nI j ∧ dp i = dp j + 1 ∧ (mL M 302 (ka i) 0) = ((1 : Int64) <<< ((nI i).toInt64 &&& 63)) ||| (mL M 302 (ka j) 0) := H.2.2.2.2.2.2
def RK (M : Mem) (x : Nat) (c : Core) (nk : Nat) (ka : Nat → Nat) (dp : Nat → Nat) : Prop :=
  (nk ≤ 40) ∧
  ((mI M 401 (x + 2) 0) = nI nk) ∧
  ((kI c 0 0) = nI nk) ∧
  (∀ i, i < nk → KI M x c ka dp i)
theorem rk_le {M : Mem} {x : Nat} {c : Core} {nk : Nat} {ka : Nat → Nat} {dp : Nat → Nat} (H : RK M x c nk ka dp) : nk ≤ 40 := H.1
theorem rk_sz {M : Mem} {x : Nat} {c : Core} {nk : Nat} {ka : Nat → Nat} {dp : Nat → Nat} (H : RK M x c nk ka dp) : (mI M 401 (x + 2) 0) = nI nk := H.2.1
theorem rk_c {M : Mem} {x : Nat} {c : Core} {nk : Nat} {ka : Nat → Nat} {dp : Nat → Nat} (H : RK M x c nk ka dp) : (kI c 0 0) = nI nk := H.2.2.1
theorem rk_i {M : Mem} {x : Nat} {c : Core} {nk : Nat} {ka : Nat → Nat} {dp : Nat → Nat} (H : RK M x c nk ka dp) : ∀ i, i < nk → KI M x c ka dp i := H.2.2.2
def LI (M : Mem) (x : Nat) (c : Core) (nk : Nat) (ka : Nat → Nat) (ns : Nat) (a : Nat) (l : Nat) : Prop :=
  ((mR M 6006008 (x + 5) (l)) = some a) ∧
  (mK M a = 6) ∧
  ((mI M 500 (a) 0) = nI l) ∧
  (∃ k, k < nk ∧ (mR M 501 (a) 0) = some (ka k) ∧ (kI c 6 (l)) = nI k) ∧
  (∃ p, p < 3 ∧ (mI M 502 (a) 0) = nI p ∧ (kI c 7 (l)) = nI p) ∧
  ((mI M 503 (a) 0) = (kI c 8 (l))) ∧
  ((mI M 504 (a) 0) = (kI c 9 (l))) ∧
  ((kI c 9 (l)) = -4 ∨ inN (kI c 9 (l)) ns) ∧
  ((mL M 506 (a) 0) = (kL c 10 (l))) ∧
  ((mL M 507 (a) 0) = (kL c 11 (l))) ∧
  ((mI M 508 (a) 0) = (kI c 12 (l))) ∧
  ((kI c 12 (l)) = 0 ∨ (kI c 12 (l)) = 1) ∧
  ((mI M 509 (a) 0) = (kI c 13 (l))) ∧
  ((kI c 13 (l)) = 0 ∨ (kI c 13 (l)) = 1) ∧
  ((mI M 510 (a) 0) = (kI c 17 (l))) ∧
  (∃ t, t < 8 ∧ (mI M 511 (a) 0) = nI t ∧ (kI c 18 (l)) = nI t) ∧
  ((mR M 505 (a) 0) = some (a + 1)) ∧
  (mK M (a + 1) = 7) ∧
  ((mR M 600 (a + 1) 0) = some (a + 2)) ∧
  (mK M (a + 2) = 1029007) ∧
  (mN M (a + 2) = 10) ∧
  ((mR M 601 (a + 1) 0) = some (a + 3)) ∧
  (mK M (a + 3) = 1029015) ∧
  (mN M (a + 3) = 10) ∧
  (∃ sm, sm ≤ 10 ∧ (mI M 602 (a + 1) 0) = nI sm ∧ (kI c 14 (l)) = nI sm ∧ ∀ j, j < sm → (mI M 1029007 (a + 2) (j)) = (kI c 15 (10 * l + j)) ∧ (mI M 1029015 (a + 3) (j)) = (kI c 16 (10 * l + j)) ∧ ∃ o, o < 18 ∧ (kI c 15 (10 * l + j)) = nI o ∧ (o = 3 → ∃ n, 20 ≤ n ∧ n ≤ 29 ∧ (kI c 16 (10 * l + j)) = nI n))
theorem li_at {M : Mem} {x : Nat} {c : Core} {nk : Nat} {ka : Nat → Nat} {ns : Nat} {a : Nat} {l : Nat} (H : LI M x c nk ka ns a l) : (mR M 6006008 (x + 5) (l)) = some a := H.1
theorem li_k {M : Mem} {x : Nat} {c : Core} {nk : Nat} {ka : Nat → Nat} {ns : Nat} {a : Nat} {l : Nat} (H : LI M x c nk ka ns a l) : mK M a = 6 := H.2.1
theorem li_num {M : Mem} {x : Nat} {c : Core} {nk : Nat} {ka : Nat → Nat} {ns : Nat} {a : Nat} {l : Nat} (H : LI M x c nk ka ns a l) : (mI M 500 (a) 0) = nI l := H.2.2.1
theorem li_kind {M : Mem} {x : Nat} {c : Core} {nk : Nat} {ka : Nat → Nat} {ns : Nat} {a : Nat} {l : Nat} (H : LI M x c nk ka ns a l) : ∃ k, k < nk ∧ (mR M 501 (a) 0) = some (ka k) ∧ (kI c 6 (l)) = nI k := H.2.2.2.1
theorem li_phase {M : Mem} {x : Nat} {c : Core} {nk : Nat} {ka : Nat → Nat} {ns : Nat} {a : Nat} {l : Nat} (H : LI M x c nk ka ns a l) : ∃ p, p < 3 ∧ (mI M 502 (a) 0) = nI p ∧ (kI c 7 (l)) = nI p := H.2.2.2.2.1
theorem li_rank {M : Mem} {x : Nat} {c : Core} {nk : Nat} {ka : Nat → Nat} {ns : Nat} {a : Nat} {l : Nat} (H : LI M x c nk ka ns a l) : (mI M 503 (a) 0) = (kI c 8 (l)) := H.2.2.2.2.2.1
theorem li_scene {M : Mem} {x : Nat} {c : Core} {nk : Nat} {ka : Nat → Nat} {ns : Nat} {a : Nat} {l : Nat} (H : LI M x c nk ka ns a l) : (mI M 504 (a) 0) = (kI c 9 (l)) := H.2.2.2.2.2.2.1
theorem li_sc {M : Mem} {x : Nat} {c : Core} {nk : Nat} {ka : Nat → Nat} {ns : Nat} {a : Nat} {l : Nat} (H : LI M x c nk ka ns a l) : (kI c 9 (l)) = -4 ∨ inN (kI c 9 (l)) ns := H.2.2.2.2.2.2.2.1
theorem li_low {M : Mem} {x : Nat} {c : Core} {nk : Nat} {ka : Nat → Nat} {ns : Nat} {a : Nat} {l : Nat} (H : LI M x c nk ka ns a l) : (mL M 506 (a) 0) = (kL c 10 (l)) := H.2.2.2.2.2.2.2.2.1
theorem li_high {M : Mem} {x : Nat} {c : Core} {nk : Nat} {ka : Nat → Nat} {ns : Nat} {a : Nat} {l : Nat} (H : LI M x c nk ka ns a l) : (mL M 507 (a) 0) = (kL c 11 (l)) := H.2.2.2.2.2.2.2.2.2.1
theorem li_once {M : Mem} {x : Nat} {c : Core} {nk : Nat} {ka : Nat → Nat} {ns : Nat} {a : Nat} {l : Nat} (H : LI M x c nk ka ns a l) : (mI M 508 (a) 0) = (kI c 12 (l)) := H.2.2.2.2.2.2.2.2.2.2.1
theorem li_on {M : Mem} {x : Nat} {c : Core} {nk : Nat} {ka : Nat → Nat} {ns : Nat} {a : Nat} {l : Nat} (H : LI M x c nk ka ns a l) : (kI c 12 (l)) = 0 ∨ (kI c 12 (l)) = 1 := H.2.2.2.2.2.2.2.2.2.2.2.1
theorem li_there {M : Mem} {x : Nat} {c : Core} {nk : Nat} {ka : Nat → Nat} {ns : Nat} {a : Nat} {l : Nat} (H : LI M x c nk ka ns a l) : (mI M 509 (a) 0) = (kI c 13 (l)) := H.2.2.2.2.2.2.2.2.2.2.2.2.1
theorem li_th {M : Mem} {x : Nat} {c : Core} {nk : Nat} {ka : Nat → Nat} {ns : Nat} {a : Nat} {l : Nat} (H : LI M x c nk ka ns a l) : (kI c 13 (l)) = 0 ∨ (kI c 13 (l)) = 1 := H.2.2.2.2.2.2.2.2.2.2.2.2.2.1
theorem li_told {M : Mem} {x : Nat} {c : Core} {nk : Nat} {ka : Nat → Nat} {ns : Nat} {a : Nat} {l : Nat} (H : LI M x c nk ka ns a l) : (mI M 510 (a) 0) = (kI c 17 (l)) := H.2.2.2.2.2.2.2.2.2.2.2.2.2.2.1
theorem li_tray {M : Mem} {x : Nat} {c : Core} {nk : Nat} {ka : Nat → Nat} {ns : Nat} {a : Nat} {l : Nat} (H : LI M x c nk ka ns a l) : ∃ t, t < 8 ∧ (mI M 511 (a) 0) = nI t ∧ (kI c 18 (l)) = nI t := H.2.2.2.2.2.2.2.2.2.2.2.2.2.2.2.1
theorem li_prog {M : Mem} {x : Nat} {c : Core} {nk : Nat} {ka : Nat → Nat} {ns : Nat} {a : Nat} {l : Nat} (H : LI M x c nk ka ns a l) : (mR M 505 (a) 0) = some (a + 1) := H.2.2.2.2.2.2.2.2.2.2.2.2.2.2.2.2.1
theorem li_pk {M : Mem} {x : Nat} {c : Core} {nk : Nat} {ka : Nat → Nat} {ns : Nat} {a : Nat} {l : Nat} (H : LI M x c nk ka ns a l) : mK M (a + 1) = 7 := H.2.2.2.2.2.2.2.2.2.2.2.2.2.2.2.2.2.1
theorem li_ops {M : Mem} {x : Nat} {c : Core} {nk : Nat} {ka : Nat → Nat} {ns : Nat} {a : Nat} {l : Nat} (H : LI M x c nk ka ns a l) : (mR M 600 (a + 1) 0) = some (a + 2) := H.2.2.2.2.2.2.2.2.2.2.2.2.2.2.2.2.2.2.1
theorem li_ok {M : Mem} {x : Nat} {c : Core} {nk : Nat} {ka : Nat → Nat} {ns : Nat} {a : Nat} {l : Nat} (H : LI M x c nk ka ns a l) : mK M (a + 2) = 1029007 := H.2.2.2.2.2.2.2.2.2.2.2.2.2.2.2.2.2.2.2.1
theorem li_on10 {M : Mem} {x : Nat} {c : Core} {nk : Nat} {ka : Nat → Nat} {ns : Nat} {a : Nat} {l : Nat} (H : LI M x c nk ka ns a l) : mN M (a + 2) = 10 := H.2.2.2.2.2.2.2.2.2.2.2.2.2.2.2.2.2.2.2.2.1
theorem li_nums {M : Mem} {x : Nat} {c : Core} {nk : Nat} {ka : Nat → Nat} {ns : Nat} {a : Nat} {l : Nat} (H : LI M x c nk ka ns a l) : (mR M 601 (a + 1) 0) = some (a + 3) := H.2.2.2.2.2.2.2.2.2.2.2.2.2.2.2.2.2.2.2.2.2.1
theorem li_nk {M : Mem} {x : Nat} {c : Core} {nk : Nat} {ka : Nat → Nat} {ns : Nat} {a : Nat} {l : Nat} (H : LI M x c nk ka ns a l) : mK M (a + 3) = 1029015 := H.2.2.2.2.2.2.2.2.2.2.2.2.2.2.2.2.2.2.2.2.2.2.1
theorem li_nn10 {M : Mem} {x : Nat} {c : Core} {nk : Nat} {ka : Nat → Nat} {ns : Nat} {a : Nat} {l : Nat} (H : LI M x c nk ka ns a l) : mN M (a + 3) = 10 := H.2.2.2.2.2.2.2.2.2.2.2.2.2.2.2.2.2.2.2.2.2.2.2.1
theorem li_size {M : Mem} {x : Nat} {c : Core} {nk : Nat} {ka : Nat → Nat} {ns : Nat} {a : Nat} {l : Nat} (H : LI M x c nk ka ns a l) : ∃ sm, sm ≤ 10 ∧ (mI M 602 (a + 1) 0) = nI sm ∧ (kI c 14 (l)) = nI sm ∧ ∀ j, j < sm → (mI M 1029007 (a + 2) (j)) = (kI c 15 (10 * l + j)) ∧ (mI M 1029015 (a + 3) (j)) = (kI c 16 (10 * l + j)) ∧ ∃ o, o < 18 ∧ (kI c 15 (10 * l + j)) = nI o ∧ (o = 3 → ∃ n, 20 ≤ n ∧ n ≤ 29 ∧ (kI c 16 (10 * l + j)) = nI n) := H.2.2.2.2.2.2.2.2.2.2.2.2.2.2.2.2.2.2.2.2.2.2.2.2
def RLs (M : Mem) (x : Nat) (c : Core) (nk : Nat) (ka : Nat → Nat) (ns : Nat) (nl : Nat) (la : Nat → Nat) : Prop :=
  (nl ≤ 200) ∧
  ((mI M 203 (x + 4) 0) = nI nl) ∧
  ((kI c 5 0) = nI nl) ∧
  (∀ l, l < nl → LI M x c nk ka ns (la l) l)
theorem rl_le {M : Mem} {x : Nat} {c : Core} {nk : Nat} {ka : Nat → Nat} {ns : Nat} {nl : Nat} {la : Nat → Nat} (H : RLs M x c nk ka ns nl la) : nl ≤ 200 := H.1
theorem rl_come {M : Mem} {x : Nat} {c : Core} {nk : Nat} {ka : Nat → Nat} {ns : Nat} {nl : Nat} {la : Nat → Nat} (H : RLs M x c nk ka ns nl la) : (mI M 203 (x + 4) 0) = nI nl := H.2.1
theorem rl_c {M : Mem} {x : Nat} {c : Core} {nk : Nat} {ka : Nat → Nat} {ns : Nat} {nl : Nat} {la : Nat → Nat} (H : RLs M x c nk ka ns nl la) : (kI c 5 0) = nI nl := H.2.2.1
theorem rl_i {M : Mem} {x : Nat} {c : Core} {nk : Nat} {ka : Nat → Nat} {ns : Nat} {nl : Nat} {la : Nat → Nat} (H : RLs M x c nk ka ns nl la) : ∀ l, l < nl → LI M x c nk ka ns (la l) l := H.2.2.2
def Lk (nx : Nat → Option Nat) (la : Nat → Nat) : Option Nat → List Nat → Prop
  | o, [] => o = none
  | o, l :: t => o = some (la l) ∧ Lk nx la (nx (la l)) t
def ah (rk : Nat → Int32) (dq : Nat → Nat) (l m : Nat) : Prop := rk m < rk l ∨ (rk l = rk m ∧ (dq m < dq l ∨ (dq l = dq m ∧ l < m)))
def dqc (c : Core) (dp : Nat → Nat) (l : Nat) : Nat := dp ((kI c 6 (l))).toNatClampNeg
def CI (M : Mem) (x : Nat) (c : Core) (dp : Nat → Nat) (nl : Nat) (la : Nat → Nat) (p : Nat) (L : List Nat) : Prop :=
  (Lk (fun a => mR M 512 a 0) la (mR M 6006016 (x + 6) (p)) L) ∧
  (L.Pairwise (ah (fun l => (kI c 8 (l))) (fun l => dqc c dp l))) ∧
  (∀ l, l ∈ L ↔ l < nl ∧ (kI c 7 (l)) = nI p)
theorem ch_lk {M : Mem} {x : Nat} {c : Core} {dp : Nat → Nat} {nl : Nat} {la : Nat → Nat} {p : Nat} {L : List Nat} (H : CI M x c dp nl la p L) : Lk (fun a => mR M 512 a 0) la (mR M 6006016 (x + 6) (p)) L := H.1
theorem ch_pw {M : Mem} {x : Nat} {c : Core} {dp : Nat → Nat} {nl : Nat} {la : Nat → Nat} {p : Nat} {L : List Nat} (H : CI M x c dp nl la p L) : L.Pairwise (ah (fun l => (kI c 8 (l))) (fun l => dqc c dp l)) := H.2.1
theorem ch_mem {M : Mem} {x : Nat} {c : Core} {dp : Nat → Nat} {nl : Nat} {la : Nat → Nat} {p : Nat} {L : List Nat} (H : CI M x c dp nl la p L) : ∀ l, l ∈ L ↔ l < nl ∧ (kI c 7 (l)) = nI p := H.2.2
def RC (M : Mem) (x : Nat) (c : Core) (dp : Nat → Nat) (nl : Nat) (la : Nat → Nat) (ch : Nat → List Nat) : Prop := ∀ p, p < 3 → CI M x c dp nl la p (ch p)
def cnt (f : Nat → Int32) : Nat → Nat
  | 0 => 0
  | n + 1 => if f n = 0 then cnt f n else cnt f n + 1
def RS (M : Mem) (x : Nat) (c : Core) (ns : Nat) (nl : Nat) : Prop :=
  (ns ≤ 30) ∧
  ((mI M 205 (x + 4) 0) = nI ns) ∧
  ((kI c 3 0) = nI ns) ∧
  (∀ s, s < ns → (mI M 3006025 (x + 7) (s)) = (kI c 4 (s)) ∧ ((kI c 4 (s)) = 0 ∨ (kI c 4 (s)) = 1)) ∧
  ((mI M 206 (x + 4) 0) = nI (cnt (fun s => (kI c 4 (s))) ns)) ∧
  ((mI M 204 (x + 4) 0) = nI (cnt (fun l => (kI c 13 (l))) nl))
theorem rs_le {M : Mem} {x : Nat} {c : Core} {ns : Nat} {nl : Nat} (H : RS M x c ns nl) : ns ≤ 30 := H.1
theorem rs_sc {M : Mem} {x : Nat} {c : Core} {ns : Nat} {nl : Nat} (H : RS M x c ns nl) : (mI M 205 (x + 4) 0) = nI ns := H.2.1
theorem rs_c {M : Mem} {x : Nat} {c : Core} {ns : Nat} {nl : Nat} (H : RS M x c ns nl) : (kI c 3 0) = nI ns := H.2.2.1
theorem rs_open {M : Mem} {x : Nat} {c : Core} {ns : Nat} {nl : Nat} (H : RS M x c ns nl) : ∀ s, s < ns → (mI M 3006025 (x + 7) (s)) = (kI c 4 (s)) ∧ ((kI c 4 (s)) = 0 ∨ (kI c 4 (s)) = 1) := H.2.2.2.1
theorem rs_cnt {M : Mem} {x : Nat} {c : Core} {ns : Nat} {nl : Nat} (H : RS M x c ns nl) : (mI M 206 (x + 4) 0) = nI (cnt (fun s => (kI c 4 (s))) ns) := H.2.2.2.2.1
theorem rs_there {M : Mem} {x : Nat} {c : Core} {ns : Nat} {nl : Nat} (H : RS M x c ns nl) : (mI M 204 (x + 4) 0) = nI (cnt (fun l => (kI c 13 (l))) nl) := H.2.2.2.2.2
def TI (M : Mem) (c : Core) (a : Nat) (b : Nat) (t : Nat) : Prop :=
  (((mI M 901 (a) 0) = -1 ∧ (kI c 19 (t)) = -4 ∧ (kI c 20 (t)) = 0) ∨ ∃ n, n < 3 ∧ (mI M 901 (a) 0) = nI n ∧ (kI c 19 (t)) = nI n) ∧
  (∃ n, n ≤ 16 ∧ (mI M 902 (a) 0) = nI n ∧ (kI c 20 (t)) = nI n ∧ ∀ i, i < n → (mL M 2050007 (b) (i)) = (kL c 21 (16 * t + i)))
theorem ti_lane {M : Mem} {c : Core} {a : Nat} {b : Nat} {t : Nat} (H : TI M c a b t) : ((mI M 901 (a) 0) = -1 ∧ (kI c 19 (t)) = -4 ∧ (kI c 20 (t)) = 0) ∨ ∃ n, n < 3 ∧ (mI M 901 (a) 0) = nI n ∧ (kI c 19 (t)) = nI n := H.1
theorem ti_size {M : Mem} {c : Core} {a : Nat} {b : Nat} {t : Nat} (H : TI M c a b t) : ∃ n, n ≤ 16 ∧ (mI M 902 (a) 0) = nI n ∧ (kI c 20 (t)) = nI n ∧ ∀ i, i < n → (mL M 2050007 (b) (i)) = (kL c 21 (16 * t + i)) := H.2
def RT (M : Mem) (x : Nat) (c : Core) : Prop := ∀ t, t < 8 → TI M c (x + 21 + 2 * t) (x + 22 + 2 * t) t
def RA (M : Mem) (x : Nat) (c : Core) (nk : Nat) (ka : Nat → Nat) : Prop :=
  (∃ na nx, na ≤ 50 ∧ nx < 50 ∧ (mI M 3 (x + 9) 0) = nI na ∧ (kI c 52 0) = nI na ∧ (mI M 2 (x + 9) 0) = nI nx ∧ ∀ j, j < na → ∃ k, k < nk ∧ (kI c 53 (j)) = nI k ∧ (mR M 5000007 (x + 10) ((nx + 50 - na + j) % 50)) = some (ka k) ∧ (mL M 2000016 (x + 11) ((nx + 50 - na + j) % 50)) = (kL c 54 (j)))
theorem ra_all {M : Mem} {x : Nat} {c : Core} {nk : Nat} {ka : Nat → Nat} (H : RA M x c nk ka) : ∃ na nx, na ≤ 50 ∧ nx < 50 ∧ (mI M 3 (x + 9) 0) = nI na ∧ (kI c 52 0) = nI na ∧ (mI M 2 (x + 9) 0) = nI nx ∧ ∀ j, j < na → ∃ k, k < nk ∧ (kI c 53 (j)) = nI k ∧ (mR M 5000007 (x + 10) ((nx + 50 - na + j) % 50)) = some (ka k) ∧ (mL M 2000016 (x + 11) ((nx + 50 - na + j) % 50)) = (kL c 54 (j)) := H
def RP (M : Mem) (x : Nat) (c : Core) (cu : Nat) (nf : Nat) (lg : Nat) : Prop :=
  ((mI M 704 (x + 12) 0) = nI cu) ∧
  ((kI c 40 0) = nI cu) ∧
  (cu ≤ 60) ∧
  ((mI M 705 (x + 12) 0) = (kI c 41 0)) ∧
  ((mI M 706 (x + 12) 0) = nI lg) ∧
  ((kI c 42 0) = nI lg) ∧
  (lg < 2 ^ 30) ∧
  (∀ i, i < lg → i < 100 → (mL M 2032007 (x + 13) (i)) = (kL c 48 (i))) ∧
  ((mI M 707 (x + 12) 0) = nI nf) ∧
  ((kI c 43 0) = nI nf) ∧
  (nf ≤ 35) ∧
  (∀ i, i < nf → (mI M 1032015 (x + 14) (i)) = (kI c 49 (i)) ∧ (mI M 1032023 (x + 15) (i)) = (kI c 50 (i)) ∧ (mI M 1032031 (x + 16) (i)) = (kI c 51 (i))) ∧
  ((mI M 708 (x + 12) 0) = (kI c 44 0)) ∧
  ((mI M 709 (x + 12) 0) = (kI c 45 0))
theorem rp_cu {M : Mem} {x : Nat} {c : Core} {cu : Nat} {nf : Nat} {lg : Nat} (H : RP M x c cu nf lg) : (mI M 704 (x + 12) 0) = nI cu := H.1
theorem rp_cuc {M : Mem} {x : Nat} {c : Core} {cu : Nat} {nf : Nat} {lg : Nat} (H : RP M x c cu nf lg) : (kI c 40 0) = nI cu := H.2.1
theorem rp_cu60 {M : Mem} {x : Nat} {c : Core} {cu : Nat} {nf : Nat} {lg : Nat} (H : RP M x c cu nf lg) : cu ≤ 60 := H.2.2.1
theorem rp_told {M : Mem} {x : Nat} {c : Core} {cu : Nat} {nf : Nat} {lg : Nat} (H : RP M x c cu nf lg) : (mI M 705 (x + 12) 0) = (kI c 41 0) := H.2.2.2.1
theorem rp_lg {M : Mem} {x : Nat} {c : Core} {cu : Nat} {nf : Nat} {lg : Nat} (H : RP M x c cu nf lg) : (mI M 706 (x + 12) 0) = nI lg := H.2.2.2.2.1
theorem rp_lgc {M : Mem} {x : Nat} {c : Core} {cu : Nat} {nf : Nat} {lg : Nat} (H : RP M x c cu nf lg) : (kI c 42 0) = nI lg := H.2.2.2.2.2.1
theorem rp_lgb {M : Mem} {x : Nat} {c : Core} {cu : Nat} {nf : Nat} {lg : Nat} (H : RP M x c cu nf lg) : lg < 2 ^ 30 := H.2.2.2.2.2.2.1
theorem rp_log {M : Mem} {x : Nat} {c : Core} {cu : Nat} {nf : Nat} {lg : Nat} (H : RP M x c cu nf lg) : ∀ i, i < lg → i < 100 → (mL M 2032007 (x + 13) (i)) = (kL c 48 (i)) := H.2.2.2.2.2.2.2.1
theorem rp_nf {M : Mem} {x : Nat} {c : Core} {cu : Nat} {nf : Nat} {lg : Nat} (H : RP M x c cu nf lg) : (mI M 707 (x + 12) 0) = nI nf := H.2.2.2.2.2.2.2.2.1
theorem rp_nfc {M : Mem} {x : Nat} {c : Core} {cu : Nat} {nf : Nat} {lg : Nat} (H : RP M x c cu nf lg) : (kI c 43 0) = nI nf := H.2.2.2.2.2.2.2.2.2.1
theorem rp_nfb {M : Mem} {x : Nat} {c : Core} {cu : Nat} {nf : Nat} {lg : Nat} (H : RP M x c cu nf lg) : nf ≤ 35 := H.2.2.2.2.2.2.2.2.2.2.1
theorem rp_fs {M : Mem} {x : Nat} {c : Core} {cu : Nat} {nf : Nat} {lg : Nat} (H : RP M x c cu nf lg) : ∀ i, i < nf → (mI M 1032015 (x + 14) (i)) = (kI c 49 (i)) ∧ (mI M 1032023 (x + 15) (i)) = (kI c 50 (i)) ∧ (mI M 1032031 (x + 16) (i)) = (kI c 51 (i)) := H.2.2.2.2.2.2.2.2.2.2.2.1
theorem rp_vet {M : Mem} {x : Nat} {c : Core} {cu : Nat} {nf : Nat} {lg : Nat} (H : RP M x c cu nf lg) : (mI M 708 (x + 12) 0) = (kI c 44 0) := H.2.2.2.2.2.2.2.2.2.2.2.2.1
theorem rp_deep {M : Mem} {x : Nat} {c : Core} {cu : Nat} {nf : Nat} {lg : Nat} (H : RP M x c cu nf lg) : (mI M 709 (x + 12) 0) = (kI c 45 0) := H.2.2.2.2.2.2.2.2.2.2.2.2.2
def RV (M : Mem) (x : Nat) (c : Core) : Prop :=
  ((mI M 710 (x + 12) 0) = (kI c 46 0)) ∧
  ((mL M 711 (x + 12) 0) = (kL c 47 0)) ∧
  (((kI c 46 0) = -4 ∧ (kI c 39 0) = 0) ∨ (¬ (kI c 46 0) = -4 ∧ (kI c 39 0) = 1))
theorem rv_v {M : Mem} {x : Nat} {c : Core} (H : RV M x c) : (mI M 710 (x + 12) 0) = (kI c 46 0) := H.1
theorem rv_val {M : Mem} {x : Nat} {c : Core} (H : RV M x c) : (mL M 711 (x + 12) 0) = (kL c 47 0) := H.2.1
theorem rv_fv {M : Mem} {x : Nat} {c : Core} (H : RV M x c) : ((kI c 46 0) = -4 ∧ (kI c 39 0) = 0) ∨ (¬ (kI c 46 0) = -4 ∧ (kI c 39 0) = 1) := H.2.2
def RW (M : Mem) (x : Nat) (c : Core) (nk : Nat) (ka : Nat → Nat) (wn : Nat) : Prop :=
  (wn ≤ 40) ∧
  ((mI M 1003 (x + 17) 0) = nI wn) ∧
  ((kI c 36 0) = nI wn) ∧
  (∃ wf, wf < 40 ∧ (mI M 1002 (x + 17) 0) = nI wf ∧ ∀ j, j < wn → ∃ k, k < nk ∧ (kI c 37 (j)) = nI k ∧ (mR M 5056007 (x + 18) ((wf + j) % 40)) = some (ka k) ∧ (mL M 2056016 (x + 19) ((wf + j) % 40)) = (kL c 38 (j)))
theorem rw_le {M : Mem} {x : Nat} {c : Core} {nk : Nat} {ka : Nat → Nat} {wn : Nat} (H : RW M x c nk ka wn) : wn ≤ 40 := H.1
theorem rw_sz {M : Mem} {x : Nat} {c : Core} {nk : Nat} {ka : Nat → Nat} {wn : Nat} (H : RW M x c nk ka wn) : (mI M 1003 (x + 17) 0) = nI wn := H.2.1
theorem rw_c {M : Mem} {x : Nat} {c : Core} {nk : Nat} {ka : Nat → Nat} {wn : Nat} (H : RW M x c nk ka wn) : (kI c 36 0) = nI wn := H.2.2.1
theorem rw_all {M : Mem} {x : Nat} {c : Core} {nk : Nat} {ka : Nat → Nat} {wn : Nat} (H : RW M x c nk ka wn) : ∃ wf, wf < 40 ∧ (mI M 1002 (x + 17) 0) = nI wf ∧ ∀ j, j < wn → ∃ k, k < nk ∧ (kI c 37 (j)) = nI k ∧ (mR M 5056007 (x + 18) ((wf + j) % 40)) = some (ka k) ∧ (mL M 2056016 (x + 19) ((wf + j) % 40)) = (kL c 38 (j)) := H.2.2.2
def RZ (M : Mem) (S0 : Nat) (U0 : Nat) (nk : Nat) (nl : Nat) : Prop :=
  (mS M ≤ S0 + nk + 4 * nl) ∧
  (mU M ≤ U0 + 10 * nk + 60 * nl) ∧
  (Cln M)
theorem rz_s {M : Mem} {S0 : Nat} {U0 : Nat} {nk : Nat} {nl : Nat} (H : RZ M S0 U0 nk nl) : mS M ≤ S0 + nk + 4 * nl := H.1
theorem rz_u {M : Mem} {S0 : Nat} {U0 : Nat} {nk : Nat} {nl : Nat} (H : RZ M S0 U0 nk nl) : mU M ≤ U0 + 10 * nk + 60 * nl := H.2.1
theorem rz_cl {M : Mem} {S0 : Nat} {U0 : Nat} {nk : Nat} {nl : Nat} (H : RZ M S0 U0 nk nl) : Cln M := H.2.2
def R0 (M : Mem) (x : Nat) (c : Core) (nk : Nat) (ka : Nat → Nat) (dp : Nat → Nat) (ns : Nat) (nl : Nat) (la : Nat → Nat) (ch : Nat → List Nat) (S0 : Nat) (U0 : Nat) : Prop :=
  (RZ M S0 U0 nk nl) ∧
  (SH M x) ∧
  (RK M x c nk ka dp) ∧
  (RLs M x c nk ka ns nl la) ∧
  (RC M x c dp nl la ch) ∧
  (RS M x c ns nl) ∧
  (RT M x c) ∧
  (RA M x c nk ka)
theorem r0_z {M : Mem} {x : Nat} {c : Core} {nk : Nat} {ka : Nat → Nat} {dp : Nat → Nat} {ns : Nat} {nl : Nat} {la : Nat → Nat} {ch : Nat → List Nat} {S0 : Nat} {U0 : Nat} (H : R0 M x c nk ka dp ns nl la ch S0 U0) : RZ M S0 U0 nk nl := H.1
theorem r0_sh {M : Mem} {x : Nat} {c : Core} {nk : Nat} {ka : Nat → Nat} {dp : Nat → Nat} {ns : Nat} {nl : Nat} {la : Nat → Nat} {ch : Nat → List Nat} {S0 : Nat} {U0 : Nat} (H : R0 M x c nk ka dp ns nl la ch S0 U0) : SH M x := H.2.1
theorem r0_k {M : Mem} {x : Nat} {c : Core} {nk : Nat} {ka : Nat → Nat} {dp : Nat → Nat} {ns : Nat} {nl : Nat} {la : Nat → Nat} {ch : Nat → List Nat} {S0 : Nat} {U0 : Nat} (H : R0 M x c nk ka dp ns nl la ch S0 U0) : RK M x c nk ka dp := H.2.2.1
theorem r0_l {M : Mem} {x : Nat} {c : Core} {nk : Nat} {ka : Nat → Nat} {dp : Nat → Nat} {ns : Nat} {nl : Nat} {la : Nat → Nat} {ch : Nat → List Nat} {S0 : Nat} {U0 : Nat} (H : R0 M x c nk ka dp ns nl la ch S0 U0) : RLs M x c nk ka ns nl la := H.2.2.2.1
theorem r0_c {M : Mem} {x : Nat} {c : Core} {nk : Nat} {ka : Nat → Nat} {dp : Nat → Nat} {ns : Nat} {nl : Nat} {la : Nat → Nat} {ch : Nat → List Nat} {S0 : Nat} {U0 : Nat} (H : R0 M x c nk ka dp ns nl la ch S0 U0) : RC M x c dp nl la ch := H.2.2.2.2.1
theorem r0_s {M : Mem} {x : Nat} {c : Core} {nk : Nat} {ka : Nat → Nat} {dp : Nat → Nat} {ns : Nat} {nl : Nat} {la : Nat → Nat} {ch : Nat → List Nat} {S0 : Nat} {U0 : Nat} (H : R0 M x c nk ka dp ns nl la ch S0 U0) : RS M x c ns nl := H.2.2.2.2.2.1
theorem r0_t {M : Mem} {x : Nat} {c : Core} {nk : Nat} {ka : Nat → Nat} {dp : Nat → Nat} {ns : Nat} {nl : Nat} {la : Nat → Nat} {ch : Nat → List Nat} {S0 : Nat} {U0 : Nat} (H : R0 M x c nk ka dp ns nl la ch S0 U0) : RT M x c := H.2.2.2.2.2.2.1
theorem r0_a {M : Mem} {x : Nat} {c : Core} {nk : Nat} {ka : Nat → Nat} {dp : Nat → Nat} {ns : Nat} {nl : Nat} {la : Nat → Nat} {ch : Nat → List Nat} {S0 : Nat} {U0 : Nat} (H : R0 M x c nk ka dp ns nl la ch S0 U0) : RA M x c nk ka := H.2.2.2.2.2.2.2
/-- between two calls -/
def Rel (M : Mem) (x h S0 U0 : Nat) : Prop := RM M h ∧ ∃ (nk : Nat) (ka dp : Nat → Nat) (ns nl : Nat) (la : Nat → Nat) (ch : Nat → List Nat) (cu nf lg wf : Nat), R0 M x (core M h) nk ka dp ns nl la ch S0 U0 ∧ RP M x (core M h) cu nf lg ∧ RV M x (core M h) ∧ (mI M 1003 (x + 17) 0) = 0 ∧ (mI M 1002 (x + 17) 0) = nI wf ∧ wf < 40

