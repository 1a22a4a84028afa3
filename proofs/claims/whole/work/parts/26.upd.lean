/-! What a write elsewhere leaves of the parts of the relation -/
theorem KI_sI {M : Mem} {x : Nat} {c : Core} {ka : Nat → Nat} {dp : Nat → Nat} {i : Nat} {k q j : Nat} {v : Int32} (h300 : ¬ 300 = k) (h301 : ¬ 301 = k) : KI (sI M k q j v) x (c) ka dp i = KI (M) x (c) ka dp i := by
  simp only [KI, mK_sI, mN_sI, mI_sI, mL_sI, mR_sI, h300, h301, false_and, if_false]
theorem KI_sL {M : Mem} {x : Nat} {c : Core} {ka : Nat → Nat} {dp : Nat → Nat} {i : Nat} {k q j : Nat} {v : Int64} (h302 : ¬ 302 = k) (h303 : ¬ 303 = k) : KI (sL M k q j v) x (c) ka dp i = KI (M) x (c) ka dp i := by
  simp only [KI, mK_sL, mN_sL, mI_sL, mL_sL, mR_sL, h302, h303, false_and, if_false]
theorem KI_sR {M : Mem} {x : Nat} {c : Core} {ka : Nat → Nat} {dp : Nat → Nat} {i : Nat} {k q j : Nat} {v : Option Nat} (h5022007 : ¬ 5022007 = k) : KI (sR M k q j v) x (c) ka dp i = KI (M) x (c) ka dp i := by
  simp only [KI, mK_sR, mN_sR, mI_sR, mL_sR, mR_sR, h5022007, false_and, if_false]
theorem KI_wI {M : Mem} {x : Nat} {c : Core} {ka : Nat → Nat} {dp : Nat → Nat} {i : Nat} {k q : Nat} {f : Nat → Int32} (h300 : ¬ 300 = k) (h301 : ¬ 301 = k) : KI (wI M k q f) x (c) ka dp i = KI (M) x (c) ka dp i := by
  simp only [KI, mK_wI, mN_wI, mI_wI, mL_wI, mR_wI, h300, h301, false_and, if_false]
theorem KI_wL {M : Mem} {x : Nat} {c : Core} {ka : Nat → Nat} {dp : Nat → Nat} {i : Nat} {k q : Nat} {f : Nat → Int64} (h302 : ¬ 302 = k) (h303 : ¬ 303 = k) : KI (wL M k q f) x (c) ka dp i = KI (M) x (c) ka dp i := by
  simp only [KI, mK_wL, mN_wL, mI_wL, mL_wL, mR_wL, h302, h303, false_and, if_false]
theorem KI_uI {M : Mem} {x : Nat} {c : Core} {ka : Nat → Nat} {dp : Nat → Nat} {i : Nat} {k j : Nat} {v : Int32} (h1 : ¬ 1 = k) : KI (M) x (uI c k j v) ka dp i = KI (M) x (c) ka dp i := by
  simp only [KI, kI_uI, kL_uI, h1, false_and, if_false]
theorem KI_uL {M : Mem} {x : Nat} {c : Core} {ka : Nat → Nat} {dp : Nat → Nat} {i : Nat} {k j : Nat} {v : Int64} (h2 : ¬ 2 = k) : KI (M) x (uL c k j v) ka dp i = KI (M) x (c) ka dp i := by
  simp only [KI, kI_uL, kL_uL, h2, false_and, if_false]
theorem KI_wcI {M : Mem} {x : Nat} {c : Core} {ka : Nat → Nat} {dp : Nat → Nat} {i : Nat} {k : Nat} {f : Nat → Int32} (h1 : ¬ 1 = k) : KI (M) x (wcI c k f) ka dp i = KI (M) x (c) ka dp i := by
  simp only [KI, kI_wcI, kL_wcI, h1, false_and, if_false]
theorem KI_wcL {M : Mem} {x : Nat} {c : Core} {ka : Nat → Nat} {dp : Nat → Nat} {i : Nat} {k : Nat} {f : Nat → Int64} (h2 : ¬ 2 = k) : KI (M) x (wcL c k f) ka dp i = KI (M) x (c) ka dp i := by
  simp only [KI, kI_wcL, kL_wcL, h2, false_and, if_false]
theorem RK_sI {M : Mem} {x : Nat} {c : Core} {nk : Nat} {ka : Nat → Nat} {dp : Nat → Nat} {k q j : Nat} {v : Int32} (h300 : ¬ 300 = k) (h301 : ¬ 301 = k) (h401 : ¬ 401 = k) : RK (sI M k q j v) x (c) nk ka dp = RK (M) x (c) nk ka dp := by
  simp only [RK, KI, mK_sI, mN_sI, mI_sI, mL_sI, mR_sI, h300, h301, h401, false_and, if_false]
theorem RK_sL {M : Mem} {x : Nat} {c : Core} {nk : Nat} {ka : Nat → Nat} {dp : Nat → Nat} {k q j : Nat} {v : Int64} (h302 : ¬ 302 = k) (h303 : ¬ 303 = k) : RK (sL M k q j v) x (c) nk ka dp = RK (M) x (c) nk ka dp := by
  simp only [RK, KI, mK_sL, mN_sL, mI_sL, mL_sL, mR_sL, h302, h303, false_and, if_false]
theorem RK_sR {M : Mem} {x : Nat} {c : Core} {nk : Nat} {ka : Nat → Nat} {dp : Nat → Nat} {k q j : Nat} {v : Option Nat} (h5022007 : ¬ 5022007 = k) : RK (sR M k q j v) x (c) nk ka dp = RK (M) x (c) nk ka dp := by
  simp only [RK, KI, mK_sR, mN_sR, mI_sR, mL_sR, mR_sR, h5022007, false_and, if_false]
theorem RK_wI {M : Mem} {x : Nat} {c : Core} {nk : Nat} {ka : Nat → Nat} {dp : Nat → Nat} {k q : Nat} {f : Nat → Int32} (h300 : ¬ 300 = k) (h301 : ¬ 301 = k) (h401 : ¬ 401 = k) : RK (wI M k q f) x (c) nk ka dp = RK (M) x (c) nk ka dp := by
  simp only [RK, KI, mK_wI, mN_wI, mI_wI, mL_wI, mR_wI, h300, h301, h401, false_and, if_false]
theorem RK_wL {M : Mem} {x : Nat} {c : Core} {nk : Nat} {ka : Nat → Nat} {dp : Nat → Nat} {k q : Nat} {f : Nat → Int64} (h302 : ¬ 302 = k) (h303 : ¬ 303 = k) : RK (wL M k q f) x (c) nk ka dp = RK (M) x (c) nk ka dp := by
  simp only [RK, KI, mK_wL, mN_wL, mI_wL, mL_wL, mR_wL, h302, h303, false_and, if_false]
theorem RK_uI {M : Mem} {x : Nat} {c : Core} {nk : Nat} {ka : Nat → Nat} {dp : Nat → Nat} {k j : Nat} {v : Int32} (h0 : ¬ 0 = k) (h1 : ¬ 1 = k) : RK (M) x (uI c k j v) nk ka dp = RK (M) x (c) nk ka dp := by
  simp only [RK, KI, kI_uI, kL_uI, h0, h1, false_and, if_false]
theorem RK_uL {M : Mem} {x : Nat} {c : Core} {nk : Nat} {ka : Nat → Nat} {dp : Nat → Nat} {k j : Nat} {v : Int64} (h2 : ¬ 2 = k) : RK (M) x (uL c k j v) nk ka dp = RK (M) x (c) nk ka dp := by
  simp only [RK, KI, kI_uL, kL_uL, h2, false_and, if_false]
theorem RK_wcI {M : Mem} {x : Nat} {c : Core} {nk : Nat} {ka : Nat → Nat} {dp : Nat → Nat} {k : Nat} {f : Nat → Int32} (h0 : ¬ 0 = k) (h1 : ¬ 1 = k) : RK (M) x (wcI c k f) nk ka dp = RK (M) x (c) nk ka dp := by
  simp only [RK, KI, kI_wcI, kL_wcI, h0, h1, false_and, if_false]
theorem RK_wcL {M : Mem} {x : Nat} {c : Core} {nk : Nat} {ka : Nat → Nat} {dp : Nat → Nat} {k : Nat} {f : Nat → Int64} (h2 : ¬ 2 = k) : RK (M) x (wcL c k f) nk ka dp = RK (M) x (c) nk ka dp := by
  simp only [RK, KI, kI_wcL, kL_wcL, h2, false_and, if_false]
theorem LI_sI {M : Mem} {x : Nat} {c : Core} {nk : Nat} {ka : Nat → Nat} {ns : Nat} {a : Nat} {l : Nat} {k q j : Nat} {v : Int32} (h500 : ¬ 500 = k) (h502 : ¬ 502 = k) (h503 : ¬ 503 = k) (h504 : ¬ 504 = k) (h508 : ¬ 508 = k) (h509 : ¬ 509 = k) (h510 : ¬ 510 = k) (h511 : ¬ 511 = k) (h602 : ¬ 602 = k) (h1029007 : ¬ 1029007 = k) (h1029015 : ¬ 1029015 = k) : LI (sI M k q j v) x (c) nk ka ns a l = LI (M) x (c) nk ka ns a l := by
  simp only [LI, mK_sI, mN_sI, mI_sI, mL_sI, mR_sI, h500, h502, h503, h504, h508, h509, h510, h511, h602, h1029007, h1029015, false_and, if_false]
theorem LI_sL {M : Mem} {x : Nat} {c : Core} {nk : Nat} {ka : Nat → Nat} {ns : Nat} {a : Nat} {l : Nat} {k q j : Nat} {v : Int64} (h506 : ¬ 506 = k) (h507 : ¬ 507 = k) : LI (sL M k q j v) x (c) nk ka ns a l = LI (M) x (c) nk ka ns a l := by
  simp only [LI, mK_sL, mN_sL, mI_sL, mL_sL, mR_sL, h506, h507, false_and, if_false]
theorem LI_sR {M : Mem} {x : Nat} {c : Core} {nk : Nat} {ka : Nat → Nat} {ns : Nat} {a : Nat} {l : Nat} {k q j : Nat} {v : Option Nat} (h501 : ¬ 501 = k) (h505 : ¬ 505 = k) (h600 : ¬ 600 = k) (h601 : ¬ 601 = k) (h6006008 : ¬ 6006008 = k) : LI (sR M k q j v) x (c) nk ka ns a l = LI (M) x (c) nk ka ns a l := by
  simp only [LI, mK_sR, mN_sR, mI_sR, mL_sR, mR_sR, h501, h505, h600, h601, h6006008, false_and, if_false]
theorem LI_wI {M : Mem} {x : Nat} {c : Core} {nk : Nat} {ka : Nat → Nat} {ns : Nat} {a : Nat} {l : Nat} {k q : Nat} {f : Nat → Int32} (h500 : ¬ 500 = k) (h502 : ¬ 502 = k) (h503 : ¬ 503 = k) (h504 : ¬ 504 = k) (h508 : ¬ 508 = k) (h509 : ¬ 509 = k) (h510 : ¬ 510 = k) (h511 : ¬ 511 = k) (h602 : ¬ 602 = k) (h1029007 : ¬ 1029007 = k) (h1029015 : ¬ 1029015 = k) : LI (wI M k q f) x (c) nk ka ns a l = LI (M) x (c) nk ka ns a l := by
  simp only [LI, mK_wI, mN_wI, mI_wI, mL_wI, mR_wI, h500, h502, h503, h504, h508, h509, h510, h511, h602, h1029007, h1029015, false_and, if_false]
theorem LI_wL {M : Mem} {x : Nat} {c : Core} {nk : Nat} {ka : Nat → Nat} {ns : Nat} {a : Nat} {l : Nat} {k q : Nat} {f : Nat → Int64} (h506 : ¬ 506 = k) (h507 : ¬ 507 = k) : LI (wL M k q f) x (c) nk ka ns a l = LI (M) x (c) nk ka ns a l := by
  simp only [LI, mK_wL, mN_wL, mI_wL, mL_wL, mR_wL, h506, h507, false_and, if_false]
theorem LI_uI {M : Mem} {x : Nat} {c : Core} {nk : Nat} {ka : Nat → Nat} {ns : Nat} {a : Nat} {l : Nat} {k j : Nat} {v : Int32} (h6 : ¬ 6 = k) (h7 : ¬ 7 = k) (h8 : ¬ 8 = k) (h9 : ¬ 9 = k) (h12 : ¬ 12 = k) (h13 : ¬ 13 = k) (h14 : ¬ 14 = k) (h15 : ¬ 15 = k) (h16 : ¬ 16 = k) (h17 : ¬ 17 = k) (h18 : ¬ 18 = k) : LI (M) x (uI c k j v) nk ka ns a l = LI (M) x (c) nk ka ns a l := by
  simp only [LI, kI_uI, kL_uI, h6, h7, h8, h9, h12, h13, h14, h15, h16, h17, h18, false_and, if_false]
theorem LI_uL {M : Mem} {x : Nat} {c : Core} {nk : Nat} {ka : Nat → Nat} {ns : Nat} {a : Nat} {l : Nat} {k j : Nat} {v : Int64} (h10 : ¬ 10 = k) (h11 : ¬ 11 = k) : LI (M) x (uL c k j v) nk ka ns a l = LI (M) x (c) nk ka ns a l := by
  simp only [LI, kI_uL, kL_uL, h10, h11, false_and, if_false]
theorem LI_wcI {M : Mem} {x : Nat} {c : Core} {nk : Nat} {ka : Nat → Nat} {ns : Nat} {a : Nat} {l : Nat} {k : Nat} {f : Nat → Int32} (h6 : ¬ 6 = k) (h7 : ¬ 7 = k) (h8 : ¬ 8 = k) (h9 : ¬ 9 = k) (h12 : ¬ 12 = k) (h13 : ¬ 13 = k) (h14 : ¬ 14 = k) (h15 : ¬ 15 = k) (h16 : ¬ 16 = k) (h17 : ¬ 17 = k) (h18 : ¬ 18 = k) : LI (M) x (wcI c k f) nk ka ns a l = LI (M) x (c) nk ka ns a l := by
  simp only [LI, kI_wcI, kL_wcI, h6, h7, h8, h9, h12, h13, h14, h15, h16, h17, h18, false_and, if_false]
theorem LI_wcL {M : Mem} {x : Nat} {c : Core} {nk : Nat} {ka : Nat → Nat} {ns : Nat} {a : Nat} {l : Nat} {k : Nat} {f : Nat → Int64} (h10 : ¬ 10 = k) (h11 : ¬ 11 = k) : LI (M) x (wcL c k f) nk ka ns a l = LI (M) x (c) nk ka ns a l := by
  simp only [LI, kI_wcL, kL_wcL, h10, h11, false_and, if_false]
theorem RLs_sI {M : Mem} {x : Nat} {c : Core} {nk : Nat} {ka : Nat → Nat} {ns : Nat} {nl : Nat} {la : Nat → Nat} {k q j : Nat} {v : Int32} (h203 : ¬ 203 = k) (h500 : ¬ 500 = k) (h502 : ¬ 502 = k) (h503 : ¬ 503 = k) (h504 : ¬ 504 = k) (h508 : ¬ 508 = k) (h509 : ¬ 509 = k) (h510 : ¬ 510 = k) (h511 : ¬ 511 = k) (h602 : ¬ 602 = k) (h1029007 : ¬ 1029007 = k) (h1029015 : ¬ 1029015 = k) : RLs (sI M k q j v) x (c) nk ka ns nl la = RLs (M) x (c) nk ka ns nl la := by
  simp only [RLs, LI, mK_sI, mN_sI, mI_sI, mL_sI, mR_sI, h203, h500, h502, h503, h504, h508, h509, h510, h511, h602, h1029007, h1029015, false_and, if_false]
theorem RLs_sL {M : Mem} {x : Nat} {c : Core} {nk : Nat} {ka : Nat → Nat} {ns : Nat} {nl : Nat} {la : Nat → Nat} {k q j : Nat} {v : Int64} (h506 : ¬ 506 = k) (h507 : ¬ 507 = k) : RLs (sL M k q j v) x (c) nk ka ns nl la = RLs (M) x (c) nk ka ns nl la := by
  simp only [RLs, LI, mK_sL, mN_sL, mI_sL, mL_sL, mR_sL, h506, h507, false_and, if_false]
theorem RLs_sR {M : Mem} {x : Nat} {c : Core} {nk : Nat} {ka : Nat → Nat} {ns : Nat} {nl : Nat} {la : Nat → Nat} {k q j : Nat} {v : Option Nat} (h501 : ¬ 501 = k) (h505 : ¬ 505 = k) (h600 : ¬ 600 = k) (h601 : ¬ 601 = k) (h6006008 : ¬ 6006008 = k) : RLs (sR M k q j v) x (c) nk ka ns nl la = RLs (M) x (c) nk ka ns nl la := by
  simp only [RLs, LI, mK_sR, mN_sR, mI_sR, mL_sR, mR_sR, h501, h505, h600, h601, h6006008, false_and, if_false]
theorem RLs_wI {M : Mem} {x : Nat} {c : Core} {nk : Nat} {ka : Nat → Nat} {ns : Nat} {nl : Nat} {la : Nat → Nat} {k q : Nat} {f : Nat → Int32} (h203 : ¬ 203 = k) (h500 : ¬ 500 = k) (h502 : ¬ 502 = k) (h503 : ¬ 503 = k) (h504 : ¬ 504 = k) (h508 : ¬ 508 = k) (h509 : ¬ 509 = k) (h510 : ¬ 510 = k) (h511 : ¬ 511 = k) (h602 : ¬ 602 = k) (h1029007 : ¬ 1029007 = k) (h1029015 : ¬ 1029015 = k) : RLs (wI M k q f) x (c) nk ka ns nl la = RLs (M) x (c) nk ka ns nl la := by
  simp only [RLs, LI, mK_wI, mN_wI, mI_wI, mL_wI, mR_wI, h203, h500, h502, h503, h504, h508, h509, h510, h511, h602, h1029007, h1029015, false_and, if_false]
theorem RLs_wL {M : Mem} {x : Nat} {c : Core} {nk : Nat} {ka : Nat → Nat} {ns : Nat} {nl : Nat} {la : Nat → Nat} {k q : Nat} {f : Nat → Int64} (h506 : ¬ 506 = k) (h507 : ¬ 507 = k) : RLs (wL M k q f) x (c) nk ka ns nl la = RLs (M) x (c) nk ka ns nl la := by
  simp only [RLs, LI, mK_wL, mN_wL, mI_wL, mL_wL, mR_wL, h506, h507, false_and, if_false]
theorem RLs_uI {M : Mem} {x : Nat} {c : Core} {nk : Nat} {ka : Nat → Nat} {ns : Nat} {nl : Nat} {la : Nat → Nat} {k j : Nat} {v : Int32} (h5 : ¬ 5 = k) (h6 : ¬ 6 = k) (h7 : ¬ 7 = k) (h8 : ¬ 8 = k) (h9 : ¬ 9 = k) (h12 : ¬ 12 = k) (h13 : ¬ 13 = k) (h14 : ¬ 14 = k) (h15 : ¬ 15 = k) (h16 : ¬ 16 = k) (h17 : ¬ 17 = k) (h18 : ¬ 18 = k) : RLs (M) x (uI c k j v) nk ka ns nl la = RLs (M) x (c) nk ka ns nl la := by
  simp only [RLs, LI, kI_uI, kL_uI, h5, h6, h7, h8, h9, h12, h13, h14, h15, h16, h17, h18, false_and, if_false]
theorem RLs_uL {M : Mem} {x : Nat} {c : Core} {nk : Nat} {ka : Nat → Nat} {ns : Nat} {nl : Nat} {la : Nat → Nat} {k j : Nat} {v : Int64} (h10 : ¬ 10 = k) (h11 : ¬ 11 = k) : RLs (M) x (uL c k j v) nk ka ns nl la = RLs (M) x (c) nk ka ns nl la := by
  simp only [RLs, LI, kI_uL, kL_uL, h10, h11, false_and, if_false]
theorem RLs_wcI {M : Mem} {x : Nat} {c : Core} {nk : Nat} {ka : Nat → Nat} {ns : Nat} {nl : Nat} {la : Nat → Nat} {k : Nat} {f : Nat → Int32} (h5 : ¬ 5 = k) (h6 : ¬ 6 = k) (h7 : ¬ 7 = k) (h8 : ¬ 8 = k) (h9 : ¬ 9 = k) (h12 : ¬ 12 = k) (h13 : ¬ 13 = k) (h14 : ¬ 14 = k) (h15 : ¬ 15 = k) (h16 : ¬ 16 = k) (h17 : ¬ 17 = k) (h18 : ¬ 18 = k) : RLs (M) x (wcI c k f) nk ka ns nl la = RLs (M) x (c) nk ka ns nl la := by
  simp only [RLs, LI, kI_wcI, kL_wcI, h5, h6, h7, h8, h9, h12, h13, h14, h15, h16, h17, h18, false_and, if_false]
theorem RLs_wcL {M : Mem} {x : Nat} {c : Core} {nk : Nat} {ka : Nat → Nat} {ns : Nat} {nl : Nat} {la : Nat → Nat} {k : Nat} {f : Nat → Int64} (h10 : ¬ 10 = k) (h11 : ¬ 11 = k) : RLs (M) x (wcL c k f) nk ka ns nl la = RLs (M) x (c) nk ka ns nl la := by
  simp only [RLs, LI, kI_wcL, kL_wcL, h10, h11, false_and, if_false]
theorem CI_sI {M : Mem} {x : Nat} {c : Core} {dp : Nat → Nat} {nl : Nat} {la : Nat → Nat} {p : Nat} {L : List Nat} {k q j : Nat} {v : Int32}  : CI (sI M k q j v) x (c) dp nl la p L = CI (M) x (c) dp nl la p L := by
  rfl
theorem CI_sL {M : Mem} {x : Nat} {c : Core} {dp : Nat → Nat} {nl : Nat} {la : Nat → Nat} {p : Nat} {L : List Nat} {k q j : Nat} {v : Int64}  : CI (sL M k q j v) x (c) dp nl la p L = CI (M) x (c) dp nl la p L := by
  rfl
theorem CI_sR {M : Mem} {x : Nat} {c : Core} {dp : Nat → Nat} {nl : Nat} {la : Nat → Nat} {p : Nat} {L : List Nat} {k q j : Nat} {v : Option Nat} (h512 : ¬ 512 = k) (h6006016 : ¬ 6006016 = k) : CI (sR M k q j v) x (c) dp nl la p L = CI (M) x (c) dp nl la p L := by
  simp only [CI, dqc, mK_sR, mN_sR, mI_sR, mL_sR, mR_sR, h512, h6006016, false_and, if_false]
theorem CI_wI {M : Mem} {x : Nat} {c : Core} {dp : Nat → Nat} {nl : Nat} {la : Nat → Nat} {p : Nat} {L : List Nat} {k q : Nat} {f : Nat → Int32}  : CI (wI M k q f) x (c) dp nl la p L = CI (M) x (c) dp nl la p L := by
  rfl
theorem CI_wL {M : Mem} {x : Nat} {c : Core} {dp : Nat → Nat} {nl : Nat} {la : Nat → Nat} {p : Nat} {L : List Nat} {k q : Nat} {f : Nat → Int64}  : CI (wL M k q f) x (c) dp nl la p L = CI (M) x (c) dp nl la p L := by
  rfl
theorem CI_uI {M : Mem} {x : Nat} {c : Core} {dp : Nat → Nat} {nl : Nat} {la : Nat → Nat} {p : Nat} {L : List Nat} {k j : Nat} {v : Int32} (h6 : ¬ 6 = k) (h7 : ¬ 7 = k) (h8 : ¬ 8 = k) : CI (M) x (uI c k j v) dp nl la p L = CI (M) x (c) dp nl la p L := by
  simp only [CI, dqc, kI_uI, kL_uI, h6, h7, h8, false_and, if_false]
theorem CI_uL {M : Mem} {x : Nat} {c : Core} {dp : Nat → Nat} {nl : Nat} {la : Nat → Nat} {p : Nat} {L : List Nat} {k j : Nat} {v : Int64}  : CI (M) x (uL c k j v) dp nl la p L = CI (M) x (c) dp nl la p L := by
  rfl
theorem CI_wcI {M : Mem} {x : Nat} {c : Core} {dp : Nat → Nat} {nl : Nat} {la : Nat → Nat} {p : Nat} {L : List Nat} {k : Nat} {f : Nat → Int32} (h6 : ¬ 6 = k) (h7 : ¬ 7 = k) (h8 : ¬ 8 = k) : CI (M) x (wcI c k f) dp nl la p L = CI (M) x (c) dp nl la p L := by
  simp only [CI, dqc, kI_wcI, kL_wcI, h6, h7, h8, false_and, if_false]
theorem CI_wcL {M : Mem} {x : Nat} {c : Core} {dp : Nat → Nat} {nl : Nat} {la : Nat → Nat} {p : Nat} {L : List Nat} {k : Nat} {f : Nat → Int64}  : CI (M) x (wcL c k f) dp nl la p L = CI (M) x (c) dp nl la p L := by
  rfl
theorem RC_sI {M : Mem} {x : Nat} {c : Core} {dp : Nat → Nat} {nl : Nat} {la : Nat → Nat} {ch : Nat → List Nat} {k q j : Nat} {v : Int32}  : RC (sI M k q j v) x (c) dp nl la ch = RC (M) x (c) dp nl la ch := by
  rfl
theorem RC_sL {M : Mem} {x : Nat} {c : Core} {dp : Nat → Nat} {nl : Nat} {la : Nat → Nat} {ch : Nat → List Nat} {k q j : Nat} {v : Int64}  : RC (sL M k q j v) x (c) dp nl la ch = RC (M) x (c) dp nl la ch := by
  rfl
theorem RC_sR {M : Mem} {x : Nat} {c : Core} {dp : Nat → Nat} {nl : Nat} {la : Nat → Nat} {ch : Nat → List Nat} {k q j : Nat} {v : Option Nat} (h512 : ¬ 512 = k) (h6006016 : ¬ 6006016 = k) : RC (sR M k q j v) x (c) dp nl la ch = RC (M) x (c) dp nl la ch := by
  simp only [RC, CI, dqc, mK_sR, mN_sR, mI_sR, mL_sR, mR_sR, h512, h6006016, false_and, if_false]
theorem RC_wI {M : Mem} {x : Nat} {c : Core} {dp : Nat → Nat} {nl : Nat} {la : Nat → Nat} {ch : Nat → List Nat} {k q : Nat} {f : Nat → Int32}  : RC (wI M k q f) x (c) dp nl la ch = RC (M) x (c) dp nl la ch := by
  rfl
theorem RC_wL {M : Mem} {x : Nat} {c : Core} {dp : Nat → Nat} {nl : Nat} {la : Nat → Nat} {ch : Nat → List Nat} {k q : Nat} {f : Nat → Int64}  : RC (wL M k q f) x (c) dp nl la ch = RC (M) x (c) dp nl la ch := by
  rfl
theorem RC_uI {M : Mem} {x : Nat} {c : Core} {dp : Nat → Nat} {nl : Nat} {la : Nat → Nat} {ch : Nat → List Nat} {k j : Nat} {v : Int32} (h6 : ¬ 6 = k) (h7 : ¬ 7 = k) (h8 : ¬ 8 = k) : RC (M) x (uI c k j v) dp nl la ch = RC (M) x (c) dp nl la ch := by
  simp only [RC, CI, dqc, kI_uI, kL_uI, h6, h7, h8, false_and, if_false]
theorem RC_uL {M : Mem} {x : Nat} {c : Core} {dp : Nat → Nat} {nl : Nat} {la : Nat → Nat} {ch : Nat → List Nat} {k j : Nat} {v : Int64}  : RC (M) x (uL c k j v) dp nl la ch = RC (M) x (c) dp nl la ch := by
  rfl
theorem RC_wcI {M : Mem} {x : Nat} {c : Core} {dp : Nat → Nat} {nl : Nat} {la : Nat → Nat} {ch : Nat → List Nat} {k : Nat} {f : Nat → Int32} (h6 : ¬ 6 = k) (h7 : ¬ 7 = k) (h8 : ¬ 8 = k) : RC (M) x (wcI c k f) dp nl la ch = RC (M) x (c) dp nl la ch := by
  simp only [RC, CI, dqc, kI_wcI, kL_wcI, h6, h7, h8, false_and, if_false]
theorem RC_wcL {M : Mem} {x : Nat} {c : Core} {dp : Nat → Nat} {nl : Nat} {la : Nat → Nat} {ch : Nat → List Nat} {k : Nat} {f : Nat → Int64}  : RC (M) x (wcL c k f) dp nl la ch = RC (M) x (c) dp nl la ch := by
  rfl
theorem RS_sI {M : Mem} {x : Nat} {c : Core} {ns : Nat} {nl : Nat} {k q j : Nat} {v : Int32} (h204 : ¬ 204 = k) (h205 : ¬ 205 = k) (h206 : ¬ 206 = k) (h3006025 : ¬ 3006025 = k) : RS (sI M k q j v) x (c) ns nl = RS (M) x (c) ns nl := by
  simp only [RS, mK_sI, mN_sI, mI_sI, mL_sI, mR_sI, h204, h205, h206, h3006025, false_and, if_false]
theorem RS_sL {M : Mem} {x : Nat} {c : Core} {ns : Nat} {nl : Nat} {k q j : Nat} {v : Int64}  : RS (sL M k q j v) x (c) ns nl = RS (M) x (c) ns nl := by
  rfl
theorem RS_sR {M : Mem} {x : Nat} {c : Core} {ns : Nat} {nl : Nat} {k q j : Nat} {v : Option Nat}  : RS (sR M k q j v) x (c) ns nl = RS (M) x (c) ns nl := by
  rfl
theorem RS_wI {M : Mem} {x : Nat} {c : Core} {ns : Nat} {nl : Nat} {k q : Nat} {f : Nat → Int32} (h204 : ¬ 204 = k) (h205 : ¬ 205 = k) (h206 : ¬ 206 = k) (h3006025 : ¬ 3006025 = k) : RS (wI M k q f) x (c) ns nl = RS (M) x (c) ns nl := by
  simp only [RS, mK_wI, mN_wI, mI_wI, mL_wI, mR_wI, h204, h205, h206, h3006025, false_and, if_false]
theorem RS_wL {M : Mem} {x : Nat} {c : Core} {ns : Nat} {nl : Nat} {k q : Nat} {f : Nat → Int64}  : RS (wL M k q f) x (c) ns nl = RS (M) x (c) ns nl := by
  rfl
theorem RS_uI {M : Mem} {x : Nat} {c : Core} {ns : Nat} {nl : Nat} {k j : Nat} {v : Int32} (h3 : ¬ 3 = k) (h4 : ¬ 4 = k) (h13 : ¬ 13 = k) : RS (M) x (uI c k j v) ns nl = RS (M) x (c) ns nl := by
  simp only [RS, kI_uI, kL_uI, h3, h4, h13, false_and, if_false]
theorem RS_uL {M : Mem} {x : Nat} {c : Core} {ns : Nat} {nl : Nat} {k j : Nat} {v : Int64}  : RS (M) x (uL c k j v) ns nl = RS (M) x (c) ns nl := by
  rfl
theorem RS_wcI {M : Mem} {x : Nat} {c : Core} {ns : Nat} {nl : Nat} {k : Nat} {f : Nat → Int32} (h3 : ¬ 3 = k) (h4 : ¬ 4 = k) (h13 : ¬ 13 = k) : RS (M) x (wcI c k f) ns nl = RS (M) x (c) ns nl := by
  simp only [RS, kI_wcI, kL_wcI, h3, h4, h13, false_and, if_false]
theorem RS_wcL {M : Mem} {x : Nat} {c : Core} {ns : Nat} {nl : Nat} {k : Nat} {f : Nat → Int64}  : RS (M) x (wcL c k f) ns nl = RS (M) x (c) ns nl := by
  rfl
theorem TI_sI {M : Mem} {c : Core} {a : Nat} {b : Nat} {t : Nat} {k q j : Nat} {v : Int32} (h901 : ¬ 901 = k) (h902 : ¬ 902 = k) : TI (sI M k q j v) (c) a b t = TI (M) (c) a b t := by
  simp only [TI, mK_sI, mN_sI, mI_sI, mL_sI, mR_sI, h901, h902, false_and, if_false]
theorem TI_sL {M : Mem} {c : Core} {a : Nat} {b : Nat} {t : Nat} {k q j : Nat} {v : Int64} (h2050007 : ¬ 2050007 = k) : TI (sL M k q j v) (c) a b t = TI (M) (c) a b t := by
  simp only [TI, mK_sL, mN_sL, mI_sL, mL_sL, mR_sL, h2050007, false_and, if_false]
theorem TI_sR {M : Mem} {c : Core} {a : Nat} {b : Nat} {t : Nat} {k q j : Nat} {v : Option Nat}  : TI (sR M k q j v) (c) a b t = TI (M) (c) a b t := by
  rfl
theorem TI_wI {M : Mem} {c : Core} {a : Nat} {b : Nat} {t : Nat} {k q : Nat} {f : Nat → Int32} (h901 : ¬ 901 = k) (h902 : ¬ 902 = k) : TI (wI M k q f) (c) a b t = TI (M) (c) a b t := by
  simp only [TI, mK_wI, mN_wI, mI_wI, mL_wI, mR_wI, h901, h902, false_and, if_false]
theorem TI_wL {M : Mem} {c : Core} {a : Nat} {b : Nat} {t : Nat} {k q : Nat} {f : Nat → Int64} (h2050007 : ¬ 2050007 = k) : TI (wL M k q f) (c) a b t = TI (M) (c) a b t := by
  simp only [TI, mK_wL, mN_wL, mI_wL, mL_wL, mR_wL, h2050007, false_and, if_false]
theorem TI_uI {M : Mem} {c : Core} {a : Nat} {b : Nat} {t : Nat} {k j : Nat} {v : Int32} (h19 : ¬ 19 = k) (h20 : ¬ 20 = k) : TI (M) (uI c k j v) a b t = TI (M) (c) a b t := by
  simp only [TI, kI_uI, kL_uI, h19, h20, false_and, if_false]
theorem TI_uL {M : Mem} {c : Core} {a : Nat} {b : Nat} {t : Nat} {k j : Nat} {v : Int64} (h21 : ¬ 21 = k) : TI (M) (uL c k j v) a b t = TI (M) (c) a b t := by
  simp only [TI, kI_uL, kL_uL, h21, false_and, if_false]
theorem TI_wcI {M : Mem} {c : Core} {a : Nat} {b : Nat} {t : Nat} {k : Nat} {f : Nat → Int32} (h19 : ¬ 19 = k) (h20 : ¬ 20 = k) : TI (M) (wcI c k f) a b t = TI (M) (c) a b t := by
  simp only [TI, kI_wcI, kL_wcI, h19, h20, false_and, if_false]
theorem TI_wcL {M : Mem} {c : Core} {a : Nat} {b : Nat} {t : Nat} {k : Nat} {f : Nat → Int64} (h21 : ¬ 21 = k) : TI (M) (wcL c k f) a b t = TI (M) (c) a b t := by
  simp only [TI, kI_wcL, kL_wcL, h21, false_and, if_false]
theorem RT_sI {M : Mem} {x : Nat} {c : Core} {k q j : Nat} {v : Int32} (h901 : ¬ 901 = k) (h902 : ¬ 902 = k) : RT (sI M k q j v) x (c) = RT (M) x (c) := by
  simp only [RT, TI, mK_sI, mN_sI, mI_sI, mL_sI, mR_sI, h901, h902, false_and, if_false]
theorem RT_sL {M : Mem} {x : Nat} {c : Core} {k q j : Nat} {v : Int64} (h2050007 : ¬ 2050007 = k) : RT (sL M k q j v) x (c) = RT (M) x (c) := by
  simp only [RT, TI, mK_sL, mN_sL, mI_sL, mL_sL, mR_sL, h2050007, false_and, if_false]
theorem RT_sR {M : Mem} {x : Nat} {c : Core} {k q j : Nat} {v : Option Nat}  : RT (sR M k q j v) x (c) = RT (M) x (c) := by
  rfl
theorem RT_wI {M : Mem} {x : Nat} {c : Core} {k q : Nat} {f : Nat → Int32} (h901 : ¬ 901 = k) (h902 : ¬ 902 = k) : RT (wI M k q f) x (c) = RT (M) x (c) := by
  simp only [RT, TI, mK_wI, mN_wI, mI_wI, mL_wI, mR_wI, h901, h902, false_and, if_false]
theorem RT_wL {M : Mem} {x : Nat} {c : Core} {k q : Nat} {f : Nat → Int64} (h2050007 : ¬ 2050007 = k) : RT (wL M k q f) x (c) = RT (M) x (c) := by
  simp only [RT, TI, mK_wL, mN_wL, mI_wL, mL_wL, mR_wL, h2050007, false_and, if_false]
theorem RT_uI {M : Mem} {x : Nat} {c : Core} {k j : Nat} {v : Int32} (h19 : ¬ 19 = k) (h20 : ¬ 20 = k) : RT (M) x (uI c k j v) = RT (M) x (c) := by
  simp only [RT, TI, kI_uI, kL_uI, h19, h20, false_and, if_false]
theorem RT_uL {M : Mem} {x : Nat} {c : Core} {k j : Nat} {v : Int64} (h21 : ¬ 21 = k) : RT (M) x (uL c k j v) = RT (M) x (c) := by
  simp only [RT, TI, kI_uL, kL_uL, h21, false_and, if_false]
theorem RT_wcI {M : Mem} {x : Nat} {c : Core} {k : Nat} {f : Nat → Int32} (h19 : ¬ 19 = k) (h20 : ¬ 20 = k) : RT (M) x (wcI c k f) = RT (M) x (c) := by
  simp only [RT, TI, kI_wcI, kL_wcI, h19, h20, false_and, if_false]
theorem RT_wcL {M : Mem} {x : Nat} {c : Core} {k : Nat} {f : Nat → Int64} (h21 : ¬ 21 = k) : RT (M) x (wcL c k f) = RT (M) x (c) := by
  simp only [RT, TI, kI_wcL, kL_wcL, h21, false_and, if_false]
theorem RA_sI {M : Mem} {x : Nat} {c : Core} {nk : Nat} {ka : Nat → Nat} {k q j : Nat} {v : Int32} (h2 : ¬ 2 = k) (h3 : ¬ 3 = k) : RA (sI M k q j v) x (c) nk ka = RA (M) x (c) nk ka := by
  simp only [RA, mK_sI, mN_sI, mI_sI, mL_sI, mR_sI, h2, h3, false_and, if_false]
theorem RA_sL {M : Mem} {x : Nat} {c : Core} {nk : Nat} {ka : Nat → Nat} {k q j : Nat} {v : Int64} (h2000016 : ¬ 2000016 = k) : RA (sL M k q j v) x (c) nk ka = RA (M) x (c) nk ka := by
  simp only [RA, mK_sL, mN_sL, mI_sL, mL_sL, mR_sL, h2000016, false_and, if_false]
theorem RA_sR {M : Mem} {x : Nat} {c : Core} {nk : Nat} {ka : Nat → Nat} {k q j : Nat} {v : Option Nat} (h5000007 : ¬ 5000007 = k) : RA (sR M k q j v) x (c) nk ka = RA (M) x (c) nk ka := by
  simp only [RA, mK_sR, mN_sR, mI_sR, mL_sR, mR_sR, h5000007, false_and, if_false]
theorem RA_wI {M : Mem} {x : Nat} {c : Core} {nk : Nat} {ka : Nat → Nat} {k q : Nat} {f : Nat → Int32} (h2 : ¬ 2 = k) (h3 : ¬ 3 = k) : RA (wI M k q f) x (c) nk ka = RA (M) x (c) nk ka := by
  simp only [RA, mK_wI, mN_wI, mI_wI, mL_wI, mR_wI, h2, h3, false_and, if_false]
theorem RA_wL {M : Mem} {x : Nat} {c : Core} {nk : Nat} {ka : Nat → Nat} {k q : Nat} {f : Nat → Int64} (h2000016 : ¬ 2000016 = k) : RA (wL M k q f) x (c) nk ka = RA (M) x (c) nk ka := by
  simp only [RA, mK_wL, mN_wL, mI_wL, mL_wL, mR_wL, h2000016, false_and, if_false]
theorem RA_uI {M : Mem} {x : Nat} {c : Core} {nk : Nat} {ka : Nat → Nat} {k j : Nat} {v : Int32} (h52 : ¬ 52 = k) (h53 : ¬ 53 = k) : RA (M) x (uI c k j v) nk ka = RA (M) x (c) nk ka := by
  simp only [RA, kI_uI, kL_uI, h52, h53, false_and, if_false]
theorem RA_uL {M : Mem} {x : Nat} {c : Core} {nk : Nat} {ka : Nat → Nat} {k j : Nat} {v : Int64} (h54 : ¬ 54 = k) : RA (M) x (uL c k j v) nk ka = RA (M) x (c) nk ka := by
  simp only [RA, kI_uL, kL_uL, h54, false_and, if_false]
theorem RA_wcI {M : Mem} {x : Nat} {c : Core} {nk : Nat} {ka : Nat → Nat} {k : Nat} {f : Nat → Int32} (h52 : ¬ 52 = k) (h53 : ¬ 53 = k) : RA (M) x (wcI c k f) nk ka = RA (M) x (c) nk ka := by
  simp only [RA, kI_wcI, kL_wcI, h52, h53, false_and, if_false]
theorem RA_wcL {M : Mem} {x : Nat} {c : Core} {nk : Nat} {ka : Nat → Nat} {k : Nat} {f : Nat → Int64} (h54 : ¬ 54 = k) : RA (M) x (wcL c k f) nk ka = RA (M) x (c) nk ka := by
  simp only [RA, kI_wcL, kL_wcL, h54, false_and, if_false]
theorem RP_sI {M : Mem} {x : Nat} {c : Core} {cu : Nat} {nf : Nat} {lg : Nat} {k q j : Nat} {v : Int32} (h704 : ¬ 704 = k) (h705 : ¬ 705 = k) (h706 : ¬ 706 = k) (h707 : ¬ 707 = k) (h708 : ¬ 708 = k) (h709 : ¬ 709 = k) (h1032015 : ¬ 1032015 = k) (h1032023 : ¬ 1032023 = k) (h1032031 : ¬ 1032031 = k) : RP (sI M k q j v) x (c) cu nf lg = RP (M) x (c) cu nf lg := by
  simp only [RP, mK_sI, mN_sI, mI_sI, mL_sI, mR_sI, h704, h705, h706, h707, h708, h709, h1032015, h1032023, h1032031, false_and, if_false]
theorem RP_sL {M : Mem} {x : Nat} {c : Core} {cu : Nat} {nf : Nat} {lg : Nat} {k q j : Nat} {v : Int64} (h2032007 : ¬ 2032007 = k) : RP (sL M k q j v) x (c) cu nf lg = RP (M) x (c) cu nf lg := by
  simp only [RP, mK_sL, mN_sL, mI_sL, mL_sL, mR_sL, h2032007, false_and, if_false]
theorem RP_sR {M : Mem} {x : Nat} {c : Core} {cu : Nat} {nf : Nat} {lg : Nat} {k q j : Nat} {v : Option Nat}  : RP (sR M k q j v) x (c) cu nf lg = RP (M) x (c) cu nf lg := by
  rfl
theorem RP_wI {M : Mem} {x : Nat} {c : Core} {cu : Nat} {nf : Nat} {lg : Nat} {k q : Nat} {f : Nat → Int32} (h704 : ¬ 704 = k) (h705 : ¬ 705 = k) (h706 : ¬ 706 = k) (h707 : ¬ 707 = k) (h708 : ¬ 708 = k) (h709 : ¬ 709 = k) (h1032015 : ¬ 1032015 = k) (h1032023 : ¬ 1032023 = k) (h1032031 : ¬ 1032031 = k) : RP (wI M k q f) x (c) cu nf lg = RP (M) x (c) cu nf lg := by
  simp only [RP, mK_wI, mN_wI, mI_wI, mL_wI, mR_wI, h704, h705, h706, h707, h708, h709, h1032015, h1032023, h1032031, false_and, if_false]
theorem RP_wL {M : Mem} {x : Nat} {c : Core} {cu : Nat} {nf : Nat} {lg : Nat} {k q : Nat} {f : Nat → Int64} (h2032007 : ¬ 2032007 = k) : RP (wL M k q f) x (c) cu nf lg = RP (M) x (c) cu nf lg := by
  simp only [RP, mK_wL, mN_wL, mI_wL, mL_wL, mR_wL, h2032007, false_and, if_false]
theorem RP_uI {M : Mem} {x : Nat} {c : Core} {cu : Nat} {nf : Nat} {lg : Nat} {k j : Nat} {v : Int32} (h40 : ¬ 40 = k) (h41 : ¬ 41 = k) (h42 : ¬ 42 = k) (h43 : ¬ 43 = k) (h44 : ¬ 44 = k) (h45 : ¬ 45 = k) (h49 : ¬ 49 = k) (h50 : ¬ 50 = k) (h51 : ¬ 51 = k) : RP (M) x (uI c k j v) cu nf lg = RP (M) x (c) cu nf lg := by
  simp only [RP, kI_uI, kL_uI, h40, h41, h42, h43, h44, h45, h49, h50, h51, false_and, if_false]
theorem RP_uL {M : Mem} {x : Nat} {c : Core} {cu : Nat} {nf : Nat} {lg : Nat} {k j : Nat} {v : Int64} (h48 : ¬ 48 = k) : RP (M) x (uL c k j v) cu nf lg = RP (M) x (c) cu nf lg := by
  simp only [RP, kI_uL, kL_uL, h48, false_and, if_false]
theorem RP_wcI {M : Mem} {x : Nat} {c : Core} {cu : Nat} {nf : Nat} {lg : Nat} {k : Nat} {f : Nat → Int32} (h40 : ¬ 40 = k) (h41 : ¬ 41 = k) (h42 : ¬ 42 = k) (h43 : ¬ 43 = k) (h44 : ¬ 44 = k) (h45 : ¬ 45 = k) (h49 : ¬ 49 = k) (h50 : ¬ 50 = k) (h51 : ¬ 51 = k) : RP (M) x (wcI c k f) cu nf lg = RP (M) x (c) cu nf lg := by
  simp only [RP, kI_wcI, kL_wcI, h40, h41, h42, h43, h44, h45, h49, h50, h51, false_and, if_false]
theorem RP_wcL {M : Mem} {x : Nat} {c : Core} {cu : Nat} {nf : Nat} {lg : Nat} {k : Nat} {f : Nat → Int64} (h48 : ¬ 48 = k) : RP (M) x (wcL c k f) cu nf lg = RP (M) x (c) cu nf lg := by
  simp only [RP, kI_wcL, kL_wcL, h48, false_and, if_false]
theorem RV_sI {M : Mem} {x : Nat} {c : Core} {k q j : Nat} {v : Int32} (h710 : ¬ 710 = k) : RV (sI M k q j v) x (c) = RV (M) x (c) := by
  simp only [RV, mK_sI, mN_sI, mI_sI, mL_sI, mR_sI, h710, false_and, if_false]
theorem RV_sL {M : Mem} {x : Nat} {c : Core} {k q j : Nat} {v : Int64} (h711 : ¬ 711 = k) : RV (sL M k q j v) x (c) = RV (M) x (c) := by
  simp only [RV, mK_sL, mN_sL, mI_sL, mL_sL, mR_sL, h711, false_and, if_false]
theorem RV_sR {M : Mem} {x : Nat} {c : Core} {k q j : Nat} {v : Option Nat}  : RV (sR M k q j v) x (c) = RV (M) x (c) := by
  rfl
theorem RV_wI {M : Mem} {x : Nat} {c : Core} {k q : Nat} {f : Nat → Int32} (h710 : ¬ 710 = k) : RV (wI M k q f) x (c) = RV (M) x (c) := by
  simp only [RV, mK_wI, mN_wI, mI_wI, mL_wI, mR_wI, h710, false_and, if_false]
theorem RV_wL {M : Mem} {x : Nat} {c : Core} {k q : Nat} {f : Nat → Int64} (h711 : ¬ 711 = k) : RV (wL M k q f) x (c) = RV (M) x (c) := by
  simp only [RV, mK_wL, mN_wL, mI_wL, mL_wL, mR_wL, h711, false_and, if_false]
theorem RV_uI {M : Mem} {x : Nat} {c : Core} {k j : Nat} {v : Int32} (h39 : ¬ 39 = k) (h46 : ¬ 46 = k) : RV (M) x (uI c k j v) = RV (M) x (c) := by
  simp only [RV, kI_uI, kL_uI, h39, h46, false_and, if_false]
theorem RV_uL {M : Mem} {x : Nat} {c : Core} {k j : Nat} {v : Int64} (h47 : ¬ 47 = k) : RV (M) x (uL c k j v) = RV (M) x (c) := by
  simp only [RV, kI_uL, kL_uL, h47, false_and, if_false]
theorem RV_wcI {M : Mem} {x : Nat} {c : Core} {k : Nat} {f : Nat → Int32} (h39 : ¬ 39 = k) (h46 : ¬ 46 = k) : RV (M) x (wcI c k f) = RV (M) x (c) := by
  simp only [RV, kI_wcI, kL_wcI, h39, h46, false_and, if_false]
theorem RV_wcL {M : Mem} {x : Nat} {c : Core} {k : Nat} {f : Nat → Int64} (h47 : ¬ 47 = k) : RV (M) x (wcL c k f) = RV (M) x (c) := by
  simp only [RV, kI_wcL, kL_wcL, h47, false_and, if_false]
theorem RW_sI {M : Mem} {x : Nat} {c : Core} {nk : Nat} {ka : Nat → Nat} {wn : Nat} {k q j : Nat} {v : Int32} (h1002 : ¬ 1002 = k) (h1003 : ¬ 1003 = k) : RW (sI M k q j v) x (c) nk ka wn = RW (M) x (c) nk ka wn := by
  simp only [RW, mK_sI, mN_sI, mI_sI, mL_sI, mR_sI, h1002, h1003, false_and, if_false]
theorem RW_sL {M : Mem} {x : Nat} {c : Core} {nk : Nat} {ka : Nat → Nat} {wn : Nat} {k q j : Nat} {v : Int64} (h2056016 : ¬ 2056016 = k) : RW (sL M k q j v) x (c) nk ka wn = RW (M) x (c) nk ka wn := by
  simp only [RW, mK_sL, mN_sL, mI_sL, mL_sL, mR_sL, h2056016, false_and, if_false]
theorem RW_sR {M : Mem} {x : Nat} {c : Core} {nk : Nat} {ka : Nat → Nat} {wn : Nat} {k q j : Nat} {v : Option Nat} (h5056007 : ¬ 5056007 = k) : RW (sR M k q j v) x (c) nk ka wn = RW (M) x (c) nk ka wn := by
  simp only [RW, mK_sR, mN_sR, mI_sR, mL_sR, mR_sR, h5056007, false_and, if_false]
theorem RW_wI {M : Mem} {x : Nat} {c : Core} {nk : Nat} {ka : Nat → Nat} {wn : Nat} {k q : Nat} {f : Nat → Int32} (h1002 : ¬ 1002 = k) (h1003 : ¬ 1003 = k) : RW (wI M k q f) x (c) nk ka wn = RW (M) x (c) nk ka wn := by
  simp only [RW, mK_wI, mN_wI, mI_wI, mL_wI, mR_wI, h1002, h1003, false_and, if_false]
theorem RW_wL {M : Mem} {x : Nat} {c : Core} {nk : Nat} {ka : Nat → Nat} {wn : Nat} {k q : Nat} {f : Nat → Int64} (h2056016 : ¬ 2056016 = k) : RW (wL M k q f) x (c) nk ka wn = RW (M) x (c) nk ka wn := by
  simp only [RW, mK_wL, mN_wL, mI_wL, mL_wL, mR_wL, h2056016, false_and, if_false]
theorem RW_uI {M : Mem} {x : Nat} {c : Core} {nk : Nat} {ka : Nat → Nat} {wn : Nat} {k j : Nat} {v : Int32} (h36 : ¬ 36 = k) (h37 : ¬ 37 = k) : RW (M) x (uI c k j v) nk ka wn = RW (M) x (c) nk ka wn := by
  simp only [RW, kI_uI, kL_uI, h36, h37, false_and, if_false]
theorem RW_uL {M : Mem} {x : Nat} {c : Core} {nk : Nat} {ka : Nat → Nat} {wn : Nat} {k j : Nat} {v : Int64} (h38 : ¬ 38 = k) : RW (M) x (uL c k j v) nk ka wn = RW (M) x (c) nk ka wn := by
  simp only [RW, kI_uL, kL_uL, h38, false_and, if_false]
theorem RW_wcI {M : Mem} {x : Nat} {c : Core} {nk : Nat} {ka : Nat → Nat} {wn : Nat} {k : Nat} {f : Nat → Int32} (h36 : ¬ 36 = k) (h37 : ¬ 37 = k) : RW (M) x (wcI c k f) nk ka wn = RW (M) x (c) nk ka wn := by
  simp only [RW, kI_wcI, kL_wcI, h36, h37, false_and, if_false]
theorem RW_wcL {M : Mem} {x : Nat} {c : Core} {nk : Nat} {ka : Nat → Nat} {wn : Nat} {k : Nat} {f : Nat → Int64} (h38 : ¬ 38 = k) : RW (M) x (wcL c k f) nk ka wn = RW (M) x (c) nk ka wn := by
  simp only [RW, kI_wcL, kL_wcL, h38, false_and, if_false]

theorem cl_lt {M : Mem} (h : Cln M) {a : Nat} (ha : mK M a ≠ 0) : a < mS M := by
  by_cases e : a < mS M
  · exact e
  · exact absurd (h a (by omega)).1 ha
theorem cl_sI {M : Mem} (h : Cln M) {k a i : Nat} {v : Int32} (ha : mK M a ≠ 0) : Cln (sI M k a i v) := by
  intro q hq
  obtain ⟨h1, h2⟩ := h q hq
  refine ⟨h1, fun k' i' hk' => ⟨?_, (h2 k' i' hk').2.1, (h2 k' i' hk').2.2⟩⟩
  rw [mI_sI, if_neg]
  · exact (h2 k' i' hk').1
  · intro e; rw [e.2.1] at hq; exact absurd (cl_lt h ha) (by rw [mS_sI] at hq; omega)
theorem cl_sL {M : Mem} (h : Cln M) {k a i : Nat} {v : Int64} (ha : mK M a ≠ 0) : Cln (sL M k a i v) := by
  intro q hq
  obtain ⟨h1, h2⟩ := h q hq
  refine ⟨h1, fun k' i' hk' => ⟨(h2 k' i' hk').1, ?_, (h2 k' i' hk').2.2⟩⟩
  rw [mL_sL, if_neg]
  · exact (h2 k' i' hk').2.1
  · intro e; rw [e.2.1] at hq; exact absurd (cl_lt h ha) (by rw [mS_sL] at hq; omega)
theorem cl_sR {M : Mem} (h : Cln M) {k a i : Nat} {v : Option Nat} (ha : mK M a ≠ 0) : Cln (sR M k a i v) := by
  intro q hq
  obtain ⟨h1, h2⟩ := h q hq
  refine ⟨h1, fun k' i' hk' => ⟨(h2 k' i' hk').1, (h2 k' i' hk').2.1, ?_⟩⟩
  rw [mR_sR, if_neg]
  · exact (h2 k' i' hk').2.2
  · intro e; rw [e.2.1] at hq; exact absurd (cl_lt h ha) (by rw [mS_sR] at hq; omega)
theorem cl_wI {M : Mem} (h : Cln M) {k a : Nat} {f : Nat → Int32} (ha : mK M a ≠ 0) : Cln (wI M k a f) := by
  intro q hq
  obtain ⟨h1, h2⟩ := h q hq
  refine ⟨h1, fun k' i' hk' => ⟨?_, (h2 k' i' hk').2.1, (h2 k' i' hk').2.2⟩⟩
  rw [mI_wI, if_neg]
  · exact (h2 k' i' hk').1
  · intro e; rw [e.2] at hq; exact absurd (cl_lt h ha) (by rw [mS_wI] at hq; omega)
theorem cl_wL {M : Mem} (h : Cln M) {k a : Nat} {f : Nat → Int64} (ha : mK M a ≠ 0) : Cln (wL M k a f) := by
  intro q hq
  obtain ⟨h1, h2⟩ := h q hq
  refine ⟨h1, fun k' i' hk' => ⟨(h2 k' i' hk').1, ?_, (h2 k' i' hk').2.2⟩⟩
  rw [mL_wL, if_neg]
  · exact (h2 k' i' hk').2.1
  · intro e; rw [e.2] at hq; exact absurd (cl_lt h ha) (by rw [mS_wL] at hq; omega)
theorem cl_nw {M : Mem} (h : Cln M) {c n u : Nat} : Cln (nw M c n u) := by
  intro q hq
  rw [mS_nw] at hq
  obtain ⟨h1, h2⟩ := h q (by omega)
  exact ⟨by rw [mK_nw, if_neg (by omega)]; exact h1, h2⟩
theorem SH_sI {M : Mem} {x k q j : Nat} {v : Int32} (h100 : ¬ 100 = k) : SH (sI M k q j v) x = SH M x := by
  simp only [SH, mK_sI, mN_sI, mR_sI, mI_sI, h100, false_and, if_false]
theorem SH_sL {M : Mem} {x k q j : Nat} {v : Int64} : SH (sL M k q j v) x = SH M x := rfl
theorem SH_wI {M : Mem} {x k q : Nat} {f : Nat → Int32} (h100 : ¬ 100 = k) : SH (wI M k q f) x = SH M x := by
  simp only [SH, mK_wI, mN_wI, mR_wI, mI_wI, h100, false_and, if_false]
theorem SH_wL {M : Mem} {x k q : Nat} {f : Nat → Int64} : SH (wL M k q f) x = SH M x := rfl
theorem SH_sR {M : Mem} {x k q j : Nat} {v : Option Nat} (h0 : ∀ q ∈ shR, ¬ q.1 = k) (h1 : ¬ 7038029 = k) (h2 : ¬ 900 = k) (h3 : ¬ 4038071 = k) (H : SH M x) : SH (sR M k q j v) x := by
  refine ⟨H.1, H.2.1, fun z hz => ?_, fun t ht => ?_, fun e he => ?_⟩
  · rw [mR_sR, if_neg (fun e => h0 z hz e.1)]; exact H.2.2.1 z hz
  · simp only [mR_sR, mK_sR, mN_sR, h1, h2, false_and, if_false]; exact H.2.2.2.1 t ht
  · simp only [mR_sR, mK_sR, mI_sR, h3, false_and, if_false]; exact H.2.2.2.2 e he
theorem SH_nw {M : Mem} {x c n u : Nat} (hc : Cln M) (H : SH M x) : SH (nw M c n u) x := by
  have key : ∀ a, mK M a ≠ 0 → mK (nw M c n u) a = mK M a ∧ mN (nw M c n u) a = mN M a := fun a ha => by
    have := cl_lt hc ha
    rw [mK_nw, mN_nw, if_neg (by omega), if_neg (by omega)]
    exact ⟨rfl, rfl⟩
  refine ⟨?_, fun z hz => ?_, H.2.2.1, fun t ht => ?_, fun e he => ?_⟩
  · rw [(key _ (by rw [H.1]; decide)).1]; exact H.1
  · have hz0 : ∀ z ∈ shO, z.2.1 ≠ 0 := by decide
    have := H.2.1 z hz
    rw [(key _ (by rw [this.1]; exact hz0 z hz)).1, (key _ (by rw [this.1]; exact hz0 z hz)).2]; exact this
  · obtain ⟨a1, a2, a3, a4, a5⟩ := H.2.2.2.1 t ht
    rw [(key _ (by rw [a2]; decide)).1, (key _ (by rw [a4]; decide)).1, (key _ (by rw [a4]; decide)).2]
    exact ⟨a1, a2, a3, a4, a5⟩
  · obtain ⟨a1, a2, a3⟩ := H.2.2.2.2 e he
    rw [(key _ (by rw [a2]; decide)).1]
    exact ⟨a1, a2, a3⟩
theorem KI_nw {M : Mem} {x : Nat} {c : Core} {ka dp : Nat → Nat} {i cc n u : Nat} (hc : Cln M) (H : KI M x c ka dp i) : KI (nw M cc n u) x c ka dp i := by
  have h1 := ki_k H
  have := cl_lt hc (a := ka i) (by rw [h1]; decide)
  refine ⟨H.1, ?_, H.2.2⟩
  rw [mK_nw, if_neg (by omega)]; exact h1
theorem RK_nw {M : Mem} {x : Nat} {c : Core} {nk : Nat} {ka dp : Nat → Nat} {cc n u : Nat} (hc : Cln M) (H : RK M x c nk ka dp) : RK (nw M cc n u) x c nk ka dp := ⟨H.1, H.2.1, H.2.2.1, fun i hi => KI_nw hc (rk_i H i hi)⟩
theorem LI_nw {M : Mem} {x : Nat} {c : Core} {nk : Nat} {ka : Nat → Nat} {ns a l : Nat} {cc n u : Nat} (hc : Cln M) (H : LI M x c nk ka ns a l) : LI (nw M cc n u) x c nk ka ns a l := by
  have key : ∀ a, mK M a ≠ 0 → mK (nw M cc n u) a = mK M a ∧ mN (nw M cc n u) a = mN M a := fun a ha => by
    have := cl_lt hc ha
    rw [mK_nw, mN_nw, if_neg (by omega), if_neg (by omega)]
    exact ⟨rfl, rfl⟩
  have h1 := li_k H
  have h2 := li_pk H
  have h3 := li_ok H
  have h4 := li_nk H
  unfold LI at H ⊢
  rw [(key a (by rw [h1]; decide)).1, (key (a + 1) (by rw [h2]; decide)).1, (key (a + 2) (by rw [h3]; decide)).1, (key (a + 2) (by rw [h3]; decide)).2, (key (a + 3) (by rw [h4]; decide)).1, (key (a + 3) (by rw [h4]; decide)).2]
  exact H
theorem RLs_nw {M : Mem} {x : Nat} {c : Core} {nk : Nat} {ka : Nat → Nat} {ns nl : Nat} {la : Nat → Nat} {cc n u : Nat} (hc : Cln M) (H : RLs M x c nk ka ns nl la) : RLs (nw M cc n u) x c nk ka ns nl la := ⟨H.1, H.2.1, H.2.2.1, fun i hi => LI_nw hc (rl_i H i hi)⟩
theorem ka_inj {M : Mem} {x : Nat} {c : Core} {nk : Nat} {ka dp : Nat → Nat} (H : RK M x c nk ka dp) {i j : Nat} (hi : i < nk) (hj : j < nk) : (ka i = ka j) = (i = j) := by
  apply propext
  constructor
  · intro e
    have h1 := ki_num (rk_i H i hi)
    have h2 := ki_num (rk_i H j hj)
    rw [e, h2] at h1
    have := rk_le H
    exact ((nI_eq (by omega) (by omega)).mp h1).symm
  · intro e; rw [e]
theorem la_inj {M : Mem} {x : Nat} {c : Core} {nk : Nat} {ka : Nat → Nat} {ns nl : Nat} {la : Nat → Nat} (H : RLs M x c nk ka ns nl la) {i j : Nat} (hi : i < nl) (hj : j < nl) : (la i = la j) = (i = j) := by
  apply propext
  constructor
  · intro e
    have h1 := li_num (rl_i H i hi)
    have h2 := li_num (rl_i H j hj)
    rw [e, h2] at h1
    have := rl_le H
    exact ((nI_eq (by omega) (by omega)).mp h1).symm
  · intro e; rw [e]
