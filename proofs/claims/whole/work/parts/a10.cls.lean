/-! The class: tables of the pools, its memory. Wholes W (limbs from 0 on, used 80, sign 81; room lw), whole fields F, arrays A. -/
def fL_RX0 : List (Nat × Nat × Nat × Nat) := [(13, 0, 2, 301), (17, 0, 3, 302), (21, 0, 4, 303), (25, 0, 5, 304), (28, 0, 6, 305), (33, 0, 7, 306), (40, 0, 8, 307), (44, 0, 9, 308), (50, 0, 10, 309), (54, 0, 11, 310), (57, 0, 12, 311), (60, 0, 13, 312), (63, 0, 0, 299), (72, 0, 1, 300), (105, 4, 5, 280), (108, 4, 6, 282), (153, 2, 1, 265), (177, 6, 0, 202)]
def fl_RX0 (k : Nat) : Option (Nat × Nat) := ((fL_RX0).find? (fun x => x.1 == k)).map (fun x => (x.2.1, x.2.2.1))
def cL_RX0 : List (Nat × Int × Nat) := []
def cl_RX0 (k : Nat) : Option Int := ((cL_RX0).find? (fun x => x.1 == k)).map (fun x => x.2.1)
def dL_RX0 : List (Nat × Int × Nat) := []
def dl_RX0 (k : Nat) : Option Int := ((dL_RX0).find? (fun x => x.1 == k)).map (fun x => x.2.1)
theorem tb_RX0_e : fl_RX0 13 = some (0, 2) ∧ fl_RX0 17 = some (0, 3) ∧ fl_RX0 21 = some (0, 4) ∧ fl_RX0 25 = some (0, 5) ∧ fl_RX0 28 = some (0, 6) ∧ fl_RX0 33 = some (0, 7) ∧ fl_RX0 40 = some (0, 8) ∧ fl_RX0 44 = some (0, 9) ∧ fl_RX0 50 = some (0, 10) ∧ fl_RX0 54 = some (0, 11) ∧ fl_RX0 57 = some (0, 12) ∧ fl_RX0 60 = some (0, 13) ∧ fl_RX0 63 = some (0, 0) ∧ fl_RX0 72 = some (0, 1) ∧ fl_RX0 105 = some (4, 5) ∧ fl_RX0 108 = some (4, 6) ∧ fl_RX0 153 = some (2, 1) ∧ fl_RX0 177 = some (6, 0) := by
  refine ⟨?_, ?_, ?_, ?_, ?_, ?_, ?_, ?_, ?_, ?_, ?_, ?_, ?_, ?_, ?_, ?_, ?_, ?_⟩ <;> decide +kernel
theorem tb_RX0 : (∀ k ci f, fl_RX0 k = some (ci, f) → ∃ q : vw_C, vwCl[ci]? = some q ∧ f < q.2.2 ∧ Cond.fieldLink RX0 k (q.2.1 f).1 (q.2.1 f).2.1 (q.2.1 f).2.2.1 ∈ gW) ∧ (∀ k z, cl_RX0 k = some z → Cond.constant RX0 k (Int32.ofInt z) ∈ gW) ∧ (∀ k z, dl_RX0 k = some z → Cond.constantLong RX0 k (Int64.ofInt z) ∈ gW) := by
  refine ⟨fun k ci f h => tb_fl (fL_RX0) RX0 (by decide +kernel) k ci f h, fun k z h => tb_cl (cL_RX0) RX0 (by decide +kernel) k z h, fun k z h => tb_dl (dL_RX0) RX0 (by decide +kernel) k z h⟩
def fL_RX1 : List (Nat × Nat × Nat × Nat) := [(14, 1, 0, 137), (20, 1, 1, 138), (23, 1, 2, 139), (26, 1, 3, 140), (29, 1, 4, 141), (32, 1, 5, 142), (35, 1, 6, 143), (38, 1, 7, 144), (41, 1, 8, 145), (44, 1, 9, 146), (67, 7, 2, 127), (71, 7, 1, 124), (74, 7, 0, 122)]
def fl_RX1 (k : Nat) : Option (Nat × Nat) := ((fL_RX1).find? (fun x => x.1 == k)).map (fun x => (x.2.1, x.2.2.1))
def cL_RX1 : List (Nat × Int × Nat) := [(117, 1000000, 455)]
def cl_RX1 (k : Nat) : Option Int := ((cL_RX1).find? (fun x => x.1 == k)).map (fun x => x.2.1)
def dL_RX1 : List (Nat × Int × Nat) := [(110, 2147483648, 496), (112, 2147483647, 501), (153, -9223372036854775808, 783)]
def dl_RX1 (k : Nat) : Option Int := ((dL_RX1).find? (fun x => x.1 == k)).map (fun x => x.2.1)
theorem lc_RX1_117 : cl_RX1 117 = some (1000000) := by decide +kernel
theorem lc2_RX1_110 : dl_RX1 110 = some (2147483648) := by decide +kernel
theorem lc2_RX1_112 : dl_RX1 112 = some (2147483647) := by decide +kernel
theorem lc2_RX1_153 : dl_RX1 153 = some (-9223372036854775808) := by decide +kernel
theorem tb_RX1_e : fl_RX1 14 = some (1, 0) ∧ fl_RX1 20 = some (1, 1) ∧ fl_RX1 23 = some (1, 2) ∧ fl_RX1 26 = some (1, 3) ∧ fl_RX1 29 = some (1, 4) ∧ fl_RX1 32 = some (1, 5) ∧ fl_RX1 35 = some (1, 6) ∧ fl_RX1 38 = some (1, 7) ∧ fl_RX1 41 = some (1, 8) ∧ fl_RX1 44 = some (1, 9) ∧ fl_RX1 67 = some (7, 2) ∧ fl_RX1 71 = some (7, 1) ∧ fl_RX1 74 = some (7, 0) ∧ cl_RX1 117 = some 1000000 ∧ dl_RX1 110 = some 2147483648 ∧ dl_RX1 112 = some 2147483647 ∧ dl_RX1 153 = some (-9223372036854775808) := by
  refine ⟨?_, ?_, ?_, ?_, ?_, ?_, ?_, ?_, ?_, ?_, ?_, ?_, ?_, ?_, ?_, ?_, ?_⟩ <;> decide +kernel
theorem tb_RX1 : (∀ k ci f, fl_RX1 k = some (ci, f) → ∃ q : vw_C, vwCl[ci]? = some q ∧ f < q.2.2 ∧ Cond.fieldLink RX1 k (q.2.1 f).1 (q.2.1 f).2.1 (q.2.1 f).2.2.1 ∈ gW) ∧ (∀ k z, cl_RX1 k = some z → Cond.constant RX1 k (Int32.ofInt z) ∈ gW) ∧ (∀ k z, dl_RX1 k = some z → Cond.constantLong RX1 k (Int64.ofInt z) ∈ gW) := by
  refine ⟨fun k ci f h => tb_fl (fL_RX1) RX1 (by decide +kernel) k ci f h, fun k z h => tb_cl (cL_RX1) RX1 (by decide +kernel) k z h, fun k z h => tb_dl (dL_RX1) RX1 (by decide +kernel) k z h⟩
def fL_RX2 : List (Nat × Nat × Nat × Nat) := [(11, 2, 0, 262), (18, 2, 1, 264)]
def fl_RX2 (k : Nat) : Option (Nat × Nat) := ((fL_RX2).find? (fun x => x.1 == k)).map (fun x => (x.2.1, x.2.2.1))
def cL_RX2 : List (Nat × Int × Nat) := []
def cl_RX2 (k : Nat) : Option Int := ((cL_RX2).find? (fun x => x.1 == k)).map (fun x => x.2.1)
def dL_RX2 : List (Nat × Int × Nat) := []
def dl_RX2 (k : Nat) : Option Int := ((dL_RX2).find? (fun x => x.1 == k)).map (fun x => x.2.1)
theorem tb_RX2_e : fl_RX2 11 = some (2, 0) ∧ fl_RX2 18 = some (2, 1) := by
  refine ⟨?_, ?_⟩ <;> decide +kernel
theorem tb_RX2 : (∀ k ci f, fl_RX2 k = some (ci, f) → ∃ q : vw_C, vwCl[ci]? = some q ∧ f < q.2.2 ∧ Cond.fieldLink RX2 k (q.2.1 f).1 (q.2.1 f).2.1 (q.2.1 f).2.2.1 ∈ gW) ∧ (∀ k z, cl_RX2 k = some z → Cond.constant RX2 k (Int32.ofInt z) ∈ gW) ∧ (∀ k z, dl_RX2 k = some z → Cond.constantLong RX2 k (Int64.ofInt z) ∈ gW) := by
  refine ⟨fun k ci f h => tb_fl (fL_RX2) RX2 (by decide +kernel) k ci f h, fun k z h => tb_cl (cL_RX2) RX2 (by decide +kernel) k z h, fun k z h => tb_dl (dL_RX2) RX2 (by decide +kernel) k z h⟩
def fL_RX3 : List (Nat × Nat × Nat × Nat) := [(15, 3, 1, 210), (19, 3, 2, 211), (23, 3, 3, 212), (29, 3, 4, 213), (36, 3, 5, 214), (40, 3, 6, 215), (44, 3, 0, 209), (74, 6, 0, 201), (111, 7, 2, 128)]
def fl_RX3 (k : Nat) : Option (Nat × Nat) := ((fL_RX3).find? (fun x => x.1 == k)).map (fun x => (x.2.1, x.2.2.1))
def cL_RX3 : List (Nat × Int × Nat) := []
def cl_RX3 (k : Nat) : Option Int := ((cL_RX3).find? (fun x => x.1 == k)).map (fun x => x.2.1)
def dL_RX3 : List (Nat × Int × Nat) := []
def dl_RX3 (k : Nat) : Option Int := ((dL_RX3).find? (fun x => x.1 == k)).map (fun x => x.2.1)
theorem tb_RX3_e : fl_RX3 15 = some (3, 1) ∧ fl_RX3 19 = some (3, 2) ∧ fl_RX3 23 = some (3, 3) ∧ fl_RX3 29 = some (3, 4) ∧ fl_RX3 36 = some (3, 5) ∧ fl_RX3 40 = some (3, 6) ∧ fl_RX3 44 = some (3, 0) ∧ fl_RX3 74 = some (6, 0) ∧ fl_RX3 111 = some (7, 2) := by
  refine ⟨?_, ?_, ?_, ?_, ?_, ?_, ?_, ?_, ?_⟩ <;> decide +kernel
theorem tb_RX3 : (∀ k ci f, fl_RX3 k = some (ci, f) → ∃ q : vw_C, vwCl[ci]? = some q ∧ f < q.2.2 ∧ Cond.fieldLink RX3 k (q.2.1 f).1 (q.2.1 f).2.1 (q.2.1 f).2.2.1 ∈ gW) ∧ (∀ k z, cl_RX3 k = some z → Cond.constant RX3 k (Int32.ofInt z) ∈ gW) ∧ (∀ k z, dl_RX3 k = some z → Cond.constantLong RX3 k (Int64.ofInt z) ∈ gW) := by
  refine ⟨fun k ci f h => tb_fl (fL_RX3) RX3 (by decide +kernel) k ci f h, fun k z h => tb_cl (cL_RX3) RX3 (by decide +kernel) k z h, fun k z h => tb_dl (dL_RX3) RX3 (by decide +kernel) k z h⟩
def fL_RX4 : List (Nat × Nat × Nat × Nat) := [(16, 4, 1, 275), (22, 4, 2, 276), (27, 4, 3, 277), (31, 4, 4, 278), (34, 4, 5, 279), (38, 4, 6, 281), (41, 4, 0, 274), (49, 2, 0, 263), (67, 7, 2, 126)]
def fl_RX4 (k : Nat) : Option (Nat × Nat) := ((fL_RX4).find? (fun x => x.1 == k)).map (fun x => (x.2.1, x.2.2.1))
def cL_RX4 : List (Nat × Int × Nat) := []
def cl_RX4 (k : Nat) : Option Int := ((cL_RX4).find? (fun x => x.1 == k)).map (fun x => x.2.1)
def dL_RX4 : List (Nat × Int × Nat) := []
def dl_RX4 (k : Nat) : Option Int := ((dL_RX4).find? (fun x => x.1 == k)).map (fun x => x.2.1)
theorem tb_RX4_e : fl_RX4 16 = some (4, 1) ∧ fl_RX4 22 = some (4, 2) ∧ fl_RX4 27 = some (4, 3) ∧ fl_RX4 31 = some (4, 4) ∧ fl_RX4 34 = some (4, 5) ∧ fl_RX4 38 = some (4, 6) ∧ fl_RX4 41 = some (4, 0) ∧ fl_RX4 49 = some (2, 0) ∧ fl_RX4 67 = some (7, 2) := by
  refine ⟨?_, ?_, ?_, ?_, ?_, ?_, ?_, ?_, ?_⟩ <;> decide +kernel
theorem tb_RX4 : (∀ k ci f, fl_RX4 k = some (ci, f) → ∃ q : vw_C, vwCl[ci]? = some q ∧ f < q.2.2 ∧ Cond.fieldLink RX4 k (q.2.1 f).1 (q.2.1 f).2.1 (q.2.1 f).2.2.1 ∈ gW) ∧ (∀ k z, cl_RX4 k = some z → Cond.constant RX4 k (Int32.ofInt z) ∈ gW) ∧ (∀ k z, dl_RX4 k = some z → Cond.constantLong RX4 k (Int64.ofInt z) ∈ gW) := by
  refine ⟨fun k ci f h => tb_fl (fL_RX4) RX4 (by decide +kernel) k ci f h, fun k z h => tb_cl (cL_RX4) RX4 (by decide +kernel) k z h, fun k z h => tb_dl (dL_RX4) RX4 (by decide +kernel) k z h⟩
def fL_RX5 : List (Nat × Nat × Nat × Nat) := []
def fl_RX5 (k : Nat) : Option (Nat × Nat) := ((fL_RX5).find? (fun x => x.1 == k)).map (fun x => (x.2.1, x.2.2.1))
def cL_RX5 : List (Nat × Int × Nat) := []
def cl_RX5 (k : Nat) : Option Int := ((cL_RX5).find? (fun x => x.1 == k)).map (fun x => x.2.1)
def dL_RX5 : List (Nat × Int × Nat) := []
def dl_RX5 (k : Nat) : Option Int := ((dL_RX5).find? (fun x => x.1 == k)).map (fun x => x.2.1)
theorem tb_RX5_e : True := by decide +kernel
theorem tb_RX5 : (∀ k ci f, fl_RX5 k = some (ci, f) → ∃ q : vw_C, vwCl[ci]? = some q ∧ f < q.2.2 ∧ Cond.fieldLink RX5 k (q.2.1 f).1 (q.2.1 f).2.1 (q.2.1 f).2.2.1 ∈ gW) ∧ (∀ k z, cl_RX5 k = some z → Cond.constant RX5 k (Int32.ofInt z) ∈ gW) ∧ (∀ k z, dl_RX5 k = some z → Cond.constantLong RX5 k (Int64.ofInt z) ∈ gW) := by
  refine ⟨fun k ci f h => tb_fl (fL_RX5) RX5 (by decide +kernel) k ci f h, fun k z h => tb_cl (cL_RX5) RX5 (by decide +kernel) k z h, fun k z h => tb_dl (dL_RX5) RX5 (by decide +kernel) k z h⟩
def fL_RX6 : List (Nat × Nat × Nat × Nat) := [(15, 5, 0, 176), (18, 5, 1, 177)]
def fl_RX6 (k : Nat) : Option (Nat × Nat) := ((fL_RX6).find? (fun x => x.1 == k)).map (fun x => (x.2.1, x.2.2.1))
def cL_RX6 : List (Nat × Int × Nat) := []
def cl_RX6 (k : Nat) : Option Int := ((cL_RX6).find? (fun x => x.1 == k)).map (fun x => x.2.1)
def dL_RX6 : List (Nat × Int × Nat) := []
def dl_RX6 (k : Nat) : Option Int := ((dL_RX6).find? (fun x => x.1 == k)).map (fun x => x.2.1)
theorem tb_RX6_e : fl_RX6 15 = some (5, 0) ∧ fl_RX6 18 = some (5, 1) := by
  refine ⟨?_, ?_⟩ <;> decide +kernel
theorem tb_RX6 : (∀ k ci f, fl_RX6 k = some (ci, f) → ∃ q : vw_C, vwCl[ci]? = some q ∧ f < q.2.2 ∧ Cond.fieldLink RX6 k (q.2.1 f).1 (q.2.1 f).2.1 (q.2.1 f).2.2.1 ∈ gW) ∧ (∀ k z, cl_RX6 k = some z → Cond.constant RX6 k (Int32.ofInt z) ∈ gW) ∧ (∀ k z, dl_RX6 k = some z → Cond.constantLong RX6 k (Int64.ofInt z) ∈ gW) := by
  refine ⟨fun k ci f h => tb_fl (fL_RX6) RX6 (by decide +kernel) k ci f h, fun k z h => tb_cl (cL_RX6) RX6 (by decide +kernel) k z h, fun k z h => tb_dl (dL_RX6) RX6 (by decide +kernel) k z h⟩
def fL_RX7 : List (Nat × Nat × Nat × Nat) := [(15, 6, 0, 200)]
def fl_RX7 (k : Nat) : Option (Nat × Nat) := ((fL_RX7).find? (fun x => x.1 == k)).map (fun x => (x.2.1, x.2.2.1))
def cL_RX7 : List (Nat × Int × Nat) := []
def cl_RX7 (k : Nat) : Option Int := ((cL_RX7).find? (fun x => x.1 == k)).map (fun x => x.2.1)
def dL_RX7 : List (Nat × Int × Nat) := []
def dl_RX7 (k : Nat) : Option Int := ((dL_RX7).find? (fun x => x.1 == k)).map (fun x => x.2.1)
theorem tb_RX7_e : fl_RX7 15 = some (6, 0) := by decide +kernel
theorem tb_RX7 : (∀ k ci f, fl_RX7 k = some (ci, f) → ∃ q : vw_C, vwCl[ci]? = some q ∧ f < q.2.2 ∧ Cond.fieldLink RX7 k (q.2.1 f).1 (q.2.1 f).2.1 (q.2.1 f).2.2.1 ∈ gW) ∧ (∀ k z, cl_RX7 k = some z → Cond.constant RX7 k (Int32.ofInt z) ∈ gW) ∧ (∀ k z, dl_RX7 k = some z → Cond.constantLong RX7 k (Int64.ofInt z) ∈ gW) := by
  refine ⟨fun k ci f h => tb_fl (fL_RX7) RX7 (by decide +kernel) k ci f h, fun k z h => tb_cl (cL_RX7) RX7 (by decide +kernel) k z h, fun k z h => tb_dl (dL_RX7) RX7 (by decide +kernel) k z h⟩
def fL_RX8 : List (Nat × Nat × Nat × Nat) := [(9, 7, 1, 123), (13, 7, 2, 125), (22, 7, 0, 121)]
def fl_RX8 (k : Nat) : Option (Nat × Nat) := ((fL_RX8).find? (fun x => x.1 == k)).map (fun x => (x.2.1, x.2.2.1))
def cL_RX8 : List (Nat × Int × Nat) := [(51, 1073741824, 486)]
def cl_RX8 (k : Nat) : Option Int := ((cL_RX8).find? (fun x => x.1 == k)).map (fun x => x.2.1)
def dL_RX8 : List (Nat × Int × Nat) := [(26, 2147483648, 261), (43, 2147483647, 491)]
def dl_RX8 (k : Nat) : Option Int := ((dL_RX8).find? (fun x => x.1 == k)).map (fun x => x.2.1)
theorem lc_RX8_51 : cl_RX8 51 = some (1073741824) := by decide +kernel
theorem lc2_RX8_26 : dl_RX8 26 = some (2147483648) := by decide +kernel
theorem lc2_RX8_43 : dl_RX8 43 = some (2147483647) := by decide +kernel
theorem tb_RX8_e : fl_RX8 9 = some (7, 1) ∧ fl_RX8 13 = some (7, 2) ∧ fl_RX8 22 = some (7, 0) ∧ cl_RX8 51 = some 1073741824 ∧ dl_RX8 26 = some 2147483648 ∧ dl_RX8 43 = some 2147483647 := by
  refine ⟨?_, ?_, ?_, ?_, ?_, ?_⟩ <;> decide +kernel
theorem tb_RX8 : (∀ k ci f, fl_RX8 k = some (ci, f) → ∃ q : vw_C, vwCl[ci]? = some q ∧ f < q.2.2 ∧ Cond.fieldLink RX8 k (q.2.1 f).1 (q.2.1 f).2.1 (q.2.1 f).2.2.1 ∈ gW) ∧ (∀ k z, cl_RX8 k = some z → Cond.constant RX8 k (Int32.ofInt z) ∈ gW) ∧ (∀ k z, dl_RX8 k = some z → Cond.constantLong RX8 k (Int64.ofInt z) ∈ gW) := by
  refine ⟨fun k ci f h => tb_fl (fL_RX8) RX8 (by decide +kernel) k ci f h, fun k z h => tb_cl (cL_RX8) RX8 (by decide +kernel) k z h, fun k z h => tb_dl (dL_RX8) RX8 (by decide +kernel) k z h⟩
def fL_RX9 : List (Nat × Nat × Nat × Nat) := [(15, 8, 0, 342), (21, 8, 1, 343), (24, 8, 2, 344), (33, 8, 3, 345), (40, 8, 4, 346), (44, 8, 5, 347), (48, 8, 6, 348), (156, 2, 1, 266)]
def fl_RX9 (k : Nat) : Option (Nat × Nat) := ((fL_RX9).find? (fun x => x.1 == k)).map (fun x => (x.2.1, x.2.2.1))
def cL_RX9 : List (Nat × Int × Nat) := []
def cl_RX9 (k : Nat) : Option Int := ((cL_RX9).find? (fun x => x.1 == k)).map (fun x => x.2.1)
def dL_RX9 : List (Nat × Int × Nat) := [(82, -5, 939), (84, 5, 940), (128, -1, 772)]
def dl_RX9 (k : Nat) : Option Int := ((dL_RX9).find? (fun x => x.1 == k)).map (fun x => x.2.1)
theorem lc2_RX9_82 : dl_RX9 82 = some (-5) := by decide +kernel
theorem lc2_RX9_84 : dl_RX9 84 = some (5) := by decide +kernel
theorem lc2_RX9_128 : dl_RX9 128 = some (-1) := by decide +kernel
theorem tb_RX9_e : fl_RX9 15 = some (8, 0) ∧ fl_RX9 21 = some (8, 1) ∧ fl_RX9 24 = some (8, 2) ∧ fl_RX9 33 = some (8, 3) ∧ fl_RX9 40 = some (8, 4) ∧ fl_RX9 44 = some (8, 5) ∧ fl_RX9 48 = some (8, 6) ∧ fl_RX9 156 = some (2, 1) ∧ dl_RX9 82 = some (-5) ∧ dl_RX9 84 = some 5 ∧ dl_RX9 128 = some (-1) := by
  refine ⟨?_, ?_, ?_, ?_, ?_, ?_, ?_, ?_, ?_, ?_, ?_⟩ <;> decide +kernel
theorem tb_RX9 : (∀ k ci f, fl_RX9 k = some (ci, f) → ∃ q : vw_C, vwCl[ci]? = some q ∧ f < q.2.2 ∧ Cond.fieldLink RX9 k (q.2.1 f).1 (q.2.1 f).2.1 (q.2.1 f).2.2.1 ∈ gW) ∧ (∀ k z, cl_RX9 k = some z → Cond.constant RX9 k (Int32.ofInt z) ∈ gW) ∧ (∀ k z, dl_RX9 k = some z → Cond.constantLong RX9 k (Int64.ofInt z) ∈ gW) := by
  refine ⟨fun k ci f h => tb_fl (fL_RX9) RX9 (by decide +kernel) k ci f h, fun k z h => tb_cl (cL_RX9) RX9 (by decide +kernel) k z h, fun k z h => tb_dl (dL_RX9) RX9 (by decide +kernel) k z h⟩
def mk8 (f : Int → Int) (n : Int) : Int → eV := fun i => if 0 ≤ i ∧ i < n then eI (f i) else eI 0
def rb (r : Nat) : Nat := if r < 11 then 10 + 10 * r else 121 + 4 * (r - 11)
def rl (r : Nat) : Nat := if r < 11 then 10 else 4
def gb (g : Nat) : Nat := 141 + 17 * g
/-- how many limbs a whole has room for: a desk's and an inertia's 64, the others 32 -/
def lw (k : Nat) : Nat := bif Nat.blt k 10 || (Nat.ble 311 k && !(Nat.beq k 328) && !(Nat.beq k 329)) then 64 else 32
theorem lw_b (k : Nat) : lw k = 32 ∨ lw k = 64 := by
  unfold lw
  cases (Nat.blt k 10 || (Nat.ble 311 k && !(Nat.beq k 328) && !(Nat.beq k 329)))
  · exact Or.inl rfl
  · exact Or.inr rfl
def cW8 (W : Nat → Int → Int) : eM := fun a => match a with
  | (2, k) => if k < 332 then some (eO 7 [eR (3, k), eI (W k 80), eI (W k 81)]) else none
  | (3, k) => if k < 332 then some (eY 0 (lw k) (mk8 (W k) (lw k))) else none
  | _ => none
/-- what never changes -/
def cK8 : eM := fun a => match a with
  | (1, 2) => some (eO 1 [eR (2, 0), eR (2, 1), eR (2, 2), eR (2, 3), eR (2, 4), eR (2, 5), eR (2, 6), eR (2, 7), eR (2, 8), eR (2, 9)])
  | (1, 10) => some (eY 6 5 (fun i => eR (5, i.toNat)))
  | (1, 11) => some (eY 6 5 (fun i => eR (6, i.toNat)))
  | (1, 12) => some (eY 4 10 (fun i => eR (7, i.toNat)))
  | (1, 16) => some (eY 5 3 (fun i => eR (9, i.toNat)))
  | (1, 17) => some (eY 5 4 (fun i => eR (9, 3 + i.toNat)))
  | (1, 18) => some (eY 5 3 (fun i => eR (9, 7 + i.toNat)))
  | (1, 19) => some (eY 4 3 (fun i => eR (7, 11 + i.toNat)))
  | (7, r) => if r < 16 then some (eO 6 [eR (8, r)]) else none
  | (8, r) => if r < 16 then some (eY 3 (rl r) (fun i => eR (2, rb r + i.toNat))) else none
  | (9, g) => if g < 11 then some (eO 2 [eR (10, g), eR (2, gb g + 16)]) else none
  | (10, g) => if g < 11 then some (eY 3 16 (fun i => eR (2, gb g + i.toNat))) else none
  | _ => none
def cF8 (F : Nat → Int) : eM := fun a => match a with
  | (0, 0) => some (eO 8 [eR (1, 0), eR (1, 1), eR (1, 2), eR (1, 3), eR (1, 4), eI (F 0), eI (F 1)])
  | (1, 0) => some (eO 5 [eR (1, 10), eI (F 2)])
  | (1, 1) => some (eO 5 [eR (1, 11), eI (F 3)])
  | (1, 3) => some (eO 3 [eR (1, 2), eR (1, 12), eR (1, 13), eR (1, 14), eR (7, 10), eR (2, 120), eI (F 4)])
  | (1, 4) => some (eO 0 [eR (1, 2), eR (1, 5), eR (1, 15), eI (F 5), eR (1, 16), eR (1, 17), eR (1, 18), eR (1, 19), eR (7, 14), eR (7, 15), eR (2, 328), eR (2, 329), eR (1, 20), eR (1, 21)])
  | (1, 5) => some (eO 4 [eR (1, 2), eR (9, 10), eR (1, 22), eR (2, 330), eR (2, 331), eI (F 6), eI (F 7)])
  | _ => none
def cA8 (A : Nat → Int → Int) : eM := fun a => match a with
  | (5, p) => if p < 5 then some (eY 0 6 (mk8 (fun i => A 0 (6 * (p : Int) + i)) 6)) else none
  | (6, p) => if p < 5 then some (eY 0 6 (mk8 (fun i => A 1 (6 * (p : Int) + i)) 6)) else none
  | (1, 13) => some (eY 2 10 (mk8 (A 2) 10))
  | (1, 14) => some (eY 2 6 (mk8 (A 3) 6))
  | (1, 15) => some (eY 0 4 (mk8 (A 4) 4))
  | (1, 20) => some (eY 0 3 (mk8 (A 5) 3))
  | (1, 21) => some (eY 0 3 (mk8 (A 6) 3))
  | (1, 22) => some (eY 2 4 (mk8 (A 7) 4))
  | _ => none
def orM (a b : Option eC) : Option eC := match a with
  | some c => some c
  | none => b
def cC (F : Nat → Int) (A : Nat → Int → Int) (W : Nat → Int → Int) : eM := fun a => orM (cW8 W a) (orM (cK8 a) (orM (cF8 F a) (cA8 A a)))
theorem cW8_a2 (W : Nat → Int → Int) (k : Nat) : cW8 W (2, k) = if k < 332 then some (eO 7 [eR (3, k), eI (W k 80), eI (W k 81)]) else none := rfl
theorem cW8_a3 (W : Nat → Int → Int) (k : Nat) : cW8 W (3, k) = if k < 332 then some (eY 0 (lw k) (mk8 (W k) (lw k))) else none := rfl
theorem cK8_a7 (r : Nat) : cK8 (7, r) = if r < 16 then some (eO 6 [eR (8, r)]) else none := rfl
theorem cK8_a8 (r : Nat) : cK8 (8, r) = if r < 16 then some (eY 3 (rl r) (fun i => eR (2, rb r + i.toNat))) else none := rfl
theorem cK8_a9 (g : Nat) : cK8 (9, g) = if g < 11 then some (eO 2 [eR (10, g), eR (2, gb g + 16)]) else none := rfl
theorem cK8_a10 (g : Nat) : cK8 (10, g) = if g < 11 then some (eY 3 16 (fun i => eR (2, gb g + i.toNat))) else none := rfl
theorem cA8_a5 (A : Nat → Int → Int) (p : Nat) : cA8 A (5, p) = if p < 5 then some (eY 0 6 (mk8 (fun i => A 0 (6 * (p : Int) + i)) 6)) else none := rfl
theorem cA8_a6 (A : Nat → Int → Int) (p : Nat) : cA8 A (6, p) = if p < 5 then some (eY 0 6 (mk8 (fun i => A 1 (6 * (p : Int) + i)) 6)) else none := rfl
theorem cC_up {F : Nat → Int} {A : Nat → Int → Int} {W : Nat → Int → Int} {F' : Nat → Int} {A' : Nat → Int → Int} {W' : Nat → Int → Int} {a : eA} {c : eC} (h : cC F' A' W' a = some c) (ho : ∀ b, b ≠ a → cC F' A' W' b = cC F A W b) : eUp (cC F A W) a c = cC F' A' W' := by
  funext b
  unfold eUp
  split
  · rename_i e
    rw [e, h]
  · rename_i e
    exact (ho b e).symm
theorem cC_oW {F : Nat → Int} {A : Nat → Int → Int} {W W' : Nat → Int → Int} {b : eA} (h : cW8 W' b = cW8 W b) : cC F A W' b = cC F A W b := by
  unfold cC
  rw [h]
theorem cC_oF {F F' : Nat → Int} {A : Nat → Int → Int} {W : Nat → Int → Int} {b : eA} (h : cF8 F' b = cF8 F b) : cC F' A W b = cC F A W b := by
  unfold cC
  rw [h]
theorem cC_oA {F : Nat → Int} {A A' : Nat → Int → Int} {W : Nat → Int → Int} {b : eA} (h : cA8 A' b = cA8 A b) : cC F A' W b = cC F A W b := by
  unfold cC
  rw [h]
theorem mk8_e {f : Int → Int} {n i : Int} (h : 0 ≤ i ∧ i < n) : mk8 f n i = eI (f i) := if_pos h
theorem mk8_c {f g : Int → Int} {n : Int} (h : ∀ i, 0 ≤ i → i < n → f i = g i) : mk8 f n = mk8 g n := by
  funext i
  unfold mk8
  split
  · rename_i e
    rw [h i e.1 e.2]
  · rfl
theorem mk8_u {f : Int → Int} {n i z : Int} (h : 0 ≤ i ∧ i < n) : fUp (mk8 f n) i (eI z) = mk8 (uI f i z) n := by
  funext j
  unfold fUp mk8 uI
  by_cases e : j = i
  · subst e
    rw [if_pos rfl, if_pos h, if_pos rfl]
  · rw [if_neg e, if_neg e]
section
variable {F : Nat → Int} {A : Nat → Int → Int} {W : Nat → Int → Int}
theorem cC_2 {k : Nat} (h : k < 332) : cC F A W (2, k) = some (eO 7 [eR (3, k), eI (W k 80), eI (W k 81)]) := by
  show orM (cW8 W (2, k)) _ = _
  rw [cW8_a2, if_pos h]
  rfl
theorem cC_3 {k : Nat} (h : k < 332) : cC F A W (3, k) = some (eY 0 (lw k) (mk8 (W k) (lw k))) := by
  show orM (cW8 W (3, k)) _ = _
  rw [cW8_a3, if_pos h]
  rfl
theorem cW8_o {k : Nat} {f : Int → Int} {b : eA} (h2 : b ≠ (2, k)) (h3 : b ≠ (3, k)) : cW8 (uA W k f) b = cW8 W b := by
  obtain ⟨x, y⟩ := b
  unfold cW8
  split
  · rename_i q e
    cases e
    rw [uA_n W f (fun q => h2 (by rw [q]))]
  · rename_i q e
    cases e
    rw [uA_n W f (fun q => h3 (by rw [q]))]
  · rfl
theorem cW8_3 {k : Nat} {f : Int → Int} (h : ∀ i : Int, 0 ≤ i → i < lw k → f i = W k i) : cW8 (uA W k f) (3, k) = cW8 W (3, k) := by
  rw [cW8_a3, cW8_a3, uA_g, mk8_c h]
theorem cW8_2 {k : Nat} {f : Int → Int} (h0 : f 80 = W k 80) (h1 : f 81 = W k 81) : cW8 (uA W k f) (2, k) = cW8 W (2, k) := by
  rw [cW8_a2, cW8_a2, uA_g, h0, h1]
/-- a whole's size is laid -/
theorem cC_u80 {k : Nat} (h : k < 332) (z : Int) : eUp (cC F A W) (2, k) (.inl (7, [eR (3, k), eI z, eI (W k 81)])) = cC F A (uA W k (uI (W k) 80 z)) :=
  cC_up (by rw [cC_2 h, uA_g, uI_s, uI_n _ _ (by decide)]) (fun b hb => cC_oW (by
    by_cases e : b = (3, k)
    · rw [e]
      exact cW8_3 (fun i i0 i1 => uI_n _ _ (by have := lw_b k; omega))
    · exact cW8_o hb e))
theorem cC_u81 {k : Nat} (h : k < 332) (z : Int) : eUp (cC F A W) (2, k) (.inl (7, [eR (3, k), eI (W k 80), eI z])) = cC F A (uA W k (uI (W k) 81 z)) :=
  cC_up (by rw [cC_2 h, uA_g, uI_s, uI_n _ _ (by decide)]) (fun b hb => cC_oW (by
    by_cases e : b = (3, k)
    · rw [e]
      exact cW8_3 (fun i i0 i1 => uI_n _ _ (by have := lw_b k; omega))
    · exact cW8_o hb e))
theorem cC_uL {k : Nat} (h : k < 332) {i z : Int} (hi : 0 ≤ i ∧ i < lw k) : eUp (cC F A W) (3, k) (.inr (0, lw k, fUp (mk8 (W k) (lw k)) i (eI z))) = cC F A (uA W k (uI (W k) i z)) :=
  cC_up (by rw [cC_3 h, uA_g, mk8_u hi]) (fun b hb => cC_oW (by
    by_cases e : b = (2, k)
    · rw [e]
      exact cW8_2 (uI_n _ _ (by have := lw_b k; omega)) (uI_n _ _ (by have := lw_b k; omega))
    · exact cW8_o e hb))
theorem aC7_0 {k : Nat} {i : Int} {f : eV → Prop} (h : 0 ≤ i ∧ i < lw k) (c : f (eI (W k i))) (hk : k < 332 := by first | assumption | omega) : gA (cC F A W) (3, k) 0 i f := by
  unfold gA
  rw [cC_3 hk]
  exact ⟨rfl, ⟨h.1, h.2, by have := lw_b k; omega⟩, by rw [mk8_e h]; exact c⟩
theorem yC7_0 {k : Nat} {i z : Int} {f : eM → Prop} (h : 0 ≤ i ∧ i < lw k) (c : f (cC F A (uA W k (uI (W k) i z)))) (hk : k < 332 := by first | assumption | omega) : pY (cC F A W) (3, k) 0 i (eI z) f := by
  unfold pY
  rw [cC_3 hk]
  exact ⟨rfl, ⟨h.1, h.2, by have := lw_b k; omega⟩, by rw [cC_uL hk h]; exact c⟩
theorem nC7_0 {k : Nat} {f : Int → Prop} (c : f (lw k)) (hk : k < 332 := by first | assumption | omega) : gN (cC F A W) (3, k) f := by
  unfold gN
  rw [cC_3 hk]
  exact ⟨by decide, by have := lw_b k; omega, c⟩
/-- arrays of wholes -/
def wa (b : eA) (base n : Nat) : Prop := (∃ r, r < 16 ∧ b = (8, r) ∧ base = rb r ∧ n = rl r) ∨ (∃ g, g < 11 ∧ b = (10, g) ∧ base = gb g ∧ n = 16)
theorem wa_e {b : eA} {base n : Nat} (h : wa b base n) : cC F A W b = some (eY 3 n (fun i => eR (2, base + i.toNat))) ∧ n ≤ 16 := by
  rcases h with ⟨r, h, rfl, rfl, rfl⟩ | ⟨g, h, rfl, rfl, rfl⟩
  · refine ⟨?_, by unfold rl; split <;> decide⟩
    show orM none (orM (cK8 (8, r)) _) = _
    rw [cK8_a8, if_pos h]
    rfl
  · refine ⟨?_, by decide⟩
    show orM none (orM (cK8 (10, g)) _) = _
    rw [cK8_a10, if_pos h]
    rfl
theorem wa_a {b : eA} {base n q : Nat} {f : eV → Prop} (h : wa b base n) (hq : q < n) (c : f (eR (2, base + q))) : gR (cC F A W) b (q : Int) f := by
  have e := wa_e (F := F) (A := A) (W := W) h
  unfold gR
  rw [e.1]
  exact ⟨by decide, by decide, ⟨by omega, by omega, by omega⟩, c⟩
theorem wa_n {b : eA} {base n : Nat} {f : Int → Prop} (h : wa b base n) (c : f n) : gN (cC F A W) b f := by
  have e := wa_e (F := F) (A := A) (W := W) h
  unfold gN
  rw [e.1]
  exact ⟨by decide, by omega, c⟩
theorem aC5_0 {p : Nat} {q : Nat} {f : eV → Prop} (hq : q < 5) (c : f (eR (5 + p, q))) (hp : p < 2 := by first | assumption | omega) : gR (cC F A W) (1, 10 + p) (q : Int) f := by
  rcases (show p = 0 ∨ p = 1 by omega) with rfl | rfl <;> (unfold gR; exact ⟨by decide, by decide, ⟨by omega, by omega, by decide⟩, c⟩)
theorem nC5_0 {p : Nat} {f : Int → Prop} (c : f 5) (hp : p < 2 := by first | assumption | omega) : gN (cC F A W) (1, 10 + p) f := by
  rcases (show p = 0 ∨ p = 1 by omega) with rfl | rfl <;> (unfold gN; exact ⟨by decide, by decide, c⟩)
theorem aC3_1 {q : Nat} {f : eV → Prop} (hq : q < 10) (c : f (eR (7, q))) : gR (cC F A W) (1, 12) (q : Int) f := by
  unfold gR
  exact ⟨by decide, by decide, ⟨by omega, by omega, by decide⟩, c⟩
theorem nC3_1 {f : Int → Prop} (c : f 10) : gN (cC F A W) (1, 12) f := by
  unfold gN
  exact ⟨by decide, by decide, c⟩
theorem aC0_4 {q : Nat} {f : eV → Prop} (hq : q < 3) (c : f (eR (9, q))) : gR (cC F A W) (1, 16) (q : Int) f := by
  unfold gR
  exact ⟨by decide, by decide, ⟨by omega, by omega, by decide⟩, c⟩
theorem nC0_4 {f : Int → Prop} (c : f 3) : gN (cC F A W) (1, 16) f := by
  unfold gN
  exact ⟨by decide, by decide, c⟩
theorem aC0_5 {q : Nat} {f : eV → Prop} (hq : q < 4) (c : f (eR (9, 3 + q))) : gR (cC F A W) (1, 17) (q : Int) f := by
  unfold gR
  exact ⟨by decide, by decide, ⟨by omega, by omega, by decide⟩, c⟩
theorem nC0_5 {f : Int → Prop} (c : f 4) : gN (cC F A W) (1, 17) f := by
  unfold gN
  exact ⟨by decide, by decide, c⟩
theorem aC0_6 {q : Nat} {f : eV → Prop} (hq : q < 3) (c : f (eR (9, 7 + q))) : gR (cC F A W) (1, 18) (q : Int) f := by
  unfold gR
  exact ⟨by decide, by decide, ⟨by omega, by omega, by decide⟩, c⟩
theorem nC0_6 {f : Int → Prop} (c : f 3) : gN (cC F A W) (1, 18) f := by
  unfold gN
  exact ⟨by decide, by decide, c⟩
theorem aC0_7 {q : Nat} {f : eV → Prop} (hq : q < 3) (c : f (eR (7, 11 + q))) : gR (cC F A W) (1, 19) (q : Int) f := by
  unfold gR
  exact ⟨by decide, by decide, ⟨by omega, by omega, by decide⟩, c⟩
theorem nC0_7 {f : Int → Prop} (c : f 3) : gN (cC F A W) (1, 19) f := by
  unfold gN
  exact ⟨by decide, by decide, c⟩
theorem cA8_u2 {i z : Int} (hi : 0 ≤ i ∧ i < 10) : eUp (cC F A W) (1, 13) (.inr (2, 10, fUp (mk8 (A 2) 10) i (eI z))) = cC F (uA A 2 (uI (A 2) i z)) W :=
  cC_up (by rw [mk8_u hi]; rfl) (fun b hb => cC_oA (by
    obtain ⟨x, y⟩ := b
    unfold cA8
    split <;> first | rfl | (rename_i e; exact absurd e hb)))
theorem aC3_2 {i : Int} {f : eV → Prop} (h : 0 ≤ i ∧ i < 10) (c : f (eI (A 2 i))) : gA (cC F A W) (1, 13) 2 i f := by
  have e : cC F A W (1, 13) = some (eY 2 10 (mk8 (A 2) 10)) := rfl
  unfold gA
  rw [e]
  exact ⟨rfl, ⟨h.1, h.2, by decide⟩, by rw [mk8_e h]; exact c⟩
theorem yC3_2 {i z : Int} {f : eM → Prop} (h : 0 ≤ i ∧ i < 10) (c : f (cC F (uA A 2 (uI (A 2) i z)) W)) : pY (cC F A W) (1, 13) 2 i (eI z) f := by
  have e : cC F A W (1, 13) = some (eY 2 10 (mk8 (A 2) 10)) := rfl
  unfold pY
  rw [e]
  exact ⟨rfl, ⟨h.1, h.2, by decide⟩, by rw [cA8_u2 h]; exact c⟩
theorem cA8_u3 {i z : Int} (hi : 0 ≤ i ∧ i < 6) : eUp (cC F A W) (1, 14) (.inr (2, 6, fUp (mk8 (A 3) 6) i (eI z))) = cC F (uA A 3 (uI (A 3) i z)) W :=
  cC_up (by rw [mk8_u hi]; rfl) (fun b hb => cC_oA (by
    obtain ⟨x, y⟩ := b
    unfold cA8
    split <;> first | rfl | (rename_i e; exact absurd e hb)))
theorem aC3_3 {i : Int} {f : eV → Prop} (h : 0 ≤ i ∧ i < 6) (c : f (eI (A 3 i))) : gA (cC F A W) (1, 14) 2 i f := by
  have e : cC F A W (1, 14) = some (eY 2 6 (mk8 (A 3) 6)) := rfl
  unfold gA
  rw [e]
  exact ⟨rfl, ⟨h.1, h.2, by decide⟩, by rw [mk8_e h]; exact c⟩
theorem yC3_3 {i z : Int} {f : eM → Prop} (h : 0 ≤ i ∧ i < 6) (c : f (cC F (uA A 3 (uI (A 3) i z)) W)) : pY (cC F A W) (1, 14) 2 i (eI z) f := by
  have e : cC F A W (1, 14) = some (eY 2 6 (mk8 (A 3) 6)) := rfl
  unfold pY
  rw [e]
  exact ⟨rfl, ⟨h.1, h.2, by decide⟩, by rw [cA8_u3 h]; exact c⟩
theorem cA8_u4 {i z : Int} (hi : 0 ≤ i ∧ i < 4) : eUp (cC F A W) (1, 15) (.inr (0, 4, fUp (mk8 (A 4) 4) i (eI z))) = cC F (uA A 4 (uI (A 4) i z)) W :=
  cC_up (by rw [mk8_u hi]; rfl) (fun b hb => cC_oA (by
    obtain ⟨x, y⟩ := b
    unfold cA8
    split <;> first | rfl | (rename_i e; exact absurd e hb)))
theorem aC0_2 {i : Int} {f : eV → Prop} (h : 0 ≤ i ∧ i < 4) (c : f (eI (A 4 i))) : gA (cC F A W) (1, 15) 0 i f := by
  have e : cC F A W (1, 15) = some (eY 0 4 (mk8 (A 4) 4)) := rfl
  unfold gA
  rw [e]
  exact ⟨rfl, ⟨h.1, h.2, by decide⟩, by rw [mk8_e h]; exact c⟩
theorem yC0_2 {i z : Int} {f : eM → Prop} (h : 0 ≤ i ∧ i < 4) (c : f (cC F (uA A 4 (uI (A 4) i z)) W)) : pY (cC F A W) (1, 15) 0 i (eI z) f := by
  have e : cC F A W (1, 15) = some (eY 0 4 (mk8 (A 4) 4)) := rfl
  unfold pY
  rw [e]
  exact ⟨rfl, ⟨h.1, h.2, by decide⟩, by rw [cA8_u4 h]; exact c⟩
theorem cA8_u5 {i z : Int} (hi : 0 ≤ i ∧ i < 3) : eUp (cC F A W) (1, 20) (.inr (0, 3, fUp (mk8 (A 5) 3) i (eI z))) = cC F (uA A 5 (uI (A 5) i z)) W :=
  cC_up (by rw [mk8_u hi]; rfl) (fun b hb => cC_oA (by
    obtain ⟨x, y⟩ := b
    unfold cA8
    split <;> first | rfl | (rename_i e; exact absurd e hb)))
theorem aC0_12 {i : Int} {f : eV → Prop} (h : 0 ≤ i ∧ i < 3) (c : f (eI (A 5 i))) : gA (cC F A W) (1, 20) 0 i f := by
  have e : cC F A W (1, 20) = some (eY 0 3 (mk8 (A 5) 3)) := rfl
  unfold gA
  rw [e]
  exact ⟨rfl, ⟨h.1, h.2, by decide⟩, by rw [mk8_e h]; exact c⟩
theorem yC0_12 {i z : Int} {f : eM → Prop} (h : 0 ≤ i ∧ i < 3) (c : f (cC F (uA A 5 (uI (A 5) i z)) W)) : pY (cC F A W) (1, 20) 0 i (eI z) f := by
  have e : cC F A W (1, 20) = some (eY 0 3 (mk8 (A 5) 3)) := rfl
  unfold pY
  rw [e]
  exact ⟨rfl, ⟨h.1, h.2, by decide⟩, by rw [cA8_u5 h]; exact c⟩
theorem cA8_u6 {i z : Int} (hi : 0 ≤ i ∧ i < 3) : eUp (cC F A W) (1, 21) (.inr (0, 3, fUp (mk8 (A 6) 3) i (eI z))) = cC F (uA A 6 (uI (A 6) i z)) W :=
  cC_up (by rw [mk8_u hi]; rfl) (fun b hb => cC_oA (by
    obtain ⟨x, y⟩ := b
    unfold cA8
    split <;> first | rfl | (rename_i e; exact absurd e hb)))
theorem aC0_13 {i : Int} {f : eV → Prop} (h : 0 ≤ i ∧ i < 3) (c : f (eI (A 6 i))) : gA (cC F A W) (1, 21) 0 i f := by
  have e : cC F A W (1, 21) = some (eY 0 3 (mk8 (A 6) 3)) := rfl
  unfold gA
  rw [e]
  exact ⟨rfl, ⟨h.1, h.2, by decide⟩, by rw [mk8_e h]; exact c⟩
theorem yC0_13 {i z : Int} {f : eM → Prop} (h : 0 ≤ i ∧ i < 3) (c : f (cC F (uA A 6 (uI (A 6) i z)) W)) : pY (cC F A W) (1, 21) 0 i (eI z) f := by
  have e : cC F A W (1, 21) = some (eY 0 3 (mk8 (A 6) 3)) := rfl
  unfold pY
  rw [e]
  exact ⟨rfl, ⟨h.1, h.2, by decide⟩, by rw [cA8_u6 h]; exact c⟩
theorem cA8_u7 {i z : Int} (hi : 0 ≤ i ∧ i < 4) : eUp (cC F A W) (1, 22) (.inr (2, 4, fUp (mk8 (A 7) 4) i (eI z))) = cC F (uA A 7 (uI (A 7) i z)) W :=
  cC_up (by rw [mk8_u hi]; rfl) (fun b hb => cC_oA (by
    obtain ⟨x, y⟩ := b
    unfold cA8
    split <;> first | rfl | (rename_i e; exact absurd e hb)))
theorem aC4_2 {i : Int} {f : eV → Prop} (h : 0 ≤ i ∧ i < 4) (c : f (eI (A 7 i))) : gA (cC F A W) (1, 22) 2 i f := by
  have e : cC F A W (1, 22) = some (eY 2 4 (mk8 (A 7) 4)) := rfl
  unfold gA
  rw [e]
  exact ⟨rfl, ⟨h.1, h.2, by decide⟩, by rw [mk8_e h]; exact c⟩
theorem yC4_2 {i z : Int} {f : eM → Prop} (h : 0 ≤ i ∧ i < 4) (c : f (cC F (uA A 7 (uI (A 7) i z)) W)) : pY (cC F A W) (1, 22) 2 i (eI z) f := by
  have e : cC F A W (1, 22) = some (eY 2 4 (mk8 (A 7) 4)) := rfl
  unfold pY
  rw [e]
  exact ⟨rfl, ⟨h.1, h.2, by decide⟩, by rw [cA8_u7 h]; exact c⟩
theorem cC_5 {p q : Nat} (hp : p < 2) (hq : q < 5) : cC F A W (5 + p, q) = some (eY 0 6 (mk8 (fun i => A p (6 * (q : Int) + i)) 6)) := by
  rcases (show p = 0 ∨ p = 1 by omega) with rfl | rfl
  · show orM none (orM none (orM none (cA8 A (5, q)))) = _
    rw [cA8_a5, if_pos hq]
    rfl
  · show orM none (orM none (orM none (cA8 A (6, q)))) = _
    rw [cA8_a6, if_pos hq]
    rfl
theorem cC_u5 {p q : Nat} (hp : p < 2) (hq : q < 5) {i z : Int} (hi : 0 ≤ i ∧ i < 6) : eUp (cC F A W) (5 + p, q) (.inr (0, 6, fUp (mk8 (fun i => A p (6 * (q : Int) + i)) 6) i (eI z))) = cC F (uA A p (uI (A p) (6 * (q : Int) + i) z)) W := by
  refine cC_up ?_ (fun b hb => cC_oA ?_)
  · rw [cC_5 hp hq, mk8_u hi, uA_g]
    congr 3
    funext j
    unfold uI
    by_cases e : j = i
    · rw [if_pos e, if_pos (by omega)]
    · rw [if_neg e, if_neg (by omega)]
  · obtain ⟨x, y⟩ := b
    have ne : ∀ j : Nat, j ≠ p → uA A p (uI (A p) (6 * (q : Int) + i) z) j = A j := fun j hj => uA_n _ _ hj
    have at_ : ∀ y : Nat, y ≠ q → mk8 (fun j => uA A p (uI (A p) (6 * (q : Int) + i) z) p (6 * (y : Int) + j)) 6 = mk8 (fun j => A p (6 * (y : Int) + j)) 6 := fun y hy => mk8_c (fun j j0 j1 => by rw [uA_g, uI_n _ _ (by omega)])
    rcases (show p = 0 ∨ p = 1 by omega) with rfl | rfl
    · unfold cA8
      split
      · rename_i y' e
        cases e
        rw [at_ y (fun g => hb (by rw [g]))]
      · rw [ne 1 (by decide)]
      · rw [ne 2 (by decide)]
      · rw [ne 3 (by decide)]
      · rw [ne 4 (by decide)]
      · rw [ne 5 (by decide)]
      · rw [ne 6 (by decide)]
      · rw [ne 7 (by decide)]
      · rfl
    · unfold cA8
      split
      · rw [ne 0 (by decide)]
      · rename_i y' e
        cases e
        rw [at_ y (fun g => hb (by rw [g]))]
      · rw [ne 2 (by decide)]
      · rw [ne 3 (by decide)]
      · rw [ne 4 (by decide)]
      · rw [ne 5 (by decide)]
      · rw [ne 6 (by decide)]
      · rw [ne 7 (by decide)]
      · rfl
theorem aCP {p q : Nat} {i : Int} {f : eV → Prop} (h : 0 ≤ i ∧ i < 6) (c : f (eI (A p (6 * (q : Int) + i)))) (hp : p < 2 := by first | assumption | omega) (hq : q < 5 := by first | assumption | omega) : gA (cC F A W) (5 + p, q) 0 i f := by
  unfold gA
  rw [cC_5 hp hq]
  exact ⟨rfl, ⟨h.1, h.2, by decide⟩, by rw [mk8_e h]; exact c⟩
theorem yCP {p q : Nat} {i z : Int} {f : eM → Prop} (h : 0 ≤ i ∧ i < 6) (c : f (cC F (uA A p (uI (A p) (6 * (q : Int) + i) z)) W)) (hp : p < 2 := by first | assumption | omega) (hq : q < 5 := by first | assumption | omega) : pY (cC F A W) (5 + p, q) 0 i (eI z) f := by
  unfold pY
  rw [cC_5 hp hq]
  exact ⟨rfl, ⟨h.1, h.2, by decide⟩, by rw [cC_u5 hp hq h]; exact c⟩
theorem cF8_u0 (z : Int) : eUp (cC F A W) (0, 0) (.inl (8, [eR (1, 0), eR (1, 1), eR (1, 2), eR (1, 3), eR (1, 4), eI z, eI (F 1)])) = cC (uF F 0 z) A W :=
  cC_up rfl (fun b hb => cC_oF (by
    obtain ⟨x, y⟩ := b
    unfold cF8
    split <;> first | rfl | (rename_i e; exact absurd e hb)))
theorem cF8_u1 (z : Int) : eUp (cC F A W) (0, 0) (.inl (8, [eR (1, 0), eR (1, 1), eR (1, 2), eR (1, 3), eR (1, 4), eI (F 0), eI z])) = cC (uF F 1 z) A W :=
  cC_up rfl (fun b hb => cC_oF (by
    obtain ⟨x, y⟩ := b
    unfold cF8
    split <;> first | rfl | (rename_i e; exact absurd e hb)))
theorem cF8_u4 (z : Int) : eUp (cC F A W) (1, 3) (.inl (3, [eR (1, 2), eR (1, 12), eR (1, 13), eR (1, 14), eR (7, 10), eR (2, 120), eI z])) = cC (uF F 4 z) A W :=
  cC_up rfl (fun b hb => cC_oF (by
    obtain ⟨x, y⟩ := b
    unfold cF8
    split <;> first | rfl | (rename_i e; exact absurd e hb)))
theorem cF8_u5 (z : Int) : eUp (cC F A W) (1, 4) (.inl (0, [eR (1, 2), eR (1, 5), eR (1, 15), eI z, eR (1, 16), eR (1, 17), eR (1, 18), eR (1, 19), eR (7, 14), eR (7, 15), eR (2, 328), eR (2, 329), eR (1, 20), eR (1, 21)])) = cC (uF F 5 z) A W :=
  cC_up rfl (fun b hb => cC_oF (by
    obtain ⟨x, y⟩ := b
    unfold cF8
    split <;> first | rfl | (rename_i e; exact absurd e hb)))
theorem cF8_u6 (z : Int) : eUp (cC F A W) (1, 5) (.inl (4, [eR (1, 2), eR (9, 10), eR (1, 22), eR (2, 330), eR (2, 331), eI z, eI (F 7)])) = cC (uF F 6 z) A W :=
  cC_up rfl (fun b hb => cC_oF (by
    obtain ⟨x, y⟩ := b
    unfold cF8
    split <;> first | rfl | (rename_i e; exact absurd e hb)))
theorem cF8_u7 (z : Int) : eUp (cC F A W) (1, 5) (.inl (4, [eR (1, 2), eR (9, 10), eR (1, 22), eR (2, 330), eR (2, 331), eI (F 6), eI z])) = cC (uF F 7 z) A W :=
  cC_up rfl (fun b hb => cC_oF (by
    obtain ⟨x, y⟩ := b
    unfold cF8
    split <;> first | rfl | (rename_i e; exact absurd e hb)))
theorem cF8_u2 (z : Int) : eUp (cC F A W) (1, 0) (.inl (5, [eR (1, 10), eI z])) = cC (uF F 2 z) A W :=
  cC_up rfl (fun b hb => cC_oF (by
    obtain ⟨x, y⟩ := b
    unfold cF8
    split <;> first | rfl | (rename_i e; exact absurd e hb)))
theorem cF8_u3 (z : Int) : eUp (cC F A W) (1, 1) (.inl (5, [eR (1, 11), eI z])) = cC (uF F 3 z) A W :=
  cC_up rfl (fun b hb => cC_oF (by
    obtain ⟨x, y⟩ := b
    unfold cF8
    split <;> first | rfl | (rename_i e; exact absurd e hb)))
theorem gX0_13 {f : eV → Prop} (c : f (eR (1, 15))) : gF (cC F A W) (1, 4) (fl_RX0 13) f := by
  have e : fl_RX0 13 = some (0, 2) := by decide +kernel
  rw [e]
  exact ⟨rfl, c⟩
theorem gX0_17 {f : eV → Prop} (c : f (eI (F 5))) : gF (cC F A W) (1, 4) (fl_RX0 17) f := by
  have e : fl_RX0 17 = some (0, 3) := by decide +kernel
  rw [e]
  exact ⟨rfl, c⟩
theorem pX0_17 {z : Int} {f : eM → Prop} (c : f (cC (uF F 5 z) A W)) : pF (cC F A W) (1, 4) (fl_RX0 17) z f := by
  have e : fl_RX0 17 = some (0, 3) := by decide +kernel
  rw [e]
  exact ⟨rfl, trivial, by show f (eUp (cC F A W) (1, 4) (.inl (0, [eR (1, 2), eR (1, 5), eR (1, 15), eI z, eR (1, 16), eR (1, 17), eR (1, 18), eR (1, 19), eR (7, 14), eR (7, 15), eR (2, 328), eR (2, 329), eR (1, 20), eR (1, 21)]))); rw [cF8_u5]; exact c⟩
theorem gX0_21 {f : eV → Prop} (c : f (eR (1, 16))) : gF (cC F A W) (1, 4) (fl_RX0 21) f := by
  have e : fl_RX0 21 = some (0, 4) := by decide +kernel
  rw [e]
  exact ⟨rfl, c⟩
theorem gX0_25 {f : eV → Prop} (c : f (eR (1, 17))) : gF (cC F A W) (1, 4) (fl_RX0 25) f := by
  have e : fl_RX0 25 = some (0, 5) := by decide +kernel
  rw [e]
  exact ⟨rfl, c⟩
theorem gX0_28 {f : eV → Prop} (c : f (eR (1, 18))) : gF (cC F A W) (1, 4) (fl_RX0 28) f := by
  have e : fl_RX0 28 = some (0, 6) := by decide +kernel
  rw [e]
  exact ⟨rfl, c⟩
theorem gX0_33 {f : eV → Prop} (c : f (eR (1, 19))) : gF (cC F A W) (1, 4) (fl_RX0 33) f := by
  have e : fl_RX0 33 = some (0, 7) := by decide +kernel
  rw [e]
  exact ⟨rfl, c⟩
theorem gX0_40 {f : eV → Prop} (c : f (eR (7, 14))) : gF (cC F A W) (1, 4) (fl_RX0 40) f := by
  have e : fl_RX0 40 = some (0, 8) := by decide +kernel
  rw [e]
  exact ⟨rfl, c⟩
theorem gX0_44 {f : eV → Prop} (c : f (eR (7, 15))) : gF (cC F A W) (1, 4) (fl_RX0 44) f := by
  have e : fl_RX0 44 = some (0, 9) := by decide +kernel
  rw [e]
  exact ⟨rfl, c⟩
theorem gX0_50 {f : eV → Prop} (c : f (eR (2, 328))) : gF (cC F A W) (1, 4) (fl_RX0 50) f := by
  have e : fl_RX0 50 = some (0, 10) := by decide +kernel
  rw [e]
  exact ⟨rfl, c⟩
theorem gX0_54 {f : eV → Prop} (c : f (eR (2, 329))) : gF (cC F A W) (1, 4) (fl_RX0 54) f := by
  have e : fl_RX0 54 = some (0, 11) := by decide +kernel
  rw [e]
  exact ⟨rfl, c⟩
theorem gX0_57 {f : eV → Prop} (c : f (eR (1, 20))) : gF (cC F A W) (1, 4) (fl_RX0 57) f := by
  have e : fl_RX0 57 = some (0, 12) := by decide +kernel
  rw [e]
  exact ⟨rfl, c⟩
theorem gX0_60 {f : eV → Prop} (c : f (eR (1, 21))) : gF (cC F A W) (1, 4) (fl_RX0 60) f := by
  have e : fl_RX0 60 = some (0, 13) := by decide +kernel
  rw [e]
  exact ⟨rfl, c⟩
theorem gX0_63 {f : eV → Prop} (c : f (eR (1, 2))) : gF (cC F A W) (1, 4) (fl_RX0 63) f := by
  have e : fl_RX0 63 = some (0, 0) := by decide +kernel
  rw [e]
  exact ⟨rfl, c⟩
theorem gX0_72 {f : eV → Prop} (c : f (eR (1, 5))) : gF (cC F A W) (1, 4) (fl_RX0 72) f := by
  have e : fl_RX0 72 = some (0, 1) := by decide +kernel
  rw [e]
  exact ⟨rfl, c⟩
theorem gX0_105 {f : eV → Prop} (c : f (eI (F 6))) : gF (cC F A W) (1, 5) (fl_RX0 105) f := by
  have e : fl_RX0 105 = some (4, 5) := by decide +kernel
  rw [e]
  exact ⟨rfl, c⟩
theorem gX0_108 {f : eV → Prop} (c : f (eI (F 7))) : gF (cC F A W) (1, 5) (fl_RX0 108) f := by
  have e : fl_RX0 108 = some (4, 6) := by decide +kernel
  rw [e]
  exact ⟨rfl, c⟩
theorem gX0_153 {g : Nat} {f : eV → Prop} (c : f (eR (2, gb g + 16))) (h : g < 11 := by first | assumption | omega) : gF (cC F A W) (9, g) (fl_RX0 153) f := by
  have e : fl_RX0 153 = some (2, 1) := by decide +kernel
  rw [e]
  have q : cC F A W (9, g) = some (eO 2 [eR (10, g), eR (2, gb g + 16)]) := by
    show orM none (orM (cK8 (9, g)) _) = _
    rw [cK8_a9, if_pos h]
    rfl
  unfold gF
  rw [q]
  exact ⟨rfl, c⟩
theorem gX0_177 {r : Nat} {f : eV → Prop} (c : f (eR (8, r))) (h : r < 16 := by first | assumption | omega) : gF (cC F A W) (7, r) (fl_RX0 177) f := by
  have e : fl_RX0 177 = some (6, 0) := by decide +kernel
  rw [e]
  have q : cC F A W (7, r) = some (eO 6 [eR (8, r)]) := by
    show orM none (orM (cK8 (7, r)) _) = _
    rw [cK8_a7, if_pos h]
    rfl
  unfold gF
  rw [q]
  exact ⟨rfl, c⟩
theorem gX1_14 {f : eV → Prop} (c : f (eR (2, 0))) : gF (cC F A W) (1, 2) (fl_RX1 14) f := by
  have e : fl_RX1 14 = some (1, 0) := by decide +kernel
  rw [e]
  exact ⟨rfl, c⟩
theorem gX1_20 {f : eV → Prop} (c : f (eR (2, 1))) : gF (cC F A W) (1, 2) (fl_RX1 20) f := by
  have e : fl_RX1 20 = some (1, 1) := by decide +kernel
  rw [e]
  exact ⟨rfl, c⟩
theorem gX1_23 {f : eV → Prop} (c : f (eR (2, 2))) : gF (cC F A W) (1, 2) (fl_RX1 23) f := by
  have e : fl_RX1 23 = some (1, 2) := by decide +kernel
  rw [e]
  exact ⟨rfl, c⟩
theorem gX1_26 {f : eV → Prop} (c : f (eR (2, 3))) : gF (cC F A W) (1, 2) (fl_RX1 26) f := by
  have e : fl_RX1 26 = some (1, 3) := by decide +kernel
  rw [e]
  exact ⟨rfl, c⟩
theorem gX1_29 {f : eV → Prop} (c : f (eR (2, 4))) : gF (cC F A W) (1, 2) (fl_RX1 29) f := by
  have e : fl_RX1 29 = some (1, 4) := by decide +kernel
  rw [e]
  exact ⟨rfl, c⟩
theorem gX1_32 {f : eV → Prop} (c : f (eR (2, 5))) : gF (cC F A W) (1, 2) (fl_RX1 32) f := by
  have e : fl_RX1 32 = some (1, 5) := by decide +kernel
  rw [e]
  exact ⟨rfl, c⟩
theorem gX1_35 {f : eV → Prop} (c : f (eR (2, 6))) : gF (cC F A W) (1, 2) (fl_RX1 35) f := by
  have e : fl_RX1 35 = some (1, 6) := by decide +kernel
  rw [e]
  exact ⟨rfl, c⟩
theorem gX1_38 {f : eV → Prop} (c : f (eR (2, 7))) : gF (cC F A W) (1, 2) (fl_RX1 38) f := by
  have e : fl_RX1 38 = some (1, 7) := by decide +kernel
  rw [e]
  exact ⟨rfl, c⟩
theorem gX1_41 {f : eV → Prop} (c : f (eR (2, 8))) : gF (cC F A W) (1, 2) (fl_RX1 41) f := by
  have e : fl_RX1 41 = some (1, 8) := by decide +kernel
  rw [e]
  exact ⟨rfl, c⟩
theorem gX1_44 {f : eV → Prop} (c : f (eR (2, 9))) : gF (cC F A W) (1, 2) (fl_RX1 44) f := by
  have e : fl_RX1 44 = some (1, 9) := by decide +kernel
  rw [e]
  exact ⟨rfl, c⟩
theorem gX1_67 {k : Nat} {f : eV → Prop} (c : f (eI (W k 81))) (h : k < 332 := by first | assumption | omega) : gF (cC F A W) (2, k) (fl_RX1 67) f := by
  have e : fl_RX1 67 = some (7, 2) := by decide +kernel
  rw [e]
  unfold gF
  rw [cC_2 h]
  exact ⟨rfl, c⟩
theorem pX1_67 {k : Nat} {z : Int} {f : eM → Prop} (c : f (cC F A (uA W k (uI (W k) 81 z)))) (h : k < 332 := by first | assumption | omega) : pF (cC F A W) (2, k) (fl_RX1 67) z f := by
  have e : fl_RX1 67 = some (7, 2) := by decide +kernel
  rw [e]
  unfold pF
  rw [cC_2 h]
  exact ⟨rfl, trivial, by show f (eUp (cC F A W) (2, k) (.inl (7, [eR (3, k), eI (W k 80), eI z]))); rw [cC_u81 h]; exact c⟩
theorem gX1_71 {k : Nat} {f : eV → Prop} (c : f (eI (W k 80))) (h : k < 332 := by first | assumption | omega) : gF (cC F A W) (2, k) (fl_RX1 71) f := by
  have e : fl_RX1 71 = some (7, 1) := by decide +kernel
  rw [e]
  unfold gF
  rw [cC_2 h]
  exact ⟨rfl, c⟩
theorem pX1_71 {k : Nat} {z : Int} {f : eM → Prop} (c : f (cC F A (uA W k (uI (W k) 80 z)))) (h : k < 332 := by first | assumption | omega) : pF (cC F A W) (2, k) (fl_RX1 71) z f := by
  have e : fl_RX1 71 = some (7, 1) := by decide +kernel
  rw [e]
  unfold pF
  rw [cC_2 h]
  exact ⟨rfl, trivial, by show f (eUp (cC F A W) (2, k) (.inl (7, [eR (3, k), eI z, eI (W k 81)]))); rw [cC_u80 h]; exact c⟩
theorem gX1_74 {k : Nat} {f : eV → Prop} (c : f (eR (3, k))) (h : k < 332 := by first | assumption | omega) : gF (cC F A W) (2, k) (fl_RX1 74) f := by
  have e : fl_RX1 74 = some (7, 0) := by decide +kernel
  rw [e]
  unfold gF
  rw [cC_2 h]
  exact ⟨rfl, c⟩
theorem gX2_11 {g : Nat} {f : eV → Prop} (c : f (eR (10, g))) (h : g < 11 := by first | assumption | omega) : gF (cC F A W) (9, g) (fl_RX2 11) f := by
  have e : fl_RX2 11 = some (2, 0) := by decide +kernel
  rw [e]
  have q : cC F A W (9, g) = some (eO 2 [eR (10, g), eR (2, gb g + 16)]) := by
    show orM none (orM (cK8 (9, g)) _) = _
    rw [cK8_a9, if_pos h]
    rfl
  unfold gF
  rw [q]
  exact ⟨rfl, c⟩
theorem gX2_18 {g : Nat} {f : eV → Prop} (c : f (eR (2, gb g + 16))) (h : g < 11 := by first | assumption | omega) : gF (cC F A W) (9, g) (fl_RX2 18) f := by
  have e : fl_RX2 18 = some (2, 1) := by decide +kernel
  rw [e]
  have q : cC F A W (9, g) = some (eO 2 [eR (10, g), eR (2, gb g + 16)]) := by
    show orM none (orM (cK8 (9, g)) _) = _
    rw [cK8_a9, if_pos h]
    rfl
  unfold gF
  rw [q]
  exact ⟨rfl, c⟩
theorem gX3_15 {f : eV → Prop} (c : f (eR (1, 12))) : gF (cC F A W) (1, 3) (fl_RX3 15) f := by
  have e : fl_RX3 15 = some (3, 1) := by decide +kernel
  rw [e]
  exact ⟨rfl, c⟩
theorem gX3_19 {f : eV → Prop} (c : f (eR (1, 13))) : gF (cC F A W) (1, 3) (fl_RX3 19) f := by
  have e : fl_RX3 19 = some (3, 2) := by decide +kernel
  rw [e]
  exact ⟨rfl, c⟩
theorem gX3_23 {f : eV → Prop} (c : f (eR (1, 14))) : gF (cC F A W) (1, 3) (fl_RX3 23) f := by
  have e : fl_RX3 23 = some (3, 3) := by decide +kernel
  rw [e]
  exact ⟨rfl, c⟩
theorem gX3_29 {f : eV → Prop} (c : f (eR (7, 10))) : gF (cC F A W) (1, 3) (fl_RX3 29) f := by
  have e : fl_RX3 29 = some (3, 4) := by decide +kernel
  rw [e]
  exact ⟨rfl, c⟩
theorem gX3_36 {f : eV → Prop} (c : f (eR (2, 120))) : gF (cC F A W) (1, 3) (fl_RX3 36) f := by
  have e : fl_RX3 36 = some (3, 5) := by decide +kernel
  rw [e]
  exact ⟨rfl, c⟩
theorem gX3_40 {f : eV → Prop} (c : f (eI (F 4))) : gF (cC F A W) (1, 3) (fl_RX3 40) f := by
  have e : fl_RX3 40 = some (3, 6) := by decide +kernel
  rw [e]
  exact ⟨rfl, c⟩
theorem pX3_40 {z : Int} {f : eM → Prop} (hz : z = 0 ∨ z = 1) (c : f (cC (uF F 4 z) A W)) : pF (cC F A W) (1, 3) (fl_RX3 40) z f := by
  have e : fl_RX3 40 = some (3, 6) := by decide +kernel
  rw [e]
  exact ⟨rfl, hz, by show f (eUp (cC F A W) (1, 3) (.inl (3, [eR (1, 2), eR (1, 12), eR (1, 13), eR (1, 14), eR (7, 10), eR (2, 120), eI z]))); rw [cF8_u4]; exact c⟩
theorem gX3_44 {f : eV → Prop} (c : f (eR (1, 2))) : gF (cC F A W) (1, 3) (fl_RX3 44) f := by
  have e : fl_RX3 44 = some (3, 0) := by decide +kernel
  rw [e]
  exact ⟨rfl, c⟩
theorem gX3_74 {r : Nat} {f : eV → Prop} (c : f (eR (8, r))) (h : r < 16 := by first | assumption | omega) : gF (cC F A W) (7, r) (fl_RX3 74) f := by
  have e : fl_RX3 74 = some (6, 0) := by decide +kernel
  rw [e]
  have q : cC F A W (7, r) = some (eO 6 [eR (8, r)]) := by
    show orM none (orM (cK8 (7, r)) _) = _
    rw [cK8_a7, if_pos h]
    rfl
  unfold gF
  rw [q]
  exact ⟨rfl, c⟩
theorem gX3_111 {k : Nat} {f : eV → Prop} (c : f (eI (W k 81))) (h : k < 332 := by first | assumption | omega) : gF (cC F A W) (2, k) (fl_RX3 111) f := by
  have e : fl_RX3 111 = some (7, 2) := by decide +kernel
  rw [e]
  unfold gF
  rw [cC_2 h]
  exact ⟨rfl, c⟩
theorem gX4_16 {f : eV → Prop} (c : f (eR (9, 10))) : gF (cC F A W) (1, 5) (fl_RX4 16) f := by
  have e : fl_RX4 16 = some (4, 1) := by decide +kernel
  rw [e]
  exact ⟨rfl, c⟩
theorem gX4_22 {f : eV → Prop} (c : f (eR (1, 22))) : gF (cC F A W) (1, 5) (fl_RX4 22) f := by
  have e : fl_RX4 22 = some (4, 2) := by decide +kernel
  rw [e]
  exact ⟨rfl, c⟩
theorem gX4_27 {f : eV → Prop} (c : f (eR (2, 330))) : gF (cC F A W) (1, 5) (fl_RX4 27) f := by
  have e : fl_RX4 27 = some (4, 3) := by decide +kernel
  rw [e]
  exact ⟨rfl, c⟩
theorem gX4_31 {f : eV → Prop} (c : f (eR (2, 331))) : gF (cC F A W) (1, 5) (fl_RX4 31) f := by
  have e : fl_RX4 31 = some (4, 4) := by decide +kernel
  rw [e]
  exact ⟨rfl, c⟩
theorem gX4_34 {f : eV → Prop} (c : f (eI (F 6))) : gF (cC F A W) (1, 5) (fl_RX4 34) f := by
  have e : fl_RX4 34 = some (4, 5) := by decide +kernel
  rw [e]
  exact ⟨rfl, c⟩
theorem pX4_34 {z : Int} {f : eM → Prop} (c : f (cC (uF F 6 z) A W)) : pF (cC F A W) (1, 5) (fl_RX4 34) z f := by
  have e : fl_RX4 34 = some (4, 5) := by decide +kernel
  rw [e]
  exact ⟨rfl, trivial, by show f (eUp (cC F A W) (1, 5) (.inl (4, [eR (1, 2), eR (9, 10), eR (1, 22), eR (2, 330), eR (2, 331), eI z, eI (F 7)]))); rw [cF8_u6]; exact c⟩
theorem gX4_38 {f : eV → Prop} (c : f (eI (F 7))) : gF (cC F A W) (1, 5) (fl_RX4 38) f := by
  have e : fl_RX4 38 = some (4, 6) := by decide +kernel
  rw [e]
  exact ⟨rfl, c⟩
theorem pX4_38 {z : Int} {f : eM → Prop} (c : f (cC (uF F 7 z) A W)) : pF (cC F A W) (1, 5) (fl_RX4 38) z f := by
  have e : fl_RX4 38 = some (4, 6) := by decide +kernel
  rw [e]
  exact ⟨rfl, trivial, by show f (eUp (cC F A W) (1, 5) (.inl (4, [eR (1, 2), eR (9, 10), eR (1, 22), eR (2, 330), eR (2, 331), eI (F 6), eI z]))); rw [cF8_u7]; exact c⟩
theorem gX4_41 {f : eV → Prop} (c : f (eR (1, 2))) : gF (cC F A W) (1, 5) (fl_RX4 41) f := by
  have e : fl_RX4 41 = some (4, 0) := by decide +kernel
  rw [e]
  exact ⟨rfl, c⟩
theorem gX4_49 {g : Nat} {f : eV → Prop} (c : f (eR (10, g))) (h : g < 11 := by first | assumption | omega) : gF (cC F A W) (9, g) (fl_RX4 49) f := by
  have e : fl_RX4 49 = some (2, 0) := by decide +kernel
  rw [e]
  have q : cC F A W (9, g) = some (eO 2 [eR (10, g), eR (2, gb g + 16)]) := by
    show orM none (orM (cK8 (9, g)) _) = _
    rw [cK8_a9, if_pos h]
    rfl
  unfold gF
  rw [q]
  exact ⟨rfl, c⟩
theorem gX4_67 {k : Nat} {f : eV → Prop} (c : f (eI (W k 81))) (h : k < 332 := by first | assumption | omega) : gF (cC F A W) (2, k) (fl_RX4 67) f := by
  have e : fl_RX4 67 = some (7, 2) := by decide +kernel
  rw [e]
  unfold gF
  rw [cC_2 h]
  exact ⟨rfl, c⟩
theorem gX6_15 {p : Nat} {f : eV → Prop} (c : f (eR (1, 10 + p))) (h : p < 2 := by first | assumption | omega) : gF (cC F A W) (1, p) (fl_RX6 15) f := by
  have e : fl_RX6 15 = some (5, 0) := by decide +kernel
  rw [e]
  rcases (show p = 0 ∨ p = 1 by omega) with rfl | rfl
  · exact ⟨rfl, c⟩
  · exact ⟨rfl, c⟩
theorem gX6_18 {p : Nat} {f : eV → Prop} (c : f (eI (F (2 + p)))) (h : p < 2 := by first | assumption | omega) : gF (cC F A W) (1, p) (fl_RX6 18) f := by
  have e : fl_RX6 18 = some (5, 1) := by decide +kernel
  rw [e]
  rcases (show p = 0 ∨ p = 1 by omega) with rfl | rfl
  · exact ⟨rfl, c⟩
  · exact ⟨rfl, c⟩
theorem pX6_18 {p : Nat} {z : Int} {f : eM → Prop} (c : f (cC (uF F (2 + p) z) A W)) (h : p < 2 := by first | assumption | omega) : pF (cC F A W) (1, p) (fl_RX6 18) z f := by
  have e : fl_RX6 18 = some (5, 1) := by decide +kernel
  rw [e]
  rcases (show p = 0 ∨ p = 1 by omega) with rfl | rfl
  · exact ⟨rfl, trivial, by show f (eUp (cC F A W) (1, 0) (.inl (5, [eR (1, 10), eI z]))); rw [cF8_u2]; exact c⟩
  · exact ⟨rfl, trivial, by show f (eUp (cC F A W) (1, 1) (.inl (5, [eR (1, 11), eI z]))); rw [cF8_u3]; exact c⟩
theorem gX7_15 {r : Nat} {f : eV → Prop} (c : f (eR (8, r))) (h : r < 16 := by first | assumption | omega) : gF (cC F A W) (7, r) (fl_RX7 15) f := by
  have e : fl_RX7 15 = some (6, 0) := by decide +kernel
  rw [e]
  have q : cC F A W (7, r) = some (eO 6 [eR (8, r)]) := by
    show orM none (orM (cK8 (7, r)) _) = _
    rw [cK8_a7, if_pos h]
    rfl
  unfold gF
  rw [q]
  exact ⟨rfl, c⟩
theorem gX8_9 {k : Nat} {f : eV → Prop} (c : f (eI (W k 80))) (h : k < 332 := by first | assumption | omega) : gF (cC F A W) (2, k) (fl_RX8 9) f := by
  have e : fl_RX8 9 = some (7, 1) := by decide +kernel
  rw [e]
  unfold gF
  rw [cC_2 h]
  exact ⟨rfl, c⟩
theorem pX8_9 {k : Nat} {z : Int} {f : eM → Prop} (c : f (cC F A (uA W k (uI (W k) 80 z)))) (h : k < 332 := by first | assumption | omega) : pF (cC F A W) (2, k) (fl_RX8 9) z f := by
  have e : fl_RX8 9 = some (7, 1) := by decide +kernel
  rw [e]
  unfold pF
  rw [cC_2 h]
  exact ⟨rfl, trivial, by show f (eUp (cC F A W) (2, k) (.inl (7, [eR (3, k), eI z, eI (W k 81)]))); rw [cC_u80 h]; exact c⟩
theorem gX8_13 {k : Nat} {f : eV → Prop} (c : f (eI (W k 81))) (h : k < 332 := by first | assumption | omega) : gF (cC F A W) (2, k) (fl_RX8 13) f := by
  have e : fl_RX8 13 = some (7, 2) := by decide +kernel
  rw [e]
  unfold gF
  rw [cC_2 h]
  exact ⟨rfl, c⟩
theorem pX8_13 {k : Nat} {z : Int} {f : eM → Prop} (c : f (cC F A (uA W k (uI (W k) 81 z)))) (h : k < 332 := by first | assumption | omega) : pF (cC F A W) (2, k) (fl_RX8 13) z f := by
  have e : fl_RX8 13 = some (7, 2) := by decide +kernel
  rw [e]
  unfold pF
  rw [cC_2 h]
  exact ⟨rfl, trivial, by show f (eUp (cC F A W) (2, k) (.inl (7, [eR (3, k), eI (W k 80), eI z]))); rw [cC_u81 h]; exact c⟩
theorem gX8_22 {k : Nat} {f : eV → Prop} (c : f (eR (3, k))) (h : k < 332 := by first | assumption | omega) : gF (cC F A W) (2, k) (fl_RX8 22) f := by
  have e : fl_RX8 22 = some (7, 0) := by decide +kernel
  rw [e]
  unfold gF
  rw [cC_2 h]
  exact ⟨rfl, c⟩
theorem gX9_15 {f : eV → Prop} (c : f (eR (1, 0))) : gF (cC F A W) (0, 0) (fl_RX9 15) f := by
  have e : fl_RX9 15 = some (8, 0) := by decide +kernel
  rw [e]
  exact ⟨rfl, c⟩
theorem gX9_21 {f : eV → Prop} (c : f (eR (1, 1))) : gF (cC F A W) (0, 0) (fl_RX9 21) f := by
  have e : fl_RX9 21 = some (8, 1) := by decide +kernel
  rw [e]
  exact ⟨rfl, c⟩
theorem gX9_24 {f : eV → Prop} (c : f (eR (1, 2))) : gF (cC F A W) (0, 0) (fl_RX9 24) f := by
  have e : fl_RX9 24 = some (8, 2) := by decide +kernel
  rw [e]
  exact ⟨rfl, c⟩
theorem gX9_33 {f : eV → Prop} (c : f (eR (1, 3))) : gF (cC F A W) (0, 0) (fl_RX9 33) f := by
  have e : fl_RX9 33 = some (8, 3) := by decide +kernel
  rw [e]
  exact ⟨rfl, c⟩
theorem gX9_40 {f : eV → Prop} (c : f (eR (1, 4))) : gF (cC F A W) (0, 0) (fl_RX9 40) f := by
  have e : fl_RX9 40 = some (8, 4) := by decide +kernel
  rw [e]
  exact ⟨rfl, c⟩
theorem gX9_44 {f : eV → Prop} (c : f (eI (F 0))) : gF (cC F A W) (0, 0) (fl_RX9 44) f := by
  have e : fl_RX9 44 = some (8, 5) := by decide +kernel
  rw [e]
  exact ⟨rfl, c⟩
theorem pX9_44 {z : Int} {f : eM → Prop} (c : f (cC (uF F 0 z) A W)) : pF (cC F A W) (0, 0) (fl_RX9 44) z f := by
  have e : fl_RX9 44 = some (8, 5) := by decide +kernel
  rw [e]
  exact ⟨rfl, trivial, by show f (eUp (cC F A W) (0, 0) (.inl (8, [eR (1, 0), eR (1, 1), eR (1, 2), eR (1, 3), eR (1, 4), eI z, eI (F 1)]))); rw [cF8_u0]; exact c⟩
theorem gX9_48 {f : eV → Prop} (c : f (eI (F 1))) : gF (cC F A W) (0, 0) (fl_RX9 48) f := by
  have e : fl_RX9 48 = some (8, 6) := by decide +kernel
  rw [e]
  exact ⟨rfl, c⟩
theorem pX9_48 {z : Int} {f : eM → Prop} (c : f (cC (uF F 1 z) A W)) : pF (cC F A W) (0, 0) (fl_RX9 48) z f := by
  have e : fl_RX9 48 = some (8, 6) := by decide +kernel
  rw [e]
  exact ⟨rfl, trivial, by show f (eUp (cC F A W) (0, 0) (.inl (8, [eR (1, 0), eR (1, 1), eR (1, 2), eR (1, 3), eR (1, 4), eI (F 0), eI z]))); rw [cF8_u1]; exact c⟩
theorem gX9_156 {g : Nat} {f : eV → Prop} (c : f (eR (2, gb g + 16))) (h : g < 11 := by first | assumption | omega) : gF (cC F A W) (9, g) (fl_RX9 156) f := by
  have e : fl_RX9 156 = some (2, 1) := by decide +kernel
  rw [e]
  have q : cC F A W (9, g) = some (eO 2 [eR (10, g), eR (2, gb g + 16)]) := by
    show orM none (orM (cK8 (9, g)) _) = _
    rw [cK8_a9, if_pos h]
    rfl
  unfold gF
  rw [q]
  exact ⟨rfl, c⟩
end
