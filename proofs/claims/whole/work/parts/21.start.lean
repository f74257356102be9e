/-! WHAT IS THERE AT THE START: constants, texts, words by place. -/
def xk_above : List Int32 := [(-1), 0, 1, 0, 0, 4]
def xk_three : List Int32 := [0, 1, 3, 4, 9, 10, 12, 13, 27, 28, 30, 31, 36, 37, 39, 40, 81, 82, 84, 85, 90, 91, 93, 94, 108, 109, 111, 112, 117, 118, 120, 121]
/-- what was there before: the script, two constant rows -/
def xk_ro (L : Nat) (xs : Nat → Int32) (r : Nat) : Option xq_C := match r with
  | 0 => some (.inl (0, L, .inl xs))
  | 1 => some (.inl (0, 6, .inl (fun j => xk_above.getD j 0)))
  | 2 => some (.inl (0, 32, .inl (fun j => xk_three.getD j 0)))
  | _ => none
def xk_fl : List Jvm.Cond := flatC (Jvm.Cond.and given_1 narrow_1)
def xk_tm (i : Nat) : Term := Term.string ((xq_strs.getD i ("", 0, "")).1) ((xq_strs.getD i ("", 0, "")).2.1)
theorem xk_e1 : xk_fl[45]? = some (.arrayOf (.static RX8 "ABOVE" "[I") .int : Jvm.Cond) := by decide +kernel
theorem xk_e2 : xk_fl[46]? = some (.eq (.length (.static RX8 "ABOVE" "[I")) (.int 6) : Jvm.Cond) := by decide +kernel
theorem xk_e3 : xk_fl[10]? = some (.arrayOf (.static RX8 "IN_THREES" "[I") .int : Jvm.Cond) := by decide +kernel
theorem xk_e4 : xk_fl[11]? = some (.eq (.length (.static RX8 "IN_THREES" "[I")) (.int 32) : Jvm.Cond) := by decide +kernel
theorem xk_e5 : xk_fl[4]? = some (.eq (.static "java/lang/String" "COMPACT_STRINGS" "Z") (.int 1) : Jvm.Cond) := by decide +kernel
theorem xk_e6 : xk_fl[5]? = some (.isRef (.static "jdk/internal/util/Preconditions" "SIOOBE_FORMATTER" "Ljava/util/function/BiFunction;") : Jvm.Cond) := by decide +kernel
theorem xk_e7 : ∀ j, j < 6 → xk_fl[([47, 48, 49, 50, 51, 52] : List Nat).getD j 0]? = some (.eq (.elem (.static RX8 "ABOVE" "[I") (.int (Int32.ofNat j))) (.int (xk_above.getD j 0)) : Jvm.Cond) := by decide +kernel
theorem xk_e8 : ∀ j, j < 32 → xk_fl[([12, 13, 14, 15, 16, 17, 18, 19, 20, 21, 22, 23, 24, 25, 26, 27, 28, 29, 30, 31, 32, 33, 34, 35, 36, 37, 38, 39, 40, 41, 42, 43] : List Nat).getD j 0]? = some (.eq (.elem (.static RX8 "IN_THREES" "[I") (.int (Int32.ofNat j))) (.int (xk_three.getD j 0)) : Jvm.Cond) := by decide +kernel
theorem xk_s1 : ∀ i, i < 13 → xk_fl[([73, 126, 135, 145, 154, 166, 179, 196, 210, 227, 244, 260, 278] : List Nat).getD i 0]? = some (.exactly (xk_tm i) "java/lang/String" : Jvm.Cond) := by decide +kernel
theorem xk_s2 : ∀ i, i < 13 → xk_fl[([74, 127, 136, 146, 155, 167, 180, 197, 211, 228, 245, 261, 279] : List Nat).getD i 0]? = some (.eq (.field (xk_tm i) "java/lang/String" "coder" "B") (.int 0) : Jvm.Cond) := by decide +kernel
theorem xk_s3 : ∀ i, i < 13 → xk_fl[([75, 128, 137, 147, 156, 168, 181, 198, 212, 229, 246, 262, 280] : List Nat).getD i 0]? = some (.arrayOf (.field (xk_tm i) "java/lang/String" "value" "[B") .byte : Jvm.Cond) := by decide +kernel
theorem xk_s4 : ∀ i, i < 13 → xk_fl[([76, 129, 138, 148, 157, 169, 182, 199, 213, 230, 247, 263, 281] : List Nat).getD i 0]? = some (.eq (.length (.field (xk_tm i) "java/lang/String" "value" "[B")) (.int (Int32.ofNat (xq_len.getD i 0))) : Jvm.Cond) := by decide +kernel
theorem xk_s5_0 : ∀ j, j < 49 → xk_fl[([77, 78, 79, 80, 81, 82, 83, 84, 85, 86, 87, 88, 89, 90, 91, 92, 93, 94, 95, 96, 97, 98, 99, 100, 101, 102, 103, 104, 105, 106, 107, 108, 109, 110, 111, 112, 113, 114, 115, 116, 117, 118, 119, 120, 121, 122, 123, 124, 125] : List Nat).getD j 0]? = some (.eq (.elem (.field (xk_tm 0) "java/lang/String" "value" "[B") (.int (Int32.ofNat j))) (.int ((xq_byt.getD 0 []).getD j 0)) : Jvm.Cond) := by decide +kernel
theorem xk_s5_1 : ∀ j, j < 4 → xk_fl[([130, 131, 132, 133] : List Nat).getD j 0]? = some (.eq (.elem (.field (xk_tm 1) "java/lang/String" "value" "[B") (.int (Int32.ofNat j))) (.int ((xq_byt.getD 1 []).getD j 0)) : Jvm.Cond) := by decide +kernel
theorem xk_s5_2 : ∀ j, j < 4 → xk_fl[([139, 140, 141, 142] : List Nat).getD j 0]? = some (.eq (.elem (.field (xk_tm 2) "java/lang/String" "value" "[B") (.int (Int32.ofNat j))) (.int ((xq_byt.getD 2 []).getD j 0)) : Jvm.Cond) := by decide +kernel
theorem xk_s5_3 : ∀ j, j < 2 → xk_fl[([149, 150] : List Nat).getD j 0]? = some (.eq (.elem (.field (xk_tm 3) "java/lang/String" "value" "[B") (.int (Int32.ofNat j))) (.int ((xq_byt.getD 3 []).getD j 0)) : Jvm.Cond) := by decide +kernel
theorem xk_s5_4 : ∀ j, j < 4 → xk_fl[([158, 159, 160, 161] : List Nat).getD j 0]? = some (.eq (.elem (.field (xk_tm 4) "java/lang/String" "value" "[B") (.int (Int32.ofNat j))) (.int ((xq_byt.getD 4 []).getD j 0)) : Jvm.Cond) := by decide +kernel
theorem xk_s5_5 : ∀ j, j < 4 → xk_fl[([170, 171, 172, 173] : List Nat).getD j 0]? = some (.eq (.elem (.field (xk_tm 5) "java/lang/String" "value" "[B") (.int (Int32.ofNat j))) (.int ((xq_byt.getD 5 []).getD j 0)) : Jvm.Cond) := by decide +kernel
theorem xk_s5_6 : ∀ j, j < 7 → xk_fl[([183, 184, 185, 186, 187, 188, 189] : List Nat).getD j 0]? = some (.eq (.elem (.field (xk_tm 6) "java/lang/String" "value" "[B") (.int (Int32.ofNat j))) (.int ((xq_byt.getD 6 []).getD j 0)) : Jvm.Cond) := by decide +kernel
theorem xk_s5_7 : ∀ j, j < 3 → xk_fl[([200, 201, 202] : List Nat).getD j 0]? = some (.eq (.elem (.field (xk_tm 7) "java/lang/String" "value" "[B") (.int (Int32.ofNat j))) (.int ((xq_byt.getD 7 []).getD j 0)) : Jvm.Cond) := by decide +kernel
theorem xk_s5_8 : ∀ j, j < 5 → xk_fl[([214, 215, 216, 217, 218] : List Nat).getD j 0]? = some (.eq (.elem (.field (xk_tm 8) "java/lang/String" "value" "[B") (.int (Int32.ofNat j))) (.int ((xq_byt.getD 8 []).getD j 0)) : Jvm.Cond) := by decide +kernel
theorem xk_s5_9 : ∀ j, j < 4 → xk_fl[([231, 232, 233, 234] : List Nat).getD j 0]? = some (.eq (.elem (.field (xk_tm 9) "java/lang/String" "value" "[B") (.int (Int32.ofNat j))) (.int ((xq_byt.getD 9 []).getD j 0)) : Jvm.Cond) := by decide +kernel
theorem xk_s5_10 : ∀ j, j < 2 → xk_fl[([248, 249] : List Nat).getD j 0]? = some (.eq (.elem (.field (xk_tm 10) "java/lang/String" "value" "[B") (.int (Int32.ofNat j))) (.int ((xq_byt.getD 10 []).getD j 0)) : Jvm.Cond) := by decide +kernel
theorem xk_s5_11 : ∀ j, j < 3 → xk_fl[([264, 265, 266] : List Nat).getD j 0]? = some (.eq (.elem (.field (xk_tm 11) "java/lang/String" "value" "[B") (.int (Int32.ofNat j))) (.int ((xq_byt.getD 11 []).getD j 0)) : Jvm.Cond) := by decide +kernel
theorem xk_s5_12 : ∀ j, j < 3 → xk_fl[([282, 283, 284] : List Nat).getD j 0]? = some (.eq (.elem (.field (xk_tm 12) "java/lang/String" "value" "[B") (.int (Int32.ofNat j))) (.int ((xq_byt.getD 12 []).getD j 0)) : Jvm.Cond) := by decide +kernel
theorem xk_s5 (i : Nat) (hi : i < 13) (j : Nat) (hj : j < xq_len.getD i 0) : (.eq (.elem (.field (xk_tm i) "java/lang/String" "value" "[B") (.int (Int32.ofNat j))) (.int ((xq_byt.getD i []).getD j 0)) : Jvm.Cond) ∈ xk_fl := by
  match i, hi, hj with
  | 0, _, hj => exact List.mem_of_getElem? (xk_s5_0 j hj)
  | 1, _, hj => exact List.mem_of_getElem? (xk_s5_1 j hj)
  | 2, _, hj => exact List.mem_of_getElem? (xk_s5_2 j hj)
  | 3, _, hj => exact List.mem_of_getElem? (xk_s5_3 j hj)
  | 4, _, hj => exact List.mem_of_getElem? (xk_s5_4 j hj)
  | 5, _, hj => exact List.mem_of_getElem? (xk_s5_5 j hj)
  | 6, _, hj => exact List.mem_of_getElem? (xk_s5_6 j hj)
  | 7, _, hj => exact List.mem_of_getElem? (xk_s5_7 j hj)
  | 8, _, hj => exact List.mem_of_getElem? (xk_s5_8 j hj)
  | 9, _, hj => exact List.mem_of_getElem? (xk_s5_9 j hj)
  | 10, _, hj => exact List.mem_of_getElem? (xk_s5_10 j hj)
  | 11, _, hj => exact List.mem_of_getElem? (xk_s5_11 j hj)
  | 12, _, hj => exact List.mem_of_getElem? (xk_s5_12 j hj)
  | i + 13, hi, _ => exact absurd hi (by omega)
theorem xk_s6_0 : ∀ k, k < 12 → xk_fl[([134, 143, 151, 162, 174, 190, 203, 219, 235, 250, 267, 285] : List Nat).getD k 0]? = some (.not (.eq (xk_tm 0) (xk_tm (([1, 2, 3, 4, 5, 6, 7, 8, 9, 10, 11, 12] : List Nat).getD k 0))) : Jvm.Cond) := by decide +kernel
theorem xk_s6_1 : ∀ k, k < 11 → xk_fl[([144, 152, 163, 175, 191, 204, 220, 236, 251, 268, 286] : List Nat).getD k 0]? = some (.not (.eq (xk_tm 1) (xk_tm (([2, 3, 4, 5, 6, 7, 8, 9, 10, 11, 12] : List Nat).getD k 0))) : Jvm.Cond) := by decide +kernel
theorem xk_s6_2 : ∀ k, k < 10 → xk_fl[([153, 164, 176, 192, 205, 221, 237, 252, 269, 287] : List Nat).getD k 0]? = some (.not (.eq (xk_tm 2) (xk_tm (([3, 4, 5, 6, 7, 8, 9, 10, 11, 12] : List Nat).getD k 0))) : Jvm.Cond) := by decide +kernel
theorem xk_s6_3 : ∀ k, k < 9 → xk_fl[([165, 177, 193, 206, 222, 238, 253, 270, 288] : List Nat).getD k 0]? = some (.not (.eq (xk_tm 3) (xk_tm (([4, 5, 6, 7, 8, 9, 10, 11, 12] : List Nat).getD k 0))) : Jvm.Cond) := by decide +kernel
theorem xk_s6_4 : ∀ k, k < 8 → xk_fl[([178, 194, 207, 223, 239, 254, 271, 289] : List Nat).getD k 0]? = some (.not (.eq (xk_tm 4) (xk_tm (([5, 6, 7, 8, 9, 10, 11, 12] : List Nat).getD k 0))) : Jvm.Cond) := by decide +kernel
theorem xk_s6_5 : ∀ k, k < 7 → xk_fl[([195, 208, 224, 240, 255, 272, 290] : List Nat).getD k 0]? = some (.not (.eq (xk_tm 5) (xk_tm (([6, 7, 8, 9, 10, 11, 12] : List Nat).getD k 0))) : Jvm.Cond) := by decide +kernel
theorem xk_s6_6 : ∀ k, k < 6 → xk_fl[([209, 225, 241, 256, 273, 291] : List Nat).getD k 0]? = some (.not (.eq (xk_tm 6) (xk_tm (([7, 8, 9, 10, 11, 12] : List Nat).getD k 0))) : Jvm.Cond) := by decide +kernel
theorem xk_s6_7 : ∀ k, k < 5 → xk_fl[([226, 242, 257, 274, 292] : List Nat).getD k 0]? = some (.not (.eq (xk_tm 7) (xk_tm (([8, 9, 10, 11, 12] : List Nat).getD k 0))) : Jvm.Cond) := by decide +kernel
theorem xk_s6_8 : ∀ k, k < 4 → xk_fl[([243, 258, 275, 293] : List Nat).getD k 0]? = some (.not (.eq (xk_tm 8) (xk_tm (([9, 10, 11, 12] : List Nat).getD k 0))) : Jvm.Cond) := by decide +kernel
theorem xk_s6_9 : ∀ k, k < 3 → xk_fl[([259, 276, 294] : List Nat).getD k 0]? = some (.not (.eq (xk_tm 9) (xk_tm (([10, 11, 12] : List Nat).getD k 0))) : Jvm.Cond) := by decide +kernel
theorem xk_s6_10 : ∀ k, k < 2 → xk_fl[([277, 295] : List Nat).getD k 0]? = some (.not (.eq (xk_tm 10) (xk_tm (([11, 12] : List Nat).getD k 0))) : Jvm.Cond) := by decide +kernel
theorem xk_s6_11 : ∀ k, k < 1 → xk_fl[([296] : List Nat).getD k 0]? = some (.not (.eq (xk_tm 11) (xk_tm (([12] : List Nat).getD k 0))) : Jvm.Cond) := by decide +kernel
theorem xk_s6 (i j : Nat) (hi : i < 13) (hj : j < 13) (hij : i ≠ j) : (.not (.eq (xk_tm i) (xk_tm j)) : Jvm.Cond) ∈ xk_fl ∨ (.not (.eq (xk_tm j) (xk_tm i)) : Jvm.Cond) ∈ xk_fl := by
  match i, j, hi, hj, hij with
  | 0, 0, _, _, h => exact absurd rfl h
  | 0, 1, _, _, _ => exact Or.inl (List.mem_of_getElem? (xk_s6_0 0 (by decide)))
  | 0, 2, _, _, _ => exact Or.inl (List.mem_of_getElem? (xk_s6_0 1 (by decide)))
  | 0, 3, _, _, _ => exact Or.inl (List.mem_of_getElem? (xk_s6_0 2 (by decide)))
  | 0, 4, _, _, _ => exact Or.inl (List.mem_of_getElem? (xk_s6_0 3 (by decide)))
  | 0, 5, _, _, _ => exact Or.inl (List.mem_of_getElem? (xk_s6_0 4 (by decide)))
  | 0, 6, _, _, _ => exact Or.inl (List.mem_of_getElem? (xk_s6_0 5 (by decide)))
  | 0, 7, _, _, _ => exact Or.inl (List.mem_of_getElem? (xk_s6_0 6 (by decide)))
  | 0, 8, _, _, _ => exact Or.inl (List.mem_of_getElem? (xk_s6_0 7 (by decide)))
  | 0, 9, _, _, _ => exact Or.inl (List.mem_of_getElem? (xk_s6_0 8 (by decide)))
  | 0, 10, _, _, _ => exact Or.inl (List.mem_of_getElem? (xk_s6_0 9 (by decide)))
  | 0, 11, _, _, _ => exact Or.inl (List.mem_of_getElem? (xk_s6_0 10 (by decide)))
  | 0, 12, _, _, _ => exact Or.inl (List.mem_of_getElem? (xk_s6_0 11 (by decide)))
  | 1, 0, _, _, _ => exact Or.inr (List.mem_of_getElem? (xk_s6_0 0 (by decide)))
  | 1, 1, _, _, h => exact absurd rfl h
  | 1, 2, _, _, _ => exact Or.inl (List.mem_of_getElem? (xk_s6_1 0 (by decide)))
  | 1, 3, _, _, _ => exact Or.inl (List.mem_of_getElem? (xk_s6_1 1 (by decide)))
  | 1, 4, _, _, _ => exact Or.inl (List.mem_of_getElem? (xk_s6_1 2 (by decide)))
  | 1, 5, _, _, _ => exact Or.inl (List.mem_of_getElem? (xk_s6_1 3 (by decide)))
  | 1, 6, _, _, _ => exact Or.inl (List.mem_of_getElem? (xk_s6_1 4 (by decide)))
  | 1, 7, _, _, _ => exact Or.inl (List.mem_of_getElem? (xk_s6_1 5 (by decide)))
  | 1, 8, _, _, _ => exact Or.inl (List.mem_of_getElem? (xk_s6_1 6 (by decide)))
  | 1, 9, _, _, _ => exact Or.inl (List.mem_of_getElem? (xk_s6_1 7 (by decide)))
  | 1, 10, _, _, _ => exact Or.inl (List.mem_of_getElem? (xk_s6_1 8 (by decide)))
  | 1, 11, _, _, _ => exact Or.inl (List.mem_of_getElem? (xk_s6_1 9 (by decide)))
  | 1, 12, _, _, _ => exact Or.inl (List.mem_of_getElem? (xk_s6_1 10 (by decide)))
  | 2, 0, _, _, _ => exact Or.inr (List.mem_of_getElem? (xk_s6_0 1 (by decide)))
  | 2, 1, _, _, _ => exact Or.inr (List.mem_of_getElem? (xk_s6_1 0 (by decide)))
  | 2, 2, _, _, h => exact absurd rfl h
  | 2, 3, _, _, _ => exact Or.inl (List.mem_of_getElem? (xk_s6_2 0 (by decide)))
  | 2, 4, _, _, _ => exact Or.inl (List.mem_of_getElem? (xk_s6_2 1 (by decide)))
  | 2, 5, _, _, _ => exact Or.inl (List.mem_of_getElem? (xk_s6_2 2 (by decide)))
  | 2, 6, _, _, _ => exact Or.inl (List.mem_of_getElem? (xk_s6_2 3 (by decide)))
  | 2, 7, _, _, _ => exact Or.inl (List.mem_of_getElem? (xk_s6_2 4 (by decide)))
  | 2, 8, _, _, _ => exact Or.inl (List.mem_of_getElem? (xk_s6_2 5 (by decide)))
  | 2, 9, _, _, _ => exact Or.inl (List.mem_of_getElem? (xk_s6_2 6 (by decide)))
  | 2, 10, _, _, _ => exact Or.inl (List.mem_of_getElem? (xk_s6_2 7 (by decide)))
  | 2, 11, _, _, _ => exact Or.inl (List.mem_of_getElem? (xk_s6_2 8 (by decide)))
  | 2, 12, _, _, _ => exact Or.inl (List.mem_of_getElem? (xk_s6_2 9 (by decide)))
  | 3, 0, _, _, _ => exact Or.inr (List.mem_of_getElem? (xk_s6_0 2 (by decide)))
  | 3, 1, _, _, _ => exact Or.inr (List.mem_of_getElem? (xk_s6_1 1 (by decide)))
  | 3, 2, _, _, _ => exact Or.inr (List.mem_of_getElem? (xk_s6_2 0 (by decide)))
  | 3, 3, _, _, h => exact absurd rfl h
  | 3, 4, _, _, _ => exact Or.inl (List.mem_of_getElem? (xk_s6_3 0 (by decide)))
  | 3, 5, _, _, _ => exact Or.inl (List.mem_of_getElem? (xk_s6_3 1 (by decide)))
  | 3, 6, _, _, _ => exact Or.inl (List.mem_of_getElem? (xk_s6_3 2 (by decide)))
  | 3, 7, _, _, _ => exact Or.inl (List.mem_of_getElem? (xk_s6_3 3 (by decide)))
  | 3, 8, _, _, _ => exact Or.inl (List.mem_of_getElem? (xk_s6_3 4 (by decide)))
  | 3, 9, _, _, _ => exact Or.inl (List.mem_of_getElem? (xk_s6_3 5 (by decide)))
  | 3, 10, _, _, _ => exact Or.inl (List.mem_of_getElem? (xk_s6_3 6 (by decide)))
  | 3, 11, _, _, _ => exact Or.inl (List.mem_of_getElem? (xk_s6_3 7 (by decide)))
  | 3, 12, _, _, _ => exact Or.inl (List.mem_of_getElem? (xk_s6_3 8 (by decide)))
  | 4, 0, _, _, _ => exact Or.inr (List.mem_of_getElem? (xk_s6_0 3 (by decide)))
  | 4, 1, _, _, _ => exact Or.inr (List.mem_of_getElem? (xk_s6_1 2 (by decide)))
  | 4, 2, _, _, _ => exact Or.inr (List.mem_of_getElem? (xk_s6_2 1 (by decide)))
  | 4, 3, _, _, _ => exact Or.inr (List.mem_of_getElem? (xk_s6_3 0 (by decide)))
  | 4, 4, _, _, h => exact absurd rfl h
  | 4, 5, _, _, _ => exact Or.inl (List.mem_of_getElem? (xk_s6_4 0 (by decide)))
  | 4, 6, _, _, _ => exact Or.inl (List.mem_of_getElem? (xk_s6_4 1 (by decide)))
  | 4, 7, _, _, _ => exact Or.inl (List.mem_of_getElem? (xk_s6_4 2 (by decide)))
  | 4, 8, _, _, _ => exact Or.inl (List.mem_of_getElem? (xk_s6_4 3 (by decide)))
  | 4, 9, _, _, _ => exact Or.inl (List.mem_of_getElem? (xk_s6_4 4 (by decide)))
  | 4, 10, _, _, _ => exact Or.inl (List.mem_of_getElem? (xk_s6_4 5 (by decide)))
  | 4, 11, _, _, _ => exact Or.inl (List.mem_of_getElem? (xk_s6_4 6 (by decide)))
  | 4, 12, _, _, _ => exact Or.inl (List.mem_of_getElem? (xk_s6_4 7 (by decide)))
  | 5, 0, _, _, _ => exact Or.inr (List.mem_of_getElem? (xk_s6_0 4 (by decide)))
  | 5, 1, _, _, _ => exact Or.inr (List.mem_of_getElem? (xk_s6_1 3 (by decide)))
  | 5, 2, _, _, _ => exact Or.inr (List.mem_of_getElem? (xk_s6_2 2 (by decide)))
  | 5, 3, _, _, _ => exact Or.inr (List.mem_of_getElem? (xk_s6_3 1 (by decide)))
  | 5, 4, _, _, _ => exact Or.inr (List.mem_of_getElem? (xk_s6_4 0 (by decide)))
  | 5, 5, _, _, h => exact absurd rfl h
  | 5, 6, _, _, _ => exact Or.inl (List.mem_of_getElem? (xk_s6_5 0 (by decide)))
  | 5, 7, _, _, _ => exact Or.inl (List.mem_of_getElem? (xk_s6_5 1 (by decide)))
  | 5, 8, _, _, _ => exact Or.inl (List.mem_of_getElem? (xk_s6_5 2 (by decide)))
  | 5, 9, _, _, _ => exact Or.inl (List.mem_of_getElem? (xk_s6_5 3 (by decide)))
  | 5, 10, _, _, _ => exact Or.inl (List.mem_of_getElem? (xk_s6_5 4 (by decide)))
  | 5, 11, _, _, _ => exact Or.inl (List.mem_of_getElem? (xk_s6_5 5 (by decide)))
  | 5, 12, _, _, _ => exact Or.inl (List.mem_of_getElem? (xk_s6_5 6 (by decide)))
  | 6, 0, _, _, _ => exact Or.inr (List.mem_of_getElem? (xk_s6_0 5 (by decide)))
  | 6, 1, _, _, _ => exact Or.inr (List.mem_of_getElem? (xk_s6_1 4 (by decide)))
  | 6, 2, _, _, _ => exact Or.inr (List.mem_of_getElem? (xk_s6_2 3 (by decide)))
  | 6, 3, _, _, _ => exact Or.inr (List.mem_of_getElem? (xk_s6_3 2 (by decide)))
  | 6, 4, _, _, _ => exact Or.inr (List.mem_of_getElem? (xk_s6_4 1 (by decide)))
  | 6, 5, _, _, _ => exact Or.inr (List.mem_of_getElem? (xk_s6_5 0 (by decide)))
  | 6, 6, _, _, h => exact absurd rfl h
  | 6, 7, _, _, _ => exact Or.inl (List.mem_of_getElem? (xk_s6_6 0 (by decide)))
  | 6, 8, _, _, _ => exact Or.inl (List.mem_of_getElem? (xk_s6_6 1 (by decide)))
  | 6, 9, _, _, _ => exact Or.inl (List.mem_of_getElem? (xk_s6_6 2 (by decide)))
  | 6, 10, _, _, _ => exact Or.inl (List.mem_of_getElem? (xk_s6_6 3 (by decide)))
  | 6, 11, _, _, _ => exact Or.inl (List.mem_of_getElem? (xk_s6_6 4 (by decide)))
  | 6, 12, _, _, _ => exact Or.inl (List.mem_of_getElem? (xk_s6_6 5 (by decide)))
  | 7, 0, _, _, _ => exact Or.inr (List.mem_of_getElem? (xk_s6_0 6 (by decide)))
  | 7, 1, _, _, _ => exact Or.inr (List.mem_of_getElem? (xk_s6_1 5 (by decide)))
  | 7, 2, _, _, _ => exact Or.inr (List.mem_of_getElem? (xk_s6_2 4 (by decide)))
  | 7, 3, _, _, _ => exact Or.inr (List.mem_of_getElem? (xk_s6_3 3 (by decide)))
  | 7, 4, _, _, _ => exact Or.inr (List.mem_of_getElem? (xk_s6_4 2 (by decide)))
  | 7, 5, _, _, _ => exact Or.inr (List.mem_of_getElem? (xk_s6_5 1 (by decide)))
  | 7, 6, _, _, _ => exact Or.inr (List.mem_of_getElem? (xk_s6_6 0 (by decide)))
  | 7, 7, _, _, h => exact absurd rfl h
  | 7, 8, _, _, _ => exact Or.inl (List.mem_of_getElem? (xk_s6_7 0 (by decide)))
  | 7, 9, _, _, _ => exact Or.inl (List.mem_of_getElem? (xk_s6_7 1 (by decide)))
  | 7, 10, _, _, _ => exact Or.inl (List.mem_of_getElem? (xk_s6_7 2 (by decide)))
  | 7, 11, _, _, _ => exact Or.inl (List.mem_of_getElem? (xk_s6_7 3 (by decide)))
  | 7, 12, _, _, _ => exact Or.inl (List.mem_of_getElem? (xk_s6_7 4 (by decide)))
  | 8, 0, _, _, _ => exact Or.inr (List.mem_of_getElem? (xk_s6_0 7 (by decide)))
  | 8, 1, _, _, _ => exact Or.inr (List.mem_of_getElem? (xk_s6_1 6 (by decide)))
  | 8, 2, _, _, _ => exact Or.inr (List.mem_of_getElem? (xk_s6_2 5 (by decide)))
  | 8, 3, _, _, _ => exact Or.inr (List.mem_of_getElem? (xk_s6_3 4 (by decide)))
  | 8, 4, _, _, _ => exact Or.inr (List.mem_of_getElem? (xk_s6_4 3 (by decide)))
  | 8, 5, _, _, _ => exact Or.inr (List.mem_of_getElem? (xk_s6_5 2 (by decide)))
  | 8, 6, _, _, _ => exact Or.inr (List.mem_of_getElem? (xk_s6_6 1 (by decide)))
  | 8, 7, _, _, _ => exact Or.inr (List.mem_of_getElem? (xk_s6_7 0 (by decide)))
  | 8, 8, _, _, h => exact absurd rfl h
  | 8, 9, _, _, _ => exact Or.inl (List.mem_of_getElem? (xk_s6_8 0 (by decide)))
  | 8, 10, _, _, _ => exact Or.inl (List.mem_of_getElem? (xk_s6_8 1 (by decide)))
  | 8, 11, _, _, _ => exact Or.inl (List.mem_of_getElem? (xk_s6_8 2 (by decide)))
  | 8, 12, _, _, _ => exact Or.inl (List.mem_of_getElem? (xk_s6_8 3 (by decide)))
  | 9, 0, _, _, _ => exact Or.inr (List.mem_of_getElem? (xk_s6_0 8 (by decide)))
  | 9, 1, _, _, _ => exact Or.inr (List.mem_of_getElem? (xk_s6_1 7 (by decide)))
  | 9, 2, _, _, _ => exact Or.inr (List.mem_of_getElem? (xk_s6_2 6 (by decide)))
  | 9, 3, _, _, _ => exact Or.inr (List.mem_of_getElem? (xk_s6_3 5 (by decide)))
  | 9, 4, _, _, _ => exact Or.inr (List.mem_of_getElem? (xk_s6_4 4 (by decide)))
  | 9, 5, _, _, _ => exact Or.inr (List.mem_of_getElem? (xk_s6_5 3 (by decide)))
  | 9, 6, _, _, _ => exact Or.inr (List.mem_of_getElem? (xk_s6_6 2 (by decide)))
  | 9, 7, _, _, _ => exact Or.inr (List.mem_of_getElem? (xk_s6_7 1 (by decide)))
  | 9, 8, _, _, _ => exact Or.inr (List.mem_of_getElem? (xk_s6_8 0 (by decide)))
  | 9, 9, _, _, h => exact absurd rfl h
  | 9, 10, _, _, _ => exact Or.inl (List.mem_of_getElem? (xk_s6_9 0 (by decide)))
  | 9, 11, _, _, _ => exact Or.inl (List.mem_of_getElem? (xk_s6_9 1 (by decide)))
  | 9, 12, _, _, _ => exact Or.inl (List.mem_of_getElem? (xk_s6_9 2 (by decide)))
  | 10, 0, _, _, _ => exact Or.inr (List.mem_of_getElem? (xk_s6_0 9 (by decide)))
  | 10, 1, _, _, _ => exact Or.inr (List.mem_of_getElem? (xk_s6_1 8 (by decide)))
  | 10, 2, _, _, _ => exact Or.inr (List.mem_of_getElem? (xk_s6_2 7 (by decide)))
  | 10, 3, _, _, _ => exact Or.inr (List.mem_of_getElem? (xk_s6_3 6 (by decide)))
  | 10, 4, _, _, _ => exact Or.inr (List.mem_of_getElem? (xk_s6_4 5 (by decide)))
  | 10, 5, _, _, _ => exact Or.inr (List.mem_of_getElem? (xk_s6_5 4 (by decide)))
  | 10, 6, _, _, _ => exact Or.inr (List.mem_of_getElem? (xk_s6_6 3 (by decide)))
  | 10, 7, _, _, _ => exact Or.inr (List.mem_of_getElem? (xk_s6_7 2 (by decide)))
  | 10, 8, _, _, _ => exact Or.inr (List.mem_of_getElem? (xk_s6_8 1 (by decide)))
  | 10, 9, _, _, _ => exact Or.inr (List.mem_of_getElem? (xk_s6_9 0 (by decide)))
  | 10, 10, _, _, h => exact absurd rfl h
  | 10, 11, _, _, _ => exact Or.inl (List.mem_of_getElem? (xk_s6_10 0 (by decide)))
  | 10, 12, _, _, _ => exact Or.inl (List.mem_of_getElem? (xk_s6_10 1 (by decide)))
  | 11, 0, _, _, _ => exact Or.inr (List.mem_of_getElem? (xk_s6_0 10 (by decide)))
  | 11, 1, _, _, _ => exact Or.inr (List.mem_of_getElem? (xk_s6_1 9 (by decide)))
  | 11, 2, _, _, _ => exact Or.inr (List.mem_of_getElem? (xk_s6_2 8 (by decide)))
  | 11, 3, _, _, _ => exact Or.inr (List.mem_of_getElem? (xk_s6_3 7 (by decide)))
  | 11, 4, _, _, _ => exact Or.inr (List.mem_of_getElem? (xk_s6_4 6 (by decide)))
  | 11, 5, _, _, _ => exact Or.inr (List.mem_of_getElem? (xk_s6_5 5 (by decide)))
  | 11, 6, _, _, _ => exact Or.inr (List.mem_of_getElem? (xk_s6_6 4 (by decide)))
  | 11, 7, _, _, _ => exact Or.inr (List.mem_of_getElem? (xk_s6_7 3 (by decide)))
  | 11, 8, _, _, _ => exact Or.inr (List.mem_of_getElem? (xk_s6_8 2 (by decide)))
  | 11, 9, _, _, _ => exact Or.inr (List.mem_of_getElem? (xk_s6_9 1 (by decide)))
  | 11, 10, _, _, _ => exact Or.inr (List.mem_of_getElem? (xk_s6_10 0 (by decide)))
  | 11, 11, _, _, h => exact absurd rfl h
  | 11, 12, _, _, _ => exact Or.inl (List.mem_of_getElem? (xk_s6_11 0 (by decide)))
  | 12, 0, _, _, _ => exact Or.inr (List.mem_of_getElem? (xk_s6_0 11 (by decide)))
  | 12, 1, _, _, _ => exact Or.inr (List.mem_of_getElem? (xk_s6_1 10 (by decide)))
  | 12, 2, _, _, _ => exact Or.inr (List.mem_of_getElem? (xk_s6_2 9 (by decide)))
  | 12, 3, _, _, _ => exact Or.inr (List.mem_of_getElem? (xk_s6_3 8 (by decide)))
  | 12, 4, _, _, _ => exact Or.inr (List.mem_of_getElem? (xk_s6_4 7 (by decide)))
  | 12, 5, _, _, _ => exact Or.inr (List.mem_of_getElem? (xk_s6_5 6 (by decide)))
  | 12, 6, _, _, _ => exact Or.inr (List.mem_of_getElem? (xk_s6_6 5 (by decide)))
  | 12, 7, _, _, _ => exact Or.inr (List.mem_of_getElem? (xk_s6_7 4 (by decide)))
  | 12, 8, _, _, _ => exact Or.inr (List.mem_of_getElem? (xk_s6_8 3 (by decide)))
  | 12, 9, _, _, _ => exact Or.inr (List.mem_of_getElem? (xk_s6_9 2 (by decide)))
  | 12, 10, _, _, _ => exact Or.inr (List.mem_of_getElem? (xk_s6_10 1 (by decide)))
  | 12, 11, _, _, _ => exact Or.inr (List.mem_of_getElem? (xk_s6_11 0 (by decide)))
  | 12, 12, _, _, h => exact absurd rfl h
  | 0, j + 13, _, hj, _ => exact absurd hj (by omega)
  | 1, j + 13, _, hj, _ => exact absurd hj (by omega)
  | 2, j + 13, _, hj, _ => exact absurd hj (by omega)
  | 3, j + 13, _, hj, _ => exact absurd hj (by omega)
  | 4, j + 13, _, hj, _ => exact absurd hj (by omega)
  | 5, j + 13, _, hj, _ => exact absurd hj (by omega)
  | 6, j + 13, _, hj, _ => exact absurd hj (by omega)
  | 7, j + 13, _, hj, _ => exact absurd hj (by omega)
  | 8, j + 13, _, hj, _ => exact absurd hj (by omega)
  | 9, j + 13, _, hj, _ => exact absurd hj (by omega)
  | 10, j + 13, _, hj, _ => exact absurd hj (by omega)
  | 11, j + 13, _, hj, _ => exact absurd hj (by omega)
  | 12, j + 13, _, hj, _ => exact absurd hj (by omega)
  | i + 13, _, hi, _, _ => exact absurd hi (by omega)
theorem xk_w1 : (.laysStatic RX8 "ABOVE" "[I" : Jvm.Cond) ∈ lw_tbl := List.mem_of_getElem? (i := 993) (by decide +kernel)
theorem xk_w2 : (.laysStatic RX8 "IN_THREES" "[I" : Jvm.Cond) ∈ lw_tbl := List.mem_of_getElem? (i := 851) (by decide +kernel)
theorem xk_w3 : (.laysStatic "java/lang/String" "COMPACT_STRINGS" "Z" : Jvm.Cond) ∈ lw_tbl := List.mem_of_getElem? (i := 341) (by decide +kernel)
theorem xk_w4 : (.laysStatic "jdk/internal/util/Preconditions" "SIOOBE_FORMATTER" "Ljava/util/function/BiFunction;" : Jvm.Cond) ∈ lw_tbl := List.mem_of_getElem? (i := 357) (by decide +kernel)
theorem xk_w5 : (.initialized RX8 : Jvm.Cond) ∈ lw_tbl := List.mem_of_getElem? (i := 70) (by decide +kernel)
theorem xk_w6 : (.initialized "java/lang/String" : Jvm.Cond) ∈ lw_tbl := List.mem_of_getElem? (i := 79) (by decide +kernel)
theorem xk_w7 : (.initialized "jdk/internal/util/Preconditions" : Jvm.Cond) ∈ lw_tbl := List.mem_of_getElem? (i := 81) (by decide +kernel)
theorem xk_w8 : (.arrayOver (.object RX5) : Jvm.Cond) ∈ lw_tbl := List.mem_of_getElem? (i := 276) (by decide +kernel)
theorem xk_w9 : (.arrayOver (.object RX7) : Jvm.Cond) ∈ lw_tbl := List.mem_of_getElem? (i := 272) (by decide +kernel)
theorem xk_w10 : (.arrayOver (.array .int) : Jvm.Cond) ∈ lw_tbl := List.mem_of_getElem? (i := 274) (by decide +kernel)
theorem xk_w11 : ∀ i, i < 13 → lw_tbl[([331, 403, 410, 411, 412, 413, 414, 415, 416, 417, 418, 419, 420] : List Nat).getD i 0]? = some (.stringRef ((xq_strs.getD i ("", 0, "")).1) ((xq_strs.getD i ("", 0, "")).2.1) ((xq_strs.getD i ("", 0, "")).2.2) : Jvm.Cond) := by decide +kernel
theorem xk_n0 : lw_tbl[98]? = xq_nw[0]? := by decide +kernel
theorem xk_n1 : lw_tbl[134]? = xq_nw[1]? := by decide +kernel
theorem xk_n2 : lw_tbl[186]? = xq_nw[2]? := by decide +kernel
theorem xk_n3 : lw_tbl[237]? = xq_nw[3]? := by decide +kernel
theorem xk_n4 : lw_tbl[279]? = xq_nw[4]? := by decide +kernel
theorem xk_n5 : lw_tbl[284]? = xq_nw[5]? := by decide +kernel
theorem xk_n6 : lw_tbl[314]? = xq_nw[6]? := by decide +kernel
theorem xk_n7 : lw_tbl[482]? = xq_nw[7]? := by decide +kernel
theorem xk_n8 : lw_tbl[850]? = xq_nw[8]? := by decide +kernel
theorem xk_n9 : lw_tbl[992]? = xq_nw[9]? := by decide +kernel
theorem xk_nw : ∀ w ∈ xq_nw, w ∈ lw_tbl ∧ w.onTables = true := by
  intro w hw
  obtain ⟨i, hi⟩ := List.getElem?_of_mem hw
  match i, hi with
  | 0, hi => exact ⟨List.mem_of_getElem? (xk_n0.trans hi), by cases hi; rfl⟩
  | 1, hi => exact ⟨List.mem_of_getElem? (xk_n1.trans hi), by cases hi; rfl⟩
  | 2, hi => exact ⟨List.mem_of_getElem? (xk_n2.trans hi), by cases hi; rfl⟩
  | 3, hi => exact ⟨List.mem_of_getElem? (xk_n3.trans hi), by cases hi; rfl⟩
  | 4, hi => exact ⟨List.mem_of_getElem? (xk_n4.trans hi), by cases hi; rfl⟩
  | 5, hi => exact ⟨List.mem_of_getElem? (xk_n5.trans hi), by cases hi; rfl⟩
  | 6, hi => exact ⟨List.mem_of_getElem? (xk_n6.trans hi), by cases hi; rfl⟩
  | 7, hi => exact ⟨List.mem_of_getElem? (xk_n7.trans hi), by cases hi; rfl⟩
  | 8, hi => exact ⟨List.mem_of_getElem? (xk_n8.trans hi), by cases hi; rfl⟩
  | 9, hi => exact ⟨List.mem_of_getElem? (xk_n9.trans hi), by cases hi; rfl⟩
  | i + 10, hi => simp [xq_nw] at hi
theorem xk_i0 : (.instantiable RX0 7 : Jvm.Cond) ∈ xq_ws := xq_wd_in (pl := 278) (by decide +kernel)
theorem xk_i1 : (.instantiable RX1 3 : Jvm.Cond) ∈ xq_ws := xq_wd_in (pl := 133) (by decide +kernel)
theorem xk_i2 : (.instantiable RX2 8 : Jvm.Cond) ∈ xq_ws := xq_wd_in (pl := 97) (by decide +kernel)
theorem xk_i3 : (.instantiable RX3 15 : Jvm.Cond) ∈ xq_ws := xq_wd_in (pl := 180) (by decide +kernel)
theorem xk_i4 : (.instantiable RX4 9 : Jvm.Cond) ∈ xq_ws := xq_wd_in (pl := 236) (by decide +kernel)
theorem xk_i5 : (.instantiable RX5 3 : Jvm.Cond) ∈ xq_ws := xq_wd_in (pl := 313) (by decide +kernel)
theorem xk_i6 : (.instantiable RX6 6 : Jvm.Cond) ∈ xq_ws := xq_wd_in (pl := 155) (by decide +kernel)
theorem xk_i7 : (.instantiable RX7 3 : Jvm.Cond) ∈ xq_ws := xq_wd_in (pl := 473) (by decide +kernel)
theorem xk_i8 : (.instantiable RX8 17 : Jvm.Cond) ∈ xq_ws := xq_wd_in (pl := 89) (by decide +kernel)
theorem xk_i9 : (.instantiable RX9 55 : Jvm.Cond) ∈ xq_ws := xq_wd_in (pl := 1016) (by decide +kernel)
