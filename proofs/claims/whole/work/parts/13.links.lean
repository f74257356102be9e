/-! THE LINKS of the classes by number. -/
set_option maxRecDepth 100000 in
theorem xl_0 : xq_xm xk_M (11, 7, 6, 8, 0) := ⟨(RX8, TX8, 17), rfl, xq_wd_in (pl := 88) (by decide +kernel), xq_wd_in (pl := 89) (by decide +kernel), xq_wd_in (pl := 70) (by decide +kernel)⟩
set_option maxRecDepth 100000 in
theorem xl_1 : xq_xm xk_M (11, 9, 1, 70, 0) := ⟨_, rfl, xq_wd_in (pl := 90) (by decide +kernel)⟩
set_option maxRecDepth 100000 in
theorem xl_2 : xq_xm xk_M (8, 1, 3, 0, 0) := xq_wd_in (pl := 93) (by decide +kernel)
set_option maxRecDepth 100000 in
theorem xl_3 : xq_xm xk_M (8, 7, 6, 2, 0) := ⟨(RX2, TX2, 8), rfl, xq_wd_in (pl := 96) (by decide +kernel), xq_wd_in (pl := 97) (by decide +kernel), xq_wd_in (pl := 71) (by decide +kernel)⟩
set_option maxRecDepth 100000 in
theorem xl_4 : xq_xm xk_M (8, 9, 2, 7, 0) := ⟨_, rfl, by decide +kernel⟩
set_option maxRecDepth 100000 in
theorem xl_5 : xq_xm xk_M (2, 3, 3, 0, 0) := xq_wd_in (pl := 101) (by decide +kernel)
set_option maxRecDepth 100000 in
theorem xl_6 : xq_xm xk_M (2, 9, 0, 2, 0) := ⟨(RX2, TX2, 8), rfl, Nat.lt_of_lt_of_le (Nat.lt_succ_self _) (Nat.le_of_ble_eq_true rfl), rfl, xq_wd_in (pl := 102) (by decide +kernel)⟩
set_option maxRecDepth 100000 in
theorem xl_7 : xq_xm xk_M (8, 170, 0, 2, 0) := ⟨(RX2, TX2, 8), rfl, Nat.lt_of_lt_of_le (Nat.lt_succ_self _) (Nat.le_of_ble_eq_true rfl), rfl, xq_wd_in (pl := 103) (by decide +kernel)⟩
set_option maxRecDepth 100000 in
theorem xl_8 : xq_xm xk_M (2, 15, 0, 2, 1) := ⟨(RX2, TX2, 8), rfl, Nat.lt_of_lt_of_le (Nat.lt_succ_self _) (Nat.le_of_ble_eq_true rfl), rfl, xq_wd_in (pl := 104) (by decide +kernel)⟩
set_option maxRecDepth 100000 in
theorem xl_9 : xq_xm xk_M (8, 173, 0, 2, 1) := ⟨(RX2, TX2, 8), rfl, Nat.lt_of_lt_of_le (Nat.lt_succ_self _) (Nat.le_of_ble_eq_true rfl), rfl, xq_wd_in (pl := 105) (by decide +kernel)⟩
set_option maxRecDepth 100000 in
theorem xl_10 : xq_xm xk_M (2, 18, 0, 2, 2) := ⟨(RX2, TX2, 8), rfl, Nat.lt_of_lt_of_le (Nat.lt_succ_self _) (Nat.le_of_ble_eq_true rfl), rfl, xq_wd_in (pl := 106) (by decide +kernel)⟩
set_option maxRecDepth 100000 in
theorem xl_11 : xq_xm xk_M (8, 176, 0, 2, 2) := ⟨(RX2, TX2, 8), rfl, Nat.lt_of_lt_of_le (Nat.lt_succ_self _) (Nat.le_of_ble_eq_true rfl), rfl, xq_wd_in (pl := 107) (by decide +kernel)⟩
set_option maxRecDepth 100000 in
theorem xl_12 : xq_xm xk_M (2, 30, 0, 2, 3) := ⟨(RX2, TX2, 8), rfl, Nat.lt_of_lt_of_le (Nat.lt_succ_self _) (Nat.le_of_ble_eq_true rfl), rfl, xq_wd_in (pl := 108) (by decide +kernel)⟩
set_option maxRecDepth 100000 in
theorem xl_13 : xq_xm xk_M (8, 123, 0, 2, 3) := ⟨(RX2, TX2, 8), rfl, Nat.lt_of_lt_of_le (Nat.lt_succ_self _) (Nat.le_of_ble_eq_true rfl), rfl, xq_wd_in (pl := 109) (by decide +kernel)⟩
set_option maxRecDepth 100000 in
theorem xl_14 : xq_xm xk_M (2, 21, 0, 2, 4) := ⟨(RX2, TX2, 8), rfl, Nat.lt_of_lt_of_le (Nat.lt_succ_self _) (Nat.le_of_ble_eq_true rfl), rfl, xq_wd_in (pl := 110) (by decide +kernel)⟩
set_option maxRecDepth 100000 in
theorem xl_15 : xq_xm xk_M (2, 24, 0, 2, 5) := ⟨(RX2, TX2, 8), rfl, Nat.lt_of_lt_of_le (Nat.lt_succ_self _) (Nat.le_of_ble_eq_true rfl), rfl, xq_wd_in (pl := 111) (by decide +kernel)⟩
set_option maxRecDepth 100000 in
theorem xl_16 : xq_xm xk_M (2, 27, 0, 2, 6) := ⟨(RX2, TX2, 8), rfl, Nat.lt_of_lt_of_le (Nat.lt_succ_self _) (Nat.le_of_ble_eq_true rfl), rfl, xq_wd_in (pl := 112) (by decide +kernel)⟩
set_option maxRecDepth 100000 in
theorem xl_17 : xq_xm xk_M (2, 46, 0, 2, 7) := ⟨(RX2, TX2, 8), rfl, Nat.lt_of_lt_of_le (Nat.lt_succ_self _) (Nat.le_of_ble_eq_true rfl), rfl, xq_wd_in (pl := 113) (by decide +kernel)⟩
set_option maxRecDepth 100000 in
theorem xl_18 : xq_xm xk_M (8, 20, 6, 1, 0) := ⟨(RX1, TX1, 3), rfl, xq_wd_in (pl := 132) (by decide +kernel), xq_wd_in (pl := 133) (by decide +kernel), xq_wd_in (pl := 72) (by decide +kernel)⟩
set_option maxRecDepth 100000 in
theorem xl_19 : xq_xm xk_M (8, 22, 2, 1, 0) := ⟨_, rfl, by decide +kernel⟩
set_option maxRecDepth 100000 in
theorem xl_20 : xq_xm xk_M (1, 3, 3, 0, 0) := xq_wd_in (pl := 137) (by decide +kernel)
set_option maxRecDepth 100000 in
theorem xl_21 : xq_xm xk_M (1, 9, 0, 1, 0) := ⟨(RX1, TX1, 3), rfl, Nat.lt_of_lt_of_le (Nat.lt_succ_self _) (Nat.le_of_ble_eq_true rfl), rfl, xq_wd_in (pl := 138) (by decide +kernel)⟩
set_option maxRecDepth 100000 in
theorem xl_22 : xq_xm xk_M (3, 73, 0, 1, 0) := ⟨(RX1, TX1, 3), rfl, Nat.lt_of_lt_of_le (Nat.lt_succ_self _) (Nat.le_of_ble_eq_true rfl), rfl, xq_wd_in (pl := 139) (by decide +kernel)⟩
set_option maxRecDepth 100000 in
theorem xl_23 : xq_xm xk_M (6, 33, 0, 1, 0) := ⟨(RX1, TX1, 3), rfl, Nat.lt_of_lt_of_le (Nat.lt_succ_self _) (Nat.le_of_ble_eq_true rfl), rfl, xq_wd_in (pl := 140) (by decide +kernel)⟩
set_option maxRecDepth 100000 in
theorem xl_24 : xq_xm xk_M (8, 261, 0, 1, 0) := ⟨(RX1, TX1, 3), rfl, Nat.lt_of_lt_of_le (Nat.lt_succ_self _) (Nat.le_of_ble_eq_true rfl), rfl, xq_wd_in (pl := 141) (by decide +kernel)⟩
set_option maxRecDepth 100000 in
theorem xl_25 : xq_xm xk_M (1, 15, 0, 1, 1) := ⟨(RX1, TX1, 3), rfl, Nat.lt_of_lt_of_le (Nat.lt_succ_self _) (Nat.le_of_ble_eq_true rfl), rfl, xq_wd_in (pl := 142) (by decide +kernel)⟩
set_option maxRecDepth 100000 in
theorem xl_26 : xq_xm xk_M (3, 83, 0, 1, 1) := ⟨(RX1, TX1, 3), rfl, Nat.lt_of_lt_of_le (Nat.lt_succ_self _) (Nat.le_of_ble_eq_true rfl), rfl, xq_wd_in (pl := 143) (by decide +kernel)⟩
set_option maxRecDepth 100000 in
theorem xl_27 : xq_xm xk_M (6, 69, 0, 1, 1) := ⟨(RX1, TX1, 3), rfl, Nat.lt_of_lt_of_le (Nat.lt_succ_self _) (Nat.le_of_ble_eq_true rfl), rfl, xq_wd_in (pl := 144) (by decide +kernel)⟩
set_option maxRecDepth 100000 in
theorem xl_28 : xq_xm xk_M (1, 18, 0, 1, 2) := ⟨(RX1, TX1, 3), rfl, Nat.lt_of_lt_of_le (Nat.lt_succ_self _) (Nat.le_of_ble_eq_true rfl), rfl, xq_wd_in (pl := 145) (by decide +kernel)⟩
set_option maxRecDepth 100000 in
theorem xl_29 : xq_xm xk_M (6, 82, 0, 1, 2) := ⟨(RX1, TX1, 3), rfl, Nat.lt_of_lt_of_le (Nat.lt_succ_self _) (Nat.le_of_ble_eq_true rfl), rfl, xq_wd_in (pl := 146) (by decide +kernel)⟩
set_option maxRecDepth 100000 in
theorem xl_30 : xq_xm xk_M (8, 30, 6, 6, 0) := ⟨(RX6, TX6, 6), rfl, xq_wd_in (pl := 154) (by decide +kernel), xq_wd_in (pl := 155) (by decide +kernel), xq_wd_in (pl := 73) (by decide +kernel)⟩
set_option maxRecDepth 100000 in
theorem xl_31 : xq_xm xk_M (8, 32, 1, 54, 0) := ⟨_, rfl, xq_wd_in (pl := 156) (by decide +kernel)⟩
set_option maxRecDepth 100000 in
theorem xl_32 : xq_xm xk_M (6, 3, 3, 0, 0) := xq_wd_in (pl := 159) (by decide +kernel)
set_option maxRecDepth 100000 in
theorem xl_33 : xq_xm xk_M (6, 18, 0, 6, 0) := ⟨(RX6, TX6, 6), rfl, Nat.lt_of_lt_of_le (Nat.lt_succ_self _) (Nat.le_of_ble_eq_true rfl), rfl, xq_wd_in (pl := 160) (by decide +kernel)⟩
set_option maxRecDepth 100000 in
theorem xl_34 : xq_xm xk_M (6, 22, 0, 6, 1) := ⟨(RX6, TX6, 6), rfl, Nat.lt_of_lt_of_le (Nat.lt_succ_self _) (Nat.le_of_ble_eq_true rfl), rfl, xq_wd_in (pl := 161) (by decide +kernel)⟩
set_option maxRecDepth 100000 in
theorem xl_35 : xq_xm xk_M (6, 9, 0, 6, 2) := ⟨(RX6, TX6, 6), rfl, Nat.lt_of_lt_of_le (Nat.lt_succ_self _) (Nat.le_of_ble_eq_true rfl), rfl, xq_wd_in (pl := 162) (by decide +kernel)⟩
set_option maxRecDepth 100000 in
theorem xl_36 : xq_xm xk_M (6, 15, 0, 6, 3) := ⟨(RX6, TX6, 6), rfl, Nat.lt_of_lt_of_le (Nat.lt_succ_self _) (Nat.le_of_ble_eq_true rfl), rfl, xq_wd_in (pl := 163) (by decide +kernel)⟩
set_option maxRecDepth 100000 in
theorem xl_37 : xq_xm xk_M (6, 25, 0, 6, 4) := ⟨(RX6, TX6, 6), rfl, Nat.lt_of_lt_of_le (Nat.lt_succ_self _) (Nat.le_of_ble_eq_true rfl), rfl, xq_wd_in (pl := 164) (by decide +kernel)⟩
set_option maxRecDepth 100000 in
theorem xl_38 : xq_xm xk_M (6, 29, 0, 6, 5) := ⟨(RX6, TX6, 6), rfl, Nat.lt_of_lt_of_le (Nat.lt_succ_self _) (Nat.le_of_ble_eq_true rfl), rfl, xq_wd_in (pl := 165) (by decide +kernel)⟩
set_option maxRecDepth 100000 in
theorem xl_39 : xq_xm xk_M (8, 39, 6, 3, 0) := ⟨(RX3, TX3, 15), rfl, xq_wd_in (pl := 179) (by decide +kernel), xq_wd_in (pl := 180) (by decide +kernel), xq_wd_in (pl := 74) (by decide +kernel)⟩
set_option maxRecDepth 100000 in
theorem xl_40 : xq_xm xk_M (8, 41, 1, 18, 0) := ⟨_, rfl, xq_wd_in (pl := 181) (by decide +kernel)⟩
set_option maxRecDepth 100000 in
theorem xl_41 : xq_xm xk_M (3, 3, 3, 0, 0) := xq_wd_in (pl := 184) (by decide +kernel)
set_option maxRecDepth 100000 in
theorem xl_42 : xq_xm xk_M (3, 9, 6, 1, 0) := ⟨(RX1, TX1, 3), rfl, xq_wd_in (pl := 185) (by decide +kernel), xq_wd_in (pl := 133) (by decide +kernel), xq_wd_in (pl := 72) (by decide +kernel)⟩
set_option maxRecDepth 100000 in
theorem xl_43 : xq_xm xk_M (3, 11, 2, 1, 0) := ⟨_, rfl, by decide +kernel⟩
set_option maxRecDepth 100000 in
theorem xl_44 : xq_xm xk_M (3, 67, 0, 3, 0) := ⟨(RX3, TX3, 15), rfl, Nat.lt_of_lt_of_le (Nat.lt_succ_self _) (Nat.le_of_ble_eq_true rfl), rfl, xq_wd_in (pl := 187) (by decide +kernel)⟩
set_option maxRecDepth 100000 in
theorem xl_45 : xq_xm xk_M (8, 229, 0, 3, 0) := ⟨(RX3, TX3, 15), rfl, Nat.lt_of_lt_of_le (Nat.lt_succ_self _) (Nat.le_of_ble_eq_true rfl), rfl, xq_wd_in (pl := 188) (by decide +kernel)⟩
set_option maxRecDepth 100000 in
theorem xl_46 : xq_xm xk_M (3, 70, 0, 3, 1) := ⟨(RX3, TX3, 15), rfl, Nat.lt_of_lt_of_le (Nat.lt_succ_self _) (Nat.le_of_ble_eq_true rfl), rfl, xq_wd_in (pl := 189) (by decide +kernel)⟩
set_option maxRecDepth 100000 in
theorem xl_47 : xq_xm xk_M (8, 232, 0, 3, 1) := ⟨(RX3, TX3, 15), rfl, Nat.lt_of_lt_of_le (Nat.lt_succ_self _) (Nat.le_of_ble_eq_true rfl), rfl, xq_wd_in (pl := 190) (by decide +kernel)⟩
set_option maxRecDepth 100000 in
theorem xl_48 : xq_xm xk_M (3, 37, 0, 3, 2) := ⟨(RX3, TX3, 15), rfl, Nat.lt_of_lt_of_le (Nat.lt_succ_self _) (Nat.le_of_ble_eq_true rfl), rfl, xq_wd_in (pl := 191) (by decide +kernel)⟩
set_option maxRecDepth 100000 in
theorem xl_49 : xq_xm xk_M (3, 41, 0, 3, 3) := ⟨(RX3, TX3, 15), rfl, Nat.lt_of_lt_of_le (Nat.lt_succ_self _) (Nat.le_of_ble_eq_true rfl), rfl, xq_wd_in (pl := 192) (by decide +kernel)⟩
set_option maxRecDepth 100000 in
theorem xl_50 : xq_xm xk_M (3, 45, 0, 3, 4) := ⟨(RX3, TX3, 15), rfl, Nat.lt_of_lt_of_le (Nat.lt_succ_self _) (Nat.le_of_ble_eq_true rfl), rfl, xq_wd_in (pl := 193) (by decide +kernel)⟩
set_option maxRecDepth 100000 in
theorem xl_51 : xq_xm xk_M (3, 12, 0, 3, 5) := ⟨(RX3, TX3, 15), rfl, Nat.lt_of_lt_of_le (Nat.lt_succ_self _) (Nat.le_of_ble_eq_true rfl), rfl, xq_wd_in (pl := 194) (by decide +kernel)⟩
set_option maxRecDepth 100000 in
theorem xl_52 : xq_xm xk_M (3, 18, 0, 3, 6) := ⟨(RX3, TX3, 15), rfl, Nat.lt_of_lt_of_le (Nat.lt_succ_self _) (Nat.le_of_ble_eq_true rfl), rfl, xq_wd_in (pl := 195) (by decide +kernel)⟩
set_option maxRecDepth 100000 in
theorem xl_53 : xq_xm xk_M (3, 22, 0, 3, 7) := ⟨(RX3, TX3, 15), rfl, Nat.lt_of_lt_of_le (Nat.lt_succ_self _) (Nat.le_of_ble_eq_true rfl), rfl, xq_wd_in (pl := 196) (by decide +kernel)⟩
set_option maxRecDepth 100000 in
theorem xl_54 : xq_xm xk_M (3, 25, 0, 3, 8) := ⟨(RX3, TX3, 15), rfl, Nat.lt_of_lt_of_le (Nat.lt_succ_self _) (Nat.le_of_ble_eq_true rfl), rfl, xq_wd_in (pl := 197) (by decide +kernel)⟩
set_option maxRecDepth 100000 in
theorem xl_55 : xq_xm xk_M (3, 28, 0, 3, 9) := ⟨(RX3, TX3, 15), rfl, Nat.lt_of_lt_of_le (Nat.lt_succ_self _) (Nat.le_of_ble_eq_true rfl), rfl, xq_wd_in (pl := 198) (by decide +kernel)⟩
set_option maxRecDepth 100000 in
theorem xl_56 : xq_xm xk_M (3, 31, 0, 3, 10) := ⟨(RX3, TX3, 15), rfl, Nat.lt_of_lt_of_le (Nat.lt_succ_self _) (Nat.le_of_ble_eq_true rfl), rfl, xq_wd_in (pl := 199) (by decide +kernel)⟩
set_option maxRecDepth 100000 in
theorem xl_57 : xq_xm xk_M (3, 80, 0, 3, 11) := ⟨(RX3, TX3, 15), rfl, Nat.lt_of_lt_of_le (Nat.lt_succ_self _) (Nat.le_of_ble_eq_true rfl), rfl, xq_wd_in (pl := 200) (by decide +kernel)⟩
set_option maxRecDepth 100000 in
theorem xl_58 : xq_xm xk_M (3, 34, 0, 3, 12) := ⟨(RX3, TX3, 15), rfl, Nat.lt_of_lt_of_le (Nat.lt_succ_self _) (Nat.le_of_ble_eq_true rfl), rfl, xq_wd_in (pl := 201) (by decide +kernel)⟩
set_option maxRecDepth 100000 in
theorem xl_59 : xq_xm xk_M (3, 54, 0, 3, 13) := ⟨(RX3, TX3, 15), rfl, Nat.lt_of_lt_of_le (Nat.lt_succ_self _) (Nat.le_of_ble_eq_true rfl), rfl, xq_wd_in (pl := 202) (by decide +kernel)⟩
set_option maxRecDepth 100000 in
theorem xl_60 : xq_xm xk_M (3, 58, 0, 3, 14) := ⟨(RX3, TX3, 15), rfl, Nat.lt_of_lt_of_le (Nat.lt_succ_self _) (Nat.le_of_ble_eq_true rfl), rfl, xq_wd_in (pl := 203) (by decide +kernel)⟩
set_option maxRecDepth 100000 in
theorem xl_61 : xq_xm xk_M (8, 48, 6, 4, 0) := ⟨(RX4, TX4, 9), rfl, xq_wd_in (pl := 235) (by decide +kernel), xq_wd_in (pl := 236) (by decide +kernel), xq_wd_in (pl := 75) (by decide +kernel)⟩
set_option maxRecDepth 100000 in
theorem xl_62 : xq_xm xk_M (8, 50, 2, 26, 0) := ⟨_, rfl, by decide +kernel⟩
set_option maxRecDepth 100000 in
theorem xl_63 : xq_xm xk_M (4, 3, 3, 0, 0) := xq_wd_in (pl := 240) (by decide +kernel)
set_option maxRecDepth 100000 in
theorem xl_64 : xq_xm xk_M (4, 9, 0, 4, 0) := ⟨(RX4, TX4, 9), rfl, Nat.lt_of_lt_of_le (Nat.lt_succ_self _) (Nat.le_of_ble_eq_true rfl), rfl, xq_wd_in (pl := 241) (by decide +kernel)⟩
set_option maxRecDepth 100000 in
theorem xl_65 : xq_xm xk_M (4, 22, 0, 4, 1) := ⟨(RX4, TX4, 9), rfl, Nat.lt_of_lt_of_le (Nat.lt_succ_self _) (Nat.le_of_ble_eq_true rfl), rfl, xq_wd_in (pl := 242) (by decide +kernel)⟩
set_option maxRecDepth 100000 in
theorem xl_66 : xq_xm xk_M (8, 135, 0, 4, 1) := ⟨(RX4, TX4, 9), rfl, Nat.lt_of_lt_of_le (Nat.lt_succ_self _) (Nat.le_of_ble_eq_true rfl), rfl, xq_wd_in (pl := 243) (by decide +kernel)⟩
set_option maxRecDepth 100000 in
theorem xl_67 : xq_xm xk_M (4, 15, 0, 4, 2) := ⟨(RX4, TX4, 9), rfl, Nat.lt_of_lt_of_le (Nat.lt_succ_self _) (Nat.le_of_ble_eq_true rfl), rfl, xq_wd_in (pl := 244) (by decide +kernel)⟩
set_option maxRecDepth 100000 in
theorem xl_68 : xq_xm xk_M (8, 136, 0, 4, 2) := ⟨(RX4, TX4, 9), rfl, Nat.lt_of_lt_of_le (Nat.lt_succ_self _) (Nat.le_of_ble_eq_true rfl), rfl, xq_wd_in (pl := 245) (by decide +kernel)⟩
set_option maxRecDepth 100000 in
theorem xl_69 : xq_xm xk_M (4, 19, 0, 4, 3) := ⟨(RX4, TX4, 9), rfl, Nat.lt_of_lt_of_le (Nat.lt_succ_self _) (Nat.le_of_ble_eq_true rfl), rfl, xq_wd_in (pl := 246) (by decide +kernel)⟩
set_option maxRecDepth 100000 in
theorem xl_70 : xq_xm xk_M (4, 25, 0, 4, 4) := ⟨(RX4, TX4, 9), rfl, Nat.lt_of_lt_of_le (Nat.lt_succ_self _) (Nat.le_of_ble_eq_true rfl), rfl, xq_wd_in (pl := 247) (by decide +kernel)⟩
set_option maxRecDepth 100000 in
theorem xl_71 : xq_xm xk_M (4, 38, 0, 4, 5) := ⟨(RX4, TX4, 9), rfl, Nat.lt_of_lt_of_le (Nat.lt_succ_self _) (Nat.le_of_ble_eq_true rfl), rfl, xq_wd_in (pl := 248) (by decide +kernel)⟩
set_option maxRecDepth 100000 in
theorem xl_72 : xq_xm xk_M (4, 82, 0, 4, 6) := ⟨(RX4, TX4, 9), rfl, Nat.lt_of_lt_of_le (Nat.lt_succ_self _) (Nat.le_of_ble_eq_true rfl), rfl, xq_wd_in (pl := 249) (by decide +kernel)⟩
set_option maxRecDepth 100000 in
theorem xl_73 : xq_xm xk_M (4, 28, 0, 4, 7) := ⟨(RX4, TX4, 9), rfl, Nat.lt_of_lt_of_le (Nat.lt_succ_self _) (Nat.le_of_ble_eq_true rfl), rfl, xq_wd_in (pl := 250) (by decide +kernel)⟩
set_option maxRecDepth 100000 in
theorem xl_74 : xq_xm xk_M (4, 79, 0, 4, 8) := ⟨(RX4, TX4, 9), rfl, Nat.lt_of_lt_of_le (Nat.lt_succ_self _) (Nat.le_of_ble_eq_true rfl), rfl, xq_wd_in (pl := 251) (by decide +kernel)⟩
set_option maxRecDepth 100000 in
theorem xl_75 : xq_xm xk_M (8, 55, 6, 7, 0) := ⟨(RX7, TX7, 3), rfl, xq_wd_in (pl := 271) (by decide +kernel), xq_wd_in (pl := 473) (by decide +kernel), xq_wd_in (pl := 83) (by decide +kernel)⟩
set_option maxRecDepth 100000 in
theorem xl_76 : xq_xm xk_M (8, 67, 8, 0, 0) := xq_wd_in (pl := 273) (by decide +kernel)
set_option maxRecDepth 100000 in
theorem xl_77 : xq_xm xk_M (8, 72, 6, 5, 0) := ⟨(RX5, TX5, 3), rfl, xq_wd_in (pl := 275) (by decide +kernel), xq_wd_in (pl := 313) (by decide +kernel), xq_wd_in (pl := 78) (by decide +kernel)⟩
set_option maxRecDepth 100000 in
theorem xl_78 : xq_xm xk_M (8, 78, 6, 0, 0) := ⟨(RX0, TX0, 7), rfl, xq_wd_in (pl := 277) (by decide +kernel), xq_wd_in (pl := 278) (by decide +kernel), xq_wd_in (pl := 76) (by decide +kernel)⟩
set_option maxRecDepth 100000 in
theorem xl_79 : xq_xm xk_M (8, 80, 2, 0, 0) := ⟨_, rfl, by decide +kernel⟩
set_option maxRecDepth 100000 in
theorem xl_80 : xq_xm xk_M (0, 3, 3, 0, 0) := xq_wd_in (pl := 282) (by decide +kernel)
set_option maxRecDepth 100000 in
theorem xl_81 : xq_xm xk_M (0, 9, 6, 1, 0) := ⟨(RX1, TX1, 3), rfl, xq_wd_in (pl := 283) (by decide +kernel), xq_wd_in (pl := 133) (by decide +kernel), xq_wd_in (pl := 72) (by decide +kernel)⟩
set_option maxRecDepth 100000 in
theorem xl_82 : xq_xm xk_M (0, 11, 2, 1, 0) := ⟨_, rfl, by decide +kernel⟩
set_option maxRecDepth 100000 in
theorem xl_83 : xq_xm xk_M (0, 12, 0, 0, 0) := ⟨(RX0, TX0, 7), rfl, Nat.lt_of_lt_of_le (Nat.lt_succ_self _) (Nat.le_of_ble_eq_true rfl), rfl, xq_wd_in (pl := 285) (by decide +kernel)⟩
set_option maxRecDepth 100000 in
theorem xl_84 : xq_xm xk_M (8, 276, 0, 0, 0) := ⟨(RX0, TX0, 7), rfl, Nat.lt_of_lt_of_le (Nat.lt_succ_self _) (Nat.le_of_ble_eq_true rfl), rfl, xq_wd_in (pl := 286) (by decide +kernel)⟩
set_option maxRecDepth 100000 in
theorem xl_85 : xq_xm xk_M (0, 18, 0, 0, 1) := ⟨(RX0, TX0, 7), rfl, Nat.lt_of_lt_of_le (Nat.lt_succ_self _) (Nat.le_of_ble_eq_true rfl), rfl, xq_wd_in (pl := 287) (by decide +kernel)⟩
set_option maxRecDepth 100000 in
theorem xl_86 : xq_xm xk_M (8, 288, 0, 0, 1) := ⟨(RX0, TX0, 7), rfl, Nat.lt_of_lt_of_le (Nat.lt_succ_self _) (Nat.le_of_ble_eq_true rfl), rfl, xq_wd_in (pl := 288) (by decide +kernel)⟩
set_option maxRecDepth 100000 in
theorem xl_87 : xq_xm xk_M (0, 22, 0, 0, 2) := ⟨(RX0, TX0, 7), rfl, Nat.lt_of_lt_of_le (Nat.lt_succ_self _) (Nat.le_of_ble_eq_true rfl), rfl, xq_wd_in (pl := 289) (by decide +kernel)⟩
set_option maxRecDepth 100000 in
theorem xl_88 : xq_xm xk_M (8, 295, 0, 0, 2) := ⟨(RX0, TX0, 7), rfl, Nat.lt_of_lt_of_le (Nat.lt_succ_self _) (Nat.le_of_ble_eq_true rfl), rfl, xq_wd_in (pl := 290) (by decide +kernel)⟩
set_option maxRecDepth 100000 in
theorem xl_89 : xq_xm xk_M (8, 272, 0, 0, 3) := ⟨(RX0, TX0, 7), rfl, Nat.lt_of_lt_of_le (Nat.lt_succ_self _) (Nat.le_of_ble_eq_true rfl), rfl, xq_wd_in (pl := 291) (by decide +kernel)⟩
set_option maxRecDepth 100000 in
theorem xl_90 : xq_xm xk_M (8, 283, 0, 0, 4) := ⟨(RX0, TX0, 7), rfl, Nat.lt_of_lt_of_le (Nat.lt_succ_self _) (Nat.le_of_ble_eq_true rfl), rfl, xq_wd_in (pl := 292) (by decide +kernel)⟩
set_option maxRecDepth 100000 in
theorem xl_91 : xq_xm xk_M (8, 285, 0, 0, 5) := ⟨(RX0, TX0, 7), rfl, Nat.lt_of_lt_of_le (Nat.lt_succ_self _) (Nat.le_of_ble_eq_true rfl), rfl, xq_wd_in (pl := 293) (by decide +kernel)⟩
set_option maxRecDepth 100000 in
theorem xl_92 : xq_xm xk_M (8, 287, 0, 0, 6) := ⟨(RX0, TX0, 7), rfl, Nat.lt_of_lt_of_le (Nat.lt_succ_self _) (Nat.le_of_ble_eq_true rfl), rfl, xq_wd_in (pl := 294) (by decide +kernel)⟩
set_option maxRecDepth 100000 in
theorem xl_93 : xq_xm xk_M (8, 85, 1, 217, 0) := ⟨_, rfl, xq_wd_in (pl := 310) (by decide +kernel)⟩
set_option maxRecDepth 100000 in
theorem xl_94 : xq_xm xk_M (8, 91, 2, 48, 0) := ⟨_, rfl, by decide +kernel⟩
set_option maxRecDepth 100000 in
theorem xl_95 : xq_xm xk_M (5, 3, 3, 0, 0) := xq_wd_in (pl := 317) (by decide +kernel)
set_option maxRecDepth 100000 in
theorem xl_96 : xq_xm xk_M (5, 9, 0, 5, 0) := ⟨(RX5, TX5, 3), rfl, Nat.lt_of_lt_of_le (Nat.lt_succ_self _) (Nat.le_of_ble_eq_true rfl), rfl, xq_wd_in (pl := 318) (by decide +kernel)⟩
set_option maxRecDepth 100000 in
theorem xl_97 : xq_xm xk_M (8, 319, 0, 5, 0) := ⟨(RX5, TX5, 3), rfl, Nat.lt_of_lt_of_le (Nat.lt_succ_self _) (Nat.le_of_ble_eq_true rfl), rfl, xq_wd_in (pl := 319) (by decide +kernel)⟩
set_option maxRecDepth 100000 in
theorem xl_98 : xq_xm xk_M (5, 15, 0, 5, 1) := ⟨(RX5, TX5, 3), rfl, Nat.lt_of_lt_of_le (Nat.lt_succ_self _) (Nat.le_of_ble_eq_true rfl), rfl, xq_wd_in (pl := 320) (by decide +kernel)⟩
set_option maxRecDepth 100000 in
theorem xl_99 : xq_xm xk_M (8, 312, 0, 5, 1) := ⟨(RX5, TX5, 3), rfl, Nat.lt_of_lt_of_le (Nat.lt_succ_self _) (Nat.le_of_ble_eq_true rfl), rfl, xq_wd_in (pl := 321) (by decide +kernel)⟩
set_option maxRecDepth 100000 in
theorem xl_100 : xq_xm xk_M (5, 19, 0, 5, 2) := ⟨(RX5, TX5, 3), rfl, Nat.lt_of_lt_of_le (Nat.lt_succ_self _) (Nat.le_of_ble_eq_true rfl), rfl, xq_wd_in (pl := 322) (by decide +kernel)⟩
set_option maxRecDepth 100000 in
theorem xl_101 : xq_xm xk_M (8, 186, 0, 5, 2) := ⟨(RX5, TX5, 3), rfl, Nat.lt_of_lt_of_le (Nat.lt_succ_self _) (Nat.le_of_ble_eq_true rfl), rfl, xq_wd_in (pl := 323) (by decide +kernel)⟩
set_option maxRecDepth 100000 in
theorem xl_102 : xq_xm xk_M (8, 94, 1, 219, 0) := ⟨_, rfl, xq_wd_in (pl := 332) (by decide +kernel)⟩
set_option maxRecDepth 100000 in
theorem xl_103 : xq_xm xk_M (8, 100, 1, 220, 0) := ⟨_, rfl, xq_wd_in (pl := 342) (by decide +kernel)⟩
set_option maxRecDepth 100000 in
theorem xl_104 : xq_xm xk_M (8, 104, 1, 27, 0) := ⟨_, rfl, xq_wd_in (pl := 380) (by decide +kernel)⟩
set_option maxRecDepth 100000 in
theorem xl_105 : xq_xm xk_M (8, 108, 1, 29, 0) := ⟨_, rfl, xq_wd_in (pl := 384) (by decide +kernel)⟩
set_option maxRecDepth 100000 in
theorem xl_106 : xq_xm xk_M (4, 31, 1, 40, 0) := ⟨_, rfl, xq_wd_in (pl := 388) (by decide +kernel)⟩
set_option maxRecDepth 100000 in
theorem xl_107 : xq_xm xk_M (4, 85, 1, 44, 0) := ⟨_, rfl, xq_wd_in (pl := 392) (by decide +kernel)⟩
set_option maxRecDepth 100000 in
theorem xl_108 : xq_xm xk_M (4, 89, 1, 41, 0) := ⟨_, rfl, xq_wd_in (pl := 395) (by decide +kernel)⟩
set_option maxRecDepth 100000 in
theorem xl_109 : xq_xm xk_M (4, 101, 1, 46, 0) := ⟨_, rfl, xq_wd_in (pl := 399) (by decide +kernel)⟩
set_option maxRecDepth 100000 in
theorem xl_110 : xq_xm xk_M (4, 107, 1, 47, 0) := ⟨_, rfl, xq_wd_in (pl := 404) (by decide +kernel)⟩
set_option maxRecDepth 100000 in
theorem xl_111 : xq_xm xk_M (4, 133, 1, 219, 0) := ⟨_, rfl, xq_wd_in (pl := 408) (by decide +kernel)⟩
set_option maxRecDepth 100000 in
theorem xl_112 : xq_xm xk_M (4, 137, 1, 220, 0) := ⟨_, rfl, xq_wd_in (pl := 409) (by decide +kernel)⟩
set_option maxRecDepth 100000 in
theorem xl_113 : xq_xm xk_M (4, 41, 1, 39, 0) := ⟨_, rfl, xq_wd_in (pl := 421) (by decide +kernel)⟩
set_option maxRecDepth 100000 in
theorem xl_114 : xq_xm xk_M (4, 92, 1, 45, 0) := ⟨_, rfl, xq_wd_in (pl := 425) (by decide +kernel)⟩
set_option maxRecDepth 100000 in
theorem xl_115 : xq_xm xk_M (4, 95, 1, 42, 0) := ⟨_, rfl, xq_wd_in (pl := 428) (by decide +kernel)⟩
set_option maxRecDepth 100000 in
theorem xl_116 : xq_xm xk_M (4, 98, 1, 43, 0) := ⟨_, rfl, xq_wd_in (pl := 432) (by decide +kernel)⟩
set_option maxRecDepth 100000 in
theorem xl_117 : xq_xm xk_M (4, 34, 1, 30, 0) := ⟨_, rfl, xq_wd_in (pl := 436) (by decide +kernel)⟩
set_option maxRecDepth 100000 in
theorem xl_118 : xq_xm xk_M (4, 55, 1, 38, 0) := ⟨_, rfl, xq_wd_in (pl := 440) (by decide +kernel)⟩
set_option maxRecDepth 100000 in
theorem xl_119 : xq_xm xk_M (4, 58, 1, 31, 0) := ⟨_, rfl, xq_wd_in (pl := 444) (by decide +kernel)⟩
set_option maxRecDepth 100000 in
theorem xl_120 : xq_xm xk_M (4, 61, 1, 32, 0) := ⟨_, rfl, xq_wd_in (pl := 448) (by decide +kernel)⟩
set_option maxRecDepth 100000 in
theorem xl_121 : xq_xm xk_M (4, 67, 1, 33, 0) := ⟨_, rfl, xq_wd_in (pl := 452) (by decide +kernel)⟩
set_option maxRecDepth 100000 in
theorem xl_122 : xq_xm xk_M (4, 64, 1, 37, 0) := ⟨_, rfl, xq_wd_in (pl := 456) (by decide +kernel)⟩
set_option maxRecDepth 100000 in
theorem xl_123 : xq_xm xk_M (4, 70, 1, 34, 0) := ⟨_, rfl, xq_wd_in (pl := 460) (by decide +kernel)⟩
set_option maxRecDepth 100000 in
theorem xl_124 : xq_xm xk_M (4, 73, 1, 35, 0) := ⟨_, rfl, xq_wd_in (pl := 464) (by decide +kernel)⟩
set_option maxRecDepth 100000 in
theorem xl_125 : xq_xm xk_M (4, 76, 1, 36, 0) := ⟨_, rfl, xq_wd_in (pl := 468) (by decide +kernel)⟩
set_option maxRecDepth 100000 in
theorem xl_126 : xq_xm xk_M (4, 44, 6, 7, 0) := ⟨(RX7, TX7, 3), rfl, xq_wd_in (pl := 472) (by decide +kernel), xq_wd_in (pl := 473) (by decide +kernel), xq_wd_in (pl := 83) (by decide +kernel)⟩
set_option maxRecDepth 100000 in
theorem xl_127 : xq_xm xk_M (4, 46, 1, 218, 0) := ⟨_, rfl, xq_wd_in (pl := 474) (by decide +kernel)⟩
set_option maxRecDepth 100000 in
theorem xl_128 : xq_xm xk_M (14, 316, 5, 0, 0) := xq_wd_in (pl := 477) (by decide +kernel)
set_option maxRecDepth 100000 in
theorem xl_129 : xq_xm xk_M (14, 317, 7, 0, 0) := xq_wd_in (pl := 483) (by decide +kernel)
set_option maxRecDepth 100000 in
theorem xl_130 : xq_xm xk_M (14, 304, 11, 0, 0) := xq_wd_in (pl := 484) (by decide +kernel)
set_option maxRecDepth 100000 in
theorem xl_131 : xq_xm xk_M (14, 150, 4, 0, 0) := xq_wd_in (pl := 487) (by decide +kernel)
set_option maxRecDepth 100000 in
theorem xl_132 : xq_xm xk_M (4, 52, 1, 67, 0) := ⟨_, rfl, xq_wd_in (pl := 490) (by decide +kernel)⟩
set_option maxRecDepth 100000 in
theorem xl_133 : xq_xm xk_M (7, 3, 3, 0, 0) := xq_wd_in (pl := 493) (by decide +kernel)
set_option maxRecDepth 100000 in
theorem xl_134 : xq_xm xk_M (7, 9, 0, 7, 0) := ⟨(RX7, TX7, 3), rfl, Nat.lt_of_lt_of_le (Nat.lt_succ_self _) (Nat.le_of_ble_eq_true rfl), rfl, xq_wd_in (pl := 494) (by decide +kernel)⟩
set_option maxRecDepth 100000 in
theorem xl_135 : xq_xm xk_M (6, 85, 0, 7, 0) := ⟨(RX7, TX7, 3), rfl, Nat.lt_of_lt_of_le (Nat.lt_succ_self _) (Nat.le_of_ble_eq_true rfl), rfl, xq_wd_in (pl := 495) (by decide +kernel)⟩
set_option maxRecDepth 100000 in
theorem xl_136 : xq_xm xk_M (7, 15, 0, 7, 1) := ⟨(RX7, TX7, 3), rfl, Nat.lt_of_lt_of_le (Nat.lt_succ_self _) (Nat.le_of_ble_eq_true rfl), rfl, xq_wd_in (pl := 496) (by decide +kernel)⟩
set_option maxRecDepth 100000 in
theorem xl_137 : xq_xm xk_M (7, 19, 0, 7, 2) := ⟨(RX7, TX7, 3), rfl, Nat.lt_of_lt_of_le (Nat.lt_succ_self _) (Nat.le_of_ble_eq_true rfl), rfl, xq_wd_in (pl := 497) (by decide +kernel)⟩
set_option maxRecDepth 100000 in
theorem xl_138 : xq_xm xk_M (8, 112, 1, 28, 0) := ⟨_, rfl, xq_wd_in (pl := 506) (by decide +kernel)⟩
set_option maxRecDepth 100000 in
theorem xl_139 : xq_xm xk_M (8, 10, 0, 8, 0) := ⟨(RX8, TX8, 17), rfl, Nat.lt_of_lt_of_le (Nat.lt_succ_self _) (Nat.le_of_ble_eq_true rfl), rfl, xq_wd_in (pl := 510) (by decide +kernel)⟩
set_option maxRecDepth 100000 in
theorem xl_140 : xq_xm xk_M (8, 16, 0, 8, 1) := ⟨(RX8, TX8, 17), rfl, Nat.lt_of_lt_of_le (Nat.lt_succ_self _) (Nat.le_of_ble_eq_true rfl), rfl, xq_wd_in (pl := 511) (by decide +kernel)⟩
set_option maxRecDepth 100000 in
theorem xl_141 : xq_xm xk_M (8, 23, 0, 8, 2) := ⟨(RX8, TX8, 17), rfl, Nat.lt_of_lt_of_le (Nat.lt_succ_self _) (Nat.le_of_ble_eq_true rfl), rfl, xq_wd_in (pl := 512) (by decide +kernel)⟩
set_option maxRecDepth 100000 in
theorem xl_142 : xq_xm xk_M (8, 27, 0, 8, 3) := ⟨(RX8, TX8, 17), rfl, Nat.lt_of_lt_of_le (Nat.lt_succ_self _) (Nat.le_of_ble_eq_true rfl), rfl, xq_wd_in (pl := 513) (by decide +kernel)⟩
set_option maxRecDepth 100000 in
theorem xl_143 : xq_xm xk_M (8, 35, 0, 8, 4) := ⟨(RX8, TX8, 17), rfl, Nat.lt_of_lt_of_le (Nat.lt_succ_self _) (Nat.le_of_ble_eq_true rfl), rfl, xq_wd_in (pl := 514) (by decide +kernel)⟩
set_option maxRecDepth 100000 in
theorem xl_144 : xq_xm xk_M (8, 44, 0, 8, 5) := ⟨(RX8, TX8, 17), rfl, Nat.lt_of_lt_of_le (Nat.lt_succ_self _) (Nat.le_of_ble_eq_true rfl), rfl, xq_wd_in (pl := 515) (by decide +kernel)⟩
set_option maxRecDepth 100000 in
theorem xl_145 : xq_xm xk_M (8, 51, 0, 8, 6) := ⟨(RX8, TX8, 17), rfl, Nat.lt_of_lt_of_le (Nat.lt_succ_self _) (Nat.le_of_ble_eq_true rfl), rfl, xq_wd_in (pl := 516) (by decide +kernel)⟩
set_option maxRecDepth 100000 in
theorem xl_146 : xq_xm xk_M (8, 57, 0, 8, 7) := ⟨(RX8, TX8, 17), rfl, Nat.lt_of_lt_of_le (Nat.lt_succ_self _) (Nat.le_of_ble_eq_true rfl), rfl, xq_wd_in (pl := 517) (by decide +kernel)⟩
set_option maxRecDepth 100000 in
theorem xl_147 : xq_xm xk_M (8, 61, 0, 8, 8) := ⟨(RX8, TX8, 17), rfl, Nat.lt_of_lt_of_le (Nat.lt_succ_self _) (Nat.le_of_ble_eq_true rfl), rfl, xq_wd_in (pl := 518) (by decide +kernel)⟩
set_option maxRecDepth 100000 in
theorem xl_148 : xq_xm xk_M (8, 64, 0, 8, 9) := ⟨(RX8, TX8, 17), rfl, Nat.lt_of_lt_of_le (Nat.lt_succ_self _) (Nat.le_of_ble_eq_true rfl), rfl, xq_wd_in (pl := 519) (by decide +kernel)⟩
set_option maxRecDepth 100000 in
theorem xl_149 : xq_xm xk_M (8, 69, 0, 8, 10) := ⟨(RX8, TX8, 17), rfl, Nat.lt_of_lt_of_le (Nat.lt_succ_self _) (Nat.le_of_ble_eq_true rfl), rfl, xq_wd_in (pl := 520) (by decide +kernel)⟩
set_option maxRecDepth 100000 in
theorem xl_150 : xq_xm xk_M (8, 74, 0, 8, 11) := ⟨(RX8, TX8, 17), rfl, Nat.lt_of_lt_of_le (Nat.lt_succ_self _) (Nat.le_of_ble_eq_true rfl), rfl, xq_wd_in (pl := 521) (by decide +kernel)⟩
set_option maxRecDepth 100000 in
theorem xl_151 : xq_xm xk_M (8, 81, 0, 8, 12) := ⟨(RX8, TX8, 17), rfl, Nat.lt_of_lt_of_le (Nat.lt_succ_self _) (Nat.le_of_ble_eq_true rfl), rfl, xq_wd_in (pl := 522) (by decide +kernel)⟩
set_option maxRecDepth 100000 in
theorem xl_152 : xq_xm xk_M (8, 126, 0, 8, 13) := ⟨(RX8, TX8, 17), rfl, Nat.lt_of_lt_of_le (Nat.lt_succ_self _) (Nat.le_of_ble_eq_true rfl), rfl, xq_wd_in (pl := 523) (by decide +kernel)⟩
set_option maxRecDepth 100000 in
theorem xl_153 : xq_xm xk_M (8, 129, 0, 8, 14) := ⟨(RX8, TX8, 17), rfl, Nat.lt_of_lt_of_le (Nat.lt_succ_self _) (Nat.le_of_ble_eq_true rfl), rfl, xq_wd_in (pl := 524) (by decide +kernel)⟩
set_option maxRecDepth 100000 in
theorem xl_154 : xq_xm xk_M (8, 115, 0, 8, 15) := ⟨(RX8, TX8, 17), rfl, Nat.lt_of_lt_of_le (Nat.lt_succ_self _) (Nat.le_of_ble_eq_true rfl), rfl, xq_wd_in (pl := 525) (by decide +kernel)⟩
set_option maxRecDepth 100000 in
theorem xl_155 : xq_xm xk_M (8, 132, 0, 8, 16) := ⟨(RX8, TX8, 17), rfl, Nat.lt_of_lt_of_le (Nat.lt_succ_self _) (Nat.le_of_ble_eq_true rfl), rfl, xq_wd_in (pl := 526) (by decide +kernel)⟩
set_option maxRecDepth 100000 in
theorem xl_156 : xq_xm xk_M (11, 13, 1, 71, 0) := ⟨_, rfl, xq_wd_in (pl := 562) (by decide +kernel)⟩
set_option maxRecDepth 100000 in
theorem xl_157 : xq_xm xk_M (8, 119, 1, 111, 0) := ⟨_, rfl, xq_wd_in (pl := 566) (by decide +kernel)⟩
set_option maxRecDepth 100000 in
theorem xl_158 : xq_xm xk_M (11, 18, 1, 72, 0) := ⟨_, rfl, xq_wd_in (pl := 569) (by decide +kernel)⟩
set_option maxRecDepth 100000 in
theorem xl_159 : xq_xm xk_M (11, 23, 1, 73, 0) := ⟨_, rfl, xq_wd_in (pl := 573) (by decide +kernel)⟩
set_option maxRecDepth 100000 in
theorem xl_160 : xq_xm xk_M (11, 28, 1, 74, 0) := ⟨_, rfl, xq_wd_in (pl := 577) (by decide +kernel)⟩
set_option maxRecDepth 100000 in
theorem xl_161 : xq_xm xk_M (11, 33, 1, 75, 0) := ⟨_, rfl, xq_wd_in (pl := 581) (by decide +kernel)⟩
set_option maxRecDepth 100000 in
theorem xl_162 : xq_xm xk_M (11, 38, 1, 76, 0) := ⟨_, rfl, xq_wd_in (pl := 585) (by decide +kernel)⟩
set_option maxRecDepth 100000 in
theorem xl_163 : xq_xm xk_M (11, 42, 1, 77, 0) := ⟨_, rfl, xq_wd_in (pl := 589) (by decide +kernel)⟩
set_option maxRecDepth 100000 in
theorem xl_164 : xq_xm xk_M (8, 139, 1, 119, 0) := ⟨_, rfl, xq_wd_in (pl := 593) (by decide +kernel)⟩
set_option maxRecDepth 100000 in
theorem xl_165 : xq_xm xk_M (8, 142, 1, 55, 0) := ⟨_, rfl, xq_wd_in (pl := 597) (by decide +kernel)⟩
set_option maxRecDepth 100000 in
theorem xl_166 : xq_xm xk_M (8, 146, 1, 56, 0) := ⟨_, rfl, xq_wd_in (pl := 601) (by decide +kernel)⟩
set_option maxRecDepth 100000 in
theorem xl_167 : xq_xm xk_M (8, 150, 1, 63, 0) := ⟨_, rfl, xq_wd_in (pl := 605) (by decide +kernel)⟩
set_option maxRecDepth 100000 in
theorem xl_168 : xq_xm xk_M (6, 90, 1, 69, 0) := ⟨_, rfl, xq_wd_in (pl := 609) (by decide +kernel)⟩
set_option maxRecDepth 100000 in
theorem xl_169 : xq_xm xk_M (6, 93, 11, 0, 0) := xq_wd_in (pl := 613) (by decide +kernel)
set_option maxRecDepth 100000 in
theorem xl_170 : xq_xm xk_M (6, 98, 1, 68, 0) := ⟨_, rfl, xq_wd_in (pl := 614) (by decide +kernel)⟩
set_option maxRecDepth 100000 in
theorem xl_171 : xq_xm xk_M (6, 101, 1, 64, 0) := ⟨_, rfl, xq_wd_in (pl := 618) (by decide +kernel)⟩
set_option maxRecDepth 100000 in
theorem xl_172 : xq_xm xk_M (6, 104, 1, 65, 0) := ⟨_, rfl, xq_wd_in (pl := 622) (by decide +kernel)⟩
set_option maxRecDepth 100000 in
theorem xl_173 : xq_xm xk_M (6, 107, 1, 66, 0) := ⟨_, rfl, xq_wd_in (pl := 625) (by decide +kernel)⟩
set_option maxRecDepth 100000 in
theorem xl_174 : xq_xm xk_M (11, 47, 1, 78, 0) := ⟨_, rfl, xq_wd_in (pl := 628) (by decide +kernel)⟩
set_option maxRecDepth 100000 in
theorem xl_175 : xq_xm xk_M (8, 153, 1, 115, 0) := ⟨_, rfl, xq_wd_in (pl := 632) (by decide +kernel)⟩
set_option maxRecDepth 100000 in
theorem xl_176 : xq_xm xk_M (11, 51, 1, 79, 0) := ⟨_, rfl, xq_wd_in (pl := 636) (by decide +kernel)⟩
set_option maxRecDepth 100000 in
theorem xl_177 : xq_xm xk_M (11, 55, 1, 80, 0) := ⟨_, rfl, xq_wd_in (pl := 640) (by decide +kernel)⟩
set_option maxRecDepth 100000 in
theorem xl_178 : xq_xm xk_M (8, 156, 1, 9, 0) := ⟨_, rfl, xq_wd_in (pl := 644) (by decide +kernel)⟩
set_option maxRecDepth 100000 in
theorem xl_179 : xq_xm xk_M (2, 34, 1, 10, 0) := ⟨_, rfl, xq_wd_in (pl := 648) (by decide +kernel)⟩
set_option maxRecDepth 100000 in
theorem xl_180 : xq_xm xk_M (2, 38, 1, 11, 0) := ⟨_, rfl, xq_wd_in (pl := 652) (by decide +kernel)⟩
set_option maxRecDepth 100000 in
theorem xl_181 : xq_xm xk_M (2, 42, 1, 12, 0) := ⟨_, rfl, xq_wd_in (pl := 655) (by decide +kernel)⟩
set_option maxRecDepth 100000 in
theorem xl_182 : xq_xm xk_M (11, 59, 1, 81, 0) := ⟨_, rfl, xq_wd_in (pl := 658) (by decide +kernel)⟩
set_option maxRecDepth 100000 in
theorem xl_183 : xq_xm xk_M (8, 160, 1, 116, 0) := ⟨_, rfl, xq_wd_in (pl := 662) (by decide +kernel)⟩
set_option maxRecDepth 100000 in
theorem xl_184 : xq_xm xk_M (8, 163, 1, 2, 0) := ⟨_, rfl, xq_wd_in (pl := 666) (by decide +kernel)⟩
set_option maxRecDepth 100000 in
theorem xl_185 : xq_xm xk_M (8, 167, 1, 3, 0) := ⟨_, rfl, xq_wd_in (pl := 670) (by decide +kernel)⟩
set_option maxRecDepth 100000 in
theorem xl_186 : xq_xm xk_M (11, 63, 1, 82, 0) := ⟨_, rfl, xq_wd_in (pl := 674) (by decide +kernel)⟩
set_option maxRecDepth 100000 in
theorem xl_187 : xq_xm xk_M (11, 67, 1, 83, 0) := ⟨_, rfl, xq_wd_in (pl := 678) (by decide +kernel)⟩
set_option maxRecDepth 100000 in
theorem xl_188 : xq_xm xk_M (8, 179, 1, 112, 0) := ⟨_, rfl, xq_wd_in (pl := 682) (by decide +kernel)⟩
set_option maxRecDepth 100000 in
theorem xl_189 : xq_xm xk_M (8, 182, 1, 120, 0) := ⟨_, rfl, xq_wd_in (pl := 685) (by decide +kernel)⟩
set_option maxRecDepth 100000 in
theorem xl_190 : xq_xm xk_M (8, 187, 1, 121, 0) := ⟨_, rfl, xq_wd_in (pl := 689) (by decide +kernel)⟩
set_option maxRecDepth 100000 in
theorem xl_191 : xq_xm xk_M (8, 194, 1, 52, 0) := ⟨_, rfl, xq_wd_in (pl := 692) (by decide +kernel)⟩
set_option maxRecDepth 100000 in
theorem xl_192 : xq_xm xk_M (5, 28, 1, 50, 0) := ⟨_, rfl, xq_wd_in (pl := 696) (by decide +kernel)⟩
set_option maxRecDepth 100000 in
theorem xl_193 : xq_xm xk_M (8, 191, 1, 122, 0) := ⟨_, rfl, xq_wd_in (pl := 700) (by decide +kernel)⟩
set_option maxRecDepth 100000 in
theorem xl_194 : xq_xm xk_M (11, 71, 1, 84, 0) := ⟨_, rfl, xq_wd_in (pl := 704) (by decide +kernel)⟩
set_option maxRecDepth 100000 in
theorem xl_195 : xq_xm xk_M (11, 75, 1, 85, 0) := ⟨_, rfl, xq_wd_in (pl := 708) (by decide +kernel)⟩
set_option maxRecDepth 100000 in
theorem xl_196 : xq_xm xk_M (11, 79, 1, 86, 0) := ⟨_, rfl, xq_wd_in (pl := 712) (by decide +kernel)⟩
set_option maxRecDepth 100000 in
theorem xl_197 : xq_xm xk_M (8, 198, 1, 118, 0) := ⟨_, rfl, xq_wd_in (pl := 716) (by decide +kernel)⟩
set_option maxRecDepth 100000 in
theorem xl_198 : xq_xm xk_M (8, 201, 1, 123, 0) := ⟨_, rfl, xq_wd_in (pl := 720) (by decide +kernel)⟩
set_option maxRecDepth 100000 in
theorem xl_199 : xq_xm xk_M (8, 279, 1, 5, 0) := ⟨_, rfl, xq_wd_in (pl := 724) (by decide +kernel)⟩
set_option maxRecDepth 100000 in
theorem xl_200 : xq_xm xk_M (1, 21, 1, 6, 0) := ⟨_, rfl, xq_wd_in (pl := 728) (by decide +kernel)⟩
set_option maxRecDepth 100000 in
theorem xl_201 : xq_xm xk_M (8, 326, 1, 124, 0) := ⟨_, rfl, xq_wd_in (pl := 732) (by decide +kernel)⟩
set_option maxRecDepth 100000 in
theorem xl_202 : xq_xm xk_M (8, 330, 1, 57, 0) := ⟨_, rfl, xq_wd_in (pl := 735) (by decide +kernel)⟩
set_option maxRecDepth 100000 in
theorem xl_203 : xq_xm xk_M (6, 38, 1, 216, 0) := ⟨_, rfl, xq_wd_in (pl := 739) (by decide +kernel)⟩
set_option maxRecDepth 100000 in
theorem xl_204 : xq_xm xk_M (12, 265, 9, 1431655765, 0) := xq_wd_in (pl := 742) (by decide +kernel)
set_option maxRecDepth 100000 in
theorem xl_205 : xq_xm xk_M (12, 266, 9, 858993459, 0) := xq_wd_in (pl := 743) (by decide +kernel)
set_option maxRecDepth 100000 in
theorem xl_206 : xq_xm xk_M (12, 267, 9, 252645135, 0) := xq_wd_in (pl := 744) (by decide +kernel)
set_option maxRecDepth 100000 in
theorem xl_207 : xq_xm xk_M (6, 44, 1, 59, 0) := ⟨_, rfl, xq_wd_in (pl := 745) (by decide +kernel)⟩
set_option maxRecDepth 100000 in
theorem xl_208 : xq_xm xk_M (6, 60, 1, 14, 0) := ⟨_, rfl, xq_wd_in (pl := 749) (by decide +kernel)⟩
set_option maxRecDepth 100000 in
theorem xl_209 : xq_xm xk_M (6, 48, 1, 56, 0) := ⟨_, rfl, xq_wd_in (pl := 753) (by decide +kernel)⟩
set_option maxRecDepth 100000 in
theorem xl_210 : xq_xm xk_M (6, 52, 1, 63, 0) := ⟨_, rfl, xq_wd_in (pl := 754) (by decide +kernel)⟩
set_option maxRecDepth 100000 in
theorem xl_211 : xq_xm xk_M (8, 334, 1, 58, 0) := ⟨_, rfl, xq_wd_in (pl := 755) (by decide +kernel)⟩
set_option maxRecDepth 100000 in
theorem xl_212 : xq_xm xk_M (6, 56, 1, 62, 0) := ⟨_, rfl, xq_wd_in (pl := 759) (by decide +kernel)⟩
set_option maxRecDepth 100000 in
theorem xl_213 : xq_xm xk_M (6, 65, 1, 60, 0) := ⟨_, rfl, xq_wd_in (pl := 763) (by decide +kernel)⟩
set_option maxRecDepth 100000 in
theorem xl_214 : xq_xm xk_M (6, 72, 1, 16, 0) := ⟨_, rfl, xq_wd_in (pl := 767) (by decide +kernel)⟩
set_option maxRecDepth 100000 in
theorem xl_215 : xq_xm xk_M (6, 76, 1, 17, 0) := ⟨_, rfl, xq_wd_in (pl := 771) (by decide +kernel)⟩
set_option maxRecDepth 100000 in
theorem xl_216 : xq_xm xk_M (6, 79, 1, 15, 0) := ⟨_, rfl, xq_wd_in (pl := 775) (by decide +kernel)⟩
set_option maxRecDepth 100000 in
theorem xl_217 : xq_xm xk_M (11, 83, 1, 87, 0) := ⟨_, rfl, xq_wd_in (pl := 779) (by decide +kernel)⟩
set_option maxRecDepth 100000 in
theorem xl_218 : xq_xm xk_M (8, 205, 1, 4, 0) := ⟨_, rfl, xq_wd_in (pl := 783) (by decide +kernel)⟩
set_option maxRecDepth 100000 in
theorem xl_219 : xq_xm xk_M (11, 87, 1, 88, 0) := ⟨_, rfl, xq_wd_in (pl := 787) (by decide +kernel)⟩
set_option maxRecDepth 100000 in
theorem xl_220 : xq_xm xk_M (11, 91, 1, 89, 0) := ⟨_, rfl, xq_wd_in (pl := 791) (by decide +kernel)⟩
set_option maxRecDepth 100000 in
theorem xl_221 : xq_xm xk_M (11, 95, 1, 90, 0) := ⟨_, rfl, xq_wd_in (pl := 795) (by decide +kernel)⟩
set_option maxRecDepth 100000 in
theorem xl_222 : xq_xm xk_M (8, 208, 1, 117, 0) := ⟨_, rfl, xq_wd_in (pl := 799) (by decide +kernel)⟩
set_option maxRecDepth 100000 in
theorem xl_223 : xq_xm xk_M (8, 235, 1, 8, 0) := ⟨_, rfl, xq_wd_in (pl := 803) (by decide +kernel)⟩
set_option maxRecDepth 100000 in
theorem xl_224 : xq_xm xk_M (8, 211, 1, 125, 0) := ⟨_, rfl, xq_wd_in (pl := 807) (by decide +kernel)⟩
set_option maxRecDepth 100000 in
theorem xl_225 : xq_xm xk_M (11, 99, 1, 91, 0) := ⟨_, rfl, xq_wd_in (pl := 811) (by decide +kernel)⟩
set_option maxRecDepth 100000 in
theorem xl_226 : xq_xm xk_M (8, 215, 1, 216, 0) := ⟨_, rfl, xq_wd_in (pl := 815) (by decide +kernel)⟩
set_option maxRecDepth 100000 in
theorem xl_227 : xq_xm xk_M (11, 103, 1, 92, 0) := ⟨_, rfl, xq_wd_in (pl := 816) (by decide +kernel)⟩
set_option maxRecDepth 100000 in
theorem xl_228 : xq_xm xk_M (11, 107, 1, 93, 0) := ⟨_, rfl, xq_wd_in (pl := 820) (by decide +kernel)⟩
set_option maxRecDepth 100000 in
theorem xl_229 : xq_xm xk_M (8, 220, 1, 126, 0) := ⟨_, rfl, xq_wd_in (pl := 824) (by decide +kernel)⟩
set_option maxRecDepth 100000 in
theorem xl_230 : xq_xm xk_M (11, 111, 1, 94, 0) := ⟨_, rfl, xq_wd_in (pl := 828) (by decide +kernel)⟩
set_option maxRecDepth 100000 in
theorem xl_231 : xq_xm xk_M (8, 223, 1, 19, 0) := ⟨_, rfl, xq_wd_in (pl := 832) (by decide +kernel)⟩
set_option maxRecDepth 100000 in
theorem xl_232 : xq_xm xk_M (3, 48, 1, 55, 0) := ⟨_, rfl, xq_wd_in (pl := 836) (by decide +kernel)⟩
set_option maxRecDepth 100000 in
theorem xl_233 : xq_xm xk_M (3, 61, 1, 217, 0) := ⟨_, rfl, xq_wd_in (pl := 837) (by decide +kernel)⟩
set_option maxRecDepth 100000 in
theorem xl_234 : xq_xm xk_M (8, 226, 1, 20, 0) := ⟨_, rfl, xq_wd_in (pl := 838) (by decide +kernel)⟩
set_option maxRecDepth 100000 in
theorem xl_235 : xq_xm xk_M (3, 76, 1, 5, 0) := ⟨_, rfl, xq_wd_in (pl := 842) (by decide +kernel)⟩
set_option maxRecDepth 100000 in
theorem xl_236 : xq_xm xk_M (3, 86, 1, 25, 0) := ⟨_, rfl, xq_wd_in (pl := 843) (by decide +kernel)⟩
set_option maxRecDepth 100000 in
theorem xl_237 : xq_xm xk_M (3, 135, 1, 21, 0) := ⟨_, rfl, xq_wd_in (pl := 847) (by decide +kernel)⟩
set_option maxRecDepth 100000 in
theorem xl_238 : xq_xm xk_M (3, 90, 1, 22, 0) := ⟨_, rfl, xq_wd_in (pl := 852) (by decide +kernel)⟩
set_option maxRecDepth 100000 in
theorem xl_239 : xq_xm xk_M (3, 96, 1, 8, 0) := ⟨_, rfl, xq_wd_in (pl := 856) (by decide +kernel)⟩
set_option maxRecDepth 100000 in
theorem xl_240 : xq_xm xk_M (3, 102, 1, 216, 0) := ⟨_, rfl, xq_wd_in (pl := 857) (by decide +kernel)⟩
set_option maxRecDepth 100000 in
theorem xl_241 : xq_xm xk_M (3, 108, 1, 23, 0) := ⟨_, rfl, xq_wd_in (pl := 858) (by decide +kernel)⟩
set_option maxRecDepth 100000 in
theorem xl_242 : xq_xm xk_M (3, 112, 1, 61, 0) := ⟨_, rfl, xq_wd_in (pl := 862) (by decide +kernel)⟩
set_option maxRecDepth 100000 in
theorem xl_243 : xq_xm xk_M (3, 116, 1, 59, 0) := ⟨_, rfl, xq_wd_in (pl := 866) (by decide +kernel)⟩
set_option maxRecDepth 100000 in
theorem xl_244 : xq_xm xk_M (3, 120, 1, 24, 0) := ⟨_, rfl, xq_wd_in (pl := 867) (by decide +kernel)⟩
set_option maxRecDepth 100000 in
theorem xl_245 : xq_xm xk_M (3, 127, 1, 56, 0) := ⟨_, rfl, xq_wd_in (pl := 871) (by decide +kernel)⟩
set_option maxRecDepth 100000 in
theorem xl_246 : xq_xm xk_M (3, 131, 1, 63, 0) := ⟨_, rfl, xq_wd_in (pl := 872) (by decide +kernel)⟩
set_option maxRecDepth 100000 in
theorem xl_247 : xq_xm xk_M (3, 123, 1, 62, 0) := ⟨_, rfl, xq_wd_in (pl := 873) (by decide +kernel)⟩
set_option maxRecDepth 100000 in
theorem xl_248 : xq_xm xk_M (11, 116, 1, 95, 0) := ⟨_, rfl, xq_wd_in (pl := 874) (by decide +kernel)⟩
set_option maxRecDepth 100000 in
theorem xl_249 : xq_xm xk_M (11, 120, 1, 96, 0) := ⟨_, rfl, xq_wd_in (pl := 878) (by decide +kernel)⟩
set_option maxRecDepth 100000 in
theorem xl_250 : xq_xm xk_M (11, 124, 1, 97, 0) := ⟨_, rfl, xq_wd_in (pl := 882) (by decide +kernel)⟩
set_option maxRecDepth 100000 in
theorem xl_251 : xq_xm xk_M (11, 128, 1, 98, 0) := ⟨_, rfl, xq_wd_in (pl := 886) (by decide +kernel)⟩
set_option maxRecDepth 100000 in
theorem xl_252 : xq_xm xk_M (8, 238, 1, 127, 0) := ⟨_, rfl, xq_wd_in (pl := 890) (by decide +kernel)⟩
set_option maxRecDepth 100000 in
theorem xl_253 : xq_xm xk_M (8, 300, 11, 0, 0) := xq_wd_in (pl := 894) (by decide +kernel)
set_option maxRecDepth 100000 in
theorem xl_254 : xq_xm xk_M (11, 132, 1, 99, 0) := ⟨_, rfl, xq_wd_in (pl := 895) (by decide +kernel)⟩
set_option maxRecDepth 100000 in
theorem xl_255 : xq_xm xk_M (8, 242, 10, 4611686018427387904, 1) := xq_wd_in (pl := 899) (by decide +kernel)
set_option maxRecDepth 100000 in
theorem xl_256 : xq_xm xk_M (8, 244, 1, 128, 0) := ⟨_, rfl, xq_wd_in (pl := 900) (by decide +kernel)⟩
set_option maxRecDepth 100000 in
theorem xl_257 : xq_xm xk_M (8, 338, 10, 1000000000, 0) := xq_wd_in (pl := 904) (by decide +kernel)
set_option maxRecDepth 100000 in
theorem xl_258 : xq_xm xk_M (8, 340, 10, 100, 0) := xq_wd_in (pl := 905) (by decide +kernel)
set_option maxRecDepth 100000 in
theorem xl_259 : xq_xm xk_M (11, 137, 1, 100, 0) := ⟨_, rfl, xq_wd_in (pl := 906) (by decide +kernel)⟩
set_option maxRecDepth 100000 in
theorem xl_260 : xq_xm xk_M (8, 248, 10, 1000000, 0) := xq_wd_in (pl := 910) (by decide +kernel)
set_option maxRecDepth 100000 in
theorem xl_261 : xq_xm xk_M (11, 141, 1, 101, 0) := ⟨_, rfl, xq_wd_in (pl := 911) (by decide +kernel)⟩
set_option maxRecDepth 100000 in
theorem xl_262 : xq_xm xk_M (8, 250, 10, 1, 1) := xq_wd_in (pl := 915) (by decide +kernel)
set_option maxRecDepth 100000 in
theorem xl_263 : xq_xm xk_M (11, 145, 1, 102, 0) := ⟨_, rfl, xq_wd_in (pl := 916) (by decide +kernel)⟩
set_option maxRecDepth 100000 in
theorem xl_264 : xq_xm xk_M (8, 252, 1, 113, 0) := ⟨_, rfl, xq_wd_in (pl := 920) (by decide +kernel)⟩
set_option maxRecDepth 100000 in
theorem xl_265 : xq_xm xk_M (8, 325, 9, 99999, 0) := xq_wd_in (pl := 923) (by decide +kernel)
set_option maxRecDepth 100000 in
theorem xl_266 : xq_xm xk_M (8, 255, 1, 114, 0) := ⟨_, rfl, xq_wd_in (pl := 924) (by decide +kernel)⟩
set_option maxRecDepth 100000 in
theorem xl_267 : xq_xm xk_M (8, 258, 1, 129, 0) := ⟨_, rfl, xq_wd_in (pl := 927) (by decide +kernel)⟩
set_option maxRecDepth 100000 in
theorem xl_268 : xq_xm xk_M (8, 342, 10, 48271, 0) := xq_wd_in (pl := 931) (by decide +kernel)
set_option maxRecDepth 100000 in
theorem xl_269 : xq_xm xk_M (8, 344, 10, 2147483647, 0) := xq_wd_in (pl := 932) (by decide +kernel)
set_option maxRecDepth 100000 in
theorem xl_270 : xq_xm xk_M (8, 346, 1, 61, 0) := ⟨_, rfl, xq_wd_in (pl := 933) (by decide +kernel)⟩
set_option maxRecDepth 100000 in
theorem xl_271 : xq_xm xk_M (11, 149, 1, 103, 0) := ⟨_, rfl, xq_wd_in (pl := 934) (by decide +kernel)⟩
set_option maxRecDepth 100000 in
theorem xl_272 : xq_xm xk_M (8, 264, 1, 130, 0) := ⟨_, rfl, xq_wd_in (pl := 938) (by decide +kernel)⟩
set_option maxRecDepth 100000 in
theorem xl_273 : xq_xm xk_M (8, 267, 11, 1, 0) := xq_wd_in (pl := 941) (by decide +kernel)
set_option maxRecDepth 100000 in
theorem xl_274 : xq_xm xk_M (11, 154, 1, 104, 0) := ⟨_, rfl, xq_wd_in (pl := 944) (by decide +kernel)⟩
set_option maxRecDepth 100000 in
theorem xl_275 : xq_xm xk_M (8, 289, 4, 0, 0) := xq_wd_in (pl := 948) (by decide +kernel)
set_option maxRecDepth 100000 in
theorem xl_276 : xq_xm xk_M (11, 158, 1, 105, 0) := ⟨_, rfl, xq_wd_in (pl := 949) (by decide +kernel)⟩
set_option maxRecDepth 100000 in
theorem xl_277 : xq_xm xk_M (8, 296, 1, 6, 0) := ⟨_, rfl, xq_wd_in (pl := 953) (by decide +kernel)⟩
set_option maxRecDepth 100000 in
theorem xl_278 : xq_xm xk_M (11, 162, 1, 106, 0) := ⟨_, rfl, xq_wd_in (pl := 954) (by decide +kernel)⟩
set_option maxRecDepth 100000 in
theorem xl_279 : xq_xm xk_M (8, 303, 1, 49, 0) := ⟨_, rfl, xq_wd_in (pl := 958) (by decide +kernel)⟩
set_option maxRecDepth 100000 in
theorem xl_280 : xq_xm xk_M (5, 22, 1, 217, 0) := ⟨_, rfl, xq_wd_in (pl := 962) (by decide +kernel)⟩
set_option maxRecDepth 100000 in
theorem xl_281 : xq_xm xk_M (11, 166, 1, 107, 0) := ⟨_, rfl, xq_wd_in (pl := 963) (by decide +kernel)⟩
set_option maxRecDepth 100000 in
theorem xl_282 : xq_xm xk_M (8, 307, 1, 50, 0) := ⟨_, rfl, xq_wd_in (pl := 967) (by decide +kernel)⟩
set_option maxRecDepth 100000 in
theorem xl_283 : xq_xm xk_M (8, 310, 1, 53, 0) := ⟨_, rfl, xq_wd_in (pl := 968) (by decide +kernel)⟩
set_option maxRecDepth 100000 in
theorem xl_284 : xq_xm xk_M (11, 170, 1, 108, 0) := ⟨_, rfl, xq_wd_in (pl := 972) (by decide +kernel)⟩
set_option maxRecDepth 100000 in
theorem xl_285 : xq_xm xk_M (8, 315, 1, 51, 0) := ⟨_, rfl, xq_wd_in (pl := 976) (by decide +kernel)⟩
set_option maxRecDepth 100000 in
theorem xl_286 : xq_xm xk_M (11, 174, 1, 109, 0) := ⟨_, rfl, xq_wd_in (pl := 980) (by decide +kernel)⟩
set_option maxRecDepth 100000 in
theorem xl_287 : xq_xm xk_M (11, 178, 1, 110, 0) := ⟨_, rfl, xq_wd_in (pl := 984) (by decide +kernel)⟩
set_option maxRecDepth 100000 in
theorem xl_288 : xq_xm xk_M (8, 322, 1, 13, 0) := ⟨_, rfl, xq_wd_in (pl := 988) (by decide +kernel)⟩
set_option maxRecDepth 100000 in
theorem xl_289 : xq_xm xk_M (11, 17, 1, 132, 0) := ⟨_, rfl, xq_wd_in (pl := 994) (by decide +kernel)⟩
set_option maxRecDepth 100000 in
theorem xl_290 : xq_xm xk_M (9, 3, 1, 131, 0) := ⟨_, rfl, xq_wd_in (pl := 998) (by decide +kernel)⟩
set_option maxRecDepth 100000 in
theorem xl_291 : xq_xm xk_M (11, 22, 1, 133, 0) := ⟨_, rfl, xq_wd_in (pl := 1001) (by decide +kernel)⟩
set_option maxRecDepth 100000 in
theorem xl_292 : xq_xm xk_M (11, 27, 1, 134, 0) := ⟨_, rfl, xq_wd_in (pl := 1005) (by decide +kernel)⟩
set_option maxRecDepth 100000 in
theorem xl_293 : xq_xm xk_M (11, 32, 1, 136, 0) := ⟨_, rfl, xq_wd_in (pl := 1009) (by decide +kernel)⟩
set_option maxRecDepth 100000 in
theorem xl_294 : xq_xm xk_M (9, 36, 1, 135, 0) := ⟨_, rfl, xq_wd_in (pl := 1013) (by decide +kernel)⟩
set_option maxRecDepth 100000 in
theorem xl_295 : xq_xm xk_M (11, 37, 1, 153, 0) := ⟨_, rfl, xq_wd_in (pl := 1018) (by decide +kernel)⟩
set_option maxRecDepth 100000 in
theorem xl_296 : xq_xm xk_M (9, 137, 1, 152, 0) := ⟨_, rfl, xq_wd_in (pl := 1022) (by decide +kernel)⟩
set_option maxRecDepth 100000 in
theorem xl_297 : xq_xm xk_M (9, 131, 1, 141, 0) := ⟨_, rfl, xq_wd_in (pl := 1026) (by decide +kernel)⟩
set_option maxRecDepth 100000 in
theorem xl_298 : xq_xm xk_M (9, 43, 1, 137, 0) := ⟨_, rfl, xq_wd_in (pl := 1030) (by decide +kernel)⟩
set_option maxRecDepth 100000 in
theorem xl_299 : xq_xm xk_M (9, 66, 1, 139, 0) := ⟨_, rfl, xq_wd_in (pl := 1034) (by decide +kernel)⟩
set_option maxRecDepth 100000 in
theorem xl_300 : xq_xm xk_M (9, 63, 1, 138, 0) := ⟨_, rfl, xq_wd_in (pl := 1038) (by decide +kernel)⟩
set_option maxRecDepth 100000 in
theorem xl_301 : xq_xm xk_M (9, 70, 1, 140, 0) := ⟨_, rfl, xq_wd_in (pl := 1042) (by decide +kernel)⟩
set_option maxRecDepth 100000 in
theorem xl_302 : xq_xm xk_M (9, 101, 1, 143, 0) := ⟨_, rfl, xq_wd_in (pl := 1046) (by decide +kernel)⟩
set_option maxRecDepth 100000 in
theorem xl_303 : xq_xm xk_M (9, 134, 1, 151, 0) := ⟨_, rfl, xq_wd_in (pl := 1050) (by decide +kernel)⟩
set_option maxRecDepth 100000 in
theorem xl_304 : xq_xm xk_M (9, 95, 1, 144, 0) := ⟨_, rfl, xq_wd_in (pl := 1054) (by decide +kernel)⟩
set_option maxRecDepth 100000 in
theorem xl_305 : xq_xm xk_M (9, 111, 1, 146, 0) := ⟨_, rfl, xq_wd_in (pl := 1058) (by decide +kernel)⟩
set_option maxRecDepth 100000 in
theorem xl_306 : xq_xm xk_M (9, 88, 1, 145, 0) := ⟨_, rfl, xq_wd_in (pl := 1062) (by decide +kernel)⟩
set_option maxRecDepth 100000 in
theorem xl_307 : xq_xm xk_M (9, 98, 1, 142, 0) := ⟨_, rfl, xq_wd_in (pl := 1065) (by decide +kernel)⟩
set_option maxRecDepth 100000 in
theorem xl_308 : xq_xm xk_M (9, 117, 1, 150, 0) := ⟨_, rfl, xq_wd_in (pl := 1069) (by decide +kernel)⟩
set_option maxRecDepth 100000 in
theorem xl_309 : xq_xm xk_M (9, 114, 1, 147, 0) := ⟨_, rfl, xq_wd_in (pl := 1073) (by decide +kernel)⟩
set_option maxRecDepth 100000 in
theorem xl_310 : xq_xm xk_M (9, 124, 1, 148, 0) := ⟨_, rfl, xq_wd_in (pl := 1077) (by decide +kernel)⟩
set_option maxRecDepth 100000 in
theorem xl_311 : xq_xm xk_M (9, 128, 1, 149, 0) := ⟨_, rfl, xq_wd_in (pl := 1081) (by decide +kernel)⟩
set_option maxRecDepth 100000 in
theorem xl_312 : xq_xm xk_M (11, 41, 1, 154, 0) := ⟨_, rfl, xq_wd_in (pl := 1085) (by decide +kernel)⟩
set_option maxRecDepth 100000 in
theorem xl_313 : xq_xm xk_M (11, 10, 6, 9, 0) := ⟨(RX9, TX9, 55), rfl, xq_wd_in (pl := 1089) (by decide +kernel), xq_wd_in (pl := 1016) (by decide +kernel), xq_wd_in (pl := 86) (by decide +kernel)⟩
set_option maxRecDepth 100000 in
theorem xl_314 : xq_xm xk_M (11, 12, 1, 155, 0) := ⟨_, rfl, xq_wd_in (pl := 1090) (by decide +kernel)⟩
set_option maxRecDepth 100000 in
theorem xl_315 : xq_xm xk_M (9, 140, 3, 0, 0) := xq_wd_in (pl := 1093) (by decide +kernel)
set_option maxRecDepth 100000 in
theorem xl_316 : xq_xm xk_M (9, 7, 0, 9, 0) := ⟨(RX9, TX9, 55), rfl, Nat.lt_of_lt_of_le (Nat.lt_succ_self _) (Nat.le_of_ble_eq_true rfl), rfl, xq_wd_in (pl := 1094) (by decide +kernel)⟩
set_option maxRecDepth 100000 in
theorem xl_317 : xq_xm xk_M (9, 11, 0, 9, 1) := ⟨(RX9, TX9, 55), rfl, Nat.lt_of_lt_of_le (Nat.lt_succ_self _) (Nat.le_of_ble_eq_true rfl), rfl, xq_wd_in (pl := 1095) (by decide +kernel)⟩
set_option maxRecDepth 100000 in
theorem xl_318 : xq_xm xk_M (9, 18, 0, 9, 2) := ⟨(RX9, TX9, 55), rfl, Nat.lt_of_lt_of_le (Nat.lt_succ_self _) (Nat.le_of_ble_eq_true rfl), rfl, xq_wd_in (pl := 1096) (by decide +kernel)⟩
set_option maxRecDepth 100000 in
theorem xl_319 : xq_xm xk_M (9, 145, 0, 9, 3) := ⟨(RX9, TX9, 55), rfl, Nat.lt_of_lt_of_le (Nat.lt_succ_self _) (Nat.le_of_ble_eq_true rfl), rfl, xq_wd_in (pl := 1097) (by decide +kernel)⟩
set_option maxRecDepth 100000 in
theorem xl_320 : xq_xm xk_M (9, 14, 0, 9, 4) := ⟨(RX9, TX9, 55), rfl, Nat.lt_of_lt_of_le (Nat.lt_succ_self _) (Nat.le_of_ble_eq_true rfl), rfl, xq_wd_in (pl := 1098) (by decide +kernel)⟩
set_option maxRecDepth 100000 in
theorem xl_321 : xq_xm xk_M (9, 148, 0, 9, 5) := ⟨(RX9, TX9, 55), rfl, Nat.lt_of_lt_of_le (Nat.lt_succ_self _) (Nat.le_of_ble_eq_true rfl), rfl, xq_wd_in (pl := 1099) (by decide +kernel)⟩
set_option maxRecDepth 100000 in
theorem xl_322 : xq_xm xk_M (9, 151, 0, 9, 6) := ⟨(RX9, TX9, 55), rfl, Nat.lt_of_lt_of_le (Nat.lt_succ_self _) (Nat.le_of_ble_eq_true rfl), rfl, xq_wd_in (pl := 1100) (by decide +kernel)⟩
set_option maxRecDepth 100000 in
theorem xl_323 : xq_xm xk_M (9, 154, 0, 9, 7) := ⟨(RX9, TX9, 55), rfl, Nat.lt_of_lt_of_le (Nat.lt_succ_self _) (Nat.le_of_ble_eq_true rfl), rfl, xq_wd_in (pl := 1101) (by decide +kernel)⟩
set_option maxRecDepth 100000 in
theorem xl_324 : xq_xm xk_M (9, 157, 0, 9, 8) := ⟨(RX9, TX9, 55), rfl, Nat.lt_of_lt_of_le (Nat.lt_succ_self _) (Nat.le_of_ble_eq_true rfl), rfl, xq_wd_in (pl := 1102) (by decide +kernel)⟩
set_option maxRecDepth 100000 in
theorem xl_325 : xq_xm xk_M (9, 21, 0, 9, 9) := ⟨(RX9, TX9, 55), rfl, Nat.lt_of_lt_of_le (Nat.lt_succ_self _) (Nat.le_of_ble_eq_true rfl), rfl, xq_wd_in (pl := 1103) (by decide +kernel)⟩
set_option maxRecDepth 100000 in
theorem xl_326 : xq_xm xk_M (9, 160, 0, 9, 10) := ⟨(RX9, TX9, 55), rfl, Nat.lt_of_lt_of_le (Nat.lt_succ_self _) (Nat.le_of_ble_eq_true rfl), rfl, xq_wd_in (pl := 1104) (by decide +kernel)⟩
set_option maxRecDepth 100000 in
theorem xl_327 : xq_xm xk_M (9, 163, 0, 9, 11) := ⟨(RX9, TX9, 55), rfl, Nat.lt_of_lt_of_le (Nat.lt_succ_self _) (Nat.le_of_ble_eq_true rfl), rfl, xq_wd_in (pl := 1105) (by decide +kernel)⟩
set_option maxRecDepth 100000 in
theorem xl_328 : xq_xm xk_M (9, 166, 0, 9, 12) := ⟨(RX9, TX9, 55), rfl, Nat.lt_of_lt_of_le (Nat.lt_succ_self _) (Nat.le_of_ble_eq_true rfl), rfl, xq_wd_in (pl := 1106) (by decide +kernel)⟩
set_option maxRecDepth 100000 in
theorem xl_329 : xq_xm xk_M (9, 33, 0, 9, 13) := ⟨(RX9, TX9, 55), rfl, Nat.lt_of_lt_of_le (Nat.lt_succ_self _) (Nat.le_of_ble_eq_true rfl), rfl, xq_wd_in (pl := 1107) (by decide +kernel)⟩
set_option maxRecDepth 100000 in
theorem xl_330 : xq_xm xk_M (9, 30, 0, 9, 14) := ⟨(RX9, TX9, 55), rfl, Nat.lt_of_lt_of_le (Nat.lt_succ_self _) (Nat.le_of_ble_eq_true rfl), rfl, xq_wd_in (pl := 1108) (by decide +kernel)⟩
set_option maxRecDepth 100000 in
theorem xl_331 : xq_xm xk_M (9, 24, 0, 9, 15) := ⟨(RX9, TX9, 55), rfl, Nat.lt_of_lt_of_le (Nat.lt_succ_self _) (Nat.le_of_ble_eq_true rfl), rfl, xq_wd_in (pl := 1109) (by decide +kernel)⟩
set_option maxRecDepth 100000 in
theorem xl_332 : xq_xm xk_M (9, 27, 0, 9, 16) := ⟨(RX9, TX9, 55), rfl, Nat.lt_of_lt_of_le (Nat.lt_succ_self _) (Nat.le_of_ble_eq_true rfl), rfl, xq_wd_in (pl := 1110) (by decide +kernel)⟩
set_option maxRecDepth 100000 in
theorem xl_333 : xq_xm xk_M (9, 73, 0, 9, 17) := ⟨(RX9, TX9, 55), rfl, Nat.lt_of_lt_of_le (Nat.lt_succ_self _) (Nat.le_of_ble_eq_true rfl), rfl, xq_wd_in (pl := 1111) (by decide +kernel)⟩
set_option maxRecDepth 100000 in
theorem xl_334 : xq_xm xk_M (9, 121, 0, 9, 18) := ⟨(RX9, TX9, 55), rfl, Nat.lt_of_lt_of_le (Nat.lt_succ_self _) (Nat.le_of_ble_eq_true rfl), rfl, xq_wd_in (pl := 1112) (by decide +kernel)⟩
set_option maxRecDepth 100000 in
theorem xl_335 : xq_xm xk_M (9, 40, 0, 9, 19) := ⟨(RX9, TX9, 55), rfl, Nat.lt_of_lt_of_le (Nat.lt_succ_self _) (Nat.le_of_ble_eq_true rfl), rfl, xq_wd_in (pl := 1113) (by decide +kernel)⟩
set_option maxRecDepth 100000 in
theorem xl_336 : xq_xm xk_M (9, 47, 0, 9, 20) := ⟨(RX9, TX9, 55), rfl, Nat.lt_of_lt_of_le (Nat.lt_succ_self _) (Nat.le_of_ble_eq_true rfl), rfl, xq_wd_in (pl := 1114) (by decide +kernel)⟩
set_option maxRecDepth 100000 in
theorem xl_337 : xq_xm xk_M (9, 60, 0, 9, 21) := ⟨(RX9, TX9, 55), rfl, Nat.lt_of_lt_of_le (Nat.lt_succ_self _) (Nat.le_of_ble_eq_true rfl), rfl, xq_wd_in (pl := 1115) (by decide +kernel)⟩
set_option maxRecDepth 100000 in
theorem xl_338 : xq_xm xk_M (9, 53, 0, 9, 22) := ⟨(RX9, TX9, 55), rfl, Nat.lt_of_lt_of_le (Nat.lt_succ_self _) (Nat.le_of_ble_eq_true rfl), rfl, xq_wd_in (pl := 1116) (by decide +kernel)⟩
set_option maxRecDepth 100000 in
theorem xl_339 : xq_xm xk_M (9, 56, 0, 9, 23) := ⟨(RX9, TX9, 55), rfl, Nat.lt_of_lt_of_le (Nat.lt_succ_self _) (Nat.le_of_ble_eq_true rfl), rfl, xq_wd_in (pl := 1117) (by decide +kernel)⟩
set_option maxRecDepth 100000 in
theorem xl_340 : xq_xm xk_M (9, 50, 0, 9, 24) := ⟨(RX9, TX9, 55), rfl, Nat.lt_of_lt_of_le (Nat.lt_succ_self _) (Nat.le_of_ble_eq_true rfl), rfl, xq_wd_in (pl := 1118) (by decide +kernel)⟩
set_option maxRecDepth 100000 in
theorem xl_341 : xq_xm xk_M (9, 85, 0, 9, 25) := ⟨(RX9, TX9, 55), rfl, Nat.lt_of_lt_of_le (Nat.lt_succ_self _) (Nat.le_of_ble_eq_true rfl), rfl, xq_wd_in (pl := 1119) (by decide +kernel)⟩
set_option maxRecDepth 100000 in
theorem xl_342 : xq_xm xk_M (9, 82, 0, 9, 26) := ⟨(RX9, TX9, 55), rfl, Nat.lt_of_lt_of_le (Nat.lt_succ_self _) (Nat.le_of_ble_eq_true rfl), rfl, xq_wd_in (pl := 1120) (by decide +kernel)⟩
set_option maxRecDepth 100000 in
theorem xl_343 : xq_xm xk_M (9, 92, 0, 9, 27) := ⟨(RX9, TX9, 55), rfl, Nat.lt_of_lt_of_le (Nat.lt_succ_self _) (Nat.le_of_ble_eq_true rfl), rfl, xq_wd_in (pl := 1121) (by decide +kernel)⟩
set_option maxRecDepth 100000 in
theorem xl_344 : xq_xm xk_M (9, 108, 0, 9, 28) := ⟨(RX9, TX9, 55), rfl, Nat.lt_of_lt_of_le (Nat.lt_succ_self _) (Nat.le_of_ble_eq_true rfl), rfl, xq_wd_in (pl := 1122) (by decide +kernel)⟩
set_option maxRecDepth 100000 in
theorem xl_345 : xq_xm xk_M (9, 104, 0, 9, 29) := ⟨(RX9, TX9, 55), rfl, Nat.lt_of_lt_of_le (Nat.lt_succ_self _) (Nat.le_of_ble_eq_true rfl), rfl, xq_wd_in (pl := 1123) (by decide +kernel)⟩
set_option maxRecDepth 100000 in
theorem xl_346 : xq_xm xk_M (9, 76, 0, 9, 30) := ⟨(RX9, TX9, 55), rfl, Nat.lt_of_lt_of_le (Nat.lt_succ_self _) (Nat.le_of_ble_eq_true rfl), rfl, xq_wd_in (pl := 1124) (by decide +kernel)⟩
set_option maxRecDepth 100000 in
theorem xl_347 : xq_xm xk_M (9, 79, 0, 9, 31) := ⟨(RX9, TX9, 55), rfl, Nat.lt_of_lt_of_le (Nat.lt_succ_self _) (Nat.le_of_ble_eq_true rfl), rfl, xq_wd_in (pl := 1125) (by decide +kernel)⟩
set_option maxRecDepth 100000 in
theorem xl_348 : xq_xm xk_M (9, 169, 0, 9, 32) := ⟨(RX9, TX9, 55), rfl, Nat.lt_of_lt_of_le (Nat.lt_succ_self _) (Nat.le_of_ble_eq_true rfl), rfl, xq_wd_in (pl := 1126) (by decide +kernel)⟩
set_option maxRecDepth 100000 in
theorem xl_349 : xq_xm xk_M (9, 172, 0, 9, 33) := ⟨(RX9, TX9, 55), rfl, Nat.lt_of_lt_of_le (Nat.lt_succ_self _) (Nat.le_of_ble_eq_true rfl), rfl, xq_wd_in (pl := 1127) (by decide +kernel)⟩
set_option maxRecDepth 100000 in
theorem xl_350 : xq_xm xk_M (9, 175, 0, 9, 34) := ⟨(RX9, TX9, 55), rfl, Nat.lt_of_lt_of_le (Nat.lt_succ_self _) (Nat.le_of_ble_eq_true rfl), rfl, xq_wd_in (pl := 1128) (by decide +kernel)⟩
set_option maxRecDepth 100000 in
theorem xl_351 : xq_xm xk_M (9, 228, 0, 9, 35) := ⟨(RX9, TX9, 55), rfl, Nat.lt_of_lt_of_le (Nat.lt_succ_self _) (Nat.le_of_ble_eq_true rfl), rfl, xq_wd_in (pl := 1129) (by decide +kernel)⟩
set_option maxRecDepth 100000 in
theorem xl_352 : xq_xm xk_M (9, 231, 0, 9, 36) := ⟨(RX9, TX9, 55), rfl, Nat.lt_of_lt_of_le (Nat.lt_succ_self _) (Nat.le_of_ble_eq_true rfl), rfl, xq_wd_in (pl := 1130) (by decide +kernel)⟩
set_option maxRecDepth 100000 in
theorem xl_353 : xq_xm xk_M (9, 178, 0, 9, 37) := ⟨(RX9, TX9, 55), rfl, Nat.lt_of_lt_of_le (Nat.lt_succ_self _) (Nat.le_of_ble_eq_true rfl), rfl, xq_wd_in (pl := 1131) (by decide +kernel)⟩
set_option maxRecDepth 100000 in
theorem xl_354 : xq_xm xk_M (9, 181, 0, 9, 38) := ⟨(RX9, TX9, 55), rfl, Nat.lt_of_lt_of_le (Nat.lt_succ_self _) (Nat.le_of_ble_eq_true rfl), rfl, xq_wd_in (pl := 1132) (by decide +kernel)⟩
set_option maxRecDepth 100000 in
theorem xl_355 : xq_xm xk_M (9, 184, 0, 9, 39) := ⟨(RX9, TX9, 55), rfl, Nat.lt_of_lt_of_le (Nat.lt_succ_self _) (Nat.le_of_ble_eq_true rfl), rfl, xq_wd_in (pl := 1133) (by decide +kernel)⟩
set_option maxRecDepth 100000 in
theorem xl_356 : xq_xm xk_M (9, 187, 0, 9, 40) := ⟨(RX9, TX9, 55), rfl, Nat.lt_of_lt_of_le (Nat.lt_succ_self _) (Nat.le_of_ble_eq_true rfl), rfl, xq_wd_in (pl := 1134) (by decide +kernel)⟩
set_option maxRecDepth 100000 in
theorem xl_357 : xq_xm xk_M (9, 283, 0, 9, 41) := ⟨(RX9, TX9, 55), rfl, Nat.lt_of_lt_of_le (Nat.lt_succ_self _) (Nat.le_of_ble_eq_true rfl), rfl, xq_wd_in (pl := 1135) (by decide +kernel)⟩
set_option maxRecDepth 100000 in
theorem xl_358 : xq_xm xk_M (9, 286, 0, 9, 42) := ⟨(RX9, TX9, 55), rfl, Nat.lt_of_lt_of_le (Nat.lt_succ_self _) (Nat.le_of_ble_eq_true rfl), rfl, xq_wd_in (pl := 1136) (by decide +kernel)⟩
set_option maxRecDepth 100000 in
theorem xl_359 : xq_xm xk_M (9, 333, 0, 9, 43) := ⟨(RX9, TX9, 55), rfl, Nat.lt_of_lt_of_le (Nat.lt_succ_self _) (Nat.le_of_ble_eq_true rfl), rfl, xq_wd_in (pl := 1137) (by decide +kernel)⟩
set_option maxRecDepth 100000 in
theorem xl_360 : xq_xm xk_M (9, 190, 0, 9, 44) := ⟨(RX9, TX9, 55), rfl, Nat.lt_of_lt_of_le (Nat.lt_succ_self _) (Nat.le_of_ble_eq_true rfl), rfl, xq_wd_in (pl := 1138) (by decide +kernel)⟩
set_option maxRecDepth 100000 in
theorem xl_361 : xq_xm xk_M (9, 193, 0, 9, 45) := ⟨(RX9, TX9, 55), rfl, Nat.lt_of_lt_of_le (Nat.lt_succ_self _) (Nat.le_of_ble_eq_true rfl), rfl, xq_wd_in (pl := 1139) (by decide +kernel)⟩
set_option maxRecDepth 100000 in
theorem xl_362 : xq_xm xk_M (9, 196, 0, 9, 46) := ⟨(RX9, TX9, 55), rfl, Nat.lt_of_lt_of_le (Nat.lt_succ_self _) (Nat.le_of_ble_eq_true rfl), rfl, xq_wd_in (pl := 1140) (by decide +kernel)⟩
set_option maxRecDepth 100000 in
theorem xl_363 : xq_xm xk_M (9, 340, 0, 9, 47) := ⟨(RX9, TX9, 55), rfl, Nat.lt_of_lt_of_le (Nat.lt_succ_self _) (Nat.le_of_ble_eq_true rfl), rfl, xq_wd_in (pl := 1141) (by decide +kernel)⟩
set_option maxRecDepth 100000 in
theorem xl_364 : xq_xm xk_M (9, 343, 0, 9, 48) := ⟨(RX9, TX9, 55), rfl, Nat.lt_of_lt_of_le (Nat.lt_succ_self _) (Nat.le_of_ble_eq_true rfl), rfl, xq_wd_in (pl := 1142) (by decide +kernel)⟩
set_option maxRecDepth 100000 in
theorem xl_365 : xq_xm xk_M (9, 346, 0, 9, 49) := ⟨(RX9, TX9, 55), rfl, Nat.lt_of_lt_of_le (Nat.lt_succ_self _) (Nat.le_of_ble_eq_true rfl), rfl, xq_wd_in (pl := 1143) (by decide +kernel)⟩
set_option maxRecDepth 100000 in
theorem xl_366 : xq_xm xk_M (9, 349, 0, 9, 50) := ⟨(RX9, TX9, 55), rfl, Nat.lt_of_lt_of_le (Nat.lt_succ_self _) (Nat.le_of_ble_eq_true rfl), rfl, xq_wd_in (pl := 1144) (by decide +kernel)⟩
set_option maxRecDepth 100000 in
theorem xl_367 : xq_xm xk_M (9, 199, 0, 9, 51) := ⟨(RX9, TX9, 55), rfl, Nat.lt_of_lt_of_le (Nat.lt_succ_self _) (Nat.le_of_ble_eq_true rfl), rfl, xq_wd_in (pl := 1145) (by decide +kernel)⟩
set_option maxRecDepth 100000 in
theorem xl_368 : xq_xm xk_M (9, 202, 0, 9, 52) := ⟨(RX9, TX9, 55), rfl, Nat.lt_of_lt_of_le (Nat.lt_succ_self _) (Nat.le_of_ble_eq_true rfl), rfl, xq_wd_in (pl := 1146) (by decide +kernel)⟩
set_option maxRecDepth 100000 in
theorem xl_369 : xq_xm xk_M (9, 205, 0, 9, 53) := ⟨(RX9, TX9, 55), rfl, Nat.lt_of_lt_of_le (Nat.lt_succ_self _) (Nat.le_of_ble_eq_true rfl), rfl, xq_wd_in (pl := 1147) (by decide +kernel)⟩
set_option maxRecDepth 100000 in
theorem xl_370 : xq_xm xk_M (9, 208, 0, 9, 54) := ⟨(RX9, TX9, 55), rfl, Nat.lt_of_lt_of_le (Nat.lt_succ_self _) (Nat.le_of_ble_eq_true rfl), rfl, xq_wd_in (pl := 1148) (by decide +kernel)⟩
set_option maxRecDepth 100000 in
theorem xl_371 : xq_xm xk_M (11, 46, 1, 158, 0) := ⟨_, rfl, xq_wd_in (pl := 1262) (by decide +kernel)⟩
set_option maxRecDepth 100000 in
theorem xl_372 : xq_xm xk_M (9, 215, 1, 157, 0) := ⟨_, rfl, xq_wd_in (pl := 1266) (by decide +kernel)⟩
set_option maxRecDepth 100000 in
theorem xl_373 : xq_xm xk_M (9, 211, 1, 156, 0) := ⟨_, rfl, xq_wd_in (pl := 1270) (by decide +kernel)⟩
set_option maxRecDepth 100000 in
theorem xl_374 : xq_xm xk_M (11, 50, 1, 162, 0) := ⟨_, rfl, xq_wd_in (pl := 1273) (by decide +kernel)⟩
set_option maxRecDepth 100000 in
theorem xl_375 : xq_xm xk_M (11, 54, 1, 163, 0) := ⟨_, rfl, xq_wd_in (pl := 1277) (by decide +kernel)⟩
set_option maxRecDepth 100000 in
theorem xl_376 : xq_xm xk_M (9, 219, 1, 159, 0) := ⟨_, rfl, xq_wd_in (pl := 1281) (by decide +kernel)⟩
set_option maxRecDepth 100000 in
theorem xl_377 : xq_xm xk_M (11, 58, 1, 164, 0) := ⟨_, rfl, xq_wd_in (pl := 1285) (by decide +kernel)⟩
set_option maxRecDepth 100000 in
theorem xl_378 : xq_xm xk_M (11, 62, 1, 165, 0) := ⟨_, rfl, xq_wd_in (pl := 1289) (by decide +kernel)⟩
set_option maxRecDepth 100000 in
theorem xl_379 : xq_xm xk_M (9, 222, 1, 160, 0) := ⟨_, rfl, xq_wd_in (pl := 1293) (by decide +kernel)⟩
set_option maxRecDepth 100000 in
theorem xl_380 : xq_xm xk_M (11, 66, 1, 166, 0) := ⟨_, rfl, xq_wd_in (pl := 1297) (by decide +kernel)⟩
set_option maxRecDepth 100000 in
theorem xl_381 : xq_xm xk_M (11, 70, 1, 174, 0) := ⟨_, rfl, xq_wd_in (pl := 1301) (by decide +kernel)⟩
set_option maxRecDepth 100000 in
theorem xl_382 : xq_xm xk_M (9, 261, 1, 210, 0) := ⟨_, rfl, xq_wd_in (pl := 1305) (by decide +kernel)⟩
set_option maxRecDepth 100000 in
theorem xl_383 : xq_xm xk_M (11, 74, 1, 175, 0) := ⟨_, rfl, xq_wd_in (pl := 1308) (by decide +kernel)⟩
set_option maxRecDepth 100000 in
theorem xl_384 : xq_xm xk_M (11, 78, 1, 176, 0) := ⟨_, rfl, xq_wd_in (pl := 1312) (by decide +kernel)⟩
set_option maxRecDepth 100000 in
theorem xl_385 : xq_xm xk_M (11, 82, 1, 177, 0) := ⟨_, rfl, xq_wd_in (pl := 1316) (by decide +kernel)⟩
set_option maxRecDepth 100000 in
theorem xl_386 : xq_xm xk_M (9, 264, 1, 173, 0) := ⟨_, rfl, xq_wd_in (pl := 1320) (by decide +kernel)⟩
set_option maxRecDepth 100000 in
theorem xl_387 : xq_xm xk_M (9, 249, 1, 172, 0) := ⟨_, rfl, xq_wd_in (pl := 1324) (by decide +kernel)⟩
set_option maxRecDepth 100000 in
theorem xl_388 : xq_xm xk_M (9, 253, 1, 171, 0) := ⟨_, rfl, xq_wd_in (pl := 1328) (by decide +kernel)⟩
set_option maxRecDepth 100000 in
theorem xl_389 : xq_xm xk_M (9, 257, 1, 170, 0) := ⟨_, rfl, xq_wd_in (pl := 1332) (by decide +kernel)⟩
set_option maxRecDepth 100000 in
theorem xl_390 : xq_xm xk_M (9, 241, 1, 168, 0) := ⟨_, rfl, xq_wd_in (pl := 1336) (by decide +kernel)⟩
set_option maxRecDepth 100000 in
theorem xl_391 : xq_xm xk_M (9, 225, 1, 167, 0) := ⟨_, rfl, xq_wd_in (pl := 1340) (by decide +kernel)⟩
set_option maxRecDepth 100000 in
theorem xl_392 : xq_xm xk_M (9, 245, 1, 169, 0) := ⟨_, rfl, xq_wd_in (pl := 1343) (by decide +kernel)⟩
set_option maxRecDepth 100000 in
theorem xl_393 : xq_xm xk_M (9, 235, 11, 0, 0) := xq_wd_in (pl := 1346) (by decide +kernel)
set_option maxRecDepth 100000 in
theorem xl_394 : xq_xm xk_M (11, 86, 1, 179, 0) := ⟨_, rfl, xq_wd_in (pl := 1347) (by decide +kernel)⟩
set_option maxRecDepth 100000 in
theorem xl_395 : xq_xm xk_M (9, 267, 1, 178, 0) := ⟨_, rfl, xq_wd_in (pl := 1351) (by decide +kernel)⟩
set_option maxRecDepth 100000 in
theorem xl_396 : xq_xm xk_M (11, 90, 1, 180, 0) := ⟨_, rfl, xq_wd_in (pl := 1354) (by decide +kernel)⟩
set_option maxRecDepth 100000 in
theorem xl_397 : xq_xm xk_M (11, 94, 1, 181, 0) := ⟨_, rfl, xq_wd_in (pl := 1358) (by decide +kernel)⟩
set_option maxRecDepth 100000 in
theorem xl_398 : xq_xm xk_M (11, 98, 1, 183, 0) := ⟨_, rfl, xq_wd_in (pl := 1362) (by decide +kernel)⟩
set_option maxRecDepth 100000 in
theorem xl_399 : xq_xm xk_M (9, 270, 1, 161, 0) := ⟨_, rfl, xq_wd_in (pl := 1366) (by decide +kernel)⟩
set_option maxRecDepth 100000 in
theorem xl_400 : xq_xm xk_M (9, 273, 1, 182, 0) := ⟨_, rfl, xq_wd_in (pl := 1370) (by decide +kernel)⟩
set_option maxRecDepth 100000 in
theorem xl_401 : xq_xm xk_M (11, 102, 1, 184, 0) := ⟨_, rfl, xq_wd_in (pl := 1374) (by decide +kernel)⟩
set_option maxRecDepth 100000 in
theorem xl_402 : xq_xm xk_M (11, 106, 1, 185, 0) := ⟨_, rfl, xq_wd_in (pl := 1378) (by decide +kernel)⟩
set_option maxRecDepth 100000 in
theorem xl_403 : xq_xm xk_M (11, 110, 1, 186, 0) := ⟨_, rfl, xq_wd_in (pl := 1382) (by decide +kernel)⟩
set_option maxRecDepth 100000 in
theorem xl_404 : xq_xm xk_M (11, 115, 1, 193, 0) := ⟨_, rfl, xq_wd_in (pl := 1386) (by decide +kernel)⟩
set_option maxRecDepth 100000 in
theorem xl_405 : xq_xm xk_M (9, 295, 1, 192, 0) := ⟨_, rfl, xq_wd_in (pl := 1390) (by decide +kernel)⟩
set_option maxRecDepth 100000 in
theorem xl_406 : xq_xm xk_M (9, 298, 1, 191, 0) := ⟨_, rfl, xq_wd_in (pl := 1394) (by decide +kernel)⟩
set_option maxRecDepth 100000 in
theorem xl_407 : xq_xm xk_M (9, 279, 1, 187, 0) := ⟨_, rfl, xq_wd_in (pl := 1398) (by decide +kernel)⟩
set_option maxRecDepth 100000 in
theorem xl_408 : xq_xm xk_M (9, 289, 1, 190, 0) := ⟨_, rfl, xq_wd_in (pl := 1402) (by decide +kernel)⟩
set_option maxRecDepth 100000 in
theorem xl_409 : xq_xm xk_M (9, 276, 1, 189, 0) := ⟨_, rfl, xq_wd_in (pl := 1406) (by decide +kernel)⟩
set_option maxRecDepth 100000 in
theorem xl_410 : xq_xm xk_M (9, 293, 1, 188, 0) := ⟨_, rfl, xq_wd_in (pl := 1409) (by decide +kernel)⟩
set_option maxRecDepth 100000 in
theorem xl_411 : xq_xm xk_M (11, 119, 1, 194, 0) := ⟨_, rfl, xq_wd_in (pl := 1413) (by decide +kernel)⟩
set_option maxRecDepth 100000 in
theorem xl_412 : xq_xm xk_M (11, 123, 1, 195, 0) := ⟨_, rfl, xq_wd_in (pl := 1417) (by decide +kernel)⟩
set_option maxRecDepth 100000 in
theorem xl_413 : xq_xm xk_M (11, 127, 1, 196, 0) := ⟨_, rfl, xq_wd_in (pl := 1421) (by decide +kernel)⟩
set_option maxRecDepth 100000 in
theorem xl_414 : xq_xm xk_M (11, 131, 1, 197, 0) := ⟨_, rfl, xq_wd_in (pl := 1425) (by decide +kernel)⟩
set_option maxRecDepth 100000 in
theorem xl_415 : xq_xm xk_M (11, 136, 1, 199, 0) := ⟨_, rfl, xq_wd_in (pl := 1429) (by decide +kernel)⟩
set_option maxRecDepth 100000 in
theorem xl_416 : xq_xm xk_M (9, 306, 1, 198, 0) := ⟨_, rfl, xq_wd_in (pl := 1433) (by decide +kernel)⟩
set_option maxRecDepth 100000 in
theorem xl_417 : xq_xm xk_M (9, 302, 10, 1000000000, 0) := xq_wd_in (pl := 1437) (by decide +kernel)
set_option maxRecDepth 100000 in
theorem xl_418 : xq_xm xk_M (9, 304, 10, 100, 0) := xq_wd_in (pl := 1438) (by decide +kernel)
set_option maxRecDepth 100000 in
theorem xl_419 : xq_xm xk_M (9, 310, 10, 4611686018427387904, 1) := xq_wd_in (pl := 1439) (by decide +kernel)
set_option maxRecDepth 100000 in
theorem xl_420 : xq_xm xk_M (11, 140, 1, 200, 0) := ⟨_, rfl, xq_wd_in (pl := 1440) (by decide +kernel)⟩
set_option maxRecDepth 100000 in
theorem xl_421 : xq_xm xk_M (9, 312, 10, 1000000, 0) := xq_wd_in (pl := 1444) (by decide +kernel)
set_option maxRecDepth 100000 in
theorem xl_422 : xq_xm xk_M (11, 144, 1, 201, 0) := ⟨_, rfl, xq_wd_in (pl := 1445) (by decide +kernel)⟩
set_option maxRecDepth 100000 in
theorem xl_423 : xq_xm xk_M (9, 314, 10, 1, 1) := xq_wd_in (pl := 1449) (by decide +kernel)
set_option maxRecDepth 100000 in
theorem xl_424 : xq_xm xk_M (11, 148, 1, 204, 0) := ⟨_, rfl, xq_wd_in (pl := 1450) (by decide +kernel)⟩
set_option maxRecDepth 100000 in
theorem xl_425 : xq_xm xk_M (9, 322, 9, 99999, 0) := xq_wd_in (pl := 1454) (by decide +kernel)
set_option maxRecDepth 100000 in
theorem xl_426 : xq_xm xk_M (9, 323, 1, 203, 0) := ⟨_, rfl, xq_wd_in (pl := 1455) (by decide +kernel)⟩
set_option maxRecDepth 100000 in
theorem xl_427 : xq_xm xk_M (9, 326, 1, 202, 0) := ⟨_, rfl, xq_wd_in (pl := 1458) (by decide +kernel)⟩
set_option maxRecDepth 100000 in
theorem xl_428 : xq_xm xk_M (9, 316, 10, 48271, 0) := xq_wd_in (pl := 1462) (by decide +kernel)
set_option maxRecDepth 100000 in
theorem xl_429 : xq_xm xk_M (9, 318, 10, 2147483647, 0) := xq_wd_in (pl := 1463) (by decide +kernel)
set_option maxRecDepth 100000 in
theorem xl_430 : xq_xm xk_M (9, 320, 10, 2, 0) := xq_wd_in (pl := 1464) (by decide +kernel)
set_option maxRecDepth 100000 in
theorem xl_431 : xq_xm xk_M (11, 153, 1, 206, 0) := ⟨_, rfl, xq_wd_in (pl := 1465) (by decide +kernel)⟩
set_option maxRecDepth 100000 in
theorem xl_432 : xq_xm xk_M (9, 330, 1, 205, 0) := ⟨_, rfl, xq_wd_in (pl := 1469) (by decide +kernel)⟩
set_option maxRecDepth 100000 in
theorem xl_433 : xq_xm xk_M (11, 157, 1, 208, 0) := ⟨_, rfl, xq_wd_in (pl := 1472) (by decide +kernel)⟩
set_option maxRecDepth 100000 in
theorem xl_434 : xq_xm xk_M (9, 336, 1, 207, 0) := ⟨_, rfl, xq_wd_in (pl := 1476) (by decide +kernel)⟩
set_option maxRecDepth 100000 in
theorem xl_435 : xq_xm xk_M (11, 161, 1, 209, 0) := ⟨_, rfl, xq_wd_in (pl := 1479) (by decide +kernel)⟩
set_option maxRecDepth 100000 in
theorem xl_436 : xq_xm xk_M (11, 165, 1, 211, 0) := ⟨_, rfl, xq_wd_in (pl := 1483) (by decide +kernel)⟩
set_option maxRecDepth 100000 in
theorem xl_437 : xq_xm xk_M (11, 169, 1, 212, 0) := ⟨_, rfl, xq_wd_in (pl := 1487) (by decide +kernel)⟩
set_option maxRecDepth 100000 in
theorem xl_438 : xq_xm xk_M (11, 173, 1, 213, 0) := ⟨_, rfl, xq_wd_in (pl := 1491) (by decide +kernel)⟩
set_option maxRecDepth 100000 in
theorem xl_439 : xq_xm xk_M (11, 177, 1, 214, 0) := ⟨_, rfl, xq_wd_in (pl := 1495) (by decide +kernel)⟩
set_option maxRecDepth 100000 in
theorem xl_440 : xq_xm xk_M (9, 352, 10, 3, 0) := xq_wd_in (pl := 1499) (by decide +kernel)
set_option maxRecDepth 100000 in
theorem xl_441 : xq_xm xk_M (9, 354, 1, 164, 0) := ⟨_, rfl, xq_wd_in (pl := 1500) (by decide +kernel)⟩
set_option maxRecDepth 100000 in
theorem xl_442 : xq_xm xk_M (11, 181, 1, 215, 0) := ⟨_, rfl, xq_wd_in (pl := 1501) (by decide +kernel)⟩
def xl_L0 : List xq_X := [(11, 7, 6, 8, 0), (11, 9, 1, 70, 0), (8, 1, 3, 0, 0), (8, 7, 6, 2, 0), (8, 9, 2, 7, 0), (2, 3, 3, 0, 0), (2, 9, 0, 2, 0), (8, 170, 0, 2, 0), (2, 15, 0, 2, 1), (8, 173, 0, 2, 1), (2, 18, 0, 2, 2), (8, 176, 0, 2, 2), (2, 30, 0, 2, 3), (8, 123, 0, 2, 3), (2, 21, 0, 2, 4), (2, 24, 0, 2, 5), (2, 27, 0, 2, 6), (2, 46, 0, 2, 7), (8, 20, 6, 1, 0), (8, 22, 2, 1, 0), (1, 3, 3, 0, 0), (1, 9, 0, 1, 0), (3, 73, 0, 1, 0), (6, 33, 0, 1, 0), (8, 261, 0, 1, 0)]
theorem xl_A0 : ∀ q ∈ xl_L0, xq_xm xk_M q := (List.forall_mem_cons.mpr ⟨xl_0, (List.forall_mem_cons.mpr ⟨xl_1, (List.forall_mem_cons.mpr ⟨xl_2, (List.forall_mem_cons.mpr ⟨xl_3, (List.forall_mem_cons.mpr ⟨xl_4, (List.forall_mem_cons.mpr ⟨xl_5, (List.forall_mem_cons.mpr ⟨xl_6, (List.forall_mem_cons.mpr ⟨xl_7, (List.forall_mem_cons.mpr ⟨xl_8, (List.forall_mem_cons.mpr ⟨xl_9, (List.forall_mem_cons.mpr ⟨xl_10, (List.forall_mem_cons.mpr ⟨xl_11, (List.forall_mem_cons.mpr ⟨xl_12, (List.forall_mem_cons.mpr ⟨xl_13, (List.forall_mem_cons.mpr ⟨xl_14, (List.forall_mem_cons.mpr ⟨xl_15, (List.forall_mem_cons.mpr ⟨xl_16, (List.forall_mem_cons.mpr ⟨xl_17, (List.forall_mem_cons.mpr ⟨xl_18, (List.forall_mem_cons.mpr ⟨xl_19, (List.forall_mem_cons.mpr ⟨xl_20, (List.forall_mem_cons.mpr ⟨xl_21, (List.forall_mem_cons.mpr ⟨xl_22, (List.forall_mem_cons.mpr ⟨xl_23, (List.forall_mem_cons.mpr ⟨xl_24, (fun _ h => absurd h List.not_mem_nil)⟩)⟩)⟩)⟩)⟩)⟩)⟩)⟩)⟩)⟩)⟩)⟩)⟩)⟩)⟩)⟩)⟩)⟩)⟩)⟩)⟩)⟩)⟩)⟩)⟩)
def xl_L1 : List xq_X := [(1, 15, 0, 1, 1), (3, 83, 0, 1, 1), (6, 69, 0, 1, 1), (1, 18, 0, 1, 2), (6, 82, 0, 1, 2), (8, 30, 6, 6, 0), (8, 32, 1, 54, 0), (6, 3, 3, 0, 0), (6, 18, 0, 6, 0), (6, 22, 0, 6, 1), (6, 9, 0, 6, 2), (6, 15, 0, 6, 3), (6, 25, 0, 6, 4), (6, 29, 0, 6, 5), (8, 39, 6, 3, 0), (8, 41, 1, 18, 0), (3, 3, 3, 0, 0), (3, 9, 6, 1, 0), (3, 11, 2, 1, 0), (3, 67, 0, 3, 0), (8, 229, 0, 3, 0), (3, 70, 0, 3, 1), (8, 232, 0, 3, 1), (3, 37, 0, 3, 2), (3, 41, 0, 3, 3)]
theorem xl_A1 : ∀ q ∈ xl_L1, xq_xm xk_M q := (List.forall_mem_cons.mpr ⟨xl_25, (List.forall_mem_cons.mpr ⟨xl_26, (List.forall_mem_cons.mpr ⟨xl_27, (List.forall_mem_cons.mpr ⟨xl_28, (List.forall_mem_cons.mpr ⟨xl_29, (List.forall_mem_cons.mpr ⟨xl_30, (List.forall_mem_cons.mpr ⟨xl_31, (List.forall_mem_cons.mpr ⟨xl_32, (List.forall_mem_cons.mpr ⟨xl_33, (List.forall_mem_cons.mpr ⟨xl_34, (List.forall_mem_cons.mpr ⟨xl_35, (List.forall_mem_cons.mpr ⟨xl_36, (List.forall_mem_cons.mpr ⟨xl_37, (List.forall_mem_cons.mpr ⟨xl_38, (List.forall_mem_cons.mpr ⟨xl_39, (List.forall_mem_cons.mpr ⟨xl_40, (List.forall_mem_cons.mpr ⟨xl_41, (List.forall_mem_cons.mpr ⟨xl_42, (List.forall_mem_cons.mpr ⟨xl_43, (List.forall_mem_cons.mpr ⟨xl_44, (List.forall_mem_cons.mpr ⟨xl_45, (List.forall_mem_cons.mpr ⟨xl_46, (List.forall_mem_cons.mpr ⟨xl_47, (List.forall_mem_cons.mpr ⟨xl_48, (List.forall_mem_cons.mpr ⟨xl_49, (fun _ h => absurd h List.not_mem_nil)⟩)⟩)⟩)⟩)⟩)⟩)⟩)⟩)⟩)⟩)⟩)⟩)⟩)⟩)⟩)⟩)⟩)⟩)⟩)⟩)⟩)⟩)⟩)⟩)⟩)
def xl_L2 : List xq_X := [(3, 45, 0, 3, 4), (3, 12, 0, 3, 5), (3, 18, 0, 3, 6), (3, 22, 0, 3, 7), (3, 25, 0, 3, 8), (3, 28, 0, 3, 9), (3, 31, 0, 3, 10), (3, 80, 0, 3, 11), (3, 34, 0, 3, 12), (3, 54, 0, 3, 13), (3, 58, 0, 3, 14), (8, 48, 6, 4, 0), (8, 50, 2, 26, 0), (4, 3, 3, 0, 0), (4, 9, 0, 4, 0), (4, 22, 0, 4, 1), (8, 135, 0, 4, 1), (4, 15, 0, 4, 2), (8, 136, 0, 4, 2), (4, 19, 0, 4, 3), (4, 25, 0, 4, 4), (4, 38, 0, 4, 5), (4, 82, 0, 4, 6), (4, 28, 0, 4, 7), (4, 79, 0, 4, 8)]
theorem xl_A2 : ∀ q ∈ xl_L2, xq_xm xk_M q := (List.forall_mem_cons.mpr ⟨xl_50, (List.forall_mem_cons.mpr ⟨xl_51, (List.forall_mem_cons.mpr ⟨xl_52, (List.forall_mem_cons.mpr ⟨xl_53, (List.forall_mem_cons.mpr ⟨xl_54, (List.forall_mem_cons.mpr ⟨xl_55, (List.forall_mem_cons.mpr ⟨xl_56, (List.forall_mem_cons.mpr ⟨xl_57, (List.forall_mem_cons.mpr ⟨xl_58, (List.forall_mem_cons.mpr ⟨xl_59, (List.forall_mem_cons.mpr ⟨xl_60, (List.forall_mem_cons.mpr ⟨xl_61, (List.forall_mem_cons.mpr ⟨xl_62, (List.forall_mem_cons.mpr ⟨xl_63, (List.forall_mem_cons.mpr ⟨xl_64, (List.forall_mem_cons.mpr ⟨xl_65, (List.forall_mem_cons.mpr ⟨xl_66, (List.forall_mem_cons.mpr ⟨xl_67, (List.forall_mem_cons.mpr ⟨xl_68, (List.forall_mem_cons.mpr ⟨xl_69, (List.forall_mem_cons.mpr ⟨xl_70, (List.forall_mem_cons.mpr ⟨xl_71, (List.forall_mem_cons.mpr ⟨xl_72, (List.forall_mem_cons.mpr ⟨xl_73, (List.forall_mem_cons.mpr ⟨xl_74, (fun _ h => absurd h List.not_mem_nil)⟩)⟩)⟩)⟩)⟩)⟩)⟩)⟩)⟩)⟩)⟩)⟩)⟩)⟩)⟩)⟩)⟩)⟩)⟩)⟩)⟩)⟩)⟩)⟩)⟩)
def xl_L3 : List xq_X := [(8, 55, 6, 7, 0), (8, 67, 8, 0, 0), (8, 72, 6, 5, 0), (8, 78, 6, 0, 0), (8, 80, 2, 0, 0), (0, 3, 3, 0, 0), (0, 9, 6, 1, 0), (0, 11, 2, 1, 0), (0, 12, 0, 0, 0), (8, 276, 0, 0, 0), (0, 18, 0, 0, 1), (8, 288, 0, 0, 1), (0, 22, 0, 0, 2), (8, 295, 0, 0, 2), (8, 272, 0, 0, 3), (8, 283, 0, 0, 4), (8, 285, 0, 0, 5), (8, 287, 0, 0, 6), (8, 85, 1, 217, 0), (8, 91, 2, 48, 0), (5, 3, 3, 0, 0), (5, 9, 0, 5, 0), (8, 319, 0, 5, 0), (5, 15, 0, 5, 1), (8, 312, 0, 5, 1)]
theorem xl_A3 : ∀ q ∈ xl_L3, xq_xm xk_M q := (List.forall_mem_cons.mpr ⟨xl_75, (List.forall_mem_cons.mpr ⟨xl_76, (List.forall_mem_cons.mpr ⟨xl_77, (List.forall_mem_cons.mpr ⟨xl_78, (List.forall_mem_cons.mpr ⟨xl_79, (List.forall_mem_cons.mpr ⟨xl_80, (List.forall_mem_cons.mpr ⟨xl_81, (List.forall_mem_cons.mpr ⟨xl_82, (List.forall_mem_cons.mpr ⟨xl_83, (List.forall_mem_cons.mpr ⟨xl_84, (List.forall_mem_cons.mpr ⟨xl_85, (List.forall_mem_cons.mpr ⟨xl_86, (List.forall_mem_cons.mpr ⟨xl_87, (List.forall_mem_cons.mpr ⟨xl_88, (List.forall_mem_cons.mpr ⟨xl_89, (List.forall_mem_cons.mpr ⟨xl_90, (List.forall_mem_cons.mpr ⟨xl_91, (List.forall_mem_cons.mpr ⟨xl_92, (List.forall_mem_cons.mpr ⟨xl_93, (List.forall_mem_cons.mpr ⟨xl_94, (List.forall_mem_cons.mpr ⟨xl_95, (List.forall_mem_cons.mpr ⟨xl_96, (List.forall_mem_cons.mpr ⟨xl_97, (List.forall_mem_cons.mpr ⟨xl_98, (List.forall_mem_cons.mpr ⟨xl_99, (fun _ h => absurd h List.not_mem_nil)⟩)⟩)⟩)⟩)⟩)⟩)⟩)⟩)⟩)⟩)⟩)⟩)⟩)⟩)⟩)⟩)⟩)⟩)⟩)⟩)⟩)⟩)⟩)⟩)⟩)
def xl_L4 : List xq_X := [(5, 19, 0, 5, 2), (8, 186, 0, 5, 2), (8, 94, 1, 219, 0), (8, 100, 1, 220, 0), (8, 104, 1, 27, 0), (8, 108, 1, 29, 0), (4, 31, 1, 40, 0), (4, 85, 1, 44, 0), (4, 89, 1, 41, 0), (4, 101, 1, 46, 0), (4, 107, 1, 47, 0), (4, 133, 1, 219, 0), (4, 137, 1, 220, 0), (4, 41, 1, 39, 0), (4, 92, 1, 45, 0), (4, 95, 1, 42, 0), (4, 98, 1, 43, 0), (4, 34, 1, 30, 0), (4, 55, 1, 38, 0), (4, 58, 1, 31, 0), (4, 61, 1, 32, 0), (4, 67, 1, 33, 0), (4, 64, 1, 37, 0), (4, 70, 1, 34, 0), (4, 73, 1, 35, 0)]
theorem xl_A4 : ∀ q ∈ xl_L4, xq_xm xk_M q := (List.forall_mem_cons.mpr ⟨xl_100, (List.forall_mem_cons.mpr ⟨xl_101, (List.forall_mem_cons.mpr ⟨xl_102, (List.forall_mem_cons.mpr ⟨xl_103, (List.forall_mem_cons.mpr ⟨xl_104, (List.forall_mem_cons.mpr ⟨xl_105, (List.forall_mem_cons.mpr ⟨xl_106, (List.forall_mem_cons.mpr ⟨xl_107, (List.forall_mem_cons.mpr ⟨xl_108, (List.forall_mem_cons.mpr ⟨xl_109, (List.forall_mem_cons.mpr ⟨xl_110, (List.forall_mem_cons.mpr ⟨xl_111, (List.forall_mem_cons.mpr ⟨xl_112, (List.forall_mem_cons.mpr ⟨xl_113, (List.forall_mem_cons.mpr ⟨xl_114, (List.forall_mem_cons.mpr ⟨xl_115, (List.forall_mem_cons.mpr ⟨xl_116, (List.forall_mem_cons.mpr ⟨xl_117, (List.forall_mem_cons.mpr ⟨xl_118, (List.forall_mem_cons.mpr ⟨xl_119, (List.forall_mem_cons.mpr ⟨xl_120, (List.forall_mem_cons.mpr ⟨xl_121, (List.forall_mem_cons.mpr ⟨xl_122, (List.forall_mem_cons.mpr ⟨xl_123, (List.forall_mem_cons.mpr ⟨xl_124, (fun _ h => absurd h List.not_mem_nil)⟩)⟩)⟩)⟩)⟩)⟩)⟩)⟩)⟩)⟩)⟩)⟩)⟩)⟩)⟩)⟩)⟩)⟩)⟩)⟩)⟩)⟩)⟩)⟩)⟩)
def xl_L5 : List xq_X := [(4, 76, 1, 36, 0), (4, 44, 6, 7, 0), (4, 46, 1, 218, 0), (14, 316, 5, 0, 0), (14, 317, 7, 0, 0), (14, 304, 11, 0, 0), (14, 150, 4, 0, 0), (4, 52, 1, 67, 0), (7, 3, 3, 0, 0), (7, 9, 0, 7, 0), (6, 85, 0, 7, 0), (7, 15, 0, 7, 1), (7, 19, 0, 7, 2), (8, 112, 1, 28, 0), (8, 10, 0, 8, 0), (8, 16, 0, 8, 1), (8, 23, 0, 8, 2), (8, 27, 0, 8, 3), (8, 35, 0, 8, 4), (8, 44, 0, 8, 5), (8, 51, 0, 8, 6), (8, 57, 0, 8, 7), (8, 61, 0, 8, 8), (8, 64, 0, 8, 9), (8, 69, 0, 8, 10)]
theorem xl_A5 : ∀ q ∈ xl_L5, xq_xm xk_M q := (List.forall_mem_cons.mpr ⟨xl_125, (List.forall_mem_cons.mpr ⟨xl_126, (List.forall_mem_cons.mpr ⟨xl_127, (List.forall_mem_cons.mpr ⟨xl_128, (List.forall_mem_cons.mpr ⟨xl_129, (List.forall_mem_cons.mpr ⟨xl_130, (List.forall_mem_cons.mpr ⟨xl_131, (List.forall_mem_cons.mpr ⟨xl_132, (List.forall_mem_cons.mpr ⟨xl_133, (List.forall_mem_cons.mpr ⟨xl_134, (List.forall_mem_cons.mpr ⟨xl_135, (List.forall_mem_cons.mpr ⟨xl_136, (List.forall_mem_cons.mpr ⟨xl_137, (List.forall_mem_cons.mpr ⟨xl_138, (List.forall_mem_cons.mpr ⟨xl_139, (List.forall_mem_cons.mpr ⟨xl_140, (List.forall_mem_cons.mpr ⟨xl_141, (List.forall_mem_cons.mpr ⟨xl_142, (List.forall_mem_cons.mpr ⟨xl_143, (List.forall_mem_cons.mpr ⟨xl_144, (List.forall_mem_cons.mpr ⟨xl_145, (List.forall_mem_cons.mpr ⟨xl_146, (List.forall_mem_cons.mpr ⟨xl_147, (List.forall_mem_cons.mpr ⟨xl_148, (List.forall_mem_cons.mpr ⟨xl_149, (fun _ h => absurd h List.not_mem_nil)⟩)⟩)⟩)⟩)⟩)⟩)⟩)⟩)⟩)⟩)⟩)⟩)⟩)⟩)⟩)⟩)⟩)⟩)⟩)⟩)⟩)⟩)⟩)⟩)⟩)
def xl_L6 : List xq_X := [(8, 74, 0, 8, 11), (8, 81, 0, 8, 12), (8, 126, 0, 8, 13), (8, 129, 0, 8, 14), (8, 115, 0, 8, 15), (8, 132, 0, 8, 16), (11, 13, 1, 71, 0), (8, 119, 1, 111, 0), (11, 18, 1, 72, 0), (11, 23, 1, 73, 0), (11, 28, 1, 74, 0), (11, 33, 1, 75, 0), (11, 38, 1, 76, 0), (11, 42, 1, 77, 0), (8, 139, 1, 119, 0), (8, 142, 1, 55, 0), (8, 146, 1, 56, 0), (8, 150, 1, 63, 0), (6, 90, 1, 69, 0), (6, 93, 11, 0, 0), (6, 98, 1, 68, 0), (6, 101, 1, 64, 0), (6, 104, 1, 65, 0), (6, 107, 1, 66, 0), (11, 47, 1, 78, 0)]
theorem xl_A6 : ∀ q ∈ xl_L6, xq_xm xk_M q := (List.forall_mem_cons.mpr ⟨xl_150, (List.forall_mem_cons.mpr ⟨xl_151, (List.forall_mem_cons.mpr ⟨xl_152, (List.forall_mem_cons.mpr ⟨xl_153, (List.forall_mem_cons.mpr ⟨xl_154, (List.forall_mem_cons.mpr ⟨xl_155, (List.forall_mem_cons.mpr ⟨xl_156, (List.forall_mem_cons.mpr ⟨xl_157, (List.forall_mem_cons.mpr ⟨xl_158, (List.forall_mem_cons.mpr ⟨xl_159, (List.forall_mem_cons.mpr ⟨xl_160, (List.forall_mem_cons.mpr ⟨xl_161, (List.forall_mem_cons.mpr ⟨xl_162, (List.forall_mem_cons.mpr ⟨xl_163, (List.forall_mem_cons.mpr ⟨xl_164, (List.forall_mem_cons.mpr ⟨xl_165, (List.forall_mem_cons.mpr ⟨xl_166, (List.forall_mem_cons.mpr ⟨xl_167, (List.forall_mem_cons.mpr ⟨xl_168, (List.forall_mem_cons.mpr ⟨xl_169, (List.forall_mem_cons.mpr ⟨xl_170, (List.forall_mem_cons.mpr ⟨xl_171, (List.forall_mem_cons.mpr ⟨xl_172, (List.forall_mem_cons.mpr ⟨xl_173, (List.forall_mem_cons.mpr ⟨xl_174, (fun _ h => absurd h List.not_mem_nil)⟩)⟩)⟩)⟩)⟩)⟩)⟩)⟩)⟩)⟩)⟩)⟩)⟩)⟩)⟩)⟩)⟩)⟩)⟩)⟩)⟩)⟩)⟩)⟩)⟩)
def xl_L7 : List xq_X := [(8, 153, 1, 115, 0), (11, 51, 1, 79, 0), (11, 55, 1, 80, 0), (8, 156, 1, 9, 0), (2, 34, 1, 10, 0), (2, 38, 1, 11, 0), (2, 42, 1, 12, 0), (11, 59, 1, 81, 0), (8, 160, 1, 116, 0), (8, 163, 1, 2, 0), (8, 167, 1, 3, 0), (11, 63, 1, 82, 0), (11, 67, 1, 83, 0), (8, 179, 1, 112, 0), (8, 182, 1, 120, 0), (8, 187, 1, 121, 0), (8, 194, 1, 52, 0), (5, 28, 1, 50, 0), (8, 191, 1, 122, 0), (11, 71, 1, 84, 0), (11, 75, 1, 85, 0), (11, 79, 1, 86, 0), (8, 198, 1, 118, 0), (8, 201, 1, 123, 0), (8, 279, 1, 5, 0)]
theorem xl_A7 : ∀ q ∈ xl_L7, xq_xm xk_M q := (List.forall_mem_cons.mpr ⟨xl_175, (List.forall_mem_cons.mpr ⟨xl_176, (List.forall_mem_cons.mpr ⟨xl_177, (List.forall_mem_cons.mpr ⟨xl_178, (List.forall_mem_cons.mpr ⟨xl_179, (List.forall_mem_cons.mpr ⟨xl_180, (List.forall_mem_cons.mpr ⟨xl_181, (List.forall_mem_cons.mpr ⟨xl_182, (List.forall_mem_cons.mpr ⟨xl_183, (List.forall_mem_cons.mpr ⟨xl_184, (List.forall_mem_cons.mpr ⟨xl_185, (List.forall_mem_cons.mpr ⟨xl_186, (List.forall_mem_cons.mpr ⟨xl_187, (List.forall_mem_cons.mpr ⟨xl_188, (List.forall_mem_cons.mpr ⟨xl_189, (List.forall_mem_cons.mpr ⟨xl_190, (List.forall_mem_cons.mpr ⟨xl_191, (List.forall_mem_cons.mpr ⟨xl_192, (List.forall_mem_cons.mpr ⟨xl_193, (List.forall_mem_cons.mpr ⟨xl_194, (List.forall_mem_cons.mpr ⟨xl_195, (List.forall_mem_cons.mpr ⟨xl_196, (List.forall_mem_cons.mpr ⟨xl_197, (List.forall_mem_cons.mpr ⟨xl_198, (List.forall_mem_cons.mpr ⟨xl_199, (fun _ h => absurd h List.not_mem_nil)⟩)⟩)⟩)⟩)⟩)⟩)⟩)⟩)⟩)⟩)⟩)⟩)⟩)⟩)⟩)⟩)⟩)⟩)⟩)⟩)⟩)⟩)⟩)⟩)⟩)
def xl_L8 : List xq_X := [(1, 21, 1, 6, 0), (8, 326, 1, 124, 0), (8, 330, 1, 57, 0), (6, 38, 1, 216, 0), (12, 265, 9, 1431655765, 0), (12, 266, 9, 858993459, 0), (12, 267, 9, 252645135, 0), (6, 44, 1, 59, 0), (6, 60, 1, 14, 0), (6, 48, 1, 56, 0), (6, 52, 1, 63, 0), (8, 334, 1, 58, 0), (6, 56, 1, 62, 0), (6, 65, 1, 60, 0), (6, 72, 1, 16, 0), (6, 76, 1, 17, 0), (6, 79, 1, 15, 0), (11, 83, 1, 87, 0), (8, 205, 1, 4, 0), (11, 87, 1, 88, 0), (11, 91, 1, 89, 0), (11, 95, 1, 90, 0), (8, 208, 1, 117, 0), (8, 235, 1, 8, 0), (8, 211, 1, 125, 0)]
theorem xl_A8 : ∀ q ∈ xl_L8, xq_xm xk_M q := (List.forall_mem_cons.mpr ⟨xl_200, (List.forall_mem_cons.mpr ⟨xl_201, (List.forall_mem_cons.mpr ⟨xl_202, (List.forall_mem_cons.mpr ⟨xl_203, (List.forall_mem_cons.mpr ⟨xl_204, (List.forall_mem_cons.mpr ⟨xl_205, (List.forall_mem_cons.mpr ⟨xl_206, (List.forall_mem_cons.mpr ⟨xl_207, (List.forall_mem_cons.mpr ⟨xl_208, (List.forall_mem_cons.mpr ⟨xl_209, (List.forall_mem_cons.mpr ⟨xl_210, (List.forall_mem_cons.mpr ⟨xl_211, (List.forall_mem_cons.mpr ⟨xl_212, (List.forall_mem_cons.mpr ⟨xl_213, (List.forall_mem_cons.mpr ⟨xl_214, (List.forall_mem_cons.mpr ⟨xl_215, (List.forall_mem_cons.mpr ⟨xl_216, (List.forall_mem_cons.mpr ⟨xl_217, (List.forall_mem_cons.mpr ⟨xl_218, (List.forall_mem_cons.mpr ⟨xl_219, (List.forall_mem_cons.mpr ⟨xl_220, (List.forall_mem_cons.mpr ⟨xl_221, (List.forall_mem_cons.mpr ⟨xl_222, (List.forall_mem_cons.mpr ⟨xl_223, (List.forall_mem_cons.mpr ⟨xl_224, (fun _ h => absurd h List.not_mem_nil)⟩)⟩)⟩)⟩)⟩)⟩)⟩)⟩)⟩)⟩)⟩)⟩)⟩)⟩)⟩)⟩)⟩)⟩)⟩)⟩)⟩)⟩)⟩)⟩)⟩)
def xl_L9 : List xq_X := [(11, 99, 1, 91, 0), (8, 215, 1, 216, 0), (11, 103, 1, 92, 0), (11, 107, 1, 93, 0), (8, 220, 1, 126, 0), (11, 111, 1, 94, 0), (8, 223, 1, 19, 0), (3, 48, 1, 55, 0), (3, 61, 1, 217, 0), (8, 226, 1, 20, 0), (3, 76, 1, 5, 0), (3, 86, 1, 25, 0), (3, 135, 1, 21, 0), (3, 90, 1, 22, 0), (3, 96, 1, 8, 0), (3, 102, 1, 216, 0), (3, 108, 1, 23, 0), (3, 112, 1, 61, 0), (3, 116, 1, 59, 0), (3, 120, 1, 24, 0), (3, 127, 1, 56, 0), (3, 131, 1, 63, 0), (3, 123, 1, 62, 0), (11, 116, 1, 95, 0), (11, 120, 1, 96, 0)]
theorem xl_A9 : ∀ q ∈ xl_L9, xq_xm xk_M q := (List.forall_mem_cons.mpr ⟨xl_225, (List.forall_mem_cons.mpr ⟨xl_226, (List.forall_mem_cons.mpr ⟨xl_227, (List.forall_mem_cons.mpr ⟨xl_228, (List.forall_mem_cons.mpr ⟨xl_229, (List.forall_mem_cons.mpr ⟨xl_230, (List.forall_mem_cons.mpr ⟨xl_231, (List.forall_mem_cons.mpr ⟨xl_232, (List.forall_mem_cons.mpr ⟨xl_233, (List.forall_mem_cons.mpr ⟨xl_234, (List.forall_mem_cons.mpr ⟨xl_235, (List.forall_mem_cons.mpr ⟨xl_236, (List.forall_mem_cons.mpr ⟨xl_237, (List.forall_mem_cons.mpr ⟨xl_238, (List.forall_mem_cons.mpr ⟨xl_239, (List.forall_mem_cons.mpr ⟨xl_240, (List.forall_mem_cons.mpr ⟨xl_241, (List.forall_mem_cons.mpr ⟨xl_242, (List.forall_mem_cons.mpr ⟨xl_243, (List.forall_mem_cons.mpr ⟨xl_244, (List.forall_mem_cons.mpr ⟨xl_245, (List.forall_mem_cons.mpr ⟨xl_246, (List.forall_mem_cons.mpr ⟨xl_247, (List.forall_mem_cons.mpr ⟨xl_248, (List.forall_mem_cons.mpr ⟨xl_249, (fun _ h => absurd h List.not_mem_nil)⟩)⟩)⟩)⟩)⟩)⟩)⟩)⟩)⟩)⟩)⟩)⟩)⟩)⟩)⟩)⟩)⟩)⟩)⟩)⟩)⟩)⟩)⟩)⟩)⟩)
def xl_L10 : List xq_X := [(11, 124, 1, 97, 0), (11, 128, 1, 98, 0), (8, 238, 1, 127, 0), (8, 300, 11, 0, 0), (11, 132, 1, 99, 0), (8, 242, 10, 4611686018427387904, 1), (8, 244, 1, 128, 0), (8, 338, 10, 1000000000, 0), (8, 340, 10, 100, 0), (11, 137, 1, 100, 0), (8, 248, 10, 1000000, 0), (11, 141, 1, 101, 0), (8, 250, 10, 1, 1), (11, 145, 1, 102, 0), (8, 252, 1, 113, 0), (8, 325, 9, 99999, 0), (8, 255, 1, 114, 0), (8, 258, 1, 129, 0), (8, 342, 10, 48271, 0), (8, 344, 10, 2147483647, 0), (8, 346, 1, 61, 0), (11, 149, 1, 103, 0), (8, 264, 1, 130, 0), (8, 267, 11, 1, 0), (11, 154, 1, 104, 0)]
theorem xl_A10 : ∀ q ∈ xl_L10, xq_xm xk_M q := (List.forall_mem_cons.mpr ⟨xl_250, (List.forall_mem_cons.mpr ⟨xl_251, (List.forall_mem_cons.mpr ⟨xl_252, (List.forall_mem_cons.mpr ⟨xl_253, (List.forall_mem_cons.mpr ⟨xl_254, (List.forall_mem_cons.mpr ⟨xl_255, (List.forall_mem_cons.mpr ⟨xl_256, (List.forall_mem_cons.mpr ⟨xl_257, (List.forall_mem_cons.mpr ⟨xl_258, (List.forall_mem_cons.mpr ⟨xl_259, (List.forall_mem_cons.mpr ⟨xl_260, (List.forall_mem_cons.mpr ⟨xl_261, (List.forall_mem_cons.mpr ⟨xl_262, (List.forall_mem_cons.mpr ⟨xl_263, (List.forall_mem_cons.mpr ⟨xl_264, (List.forall_mem_cons.mpr ⟨xl_265, (List.forall_mem_cons.mpr ⟨xl_266, (List.forall_mem_cons.mpr ⟨xl_267, (List.forall_mem_cons.mpr ⟨xl_268, (List.forall_mem_cons.mpr ⟨xl_269, (List.forall_mem_cons.mpr ⟨xl_270, (List.forall_mem_cons.mpr ⟨xl_271, (List.forall_mem_cons.mpr ⟨xl_272, (List.forall_mem_cons.mpr ⟨xl_273, (List.forall_mem_cons.mpr ⟨xl_274, (fun _ h => absurd h List.not_mem_nil)⟩)⟩)⟩)⟩)⟩)⟩)⟩)⟩)⟩)⟩)⟩)⟩)⟩)⟩)⟩)⟩)⟩)⟩)⟩)⟩)⟩)⟩)⟩)⟩)⟩)
def xl_L11 : List xq_X := [(8, 289, 4, 0, 0), (11, 158, 1, 105, 0), (8, 296, 1, 6, 0), (11, 162, 1, 106, 0), (8, 303, 1, 49, 0), (5, 22, 1, 217, 0), (11, 166, 1, 107, 0), (8, 307, 1, 50, 0), (8, 310, 1, 53, 0), (11, 170, 1, 108, 0), (8, 315, 1, 51, 0), (11, 174, 1, 109, 0), (11, 178, 1, 110, 0), (8, 322, 1, 13, 0), (11, 17, 1, 132, 0), (9, 3, 1, 131, 0), (11, 22, 1, 133, 0), (11, 27, 1, 134, 0), (11, 32, 1, 136, 0), (9, 36, 1, 135, 0), (11, 37, 1, 153, 0), (9, 137, 1, 152, 0), (9, 131, 1, 141, 0), (9, 43, 1, 137, 0), (9, 66, 1, 139, 0)]
theorem xl_A11 : ∀ q ∈ xl_L11, xq_xm xk_M q := (List.forall_mem_cons.mpr ⟨xl_275, (List.forall_mem_cons.mpr ⟨xl_276, (List.forall_mem_cons.mpr ⟨xl_277, (List.forall_mem_cons.mpr ⟨xl_278, (List.forall_mem_cons.mpr ⟨xl_279, (List.forall_mem_cons.mpr ⟨xl_280, (List.forall_mem_cons.mpr ⟨xl_281, (List.forall_mem_cons.mpr ⟨xl_282, (List.forall_mem_cons.mpr ⟨xl_283, (List.forall_mem_cons.mpr ⟨xl_284, (List.forall_mem_cons.mpr ⟨xl_285, (List.forall_mem_cons.mpr ⟨xl_286, (List.forall_mem_cons.mpr ⟨xl_287, (List.forall_mem_cons.mpr ⟨xl_288, (List.forall_mem_cons.mpr ⟨xl_289, (List.forall_mem_cons.mpr ⟨xl_290, (List.forall_mem_cons.mpr ⟨xl_291, (List.forall_mem_cons.mpr ⟨xl_292, (List.forall_mem_cons.mpr ⟨xl_293, (List.forall_mem_cons.mpr ⟨xl_294, (List.forall_mem_cons.mpr ⟨xl_295, (List.forall_mem_cons.mpr ⟨xl_296, (List.forall_mem_cons.mpr ⟨xl_297, (List.forall_mem_cons.mpr ⟨xl_298, (List.forall_mem_cons.mpr ⟨xl_299, (fun _ h => absurd h List.not_mem_nil)⟩)⟩)⟩)⟩)⟩)⟩)⟩)⟩)⟩)⟩)⟩)⟩)⟩)⟩)⟩)⟩)⟩)⟩)⟩)⟩)⟩)⟩)⟩)⟩)⟩)
def xl_L12 : List xq_X := [(9, 63, 1, 138, 0), (9, 70, 1, 140, 0), (9, 101, 1, 143, 0), (9, 134, 1, 151, 0), (9, 95, 1, 144, 0), (9, 111, 1, 146, 0), (9, 88, 1, 145, 0), (9, 98, 1, 142, 0), (9, 117, 1, 150, 0), (9, 114, 1, 147, 0), (9, 124, 1, 148, 0), (9, 128, 1, 149, 0), (11, 41, 1, 154, 0), (11, 10, 6, 9, 0), (11, 12, 1, 155, 0), (9, 140, 3, 0, 0), (9, 7, 0, 9, 0), (9, 11, 0, 9, 1), (9, 18, 0, 9, 2), (9, 145, 0, 9, 3), (9, 14, 0, 9, 4), (9, 148, 0, 9, 5), (9, 151, 0, 9, 6), (9, 154, 0, 9, 7), (9, 157, 0, 9, 8)]
theorem xl_A12 : ∀ q ∈ xl_L12, xq_xm xk_M q := (List.forall_mem_cons.mpr ⟨xl_300, (List.forall_mem_cons.mpr ⟨xl_301, (List.forall_mem_cons.mpr ⟨xl_302, (List.forall_mem_cons.mpr ⟨xl_303, (List.forall_mem_cons.mpr ⟨xl_304, (List.forall_mem_cons.mpr ⟨xl_305, (List.forall_mem_cons.mpr ⟨xl_306, (List.forall_mem_cons.mpr ⟨xl_307, (List.forall_mem_cons.mpr ⟨xl_308, (List.forall_mem_cons.mpr ⟨xl_309, (List.forall_mem_cons.mpr ⟨xl_310, (List.forall_mem_cons.mpr ⟨xl_311, (List.forall_mem_cons.mpr ⟨xl_312, (List.forall_mem_cons.mpr ⟨xl_313, (List.forall_mem_cons.mpr ⟨xl_314, (List.forall_mem_cons.mpr ⟨xl_315, (List.forall_mem_cons.mpr ⟨xl_316, (List.forall_mem_cons.mpr ⟨xl_317, (List.forall_mem_cons.mpr ⟨xl_318, (List.forall_mem_cons.mpr ⟨xl_319, (List.forall_mem_cons.mpr ⟨xl_320, (List.forall_mem_cons.mpr ⟨xl_321, (List.forall_mem_cons.mpr ⟨xl_322, (List.forall_mem_cons.mpr ⟨xl_323, (List.forall_mem_cons.mpr ⟨xl_324, (fun _ h => absurd h List.not_mem_nil)⟩)⟩)⟩)⟩)⟩)⟩)⟩)⟩)⟩)⟩)⟩)⟩)⟩)⟩)⟩)⟩)⟩)⟩)⟩)⟩)⟩)⟩)⟩)⟩)⟩)
def xl_L13 : List xq_X := [(9, 21, 0, 9, 9), (9, 160, 0, 9, 10), (9, 163, 0, 9, 11), (9, 166, 0, 9, 12), (9, 33, 0, 9, 13), (9, 30, 0, 9, 14), (9, 24, 0, 9, 15), (9, 27, 0, 9, 16), (9, 73, 0, 9, 17), (9, 121, 0, 9, 18), (9, 40, 0, 9, 19), (9, 47, 0, 9, 20), (9, 60, 0, 9, 21), (9, 53, 0, 9, 22), (9, 56, 0, 9, 23), (9, 50, 0, 9, 24), (9, 85, 0, 9, 25), (9, 82, 0, 9, 26), (9, 92, 0, 9, 27), (9, 108, 0, 9, 28), (9, 104, 0, 9, 29), (9, 76, 0, 9, 30), (9, 79, 0, 9, 31), (9, 169, 0, 9, 32), (9, 172, 0, 9, 33)]
theorem xl_A13 : ∀ q ∈ xl_L13, xq_xm xk_M q := (List.forall_mem_cons.mpr ⟨xl_325, (List.forall_mem_cons.mpr ⟨xl_326, (List.forall_mem_cons.mpr ⟨xl_327, (List.forall_mem_cons.mpr ⟨xl_328, (List.forall_mem_cons.mpr ⟨xl_329, (List.forall_mem_cons.mpr ⟨xl_330, (List.forall_mem_cons.mpr ⟨xl_331, (List.forall_mem_cons.mpr ⟨xl_332, (List.forall_mem_cons.mpr ⟨xl_333, (List.forall_mem_cons.mpr ⟨xl_334, (List.forall_mem_cons.mpr ⟨xl_335, (List.forall_mem_cons.mpr ⟨xl_336, (List.forall_mem_cons.mpr ⟨xl_337, (List.forall_mem_cons.mpr ⟨xl_338, (List.forall_mem_cons.mpr ⟨xl_339, (List.forall_mem_cons.mpr ⟨xl_340, (List.forall_mem_cons.mpr ⟨xl_341, (List.forall_mem_cons.mpr ⟨xl_342, (List.forall_mem_cons.mpr ⟨xl_343, (List.forall_mem_cons.mpr ⟨xl_344, (List.forall_mem_cons.mpr ⟨xl_345, (List.forall_mem_cons.mpr ⟨xl_346, (List.forall_mem_cons.mpr ⟨xl_347, (List.forall_mem_cons.mpr ⟨xl_348, (List.forall_mem_cons.mpr ⟨xl_349, (fun _ h => absurd h List.not_mem_nil)⟩)⟩)⟩)⟩)⟩)⟩)⟩)⟩)⟩)⟩)⟩)⟩)⟩)⟩)⟩)⟩)⟩)⟩)⟩)⟩)⟩)⟩)⟩)⟩)⟩)
def xl_L14 : List xq_X := [(9, 175, 0, 9, 34), (9, 228, 0, 9, 35), (9, 231, 0, 9, 36), (9, 178, 0, 9, 37), (9, 181, 0, 9, 38), (9, 184, 0, 9, 39), (9, 187, 0, 9, 40), (9, 283, 0, 9, 41), (9, 286, 0, 9, 42), (9, 333, 0, 9, 43), (9, 190, 0, 9, 44), (9, 193, 0, 9, 45), (9, 196, 0, 9, 46), (9, 340, 0, 9, 47), (9, 343, 0, 9, 48), (9, 346, 0, 9, 49), (9, 349, 0, 9, 50), (9, 199, 0, 9, 51), (9, 202, 0, 9, 52), (9, 205, 0, 9, 53), (9, 208, 0, 9, 54), (11, 46, 1, 158, 0), (9, 215, 1, 157, 0), (9, 211, 1, 156, 0), (11, 50, 1, 162, 0)]
theorem xl_A14 : ∀ q ∈ xl_L14, xq_xm xk_M q := (List.forall_mem_cons.mpr ⟨xl_350, (List.forall_mem_cons.mpr ⟨xl_351, (List.forall_mem_cons.mpr ⟨xl_352, (List.forall_mem_cons.mpr ⟨xl_353, (List.forall_mem_cons.mpr ⟨xl_354, (List.forall_mem_cons.mpr ⟨xl_355, (List.forall_mem_cons.mpr ⟨xl_356, (List.forall_mem_cons.mpr ⟨xl_357, (List.forall_mem_cons.mpr ⟨xl_358, (List.forall_mem_cons.mpr ⟨xl_359, (List.forall_mem_cons.mpr ⟨xl_360, (List.forall_mem_cons.mpr ⟨xl_361, (List.forall_mem_cons.mpr ⟨xl_362, (List.forall_mem_cons.mpr ⟨xl_363, (List.forall_mem_cons.mpr ⟨xl_364, (List.forall_mem_cons.mpr ⟨xl_365, (List.forall_mem_cons.mpr ⟨xl_366, (List.forall_mem_cons.mpr ⟨xl_367, (List.forall_mem_cons.mpr ⟨xl_368, (List.forall_mem_cons.mpr ⟨xl_369, (List.forall_mem_cons.mpr ⟨xl_370, (List.forall_mem_cons.mpr ⟨xl_371, (List.forall_mem_cons.mpr ⟨xl_372, (List.forall_mem_cons.mpr ⟨xl_373, (List.forall_mem_cons.mpr ⟨xl_374, (fun _ h => absurd h List.not_mem_nil)⟩)⟩)⟩)⟩)⟩)⟩)⟩)⟩)⟩)⟩)⟩)⟩)⟩)⟩)⟩)⟩)⟩)⟩)⟩)⟩)⟩)⟩)⟩)⟩)⟩)
def xl_L15 : List xq_X := [(11, 54, 1, 163, 0), (9, 219, 1, 159, 0), (11, 58, 1, 164, 0), (11, 62, 1, 165, 0), (9, 222, 1, 160, 0), (11, 66, 1, 166, 0), (11, 70, 1, 174, 0), (9, 261, 1, 210, 0), (11, 74, 1, 175, 0), (11, 78, 1, 176, 0), (11, 82, 1, 177, 0), (9, 264, 1, 173, 0), (9, 249, 1, 172, 0), (9, 253, 1, 171, 0), (9, 257, 1, 170, 0), (9, 241, 1, 168, 0), (9, 225, 1, 167, 0), (9, 245, 1, 169, 0), (9, 235, 11, 0, 0), (11, 86, 1, 179, 0), (9, 267, 1, 178, 0), (11, 90, 1, 180, 0), (11, 94, 1, 181, 0), (11, 98, 1, 183, 0), (9, 270, 1, 161, 0)]
theorem xl_A15 : ∀ q ∈ xl_L15, xq_xm xk_M q := (List.forall_mem_cons.mpr ⟨xl_375, (List.forall_mem_cons.mpr ⟨xl_376, (List.forall_mem_cons.mpr ⟨xl_377, (List.forall_mem_cons.mpr ⟨xl_378, (List.forall_mem_cons.mpr ⟨xl_379, (List.forall_mem_cons.mpr ⟨xl_380, (List.forall_mem_cons.mpr ⟨xl_381, (List.forall_mem_cons.mpr ⟨xl_382, (List.forall_mem_cons.mpr ⟨xl_383, (List.forall_mem_cons.mpr ⟨xl_384, (List.forall_mem_cons.mpr ⟨xl_385, (List.forall_mem_cons.mpr ⟨xl_386, (List.forall_mem_cons.mpr ⟨xl_387, (List.forall_mem_cons.mpr ⟨xl_388, (List.forall_mem_cons.mpr ⟨xl_389, (List.forall_mem_cons.mpr ⟨xl_390, (List.forall_mem_cons.mpr ⟨xl_391, (List.forall_mem_cons.mpr ⟨xl_392, (List.forall_mem_cons.mpr ⟨xl_393, (List.forall_mem_cons.mpr ⟨xl_394, (List.forall_mem_cons.mpr ⟨xl_395, (List.forall_mem_cons.mpr ⟨xl_396, (List.forall_mem_cons.mpr ⟨xl_397, (List.forall_mem_cons.mpr ⟨xl_398, (List.forall_mem_cons.mpr ⟨xl_399, (fun _ h => absurd h List.not_mem_nil)⟩)⟩)⟩)⟩)⟩)⟩)⟩)⟩)⟩)⟩)⟩)⟩)⟩)⟩)⟩)⟩)⟩)⟩)⟩)⟩)⟩)⟩)⟩)⟩)⟩)
def xl_L16 : List xq_X := [(9, 273, 1, 182, 0), (11, 102, 1, 184, 0), (11, 106, 1, 185, 0), (11, 110, 1, 186, 0), (11, 115, 1, 193, 0), (9, 295, 1, 192, 0), (9, 298, 1, 191, 0), (9, 279, 1, 187, 0), (9, 289, 1, 190, 0), (9, 276, 1, 189, 0), (9, 293, 1, 188, 0), (11, 119, 1, 194, 0), (11, 123, 1, 195, 0), (11, 127, 1, 196, 0), (11, 131, 1, 197, 0), (11, 136, 1, 199, 0), (9, 306, 1, 198, 0), (9, 302, 10, 1000000000, 0), (9, 304, 10, 100, 0), (9, 310, 10, 4611686018427387904, 1), (11, 140, 1, 200, 0), (9, 312, 10, 1000000, 0), (11, 144, 1, 201, 0), (9, 314, 10, 1, 1), (11, 148, 1, 204, 0)]
theorem xl_A16 : ∀ q ∈ xl_L16, xq_xm xk_M q := (List.forall_mem_cons.mpr ⟨xl_400, (List.forall_mem_cons.mpr ⟨xl_401, (List.forall_mem_cons.mpr ⟨xl_402, (List.forall_mem_cons.mpr ⟨xl_403, (List.forall_mem_cons.mpr ⟨xl_404, (List.forall_mem_cons.mpr ⟨xl_405, (List.forall_mem_cons.mpr ⟨xl_406, (List.forall_mem_cons.mpr ⟨xl_407, (List.forall_mem_cons.mpr ⟨xl_408, (List.forall_mem_cons.mpr ⟨xl_409, (List.forall_mem_cons.mpr ⟨xl_410, (List.forall_mem_cons.mpr ⟨xl_411, (List.forall_mem_cons.mpr ⟨xl_412, (List.forall_mem_cons.mpr ⟨xl_413, (List.forall_mem_cons.mpr ⟨xl_414, (List.forall_mem_cons.mpr ⟨xl_415, (List.forall_mem_cons.mpr ⟨xl_416, (List.forall_mem_cons.mpr ⟨xl_417, (List.forall_mem_cons.mpr ⟨xl_418, (List.forall_mem_cons.mpr ⟨xl_419, (List.forall_mem_cons.mpr ⟨xl_420, (List.forall_mem_cons.mpr ⟨xl_421, (List.forall_mem_cons.mpr ⟨xl_422, (List.forall_mem_cons.mpr ⟨xl_423, (List.forall_mem_cons.mpr ⟨xl_424, (fun _ h => absurd h List.not_mem_nil)⟩)⟩)⟩)⟩)⟩)⟩)⟩)⟩)⟩)⟩)⟩)⟩)⟩)⟩)⟩)⟩)⟩)⟩)⟩)⟩)⟩)⟩)⟩)⟩)⟩)
def xl_L17 : List xq_X := [(9, 322, 9, 99999, 0), (9, 323, 1, 203, 0), (9, 326, 1, 202, 0), (9, 316, 10, 48271, 0), (9, 318, 10, 2147483647, 0), (9, 320, 10, 2, 0), (11, 153, 1, 206, 0), (9, 330, 1, 205, 0), (11, 157, 1, 208, 0), (9, 336, 1, 207, 0), (11, 161, 1, 209, 0), (11, 165, 1, 211, 0), (11, 169, 1, 212, 0), (11, 173, 1, 213, 0), (11, 177, 1, 214, 0), (9, 352, 10, 3, 0), (9, 354, 1, 164, 0), (11, 181, 1, 215, 0)]
theorem xl_A17 : ∀ q ∈ xl_L17, xq_xm xk_M q := (List.forall_mem_cons.mpr ⟨xl_425, (List.forall_mem_cons.mpr ⟨xl_426, (List.forall_mem_cons.mpr ⟨xl_427, (List.forall_mem_cons.mpr ⟨xl_428, (List.forall_mem_cons.mpr ⟨xl_429, (List.forall_mem_cons.mpr ⟨xl_430, (List.forall_mem_cons.mpr ⟨xl_431, (List.forall_mem_cons.mpr ⟨xl_432, (List.forall_mem_cons.mpr ⟨xl_433, (List.forall_mem_cons.mpr ⟨xl_434, (List.forall_mem_cons.mpr ⟨xl_435, (List.forall_mem_cons.mpr ⟨xl_436, (List.forall_mem_cons.mpr ⟨xl_437, (List.forall_mem_cons.mpr ⟨xl_438, (List.forall_mem_cons.mpr ⟨xl_439, (List.forall_mem_cons.mpr ⟨xl_440, (List.forall_mem_cons.mpr ⟨xl_441, (List.forall_mem_cons.mpr ⟨xl_442, (fun _ h => absurd h List.not_mem_nil)⟩)⟩)⟩)⟩)⟩)⟩)⟩)⟩)⟩)⟩)⟩)⟩)⟩)⟩)⟩)⟩)⟩)⟩)
def xl_L : List xq_X := xl_L0 ++ (xl_L1 ++ (xl_L2 ++ (xl_L3 ++ (xl_L4 ++ (xl_L5 ++ (xl_L6 ++ (xl_L7 ++ (xl_L8 ++ (xl_L9 ++ (xl_L10 ++ (xl_L11 ++ (xl_L12 ++ (xl_L13 ++ (xl_L14 ++ (xl_L15 ++ (xl_L16 ++ (xl_L17)))))))))))))))))
theorem xl_A : ∀ q ∈ xl_L, xq_xm xk_M q := fun q h => by
  unfold xl_L at h
  simp only [List.mem_append] at h
  rcases h with h | h | h | h | h | h | h | h | h | h | h | h | h | h | h | h | h | h
  · exact xl_A0 q h
  · exact xl_A1 q h
  · exact xl_A2 q h
  · exact xl_A3 q h
  · exact xl_A4 q h
  · exact xl_A5 q h
  · exact xl_A6 q h
  · exact xl_A7 q h
  · exact xl_A8 q h
  · exact xl_A9 q h
  · exact xl_A10 q h
  · exact xl_A11 q h
  · exact xl_A12 q h
  · exact xl_A13 q h
  · exact xl_A14 q h
  · exact xl_A15 q h
  · exact xl_A16 q h
  · exact xl_A17 q h
