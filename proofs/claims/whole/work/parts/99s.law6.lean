/-! THE BEGINNING: the constants, as the Statement gives them -/
def nwL : List Cond := flatC (Jvm.Cond.and given_1 narrow_1)
theorem nw_ex : ∀ i : Fin 21, nwL[([30, 33, 37, 47, 87, 53, 60, 68, 77, 285, 263, 98, 123, 137, 152, 168, 110, 185, 203, 222, 242] : List Nat).getD i.val 0]? = some (Cond.exactly (.static "DebtTable$Word" (x_nms.getD i.val "") "LDebtTable$Word;") "DebtTable$Word") := by decide +kernel
theorem nw_od : ∀ i : Fin 21, nwL[([31, 34, 38, 48, 88, 54, 61, 69, 78, 286, 264, 99, 124, 138, 153, 169, 111, 186, 204, 223, 243] : List Nat).getD i.val 0]? = some (Cond.eq (.field (.static "DebtTable$Word" (x_nms.getD i.val "") "LDebtTable$Word;") "java/lang/Enum" "ordinal" "I") (.int (([0, 1, 2, 3, 4, 5, 6, 7, 8, 9, 10, 11, 12, 13, 14, 15, 16, 17, 18, 19, 20] : List Int32).getD i.val 0))) := by decide +kernel
theorem nw_le : ∀ i : Fin 21, nwL[([32, 35, 39, 49, 89, 55, 62, 70, 79, 287, 265, 100, 125, 139, 154, 170, 112, 187, 205, 224, 244] : List Nat).getD i.val 0]? = some (Cond.eq (.field (.static "DebtTable$Word" (x_nms.getD i.val "") "LDebtTable$Word;") "DebtTable$Word" "letters" "J") (.long (x_lets i.val))) := by decide +kernel
theorem nw_al : ∀ i : Fin 21, nwL[([9, 10, 11, 12, 13, 14, 15, 16, 17, 18, 19, 20, 21, 22, 23, 24, 25, 26, 27, 28, 29] : List Nat).getD i.val 0]? = some (Cond.eq (.elem (.static "DebtTable$Word" "ALL" "[LDebtTable$Word;") (.int (Int32.ofNat i.val))) (.static "DebtTable$Word" (x_nms.getD i.val "") "LDebtTable$Word;")) := by decide +kernel
theorem nw_sw : ∀ i : Fin 21, nwL[([311, 312, 313, 314, 315, 316, 317, 318, 319, 320, 321, 322, 323, 324, 325, 326, 327, 328, 329, 330, 331] : List Nat).getD i.val 0]? = some (Cond.eq (.elem (.static "DebtTable$1" "$SwitchMap$DebtTable$Word" "[I") (.int (Int32.ofNat i.val))) (.int (x_swm i.val))) := by decide +kernel
def nwP : List Nat := ([0, 36, 40, 50, 90, 56, 63, 71, 80, 288, 266, 101, 126, 140, 155, 171, 113, 188, 206, 225, 245, 0, 0, 41, 51, 91, 57, 64, 72, 81, 289, 267, 102, 127, 141, 156, 172, 114, 189, 207, 226, 246, 0, 0, 0, 52, 92, 58, 65, 73, 82, 290, 268, 103, 128, 142, 157, 173, 115, 190, 208, 227, 247, 0, 0, 0, 0, 93, 59, 66, 74, 83, 291, 269, 104, 129, 143, 158, 174, 116, 191, 209, 228, 248, 0, 0, 0, 0, 0, 0, 0, 0, 0, 296, 274, 109, 134, 148, 163, 179, 121, 196, 214, 233, 253, 0, 0, 0, 0, 94, 0, 67, 75, 84, 292, 270, 105, 130, 144, 159, 175, 117, 192, 210, 229, 249, 0, 0, 0, 0, 95, 0, 0, 76, 85, 293, 271, 106, 131, 145, 160, 176, 118, 193, 211, 230, 250, 0, 0, 0, 0, 96, 0, 0, 0, 86, 294, 272, 107, 132, 146, 161, 177, 119, 194, 212, 231, 251, 0, 0, 0, 0, 97, 0, 0, 0, 0, 295, 273, 108, 133, 147, 162, 178, 120, 195, 213, 232, 252, 0, 0, 0, 0, 0, 0, 0, 0, 0, 0, 0, 0, 0, 0, 0, 0, 0, 0, 0, 0, 0, 0, 0, 0, 0, 0, 0, 0, 0, 0, 307, 0, 0, 0, 0, 0, 0, 0, 0, 0, 0, 0, 0, 0, 0, 0, 0, 0, 0, 0, 0, 297, 275, 0, 135, 149, 164, 180, 122, 197, 215, 234, 254, 0, 0, 0, 0, 0, 0, 0, 0, 0, 299, 277, 0, 0, 151, 166, 182, 0, 199, 217, 236, 256, 0, 0, 0, 0, 0, 0, 0, 0, 0, 300, 278, 0, 0, 0, 167, 183, 0, 200, 218, 237, 257, 0, 0, 0, 0, 0, 0, 0, 0, 0, 301, 279, 0, 0, 0, 0, 184, 0, 201, 219, 238, 258, 0, 0, 0, 0, 0, 0, 0, 0, 0, 302, 280, 0, 0, 0, 0, 0, 0, 202, 220, 239, 259, 0, 0, 0, 0, 0, 0, 0, 0, 0, 298, 276, 0, 136, 150, 165, 181, 0, 198, 216, 235, 255, 0, 0, 0, 0, 0, 0, 0, 0, 0, 303, 281, 0, 0, 0, 0, 0, 0, 0, 221, 240, 260, 0, 0, 0, 0, 0, 0, 0, 0, 0, 304, 282, 0, 0, 0, 0, 0, 0, 0, 0, 241, 261, 0, 0, 0, 0, 0, 0, 0, 0, 0, 305, 283, 0, 0, 0, 0, 0, 0, 0, 0, 0, 262, 0, 0, 0, 0, 0, 0, 0, 0, 0, 306, 284, 0, 0, 0, 0, 0, 0, 0, 0, 0, 0] : List Nat)
theorem nw_ne : ∀ i : Fin 21, ∀ j : Fin 21, i ≠ j → (nwL[nwP.getD (21 * i.val + j.val) 0]? = some (Cond.not (.eq (.static "DebtTable$Word" (x_nms.getD i.val "") "LDebtTable$Word;") (.static "DebtTable$Word" (x_nms.getD j.val "") "LDebtTable$Word;")))) ∨ (nwL[nwP.getD (21 * j.val + i.val) 0]? = some (Cond.not (.eq (.static "DebtTable$Word" (x_nms.getD j.val "") "LDebtTable$Word;") (.static "DebtTable$Word" (x_nms.getD i.val "") "LDebtTable$Word;")))) := by decide +kernel
theorem nw_ly : ∀ i : Fin 21, lw_tbl[([526, 554, 569, 1025, 1042, 1027, 1029, 1031, 1033, 1174, 1172, 1126, 1134, 1136, 1138, 1140, 1128, 1146, 1148, 1150, 1152] : List Nat).getD i.val 0]? = some (Cond.laysStatic "DebtTable$Word" (x_nms.getD i.val "") "LDebtTable$Word;") := by decide +kernel
theorem nw_kx : ∀ i : Fin 4, nwL[([392, 402, 408, 418] : List Nat).getD i.val 0]? = some (Cond.exactly (.string "DebtTable$Line" (x_txk i.val)) "java/lang/String") := by decide +kernel
theorem nw_kc : ∀ i : Fin 4, nwL[([393, 403, 409, 419] : List Nat).getD i.val 0]? = some (Cond.eq (.field (.string "DebtTable$Line" (x_txk i.val)) "java/lang/String" "coder" "B") (.int 0)) := by decide +kernel
theorem nw_ka : ∀ i : Fin 4, nwL[([394, 404, 410, 420] : List Nat).getD i.val 0]? = some (Cond.arrayOf (.field (.string "DebtTable$Line" (x_txk i.val)) "java/lang/String" "value" "[B") .byte) := by decide +kernel
theorem nw_kl : ∀ i : Fin 4, nwL[([395, 405, 411, 421] : List Nat).getD i.val 0]? = some (Cond.eq (.length (.field (.string "DebtTable$Line" (x_txk i.val)) "java/lang/String" "value" "[B")) (.int (Int32.ofNat (([6, 1, 4, 5] : List Nat).getD i.val 0)))) := by decide +kernel
theorem nw_ke : ∀ i : Fin 4, ∀ j : Fin 6, j.val < ([6, 1, 4, 5] : List Nat).getD i.val 0 → nwL[(([[396, 397, 398, 399, 400, 401], [406], [412, 413, 414, 415], [422, 423, 424, 425, 426]] : List (List Nat)).getD i.val []).getD j.val 0]? = some (Cond.eq (.elem (.field (.string "DebtTable$Line" (x_txk i.val)) "java/lang/String" "value" "[B") (.int (Int32.ofNat j.val))) (.int ((([x_str 0, x_str 1, x_str 2, x_str 3] : List (List Int32)).getD i.val []).getD j.val 0))) := by decide +kernel
def nwK : List Nat := ([0, 407, 416, 427, 0, 0, 417, 428, 0, 0, 0, 429, 0, 0, 0, 0] : List Nat)
theorem nw_kn : ∀ i : Fin 4, ∀ j : Fin 4, i ≠ j → (nwL[nwK.getD (4 * i.val + j.val) 0]? = some (Cond.not (.eq (.string "DebtTable$Line" (x_txk i.val)) (.string "DebtTable$Line" (x_txk j.val))))) ∨ (nwL[nwK.getD (4 * j.val + i.val) 0]? = some (Cond.not (.eq (.string "DebtTable$Line" (x_txk j.val)) (.string "DebtTable$Line" (x_txk i.val))))) := by decide +kernel
theorem nw_sr : ∀ i : Fin 4, lw_tbl[([938, 992, 997, 998] : List Nat).getD i.val 0]? = some (Cond.stringRef "DebtTable$Line" (x_txk i.val) (x_tx i.val)) := by decide +kernel
theorem x_con0 {s : State} {b : Nat} (hts : ∀ w ∈ lw_tbl, w.before #[Value.ref b] s = true) (hgv : (Jvm.Cond.and given_1 narrow_1).before #[Value.ref b] s = true) : ∃ ad0 adV : Nat → Nat, (∀ k, 2000000 ≤ k → ad0 k = k - 2000000) ∧ x_con ad0 adV (fun q => s.heap.size ≤ q) s s.heap := by
  have hn : ∀ w ∈ nwL, w.before #[Value.ref b] s = true := flat_of_before _ hgv
  have hA : ∀ a : Nat, a < s.heap.size → ¬ (fun q => s.heap.size ≤ q) a := fun a ha h => absurd ha (Nat.not_lt.mpr h)
  have hat : ∀ {k : Nat} {w : Cond}, nwL[k]? = some w → w.before #[Value.ref b] s = true := fun h => hn _ (List.mem_of_getElem? h)
  have htb : ∀ {k : Nat} {w : Cond}, lw_tbl[k]? = some w → w.before #[Value.ref b] s = true := fun h => hts _ (List.mem_of_getElem? h)
  have iW : (Cond.initialized "DebtTable$Word").before #[Value.ref b] s = true := htb (k := 121) (by decide +kernel)
  obtain ⟨ad1, hE, hev⟩ := va_Enof2 (args := #[Value.ref b]) (s := s) (E := "DebtTable$Word") (d := "LDebtTable$Word;") (nm := x_nms) (F := x_Fo) (A := fun q => s.heap.size ≤ q) (fun i hi => htb (nw_ly ⟨i, hi⟩)) iW (fun i hi => hat (nw_ex ⟨i, hi⟩)) (fun q hq i hi => by
    simp only [x_Fo, List.mem_singleton] at hq
    subst hq
    exact hat (nw_od ⟨i, hi⟩)) (fun i j hi hj hij => (nw_ne ⟨i, hi⟩ ⟨j, hj⟩ (fun h => hij (Fin.mk.inj h))).imp hat hat) hA
  have hEf : va_Ef 21 "DebtTable$Word" "letters" "J" (fun i => .long (x_lets i)) ad1 (fun q => s.heap.size ≤ q) s s.heap := va_Efof (args := #[Value.ref b]) (nm := x_nms) (tm := fun i => .long (x_lets i)) hev (fun i hi => hat (nw_le ⟨i, hi⟩)) (fun i hi => rfl) hA
  obtain ⟨tA, hA1, hA2⟩ := va_Tof (args := #[Value.ref b]) (tm := .static "DebtTable$Word" "ALL" "[LDebtTable$Word;") (ty := .object "DebtTable$Word") (N := 21) (f := fun j => .ref (ad1 j)) (A := fun q => s.heap.size ≤ q) (by decide) (hat (k := 6) (by decide +kernel)) (va_eqt (hat (k := 7) (by decide +kernel))) (fun j hj => va_eqv (hat (nw_al ⟨j, hj⟩)) (hev j hj)) hA
  have hZ1 := va_Zref (A := fun q => s.heap.size ≤ q) (htb (k := 488) (by decide +kernel)) iW hA1 hA
  have iS : (Cond.initialized "DebtTable$1").before #[Value.ref b] s = true := htb (k := 136) (by decide +kernel)
  obtain ⟨tS, hS1, hS2⟩ := va_Tof (args := #[Value.ref b]) (tm := .static "DebtTable$1" "$SwitchMap$DebtTable$Word" "[I") (ty := .int) (N := 21) (f := fun j => .int (x_swm j)) (A := fun q => s.heap.size ≤ q) (by decide) (hat (k := 309) (by decide +kernel)) (va_eqt (hat (k := 310) (by decide +kernel))) (fun j hj => va_eqt (hat (nw_sw ⟨j, hj⟩))) hA
  have hZ2 := va_Zref (A := fun q => s.heap.size ≤ q) (htb (k := 1197) (by decide +kernel)) iS hS1 hA
  obtain ⟨adK, adV, hK, hKe⟩ := vk_Sof (args := #[Value.ref b]) (s := s) (N := 4) (tm := fun i => .string "DebtTable$Line" (x_txk i)) (len := [6, 1, 4, 5]) (byt := [x_str 0, x_str 1, x_str 2, x_str 3]) (A := fun q => s.heap.size ≤ q) (by decide) (fun i hi => hat (nw_kx ⟨i, hi⟩)) (fun i hi => hat (nw_kc ⟨i, hi⟩)) (fun i hi => hat (nw_ka ⟨i, hi⟩)) (fun i hi => hat (nw_kl ⟨i, hi⟩)) (fun i hi j hj => hat (nw_ke ⟨i, hi⟩ ⟨j, by
      rcases (show i = 0 ∨ i = 1 ∨ i = 2 ∨ i = 3 by omega) with rfl | rfl | rfl | rfl <;> simp at hj <;> omega⟩ hj)) (fun i j hi hj hij => (nw_kn ⟨i, hi⟩ ⟨j, hj⟩ (fun h => hij (Fin.mk.inj h))).imp hat hat) hA
  have hC : va_Z "java/lang/String" "COMPACT_STRINGS" "Z" (.int 1) (fun q => s.heap.size ≤ q) s s.heap := va_Zof (htb (k := 952) (by decide +kernel)) (htb (k := 130) (by decide +kernel)) (va_eqt (hat (k := 42) (by decide +kernel))) hA
  have hP : va_Zq "jdk/internal/util/Preconditions" "SIOOBE_FORMATTER" "Ljava/util/function/BiFunction;" (fun q => s.heap.size ≤ q) s s.heap := va_Zqof (htb (k := 968) (by decide +kernel)) (htb (k := 132) (by decide +kernel)) (hat (k := 43) (by decide +kernel)) hA
  refine ⟨fun k => if k < 1000100 then ad1 (k - 1000000) else if k = 1000100 then tA else if k = 1000101 then tS else if k < 2000000 then adK (k - 1000200) else k - 2000000, adV, fun k hk => ?_, ?_⟩
  · show (if k < 1000100 then _ else _) = _
    rw [if_neg (by omega), if_neg (by omega), if_neg (by omega), if_neg (by omega)]
  have e1 : ∀ i, i < 21 → (if 1000000 + i < 1000100 then ad1 (1000000 + i - 1000000) else if 1000000 + i = 1000100 then tA else if 1000000 + i = 1000101 then tS else if 1000000 + i < 2000000 then adK (1000000 + i - 1000200) else 1000000 + i - 2000000) = ad1 i := fun i hi => by
    rw [if_pos (by omega), Nat.add_sub_cancel_left]
  have e2 : ∀ i, i < 4 → (if 1000200 + i < 1000100 then ad1 (1000200 + i - 1000000) else if 1000200 + i = 1000100 then tA else if 1000200 + i = 1000101 then tS else if 1000200 + i < 2000000 then adK (1000200 + i - 1000200) else 1000200 + i - 2000000) = adK i := fun i hi => by
    rw [if_neg (by omega), if_neg (by omega), if_neg (by omega), if_pos (by omega), Nat.add_sub_cancel_left]
  have e3 : (if 1000100 < 1000100 then ad1 (1000100 - 1000000) else if 1000100 = 1000100 then tA else if 1000100 = 1000101 then tS else if 1000100 < 2000000 then adK (1000100 - 1000200) else 1000100 - 2000000) = tA := rfl
  have e4 : (if 1000101 < 1000100 then ad1 (1000101 - 1000000) else if 1000101 = 1000100 then tA else if 1000101 = 1000101 then tS else if 1000101 < 2000000 then adK (1000101 - 1000200) else 1000101 - 2000000) = tS := rfl
  refine ⟨⟨fun i hi => ?_, fun i j hi hj h => ?_⟩, fun i hi => ?_, ?_, ?_, ?_, ?_, ⟨fun i hi => ?_, fun i j hi hj h => ?_⟩, fun i hi => ?_, hC, hP⟩
  · dsimp only
    rw [e1 i hi]
    exact hE.1 i hi
  · dsimp only at h
    rw [e1 i hi, e1 j hj] at h
    exact hE.2 i j hi hj h
  · dsimp only
    rw [e1 i hi]
    exact hEf i hi
  · dsimp only
    rw [e3]
    exact hZ1
  · dsimp only
    rw [e3]
    obtain ⟨cell, q1, q2, q3, q4, q5, q6, q7⟩ := hA2
    exact ⟨cell, q1, q2, q3, q4, q5, fun j hj => (q6 j hj).trans (congrArg (fun q => some (Value.ref q)) (e1 j hj).symm), q7⟩
  · dsimp only
    rw [e4]
    exact hZ2
  · dsimp only
    rw [e4]
    exact hS2
  · dsimp only
    rw [e2 i hi]
    exact hK.1 i hi
  · dsimp only at h
    rw [e2 i hi, e2 j hj] at h
    exact hK.2 i j hi hj h
  · dsimp only
    rw [e2 i hi]
    exact vk_R.of (htb (nw_sr ⟨i, hi⟩)) (hKe i hi)
theorem x_St0 {s : State} {b : Nat} (hts : ∀ w ∈ lw_tbl, w.before #[Value.ref b] s = true) (hgv : (Jvm.Cond.and given_1 narrow_1).before #[Value.ref b] s = true) : ∃ (D : va_G) (ad0 adV : Nat → Nat), (∀ k, 2000000 ≤ k → ad0 k = k - 2000000) ∧ x_St D ad0 adV (fun q => s.heap.size ≤ q) s := by
  obtain ⟨ad0, adV, hz, hcon⟩ := x_con0 hts hgv
  have hTG : ∀ w ∈ TG, w.before #[Value.ref b] s = true := fun w hw => hts w (List.mem_filter.mp hw).1
  have htb : ∀ {k : Nat} {w : Cond}, lw_tbl[k]? = some w → w.before #[Value.ref b] s = true := fun h => hts _ (List.mem_of_getElem? h)
  obtain ⟨c0, i0, k0⟩ := u_known (C := RX1) (T := TX1) (N := 1) (n := 1) hTG in_1 (htb (k := 777) (by decide +kernel))
  obtain ⟨c1, i1, k1⟩ := u_known (C := RX2) (T := TX2) (N := 10) (n := 10) hTG in_2 (htb (k := 324) (by decide +kernel))
  obtain ⟨c2, i2, k2⟩ := u_known (C := RX3) (T := TX3) (N := 2) (n := 2) hTG in_3 (htb (k := 366) (by decide +kernel))
  obtain ⟨c3, i3, k3⟩ := u_known (C := RX4) (T := TX4) (N := 3) (n := 3) hTG in_4 (htb (k := 277) (by decide +kernel))
  obtain ⟨c4, i4, k4⟩ := u_known (C := RX5) (T := TX5) (N := 4) (n := 4) hTG in_5 (htb (k := 380) (by decide +kernel))
  obtain ⟨c5, i5, k5⟩ := u_known (C := RX6) (T := TX6) (N := 4) (n := 4) hTG in_6 (htb (k := 1089) (by decide +kernel))
  obtain ⟨c6, i6, k6⟩ := u_known (C := RX7) (T := TX7) (N := 14) (n := 14) hTG in_7 (htb (k := 201) (by decide +kernel))
  obtain ⟨c7, i7, k7⟩ := u_known (C := RX8) (T := TX8) (N := 3) (n := 3) hTG in_8 (htb (k := 494) (by decide +kernel))
  obtain ⟨c8, i8, k8⟩ := u_known (C := RX9) (T := TX9) (N := 12) (n := 12) hTG in_9 (htb (k := 146) (by decide +kernel))
  obtain ⟨c9, i9, k9⟩ := u_known (C := RX10) (T := TX10) (N := 6) (n := 6) hTG in_10 (htb (k := 297) (by decide +kernel))
  obtain ⟨c10, i10, k10⟩ := u_known (C := RX12) (T := TX12) (N := 16) (n := 16) hTG in_12 (htb (k := 138) (by decide +kernel))
  obtain ⟨c11, i11, k11⟩ := u_known (C := RX13) (T := TX13) (N := 44) (n := 44) hTG in_13 (htb (k := 1339) (by decide +kernel))
  refine ⟨(fun k => ([c0, c1, c2, c3, c4, c5, c6, c7, c8, c9, c10, c11] : List ClassId).getD k c0, fun k => ([i0, i1, i2, i3, i4, i5, i6, i7, i8, i9, i10, i11] : List (Nat → Nat)).getD k i0), ad0, adV, hz, ⟨fun k q hq => ?_, fun k q h => by simp at h⟩, fun w hw => ?_, ⟨?_, ?_, ?_⟩, hcon⟩
  · match k, hq with
    | 0, hq => cases hq; exact k0
    | 1, hq => cases hq; exact k1
    | 2, hq => cases hq; exact k2
    | 3, hq => cases hq; exact k3
    | 4, hq => cases hq; exact k4
    | 5, hq => cases hq; exact k5
    | 6, hq => cases hq; exact k6
    | 7, hq => cases hq; exact k7
    | 8, hq => cases hq; exact k8
    | 9, hq => cases hq; exact k9
    | 10, hq => cases hq; exact k10
    | 11, hq => cases hq; exact k11
    | k + 12, hq => simp at hq
  · obtain ⟨h1, h2⟩ := List.mem_filter.mp hw
    exact va_Nw.of (by cases w <;> simp only [x_isn] at h2 <;> first | rfl | cases h2) (hts w (List.mem_append_right _ h1))
  · exact va_AO.of (htb (k := 283) (w := .arrayOver (.object "DebtTable$Shire")) (by decide +kernel))
  · exact va_AO.of (htb (k := 386) (w := .arrayOver (.object "DebtTable$Word")) (by decide +kernel))
  · exact va_AO.of (htb (k := 401) (w := .arrayOver (.object "DebtTable$Sentence")) (by decide +kernel))
