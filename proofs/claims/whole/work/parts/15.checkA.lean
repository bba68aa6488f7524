/-! every instruction, put together -/
theorem rg_mem {a b i : Nat} (h1 : a ≤ i) (h2 : i < b) : i ∈ (List.range b).drop a := by
  rw [List.mem_iff_getElem?]
  refine ⟨i - a, ?_⟩
  rw [List.getElem?_drop, List.getElem?_range (by omega)]
  rw [show a + (i - a) = i by omega]
theorem x_okA : ∀ i, i < 282 → ∀ pc, x_okB i pc = true := by
  intro i hi pc
  by_cases hp : xln i ≤ pc
  · unfold x_okB
    rw [xk_out hp]
    rfl
  · have key : ((List.range (xln i)).all fun pc => x_okB i pc) = true := by
      by_cases h0 : i < 15
      · exact List.all_eq_true.mp okh_0 i (rg_mem (by omega) h0)
      by_cases h1 : i < 29
      · exact List.all_eq_true.mp okh_1 i (rg_mem (by omega) h1)
      by_cases h2 : i < 39
      · exact List.all_eq_true.mp okh_2 i (rg_mem (by omega) h2)
      by_cases h3 : i < 49
      · exact List.all_eq_true.mp okh_3 i (rg_mem (by omega) h3)
      by_cases h4 : i < 69
      · exact List.all_eq_true.mp okh_4 i (rg_mem (by omega) h4)
      by_cases h5 : i < 80
      · exact List.all_eq_true.mp okh_5 i (rg_mem (by omega) h5)
      by_cases h6 : i < 91
      · exact List.all_eq_true.mp okh_6 i (rg_mem (by omega) h6)
      by_cases h7 : i < 107
      · exact List.all_eq_true.mp okh_7 i (rg_mem (by omega) h7)
      by_cases h8 : i < 115
      · exact List.all_eq_true.mp okh_8 i (rg_mem (by omega) h8)
      by_cases h9 : i < 128
      · exact List.all_eq_true.mp okh_9 i (rg_mem (by omega) h9)
      by_cases h10 : i < 145
      · exact List.all_eq_true.mp okh_10 i (rg_mem (by omega) h10)
      by_cases h11 : i < 157
      · exact List.all_eq_true.mp okh_11 i (rg_mem (by omega) h11)
      by_cases h12 : i < 175
      · exact List.all_eq_true.mp okh_12 i (rg_mem (by omega) h12)
      by_cases h13 : i < 182
      · exact List.all_eq_true.mp okh_13 i (rg_mem (by omega) h13)
      by_cases h14 : i < 192
      · exact List.all_eq_true.mp okh_14 i (rg_mem (by omega) h14)
      by_cases h15 : i < 206
      · exact List.all_eq_true.mp okh_15 i (rg_mem (by omega) h15)
      by_cases h16 : i < 217
      · exact List.all_eq_true.mp okh_16 i (rg_mem (by omega) h16)
      by_cases h17 : i < 224
      · exact List.all_eq_true.mp okh_17 i (rg_mem (by omega) h17)
      by_cases h18 : i < 238
      · exact List.all_eq_true.mp okh_18 i (rg_mem (by omega) h18)
      by_cases h19 : i < 245
      · exact List.all_eq_true.mp okh_19 i (rg_mem (by omega) h19)
      by_cases h20 : i < 262
      · exact List.all_eq_true.mp okh_20 i (rg_mem (by omega) h20)
      by_cases h21 : i < 266
      · exact List.all_eq_true.mp okh_21 i (rg_mem (by omega) h21)
      by_cases h22 : i < 277
      · exact List.all_eq_true.mp okh_22 i (rg_mem (by omega) h22)
      by_cases h23 : i < 282
      · exact List.all_eq_true.mp okh_23 i (rg_mem (by omega) h23)
      exact absurd hi (by omega)
    exact List.all_eq_true.mp key pc (List.mem_range.mpr (by omega))
