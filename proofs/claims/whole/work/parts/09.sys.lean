/-! the two systems of objects; classes; methods -/
def SCl : List (Option (Nat ⊕ (FieldType × Nat))) := [none, some (.inl 11), some (.inl 3), some (.inr (.char, 200)), some (.inl 5), some (.inl 1), some (.inl 7), some (.inr (.int, 9)), some (.inr (.int, 9)), some (.inr (.int, 9)), some (.inr (.int, 9)), some (.inr (.int, 9)), some (.inr (.int, 9)), some (.inr (.int, 5)), some (.inl 1), some (.inl 7), some (.inr (.int, 9)), some (.inr (.int, 9)), some (.inr (.int, 9)), some (.inr (.int, 9)), some (.inr (.int, 9)), some (.inr (.int, 9)), some (.inl 4), some (.inr (.object "SumsThatDiffer$Standing", 8)), some (.inl 7), some (.inr (.int, 9)), some (.inr (.int, 9)), some (.inl 7), some (.inr (.int, 9)), some (.inr (.int, 9)), some (.inl 7), some (.inr (.int, 9)), some (.inr (.int, 9)), some (.inl 7), some (.inr (.int, 9)), some (.inr (.int, 9)), some (.inl 7), some (.inr (.int, 9)), some (.inr (.int, 9)), some (.inl 7), some (.inr (.int, 9)), some (.inr (.int, 9)), some (.inl 7), some (.inr (.int, 9)), some (.inr (.int, 9)), some (.inl 7), some (.inr (.int, 9)), some (.inr (.int, 9)), some (.inl 4), some (.inr (.object "SumsThatDiffer$Standing", 2)), some (.inl 7), some (.inr (.int, 9)), some (.inr (.int, 9)), some (.inl 7), some (.inr (.int, 9)), some (.inr (.int, 9)), some (.inl 9), some (.inl 0), some (.inr (.int, 5)), some (.inr (.int, 6)), some (.inr (.int, 6)), some (.inl 2), some (.inr (.int, 6)), some (.inr (.int, 6)), some (.inl 6), some (.inr (.int, 6)), some (.inr (.int, 6)), some (.inr (.int, 6)), some (.inr (.int, 6)), some (.inl 8), some (.inr (.int, 6)), some (.inr (.int, 6)), some (.inr (.int, 6)), some (.inr (.int, 6)), some (.inr (.int, 6)), some (.inr (.int, 6)), some (.inr (.boolean, 41)), some (.inr (.boolean, 41)), some (.inr (.boolean, 41)), some (.inr (.boolean, 41)), some (.inl 10), some (.inr (.int, 10))]
def SMl : List (Option (Nat ⊕ (FieldType × Nat))) := [none, some (.inl 12), some (.inr (.int, 59)), some (.inr (.int, 59)), some (.inr (.int, 22)), some (.inr (.int, 176)), some (.inr (.int, 44)), some (.inr (.int, 200)), some (.inr (.int, 30)), some (.inr (.int, 5)), some (.inr (.int, 6)), some (.inr (.int, 6)), some (.inr (.int, 6)), some (.inr (.int, 6)), some (.inr (.int, 6)), some (.inr (.int, 6)), some (.inr (.int, 6)), some (.inr (.int, 6)), some (.inr (.boolean, 2886)), some (.inr (.boolean, 2886)), some (.inr (.boolean, 1000))]
def SC : Sys := fun o => SCl.getD o none
def SM : Sys := fun o => SMl.getD o none
theorem SC_0 : SC 0 = none := rfl
theorem SC_1 : SC 1 = some (.inl 11) := rfl
theorem SC_2 : SC 2 = some (.inl 3) := rfl
theorem SC_3 : SC 3 = some (.inr (.char, 200)) := rfl
theorem SC_4 : SC 4 = some (.inl 5) := rfl
theorem SC_5 : SC 5 = some (.inl 1) := rfl
theorem SC_6 : SC 6 = some (.inl 7) := rfl
theorem SC_7 : SC 7 = some (.inr (.int, 9)) := rfl
theorem SC_8 : SC 8 = some (.inr (.int, 9)) := rfl
theorem SC_9 : SC 9 = some (.inr (.int, 9)) := rfl
theorem SC_10 : SC 10 = some (.inr (.int, 9)) := rfl
theorem SC_11 : SC 11 = some (.inr (.int, 9)) := rfl
theorem SC_12 : SC 12 = some (.inr (.int, 9)) := rfl
theorem SC_13 : SC 13 = some (.inr (.int, 5)) := rfl
theorem SC_14 : SC 14 = some (.inl 1) := rfl
theorem SC_15 : SC 15 = some (.inl 7) := rfl
theorem SC_16 : SC 16 = some (.inr (.int, 9)) := rfl
theorem SC_17 : SC 17 = some (.inr (.int, 9)) := rfl
theorem SC_18 : SC 18 = some (.inr (.int, 9)) := rfl
theorem SC_19 : SC 19 = some (.inr (.int, 9)) := rfl
theorem SC_20 : SC 20 = some (.inr (.int, 9)) := rfl
theorem SC_21 : SC 21 = some (.inr (.int, 9)) := rfl
theorem SC_22 : SC 22 = some (.inl 4) := rfl
theorem SC_23 : SC 23 = some (.inr (.object "SumsThatDiffer$Standing", 8)) := rfl
theorem SC_24 : SC 24 = some (.inl 7) := rfl
theorem SC_25 : SC 25 = some (.inr (.int, 9)) := rfl
theorem SC_26 : SC 26 = some (.inr (.int, 9)) := rfl
theorem SC_27 : SC 27 = some (.inl 7) := rfl
theorem SC_28 : SC 28 = some (.inr (.int, 9)) := rfl
theorem SC_29 : SC 29 = some (.inr (.int, 9)) := rfl
theorem SC_30 : SC 30 = some (.inl 7) := rfl
theorem SC_31 : SC 31 = some (.inr (.int, 9)) := rfl
theorem SC_32 : SC 32 = some (.inr (.int, 9)) := rfl
theorem SC_33 : SC 33 = some (.inl 7) := rfl
theorem SC_34 : SC 34 = some (.inr (.int, 9)) := rfl
theorem SC_35 : SC 35 = some (.inr (.int, 9)) := rfl
theorem SC_36 : SC 36 = some (.inl 7) := rfl
theorem SC_37 : SC 37 = some (.inr (.int, 9)) := rfl
theorem SC_38 : SC 38 = some (.inr (.int, 9)) := rfl
theorem SC_39 : SC 39 = some (.inl 7) := rfl
theorem SC_40 : SC 40 = some (.inr (.int, 9)) := rfl
theorem SC_41 : SC 41 = some (.inr (.int, 9)) := rfl
theorem SC_42 : SC 42 = some (.inl 7) := rfl
theorem SC_43 : SC 43 = some (.inr (.int, 9)) := rfl
theorem SC_44 : SC 44 = some (.inr (.int, 9)) := rfl
theorem SC_45 : SC 45 = some (.inl 7) := rfl
theorem SC_46 : SC 46 = some (.inr (.int, 9)) := rfl
theorem SC_47 : SC 47 = some (.inr (.int, 9)) := rfl
theorem SC_48 : SC 48 = some (.inl 4) := rfl
theorem SC_49 : SC 49 = some (.inr (.object "SumsThatDiffer$Standing", 2)) := rfl
theorem SC_50 : SC 50 = some (.inl 7) := rfl
theorem SC_51 : SC 51 = some (.inr (.int, 9)) := rfl
theorem SC_52 : SC 52 = some (.inr (.int, 9)) := rfl
theorem SC_53 : SC 53 = some (.inl 7) := rfl
theorem SC_54 : SC 54 = some (.inr (.int, 9)) := rfl
theorem SC_55 : SC 55 = some (.inr (.int, 9)) := rfl
theorem SC_56 : SC 56 = some (.inl 9) := rfl
theorem SC_57 : SC 57 = some (.inl 0) := rfl
theorem SC_58 : SC 58 = some (.inr (.int, 5)) := rfl
theorem SC_59 : SC 59 = some (.inr (.int, 6)) := rfl
theorem SC_60 : SC 60 = some (.inr (.int, 6)) := rfl
theorem SC_61 : SC 61 = some (.inl 2) := rfl
theorem SC_62 : SC 62 = some (.inr (.int, 6)) := rfl
theorem SC_63 : SC 63 = some (.inr (.int, 6)) := rfl
theorem SC_64 : SC 64 = some (.inl 6) := rfl
theorem SC_65 : SC 65 = some (.inr (.int, 6)) := rfl
theorem SC_66 : SC 66 = some (.inr (.int, 6)) := rfl
theorem SC_67 : SC 67 = some (.inr (.int, 6)) := rfl
theorem SC_68 : SC 68 = some (.inr (.int, 6)) := rfl
theorem SC_69 : SC 69 = some (.inl 8) := rfl
theorem SC_70 : SC 70 = some (.inr (.int, 6)) := rfl
theorem SC_71 : SC 71 = some (.inr (.int, 6)) := rfl
theorem SC_72 : SC 72 = some (.inr (.int, 6)) := rfl
theorem SC_73 : SC 73 = some (.inr (.int, 6)) := rfl
theorem SC_74 : SC 74 = some (.inr (.int, 6)) := rfl
theorem SC_75 : SC 75 = some (.inr (.int, 6)) := rfl
theorem SC_76 : SC 76 = some (.inr (.boolean, 41)) := rfl
theorem SC_77 : SC 77 = some (.inr (.boolean, 41)) := rfl
theorem SC_78 : SC 78 = some (.inr (.boolean, 41)) := rfl
theorem SC_79 : SC 79 = some (.inr (.boolean, 41)) := rfl
theorem SC_80 : SC 80 = some (.inl 10) := rfl
theorem SC_81 : SC 81 = some (.inr (.int, 10)) := rfl
theorem SM_0 : SM 0 = none := rfl
theorem SM_1 : SM 1 = some (.inl 12) := rfl
theorem SM_2 : SM 2 = some (.inr (.int, 59)) := rfl
theorem SM_3 : SM 3 = some (.inr (.int, 59)) := rfl
theorem SM_4 : SM 4 = some (.inr (.int, 22)) := rfl
theorem SM_5 : SM 5 = some (.inr (.int, 176)) := rfl
theorem SM_6 : SM 6 = some (.inr (.int, 44)) := rfl
theorem SM_7 : SM 7 = some (.inr (.int, 200)) := rfl
theorem SM_8 : SM 8 = some (.inr (.int, 30)) := rfl
theorem SM_9 : SM 9 = some (.inr (.int, 5)) := rfl
theorem SM_10 : SM 10 = some (.inr (.int, 6)) := rfl
theorem SM_11 : SM 11 = some (.inr (.int, 6)) := rfl
theorem SM_12 : SM 12 = some (.inr (.int, 6)) := rfl
theorem SM_13 : SM 13 = some (.inr (.int, 6)) := rfl
theorem SM_14 : SM 14 = some (.inr (.int, 6)) := rfl
theorem SM_15 : SM 15 = some (.inr (.int, 6)) := rfl
theorem SM_16 : SM 16 = some (.inr (.int, 6)) := rfl
theorem SM_17 : SM 17 = some (.inr (.int, 6)) := rfl
theorem SM_18 : SM 18 = some (.inr (.boolean, 2886)) := rfl
theorem SM_19 : SM 19 = some (.inr (.boolean, 2886)) := rfl
theorem SM_20 : SM 20 = some (.inr (.boolean, 1000)) := rfl
theorem CF_0 : CF 0 RX0 TX0 6 := by
  refine ⟨rfl, fun w hw => ?_, by decide +kernel, nmX0⟩
  obtain ⟨k, hk, rfl⟩ := List.mem_map.mp hw
  have hk := List.mem_range.mp hk
  match k, hk with
    | 0, _ => exact tw_272
    | 1, _ => exact tw_274
    | 2, _ => exact tw_276
    | 3, _ => exact tw_278
    | 4, _ => exact tw_280
    | 5, _ => exact tw_282
    | k + 6, h => omega
theorem CF_1 : CF 1 RX1 TX1 8 := by
  refine ⟨rfl, fun w hw => ?_, by decide +kernel, nmX1⟩
  obtain ⟨k, hk, rfl⟩ := List.mem_map.mp hw
  have hk := List.mem_range.mp hk
  match k, hk with
    | 0, _ => exact tw_182
    | 1, _ => exact tw_184
    | 2, _ => exact tw_186
    | 3, _ => exact tw_188
    | 4, _ => exact tw_190
    | 5, _ => exact tw_192
    | 6, _ => exact tw_194
    | 7, _ => exact tw_196
    | k + 8, h => omega
theorem CF_2 : CF 2 RX2 TX2 3 := by
  refine ⟨rfl, fun w hw => ?_, by decide +kernel, nmX2⟩
  obtain ⟨k, hk, rfl⟩ := List.mem_map.mp hw
  have hk := List.mem_range.mp hk
  match k, hk with
    | 0, _ => exact tw_294
    | 1, _ => exact tw_296
    | 2, _ => exact tw_298
    | k + 3, h => omega
theorem CF_3 : CF 3 RX3 TX3 2 := by
  refine ⟨rfl, fun w hw => ?_, by decide +kernel, nmX3⟩
  obtain ⟨k, hk, rfl⟩ := List.mem_map.mp hw
  have hk := List.mem_range.mp hk
  match k, hk with
    | 0, _ => exact tw_101
    | 1, _ => exact tw_103
    | k + 2, h => omega
theorem CF_4 : CF 4 RX4 TX4 2 := by
  refine ⟨rfl, fun w hw => ?_, by decide +kernel, nmX4⟩
  obtain ⟨k, hk, rfl⟩ := List.mem_map.mp hw
  have hk := List.mem_range.mp hk
  match k, hk with
    | 0, _ => exact tw_226
    | 1, _ => exact tw_228
    | k + 2, h => omega
theorem CF_5 : CF 5 RX5 TX5 4 := by
  refine ⟨rfl, fun w hw => ?_, by decide +kernel, nmX5⟩
  obtain ⟨k, hk, rfl⟩ := List.mem_map.mp hw
  have hk := List.mem_range.mp hk
  match k, hk with
    | 0, _ => exact tw_204
    | 1, _ => exact tw_206
    | 2, _ => exact tw_208
    | 3, _ => exact tw_210
    | k + 4, h => omega
theorem CF_6 : CF 6 RX6 TX6 9 := by
  refine ⟨rfl, fun w hw => ?_, by decide +kernel, nmX6⟩
  obtain ⟨k, hk, rfl⟩ := List.mem_map.mp hw
  have hk := List.mem_range.mp hk
  match k, hk with
    | 0, _ => exact tw_318
    | 1, _ => exact tw_320
    | 2, _ => exact tw_322
    | 3, _ => exact tw_324
    | 4, _ => exact tw_326
    | 5, _ => exact tw_328
    | 6, _ => exact tw_330
    | 7, _ => exact tw_332
    | 8, _ => exact tw_334
    | k + 9, h => omega
theorem CF_7 : CF 7 RX7 TX7 6 := by
  refine ⟨rfl, fun w hw => ?_, by decide +kernel, nmX7⟩
  obtain ⟨k, hk, rfl⟩ := List.mem_map.mp hw
  have hk := List.mem_range.mp hk
  match k, hk with
    | 0, _ => exact tw_153
    | 1, _ => exact tw_155
    | 2, _ => exact tw_157
    | 3, _ => exact tw_159
    | 4, _ => exact tw_161
    | 5, _ => exact tw_163
    | k + 6, h => omega
theorem CF_8 : CF 8 RX8 TX8 17 := by
  refine ⟨rfl, fun w hw => ?_, by decide +kernel, nmX8⟩
  obtain ⟨k, hk, rfl⟩ := List.mem_map.mp hw
  have hk := List.mem_range.mp hk
  match k, hk with
    | 0, _ => exact tw_362
    | 1, _ => exact tw_364
    | 2, _ => exact tw_366
    | 3, _ => exact tw_368
    | 4, _ => exact tw_370
    | 5, _ => exact tw_372
    | 6, _ => exact tw_374
    | 7, _ => exact tw_376
    | 8, _ => exact tw_378
    | 9, _ => exact tw_380
    | 10, _ => exact tw_382
    | 11, _ => exact tw_384
    | 12, _ => exact tw_386
    | 13, _ => exact tw_388
    | 14, _ => exact tw_390
    | 15, _ => exact tw_392
    | 16, _ => exact tw_394
    | k + 17, h => omega
theorem CF_9 : CF 9 RX9 TX9 5 := by
  refine ⟨rfl, fun w hw => ?_, by decide +kernel, nmX9⟩
  obtain ⟨k, hk, rfl⟩ := List.mem_map.mp hw
  have hk := List.mem_range.mp hk
  match k, hk with
    | 0, _ => exact tw_246
    | 1, _ => exact tw_248
    | 2, _ => exact tw_250
    | 3, _ => exact tw_252
    | 4, _ => exact tw_254
    | k + 5, h => omega
theorem CF_10 : CF 10 RX10 TX10 4 := by
  refine ⟨rfl, fun w hw => ?_, by decide +kernel, nmX10⟩
  obtain ⟨k, hk, rfl⟩ := List.mem_map.mp hw
  have hk := List.mem_range.mp hk
  match k, hk with
    | 0, _ => exact tw_410
    | 1, _ => exact tw_412
    | 2, _ => exact tw_414
    | 3, _ => exact tw_416
    | k + 4, h => omega
theorem CF_11 : CF 11 RX11 TX11 11 := by
  refine ⟨rfl, fun w hw => ?_, by decide +kernel, nmX11⟩
  obtain ⟨k, hk, rfl⟩ := List.mem_map.mp hw
  have hk := List.mem_range.mp hk
  match k, hk with
    | 0, _ => exact tw_576
    | 1, _ => exact tw_578
    | 2, _ => exact tw_580
    | 3, _ => exact tw_582
    | 4, _ => exact tw_584
    | 5, _ => exact tw_586
    | 6, _ => exact tw_588
    | 7, _ => exact tw_590
    | 8, _ => exact tw_592
    | 9, _ => exact tw_594
    | 10, _ => exact tw_596
    | k + 11, h => omega
theorem CF_12 : CF 12 RX12 TX12 29 := by
  refine ⟨rfl, fun w hw => ?_, by decide +kernel, nmX12⟩
  obtain ⟨k, hk, rfl⟩ := List.mem_map.mp hw
  have hk := List.mem_range.mp hk
  match k, hk with
    | 0, _ => exact tw_1110
    | 1, _ => exact tw_1112
    | 2, _ => exact tw_1114
    | 3, _ => exact tw_1116
    | 4, _ => exact tw_1118
    | 5, _ => exact tw_1120
    | 6, _ => exact tw_1122
    | 7, _ => exact tw_1124
    | 8, _ => exact tw_1126
    | 9, _ => exact tw_1128
    | 10, _ => exact tw_1130
    | 11, _ => exact tw_1132
    | 12, _ => exact tw_1134
    | 13, _ => exact tw_1136
    | 14, _ => exact tw_1138
    | 15, _ => exact tw_1140
    | 16, _ => exact tw_1142
    | 17, _ => exact tw_1144
    | 18, _ => exact tw_1146
    | 19, _ => exact tw_1148
    | 20, _ => exact tw_1150
    | 21, _ => exact tw_1152
    | 22, _ => exact tw_1154
    | 23, _ => exact tw_1156
    | 24, _ => exact tw_1158
    | 25, _ => exact tw_1160
    | 26, _ => exact tw_1162
    | 27, _ => exact tw_1164
    | 28, _ => exact tw_1166
    | k + 29, h => omega
def m_Su_write : MI := (yX11_write, cX11_write, 2, some .int, { frames := 1, cells := 0, slots := 0, locals := 21 })
def m_Su_wipe : MI := (yX11_wipe, cX11_wipe, 2, some .int, { frames := 1, cells := 0, slots := 0, locals := 20 })
def m_Su_fault : MI := (yX11_fault, cX11_fault, 1, some .int, { frames := 5, cells := 0, slots := 0, locals := 113 })
def m_Su_lay : MI := (yX11_lay, cX11_lay, 1, some .int, { frames := 6, cells := 0, slots := 0, locals := 142 })
def m_Su_road : MI := (yX11_road, cX11_road, 3, some .int, { frames := 1, cells := 0, slots := 0, locals := 21 })
def m_Su_at : MI := (yX11_at, cX11_at, 2, some .int, { frames := 0, cells := 0, slots := 0, locals := 0 })
def m_Su_cross : MI := (yX11_cross, cX11_cross, 2, some .int, { frames := 4, cells := 0, slots := 0, locals := 122 })
def m_Su_mend : MI := (yX11_mend, cX11_mend, 5, some .int, { frames := 3, cells := 0, slots := 0, locals := 122 })
def m_Su_shut : MI := (yX11_shut, cX11_shut, 3, some .int, { frames := 3, cells := 0, slots := 0, locals := 122 })
def m_Su_undo : MI := (yX11_undo, cX11_undo, 1, some .int, { frames := 3, cells := 0, slots := 0, locals := 122 })
def m_Su_journey : MI := (yX11_journey, cX11_journey, 3, some .int, { frames := 5, cells := 0, slots := 0, locals := 108 })
def m_Su_most : MI := (yX11_most, cX11_most, 3, some .int, { frames := 4, cells := 0, slots := 0, locals := 92 })
def m_Su_round : MI := (yX11_round, cX11_round, 2, some .int, { frames := 6, cells := 0, slots := 0, locals := 141 })
def m_Su_agree : MI := (yX11_agree, cX11_agree, 1, some .int, { frames := 6, cells := 0, slots := 0, locals := 134 })
def m_Su_height : MI := (yX11_height, cX11_height, 2, some .int, { frames := 6, cells := 0, slots := 0, locals := 134 })
def m_Su_ring : MI := (yX11_ring, cX11_ring, 2, some .int, { frames := 6, cells := 0, slots := 0, locals := 134 })
def m_Su_fewest : MI := (yX11_fewest, cX11_fewest, 1, some .int, { frames := 6, cells := 0, slots := 0, locals := 139 })
def m_Su_third : MI := (yX11_third, cX11_third, 4, some .int, { frames := 6, cells := 0, slots := 0, locals := 134 })
def m_Su_tell : MI := (yX11_tell, cX11_tell, 6, some .int, { frames := 2, cells := 0, slots := 0, locals := 43 })
def m_Su_forget : MI := (yX11_forget, cX11_forget, 2, some .int, { frames := 1, cells := 0, slots := 0, locals := 20 })
def m_Su_wrong : MI := (yX11_wrong, cX11_wrong, 1, some .int, { frames := 5, cells := 0, slots := 0, locals := 119 })
def m_Su_walk : MI := (yX11_walk, cX11_walk, 2, some .int, { frames := 6, cells := 0, slots := 0, locals := 151 })
def m_Su_byTurns : MI := (yX11_byTurns, cX11_byTurns, 3, some .int, { frames := 5, cells := 0, slots := 0, locals := 108 })
def m_Su_weather : MI := (yX11_weather, cX11_weather, 5, some .int, { frames := 4, cells := 0, slots := 0, locals := 100 })
def m_Su_year : MI := (yX11_year, cX11_year, 4, some .int, { frames := 5, cells := 0, slots := 0, locals := 110 })
def m_Su_keep : MI := (yX11_keep, cX11_keep, 1, some .int, { frames := 3, cells := 0, slots := 0, locals := 122 })
def m_Su_back : MI := (yX11_back, cX11_back, 1, some .int, { frames := 3, cells := 0, slots := 0, locals := 122 })
def m_Su_count : MI := (yX11_count, cX11_count, 2, some .int, { frames := 1, cells := 0, slots := 0, locals := 20 })
def m_Su_layLetters : MI := (yX11_layLetters, cX11_layLetters, 1, some .boolean, { frames := 5, cells := 0, slots := 0, locals := 122 })
def m_Su_isEither : MI := (yX11_isEither, cX11_isEither, 1, some .boolean, { frames := 0, cells := 0, slots := 0, locals := 0 })
def m_Su_isFigure : MI := (yX11_isFigure, cX11_isFigure, 1, some .boolean, { frames := 0, cells := 0, slots := 0, locals := 0 })
def m_Su_isSum : MI := (yX11_isSum, cX11_isSum, 1, some .boolean, { frames := 0, cells := 0, slots := 0, locals := 0 })
def m_Cl_init : MI := (yX0_init, cX0_init, 2, none, { frames := 1, cells := 3, slots := 17, locals := 21 })
def m_Cl_findMost : MI := (yX0_findMost, cX0_findMost, 4, none, { frames := 3, cells := 0, slots := 0, locals := 69 })
def m_Cl_findRound : MI := (yX0_findRound, cX0_findRound, 2, none, { frames := 3, cells := 0, slots := 0, locals := 69 })
def m_Cl_gain : MI := (yX0_gain, cX0_gain, 1, some .int, { frames := 0, cells := 0, slots := 0, locals := 0 })
def m_Cl_raise : MI := (yX0_raise, cX0_raise, 3, none, { frames := 0, cells := 0, slots := 0, locals := 0 })
def m_Cl_fillRow : MI := (yX0_fillRow, cX0_fillRow, 5, none, { frames := 5, cells := 0, slots := 0, locals := 117 })
def m_Cl_firstToHighest : MI := (yX0_firstToHighest, cX0_firstToHighest, 5, some .int, { frames := 4, cells := 0, slots := 0, locals := 93 })
def m_Cl_highestHome : MI := (yX0_highestHome, cX0_highestHome, 5, some .int, { frames := 3, cells := 0, slots := 0, locals := 69 })
def m_Cl_bestAtHome : MI := (yX0_bestAtHome, cX0_bestAtHome, 2, some .int, { frames := 1, cells := 0, slots := 0, locals := 21 })
def m_Cl_begin : MI := (yX0_begin, cX0_begin, 3, none, { frames := 1, cells := 0, slots := 0, locals := 23 })
def m_Cl_advance : MI := (yX0_advance, cX0_advance, 2, none, { frames := 2, cells := 0, slots := 0, locals := 48 })
def m_Cl_carry : MI := (yX0_carry, cX0_carry, 4, none, { frames := 1, cells := 0, slots := 0, locals := 25 })
def m_Co_init : MI := (yX1_init, cX1_init, 1, none, { frames := 2, cells := 7, slots := 60, locals := 41 })
def m_Co_clear : MI := (yX1_clear, cX1_clear, 1, none, { frames := 0, cells := 0, slots := 0, locals := 0 })
def m_Co_copyFrom : MI := (yX1_copyFrom, cX1_copyFrom, 2, none, { frames := 2, cells := 0, slots := 0, locals := 101 })
def m_Co_setPlaces : MI := (yX1_setPlaces, cX1_setPlaces, 2, some .boolean, { frames := 0, cells := 0, slots := 0, locals := 0 })
def m_Co_addRoad : MI := (yX1_addRoad, cX1_addRoad, 6, some .boolean, { frames := 0, cells := 0, slots := 0, locals := 0 })
def m_Co_addStep : MI := (yX1_addStep, cX1_addStep, 2, some .boolean, { frames := 1, cells := 0, slots := 0, locals := 21 })
def m_Co_places : MI := (yX1_places, cX1_places, 1, some .int, { frames := 0, cells := 0, slots := 0, locals := 0 })
def m_Co_roads : MI := (yX1_roads, cX1_roads, 1, some .int, { frames := 0, cells := 0, slots := 0, locals := 0 })
def m_Co_steps : MI := (yX1_steps, cX1_steps, 1, some .int, { frames := 0, cells := 0, slots := 0, locals := 0 })
def m_Co_planned : MI := (yX1_planned, cX1_planned, 2, some .int, { frames := 0, cells := 0, slots := 0, locals := 0 })
def m_Co_kindOf : MI := (yX1_kindOf, cX1_kindOf, 2, some .int, { frames := 0, cells := 0, slots := 0, locals := 0 })
def m_Co_startOf : MI := (yX1_startOf, cX1_startOf, 2, some .int, { frames := 0, cells := 0, slots := 0, locals := 0 })
def m_Co_endOf : MI := (yX1_endOf, cX1_endOf, 2, some .int, { frames := 0, cells := 0, slots := 0, locals := 0 })
def m_Co_hasPlace : MI := (yX1_hasPlace, cX1_hasPlace, 2, some .boolean, { frames := 0, cells := 0, slots := 0, locals := 0 })
def m_Co_hasRoad : MI := (yX1_hasRoad, cX1_hasRoad, 2, some .boolean, { frames := 0, cells := 0, slots := 0, locals := 0 })
def m_Co_leadsOn : MI := (yX1_leadsOn, cX1_leadsOn, 3, some .boolean, { frames := 1, cells := 0, slots := 0, locals := 21 })
def m_Co_canBeCrossed : MI := (yX1_canBeCrossed, cX1_canBeCrossed, 3, some .boolean, { frames := 2, cells := 0, slots := 0, locals := 43 })
def m_Co_otherEnd : MI := (yX1_otherEnd, cX1_otherEnd, 3, some .int, { frames := 1, cells := 0, slots := 0, locals := 21 })
def m_Co_figureFrom : MI := (yX1_figureFrom, cX1_figureFrom, 3, some .int, { frames := 0, cells := 0, slots := 0, locals := 0 })
def m_Co_changeFrom : MI := (yX1_changeFrom, cX1_changeFrom, 4, some .int, { frames := 1, cells := 0, slots := 0, locals := 22 })
def m_Co_sumBehind : MI := (yX1_sumBehind, cX1_sumBehind, 4, some .int, { frames := 1, cells := 0, slots := 0, locals := 25 })
def m_Co_sumBy : MI := (yX1_sumBy, cX1_sumBy, 6, some .int, { frames := 0, cells := 0, slots := 0, locals := 0 })
def m_Co_bitsOfAll : MI := (yX1_bitsOfAll, cX1_bitsOfAll, 1, some .int, { frames := 0, cells := 0, slots := 0, locals := 0 })
def m_Co_bitsNotShut : MI := (yX1_bitsNotShut, cX1_bitsNotShut, 1, some .int, { frames := 1, cells := 0, slots := 0, locals := 20 })
def m_He_init : MI := (yX2_init, cX2_init, 2, none, { frames := 1, cells := 2, slots := 12, locals := 21 })
def m_He_agreeNow : MI := (yX2_agreeNow, cX2_agreeNow, 1, some .boolean, { frames := 5, cells := 0, slots := 0, locals := 114 })
def m_He_of : MI := (yX2_of, cX2_of, 2, some .int, { frames := 1, cells := 0, slots := 0, locals := 21 })
def m_He_hangTogether : MI := (yX2_hangTogether, cX2_hangTogether, 3, some .boolean, { frames := 1, cells := 0, slots := 0, locals := 21 })
def m_He_fewestToShut : MI := (yX2_fewestToShut, cX2_fewestToShut, 6, some .int, { frames := 5, cells := 0, slots := 0, locals := 114 })
def m_He_unlikeWays : MI := (yX2_unlikeWays, cX2_unlikeWays, 4, some .int, { frames := 1, cells := 0, slots := 0, locals := 20 })
def m_He_agreeBy : MI := (yX2_agreeBy, cX2_agreeBy, 3, some .boolean, { frames := 4, cells := 0, slots := 0, locals := 92 })
def m_He_spread : MI := (yX2_spread, cX2_spread, 5, none, { frames := 3, cells := 0, slots := 0, locals := 68 })
def m_He_carry : MI := (yX2_carry, cX2_carry, 4, some .boolean, { frames := 2, cells := 0, slots := 0, locals := 45 })
def m_He_suits : MI := (yX2_suits, cX2_suits, 5, some .boolean, { frames := 2, cells := 0, slots := 0, locals := 45 })
def m_Le_init : MI := (yX3_init, cX3_init, 1, none, { frames := 1, cells := 1, slots := 200, locals := 21 })
def m_Le_append : MI := (yX3_append, cX3_append, 2, some .boolean, { frames := 0, cells := 0, slots := 0, locals := 0 })
def m_Le_clear : MI := (yX3_clear, cX3_clear, 1, none, { frames := 0, cells := 0, slots := 0, locals := 0 })
def m_Le_length : MI := (yX3_length, cX3_length, 1, some .int, { frames := 0, cells := 0, slots := 0, locals := 0 })
def m_Le_has : MI := (yX3_has, cX3_has, 3, some .boolean, { frames := 0, cells := 0, slots := 0, locals := 0 })
def m_Le_figureAt : MI := (yX3_figureAt, cX3_figureAt, 2, some .int, { frames := 0, cells := 0, slots := 0, locals := 0 })
def m_Pi_init : MI := (yX4_init, cX4_init, 3, none, { frames := 2, cells := 25, slots := 200, locals := 41 })
def m_Pi_size : MI := (yX4_size, cX4_size, 1, some .int, { frames := 0, cells := 0, slots := 0, locals := 0 })
def m_Pi_isFull : MI := (yX4_isFull, cX4_isFull, 1, some .boolean, { frames := 0, cells := 0, slots := 0, locals := 0 })
def m_Pi_clear : MI := (yX4_clear, cX4_clear, 1, none, { frames := 0, cells := 0, slots := 0, locals := 0 })
def m_Pi_push : MI := (yX4_push, cX4_push, 2, none, { frames := 2, cells := 0, slots := 0, locals := 101 })
def m_Pi_popInto : MI := (yX4_popInto, cX4_popInto, 2, some .boolean, { frames := 2, cells := 0, slots := 0, locals := 101 })
def m_Pi_dropOldest : MI := (yX4_dropOldest, cX4_dropOldest, 3, none, { frames := 0, cells := 0, slots := 0, locals := 0 })
def m_Re_init : MI := (yX5_init, cX5_init, 1, none, { frames := 3, cells := 9, slots := 73, locals := 61 })
def m_Re_firstFault : MI := (yX5_firstFault, cX5_firstFault, 4, some .int, { frames := 4, cells := 0, slots := 0, locals := 90 })
def m_Re_readItem : MI := (yX5_readItem, cX5_readItem, 3, some .boolean, { frames := 3, cells := 0, slots := 0, locals := 68 })
def m_Re_readNumbers : MI := (yX5_readNumbers, cX5_readNumbers, 5, some .boolean, { frames := 2, cells := 0, slots := 0, locals := 44 })
def m_Re_readNumber : MI := (yX5_readNumber, cX5_readNumber, 4, some .int, { frames := 1, cells := 0, slots := 0, locals := 21 })
def m_Re_tellPlaces : MI := (yX5_tellPlaces, cX5_tellPlaces, 2, some .boolean, { frames := 1, cells := 0, slots := 0, locals := 21 })
def m_Re_tellRoad : MI := (yX5_tellRoad, cX5_tellRoad, 1, some .boolean, { frames := 1, cells := 0, slots := 0, locals := 25 })
def m_Re_tellStart : MI := (yX5_tellStart, cX5_tellStart, 3, some .boolean, { frames := 1, cells := 0, slots := 0, locals := 21 })
def m_Ri_init : MI := (yX6_init, cX6_init, 2, none, { frames := 1, cells := 4, slots := 24, locals := 21 })
def m_Ri_find : MI := (yX6_find, cX6_find, 2, some .boolean, { frames := 5, cells := 0, slots := 0, locals := 113 })
def m_Ri_findFrom : MI := (yX6_findFrom, cX6_findFrom, 3, none, { frames := 4, cells := 0, slots := 0, locals := 91 })
def m_Ri_advance : MI := (yX6_advance, cX6_advance, 2, none, { frames := 3, cells := 0, slots := 0, locals := 70 })
def m_Ri_carry : MI := (yX6_carry, cX6_carry, 6, none, { frames := 2, cells := 0, slots := 0, locals := 45 })
def m_Ri_swapRows : MI := (yX6_swapRows, cX6_swapRows, 3, none, { frames := 0, cells := 0, slots := 0, locals := 0 })
def m_St_init : MI := (yX7_init, cX7_init, 1, none, { frames := 1, cells := 2, slots := 18, locals := 21 })
def m_St_isShut : MI := (yX7_isShut, cX7_isShut, 2, some .boolean, { frames := 0, cells := 0, slots := 0, locals := 0 })
def m_St_turn : MI := (yX7_turn, cX7_turn, 2, none, { frames := 0, cells := 0, slots := 0, locals := 0 })
def m_St_copyFrom : MI := (yX7_copyFrom, cX7_copyFrom, 2, none, { frames := 1, cells := 0, slots := 0, locals := 80 })
def m_To_init : MI := (yX8_init, cX8_init, 2, none, { frames := 1, cells := 10, slots := 200, locals := 21 })
def m_To_size : MI := (yX8_size, cX8_size, 1, some .int, { frames := 0, cells := 0, slots := 0, locals := 0 })
def m_To_clear : MI := (yX8_clear, cX8_clear, 1, none, { frames := 0, cells := 0, slots := 0, locals := 0 })
def m_To_add : MI := (yX8_add, cX8_add, 6, some .boolean, { frames := 0, cells := 0, slots := 0, locals := 0 })
def m_To_wrongRoads : MI := (yX8_wrongRoads, cX8_wrongRoads, 3, some .int, { frames := 4, cells := 0, slots := 0, locals := 97 })
def m_To_findWalk : MI := (yX8_findWalk, cX8_findWalk, 4, some .boolean, { frames := 5, cells := 0, slots := 0, locals := 128 })
def m_To_unlikeSums : MI := (yX8_unlikeSums, cX8_unlikeSums, 12, some .int, { frames := 4, cells := 0, slots := 0, locals := 97 })
def m_To_suppose : MI := (yX8_suppose, cX8_suppose, 6, some .boolean, { frames := 3, cells := 0, slots := 0, locals := 72 })
def m_To_sortByWays : MI := (yX8_sortByWays, cX8_sortByWays, 4, none, { frames := 2, cells := 0, slots := 0, locals := 44 })
def m_To_wayOver : MI := (yX8_wayOver, cX8_wayOver, 4, some .int, { frames := 1, cells := 0, slots := 0, locals := 21 })
def m_To_hold : MI := (yX8_hold, cX8_hold, 4, some .boolean, { frames := 2, cells := 0, slots := 0, locals := 49 })
def m_To_supposedSum : MI := (yX8_supposedSum, cX8_supposedSum, 5, some .int, { frames := 1, cells := 0, slots := 0, locals := 25 })
def m_Wa_init : MI := (yX9_init, cX9_init, 2, none, { frames := 1, cells := 0, slots := 0, locals := 21 })
def m_Wa_startNow : MI := (yX9_startNow, cX9_startNow, 1, none, { frames := 0, cells := 0, slots := 0, locals := 0 })
def m_Wa_goBy : MI := (yX9_goBy, cX9_goBy, 2, some .boolean, { frames := 3, cells := 0, slots := 0, locals := 65 })
def m_Wa_followPlan : MI := (yX9_followPlan, cX9_followPlan, 3, some .boolean, { frames := 4, cells := 0, slots := 0, locals := 86 })
def m_Wa_followDraws : MI := (yX9_followDraws, cX9_followDraws, 5, none, { frames := 4, cells := 0, slots := 0, locals := 86 })
def m_Wa_draw : MI := (yX9_draw, cX9_draw, 4, some .int, { frames := 0, cells := 0, slots := 0, locals := 0 })
def m_We_init : MI := (yX10_init, cX10_init, 2, none, { frames := 1, cells := 1, slots := 10, locals := 21 })
def m_We_findChance : MI := (yX10_findChance, cX10_findChance, 7, none, { frames := 3, cells := 0, slots := 0, locals := 74 })
def m_We_countSets : MI := (yX10_countSets, cX10_countSets, 6, none, { frames := 2, cells := 0, slots := 0, locals := 49 })
def m_We_leads : MI := (yX10_leads, cX10_leads, 9, some .boolean, { frames := 1, cells := 0, slots := 0, locals := 21 })
def m_We_power : MI := (yX10_power, cX10_power, 5, some .long, { frames := 0, cells := 0, slots := 0, locals := 0 })
def m_We_lowestTerms : MI := (yX10_lowestTerms, cX10_lowestTerms, 8, none, { frames := 0, cells := 0, slots := 0, locals := 0 })
def m_Jd_bitCount : MI := (yJ6_bitCount_0f7a4, cJ6_bitCount_0f7a4, 1, some .int, { frames := 0, cells := 0, slots := 0, locals := 0 })
def m_Jd_fill : MI := (yJ7_fill_53178, cJ7_fill_53178, 4, none, { frames := 0, cells := 0, slots := 0, locals := 0 })
def m_Mo_init : MI := (yX12_init, cX12_init, 1, none, { frames := 1, cells := 19, slots := 7415, locals := 26 })
def m_Mo_in : MI := (yX12_in, cX12_in, 6, some .boolean, { frames := 0, cells := 0, slots := 0, locals := 0 })
def m_Mo_isTwo : MI := (yX12_isTwo, cX12_isTwo, 1, some .boolean, { frames := 1, cells := 0, slots := 0, locals := 25 })
def m_Mo_has : MI := (yX12_has, cX12_has, 2, some .boolean, { frames := 0, cells := 0, slots := 0, locals := 0 })
def m_Mo_bits : MI := (yX12_bits, cX12_bits, 3, some .int, { frames := 0, cells := 0, slots := 0, locals := 0 })
def m_Mo_write : MI := (yX12_write, cX12_write, 2, some .int, { frames := 1, cells := 0, slots := 0, locals := 25 })
def m_Mo_wipe : MI := (yX12_wipe, cX12_wipe, 2, some .int, { frames := 0, cells := 0, slots := 0, locals := 0 })
def m_Mo_clean : MI := (yX12_clean, cX12_clean, 2, none, { frames := 0, cells := 0, slots := 0, locals := 0 })
def m_Mo_comes : MI := (yX12_comes, cX12_comes, 7, none, { frames := 0, cells := 0, slots := 0, locals := 0 })
def m_Mo_here : MI := (yX12_here, cX12_here, 1, some .int, { frames := 0, cells := 0, slots := 0, locals := 0 })
def m_Mo_takes : MI := (yX12_takes, cX12_takes, 5, some .boolean, { frames := 1, cells := 0, slots := 0, locals := 25 })
def m_Mo_takesPlaces : MI := (yX12_takesPlaces, cX12_takesPlaces, 1, some .boolean, { frames := 2, cells := 0, slots := 0, locals := 49 })
def m_Mo_takesRoad : MI := (yX12_takesRoad, cX12_takesRoad, 2, some .boolean, { frames := 2, cells := 0, slots := 0, locals := 49 })
def m_Mo_takesStart : MI := (yX12_takesStart, cX12_takesStart, 1, some .boolean, { frames := 2, cells := 0, slots := 0, locals := 49 })
def m_Mo_takesJourney : MI := (yX12_takesJourney, cX12_takesJourney, 1, some .boolean, { frames := 2, cells := 0, slots := 0, locals := 49 })
def m_Mo_takesItem : MI := (yX12_takesItem, cX12_takesItem, 2, some .boolean, { frames := 3, cells := 0, slots := 0, locals := 70 })
def m_Mo_fault : MI := (yX12_fault, cX12_fault, 2, some .int, { frames := 4, cells := 0, slots := 0, locals := 91 })
def m_Mo_begins : MI := (yX12_begins, cX12_begins, 2, none, { frames := 0, cells := 0, slots := 0, locals := 0 })
def m_Mo_lay : MI := (yX12_lay, cX12_lay, 1, some .int, { frames := 5, cells := 0, slots := 0, locals := 112 })
def m_Mo_isPlace : MI := (yX12_isPlace, cX12_isPlace, 2, some .boolean, { frames := 1, cells := 0, slots := 0, locals := 25 })
def m_Mo_isRoad : MI := (yX12_isRoad, cX12_isRoad, 2, some .boolean, { frames := 1, cells := 0, slots := 0, locals := 25 })
def m_Mo_isShut : MI := (yX12_isShut, cX12_isShut, 2, some .boolean, { frames := 1, cells := 0, slots := 0, locals := 21 })
def m_Mo_otherEnd : MI := (yX12_otherEnd, cX12_otherEnd, 3, some .int, { frames := 0, cells := 0, slots := 0, locals := 0 })
def m_Mo_crossed : MI := (yX12_crossed, cX12_crossed, 5, some .int, { frames := 0, cells := 0, slots := 0, locals := 0 })
def m_Mo_by : MI := (yX12_by, cX12_by, 6, some .int, { frames := 1, cells := 0, slots := 0, locals := 24 })
def m_Mo_byNow : MI := (yX12_byNow, cX12_byNow, 4, some .int, { frames := 2, cells := 0, slots := 0, locals := 49 })
def m_Mo_mayCross : MI := (yX12_mayCross, cX12_mayCross, 3, some .boolean, { frames := 2, cells := 0, slots := 0, locals := 42 })
def m_Mo_road : MI := (yX12_road, cX12_road, 3, some .int, { frames := 2, cells := 0, slots := 0, locals := 46 })
def m_Mo_at : MI := (yX12_at, cX12_at, 2, some .int, { frames := 2, cells := 0, slots := 0, locals := 45 })
def m_Mo_copies : MI := (yX12_copies, cX12_copies, 5, none, { frames := 0, cells := 0, slots := 0, locals := 0 })
def m_Mo_remember : MI := (yX12_remember, cX12_remember, 2, none, { frames := 1, cells := 0, slots := 0, locals := 24 })
def m_Mo_cross : MI := (yX12_cross, cX12_cross, 2, some .int, { frames := 3, cells := 0, slots := 0, locals := 72 })
def m_Mo_mend : MI := (yX12_mend, cX12_mend, 5, some .int, { frames := 2, cells := 0, slots := 0, locals := 46 })
def m_Mo_shut : MI := (yX12_shut, cX12_shut, 3, some .int, { frames := 2, cells := 0, slots := 0, locals := 46 })
def m_Mo_undo : MI := (yX12_undo, cX12_undo, 1, some .int, { frames := 1, cells := 0, slots := 0, locals := 24 })
def m_Mo_goes : MI := (yX12_goes, cX12_goes, 4, some .boolean, { frames := 3, cells := 0, slots := 0, locals := 72 })
def m_Mo_journey : MI := (yX12_journey, cX12_journey, 3, some .int, { frames := 4, cells := 0, slots := 0, locals := 95 })
def m_Mo_most : MI := (yX12_most, cX12_most, 11, some .int, { frames := 3, cells := 0, slots := 0, locals := 72 })
def m_Mo_layRounds : MI := (yX12_layRounds, cX12_layRounds, 7, none, { frames := 3, cells := 0, slots := 0, locals := 72 })
def m_Mo_round : MI := (yX12_round, cX12_round, 3, some .int, { frames := 4, cells := 0, slots := 0, locals := 98 })
def m_Mo_change : MI := (yX12_change, cX12_change, 4, some .int, { frames := 0, cells := 0, slots := 0, locals := 0 })
def m_Mo_layHeights : MI := (yX12_layHeights, cX12_layHeights, 5, some .boolean, { frames := 2, cells := 0, slots := 0, locals := 48 })
def m_Mo_spread : MI := (yX12_spread, cX12_spread, 6, none, { frames := 1, cells := 0, slots := 0, locals := 23 })
def m_Mo_agree : MI := (yX12_agree, cX12_agree, 1, some .int, { frames := 3, cells := 0, slots := 0, locals := 72 })
def m_Mo_height : MI := (yX12_height, cX12_height, 2, some .int, { frames := 3, cells := 0, slots := 0, locals := 72 })
def m_Mo_ringFrom : MI := (yX12_ringFrom, cX12_ringFrom, 4, some .int, { frames := 2, cells := 0, slots := 0, locals := 50 })
def m_Mo_marksGo : MI := (yX12_marksGo, cX12_marksGo, 6, none, { frames := 1, cells := 0, slots := 0, locals := 25 })
def m_Mo_ring : MI := (yX12_ring, cX12_ring, 6, some .int, { frames := 3, cells := 0, slots := 0, locals := 73 })
def m_Mo_fewest : MI := (yX12_fewest, cX12_fewest, 4, some .int, { frames := 3, cells := 0, slots := 0, locals := 72 })
def m_Mo_third : MI := (yX12_third, cX12_third, 4, some .int, { frames := 3, cells := 0, slots := 0, locals := 72 })
def m_Mo_tell : MI := (yX12_tell, cX12_tell, 8, some .int, { frames := 2, cells := 0, slots := 0, locals := 46 })
def m_Mo_forget : MI := (yX12_forget, cX12_forget, 2, some .int, { frames := 0, cells := 0, slots := 0, locals := 0 })
def m_Mo_byOther : MI := (yX12_byOther, cX12_byOther, 7, some .int, { frames := 3, cells := 0, slots := 0, locals := 72 })
def m_Mo_fits : MI := (yX12_fits, cX12_fits, 9, some .boolean, { frames := 4, cells := 0, slots := 0, locals := 98 })
def m_Mo_wrongs : MI := (yX12_wrongs, cX12_wrongs, 4, some .int, { frames := 5, cells := 0, slots := 0, locals := 126 })
def m_Mo_wrong : MI := (yX12_wrong, cX12_wrong, 1, some .int, { frames := 6, cells := 0, slots := 0, locals := 149 })
def m_Mo_sumsBehind : MI := (yX12_sumsBehind, cX12_sumsBehind, 5, some .int, { frames := 5, cells := 0, slots := 0, locals := 126 })
def m_Mo_walk : MI := (yX12_walk, cX12_walk, 7, some .int, { frames := 6, cells := 0, slots := 0, locals := 150 })
def m_Mo_byTurns : MI := (yX12_byTurns, cX12_byTurns, 6, some .int, { frames := 4, cells := 0, slots := 0, locals := 95 })
def m_Mo_leads : MI := (yX12_leads, cX12_leads, 8, some .boolean, { frames := 1, cells := 0, slots := 0, locals := 21 })
def m_Mo_weather : MI := (yX12_weather, cX12_weather, 16, some .int, { frames := 2, cells := 0, slots := 0, locals := 48 })
def m_Mo_year : MI := (yX12_year, cX12_year, 11, some .int, { frames := 3, cells := 0, slots := 0, locals := 72 })
def m_Mo_keep : MI := (yX12_keep, cX12_keep, 1, some .int, { frames := 1, cells := 0, slots := 0, locals := 24 })
def m_Mo_back : MI := (yX12_back, cX12_back, 1, some .int, { frames := 1, cells := 0, slots := 0, locals := 24 })
def m_Mo_count : MI := (yX12_count, cX12_count, 2, some .int, { frames := 1, cells := 0, slots := 0, locals := 22 })
