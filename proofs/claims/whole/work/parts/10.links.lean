theorem fm_X5_9 : Cond.fieldLink RX5 9 (TX5 0).1 (TX5 0).2.1 (TX5 0).2.2.1 ∈ lw_good := good_of (List.mem_of_getElem? (i := 24) (by decide +kernel)) (by decide +kernel)
theorem fl_X5_9 : FLK RX5 9 5 0 := ⟨_, _, _, rfl, by decide, fm_X5_9⟩
theorem ff_X5_9 : FPF RX5 9 5 0 (.array .int) := ⟨_, _, _, rfl, by decide, fm_X5_9, rfl, rfl, by decide +kernel⟩
theorem fm_X6_10 : Cond.fieldLink RX6 10 (TX6 0).1 (TX6 0).2.1 (TX6 0).2.2.1 ∈ lw_good := good_of (List.mem_of_getElem? (i := 39) (by decide +kernel)) (by decide +kernel)
theorem fl_X6_10 : FLK RX6 10 6 0 := ⟨_, _, _, rfl, by decide, fm_X6_10⟩
theorem ff_X6_10 : FPF RX6 10 6 0 (.object RX5) := ⟨_, _, _, rfl, by decide, fm_X6_10, rfl, rfl, by decide +kernel⟩
theorem fm_X6_18 : Cond.fieldLink RX6 18 (TX6 1).1 (TX6 1).2.1 (TX6 1).2.2.1 ∈ lw_good := good_of (List.mem_of_getElem? (i := 40) (by decide +kernel)) (by decide +kernel)
theorem fl_X6_18 : FLK RX6 18 6 1 := ⟨_, _, _, rfl, by decide, fm_X6_18⟩
theorem ff_X6_18 : FPF RX6 18 6 1 (.array (.object RX0)) := ⟨_, _, _, rfl, by decide, fm_X6_18, rfl, rfl, by decide +kernel⟩
theorem fm_X6_24 : Cond.fieldLink RX6 24 (TX6 2).1 (TX6 2).2.1 (TX6 2).2.2.1 ∈ lw_good := good_of (List.mem_of_getElem? (i := 41) (by decide +kernel)) (by decide +kernel)
theorem fl_X6_24 : FLK RX6 24 6 2 := ⟨_, _, _, rfl, by decide, fm_X6_24⟩
theorem ff_X6_24 : FPF RX6 24 6 2 (.array (.object RX4)) := ⟨_, _, _, rfl, by decide, fm_X6_24, rfl, rfl, by decide +kernel⟩
theorem fm_X6_28 : Cond.fieldLink RX6 28 (TX6 3).1 (TX6 3).2.1 (TX6 3).2.2.1 ∈ lw_good := good_of (List.mem_of_getElem? (i := 42) (by decide +kernel)) (by decide +kernel)
theorem fl_X6_28 : FLK RX6 28 6 3 := ⟨_, _, _, rfl, by decide, fm_X6_28⟩
theorem ff_X6_28 : FPF RX6 28 6 3 (.array .int) := ⟨_, _, _, rfl, by decide, fm_X6_28, rfl, rfl, by decide +kernel⟩
theorem fm_X6_34 : Cond.fieldLink RX6 34 (TX6 4).1 (TX6 4).2.1 (TX6 4).2.2.1 ∈ lw_good := good_of (List.mem_of_getElem? (i := 43) (by decide +kernel)) (by decide +kernel)
theorem fl_X6_34 : FLK RX6 34 6 4 := ⟨_, _, _, rfl, by decide, fm_X6_34⟩
theorem ff_X6_34 : FPF RX6 34 6 4 (.array (.object RX2)) := ⟨_, _, _, rfl, by decide, fm_X6_34, rfl, rfl, by decide +kernel⟩
theorem fm_X6_52 : Cond.fieldLink RX6 52 (TX6 5).1 (TX6 5).2.1 (TX6 5).2.2.1 ∈ lw_good := good_of (List.mem_of_getElem? (i := 44) (by decide +kernel)) (by decide +kernel)
theorem fl_X6_52 : FLK RX6 52 6 5 := ⟨_, _, _, rfl, by decide, fm_X6_52⟩
theorem fp_X6_52 : FPK RX6 52 6 5 (.int) := ⟨_, _, _, rfl, by decide, fm_X6_52, rfl, by decide +kernel⟩
theorem fm_X6_104 : Cond.fieldLink RX6 104 (TX6 6).1 (TX6 6).2.1 (TX6 6).2.2.1 ∈ lw_good := good_of (List.mem_of_getElem? (i := 45) (by decide +kernel)) (by decide +kernel)
theorem fl_X6_104 : FLK RX6 104 6 6 := ⟨_, _, _, rfl, by decide, fm_X6_104⟩
theorem fp_X6_104 : FPK RX6 104 6 6 (.int) := ⟨_, _, _, rfl, by decide, fm_X6_104, rfl, by decide +kernel⟩
theorem fm_X6_274 : Cond.fieldLink RX6 274 (TX6 7).1 (TX6 7).2.1 (TX6 7).2.2.1 ∈ lw_good := good_of (List.mem_of_getElem? (i := 46) (by decide +kernel)) (by decide +kernel)
theorem fl_X6_274 : FLK RX6 274 6 7 := ⟨_, _, _, rfl, by decide, fm_X6_274⟩
theorem fp_X6_274 : FPK RX6 274 6 7 (.int) := ⟨_, _, _, rfl, by decide, fm_X6_274, rfl, by decide +kernel⟩
theorem fm_X6_329 : Cond.fieldLink RX6 329 (TX6 8).1 (TX6 8).2.1 (TX6 8).2.2.1 ∈ lw_good := good_of (List.mem_of_getElem? (i := 47) (by decide +kernel)) (by decide +kernel)
theorem fl_X6_329 : FLK RX6 329 6 8 := ⟨_, _, _, rfl, by decide, fm_X6_329⟩
theorem fp_X6_329 : FPK RX6 329 6 8 (.int) := ⟨_, _, _, rfl, by decide, fm_X6_329, rfl, by decide +kernel⟩
theorem fm_X6_224 : Cond.fieldLink RX6 224 (TX6 9).1 (TX6 9).2.1 (TX6 9).2.2.1 ∈ lw_good := good_of (List.mem_of_getElem? (i := 48) (by decide +kernel)) (by decide +kernel)
theorem fl_X6_224 : FLK RX6 224 6 9 := ⟨_, _, _, rfl, by decide, fm_X6_224⟩
theorem fp_X6_224 : FPK RX6 224 6 9 (.int) := ⟨_, _, _, rfl, by decide, fm_X6_224, rfl, by decide +kernel⟩
theorem fm_X6_305 : Cond.fieldLink RX6 305 (TX6 10).1 (TX6 10).2.1 (TX6 10).2.2.1 ∈ lw_good := good_of (List.mem_of_getElem? (i := 49) (by decide +kernel)) (by decide +kernel)
theorem fl_X6_305 : FLK RX6 305 6 10 := ⟨_, _, _, rfl, by decide, fm_X6_305⟩
theorem fp_X6_305 : FPK RX6 305 6 10 (.int) := ⟨_, _, _, rfl, by decide, fm_X6_305, rfl, by decide +kernel⟩
theorem fm_X0_15 : Cond.fieldLink RX0 15 (TX0 0).1 (TX0 0).2.1 (TX0 0).2.2.1 ∈ lw_good := good_of (List.mem_of_getElem? (i := 106) (by decide +kernel)) (by decide +kernel)
theorem fl_X0_15 : FLK RX0 15 0 0 := ⟨_, _, _, rfl, by decide, fm_X0_15⟩
theorem ff_X0_15 : FPF RX0 15 0 0 (.int) := ⟨_, _, _, rfl, by decide, fm_X0_15, rfl, rfl, by decide +kernel⟩
theorem fm_X6_90 : Cond.fieldLink RX6 90 (TX0 0).1 (TX0 0).2.1 (TX0 0).2.2.1 ∈ lw_good := good_of (List.mem_of_getElem? (i := 107) (by decide +kernel)) (by decide +kernel)
theorem fl_X6_90 : FLK RX6 90 0 0 := ⟨_, _, _, rfl, by decide, fm_X6_90⟩
theorem fm_X0_18 : Cond.fieldLink RX0 18 (TX0 1).1 (TX0 1).2.1 (TX0 1).2.2.1 ∈ lw_good := good_of (List.mem_of_getElem? (i := 108) (by decide +kernel)) (by decide +kernel)
theorem fl_X0_18 : FLK RX0 18 0 1 := ⟨_, _, _, rfl, by decide, fm_X0_18⟩
theorem ff_X0_18 : FPF RX0 18 0 1 (.int) := ⟨_, _, _, rfl, by decide, fm_X0_18, rfl, rfl, by decide +kernel⟩
theorem fm_X4_66 : Cond.fieldLink RX4 66 (TX0 1).1 (TX0 1).2.1 (TX0 1).2.2.1 ∈ lw_good := good_of (List.mem_of_getElem? (i := 109) (by decide +kernel)) (by decide +kernel)
theorem fl_X4_66 : FLK RX4 66 0 1 := ⟨_, _, _, rfl, by decide, fm_X4_66⟩
theorem fm_X6_218 : Cond.fieldLink RX6 218 (TX0 1).1 (TX0 1).2.1 (TX0 1).2.2.1 ∈ lw_good := good_of (List.mem_of_getElem? (i := 110) (by decide +kernel)) (by decide +kernel)
theorem fl_X6_218 : FLK RX6 218 0 1 := ⟨_, _, _, rfl, by decide, fm_X6_218⟩
theorem fm_X0_21 : Cond.fieldLink RX0 21 (TX0 2).1 (TX0 2).2.1 (TX0 2).2.2.1 ∈ lw_good := good_of (List.mem_of_getElem? (i := 111) (by decide +kernel)) (by decide +kernel)
theorem fl_X0_21 : FLK RX0 21 0 2 := ⟨_, _, _, rfl, by decide, fm_X0_21⟩
theorem ff_X0_21 : FPF RX0 21 0 2 (.int) := ⟨_, _, _, rfl, by decide, fm_X0_21, rfl, rfl, by decide +kernel⟩
theorem fm_X6_227 : Cond.fieldLink RX6 227 (TX0 2).1 (TX0 2).2.1 (TX0 2).2.2.1 ∈ lw_good := good_of (List.mem_of_getElem? (i := 112) (by decide +kernel)) (by decide +kernel)
theorem fl_X6_227 : FLK RX6 227 0 2 := ⟨_, _, _, rfl, by decide, fm_X6_227⟩
theorem fm_X6_77 : Cond.fieldLink RX6 77 (TX0 3).1 (TX0 3).2.1 (TX0 3).2.2.1 ∈ lw_good := good_of (List.mem_of_getElem? (i := 113) (by decide +kernel)) (by decide +kernel)
theorem fl_X6_77 : FLK RX6 77 0 3 := ⟨_, _, _, rfl, by decide, fm_X6_77⟩
theorem fp_X6_77 : FPK RX6 77 0 3 (.int) := ⟨_, _, _, rfl, by decide, fm_X6_77, rfl, by decide +kernel⟩
theorem fm_X4_73 : Cond.fieldLink RX4 73 (TX0 3).1 (TX0 3).2.1 (TX0 3).2.2.1 ∈ lw_good := good_of (List.mem_of_getElem? (i := 114) (by decide +kernel)) (by decide +kernel)
theorem fl_X4_73 : FLK RX4 73 0 3 := ⟨_, _, _, rfl, by decide, fm_X4_73⟩
theorem fm_X0_9 : Cond.fieldLink RX0 9 (TX0 4).1 (TX0 4).2.1 (TX0 4).2.2.1 ∈ lw_good := good_of (List.mem_of_getElem? (i := 115) (by decide +kernel)) (by decide +kernel)
theorem fl_X0_9 : FLK RX0 9 0 4 := ⟨_, _, _, rfl, by decide, fm_X0_9⟩
theorem fp_X0_9 : FPK RX0 9 0 4 (.int) := ⟨_, _, _, rfl, by decide, fm_X0_9, rfl, by decide +kernel⟩
theorem fm_X2_28 : Cond.fieldLink RX2 28 (TX0 4).1 (TX0 4).2.1 (TX0 4).2.2.1 ∈ lw_good := good_of (List.mem_of_getElem? (i := 116) (by decide +kernel)) (by decide +kernel)
theorem fl_X2_28 : FLK RX2 28 0 4 := ⟨_, _, _, rfl, by decide, fm_X2_28⟩
theorem fm_X6_97 : Cond.fieldLink RX6 97 (TX0 4).1 (TX0 4).2.1 (TX0 4).2.2.1 ∈ lw_good := good_of (List.mem_of_getElem? (i := 117) (by decide +kernel)) (by decide +kernel)
theorem fl_X6_97 : FLK RX6 97 0 4 := ⟨_, _, _, rfl, by decide, fm_X6_97⟩
theorem fp_X6_97 : FPK RX6 97 0 4 (.int) := ⟨_, _, _, rfl, by decide, fm_X6_97, rfl, by decide +kernel⟩
theorem fm_X4_60 : Cond.fieldLink RX4 60 (TX0 4).1 (TX0 4).2.1 (TX0 4).2.2.1 ∈ lw_good := good_of (List.mem_of_getElem? (i := 118) (by decide +kernel)) (by decide +kernel)
theorem fl_X4_60 : FLK RX4 60 0 4 := ⟨_, _, _, rfl, by decide, fm_X4_60⟩
theorem fm_X6_113 : Cond.fieldLink RX6 113 (TX0 5).1 (TX0 5).2.1 (TX0 5).2.2.1 ∈ lw_good := good_of (List.mem_of_getElem? (i := 119) (by decide +kernel)) (by decide +kernel)
theorem fl_X6_113 : FLK RX6 113 0 5 := ⟨_, _, _, rfl, by decide, fm_X6_113⟩
theorem fp_X6_113 : FPK RX6 113 0 5 (.int) := ⟨_, _, _, rfl, by decide, fm_X6_113, rfl, by decide +kernel⟩
theorem fm_X2_22 : Cond.fieldLink RX2 22 (TX0 6).1 (TX0 6).2.1 (TX0 6).2.2.1 ∈ lw_good := good_of (List.mem_of_getElem? (i := 120) (by decide +kernel)) (by decide +kernel)
theorem fl_X2_22 : FLK RX2 22 0 6 := ⟨_, _, _, rfl, by decide, fm_X2_22⟩
theorem fm_X6_86 : Cond.fieldLink RX6 86 (TX0 6).1 (TX0 6).2.1 (TX0 6).2.2.1 ∈ lw_good := good_of (List.mem_of_getElem? (i := 121) (by decide +kernel)) (by decide +kernel)
theorem fl_X6_86 : FLK RX6 86 0 6 := ⟨_, _, _, rfl, by decide, fm_X6_86⟩
theorem fp_X6_86 : FPK RX6 86 0 6 (.object RX4) := ⟨_, _, _, rfl, by decide, fm_X6_86, rfl, by decide +kernel⟩
theorem fm_X0_34 : Cond.fieldLink RX0 34 (TX0 6).1 (TX0 6).2.1 (TX0 6).2.2.1 ∈ lw_good := good_of (List.mem_of_getElem? (i := 122) (by decide +kernel)) (by decide +kernel)
theorem fl_X0_34 : FLK RX0 34 0 6 := ⟨_, _, _, rfl, by decide, fm_X0_34⟩
theorem fp_X0_34 : FPK RX0 34 0 6 (.object RX4) := ⟨_, _, _, rfl, by decide, fm_X0_34, rfl, by decide +kernel⟩
theorem fm_X0_41 : Cond.fieldLink RX0 41 (TX0 7).1 (TX0 7).2.1 (TX0 7).2.2.1 ∈ lw_good := good_of (List.mem_of_getElem? (i := 123) (by decide +kernel)) (by decide +kernel)
theorem fl_X0_41 : FLK RX0 41 0 7 := ⟨_, _, _, rfl, by decide, fm_X0_41⟩
theorem fm_X6_230 : Cond.fieldLink RX6 230 (TX0 7).1 (TX0 7).2.1 (TX0 7).2.2.1 ∈ lw_good := good_of (List.mem_of_getElem? (i := 124) (by decide +kernel)) (by decide +kernel)
theorem fl_X6_230 : FLK RX6 230 0 7 := ⟨_, _, _, rfl, by decide, fm_X6_230⟩
theorem fp_X6_230 : FPK RX6 230 0 7 (.object RX4) := ⟨_, _, _, rfl, by decide, fm_X6_230, rfl, by decide +kernel⟩
theorem fm_X6_212 : Cond.fieldLink RX6 212 (TX0 8).1 (TX0 8).2.1 (TX0 8).2.2.1 ∈ lw_good := good_of (List.mem_of_getElem? (i := 125) (by decide +kernel)) (by decide +kernel)
theorem fl_X6_212 : FLK RX6 212 0 8 := ⟨_, _, _, rfl, by decide, fm_X6_212⟩
theorem fp_X6_212 : FPK RX6 212 0 8 (.int) := ⟨_, _, _, rfl, by decide, fm_X6_212, rfl, by decide +kernel⟩
theorem fm_X0_48 : Cond.fieldLink RX0 48 (TX0 9).1 (TX0 9).2.1 (TX0 9).2.2.1 ∈ lw_good := good_of (List.mem_of_getElem? (i := 126) (by decide +kernel)) (by decide +kernel)
theorem fl_X0_48 : FLK RX0 48 0 9 := ⟨_, _, _, rfl, by decide, fm_X0_48⟩
theorem fm_X6_259 : Cond.fieldLink RX6 259 (TX0 9).1 (TX0 9).2.1 (TX0 9).2.2.1 ∈ lw_good := good_of (List.mem_of_getElem? (i := 127) (by decide +kernel)) (by decide +kernel)
theorem fl_X6_259 : FLK RX6 259 0 9 := ⟨_, _, _, rfl, by decide, fm_X6_259⟩
theorem fp_X6_259 : FPK RX6 259 0 9 (.int) := ⟨_, _, _, rfl, by decide, fm_X6_259, rfl, by decide +kernel⟩
theorem fm_X6_250 : Cond.fieldLink RX6 250 (TX0 10).1 (TX0 10).2.1 (TX0 10).2.2.1 ∈ lw_good := good_of (List.mem_of_getElem? (i := 128) (by decide +kernel)) (by decide +kernel)
theorem fl_X6_250 : FLK RX6 250 0 10 := ⟨_, _, _, rfl, by decide, fm_X6_250⟩
theorem fp_X6_250 : FPK RX6 250 0 10 (.object RX1) := ⟨_, _, _, rfl, by decide, fm_X6_250, rfl, by decide +kernel⟩
theorem fm_X6_253 : Cond.fieldLink RX6 253 (TX0 11).1 (TX0 11).2.1 (TX0 11).2.2.1 ∈ lw_good := good_of (List.mem_of_getElem? (i := 129) (by decide +kernel)) (by decide +kernel)
theorem fl_X6_253 : FLK RX6 253 0 11 := ⟨_, _, _, rfl, by decide, fm_X6_253⟩
theorem fp_X6_253 : FPK RX6 253 0 11 (.int) := ⟨_, _, _, rfl, by decide, fm_X6_253, rfl, by decide +kernel⟩
theorem fm_X4_27 : Cond.fieldLink RX4 27 (TX4 0).1 (TX4 0).2.1 (TX4 0).2.2.1 ∈ lw_good := good_of (List.mem_of_getElem? (i := 168) (by decide +kernel)) (by decide +kernel)
theorem fl_X4_27 : FLK RX4 27 4 0 := ⟨_, _, _, rfl, by decide, fm_X4_27⟩
theorem ff_X4_27 : FPF RX4 27 4 0 (.int) := ⟨_, _, _, rfl, by decide, fm_X4_27, rfl, rfl, by decide +kernel⟩
theorem fm_X6_103 : Cond.fieldLink RX6 103 (TX4 0).1 (TX4 0).2.1 (TX4 0).2.2.1 ∈ lw_good := good_of (List.mem_of_getElem? (i := 169) (by decide +kernel)) (by decide +kernel)
theorem fl_X6_103 : FLK RX6 103 4 0 := ⟨_, _, _, rfl, by decide, fm_X6_103⟩
theorem fm_X4_31 : Cond.fieldLink RX4 31 (TX4 1).1 (TX4 1).2.1 (TX4 1).2.2.1 ∈ lw_good := good_of (List.mem_of_getElem? (i := 170) (by decide +kernel)) (by decide +kernel)
theorem fl_X4_31 : FLK RX4 31 4 1 := ⟨_, _, _, rfl, by decide, fm_X4_31⟩
theorem ff_X4_31 : FPF RX4 31 4 1 (.object RX0) := ⟨_, _, _, rfl, by decide, fm_X4_31, rfl, rfl, by decide +kernel⟩
theorem fm_X6_195 : Cond.fieldLink RX6 195 (TX4 1).1 (TX4 1).2.1 (TX4 1).2.2.1 ∈ lw_good := good_of (List.mem_of_getElem? (i := 171) (by decide +kernel)) (by decide +kernel)
theorem fl_X6_195 : FLK RX6 195 4 1 := ⟨_, _, _, rfl, by decide, fm_X6_195⟩
theorem fm_X4_35 : Cond.fieldLink RX4 35 (TX4 2).1 (TX4 2).2.1 (TX4 2).2.2.1 ∈ lw_good := good_of (List.mem_of_getElem? (i := 172) (by decide +kernel)) (by decide +kernel)
theorem fl_X4_35 : FLK RX4 35 4 2 := ⟨_, _, _, rfl, by decide, fm_X4_35⟩
theorem ff_X4_35 : FPF RX4 35 4 2 (.int) := ⟨_, _, _, rfl, by decide, fm_X4_35, rfl, rfl, by decide +kernel⟩
theorem fm_X0_38 : Cond.fieldLink RX0 38 (TX4 2).1 (TX4 2).2.1 (TX4 2).2.2.1 ∈ lw_good := good_of (List.mem_of_getElem? (i := 173) (by decide +kernel)) (by decide +kernel)
theorem fl_X0_38 : FLK RX0 38 4 2 := ⟨_, _, _, rfl, by decide, fm_X0_38⟩
theorem fm_X6_363 : Cond.fieldLink RX6 363 (TX4 2).1 (TX4 2).2.1 (TX4 2).2.2.1 ∈ lw_good := good_of (List.mem_of_getElem? (i := 174) (by decide +kernel)) (by decide +kernel)
theorem fl_X6_363 : FLK RX6 363 4 2 := ⟨_, _, _, rfl, by decide, fm_X6_363⟩
theorem fm_X4_12 : Cond.fieldLink RX4 12 (TX4 3).1 (TX4 3).2.1 (TX4 3).2.2.1 ∈ lw_good := good_of (List.mem_of_getElem? (i := 175) (by decide +kernel)) (by decide +kernel)
theorem fl_X4_12 : FLK RX4 12 4 3 := ⟨_, _, _, rfl, by decide, fm_X4_12⟩
theorem ff_X4_12 : FPF RX4 12 4 3 (.object RX5) := ⟨_, _, _, rfl, by decide, fm_X4_12, rfl, rfl, by decide +kernel⟩
theorem fm_X2_31 : Cond.fieldLink RX2 31 (TX4 3).1 (TX4 3).2.1 (TX4 3).2.2.1 ∈ lw_good := good_of (List.mem_of_getElem? (i := 176) (by decide +kernel)) (by decide +kernel)
theorem fl_X2_31 : FLK RX2 31 4 3 := ⟨_, _, _, rfl, by decide, fm_X2_31⟩
theorem fm_X6_80 : Cond.fieldLink RX6 80 (TX4 3).1 (TX4 3).2.1 (TX4 3).2.2.1 ∈ lw_good := good_of (List.mem_of_getElem? (i := 177) (by decide +kernel)) (by decide +kernel)
theorem fl_X6_80 : FLK RX6 80 4 3 := ⟨_, _, _, rfl, by decide, fm_X6_80⟩
theorem fm_X4_18 : Cond.fieldLink RX4 18 (TX4 4).1 (TX4 4).2.1 (TX4 4).2.2.1 ∈ lw_good := good_of (List.mem_of_getElem? (i := 178) (by decide +kernel)) (by decide +kernel)
theorem fl_X4_18 : FLK RX4 18 4 4 := ⟨_, _, _, rfl, by decide, fm_X4_18⟩
theorem ff_X4_18 : FPF RX4 18 4 4 (.object RX5) := ⟨_, _, _, rfl, by decide, fm_X4_18, rfl, rfl, by decide +kernel⟩
theorem fm_X6_192 : Cond.fieldLink RX6 192 (TX4 4).1 (TX4 4).2.1 (TX4 4).2.2.1 ∈ lw_good := good_of (List.mem_of_getElem? (i := 179) (by decide +kernel)) (by decide +kernel)
theorem fl_X6_192 : FLK RX6 192 4 4 := ⟨_, _, _, rfl, by decide, fm_X6_192⟩
theorem fm_X4_23 : Cond.fieldLink RX4 23 (TX4 5).1 (TX4 5).2.1 (TX4 5).2.2.1 ∈ lw_good := good_of (List.mem_of_getElem? (i := 180) (by decide +kernel)) (by decide +kernel)
theorem fl_X4_23 : FLK RX4 23 4 5 := ⟨_, _, _, rfl, by decide, fm_X4_23⟩
theorem ff_X4_23 : FPF RX4 23 4 5 (.array (.object RX3)) := ⟨_, _, _, rfl, by decide, fm_X4_23, rfl, rfl, by decide +kernel⟩
theorem fm_X4_50 : Cond.fieldLink RX4 50 (TX4 6).1 (TX4 6).2.1 (TX4 6).2.2.1 ∈ lw_good := good_of (List.mem_of_getElem? (i := 181) (by decide +kernel)) (by decide +kernel)
theorem fl_X4_50 : FLK RX4 50 4 6 := ⟨_, _, _, rfl, by decide, fm_X4_50⟩
theorem fp_X4_50 : FPK RX4 50 4 6 (.object RX1) := ⟨_, _, _, rfl, by decide, fm_X4_50, rfl, by decide +kernel⟩
theorem fm_X6_170 : Cond.fieldLink RX6 170 (TX4 6).1 (TX4 6).2.1 (TX4 6).2.2.1 ∈ lw_good := good_of (List.mem_of_getElem? (i := 182) (by decide +kernel)) (by decide +kernel)
theorem fl_X6_170 : FLK RX6 170 4 6 := ⟨_, _, _, rfl, by decide, fm_X6_170⟩
theorem fp_X6_170 : FPK RX6 170 4 6 (.object RX1) := ⟨_, _, _, rfl, by decide, fm_X6_170, rfl, by decide +kernel⟩
theorem fm_X6_83 : Cond.fieldLink RX6 83 (TX4 7).1 (TX4 7).2.1 (TX4 7).2.2.1 ∈ lw_good := good_of (List.mem_of_getElem? (i := 183) (by decide +kernel)) (by decide +kernel)
theorem fl_X6_83 : FLK RX6 83 4 7 := ⟨_, _, _, rfl, by decide, fm_X6_83⟩
theorem fp_X6_83 : FPK RX6 83 4 7 (.int) := ⟨_, _, _, rfl, by decide, fm_X6_83, rfl, by decide +kernel⟩
theorem fm_X4_63 : Cond.fieldLink RX4 63 (TX4 7).1 (TX4 7).2.1 (TX4 7).2.2.1 ∈ lw_good := good_of (List.mem_of_getElem? (i := 184) (by decide +kernel)) (by decide +kernel)
theorem fl_X4_63 : FLK RX4 63 4 7 := ⟨_, _, _, rfl, by decide, fm_X4_63⟩
theorem fm_X6_215 : Cond.fieldLink RX6 215 (TX4 8).1 (TX4 8).2.1 (TX4 8).2.2.1 ∈ lw_good := good_of (List.mem_of_getElem? (i := 185) (by decide +kernel)) (by decide +kernel)
theorem fl_X6_215 : FLK RX6 215 4 8 := ⟨_, _, _, rfl, by decide, fm_X6_215⟩
theorem fp_X6_215 : FPK RX6 215 4 8 (.int) := ⟨_, _, _, rfl, by decide, fm_X6_215, rfl, by decide +kernel⟩
theorem fm_X3_7 : Cond.fieldLink RX3 7 (TX3 0).1 (TX3 0).2.1 (TX3 0).2.2.1 ∈ lw_good := good_of (List.mem_of_getElem? (i := 277) (by decide +kernel)) (by decide +kernel)
theorem fl_X3_7 : FLK RX3 7 3 0 := ⟨_, _, _, rfl, by decide, fm_X3_7⟩
theorem ff_X3_7 : FPF RX3 7 3 0 (.int) := ⟨_, _, _, rfl, by decide, fm_X3_7, rfl, rfl, by decide +kernel⟩
theorem fm_X6_164 : Cond.fieldLink RX6 164 (TX3 0).1 (TX3 0).2.1 (TX3 0).2.2.1 ∈ lw_good := good_of (List.mem_of_getElem? (i := 278) (by decide +kernel)) (by decide +kernel)
theorem fl_X6_164 : FLK RX6 164 3 0 := ⟨_, _, _, rfl, by decide, fm_X6_164⟩
theorem fm_X4_90 : Cond.fieldLink RX4 90 (TX3 0).1 (TX3 0).2.1 (TX3 0).2.2.1 ∈ lw_good := good_of (List.mem_of_getElem? (i := 279) (by decide +kernel)) (by decide +kernel)
theorem fl_X4_90 : FLK RX4 90 3 0 := ⟨_, _, _, rfl, by decide, fm_X4_90⟩
theorem fm_X3_13 : Cond.fieldLink RX3 13 (TX3 1).1 (TX3 1).2.1 (TX3 1).2.2.1 ∈ lw_good := good_of (List.mem_of_getElem? (i := 280) (by decide +kernel)) (by decide +kernel)
theorem fl_X3_13 : FLK RX3 13 3 1 := ⟨_, _, _, rfl, by decide, fm_X3_13⟩
theorem ff_X3_13 : FPF RX3 13 3 1 (.int) := ⟨_, _, _, rfl, by decide, fm_X3_13, rfl, rfl, by decide +kernel⟩
theorem fm_X6_161 : Cond.fieldLink RX6 161 (TX3 1).1 (TX3 1).2.1 (TX3 1).2.2.1 ∈ lw_good := good_of (List.mem_of_getElem? (i := 281) (by decide +kernel)) (by decide +kernel)
theorem fl_X6_161 : FLK RX6 161 3 1 := ⟨_, _, _, rfl, by decide, fm_X6_161⟩
theorem fm_X3_16 : Cond.fieldLink RX3 16 (TX3 2).1 (TX3 2).2.1 (TX3 2).2.2.1 ∈ lw_good := good_of (List.mem_of_getElem? (i := 282) (by decide +kernel)) (by decide +kernel)
theorem fl_X3_16 : FLK RX3 16 3 2 := ⟨_, _, _, rfl, by decide, fm_X3_16⟩
theorem ff_X3_16 : FPF RX3 16 3 2 (.int) := ⟨_, _, _, rfl, by decide, fm_X3_16, rfl, rfl, by decide +kernel⟩
theorem fm_X4_84 : Cond.fieldLink RX4 84 (TX3 2).1 (TX3 2).2.1 (TX3 2).2.2.1 ∈ lw_good := good_of (List.mem_of_getElem? (i := 283) (by decide +kernel)) (by decide +kernel)
theorem fl_X4_84 : FLK RX4 84 3 2 := ⟨_, _, _, rfl, by decide, fm_X4_84⟩
theorem fm_X6_167 : Cond.fieldLink RX6 167 (TX3 2).1 (TX3 2).2.1 (TX3 2).2.2.1 ∈ lw_good := good_of (List.mem_of_getElem? (i := 284) (by decide +kernel)) (by decide +kernel)
theorem fl_X6_167 : FLK RX6 167 3 2 := ⟨_, _, _, rfl, by decide, fm_X6_167⟩
theorem fm_X3_19 : Cond.fieldLink RX3 19 (TX3 3).1 (TX3 3).2.1 (TX3 3).2.2.1 ∈ lw_good := good_of (List.mem_of_getElem? (i := 285) (by decide +kernel)) (by decide +kernel)
theorem fl_X3_19 : FLK RX3 19 3 3 := ⟨_, _, _, rfl, by decide, fm_X3_19⟩
theorem ff_X3_19 : FPF RX3 19 3 3 (.int) := ⟨_, _, _, rfl, by decide, fm_X3_19, rfl, rfl, by decide +kernel⟩
theorem fm_X6_288 : Cond.fieldLink RX6 288 (TX3 3).1 (TX3 3).2.1 (TX3 3).2.2.1 ∈ lw_good := good_of (List.mem_of_getElem? (i := 286) (by decide +kernel)) (by decide +kernel)
theorem fl_X6_288 : FLK RX6 288 3 3 := ⟨_, _, _, rfl, by decide, fm_X6_288⟩
theorem fm_X3_22 : Cond.fieldLink RX3 22 (TX3 4).1 (TX3 4).2.1 (TX3 4).2.2.1 ∈ lw_good := good_of (List.mem_of_getElem? (i := 287) (by decide +kernel)) (by decide +kernel)
theorem fl_X3_22 : FLK RX3 22 3 4 := ⟨_, _, _, rfl, by decide, fm_X3_22⟩
theorem ff_X3_22 : FPF RX3 22 3 4 (.int) := ⟨_, _, _, rfl, by decide, fm_X3_22, rfl, rfl, by decide +kernel⟩
theorem fm_X6_256 : Cond.fieldLink RX6 256 (TX3 4).1 (TX3 4).2.1 (TX3 4).2.2.1 ∈ lw_good := good_of (List.mem_of_getElem? (i := 288) (by decide +kernel)) (by decide +kernel)
theorem fl_X6_256 : FLK RX6 256 3 4 := ⟨_, _, _, rfl, by decide, fm_X6_256⟩
theorem fm_X1_7 : Cond.fieldLink RX1 7 (TX1 0).1 (TX1 0).2.1 (TX1 0).2.2.1 ∈ lw_good := good_of (List.mem_of_getElem? (i := 325) (by decide +kernel)) (by decide +kernel)
theorem fl_X1_7 : FLK RX1 7 1 0 := ⟨_, _, _, rfl, by decide, fm_X1_7⟩
theorem ff_X1_7 : FPF RX1 7 1 0 (.int) := ⟨_, _, _, rfl, by decide, fm_X1_7, rfl, rfl, by decide +kernel⟩
theorem fm_X6_189 : Cond.fieldLink RX6 189 (TX1 0).1 (TX1 0).2.1 (TX1 0).2.2.1 ∈ lw_good := good_of (List.mem_of_getElem? (i := 326) (by decide +kernel)) (by decide +kernel)
theorem fl_X6_189 : FLK RX6 189 1 0 := ⟨_, _, _, rfl, by decide, fm_X6_189⟩
theorem fm_X1_13 : Cond.fieldLink RX1 13 (TX1 1).1 (TX1 1).2.1 (TX1 1).2.2.1 ∈ lw_good := good_of (List.mem_of_getElem? (i := 327) (by decide +kernel)) (by decide +kernel)
theorem fl_X1_13 : FLK RX1 13 1 1 := ⟨_, _, _, rfl, by decide, fm_X1_13⟩
theorem ff_X1_13 : FPF RX1 13 1 1 (.int) := ⟨_, _, _, rfl, by decide, fm_X1_13, rfl, rfl, by decide +kernel⟩
theorem fm_X6_319 : Cond.fieldLink RX6 319 (TX1 1).1 (TX1 1).2.1 (TX1 1).2.2.1 ∈ lw_good := good_of (List.mem_of_getElem? (i := 328) (by decide +kernel)) (by decide +kernel)
theorem fl_X6_319 : FLK RX6 319 1 1 := ⟨_, _, _, rfl, by decide, fm_X6_319⟩
theorem fm_X1_16 : Cond.fieldLink RX1 16 (TX1 2).1 (TX1 2).2.1 (TX1 2).2.2.1 ∈ lw_good := good_of (List.mem_of_getElem? (i := 329) (by decide +kernel)) (by decide +kernel)
theorem fl_X1_16 : FLK RX1 16 1 2 := ⟨_, _, _, rfl, by decide, fm_X1_16⟩
theorem ff_X1_16 : FPF RX1 16 1 2 (.int) := ⟨_, _, _, rfl, by decide, fm_X1_16, rfl, rfl, by decide +kernel⟩
theorem fm_X4_79 : Cond.fieldLink RX4 79 (TX1 2).1 (TX1 2).2.1 (TX1 2).2.2.1 ∈ lw_good := good_of (List.mem_of_getElem? (i := 330) (by decide +kernel)) (by decide +kernel)
theorem fl_X4_79 : FLK RX4 79 1 2 := ⟨_, _, _, rfl, by decide, fm_X4_79⟩
theorem fm_X6_179 : Cond.fieldLink RX6 179 (TX1 2).1 (TX1 2).2.1 (TX1 2).2.2.1 ∈ lw_good := good_of (List.mem_of_getElem? (i := 331) (by decide +kernel)) (by decide +kernel)
theorem fl_X6_179 : FLK RX6 179 1 2 := ⟨_, _, _, rfl, by decide, fm_X6_179⟩
theorem fm_X1_19 : Cond.fieldLink RX1 19 (TX1 3).1 (TX1 3).2.1 (TX1 3).2.2.1 ∈ lw_good := good_of (List.mem_of_getElem? (i := 332) (by decide +kernel)) (by decide +kernel)
theorem fl_X1_19 : FLK RX1 19 1 3 := ⟨_, _, _, rfl, by decide, fm_X1_19⟩
theorem ff_X1_19 : FPF RX1 19 1 3 (.int) := ⟨_, _, _, rfl, by decide, fm_X1_19, rfl, rfl, by decide +kernel⟩
theorem fm_X6_182 : Cond.fieldLink RX6 182 (TX1 3).1 (TX1 3).2.1 (TX1 3).2.2.1 ∈ lw_good := good_of (List.mem_of_getElem? (i := 333) (by decide +kernel)) (by decide +kernel)
theorem fl_X6_182 : FLK RX6 182 1 3 := ⟨_, _, _, rfl, by decide, fm_X6_182⟩
theorem fm_X2_9 : Cond.fieldLink RX2 9 (TX2 0).1 (TX2 0).2.1 (TX2 0).2.2.1 ∈ lw_good := good_of (List.mem_of_getElem? (i := 523) (by decide +kernel)) (by decide +kernel)
theorem fl_X2_9 : FLK RX2 9 2 0 := ⟨_, _, _, rfl, by decide, fm_X2_9⟩
theorem ff_X2_9 : FPF RX2 9 2 0 (.object RX0) := ⟨_, _, _, rfl, by decide, fm_X2_9, rfl, rfl, by decide +kernel⟩
theorem fm_X6_354 : Cond.fieldLink RX6 354 (TX2 0).1 (TX2 0).2.1 (TX2 0).2.2.1 ∈ lw_good := good_of (List.mem_of_getElem? (i := 524) (by decide +kernel)) (by decide +kernel)
theorem fl_X6_354 : FLK RX6 354 2 0 := ⟨_, _, _, rfl, by decide, fm_X6_354⟩
theorem fm_X2_15 : Cond.fieldLink RX2 15 (TX2 1).1 (TX2 1).2.1 (TX2 1).2.2.1 ∈ lw_good := good_of (List.mem_of_getElem? (i := 525) (by decide +kernel)) (by decide +kernel)
theorem fl_X2_15 : FLK RX2 15 2 1 := ⟨_, _, _, rfl, by decide, fm_X2_15⟩
theorem ff_X2_15 : FPF RX2 15 2 1 (.int) := ⟨_, _, _, rfl, by decide, fm_X2_15, rfl, rfl, by decide +kernel⟩
theorem fm_X6_358 : Cond.fieldLink RX6 358 (TX2 1).1 (TX2 1).2.1 (TX2 1).2.2.1 ∈ lw_good := good_of (List.mem_of_getElem? (i := 526) (by decide +kernel)) (by decide +kernel)
theorem fl_X6_358 : FLK RX6 358 2 1 := ⟨_, _, _, rfl, by decide, fm_X6_358⟩
theorem fm_X2_19 : Cond.fieldLink RX2 19 (TX2 2).1 (TX2 2).2.1 (TX2 2).2.2.1 ∈ lw_good := good_of (List.mem_of_getElem? (i := 527) (by decide +kernel)) (by decide +kernel)
theorem fl_X2_19 : FLK RX2 19 2 2 := ⟨_, _, _, rfl, by decide, fm_X2_19⟩
theorem ff_X2_19 : FPF RX2 19 2 2 (.int) := ⟨_, _, _, rfl, by decide, fm_X2_19, rfl, rfl, by decide +kernel⟩
theorem fm_X6_345 : Cond.fieldLink RX6 345 (TX2 2).1 (TX2 2).2.1 (TX2 2).2.2.1 ∈ lw_good := good_of (List.mem_of_getElem? (i := 528) (by decide +kernel)) (by decide +kernel)
theorem fl_X6_345 : FLK RX6 345 2 2 := ⟨_, _, _, rfl, by decide, fm_X6_345⟩
theorem fm_X7_7 : Cond.fieldLink RX7 7 (TX7 0).1 (TX7 0).2.1 (TX7 0).2.2.1 ∈ lw_good := good_of (List.mem_of_getElem? (i := 601) (by decide +kernel)) (by decide +kernel)
theorem fl_X7_7 : FLK RX7 7 7 0 := ⟨_, _, _, rfl, by decide, fm_X7_7⟩
theorem ff_X7_7 : FPF RX7 7 7 0 (.array .int) := ⟨_, _, _, rfl, by decide, fm_X7_7, rfl, rfl, by decide +kernel⟩
theorem fm_X7_137 : Cond.fieldLink RX7 137 (TX7 1).1 (TX7 1).2.1 (TX7 1).2.2.1 ∈ lw_good := good_of (List.mem_of_getElem? (i := 602) (by decide +kernel)) (by decide +kernel)
theorem fl_X7_137 : FLK RX7 137 7 1 := ⟨_, _, _, rfl, by decide, fm_X7_137⟩
theorem fp_X7_137 : FPK RX7 137 7 1 (.int) := ⟨_, _, _, rfl, by decide, fm_X7_137, rfl, by decide +kernel⟩
theorem fm_X7_103 : Cond.fieldLink RX7 103 (TX7 2).1 (TX7 2).2.1 (TX7 2).2.2.1 ∈ lw_good := good_of (List.mem_of_getElem? (i := 603) (by decide +kernel)) (by decide +kernel)
theorem fl_X7_103 : FLK RX7 103 7 2 := ⟨_, _, _, rfl, by decide, fm_X7_103⟩
theorem fp_X7_103 : FPK RX7 103 7 2 (.int) := ⟨_, _, _, rfl, by decide, fm_X7_103, rfl, by decide +kernel⟩
theorem fm_X7_165 : Cond.fieldLink RX7 165 (TX7 3).1 (TX7 3).2.1 (TX7 3).2.2.1 ∈ lw_good := good_of (List.mem_of_getElem? (i := 604) (by decide +kernel)) (by decide +kernel)
theorem fl_X7_165 : FLK RX7 165 7 3 := ⟨_, _, _, rfl, by decide, fm_X7_165⟩
theorem fp_X7_165 : FPK RX7 165 7 3 (.int) := ⟨_, _, _, rfl, by decide, fm_X7_165, rfl, by decide +kernel⟩
theorem fm_X7_13 : Cond.fieldLink RX7 13 (TX7 4).1 (TX7 4).2.1 (TX7 4).2.2.1 ∈ lw_good := good_of (List.mem_of_getElem? (i := 605) (by decide +kernel)) (by decide +kernel)
theorem fl_X7_13 : FLK RX7 13 7 4 := ⟨_, _, _, rfl, by decide, fm_X7_13⟩
theorem ff_X7_13 : FPF RX7 13 7 4 (.array .int) := ⟨_, _, _, rfl, by decide, fm_X7_13, rfl, rfl, by decide +kernel⟩
theorem fm_X7_68 : Cond.fieldLink RX7 68 (TX7 5).1 (TX7 5).2.1 (TX7 5).2.2.1 ∈ lw_good := good_of (List.mem_of_getElem? (i := 606) (by decide +kernel)) (by decide +kernel)
theorem fl_X7_68 : FLK RX7 68 7 5 := ⟨_, _, _, rfl, by decide, fm_X7_68⟩
theorem fp_X7_68 : FPK RX7 68 7 5 (.int) := ⟨_, _, _, rfl, by decide, fm_X7_68, rfl, by decide +kernel⟩
theorem fm_X7_16 : Cond.fieldLink RX7 16 (TX7 6).1 (TX7 6).2.1 (TX7 6).2.2.1 ∈ lw_good := good_of (List.mem_of_getElem? (i := 607) (by decide +kernel)) (by decide +kernel)
theorem fl_X7_16 : FLK RX7 16 7 6 := ⟨_, _, _, rfl, by decide, fm_X7_16⟩
theorem ff_X7_16 : FPF RX7 16 7 6 (.array .int) := ⟨_, _, _, rfl, by decide, fm_X7_16, rfl, rfl, by decide +kernel⟩
theorem fm_X7_19 : Cond.fieldLink RX7 19 (TX7 7).1 (TX7 7).2.1 (TX7 7).2.2.1 ∈ lw_good := good_of (List.mem_of_getElem? (i := 608) (by decide +kernel)) (by decide +kernel)
theorem fl_X7_19 : FLK RX7 19 7 7 := ⟨_, _, _, rfl, by decide, fm_X7_19⟩
theorem ff_X7_19 : FPF RX7 19 7 7 (.array .int) := ⟨_, _, _, rfl, by decide, fm_X7_19, rfl, rfl, by decide +kernel⟩
theorem fm_X7_22 : Cond.fieldLink RX7 22 (TX7 8).1 (TX7 8).2.1 (TX7 8).2.2.1 ∈ lw_good := good_of (List.mem_of_getElem? (i := 609) (by decide +kernel)) (by decide +kernel)
theorem fl_X7_22 : FLK RX7 22 7 8 := ⟨_, _, _, rfl, by decide, fm_X7_22⟩
theorem ff_X7_22 : FPF RX7 22 7 8 (.array .int) := ⟨_, _, _, rfl, by decide, fm_X7_22, rfl, rfl, by decide +kernel⟩
theorem fm_X7_25 : Cond.fieldLink RX7 25 (TX7 9).1 (TX7 9).2.1 (TX7 9).2.2.1 ∈ lw_good := good_of (List.mem_of_getElem? (i := 610) (by decide +kernel)) (by decide +kernel)
theorem fl_X7_25 : FLK RX7 25 7 9 := ⟨_, _, _, rfl, by decide, fm_X7_25⟩
theorem ff_X7_25 : FPF RX7 25 7 9 (.array .int) := ⟨_, _, _, rfl, by decide, fm_X7_25, rfl, rfl, by decide +kernel⟩
theorem fm_X7_28 : Cond.fieldLink RX7 28 (TX7 10).1 (TX7 10).2.1 (TX7 10).2.2.1 ∈ lw_good := good_of (List.mem_of_getElem? (i := 611) (by decide +kernel)) (by decide +kernel)
theorem fl_X7_28 : FLK RX7 28 7 10 := ⟨_, _, _, rfl, by decide, fm_X7_28⟩
theorem ff_X7_28 : FPF RX7 28 7 10 (.array .int) := ⟨_, _, _, rfl, by decide, fm_X7_28, rfl, rfl, by decide +kernel⟩
theorem fm_X7_31 : Cond.fieldLink RX7 31 (TX7 11).1 (TX7 11).2.1 (TX7 11).2.2.1 ∈ lw_good := good_of (List.mem_of_getElem? (i := 612) (by decide +kernel)) (by decide +kernel)
theorem fl_X7_31 : FLK RX7 31 7 11 := ⟨_, _, _, rfl, by decide, fm_X7_31⟩
theorem ff_X7_31 : FPF RX7 31 7 11 (.array .int) := ⟨_, _, _, rfl, by decide, fm_X7_31, rfl, rfl, by decide +kernel⟩
theorem fm_X7_34 : Cond.fieldLink RX7 34 (TX7 12).1 (TX7 12).2.1 (TX7 12).2.2.1 ∈ lw_good := good_of (List.mem_of_getElem? (i := 613) (by decide +kernel)) (by decide +kernel)
theorem fl_X7_34 : FLK RX7 34 7 12 := ⟨_, _, _, rfl, by decide, fm_X7_34⟩
theorem ff_X7_34 : FPF RX7 34 7 12 (.array .int) := ⟨_, _, _, rfl, by decide, fm_X7_34, rfl, rfl, by decide +kernel⟩
theorem fm_X7_37 : Cond.fieldLink RX7 37 (TX7 13).1 (TX7 13).2.1 (TX7 13).2.2.1 ∈ lw_good := good_of (List.mem_of_getElem? (i := 614) (by decide +kernel)) (by decide +kernel)
theorem fl_X7_37 : FLK RX7 37 7 13 := ⟨_, _, _, rfl, by decide, fm_X7_37⟩
theorem ff_X7_37 : FPF RX7 37 7 13 (.array .int) := ⟨_, _, _, rfl, by decide, fm_X7_37, rfl, rfl, by decide +kernel⟩
theorem fm_X7_40 : Cond.fieldLink RX7 40 (TX7 14).1 (TX7 14).2.1 (TX7 14).2.2.1 ∈ lw_good := good_of (List.mem_of_getElem? (i := 615) (by decide +kernel)) (by decide +kernel)
theorem fl_X7_40 : FLK RX7 40 7 14 := ⟨_, _, _, rfl, by decide, fm_X7_40⟩
theorem ff_X7_40 : FPF RX7 40 7 14 (.array .int) := ⟨_, _, _, rfl, by decide, fm_X7_40, rfl, rfl, by decide +kernel⟩
theorem fm_X7_43 : Cond.fieldLink RX7 43 (TX7 15).1 (TX7 15).2.1 (TX7 15).2.2.1 ∈ lw_good := good_of (List.mem_of_getElem? (i := 616) (by decide +kernel)) (by decide +kernel)
theorem fl_X7_43 : FLK RX7 43 7 15 := ⟨_, _, _, rfl, by decide, fm_X7_43⟩
theorem ff_X7_43 : FPF RX7 43 7 15 (.array .int) := ⟨_, _, _, rfl, by decide, fm_X7_43, rfl, rfl, by decide +kernel⟩
theorem fm_X7_46 : Cond.fieldLink RX7 46 (TX7 16).1 (TX7 16).2.1 (TX7 16).2.2.1 ∈ lw_good := good_of (List.mem_of_getElem? (i := 617) (by decide +kernel)) (by decide +kernel)
theorem fl_X7_46 : FLK RX7 46 7 16 := ⟨_, _, _, rfl, by decide, fm_X7_46⟩
theorem ff_X7_46 : FPF RX7 46 7 16 (.array .int) := ⟨_, _, _, rfl, by decide, fm_X7_46, rfl, rfl, by decide +kernel⟩
theorem fm_X7_49 : Cond.fieldLink RX7 49 (TX7 17).1 (TX7 17).2.1 (TX7 17).2.2.1 ∈ lw_good := good_of (List.mem_of_getElem? (i := 618) (by decide +kernel)) (by decide +kernel)
theorem fl_X7_49 : FLK RX7 49 7 17 := ⟨_, _, _, rfl, by decide, fm_X7_49⟩
theorem ff_X7_49 : FPF RX7 49 7 17 (.array .int) := ⟨_, _, _, rfl, by decide, fm_X7_49, rfl, rfl, by decide +kernel⟩
theorem fm_X7_72 : Cond.fieldLink RX7 72 (TX7 18).1 (TX7 18).2.1 (TX7 18).2.2.1 ∈ lw_good := good_of (List.mem_of_getElem? (i := 619) (by decide +kernel)) (by decide +kernel)
theorem fl_X7_72 : FLK RX7 72 7 18 := ⟨_, _, _, rfl, by decide, fm_X7_72⟩
theorem fp_X7_72 : FPK RX7 72 7 18 (.int) := ⟨_, _, _, rfl, by decide, fm_X7_72, rfl, by decide +kernel⟩
theorem fm_X7_52 : Cond.fieldLink RX7 52 (TX7 19).1 (TX7 19).2.1 (TX7 19).2.2.1 ∈ lw_good := good_of (List.mem_of_getElem? (i := 620) (by decide +kernel)) (by decide +kernel)
theorem fl_X7_52 : FLK RX7 52 7 19 := ⟨_, _, _, rfl, by decide, fm_X7_52⟩
theorem ff_X7_52 : FPF RX7 52 7 19 (.array .int) := ⟨_, _, _, rfl, by decide, fm_X7_52, rfl, rfl, by decide +kernel⟩
theorem fm_X7_185 : Cond.fieldLink RX7 185 (TX7 20).1 (TX7 20).2.1 (TX7 20).2.2.1 ∈ lw_good := good_of (List.mem_of_getElem? (i := 621) (by decide +kernel)) (by decide +kernel)
theorem fl_X7_185 : FLK RX7 185 7 20 := ⟨_, _, _, rfl, by decide, fm_X7_185⟩
theorem fp_X7_185 : FPK RX7 185 7 20 (.int) := ⟨_, _, _, rfl, by decide, fm_X7_185, rfl, by decide +kernel⟩
theorem fm_X7_55 : Cond.fieldLink RX7 55 (TX7 21).1 (TX7 21).2.1 (TX7 21).2.2.1 ∈ lw_good := good_of (List.mem_of_getElem? (i := 622) (by decide +kernel)) (by decide +kernel)
theorem fl_X7_55 : FLK RX7 55 7 21 := ⟨_, _, _, rfl, by decide, fm_X7_55⟩
theorem ff_X7_55 : FPF RX7 55 7 21 (.array .int) := ⟨_, _, _, rfl, by decide, fm_X7_55, rfl, rfl, by decide +kernel⟩
theorem fm_X7_58 : Cond.fieldLink RX7 58 (TX7 22).1 (TX7 22).2.1 (TX7 22).2.2.1 ∈ lw_good := good_of (List.mem_of_getElem? (i := 623) (by decide +kernel)) (by decide +kernel)
theorem fl_X7_58 : FLK RX7 58 7 22 := ⟨_, _, _, rfl, by decide, fm_X7_58⟩
theorem ff_X7_58 : FPF RX7 58 7 22 (.array .int) := ⟨_, _, _, rfl, by decide, fm_X7_58, rfl, rfl, by decide +kernel⟩
theorem fm_X7_61 : Cond.fieldLink RX7 61 (TX7 23).1 (TX7 23).2.1 (TX7 23).2.2.1 ∈ lw_good := good_of (List.mem_of_getElem? (i := 624) (by decide +kernel)) (by decide +kernel)
theorem fl_X7_61 : FLK RX7 61 7 23 := ⟨_, _, _, rfl, by decide, fm_X7_61⟩
theorem ff_X7_61 : FPF RX7 61 7 23 (.array .int) := ⟨_, _, _, rfl, by decide, fm_X7_61, rfl, rfl, by decide +kernel⟩
theorem ml_L_9 : Cond.methodLink RL 9 yX6_init ∈ lw_good := good_of (List.mem_of_getElem? (i := 12) (by decide +kernel)) (by decide +kernel)
theorem ml_X6_1 : Cond.methodLink RX6 1 objectInit ∈ lw_good := good_of (List.mem_of_getElem? (i := 15) (by decide +kernel)) (by decide +kernel)
theorem ml_X6_9 : Cond.methodLinkNest RX6 9 yX5_init "StateChannels" ∈ lw_tbl := tbl_of (List.mem_of_getElem? (i := 20) (by decide +kernel))
theorem ml_X5_3 : Cond.methodLink RX5 3 objectInit ∈ lw_good := good_of (List.mem_of_getElem? (i := 23) (by decide +kernel)) (by decide +kernel)
theorem ml_X6_38 : Cond.methodLink RX6 38 yX5_put ∈ lw_good := good_of (List.mem_of_getElem? (i := 35) (by decide +kernel)) (by decide +kernel)
theorem ml_L_13 : Cond.methodLink RL 13 yX6_channel ∈ lw_good := good_of (List.mem_of_getElem? (i := 73) (by decide +kernel)) (by decide +kernel)
theorem ml_X6_42 : Cond.methodLink RX6 42 yX6_isWithin ∈ lw_good := good_of (List.mem_of_getElem? (i := 77) (by decide +kernel)) (by decide +kernel)
theorem ml_X6_46 : Cond.methodLink RX6 46 yJ6_bitCount_0f7a4 ∈ lw_good := good_of (List.mem_of_getElem? (i := 80) (by decide +kernel)) (by decide +kernel)
theorem ct_J6_265 : Cond.constant RJ6 265 1431655765 ∈ lw_good := good_of (List.mem_of_getElem? (i := 83) (by decide +kernel)) (by decide +kernel)
theorem ct_J6_266 : Cond.constant RJ6 266 858993459 ∈ lw_good := good_of (List.mem_of_getElem? (i := 84) (by decide +kernel)) (by decide +kernel)
theorem ct_J6_267 : Cond.constant RJ6 267 252645135 ∈ lw_good := good_of (List.mem_of_getElem? (i := 85) (by decide +kernel)) (by decide +kernel)
theorem ml_X6_56 : Cond.methodLink RX6 56 yX6_hasRoomForStates ∈ lw_good := good_of (List.mem_of_getElem? (i := 86) (by decide +kernel)) (by decide +kernel)
theorem ml_X6_60 : Cond.methodLink RX6 60 yX6_allHave ∈ lw_good := good_of (List.mem_of_getElem? (i := 90) (by decide +kernel)) (by decide +kernel)
theorem ml_X6_107 : Cond.methodLink RX6 107 yX6_isIn ∈ lw_good := good_of (List.mem_of_getElem? (i := 94) (by decide +kernel)) (by decide +kernel)
theorem ml_X6_110 : Cond.methodLink RX6 110 yX5_get ∈ lw_good := good_of (List.mem_of_getElem? (i := 97) (by decide +kernel)) (by decide +kernel)
theorem ml_X6_64 : Cond.methodLink RX6 64 yX0_init ∈ lw_good := good_of (List.mem_of_getElem? (i := 102) (by decide +kernel)) (by decide +kernel)
theorem ml_X0_3 : Cond.methodLink RX0 3 objectInit ∈ lw_good := good_of (List.mem_of_getElem? (i := 105) (by decide +kernel)) (by decide +kernel)
theorem ml_X6_67 : Cond.methodLink RX6 67 yX6_newState ∈ lw_good := good_of (List.mem_of_getElem? (i := 155) (by decide +kernel)) (by decide +kernel)
theorem ml_X6_116 : Cond.methodLink RX6 116 yX4_init ∈ lw_good := good_of (List.mem_of_getElem? (i := 160) (by decide +kernel)) (by decide +kernel)
theorem ml_X4_3 : Cond.methodLink RX4 3 objectInit ∈ lw_good := good_of (List.mem_of_getElem? (i := 163) (by decide +kernel)) (by decide +kernel)
theorem ml_X4_11 : Cond.methodLinkNest RX4 11 yX5_init "StateChannels" ∈ lw_tbl := tbl_of (List.mem_of_getElem? (i := 165) (by decide +kernel))
theorem ml_X6_71 : Cond.methodLink RX6 71 yX0_hasMember ∈ lw_good := good_of (List.mem_of_getElem? (i := 205) (by decide +kernel)) (by decide +kernel)
theorem ml_X0_24 : Cond.methodLinkNest RX0 24 yX6_isIn "StateChannels" ∈ lw_tbl := tbl_of (List.mem_of_getElem? (i := 209) (by decide +kernel))
theorem ml_X6_74 : Cond.methodLink RX6 74 yX5_add ∈ lw_good := good_of (List.mem_of_getElem? (i := 210) (by decide +kernel)) (by decide +kernel)
theorem ml_L_18 : Cond.methodLink RL 18 yX6_state ∈ lw_good := good_of (List.mem_of_getElem? (i := 214) (by decide +kernel)) (by decide +kernel)
theorem ml_X6_93 : Cond.methodLink RX6 93 yX6_channelAt ∈ lw_good := good_of (List.mem_of_getElem? (i := 218) (by decide +kernel)) (by decide +kernel)
theorem ml_X6_100 : Cond.methodLink RX6 100 yX6_newStateAsNewest ∈ lw_good := good_of (List.mem_of_getElem? (i := 222) (by decide +kernel)) (by decide +kernel)
theorem ml_X6_119 : Cond.methodLink RX6 119 yX4_copyFrom ∈ lw_good := good_of (List.mem_of_getElem? (i := 226) (by decide +kernel)) (by decide +kernel)
theorem ml_X4_38 : Cond.methodLink RX4 38 yX5_get ∈ lw_good := good_of (List.mem_of_getElem? (i := 230) (by decide +kernel)) (by decide +kernel)
theorem ml_X4_42 : Cond.methodLink RX4 42 yX5_put ∈ lw_good := good_of (List.mem_of_getElem? (i := 231) (by decide +kernel)) (by decide +kernel)
theorem ml_X4_46 : Cond.methodLink RX4 46 yX4_lockAt ∈ lw_good := good_of (List.mem_of_getElem? (i := 232) (by decide +kernel)) (by decide +kernel)
theorem ml_L_23 : Cond.methodLink RL 23 yX6_change ∈ lw_good := good_of (List.mem_of_getElem? (i := 236) (by decide +kernel)) (by decide +kernel)
theorem ml_X6_123 : Cond.methodLink RX6 123 yX6_stateAt ∈ lw_good := good_of (List.mem_of_getElem? (i := 240) (by decide +kernel)) (by decide +kernel)
theorem ml_X6_127 : Cond.methodLink RX6 127 yX4_hasMember ∈ lw_good := good_of (List.mem_of_getElem? (i := 244) (by decide +kernel)) (by decide +kernel)
theorem ml_X4_54 : Cond.methodLink RX4 54 yX0_hasMember ∈ lw_good := good_of (List.mem_of_getElem? (i := 248) (by decide +kernel)) (by decide +kernel)
theorem ml_X6_128 : Cond.methodLink RX6 128 yX4_isFixed ∈ lw_good := good_of (List.mem_of_getElem? (i := 249) (by decide +kernel)) (by decide +kernel)
theorem ct_X6_132 : Cond.constant RX6 132 60000 ∈ lw_good := good_of (List.mem_of_getElem? (i := 253) (by decide +kernel)) (by decide +kernel)
theorem ml_X6_133 : Cond.methodLink RX6 133 yX4_freeOf ∈ lw_good := good_of (List.mem_of_getElem? (i := 254) (by decide +kernel)) (by decide +kernel)
theorem ml_L_28 : Cond.methodLink RL 28 yX6_lock ∈ lw_good := good_of (List.mem_of_getElem? (i := 258) (by decide +kernel)) (by decide +kernel)
theorem ml_X6_136 : Cond.methodLink RX6 136 yX6_isSecret ∈ lw_good := good_of (List.mem_of_getElem? (i := 262) (by decide +kernel)) (by decide +kernel)
theorem ct_X6_139 : Cond.constant RX6 139 1000000 ∈ lw_good := good_of (List.mem_of_getElem? (i := 266) (by decide +kernel)) (by decide +kernel)
theorem ml_X6_140 : Cond.methodLink RX6 140 yX4_emptyPlace ∈ lw_good := good_of (List.mem_of_getElem? (i := 267) (by decide +kernel)) (by decide +kernel)
theorem ml_X6_146 : Cond.methodLink RX6 146 yX3_init ∈ lw_good := good_of (List.mem_of_getElem? (i := 273) (by decide +kernel)) (by decide +kernel)
theorem ml_X3_1 : Cond.methodLink RX3 1 objectInit ∈ lw_good := good_of (List.mem_of_getElem? (i := 276) (by decide +kernel)) (by decide +kernel)
theorem ml_X6_149 : Cond.methodLink RX6 149 yX4_addLock ∈ lw_good := good_of (List.mem_of_getElem? (i := 300) (by decide +kernel)) (by decide +kernel)
theorem ml_X4_87 : Cond.methodLink RX4 87 yX4_emptyPlace ∈ lw_good := good_of (List.mem_of_getElem? (i := 304) (by decide +kernel)) (by decide +kernel)
theorem ml_X4_93 : Cond.methodLink RX4 93 yX5_add ∈ lw_good := good_of (List.mem_of_getElem? (i := 305) (by decide +kernel)) (by decide +kernel)
theorem ml_L_33 : Cond.methodLink RL 33 yX6_unlock ∈ lw_good := good_of (List.mem_of_getElem? (i := 306) (by decide +kernel)) (by decide +kernel)
theorem ml_X6_153 : Cond.methodLink RX6 153 yX4_lockAt ∈ lw_good := good_of (List.mem_of_getElem? (i := 310) (by decide +kernel)) (by decide +kernel)
theorem ml_X6_157 : Cond.methodLink RX6 157 yX4_removeLock ∈ lw_good := good_of (List.mem_of_getElem? (i := 311) (by decide +kernel)) (by decide +kernel)
theorem ml_L_38 : Cond.methodLink RL 38 yX6_game ∈ lw_good := good_of (List.mem_of_getElem? (i := 315) (by decide +kernel)) (by decide +kernel)
theorem ml_X6_176 : Cond.methodLink RX6 176 yX1_init ∈ lw_good := good_of (List.mem_of_getElem? (i := 321) (by decide +kernel)) (by decide +kernel)
theorem ml_X1_1 : Cond.methodLink RX1 1 objectInit ∈ lw_good := good_of (List.mem_of_getElem? (i := 324) (by decide +kernel)) (by decide +kernel)
theorem ml_L_43 : Cond.methodLink RL 43 yX6_move ∈ lw_good := good_of (List.mem_of_getElem? (i := 343) (by decide +kernel)) (by decide +kernel)
theorem ml_X6_185 : Cond.methodLink RX6 185 yX1_after ∈ lw_good := good_of (List.mem_of_getElem? (i := 347) (by decide +kernel)) (by decide +kernel)
theorem ml_X1_22 : Cond.methodLink RX1 22 yX1_init ∈ lw_good := good_of (List.mem_of_getElem? (i := 352) (by decide +kernel)) (by decide +kernel)
theorem ml_L_48 : Cond.methodLink RL 48 yX6_out ∈ lw_good := good_of (List.mem_of_getElem? (i := 353) (by decide +kernel)) (by decide +kernel)
theorem ml_L_52 : Cond.methodLink RL 52 yX6_sign ∈ lw_good := good_of (List.mem_of_getElem? (i := 357) (by decide +kernel)) (by decide +kernel)
theorem ml_X6_199 : Cond.methodLink RX6 199 yX0_noteSigned ∈ lw_good := good_of (List.mem_of_getElem? (i := 361) (by decide +kernel)) (by decide +kernel)
theorem ml_X0_28 : Cond.methodLink RX0 28 yX4_doesCount ∈ lw_good := good_of (List.mem_of_getElem? (i := 365) (by decide +kernel)) (by decide +kernel)
theorem ml_X4_69 : Cond.methodLink RX4 69 yX4_whole ∈ lw_good := good_of (List.mem_of_getElem? (i := 369) (by decide +kernel)) (by decide +kernel)
theorem ml_X4_76 : Cond.methodLink RX4 76 yX5_total ∈ lw_good := good_of (List.mem_of_getElem? (i := 373) (by decide +kernel)) (by decide +kernel)
theorem ml_L_56 : Cond.methodLink RL 56 yX6_show ∈ lw_good := good_of (List.mem_of_getElem? (i := 377) (by decide +kernel)) (by decide +kernel)
theorem ml_X6_202 : Cond.methodLink RX6 202 yX4_doesCount ∈ lw_good := good_of (List.mem_of_getElem? (i := 381) (by decide +kernel)) (by decide +kernel)
theorem ml_X6_205 : Cond.methodLink RX6 205 yX0_wouldTake ∈ lw_good := good_of (List.mem_of_getElem? (i := 382) (by decide +kernel)) (by decide +kernel)
theorem ml_X6_209 : Cond.methodLink RX6 209 yX6_makeShown ∈ lw_good := good_of (List.mem_of_getElem? (i := 386) (by decide +kernel)) (by decide +kernel)
theorem ml_L_60 : Cond.methodLink RL 60 yX6_agree ∈ lw_good := good_of (List.mem_of_getElem? (i := 390) (by decide +kernel)) (by decide +kernel)
theorem ml_X6_221 : Cond.methodLink RX6 221 yX6_fulfil ∈ lw_good := good_of (List.mem_of_getElem? (i := 394) (by decide +kernel)) (by decide +kernel)
theorem ml_X6_233 : Cond.methodLink RX6 233 yX4_hasOut ∈ lw_good := good_of (List.mem_of_getElem? (i := 398) (by decide +kernel)) (by decide +kernel)
theorem ml_X6_236 : Cond.methodLink RX6 236 yX6_payOuts ∈ lw_good := good_of (List.mem_of_getElem? (i := 402) (by decide +kernel)) (by decide +kernel)
theorem ml_X6_242 : Cond.methodLink RX6 242 yX6_payFrom ∈ lw_good := good_of (List.mem_of_getElem? (i := 406) (by decide +kernel)) (by decide +kernel)
theorem ml_X6_239 : Cond.methodLink RX6 239 yX6_endBy ∈ lw_good := good_of (List.mem_of_getElem? (i := 410) (by decide +kernel)) (by decide +kernel)
theorem ml_X6_246 : Cond.methodLink RX6 246 yX6_holdOrGiveBack ∈ lw_good := good_of (List.mem_of_getElem? (i := 414) (by decide +kernel)) (by decide +kernel)
theorem ml_L_64 : Cond.methodLink RL 64 yX6_secret ∈ lw_good := good_of (List.mem_of_getElem? (i := 418) (by decide +kernel)) (by decide +kernel)
theorem ml_X6_262 : Cond.methodLink RX6 262 yX6_isParty ∈ lw_good := good_of (List.mem_of_getElem? (i := 422) (by decide +kernel)) (by decide +kernel)
theorem ml_X6_265 : Cond.methodLink RX6 265 yX6_hasRoomForSecret ∈ lw_good := good_of (List.mem_of_getElem? (i := 425) (by decide +kernel)) (by decide +kernel)
theorem ml_X6_268 : Cond.methodLink RX6 268 yX6_newSecret ∈ lw_good := good_of (List.mem_of_getElem? (i := 429) (by decide +kernel)) (by decide +kernel)
theorem ml_L_68 : Cond.methodLink RL 68 yX6_tell ∈ lw_good := good_of (List.mem_of_getElem? (i := 433) (by decide +kernel)) (by decide +kernel)
theorem ml_X6_271 : Cond.methodLink RX6 271 yX6_isKnownBy ∈ lw_good := good_of (List.mem_of_getElem? (i := 437) (by decide +kernel)) (by decide +kernel)
theorem ml_L_72 : Cond.methodLink RL 72 yX6_claim ∈ lw_good := good_of (List.mem_of_getElem? (i := 441) (by decide +kernel)) (by decide +kernel)
theorem ml_X6_277 : Cond.methodLink RX6 277 yX6_isPlace ∈ lw_good := good_of (List.mem_of_getElem? (i := 445) (by decide +kernel)) (by decide +kernel)
theorem ml_X6_280 : Cond.methodLink RX6 280 yX6_claimHeld ∈ lw_good := good_of (List.mem_of_getElem? (i := 448) (by decide +kernel)) (by decide +kernel)
theorem ml_X6_291 : Cond.methodLink RX6 291 yX0_heldLockAt ∈ lw_good := good_of (List.mem_of_getElem? (i := 452) (by decide +kernel)) (by decide +kernel)
theorem ml_X0_44 : Cond.methodLinkNest RX0 44 yX6_isPlace "StateChannels" ∈ lw_tbl := tbl_of (List.mem_of_getElem? (i := 456) (by decide +kernel))
theorem ml_X0_51 : Cond.methodLink RX0 51 yX4_lockAt ∈ lw_good := good_of (List.mem_of_getElem? (i := 457) (by decide +kernel)) (by decide +kernel)
theorem ml_X6_294 : Cond.methodLink RX6 294 yX6_canClaim ∈ lw_good := good_of (List.mem_of_getElem? (i := 458) (by decide +kernel)) (by decide +kernel)
theorem ml_X6_298 : Cond.methodLink RX6 298 yX6_payHeldLock ∈ lw_good := good_of (List.mem_of_getElem? (i := 462) (by decide +kernel)) (by decide +kernel)
theorem ml_L_76 : Cond.methodLink RL 76 yX6_step ∈ lw_good := good_of (List.mem_of_getElem? (i := 466) (by decide +kernel)) (by decide +kernel)
theorem ml_X6_284 : Cond.methodLink RX6 284 yX6_moveHeld ∈ lw_good := good_of (List.mem_of_getElem? (i := 470) (by decide +kernel)) (by decide +kernel)
theorem ml_X6_302 : Cond.methodLink RX6 302 yX6_payHeldStake ∈ lw_good := good_of (List.mem_of_getElem? (i := 474) (by decide +kernel)) (by decide +kernel)
theorem ml_L_80 : Cond.methodLink RL 80 yX6_watch ∈ lw_good := good_of (List.mem_of_getElem? (i := 478) (by decide +kernel)) (by decide +kernel)
theorem ml_L_85 : Cond.methodLink RL 85 yX6_height ∈ lw_good := good_of (List.mem_of_getElem? (i := 482) (by decide +kernel)) (by decide +kernel)
theorem ml_X6_308 : Cond.methodLink RX6 308 yX6_oneHeightMore ∈ lw_good := good_of (List.mem_of_getElem? (i := 486) (by decide +kernel)) (by decide +kernel)
theorem ml_X6_311 : Cond.methodLink RX6 311 yX6_meetHeight ∈ lw_good := good_of (List.mem_of_getElem? (i := 490) (by decide +kernel)) (by decide +kernel)
theorem ml_X6_315 : Cond.methodLink RX6 315 yX6_watchFor ∈ lw_good := good_of (List.mem_of_getElem? (i := 494) (by decide +kernel)) (by decide +kernel)
theorem ml_X6_322 : Cond.methodLink RX6 322 yX6_playFor ∈ lw_good := good_of (List.mem_of_getElem? (i := 498) (by decide +kernel)) (by decide +kernel)
theorem ml_X6_325 : Cond.methodLink RX6 325 yX6_hasUrgentLock ∈ lw_good := good_of (List.mem_of_getElem? (i := 502) (by decide +kernel)) (by decide +kernel)
theorem ml_L_89 : Cond.methodLink RL 89 yX6_hop ∈ lw_good := good_of (List.mem_of_getElem? (i := 506) (by decide +kernel)) (by decide +kernel)
theorem ml_X6_332 : Cond.methodLink RX6 332 yX6_continuesRoute ∈ lw_good := good_of (List.mem_of_getElem? (i := 510) (by decide +kernel)) (by decide +kernel)
theorem ml_X6_338 : Cond.methodLink RX6 338 yX6_hopAt ∈ lw_good := good_of (List.mem_of_getElem? (i := 514) (by decide +kernel)) (by decide +kernel)
theorem ml_X6_336 : Cond.methodLink RX6 336 yX2_init ∈ lw_good := good_of (List.mem_of_getElem? (i := 519) (by decide +kernel)) (by decide +kernel)
theorem ml_X2_3 : Cond.methodLink RX2 3 objectInit ∈ lw_good := good_of (List.mem_of_getElem? (i := 522) (by decide +kernel)) (by decide +kernel)
theorem ml_L_93 : Cond.methodLink RL 93 yX6_pay ∈ lw_good := good_of (List.mem_of_getElem? (i := 536) (by decide +kernel)) (by decide +kernel)
theorem ml_X6_342 : Cond.methodLink RX6 342 yX6_allCarry ∈ lw_good := good_of (List.mem_of_getElem? (i := 540) (by decide +kernel)) (by decide +kernel)
theorem ml_X6_355 : Cond.methodLink RX6 355 yX2_canCarry ∈ lw_good := good_of (List.mem_of_getElem? (i := 544) (by decide +kernel)) (by decide +kernel)
theorem ml_X2_37 : Cond.methodLink RX2 37 yX5_get ∈ lw_good := good_of (List.mem_of_getElem? (i := 548) (by decide +kernel)) (by decide +kernel)
theorem ml_X2_43 : Cond.methodLink RX2 43 yX4_emptyPlace ∈ lw_good := good_of (List.mem_of_getElem? (i := 549) (by decide +kernel)) (by decide +kernel)
theorem ml_X6_346 : Cond.methodLink RX6 346 yX6_firstExpiry ∈ lw_good := good_of (List.mem_of_getElem? (i := 550) (by decide +kernel)) (by decide +kernel)
theorem ml_X6_350 : Cond.methodLink RX6 350 yX6_payHop ∈ lw_good := good_of (List.mem_of_getElem? (i := 554) (by decide +kernel)) (by decide +kernel)
theorem ml_L_97 : Cond.methodLink RL 97 yX6_account ∈ lw_good := good_of (List.mem_of_getElem? (i := 558) (by decide +kernel)) (by decide +kernel)
theorem ml_L_101 : Cond.methodLink RL 101 yX6_told ∈ lw_good := good_of (List.mem_of_getElem? (i := 562) (by decide +kernel)) (by decide +kernel)
theorem ml_X6_359 : Cond.methodLink RX6 359 yX6_numberOf ∈ lw_good := good_of (List.mem_of_getElem? (i := 566) (by decide +kernel)) (by decide +kernel)
theorem ml_L_105 : Cond.methodLink RL 105 yX6_of ∈ lw_good := good_of (List.mem_of_getElem? (i := 569) (by decide +kernel)) (by decide +kernel)
theorem ml_X6_366 : Cond.methodLink RX6 366 yX4_whole ∈ lw_good := good_of (List.mem_of_getElem? (i := 573) (by decide +kernel)) (by decide +kernel)
theorem ml_L_109 : Cond.methodLink RL 109 yX6_share ∈ lw_good := good_of (List.mem_of_getElem? (i := 574) (by decide +kernel)) (by decide +kernel)
theorem ml_L_113 : Cond.methodLink RL 113 yX6_locked ∈ lw_good := good_of (List.mem_of_getElem? (i := 578) (by decide +kernel)) (by decide +kernel)
theorem ml_L_117 : Cond.methodLink RL 117 yX6_knows ∈ lw_good := good_of (List.mem_of_getElem? (i := 582) (by decide +kernel)) (by decide +kernel)
theorem ml_L_121 : Cond.methodLink RL 121 yX6_count ∈ lw_good := good_of (List.mem_of_getElem? (i := 586) (by decide +kernel)) (by decide +kernel)
theorem ml_X6_369 : Cond.methodLink RX6 369 yX6_allThereIs ∈ lw_good := good_of (List.mem_of_getElem? (i := 590) (by decide +kernel)) (by decide +kernel)
theorem ml_X6_372 : Cond.methodLink RX6 372 yX5_total ∈ lw_good := good_of (List.mem_of_getElem? (i := 594) (by decide +kernel)) (by decide +kernel)
theorem ml_L_12 : Cond.methodLink RL 12 yX7_init ∈ lw_good := good_of (List.mem_of_getElem? (i := 597) (by decide +kernel)) (by decide +kernel)
theorem ml_X7_1 : Cond.methodLink RX7 1 objectInit ∈ lw_good := good_of (List.mem_of_getElem? (i := 600) (by decide +kernel)) (by decide +kernel)
theorem ml_L_17 : Cond.methodLink RL 17 yX7_channel ∈ lw_good := good_of (List.mem_of_getElem? (i := 674) (by decide +kernel)) (by decide +kernel)
theorem ml_X7_64 : Cond.methodLink RX7 64 yX7_isIn ∈ lw_good := good_of (List.mem_of_getElem? (i := 678) (by decide +kernel)) (by decide +kernel)
theorem ml_X7_143 : Cond.methodLink RX7 143 yX7_size ∈ lw_good := good_of (List.mem_of_getElem? (i := 681) (by decide +kernel)) (by decide +kernel)
theorem ml_X7_79 : Cond.methodLink RX7 79 yX7_has ∈ lw_good := good_of (List.mem_of_getElem? (i := 684) (by decide +kernel)) (by decide +kernel)
theorem ml_X7_146 : Cond.methodLink RX7 146 yX7_blank ∈ lw_good := good_of (List.mem_of_getElem? (i := 687) (by decide +kernel)) (by decide +kernel)
theorem ml_X7_86 : Cond.methodLink RX7 86 yX7_channelOf ∈ lw_good := good_of (List.mem_of_getElem? (i := 691) (by decide +kernel)) (by decide +kernel)
theorem ml_L_22 : Cond.methodLink RL 22 yX7_state ∈ lw_good := good_of (List.mem_of_getElem? (i := 695) (by decide +kernel)) (by decide +kernel)
theorem ml_X7_149 : Cond.methodLink RX7 149 yX7_isChannel ∈ lw_good := good_of (List.mem_of_getElem? (i := 699) (by decide +kernel)) (by decide +kernel)
theorem ml_X7_152 : Cond.methodLink RX7 152 yX7_copied ∈ lw_good := good_of (List.mem_of_getElem? (i := 703) (by decide +kernel)) (by decide +kernel)
theorem ml_X7_117 : Cond.methodLink RX7 117 yX7_newest ∈ lw_good := good_of (List.mem_of_getElem? (i := 707) (by decide +kernel)) (by decide +kernel)
theorem ml_X7_100 : Cond.methodLink RX7 100 yX7_counts ∈ lw_good := good_of (List.mem_of_getElem? (i := 711) (by decide +kernel)) (by decide +kernel)
theorem ml_X7_97 : Cond.methodLink RX7 97 yX7_whole ∈ lw_good := good_of (List.mem_of_getElem? (i := 715) (by decide +kernel)) (by decide +kernel)
theorem ml_X7_93 : Cond.methodLink RX7 93 yX7_lockAt ∈ lw_good := good_of (List.mem_of_getElem? (i := 719) (by decide +kernel)) (by decide +kernel)
theorem ml_L_27 : Cond.methodLink RL 27 yX7_change ∈ lw_good := good_of (List.mem_of_getElem? (i := 722) (by decide +kernel)) (by decide +kernel)
theorem ml_X7_155 : Cond.methodLink RX7 155 yX7_isOf ∈ lw_good := good_of (List.mem_of_getElem? (i := 726) (by decide +kernel)) (by decide +kernel)
theorem ml_X7_83 : Cond.methodLink RX7 83 yX7_isState ∈ lw_good := good_of (List.mem_of_getElem? (i := 730) (by decide +kernel)) (by decide +kernel)
theorem ml_X7_90 : Cond.methodLink RX7 90 yX7_isMember ∈ lw_good := good_of (List.mem_of_getElem? (i := 734) (by decide +kernel)) (by decide +kernel)
theorem ml_X7_75 : Cond.methodLink RX7 75 yX7_isParty ∈ lw_good := good_of (List.mem_of_getElem? (i := 738) (by decide +kernel)) (by decide +kernel)
theorem ml_X7_158 : Cond.methodLink RX7 158 yX7_isFixed ∈ lw_good := good_of (List.mem_of_getElem? (i := 741) (by decide +kernel)) (by decide +kernel)
theorem ct_X7_161 : Cond.constant RX7 161 60000 ∈ lw_good := good_of (List.mem_of_getElem? (i := 745) (by decide +kernel)) (by decide +kernel)
theorem ml_X7_162 : Cond.methodLink RX7 162 yX7_free ∈ lw_good := good_of (List.mem_of_getElem? (i := 746) (by decide +kernel)) (by decide +kernel)
theorem ml_L_32 : Cond.methodLink RL 32 yX7_lock ∈ lw_good := good_of (List.mem_of_getElem? (i := 750) (by decide +kernel)) (by decide +kernel)
theorem ct_X7_168 : Cond.constant RX7 168 1000000 ∈ lw_good := good_of (List.mem_of_getElem? (i := 754) (by decide +kernel)) (by decide +kernel)
theorem ml_X7_169 : Cond.methodLink RX7 169 yX7_emptyPlace ∈ lw_good := good_of (List.mem_of_getElem? (i := 755) (by decide +kernel)) (by decide +kernel)
theorem ml_X7_172 : Cond.methodLink RX7 172 yX7_locks ∈ lw_good := good_of (List.mem_of_getElem? (i := 759) (by decide +kernel)) (by decide +kernel)
theorem ml_L_37 : Cond.methodLink RL 37 yX7_unlock ∈ lw_good := good_of (List.mem_of_getElem? (i := 763) (by decide +kernel)) (by decide +kernel)
theorem ml_X7_176 : Cond.methodLink RX7 176 yX7_isLock ∈ lw_good := good_of (List.mem_of_getElem? (i := 767) (by decide +kernel)) (by decide +kernel)
theorem ml_L_42 : Cond.methodLink RL 42 yX7_game ∈ lw_good := good_of (List.mem_of_getElem? (i := 771) (by decide +kernel)) (by decide +kernel)
theorem ml_L_47 : Cond.methodLink RL 47 yX7_move ∈ lw_good := good_of (List.mem_of_getElem? (i := 775) (by decide +kernel)) (by decide +kernel)
theorem ml_L_51 : Cond.methodLink RL 51 yX7_out ∈ lw_good := good_of (List.mem_of_getElem? (i := 779) (by decide +kernel)) (by decide +kernel)
theorem ml_L_55 : Cond.methodLink RL 55 yX7_sign ∈ lw_good := good_of (List.mem_of_getElem? (i := 783) (by decide +kernel)) (by decide +kernel)
theorem ml_L_59 : Cond.methodLink RL 59 yX7_show ∈ lw_good := good_of (List.mem_of_getElem? (i := 787) (by decide +kernel)) (by decide +kernel)
theorem ml_X7_120 : Cond.methodLink RX7 120 yX7_shows ∈ lw_good := good_of (List.mem_of_getElem? (i := 791) (by decide +kernel)) (by decide +kernel)
theorem ml_L_63 : Cond.methodLink RL 63 yX7_agree ∈ lw_good := good_of (List.mem_of_getElem? (i := 795) (by decide +kernel)) (by decide +kernel)
theorem ml_X7_179 : Cond.methodLink RX7 179 yX7_takesOut ∈ lw_good := good_of (List.mem_of_getElem? (i := 799) (by decide +kernel)) (by decide +kernel)
theorem ml_X7_114 : Cond.methodLink RX7 114 yX7_end ∈ lw_good := good_of (List.mem_of_getElem? (i := 803) (by decide +kernel)) (by decide +kernel)
theorem ml_X7_106 : Cond.methodLink RX7 106 yX7_pays ∈ lw_good := good_of (List.mem_of_getElem? (i := 807) (by decide +kernel)) (by decide +kernel)
theorem ml_L_67 : Cond.methodLink RL 67 yX7_secret ∈ lw_good := good_of (List.mem_of_getElem? (i := 811) (by decide +kernel)) (by decide +kernel)
theorem ml_L_71 : Cond.methodLink RL 71 yX7_tell ∈ lw_good := good_of (List.mem_of_getElem? (i := 815) (by decide +kernel)) (by decide +kernel)
theorem ml_L_75 : Cond.methodLink RL 75 yX7_claim ∈ lw_good := good_of (List.mem_of_getElem? (i := 819) (by decide +kernel)) (by decide +kernel)
theorem ml_X7_124 : Cond.methodLink RX7 124 yX7_canClaim ∈ lw_good := good_of (List.mem_of_getElem? (i := 823) (by decide +kernel)) (by decide +kernel)
theorem ml_X7_127 : Cond.methodLink RX7 127 yX7_claims ∈ lw_good := good_of (List.mem_of_getElem? (i := 827) (by decide +kernel)) (by decide +kernel)
theorem ml_L_79 : Cond.methodLink RL 79 yX7_step ∈ lw_good := good_of (List.mem_of_getElem? (i := 831) (by decide +kernel)) (by decide +kernel)
theorem ml_X7_131 : Cond.methodLink RX7 131 yX7_steps ∈ lw_good := good_of (List.mem_of_getElem? (i := 835) (by decide +kernel)) (by decide +kernel)
theorem ml_X7_110 : Cond.methodLink RX7 110 yX7_wins ∈ lw_good := good_of (List.mem_of_getElem? (i := 839) (by decide +kernel)) (by decide +kernel)
theorem ml_L_84 : Cond.methodLink RL 84 yX7_watch ∈ lw_good := good_of (List.mem_of_getElem? (i := 843) (by decide +kernel)) (by decide +kernel)
theorem ml_L_88 : Cond.methodLink RL 88 yX7_height ∈ lw_good := good_of (List.mem_of_getElem? (i := 847) (by decide +kernel)) (by decide +kernel)
theorem ml_X7_182 : Cond.methodLink RX7 182 yX7_oneMore ∈ lw_good := good_of (List.mem_of_getElem? (i := 851) (by decide +kernel)) (by decide +kernel)
theorem ml_X7_134 : Cond.methodLink RX7 134 yX7_dues ∈ lw_good := good_of (List.mem_of_getElem? (i := 855) (by decide +kernel)) (by decide +kernel)
theorem ml_X7_140 : Cond.methodLink RX7 140 yX7_watches ∈ lw_good := good_of (List.mem_of_getElem? (i := 859) (by decide +kernel)) (by decide +kernel)
theorem ml_L_92 : Cond.methodLink RL 92 yX7_hop ∈ lw_good := good_of (List.mem_of_getElem? (i := 863) (by decide +kernel)) (by decide +kernel)
theorem ml_L_96 : Cond.methodLink RL 96 yX7_pay ∈ lw_good := good_of (List.mem_of_getElem? (i := 867) (by decide +kernel)) (by decide +kernel)
theorem ml_X7_188 : Cond.methodLink RX7 188 yX7_secret ∈ lw_good := good_of (List.mem_of_getElem? (i := 871) (by decide +kernel)) (by decide +kernel)
theorem ml_L_100 : Cond.methodLink RL 100 yX7_account ∈ lw_good := good_of (List.mem_of_getElem? (i := 872) (by decide +kernel)) (by decide +kernel)
theorem ml_L_104 : Cond.methodLink RL 104 yX7_told ∈ lw_good := good_of (List.mem_of_getElem? (i := 876) (by decide +kernel)) (by decide +kernel)
theorem ml_L_108 : Cond.methodLink RL 108 yX7_of ∈ lw_good := good_of (List.mem_of_getElem? (i := 880) (by decide +kernel)) (by decide +kernel)
theorem ml_L_112 : Cond.methodLink RL 112 yX7_share ∈ lw_good := good_of (List.mem_of_getElem? (i := 884) (by decide +kernel)) (by decide +kernel)
theorem ml_L_116 : Cond.methodLink RL 116 yX7_locked ∈ lw_good := good_of (List.mem_of_getElem? (i := 888) (by decide +kernel)) (by decide +kernel)
theorem ml_L_120 : Cond.methodLink RL 120 yX7_knows ∈ lw_good := good_of (List.mem_of_getElem? (i := 892) (by decide +kernel)) (by decide +kernel)
theorem ml_L_124 : Cond.methodLink RL 124 yX7_count ∈ lw_good := good_of (List.mem_of_getElem? (i := 896) (by decide +kernel)) (by decide +kernel)
theorem ml_X7_191 : Cond.methodLink RX7 191 yX7_all ∈ lw_good := good_of (List.mem_of_getElem? (i := 900) (by decide +kernel)) (by decide +kernel)
theorem mf_X0_init : MFK yX0_init cX0_init 4 (none) 3 := ⟨good_of (List.mem_of_getElem? (i := 5) (by decide +kernel)) (by decide +kernel), good_of (List.mem_of_getElem? (i := 104) (by decide +kernel)) (by decide +kernel), ⟨by decide +kernel, by decide +kernel⟩, by decide +kernel, by decide⟩
theorem mv_X0_init : Cond.instanceMethod yX0_init ∈ lw_good := good_of (List.mem_of_getElem? (i := 103) (by decide +kernel)) (by decide +kernel)
theorem mf_X0_hasMember : MFK yX0_hasMember cX0_hasMember 2 (some .boolean) 1 := ⟨good_of (List.mem_of_getElem? (i := 5) (by decide +kernel)) (by decide +kernel), good_of (List.mem_of_getElem? (i := 208) (by decide +kernel)) (by decide +kernel), ⟨by decide +kernel, by decide +kernel⟩, by decide +kernel, by decide⟩
theorem mv_X0_hasMember : MVK yX0_hasMember := ⟨good_of (List.mem_of_getElem? (i := 206) (by decide +kernel)) (by decide +kernel), good_of (List.mem_of_getElem? (i := 207) (by decide +kernel)) (by decide +kernel)⟩
theorem mf_X0_noteSigned : MFK yX0_noteSigned cX0_noteSigned 2 (none) 1 := ⟨good_of (List.mem_of_getElem? (i := 5) (by decide +kernel)) (by decide +kernel), good_of (List.mem_of_getElem? (i := 364) (by decide +kernel)) (by decide +kernel), ⟨by decide +kernel, by decide +kernel⟩, by decide +kernel, by decide⟩
theorem mv_X0_noteSigned : MVK yX0_noteSigned := ⟨good_of (List.mem_of_getElem? (i := 362) (by decide +kernel)) (by decide +kernel), good_of (List.mem_of_getElem? (i := 363) (by decide +kernel)) (by decide +kernel)⟩
theorem mf_X0_wouldTake : MFK yX0_wouldTake cX0_wouldTake 2 (some .boolean) 1 := ⟨good_of (List.mem_of_getElem? (i := 5) (by decide +kernel)) (by decide +kernel), good_of (List.mem_of_getElem? (i := 385) (by decide +kernel)) (by decide +kernel), ⟨by decide +kernel, by decide +kernel⟩, by decide +kernel, by decide⟩
theorem mv_X0_wouldTake : MVK yX0_wouldTake := ⟨good_of (List.mem_of_getElem? (i := 383) (by decide +kernel)) (by decide +kernel), good_of (List.mem_of_getElem? (i := 384) (by decide +kernel)) (by decide +kernel)⟩
theorem mf_X0_heldLockAt : MFK yX0_heldLockAt cX0_heldLockAt 2 (some (.object "StateChannels$Lock")) 1 := ⟨good_of (List.mem_of_getElem? (i := 5) (by decide +kernel)) (by decide +kernel), good_of (List.mem_of_getElem? (i := 455) (by decide +kernel)) (by decide +kernel), ⟨by decide +kernel, by decide +kernel⟩, by decide +kernel, by decide⟩
theorem mv_X0_heldLockAt : MVK yX0_heldLockAt := ⟨good_of (List.mem_of_getElem? (i := 453) (by decide +kernel)) (by decide +kernel), good_of (List.mem_of_getElem? (i := 454) (by decide +kernel)) (by decide +kernel)⟩
theorem mf_X1_init : MFK yX1_init cX1_init 5 (none) 4 := ⟨good_of (List.mem_of_getElem? (i := 8) (by decide +kernel)) (by decide +kernel), good_of (List.mem_of_getElem? (i := 323) (by decide +kernel)) (by decide +kernel), ⟨by decide +kernel, by decide +kernel⟩, by decide +kernel, by decide⟩
theorem mv_X1_init : Cond.instanceMethod yX1_init ∈ lw_good := good_of (List.mem_of_getElem? (i := 322) (by decide +kernel)) (by decide +kernel)
theorem mf_X1_after : MFK yX1_after cX1_after 2 (some (.object "StateChannels$Game")) 1 := ⟨good_of (List.mem_of_getElem? (i := 8) (by decide +kernel)) (by decide +kernel), good_of (List.mem_of_getElem? (i := 350) (by decide +kernel)) (by decide +kernel), ⟨by decide +kernel, by decide +kernel⟩, by decide +kernel, by decide⟩
theorem mv_X1_after : MVK yX1_after := ⟨good_of (List.mem_of_getElem? (i := 348) (by decide +kernel)) (by decide +kernel), good_of (List.mem_of_getElem? (i := 349) (by decide +kernel)) (by decide +kernel)⟩
theorem mf_X2_init : MFK yX2_init cX2_init 4 (none) 3 := ⟨good_of (List.mem_of_getElem? (i := 9) (by decide +kernel)) (by decide +kernel), good_of (List.mem_of_getElem? (i := 521) (by decide +kernel)) (by decide +kernel), ⟨by decide +kernel, by decide +kernel⟩, by decide +kernel, by decide⟩
theorem mv_X2_init : Cond.instanceMethod yX2_init ∈ lw_good := good_of (List.mem_of_getElem? (i := 520) (by decide +kernel)) (by decide +kernel)
theorem mf_X2_canCarry : MFK yX2_canCarry cX2_canCarry 3 (some .boolean) 1 := ⟨good_of (List.mem_of_getElem? (i := 9) (by decide +kernel)) (by decide +kernel), good_of (List.mem_of_getElem? (i := 547) (by decide +kernel)) (by decide +kernel), ⟨by decide +kernel, by decide +kernel⟩, by decide +kernel, by decide⟩
theorem mv_X2_canCarry : MVK yX2_canCarry := ⟨good_of (List.mem_of_getElem? (i := 545) (by decide +kernel)) (by decide +kernel), good_of (List.mem_of_getElem? (i := 546) (by decide +kernel)) (by decide +kernel)⟩
theorem mf_X3_init : MFK yX3_init cX3_init 6 (none) 5 := ⟨good_of (List.mem_of_getElem? (i := 7) (by decide +kernel)) (by decide +kernel), good_of (List.mem_of_getElem? (i := 275) (by decide +kernel)) (by decide +kernel), ⟨by decide +kernel, by decide +kernel⟩, by decide +kernel, by decide⟩
theorem mv_X3_init : Cond.instanceMethod yX3_init ∈ lw_good := good_of (List.mem_of_getElem? (i := 274) (by decide +kernel)) (by decide +kernel)
theorem mf_X4_init : MFK yX4_init cX4_init 4 (none) 3 := ⟨good_of (List.mem_of_getElem? (i := 6) (by decide +kernel)) (by decide +kernel), good_of (List.mem_of_getElem? (i := 162) (by decide +kernel)) (by decide +kernel), ⟨by decide +kernel, by decide +kernel⟩, by decide +kernel, by decide⟩
theorem mv_X4_init : Cond.instanceMethod yX4_init ∈ lw_good := good_of (List.mem_of_getElem? (i := 161) (by decide +kernel)) (by decide +kernel)
theorem mf_X4_copyFrom : MFK yX4_copyFrom cX4_copyFrom 3 (none) 1 := ⟨good_of (List.mem_of_getElem? (i := 6) (by decide +kernel)) (by decide +kernel), good_of (List.mem_of_getElem? (i := 229) (by decide +kernel)) (by decide +kernel), ⟨by decide +kernel, by decide +kernel⟩, by decide +kernel, by decide⟩
theorem mv_X4_copyFrom : MVK yX4_copyFrom := ⟨good_of (List.mem_of_getElem? (i := 227) (by decide +kernel)) (by decide +kernel), good_of (List.mem_of_getElem? (i := 228) (by decide +kernel)) (by decide +kernel)⟩
theorem mf_X4_hasMember : MFK yX4_hasMember cX4_hasMember 2 (some .boolean) 1 := ⟨good_of (List.mem_of_getElem? (i := 6) (by decide +kernel)) (by decide +kernel), good_of (List.mem_of_getElem? (i := 247) (by decide +kernel)) (by decide +kernel), ⟨by decide +kernel, by decide +kernel⟩, by decide +kernel, by decide⟩
theorem mv_X4_hasMember : MVK yX4_hasMember := ⟨good_of (List.mem_of_getElem? (i := 245) (by decide +kernel)) (by decide +kernel), good_of (List.mem_of_getElem? (i := 246) (by decide +kernel)) (by decide +kernel)⟩
theorem mf_X4_isFixed : MFK yX4_isFixed cX4_isFixed 1 (some .boolean) 0 := ⟨good_of (List.mem_of_getElem? (i := 6) (by decide +kernel)) (by decide +kernel), good_of (List.mem_of_getElem? (i := 252) (by decide +kernel)) (by decide +kernel), ⟨by decide +kernel, by decide +kernel⟩, by decide +kernel, by decide⟩
theorem mv_X4_isFixed : MVK yX4_isFixed := ⟨good_of (List.mem_of_getElem? (i := 250) (by decide +kernel)) (by decide +kernel), good_of (List.mem_of_getElem? (i := 251) (by decide +kernel)) (by decide +kernel)⟩
theorem mf_X4_doesCount : MFK yX4_doesCount cX4_doesCount 1 (some .boolean) 0 := ⟨good_of (List.mem_of_getElem? (i := 6) (by decide +kernel)) (by decide +kernel), good_of (List.mem_of_getElem? (i := 368) (by decide +kernel)) (by decide +kernel), ⟨by decide +kernel, by decide +kernel⟩, by decide +kernel, by decide⟩
theorem mv_X4_doesCount : MVK yX4_doesCount := ⟨good_of (List.mem_of_getElem? (i := 366) (by decide +kernel)) (by decide +kernel), good_of (List.mem_of_getElem? (i := 367) (by decide +kernel)) (by decide +kernel)⟩
theorem mf_X4_whole : MFK yX4_whole cX4_whole 6 (some .int) 0 := ⟨good_of (List.mem_of_getElem? (i := 6) (by decide +kernel)) (by decide +kernel), good_of (List.mem_of_getElem? (i := 372) (by decide +kernel)) (by decide +kernel), ⟨by decide +kernel, by decide +kernel⟩, by decide +kernel, by decide⟩
theorem mv_X4_whole : MVK yX4_whole := ⟨good_of (List.mem_of_getElem? (i := 370) (by decide +kernel)) (by decide +kernel), good_of (List.mem_of_getElem? (i := 371) (by decide +kernel)) (by decide +kernel)⟩
theorem mf_X4_freeOf : MFK yX4_freeOf cX4_freeOf 2 (some .int) 1 := ⟨good_of (List.mem_of_getElem? (i := 6) (by decide +kernel)) (by decide +kernel), good_of (List.mem_of_getElem? (i := 257) (by decide +kernel)) (by decide +kernel), ⟨by decide +kernel, by decide +kernel⟩, by decide +kernel, by decide⟩
theorem mv_X4_freeOf : MVK yX4_freeOf := ⟨good_of (List.mem_of_getElem? (i := 255) (by decide +kernel)) (by decide +kernel), good_of (List.mem_of_getElem? (i := 256) (by decide +kernel)) (by decide +kernel)⟩
theorem mf_X4_hasOut : MFK yX4_hasOut cX4_hasOut 1 (some .boolean) 0 := ⟨good_of (List.mem_of_getElem? (i := 6) (by decide +kernel)) (by decide +kernel), good_of (List.mem_of_getElem? (i := 401) (by decide +kernel)) (by decide +kernel), ⟨by decide +kernel, by decide +kernel⟩, by decide +kernel, by decide⟩
theorem mv_X4_hasOut : MVK yX4_hasOut := ⟨good_of (List.mem_of_getElem? (i := 399) (by decide +kernel)) (by decide +kernel), good_of (List.mem_of_getElem? (i := 400) (by decide +kernel)) (by decide +kernel)⟩
theorem mf_X4_lockAt : MFK yX4_lockAt cX4_lockAt 2 (some (.object "StateChannels$Lock")) 1 := ⟨good_of (List.mem_of_getElem? (i := 6) (by decide +kernel)) (by decide +kernel), good_of (List.mem_of_getElem? (i := 235) (by decide +kernel)) (by decide +kernel), ⟨by decide +kernel, by decide +kernel⟩, by decide +kernel, by decide⟩
theorem mv_X4_lockAt : MVK yX4_lockAt := ⟨good_of (List.mem_of_getElem? (i := 233) (by decide +kernel)) (by decide +kernel), good_of (List.mem_of_getElem? (i := 234) (by decide +kernel)) (by decide +kernel)⟩
theorem mf_X4_emptyPlace : MFK yX4_emptyPlace cX4_emptyPlace 2 (some .int) 0 := ⟨good_of (List.mem_of_getElem? (i := 6) (by decide +kernel)) (by decide +kernel), good_of (List.mem_of_getElem? (i := 270) (by decide +kernel)) (by decide +kernel), ⟨by decide +kernel, by decide +kernel⟩, by decide +kernel, by decide⟩
theorem mv_X4_emptyPlace : MVK yX4_emptyPlace := ⟨good_of (List.mem_of_getElem? (i := 268) (by decide +kernel)) (by decide +kernel), good_of (List.mem_of_getElem? (i := 269) (by decide +kernel)) (by decide +kernel)⟩
theorem mf_X4_addLock : MFK yX4_addLock cX4_addLock 3 (some .int) 1 := ⟨good_of (List.mem_of_getElem? (i := 6) (by decide +kernel)) (by decide +kernel), good_of (List.mem_of_getElem? (i := 303) (by decide +kernel)) (by decide +kernel), ⟨by decide +kernel, by decide +kernel⟩, by decide +kernel, by decide⟩
theorem mv_X4_addLock : MVK yX4_addLock := ⟨good_of (List.mem_of_getElem? (i := 301) (by decide +kernel)) (by decide +kernel), good_of (List.mem_of_getElem? (i := 302) (by decide +kernel)) (by decide +kernel)⟩
theorem mf_X4_removeLock : MFK yX4_removeLock cX4_removeLock 2 (none) 1 := ⟨good_of (List.mem_of_getElem? (i := 6) (by decide +kernel)) (by decide +kernel), good_of (List.mem_of_getElem? (i := 314) (by decide +kernel)) (by decide +kernel), ⟨by decide +kernel, by decide +kernel⟩, by decide +kernel, by decide⟩
theorem mv_X4_removeLock : MVK yX4_removeLock := ⟨good_of (List.mem_of_getElem? (i := 312) (by decide +kernel)) (by decide +kernel), good_of (List.mem_of_getElem? (i := 313) (by decide +kernel)) (by decide +kernel)⟩
theorem mf_X5_init : MFK yX5_init cX5_init 1 (none) 0 := ⟨good_of (List.mem_of_getElem? (i := 2) (by decide +kernel)) (by decide +kernel), good_of (List.mem_of_getElem? (i := 22) (by decide +kernel)) (by decide +kernel), ⟨by decide +kernel, by decide +kernel⟩, by decide +kernel, by decide⟩
theorem mv_X5_init : Cond.instanceMethod yX5_init ∈ lw_good := good_of (List.mem_of_getElem? (i := 21) (by decide +kernel)) (by decide +kernel)
theorem mf_X5_get : MFK yX5_get cX5_get 2 (some .int) 1 := ⟨good_of (List.mem_of_getElem? (i := 2) (by decide +kernel)) (by decide +kernel), good_of (List.mem_of_getElem? (i := 100) (by decide +kernel)) (by decide +kernel), ⟨by decide +kernel, by decide +kernel⟩, by decide +kernel, by decide⟩
theorem mv_X5_get : MVK yX5_get := ⟨good_of (List.mem_of_getElem? (i := 98) (by decide +kernel)) (by decide +kernel), good_of (List.mem_of_getElem? (i := 99) (by decide +kernel)) (by decide +kernel)⟩
theorem mf_X5_put : MFK yX5_put cX5_put 3 (none) 2 := ⟨good_of (List.mem_of_getElem? (i := 2) (by decide +kernel)) (by decide +kernel), good_of (List.mem_of_getElem? (i := 38) (by decide +kernel)) (by decide +kernel), ⟨by decide +kernel, by decide +kernel⟩, by decide +kernel, by decide⟩
theorem mv_X5_put : MVK yX5_put := ⟨good_of (List.mem_of_getElem? (i := 36) (by decide +kernel)) (by decide +kernel), good_of (List.mem_of_getElem? (i := 37) (by decide +kernel)) (by decide +kernel)⟩
theorem mf_X5_add : MFK yX5_add cX5_add 3 (none) 2 := ⟨good_of (List.mem_of_getElem? (i := 2) (by decide +kernel)) (by decide +kernel), good_of (List.mem_of_getElem? (i := 213) (by decide +kernel)) (by decide +kernel), ⟨by decide +kernel, by decide +kernel⟩, by decide +kernel, by decide⟩
theorem mv_X5_add : MVK yX5_add := ⟨good_of (List.mem_of_getElem? (i := 211) (by decide +kernel)) (by decide +kernel), good_of (List.mem_of_getElem? (i := 212) (by decide +kernel)) (by decide +kernel)⟩
theorem mf_X5_total : MFK yX5_total cX5_total 6 (some .int) 0 := ⟨good_of (List.mem_of_getElem? (i := 2) (by decide +kernel)) (by decide +kernel), good_of (List.mem_of_getElem? (i := 376) (by decide +kernel)) (by decide +kernel), ⟨by decide +kernel, by decide +kernel⟩, by decide +kernel, by decide⟩
theorem mv_X5_total : MVK yX5_total := ⟨good_of (List.mem_of_getElem? (i := 374) (by decide +kernel)) (by decide +kernel), good_of (List.mem_of_getElem? (i := 375) (by decide +kernel)) (by decide +kernel)⟩
theorem mf_X6_init : MFK yX6_init cX6_init 2 (none) 0 := ⟨good_of (List.mem_of_getElem? (i := 1) (by decide +kernel)) (by decide +kernel), good_of (List.mem_of_getElem? (i := 14) (by decide +kernel)) (by decide +kernel), ⟨by decide +kernel, by decide +kernel⟩, by decide +kernel, by decide⟩
theorem mv_X6_init : Cond.instanceMethod yX6_init ∈ lw_good := good_of (List.mem_of_getElem? (i := 13) (by decide +kernel)) (by decide +kernel)
theorem mf_X6_channel : MFK yX6_channel cX6_channel 7 (some .int) 3 := ⟨good_of (List.mem_of_getElem? (i := 1) (by decide +kernel)) (by decide +kernel), good_of (List.mem_of_getElem? (i := 76) (by decide +kernel)) (by decide +kernel), ⟨by decide +kernel, by decide +kernel⟩, by decide +kernel, by decide⟩
theorem mv_X6_channel : MVK yX6_channel := ⟨good_of (List.mem_of_getElem? (i := 74) (by decide +kernel)) (by decide +kernel), good_of (List.mem_of_getElem? (i := 75) (by decide +kernel)) (by decide +kernel)⟩
theorem mf_X6_state : MFK yX6_state cX6_state 3 (some .int) 1 := ⟨good_of (List.mem_of_getElem? (i := 1) (by decide +kernel)) (by decide +kernel), good_of (List.mem_of_getElem? (i := 217) (by decide +kernel)) (by decide +kernel), ⟨by decide +kernel, by decide +kernel⟩, by decide +kernel, by decide⟩
theorem mv_X6_state : MVK yX6_state := ⟨good_of (List.mem_of_getElem? (i := 215) (by decide +kernel)) (by decide +kernel), good_of (List.mem_of_getElem? (i := 216) (by decide +kernel)) (by decide +kernel)⟩
theorem mf_X6_hasRoomForStates : MFK yX6_hasRoomForStates cX6_hasRoomForStates 2 (some .boolean) 1 := ⟨good_of (List.mem_of_getElem? (i := 1) (by decide +kernel)) (by decide +kernel), good_of (List.mem_of_getElem? (i := 89) (by decide +kernel)) (by decide +kernel), ⟨by decide +kernel, by decide +kernel⟩, by decide +kernel, by decide⟩
theorem mv_X6_hasRoomForStates : MVK yX6_hasRoomForStates := ⟨good_of (List.mem_of_getElem? (i := 88) (by decide +kernel)) (by decide +kernel), List.mem_filter.mpr ⟨List.mem_append_left _ (List.mem_of_getElem? (i := 0) (by decide +kernel)), by decide +kernel⟩⟩
theorem mf_X6_allHave : MFK yX6_allHave cX6_allHave 4 (some .boolean) 2 := ⟨good_of (List.mem_of_getElem? (i := 1) (by decide +kernel)) (by decide +kernel), good_of (List.mem_of_getElem? (i := 93) (by decide +kernel)) (by decide +kernel), ⟨by decide +kernel, by decide +kernel⟩, by decide +kernel, by decide⟩
theorem mv_X6_allHave : MVK yX6_allHave := ⟨good_of (List.mem_of_getElem? (i := 92) (by decide +kernel)) (by decide +kernel), List.mem_filter.mpr ⟨List.mem_append_left _ (List.mem_of_getElem? (i := 1) (by decide +kernel)), by decide +kernel⟩⟩
theorem mf_X6_newState : MFK yX6_newState cX6_newState 3 (some (.object "StateChannels$State")) 1 := ⟨good_of (List.mem_of_getElem? (i := 1) (by decide +kernel)) (by decide +kernel), good_of (List.mem_of_getElem? (i := 158) (by decide +kernel)) (by decide +kernel), ⟨by decide +kernel, by decide +kernel⟩, by decide +kernel, by decide⟩
theorem mv_X6_newState : MVK yX6_newState := ⟨good_of (List.mem_of_getElem? (i := 157) (by decide +kernel)) (by decide +kernel), List.mem_filter.mpr ⟨List.mem_append_left _ (List.mem_of_getElem? (i := 2) (by decide +kernel)), by decide +kernel⟩⟩
theorem mf_X6_newStateAsNewest : MFK yX6_newStateAsNewest cX6_newStateAsNewest 4 (some (.object "StateChannels$State")) 1 := ⟨good_of (List.mem_of_getElem? (i := 1) (by decide +kernel)) (by decide +kernel), good_of (List.mem_of_getElem? (i := 225) (by decide +kernel)) (by decide +kernel), ⟨by decide +kernel, by decide +kernel⟩, by decide +kernel, by decide⟩
theorem mv_X6_newStateAsNewest : MVK yX6_newStateAsNewest := ⟨good_of (List.mem_of_getElem? (i := 224) (by decide +kernel)) (by decide +kernel), List.mem_filter.mpr ⟨List.mem_append_left _ (List.mem_of_getElem? (i := 4) (by decide +kernel)), by decide +kernel⟩⟩
theorem mf_X6_change : MFK yX6_change cX6_change 6 (some .int) 4 := ⟨good_of (List.mem_of_getElem? (i := 1) (by decide +kernel)) (by decide +kernel), good_of (List.mem_of_getElem? (i := 239) (by decide +kernel)) (by decide +kernel), ⟨by decide +kernel, by decide +kernel⟩, by decide +kernel, by decide⟩
theorem mv_X6_change : MVK yX6_change := ⟨good_of (List.mem_of_getElem? (i := 237) (by decide +kernel)) (by decide +kernel), good_of (List.mem_of_getElem? (i := 238) (by decide +kernel)) (by decide +kernel)⟩
theorem mf_X6_lock : MFK yX6_lock cX6_lock 8 (some .int) 6 := ⟨good_of (List.mem_of_getElem? (i := 1) (by decide +kernel)) (by decide +kernel), good_of (List.mem_of_getElem? (i := 261) (by decide +kernel)) (by decide +kernel), ⟨by decide +kernel, by decide +kernel⟩, by decide +kernel, by decide⟩
theorem mv_X6_lock : MVK yX6_lock := ⟨good_of (List.mem_of_getElem? (i := 259) (by decide +kernel)) (by decide +kernel), good_of (List.mem_of_getElem? (i := 260) (by decide +kernel)) (by decide +kernel)⟩
theorem mf_X6_unlock : MFK yX6_unlock cX6_unlock 6 (some .int) 3 := ⟨good_of (List.mem_of_getElem? (i := 1) (by decide +kernel)) (by decide +kernel), good_of (List.mem_of_getElem? (i := 309) (by decide +kernel)) (by decide +kernel), ⟨by decide +kernel, by decide +kernel⟩, by decide +kernel, by decide⟩
theorem mv_X6_unlock : MVK yX6_unlock := ⟨good_of (List.mem_of_getElem? (i := 307) (by decide +kernel)) (by decide +kernel), good_of (List.mem_of_getElem? (i := 308) (by decide +kernel)) (by decide +kernel)⟩
theorem mf_X6_game : MFK yX6_game cX6_game 8 (some .int) 5 := ⟨good_of (List.mem_of_getElem? (i := 1) (by decide +kernel)) (by decide +kernel), good_of (List.mem_of_getElem? (i := 318) (by decide +kernel)) (by decide +kernel), ⟨by decide +kernel, by decide +kernel⟩, by decide +kernel, by decide⟩
theorem mv_X6_game : MVK yX6_game := ⟨good_of (List.mem_of_getElem? (i := 316) (by decide +kernel)) (by decide +kernel), good_of (List.mem_of_getElem? (i := 317) (by decide +kernel)) (by decide +kernel)⟩
theorem mf_X6_move : MFK yX6_move cX6_move 5 (some .int) 2 := ⟨good_of (List.mem_of_getElem? (i := 1) (by decide +kernel)) (by decide +kernel), good_of (List.mem_of_getElem? (i := 346) (by decide +kernel)) (by decide +kernel), ⟨by decide +kernel, by decide +kernel⟩, by decide +kernel, by decide⟩
theorem mv_X6_move : MVK yX6_move := ⟨good_of (List.mem_of_getElem? (i := 344) (by decide +kernel)) (by decide +kernel), good_of (List.mem_of_getElem? (i := 345) (by decide +kernel)) (by decide +kernel)⟩
theorem mf_X6_out : MFK yX6_out cX6_out 6 (some .int) 3 := ⟨good_of (List.mem_of_getElem? (i := 1) (by decide +kernel)) (by decide +kernel), good_of (List.mem_of_getElem? (i := 356) (by decide +kernel)) (by decide +kernel), ⟨by decide +kernel, by decide +kernel⟩, by decide +kernel, by decide⟩
theorem mv_X6_out : MVK yX6_out := ⟨good_of (List.mem_of_getElem? (i := 354) (by decide +kernel)) (by decide +kernel), good_of (List.mem_of_getElem? (i := 355) (by decide +kernel)) (by decide +kernel)⟩
theorem mf_X6_sign : MFK yX6_sign cX6_sign 4 (some .int) 2 := ⟨good_of (List.mem_of_getElem? (i := 1) (by decide +kernel)) (by decide +kernel), good_of (List.mem_of_getElem? (i := 360) (by decide +kernel)) (by decide +kernel), ⟨by decide +kernel, by decide +kernel⟩, by decide +kernel, by decide⟩
theorem mv_X6_sign : MVK yX6_sign := ⟨good_of (List.mem_of_getElem? (i := 358) (by decide +kernel)) (by decide +kernel), good_of (List.mem_of_getElem? (i := 359) (by decide +kernel)) (by decide +kernel)⟩
theorem mf_X6_show : MFK yX6_show cX6_show 5 (some .int) 2 := ⟨good_of (List.mem_of_getElem? (i := 1) (by decide +kernel)) (by decide +kernel), good_of (List.mem_of_getElem? (i := 380) (by decide +kernel)) (by decide +kernel), ⟨by decide +kernel, by decide +kernel⟩, by decide +kernel, by decide⟩
theorem mv_X6_show : MVK yX6_show := ⟨good_of (List.mem_of_getElem? (i := 378) (by decide +kernel)) (by decide +kernel), good_of (List.mem_of_getElem? (i := 379) (by decide +kernel)) (by decide +kernel)⟩
theorem mf_X6_agree : MFK yX6_agree cX6_agree 6 (some .int) 2 := ⟨good_of (List.mem_of_getElem? (i := 1) (by decide +kernel)) (by decide +kernel), good_of (List.mem_of_getElem? (i := 393) (by decide +kernel)) (by decide +kernel), ⟨by decide +kernel, by decide +kernel⟩, by decide +kernel, by decide⟩
theorem mv_X6_agree : MVK yX6_agree := ⟨good_of (List.mem_of_getElem? (i := 391) (by decide +kernel)) (by decide +kernel), good_of (List.mem_of_getElem? (i := 392) (by decide +kernel)) (by decide +kernel)⟩
theorem mf_X6_makeShown : MFK yX6_makeShown cX6_makeShown 3 (none) 1 := ⟨good_of (List.mem_of_getElem? (i := 1) (by decide +kernel)) (by decide +kernel), good_of (List.mem_of_getElem? (i := 389) (by decide +kernel)) (by decide +kernel), ⟨by decide +kernel, by decide +kernel⟩, by decide +kernel, by decide⟩
theorem mv_X6_makeShown : MVK yX6_makeShown := ⟨good_of (List.mem_of_getElem? (i := 388) (by decide +kernel)) (by decide +kernel), List.mem_filter.mpr ⟨List.mem_append_left _ (List.mem_of_getElem? (i := 7) (by decide +kernel)), by decide +kernel⟩⟩
theorem mf_X6_fulfil : MFK yX6_fulfil cX6_fulfil 2 (none) 1 := ⟨good_of (List.mem_of_getElem? (i := 1) (by decide +kernel)) (by decide +kernel), good_of (List.mem_of_getElem? (i := 397) (by decide +kernel)) (by decide +kernel), ⟨by decide +kernel, by decide +kernel⟩, by decide +kernel, by decide⟩
theorem mv_X6_fulfil : MVK yX6_fulfil := ⟨good_of (List.mem_of_getElem? (i := 396) (by decide +kernel)) (by decide +kernel), List.mem_filter.mpr ⟨List.mem_append_left _ (List.mem_of_getElem? (i := 8) (by decide +kernel)), by decide +kernel⟩⟩
theorem mf_X6_payOuts : MFK yX6_payOuts cX6_payOuts 4 (none) 1 := ⟨good_of (List.mem_of_getElem? (i := 1) (by decide +kernel)) (by decide +kernel), good_of (List.mem_of_getElem? (i := 405) (by decide +kernel)) (by decide +kernel), ⟨by decide +kernel, by decide +kernel⟩, by decide +kernel, by decide⟩
theorem mv_X6_payOuts : MVK yX6_payOuts := ⟨good_of (List.mem_of_getElem? (i := 404) (by decide +kernel)) (by decide +kernel), List.mem_filter.mpr ⟨List.mem_append_left _ (List.mem_of_getElem? (i := 9) (by decide +kernel)), by decide +kernel⟩⟩
theorem mf_X6_endBy : MFK yX6_endBy cX6_endBy 4 (none) 1 := ⟨good_of (List.mem_of_getElem? (i := 1) (by decide +kernel)) (by decide +kernel), good_of (List.mem_of_getElem? (i := 413) (by decide +kernel)) (by decide +kernel), ⟨by decide +kernel, by decide +kernel⟩, by decide +kernel, by decide⟩
theorem mv_X6_endBy : MVK yX6_endBy := ⟨good_of (List.mem_of_getElem? (i := 412) (by decide +kernel)) (by decide +kernel), List.mem_filter.mpr ⟨List.mem_append_left _ (List.mem_of_getElem? (i := 11) (by decide +kernel)), by decide +kernel⟩⟩
theorem mf_X6_holdOrGiveBack : MFK yX6_holdOrGiveBack cX6_holdOrGiveBack 4 (none) 3 := ⟨good_of (List.mem_of_getElem? (i := 1) (by decide +kernel)) (by decide +kernel), good_of (List.mem_of_getElem? (i := 417) (by decide +kernel)) (by decide +kernel), ⟨by decide +kernel, by decide +kernel⟩, by decide +kernel, by decide⟩
theorem mv_X6_holdOrGiveBack : MVK yX6_holdOrGiveBack := ⟨good_of (List.mem_of_getElem? (i := 416) (by decide +kernel)) (by decide +kernel), List.mem_filter.mpr ⟨List.mem_append_left _ (List.mem_of_getElem? (i := 12) (by decide +kernel)), by decide +kernel⟩⟩
theorem mf_X6_payFrom : MFK yX6_payFrom cX6_payFrom 4 (none) 3 := ⟨good_of (List.mem_of_getElem? (i := 1) (by decide +kernel)) (by decide +kernel), good_of (List.mem_of_getElem? (i := 409) (by decide +kernel)) (by decide +kernel), ⟨by decide +kernel, by decide +kernel⟩, by decide +kernel, by decide⟩
theorem mv_X6_payFrom : MVK yX6_payFrom := ⟨good_of (List.mem_of_getElem? (i := 408) (by decide +kernel)) (by decide +kernel), List.mem_filter.mpr ⟨List.mem_append_left _ (List.mem_of_getElem? (i := 10) (by decide +kernel)), by decide +kernel⟩⟩
theorem mf_X6_secret : MFK yX6_secret cX6_secret 2 (some .int) 1 := ⟨good_of (List.mem_of_getElem? (i := 1) (by decide +kernel)) (by decide +kernel), good_of (List.mem_of_getElem? (i := 421) (by decide +kernel)) (by decide +kernel), ⟨by decide +kernel, by decide +kernel⟩, by decide +kernel, by decide⟩
theorem mv_X6_secret : MVK yX6_secret := ⟨good_of (List.mem_of_getElem? (i := 419) (by decide +kernel)) (by decide +kernel), good_of (List.mem_of_getElem? (i := 420) (by decide +kernel)) (by decide +kernel)⟩
theorem mf_X6_tell : MFK yX6_tell cX6_tell 4 (some .int) 3 := ⟨good_of (List.mem_of_getElem? (i := 1) (by decide +kernel)) (by decide +kernel), good_of (List.mem_of_getElem? (i := 436) (by decide +kernel)) (by decide +kernel), ⟨by decide +kernel, by decide +kernel⟩, by decide +kernel, by decide⟩
theorem mv_X6_tell : MVK yX6_tell := ⟨good_of (List.mem_of_getElem? (i := 434) (by decide +kernel)) (by decide +kernel), good_of (List.mem_of_getElem? (i := 435) (by decide +kernel)) (by decide +kernel)⟩
theorem mf_X6_hasRoomForSecret : MFK yX6_hasRoomForSecret cX6_hasRoomForSecret 1 (some .boolean) 0 := ⟨good_of (List.mem_of_getElem? (i := 1) (by decide +kernel)) (by decide +kernel), good_of (List.mem_of_getElem? (i := 428) (by decide +kernel)) (by decide +kernel), ⟨by decide +kernel, by decide +kernel⟩, by decide +kernel, by decide⟩
theorem mv_X6_hasRoomForSecret : MVK yX6_hasRoomForSecret := ⟨good_of (List.mem_of_getElem? (i := 427) (by decide +kernel)) (by decide +kernel), List.mem_filter.mpr ⟨List.mem_append_left _ (List.mem_of_getElem? (i := 13) (by decide +kernel)), by decide +kernel⟩⟩
theorem mf_X6_newSecret : MFK yX6_newSecret cX6_newSecret 3 (some .int) 1 := ⟨good_of (List.mem_of_getElem? (i := 1) (by decide +kernel)) (by decide +kernel), good_of (List.mem_of_getElem? (i := 432) (by decide +kernel)) (by decide +kernel), ⟨by decide +kernel, by decide +kernel⟩, by decide +kernel, by decide⟩
theorem mv_X6_newSecret : MVK yX6_newSecret := ⟨good_of (List.mem_of_getElem? (i := 431) (by decide +kernel)) (by decide +kernel), List.mem_filter.mpr ⟨List.mem_append_left _ (List.mem_of_getElem? (i := 14) (by decide +kernel)), by decide +kernel⟩⟩
theorem mf_X6_isKnownBy : MFK yX6_isKnownBy cX6_isKnownBy 3 (some .boolean) 2 := ⟨good_of (List.mem_of_getElem? (i := 1) (by decide +kernel)) (by decide +kernel), good_of (List.mem_of_getElem? (i := 440) (by decide +kernel)) (by decide +kernel), ⟨by decide +kernel, by decide +kernel⟩, by decide +kernel, by decide⟩
theorem mv_X6_isKnownBy : MVK yX6_isKnownBy := ⟨good_of (List.mem_of_getElem? (i := 439) (by decide +kernel)) (by decide +kernel), List.mem_filter.mpr ⟨List.mem_append_left _ (List.mem_of_getElem? (i := 15) (by decide +kernel)), by decide +kernel⟩⟩
theorem mf_X6_claim : MFK yX6_claim cX6_claim 6 (some .int) 3 := ⟨good_of (List.mem_of_getElem? (i := 1) (by decide +kernel)) (by decide +kernel), good_of (List.mem_of_getElem? (i := 444) (by decide +kernel)) (by decide +kernel), ⟨by decide +kernel, by decide +kernel⟩, by decide +kernel, by decide⟩
theorem mv_X6_claim : MVK yX6_claim := ⟨good_of (List.mem_of_getElem? (i := 442) (by decide +kernel)) (by decide +kernel), good_of (List.mem_of_getElem? (i := 443) (by decide +kernel)) (by decide +kernel)⟩
theorem mf_X6_step : MFK yX6_step cX6_step 6 (some .int) 3 := ⟨good_of (List.mem_of_getElem? (i := 1) (by decide +kernel)) (by decide +kernel), good_of (List.mem_of_getElem? (i := 469) (by decide +kernel)) (by decide +kernel), ⟨by decide +kernel, by decide +kernel⟩, by decide +kernel, by decide⟩
theorem mv_X6_step : MVK yX6_step := ⟨good_of (List.mem_of_getElem? (i := 467) (by decide +kernel)) (by decide +kernel), good_of (List.mem_of_getElem? (i := 468) (by decide +kernel)) (by decide +kernel)⟩
theorem mf_X6_canClaim : MFK yX6_canClaim cX6_canClaim 3 (some .boolean) 2 := ⟨good_of (List.mem_of_getElem? (i := 1) (by decide +kernel)) (by decide +kernel), good_of (List.mem_of_getElem? (i := 461) (by decide +kernel)) (by decide +kernel), ⟨by decide +kernel, by decide +kernel⟩, by decide +kernel, by decide⟩
theorem mv_X6_canClaim : MVK yX6_canClaim := ⟨good_of (List.mem_of_getElem? (i := 460) (by decide +kernel)) (by decide +kernel), List.mem_filter.mpr ⟨List.mem_append_left _ (List.mem_of_getElem? (i := 17) (by decide +kernel)), by decide +kernel⟩⟩
theorem mf_X6_claimHeld : MFK yX6_claimHeld cX6_claimHeld 5 (some .int) 3 := ⟨good_of (List.mem_of_getElem? (i := 1) (by decide +kernel)) (by decide +kernel), good_of (List.mem_of_getElem? (i := 451) (by decide +kernel)) (by decide +kernel), ⟨by decide +kernel, by decide +kernel⟩, by decide +kernel, by decide⟩
theorem mv_X6_claimHeld : MVK yX6_claimHeld := ⟨good_of (List.mem_of_getElem? (i := 450) (by decide +kernel)) (by decide +kernel), List.mem_filter.mpr ⟨List.mem_append_left _ (List.mem_of_getElem? (i := 16) (by decide +kernel)), by decide +kernel⟩⟩
theorem mf_X6_payHeldLock : MFK yX6_payHeldLock cX6_payHeldLock 5 (none) 4 := ⟨good_of (List.mem_of_getElem? (i := 1) (by decide +kernel)) (by decide +kernel), good_of (List.mem_of_getElem? (i := 465) (by decide +kernel)) (by decide +kernel), ⟨by decide +kernel, by decide +kernel⟩, by decide +kernel, by decide⟩
theorem mv_X6_payHeldLock : MVK yX6_payHeldLock := ⟨good_of (List.mem_of_getElem? (i := 464) (by decide +kernel)) (by decide +kernel), List.mem_filter.mpr ⟨List.mem_append_left _ (List.mem_of_getElem? (i := 18) (by decide +kernel)), by decide +kernel⟩⟩
theorem mf_X6_moveHeld : MFK yX6_moveHeld cX6_moveHeld 5 (none) 3 := ⟨good_of (List.mem_of_getElem? (i := 1) (by decide +kernel)) (by decide +kernel), good_of (List.mem_of_getElem? (i := 473) (by decide +kernel)) (by decide +kernel), ⟨by decide +kernel, by decide +kernel⟩, by decide +kernel, by decide⟩
theorem mv_X6_moveHeld : MVK yX6_moveHeld := ⟨good_of (List.mem_of_getElem? (i := 472) (by decide +kernel)) (by decide +kernel), List.mem_filter.mpr ⟨List.mem_append_left _ (List.mem_of_getElem? (i := 19) (by decide +kernel)), by decide +kernel⟩⟩
theorem mf_X6_payHeldStake : MFK yX6_payHeldStake cX6_payHeldStake 4 (none) 3 := ⟨good_of (List.mem_of_getElem? (i := 1) (by decide +kernel)) (by decide +kernel), good_of (List.mem_of_getElem? (i := 477) (by decide +kernel)) (by decide +kernel), ⟨by decide +kernel, by decide +kernel⟩, by decide +kernel, by decide⟩
theorem mv_X6_payHeldStake : MVK yX6_payHeldStake := ⟨good_of (List.mem_of_getElem? (i := 476) (by decide +kernel)) (by decide +kernel), List.mem_filter.mpr ⟨List.mem_append_left _ (List.mem_of_getElem? (i := 20) (by decide +kernel)), by decide +kernel⟩⟩
theorem mf_X6_watch : MFK yX6_watch cX6_watch 4 (some .int) 2 := ⟨good_of (List.mem_of_getElem? (i := 1) (by decide +kernel)) (by decide +kernel), good_of (List.mem_of_getElem? (i := 481) (by decide +kernel)) (by decide +kernel), ⟨by decide +kernel, by decide +kernel⟩, by decide +kernel, by decide⟩
theorem mv_X6_watch : MVK yX6_watch := ⟨good_of (List.mem_of_getElem? (i := 479) (by decide +kernel)) (by decide +kernel), good_of (List.mem_of_getElem? (i := 480) (by decide +kernel)) (by decide +kernel)⟩
theorem mf_X6_height : MFK yX6_height cX6_height 3 (some .int) 1 := ⟨good_of (List.mem_of_getElem? (i := 1) (by decide +kernel)) (by decide +kernel), good_of (List.mem_of_getElem? (i := 485) (by decide +kernel)) (by decide +kernel), ⟨by decide +kernel, by decide +kernel⟩, by decide +kernel, by decide⟩
theorem mv_X6_height : MVK yX6_height := ⟨good_of (List.mem_of_getElem? (i := 483) (by decide +kernel)) (by decide +kernel), good_of (List.mem_of_getElem? (i := 484) (by decide +kernel)) (by decide +kernel)⟩
theorem mf_X6_oneHeightMore : MFK yX6_oneHeightMore cX6_oneHeightMore 3 (none) 0 := ⟨good_of (List.mem_of_getElem? (i := 1) (by decide +kernel)) (by decide +kernel), good_of (List.mem_of_getElem? (i := 489) (by decide +kernel)) (by decide +kernel), ⟨by decide +kernel, by decide +kernel⟩, by decide +kernel, by decide⟩
theorem mv_X6_oneHeightMore : MVK yX6_oneHeightMore := ⟨good_of (List.mem_of_getElem? (i := 488) (by decide +kernel)) (by decide +kernel), List.mem_filter.mpr ⟨List.mem_append_left _ (List.mem_of_getElem? (i := 21) (by decide +kernel)), by decide +kernel⟩⟩
theorem mf_X6_meetHeight : MFK yX6_meetHeight cX6_meetHeight 4 (none) 1 := ⟨good_of (List.mem_of_getElem? (i := 1) (by decide +kernel)) (by decide +kernel), good_of (List.mem_of_getElem? (i := 493) (by decide +kernel)) (by decide +kernel), ⟨by decide +kernel, by decide +kernel⟩, by decide +kernel, by decide⟩
theorem mv_X6_meetHeight : MVK yX6_meetHeight := ⟨good_of (List.mem_of_getElem? (i := 492) (by decide +kernel)) (by decide +kernel), List.mem_filter.mpr ⟨List.mem_append_left _ (List.mem_of_getElem? (i := 22) (by decide +kernel)), by decide +kernel⟩⟩
theorem mf_X6_watchFor : MFK yX6_watchFor cX6_watchFor 4 (none) 2 := ⟨good_of (List.mem_of_getElem? (i := 1) (by decide +kernel)) (by decide +kernel), good_of (List.mem_of_getElem? (i := 497) (by decide +kernel)) (by decide +kernel), ⟨by decide +kernel, by decide +kernel⟩, by decide +kernel, by decide⟩
theorem mv_X6_watchFor : MVK yX6_watchFor := ⟨good_of (List.mem_of_getElem? (i := 496) (by decide +kernel)) (by decide +kernel), List.mem_filter.mpr ⟨List.mem_append_left _ (List.mem_of_getElem? (i := 23) (by decide +kernel)), by decide +kernel⟩⟩
theorem mf_X6_hasUrgentLock : MFK yX6_hasUrgentLock cX6_hasUrgentLock 5 (some .boolean) 2 := ⟨good_of (List.mem_of_getElem? (i := 1) (by decide +kernel)) (by decide +kernel), good_of (List.mem_of_getElem? (i := 505) (by decide +kernel)) (by decide +kernel), ⟨by decide +kernel, by decide +kernel⟩, by decide +kernel, by decide⟩
theorem mv_X6_hasUrgentLock : MVK yX6_hasUrgentLock := ⟨good_of (List.mem_of_getElem? (i := 504) (by decide +kernel)) (by decide +kernel), List.mem_filter.mpr ⟨List.mem_append_left _ (List.mem_of_getElem? (i := 25) (by decide +kernel)), by decide +kernel⟩⟩
theorem mf_X6_playFor : MFK yX6_playFor cX6_playFor 5 (none) 2 := ⟨good_of (List.mem_of_getElem? (i := 1) (by decide +kernel)) (by decide +kernel), good_of (List.mem_of_getElem? (i := 501) (by decide +kernel)) (by decide +kernel), ⟨by decide +kernel, by decide +kernel⟩, by decide +kernel, by decide⟩
theorem mv_X6_playFor : MVK yX6_playFor := ⟨good_of (List.mem_of_getElem? (i := 500) (by decide +kernel)) (by decide +kernel), List.mem_filter.mpr ⟨List.mem_append_left _ (List.mem_of_getElem? (i := 24) (by decide +kernel)), by decide +kernel⟩⟩
theorem mf_X6_hop : MFK yX6_hop cX6_hop 5 (some .int) 3 := ⟨good_of (List.mem_of_getElem? (i := 1) (by decide +kernel)) (by decide +kernel), good_of (List.mem_of_getElem? (i := 509) (by decide +kernel)) (by decide +kernel), ⟨by decide +kernel, by decide +kernel⟩, by decide +kernel, by decide⟩
theorem mv_X6_hop : MVK yX6_hop := ⟨good_of (List.mem_of_getElem? (i := 507) (by decide +kernel)) (by decide +kernel), good_of (List.mem_of_getElem? (i := 508) (by decide +kernel)) (by decide +kernel)⟩
theorem mf_X6_pay : MFK yX6_pay cX6_pay 9 (some .int) 2 := ⟨good_of (List.mem_of_getElem? (i := 1) (by decide +kernel)) (by decide +kernel), good_of (List.mem_of_getElem? (i := 539) (by decide +kernel)) (by decide +kernel), ⟨by decide +kernel, by decide +kernel⟩, by decide +kernel, by decide⟩
theorem mv_X6_pay : MVK yX6_pay := ⟨good_of (List.mem_of_getElem? (i := 537) (by decide +kernel)) (by decide +kernel), good_of (List.mem_of_getElem? (i := 538) (by decide +kernel)) (by decide +kernel)⟩
theorem mf_X6_continuesRoute : MFK yX6_continuesRoute cX6_continuesRoute 5 (some .boolean) 2 := ⟨good_of (List.mem_of_getElem? (i := 1) (by decide +kernel)) (by decide +kernel), good_of (List.mem_of_getElem? (i := 513) (by decide +kernel)) (by decide +kernel), ⟨by decide +kernel, by decide +kernel⟩, by decide +kernel, by decide⟩
theorem mv_X6_continuesRoute : MVK yX6_continuesRoute := ⟨good_of (List.mem_of_getElem? (i := 512) (by decide +kernel)) (by decide +kernel), List.mem_filter.mpr ⟨List.mem_append_left _ (List.mem_of_getElem? (i := 26) (by decide +kernel)), by decide +kernel⟩⟩
theorem mf_X6_allCarry : MFK yX6_allCarry cX6_allCarry 5 (some .boolean) 2 := ⟨good_of (List.mem_of_getElem? (i := 1) (by decide +kernel)) (by decide +kernel), good_of (List.mem_of_getElem? (i := 543) (by decide +kernel)) (by decide +kernel), ⟨by decide +kernel, by decide +kernel⟩, by decide +kernel, by decide⟩
theorem mv_X6_allCarry : MVK yX6_allCarry := ⟨good_of (List.mem_of_getElem? (i := 542) (by decide +kernel)) (by decide +kernel), List.mem_filter.mpr ⟨List.mem_append_left _ (List.mem_of_getElem? (i := 28) (by decide +kernel)), by decide +kernel⟩⟩
theorem mf_X6_firstExpiry : MFK yX6_firstExpiry cX6_firstExpiry 6 (some .int) 2 := ⟨good_of (List.mem_of_getElem? (i := 1) (by decide +kernel)) (by decide +kernel), good_of (List.mem_of_getElem? (i := 553) (by decide +kernel)) (by decide +kernel), ⟨by decide +kernel, by decide +kernel⟩, by decide +kernel, by decide⟩
theorem mv_X6_firstExpiry : MVK yX6_firstExpiry := ⟨good_of (List.mem_of_getElem? (i := 552) (by decide +kernel)) (by decide +kernel), List.mem_filter.mpr ⟨List.mem_append_left _ (List.mem_of_getElem? (i := 29) (by decide +kernel)), by decide +kernel⟩⟩
theorem mf_X6_payHop : MFK yX6_payHop cX6_payHop 6 (none) 4 := ⟨good_of (List.mem_of_getElem? (i := 1) (by decide +kernel)) (by decide +kernel), good_of (List.mem_of_getElem? (i := 557) (by decide +kernel)) (by decide +kernel), ⟨by decide +kernel, by decide +kernel⟩, by decide +kernel, by decide⟩
theorem mv_X6_payHop : MVK yX6_payHop := ⟨good_of (List.mem_of_getElem? (i := 556) (by decide +kernel)) (by decide +kernel), List.mem_filter.mpr ⟨List.mem_append_left _ (List.mem_of_getElem? (i := 30) (by decide +kernel)), by decide +kernel⟩⟩
theorem mf_X6_account : MFK yX6_account cX6_account 2 (some .int) 1 := ⟨good_of (List.mem_of_getElem? (i := 1) (by decide +kernel)) (by decide +kernel), good_of (List.mem_of_getElem? (i := 561) (by decide +kernel)) (by decide +kernel), ⟨by decide +kernel, by decide +kernel⟩, by decide +kernel, by decide⟩
theorem mv_X6_account : MVK yX6_account := ⟨good_of (List.mem_of_getElem? (i := 559) (by decide +kernel)) (by decide +kernel), good_of (List.mem_of_getElem? (i := 560) (by decide +kernel)) (by decide +kernel)⟩
theorem mf_X6_told : MFK yX6_told cX6_told 5 (some .int) 2 := ⟨good_of (List.mem_of_getElem? (i := 1) (by decide +kernel)) (by decide +kernel), good_of (List.mem_of_getElem? (i := 565) (by decide +kernel)) (by decide +kernel), ⟨by decide +kernel, by decide +kernel⟩, by decide +kernel, by decide⟩
theorem mv_X6_told : MVK yX6_told := ⟨good_of (List.mem_of_getElem? (i := 563) (by decide +kernel)) (by decide +kernel), good_of (List.mem_of_getElem? (i := 564) (by decide +kernel)) (by decide +kernel)⟩
theorem mf_X6_of : MFK yX6_of cX6_of 5 (some .int) 2 := ⟨good_of (List.mem_of_getElem? (i := 1) (by decide +kernel)) (by decide +kernel), good_of (List.mem_of_getElem? (i := 572) (by decide +kernel)) (by decide +kernel), ⟨by decide +kernel, by decide +kernel⟩, by decide +kernel, by decide⟩
theorem mv_X6_of : MVK yX6_of := ⟨good_of (List.mem_of_getElem? (i := 570) (by decide +kernel)) (by decide +kernel), good_of (List.mem_of_getElem? (i := 571) (by decide +kernel)) (by decide +kernel)⟩
theorem mf_X6_share : MFK yX6_share cX6_share 5 (some .int) 3 := ⟨good_of (List.mem_of_getElem? (i := 1) (by decide +kernel)) (by decide +kernel), good_of (List.mem_of_getElem? (i := 577) (by decide +kernel)) (by decide +kernel), ⟨by decide +kernel, by decide +kernel⟩, by decide +kernel, by decide⟩
theorem mv_X6_share : MVK yX6_share := ⟨good_of (List.mem_of_getElem? (i := 575) (by decide +kernel)) (by decide +kernel), good_of (List.mem_of_getElem? (i := 576) (by decide +kernel)) (by decide +kernel)⟩
theorem mf_X6_locked : MFK yX6_locked cX6_locked 6 (some .int) 3 := ⟨good_of (List.mem_of_getElem? (i := 1) (by decide +kernel)) (by decide +kernel), good_of (List.mem_of_getElem? (i := 581) (by decide +kernel)) (by decide +kernel), ⟨by decide +kernel, by decide +kernel⟩, by decide +kernel, by decide⟩
theorem mv_X6_locked : MVK yX6_locked := ⟨good_of (List.mem_of_getElem? (i := 579) (by decide +kernel)) (by decide +kernel), good_of (List.mem_of_getElem? (i := 580) (by decide +kernel)) (by decide +kernel)⟩
theorem mf_X6_knows : MFK yX6_knows cX6_knows 2 (some .int) 1 := ⟨good_of (List.mem_of_getElem? (i := 1) (by decide +kernel)) (by decide +kernel), good_of (List.mem_of_getElem? (i := 585) (by decide +kernel)) (by decide +kernel), ⟨by decide +kernel, by decide +kernel⟩, by decide +kernel, by decide⟩
theorem mv_X6_knows : MVK yX6_knows := ⟨good_of (List.mem_of_getElem? (i := 583) (by decide +kernel)) (by decide +kernel), good_of (List.mem_of_getElem? (i := 584) (by decide +kernel)) (by decide +kernel)⟩
theorem mf_X6_count : MFK yX6_count cX6_count 2 (some .int) 1 := ⟨good_of (List.mem_of_getElem? (i := 1) (by decide +kernel)) (by decide +kernel), good_of (List.mem_of_getElem? (i := 589) (by decide +kernel)) (by decide +kernel), ⟨by decide +kernel, by decide +kernel⟩, by decide +kernel, by decide⟩
theorem mv_X6_count : MVK yX6_count := ⟨good_of (List.mem_of_getElem? (i := 587) (by decide +kernel)) (by decide +kernel), good_of (List.mem_of_getElem? (i := 588) (by decide +kernel)) (by decide +kernel)⟩
theorem mf_X6_allThereIs : MFK yX6_allThereIs cX6_allThereIs 4 (some .int) 0 := ⟨good_of (List.mem_of_getElem? (i := 1) (by decide +kernel)) (by decide +kernel), good_of (List.mem_of_getElem? (i := 593) (by decide +kernel)) (by decide +kernel), ⟨by decide +kernel, by decide +kernel⟩, by decide +kernel, by decide⟩
theorem mv_X6_allThereIs : MVK yX6_allThereIs := ⟨good_of (List.mem_of_getElem? (i := 592) (by decide +kernel)) (by decide +kernel), List.mem_filter.mpr ⟨List.mem_append_left _ (List.mem_of_getElem? (i := 31) (by decide +kernel)), by decide +kernel⟩⟩
theorem mf_X6_channelAt : MFK yX6_channelAt cX6_channelAt 2 (some (.object "StateChannels$Channel")) 1 := ⟨good_of (List.mem_of_getElem? (i := 1) (by decide +kernel)) (by decide +kernel), good_of (List.mem_of_getElem? (i := 221) (by decide +kernel)) (by decide +kernel), ⟨by decide +kernel, by decide +kernel⟩, by decide +kernel, by decide⟩
theorem mv_X6_channelAt : MVK yX6_channelAt := ⟨good_of (List.mem_of_getElem? (i := 220) (by decide +kernel)) (by decide +kernel), List.mem_filter.mpr ⟨List.mem_append_left _ (List.mem_of_getElem? (i := 3) (by decide +kernel)), by decide +kernel⟩⟩
theorem mf_X6_stateAt : MFK yX6_stateAt cX6_stateAt 2 (some (.object "StateChannels$State")) 1 := ⟨good_of (List.mem_of_getElem? (i := 1) (by decide +kernel)) (by decide +kernel), good_of (List.mem_of_getElem? (i := 243) (by decide +kernel)) (by decide +kernel), ⟨by decide +kernel, by decide +kernel⟩, by decide +kernel, by decide⟩
theorem mv_X6_stateAt : MVK yX6_stateAt := ⟨good_of (List.mem_of_getElem? (i := 242) (by decide +kernel)) (by decide +kernel), List.mem_filter.mpr ⟨List.mem_append_left _ (List.mem_of_getElem? (i := 5) (by decide +kernel)), by decide +kernel⟩⟩
theorem mf_X6_hopAt : MFK yX6_hopAt cX6_hopAt 2 (some (.object "StateChannels$Hop")) 1 := ⟨good_of (List.mem_of_getElem? (i := 1) (by decide +kernel)) (by decide +kernel), good_of (List.mem_of_getElem? (i := 517) (by decide +kernel)) (by decide +kernel), ⟨by decide +kernel, by decide +kernel⟩, by decide +kernel, by decide⟩
theorem mv_X6_hopAt : MVK yX6_hopAt := ⟨good_of (List.mem_of_getElem? (i := 516) (by decide +kernel)) (by decide +kernel), List.mem_filter.mpr ⟨List.mem_append_left _ (List.mem_of_getElem? (i := 27) (by decide +kernel)), by decide +kernel⟩⟩
theorem mf_X6_isSecret : MFK yX6_isSecret cX6_isSecret 2 (some .boolean) 1 := ⟨good_of (List.mem_of_getElem? (i := 1) (by decide +kernel)) (by decide +kernel), good_of (List.mem_of_getElem? (i := 265) (by decide +kernel)) (by decide +kernel), ⟨by decide +kernel, by decide +kernel⟩, by decide +kernel, by decide⟩
theorem mv_X6_isSecret : MVK yX6_isSecret := ⟨good_of (List.mem_of_getElem? (i := 264) (by decide +kernel)) (by decide +kernel), List.mem_filter.mpr ⟨List.mem_append_left _ (List.mem_of_getElem? (i := 6) (by decide +kernel)), by decide +kernel⟩⟩
theorem mf_X6_numberOf : MFK yX6_numberOf cX6_numberOf 1 (some .int) 1 := ⟨good_of (List.mem_of_getElem? (i := 1) (by decide +kernel)) (by decide +kernel), good_of (List.mem_of_getElem? (i := 568) (by decide +kernel)) (by decide +kernel), ⟨by decide +kernel, by decide +kernel⟩, by decide +kernel, by decide⟩
theorem mv_X6_numberOf : Cond.static yX6_numberOf ∈ lw_good := good_of (List.mem_of_getElem? (i := 567) (by decide +kernel)) (by decide +kernel)
theorem mf_X6_isParty : MFK yX6_isParty cX6_isParty 1 (some .boolean) 1 := ⟨good_of (List.mem_of_getElem? (i := 1) (by decide +kernel)) (by decide +kernel), good_of (List.mem_of_getElem? (i := 424) (by decide +kernel)) (by decide +kernel), ⟨by decide +kernel, by decide +kernel⟩, by decide +kernel, by decide⟩
theorem mv_X6_isParty : Cond.static yX6_isParty ∈ lw_good := good_of (List.mem_of_getElem? (i := 423) (by decide +kernel)) (by decide +kernel)
theorem mf_X6_isPlace : MFK yX6_isPlace cX6_isPlace 1 (some .boolean) 1 := ⟨good_of (List.mem_of_getElem? (i := 1) (by decide +kernel)) (by decide +kernel), good_of (List.mem_of_getElem? (i := 447) (by decide +kernel)) (by decide +kernel), ⟨by decide +kernel, by decide +kernel⟩, by decide +kernel, by decide⟩
theorem mv_X6_isPlace : Cond.static yX6_isPlace ∈ lw_good := good_of (List.mem_of_getElem? (i := 446) (by decide +kernel)) (by decide +kernel)
theorem mf_X6_isIn : MFK yX6_isIn cX6_isIn 2 (some .boolean) 2 := ⟨good_of (List.mem_of_getElem? (i := 1) (by decide +kernel)) (by decide +kernel), good_of (List.mem_of_getElem? (i := 96) (by decide +kernel)) (by decide +kernel), ⟨by decide +kernel, by decide +kernel⟩, by decide +kernel, by decide⟩
theorem mv_X6_isIn : Cond.static yX6_isIn ∈ lw_good := good_of (List.mem_of_getElem? (i := 95) (by decide +kernel)) (by decide +kernel)
theorem mf_X6_isWithin : MFK yX6_isWithin cX6_isWithin 3 (some .boolean) 3 := ⟨good_of (List.mem_of_getElem? (i := 1) (by decide +kernel)) (by decide +kernel), good_of (List.mem_of_getElem? (i := 79) (by decide +kernel)) (by decide +kernel), ⟨by decide +kernel, by decide +kernel⟩, by decide +kernel, by decide⟩
theorem mv_X6_isWithin : Cond.static yX6_isWithin ∈ lw_good := good_of (List.mem_of_getElem? (i := 78) (by decide +kernel)) (by decide +kernel)
theorem mf_X7_init : MFK yX7_init cX7_init 2 (none) 0 := ⟨good_of (List.mem_of_getElem? (i := 3) (by decide +kernel)) (by decide +kernel), good_of (List.mem_of_getElem? (i := 599) (by decide +kernel)) (by decide +kernel), ⟨by decide +kernel, by decide +kernel⟩, by decide +kernel, by decide⟩
theorem mv_X7_init : Cond.instanceMethod yX7_init ∈ lw_good := good_of (List.mem_of_getElem? (i := 598) (by decide +kernel)) (by decide +kernel)
theorem mf_X7_isIn : MFK yX7_isIn cX7_isIn 3 (some .boolean) 3 := ⟨good_of (List.mem_of_getElem? (i := 3) (by decide +kernel)) (by decide +kernel), good_of (List.mem_of_getElem? (i := 680) (by decide +kernel)) (by decide +kernel), ⟨by decide +kernel, by decide +kernel⟩, by decide +kernel, by decide⟩
theorem mv_X7_isIn : Cond.static yX7_isIn ∈ lw_good := good_of (List.mem_of_getElem? (i := 679) (by decide +kernel)) (by decide +kernel)
theorem mf_X7_isParty : MFK yX7_isParty cX7_isParty 1 (some .boolean) 1 := ⟨good_of (List.mem_of_getElem? (i := 3) (by decide +kernel)) (by decide +kernel), good_of (List.mem_of_getElem? (i := 740) (by decide +kernel)) (by decide +kernel), ⟨by decide +kernel, by decide +kernel⟩, by decide +kernel, by decide⟩
theorem mv_X7_isParty : Cond.static yX7_isParty ∈ lw_good := good_of (List.mem_of_getElem? (i := 739) (by decide +kernel)) (by decide +kernel)
theorem mf_X7_has : MFK yX7_has cX7_has 2 (some .boolean) 2 := ⟨good_of (List.mem_of_getElem? (i := 3) (by decide +kernel)) (by decide +kernel), good_of (List.mem_of_getElem? (i := 686) (by decide +kernel)) (by decide +kernel), ⟨by decide +kernel, by decide +kernel⟩, by decide +kernel, by decide⟩
theorem mv_X7_has : Cond.static yX7_has ∈ lw_good := good_of (List.mem_of_getElem? (i := 685) (by decide +kernel)) (by decide +kernel)
theorem mf_X7_size : MFK yX7_size cX7_size 3 (some .int) 1 := ⟨good_of (List.mem_of_getElem? (i := 3) (by decide +kernel)) (by decide +kernel), good_of (List.mem_of_getElem? (i := 683) (by decide +kernel)) (by decide +kernel), ⟨by decide +kernel, by decide +kernel⟩, by decide +kernel, by decide⟩
theorem mv_X7_size : Cond.static yX7_size ∈ lw_good := good_of (List.mem_of_getElem? (i := 682) (by decide +kernel)) (by decide +kernel)
theorem mf_X7_isChannel : MFK yX7_isChannel cX7_isChannel 2 (some .boolean) 1 := ⟨good_of (List.mem_of_getElem? (i := 3) (by decide +kernel)) (by decide +kernel), good_of (List.mem_of_getElem? (i := 702) (by decide +kernel)) (by decide +kernel), ⟨by decide +kernel, by decide +kernel⟩, by decide +kernel, by decide⟩
theorem mv_X7_isChannel : MVK yX7_isChannel := ⟨good_of (List.mem_of_getElem? (i := 701) (by decide +kernel)) (by decide +kernel), List.mem_filter.mpr ⟨List.mem_append_left _ (List.mem_of_getElem? (i := 34) (by decide +kernel)), by decide +kernel⟩⟩
theorem mf_X7_isState : MFK yX7_isState cX7_isState 2 (some .boolean) 1 := ⟨good_of (List.mem_of_getElem? (i := 3) (by decide +kernel)) (by decide +kernel), good_of (List.mem_of_getElem? (i := 733) (by decide +kernel)) (by decide +kernel), ⟨by decide +kernel, by decide +kernel⟩, by decide +kernel, by decide⟩
theorem mv_X7_isState : MVK yX7_isState := ⟨good_of (List.mem_of_getElem? (i := 732) (by decide +kernel)) (by decide +kernel), List.mem_filter.mpr ⟨List.mem_append_left _ (List.mem_of_getElem? (i := 40) (by decide +kernel)), by decide +kernel⟩⟩
theorem mf_X7_isMember : MFK yX7_isMember cX7_isMember 3 (some .boolean) 2 := ⟨good_of (List.mem_of_getElem? (i := 3) (by decide +kernel)) (by decide +kernel), good_of (List.mem_of_getElem? (i := 737) (by decide +kernel)) (by decide +kernel), ⟨by decide +kernel, by decide +kernel⟩, by decide +kernel, by decide⟩
theorem mv_X7_isMember : MVK yX7_isMember := ⟨good_of (List.mem_of_getElem? (i := 736) (by decide +kernel)) (by decide +kernel), List.mem_filter.mpr ⟨List.mem_append_left _ (List.mem_of_getElem? (i := 41) (by decide +kernel)), by decide +kernel⟩⟩
theorem mf_X7_channelOf : MFK yX7_channelOf cX7_channelOf 2 (some .int) 1 := ⟨good_of (List.mem_of_getElem? (i := 3) (by decide +kernel)) (by decide +kernel), good_of (List.mem_of_getElem? (i := 694) (by decide +kernel)) (by decide +kernel), ⟨by decide +kernel, by decide +kernel⟩, by decide +kernel, by decide⟩
theorem mv_X7_channelOf : MVK yX7_channelOf := ⟨good_of (List.mem_of_getElem? (i := 693) (by decide +kernel)) (by decide +kernel), List.mem_filter.mpr ⟨List.mem_append_left _ (List.mem_of_getElem? (i := 33) (by decide +kernel)), by decide +kernel⟩⟩
theorem mf_X7_isOf : MFK yX7_isOf cX7_isOf 3 (some .boolean) 2 := ⟨good_of (List.mem_of_getElem? (i := 3) (by decide +kernel)) (by decide +kernel), good_of (List.mem_of_getElem? (i := 729) (by decide +kernel)) (by decide +kernel), ⟨by decide +kernel, by decide +kernel⟩, by decide +kernel, by decide⟩
theorem mv_X7_isOf : MVK yX7_isOf := ⟨good_of (List.mem_of_getElem? (i := 728) (by decide +kernel)) (by decide +kernel), List.mem_filter.mpr ⟨List.mem_append_left _ (List.mem_of_getElem? (i := 39) (by decide +kernel)), by decide +kernel⟩⟩
theorem mf_X7_lockAt : MFK yX7_lockAt cX7_lockAt 2 (some .int) 2 := ⟨good_of (List.mem_of_getElem? (i := 3) (by decide +kernel)) (by decide +kernel), good_of (List.mem_of_getElem? (i := 721) (by decide +kernel)) (by decide +kernel), ⟨by decide +kernel, by decide +kernel⟩, by decide +kernel, by decide⟩
theorem mv_X7_lockAt : Cond.static yX7_lockAt ∈ lw_good := good_of (List.mem_of_getElem? (i := 720) (by decide +kernel)) (by decide +kernel)
theorem mf_X7_whole : MFK yX7_whole cX7_whole 4 (some .int) 1 := ⟨good_of (List.mem_of_getElem? (i := 3) (by decide +kernel)) (by decide +kernel), good_of (List.mem_of_getElem? (i := 718) (by decide +kernel)) (by decide +kernel), ⟨by decide +kernel, by decide +kernel⟩, by decide +kernel, by decide⟩
theorem mv_X7_whole : MVK yX7_whole := ⟨good_of (List.mem_of_getElem? (i := 717) (by decide +kernel)) (by decide +kernel), List.mem_filter.mpr ⟨List.mem_append_left _ (List.mem_of_getElem? (i := 38) (by decide +kernel)), by decide +kernel⟩⟩
theorem mf_X7_counts : MFK yX7_counts cX7_counts 3 (some .boolean) 1 := ⟨good_of (List.mem_of_getElem? (i := 3) (by decide +kernel)) (by decide +kernel), good_of (List.mem_of_getElem? (i := 714) (by decide +kernel)) (by decide +kernel), ⟨by decide +kernel, by decide +kernel⟩, by decide +kernel, by decide⟩
theorem mv_X7_counts : MVK yX7_counts := ⟨good_of (List.mem_of_getElem? (i := 713) (by decide +kernel)) (by decide +kernel), List.mem_filter.mpr ⟨List.mem_append_left _ (List.mem_of_getElem? (i := 37) (by decide +kernel)), by decide +kernel⟩⟩
theorem mf_X7_newest : MFK yX7_newest cX7_newest 3 (some .int) 1 := ⟨good_of (List.mem_of_getElem? (i := 3) (by decide +kernel)) (by decide +kernel), good_of (List.mem_of_getElem? (i := 710) (by decide +kernel)) (by decide +kernel), ⟨by decide +kernel, by decide +kernel⟩, by decide +kernel, by decide⟩
theorem mv_X7_newest : MVK yX7_newest := ⟨good_of (List.mem_of_getElem? (i := 709) (by decide +kernel)) (by decide +kernel), List.mem_filter.mpr ⟨List.mem_append_left _ (List.mem_of_getElem? (i := 36) (by decide +kernel)), by decide +kernel⟩⟩
theorem mf_X7_free : MFK yX7_free cX7_free 3 (some .int) 2 := ⟨good_of (List.mem_of_getElem? (i := 3) (by decide +kernel)) (by decide +kernel), good_of (List.mem_of_getElem? (i := 749) (by decide +kernel)) (by decide +kernel), ⟨by decide +kernel, by decide +kernel⟩, by decide +kernel, by decide⟩
theorem mv_X7_free : MVK yX7_free := ⟨good_of (List.mem_of_getElem? (i := 748) (by decide +kernel)) (by decide +kernel), List.mem_filter.mpr ⟨List.mem_append_left _ (List.mem_of_getElem? (i := 43) (by decide +kernel)), by decide +kernel⟩⟩
theorem mf_X7_isFixed : MFK yX7_isFixed cX7_isFixed 2 (some .boolean) 1 := ⟨good_of (List.mem_of_getElem? (i := 3) (by decide +kernel)) (by decide +kernel), good_of (List.mem_of_getElem? (i := 744) (by decide +kernel)) (by decide +kernel), ⟨by decide +kernel, by decide +kernel⟩, by decide +kernel, by decide⟩
theorem mv_X7_isFixed : MVK yX7_isFixed := ⟨good_of (List.mem_of_getElem? (i := 743) (by decide +kernel)) (by decide +kernel), List.mem_filter.mpr ⟨List.mem_append_left _ (List.mem_of_getElem? (i := 42) (by decide +kernel)), by decide +kernel⟩⟩
theorem mf_X7_emptyPlace : MFK yX7_emptyPlace cX7_emptyPlace 3 (some .int) 1 := ⟨good_of (List.mem_of_getElem? (i := 3) (by decide +kernel)) (by decide +kernel), good_of (List.mem_of_getElem? (i := 758) (by decide +kernel)) (by decide +kernel), ⟨by decide +kernel, by decide +kernel⟩, by decide +kernel, by decide⟩
theorem mv_X7_emptyPlace : MVK yX7_emptyPlace := ⟨good_of (List.mem_of_getElem? (i := 757) (by decide +kernel)) (by decide +kernel), List.mem_filter.mpr ⟨List.mem_append_left _ (List.mem_of_getElem? (i := 44) (by decide +kernel)), by decide +kernel⟩⟩
theorem mf_X7_shows : MFK yX7_shows cX7_shows 3 (none) 1 := ⟨good_of (List.mem_of_getElem? (i := 3) (by decide +kernel)) (by decide +kernel), good_of (List.mem_of_getElem? (i := 794) (by decide +kernel)) (by decide +kernel), ⟨by decide +kernel, by decide +kernel⟩, by decide +kernel, by decide⟩
theorem mv_X7_shows : MVK yX7_shows := ⟨good_of (List.mem_of_getElem? (i := 793) (by decide +kernel)) (by decide +kernel), List.mem_filter.mpr ⟨List.mem_append_left _ (List.mem_of_getElem? (i := 47) (by decide +kernel)), by decide +kernel⟩⟩
theorem mf_X7_end : MFK yX7_end cX7_end 4 (none) 2 := ⟨good_of (List.mem_of_getElem? (i := 3) (by decide +kernel)) (by decide +kernel), good_of (List.mem_of_getElem? (i := 806) (by decide +kernel)) (by decide +kernel), ⟨by decide +kernel, by decide +kernel⟩, by decide +kernel, by decide⟩
theorem mv_X7_end : MVK yX7_end := ⟨good_of (List.mem_of_getElem? (i := 805) (by decide +kernel)) (by decide +kernel), List.mem_filter.mpr ⟨List.mem_append_left _ (List.mem_of_getElem? (i := 49) (by decide +kernel)), by decide +kernel⟩⟩
theorem mf_X7_pays : MFK yX7_pays cX7_pays 5 (none) 3 := ⟨good_of (List.mem_of_getElem? (i := 3) (by decide +kernel)) (by decide +kernel), good_of (List.mem_of_getElem? (i := 810) (by decide +kernel)) (by decide +kernel), ⟨by decide +kernel, by decide +kernel⟩, by decide +kernel, by decide⟩
theorem mv_X7_pays : MVK yX7_pays := ⟨good_of (List.mem_of_getElem? (i := 809) (by decide +kernel)) (by decide +kernel), List.mem_filter.mpr ⟨List.mem_append_left _ (List.mem_of_getElem? (i := 50) (by decide +kernel)), by decide +kernel⟩⟩
theorem mf_X7_canClaim : MFK yX7_canClaim cX7_canClaim 5 (some .boolean) 3 := ⟨good_of (List.mem_of_getElem? (i := 3) (by decide +kernel)) (by decide +kernel), good_of (List.mem_of_getElem? (i := 826) (by decide +kernel)) (by decide +kernel), ⟨by decide +kernel, by decide +kernel⟩, by decide +kernel, by decide⟩
theorem mv_X7_canClaim : MVK yX7_canClaim := ⟨good_of (List.mem_of_getElem? (i := 825) (by decide +kernel)) (by decide +kernel), List.mem_filter.mpr ⟨List.mem_append_left _ (List.mem_of_getElem? (i := 51) (by decide +kernel)), by decide +kernel⟩⟩
theorem mf_X7_claims : MFK yX7_claims cX7_claims 5 (some .int) 3 := ⟨good_of (List.mem_of_getElem? (i := 3) (by decide +kernel)) (by decide +kernel), good_of (List.mem_of_getElem? (i := 830) (by decide +kernel)) (by decide +kernel), ⟨by decide +kernel, by decide +kernel⟩, by decide +kernel, by decide⟩
theorem mv_X7_claims : MVK yX7_claims := ⟨good_of (List.mem_of_getElem? (i := 829) (by decide +kernel)) (by decide +kernel), List.mem_filter.mpr ⟨List.mem_append_left _ (List.mem_of_getElem? (i := 52) (by decide +kernel)), by decide +kernel⟩⟩
theorem mf_X7_wins : MFK yX7_wins cX7_wins 3 (none) 2 := ⟨good_of (List.mem_of_getElem? (i := 3) (by decide +kernel)) (by decide +kernel), good_of (List.mem_of_getElem? (i := 842) (by decide +kernel)) (by decide +kernel), ⟨by decide +kernel, by decide +kernel⟩, by decide +kernel, by decide⟩
theorem mv_X7_wins : MVK yX7_wins := ⟨good_of (List.mem_of_getElem? (i := 841) (by decide +kernel)) (by decide +kernel), List.mem_filter.mpr ⟨List.mem_append_left _ (List.mem_of_getElem? (i := 54) (by decide +kernel)), by decide +kernel⟩⟩
theorem mf_X7_steps : MFK yX7_steps cX7_steps 4 (some .int) 2 := ⟨good_of (List.mem_of_getElem? (i := 3) (by decide +kernel)) (by decide +kernel), good_of (List.mem_of_getElem? (i := 838) (by decide +kernel)) (by decide +kernel), ⟨by decide +kernel, by decide +kernel⟩, by decide +kernel, by decide⟩
theorem mv_X7_steps : MVK yX7_steps := ⟨good_of (List.mem_of_getElem? (i := 837) (by decide +kernel)) (by decide +kernel), List.mem_filter.mpr ⟨List.mem_append_left _ (List.mem_of_getElem? (i := 53) (by decide +kernel)), by decide +kernel⟩⟩
theorem mf_X7_dues : MFK yX7_dues cX7_dues 3 (none) 1 := ⟨good_of (List.mem_of_getElem? (i := 3) (by decide +kernel)) (by decide +kernel), good_of (List.mem_of_getElem? (i := 858) (by decide +kernel)) (by decide +kernel), ⟨by decide +kernel, by decide +kernel⟩, by decide +kernel, by decide⟩
theorem mv_X7_dues : MVK yX7_dues := ⟨good_of (List.mem_of_getElem? (i := 857) (by decide +kernel)) (by decide +kernel), List.mem_filter.mpr ⟨List.mem_append_left _ (List.mem_of_getElem? (i := 56) (by decide +kernel)), by decide +kernel⟩⟩
theorem mf_X7_watches : MFK yX7_watches cX7_watches 7 (none) 2 := ⟨good_of (List.mem_of_getElem? (i := 3) (by decide +kernel)) (by decide +kernel), good_of (List.mem_of_getElem? (i := 862) (by decide +kernel)) (by decide +kernel), ⟨by decide +kernel, by decide +kernel⟩, by decide +kernel, by decide⟩
theorem mv_X7_watches : MVK yX7_watches := ⟨good_of (List.mem_of_getElem? (i := 861) (by decide +kernel)) (by decide +kernel), List.mem_filter.mpr ⟨List.mem_append_left _ (List.mem_of_getElem? (i := 57) (by decide +kernel)), by decide +kernel⟩⟩
theorem mf_X7_oneMore : MFK yX7_oneMore cX7_oneMore 3 (none) 0 := ⟨good_of (List.mem_of_getElem? (i := 3) (by decide +kernel)) (by decide +kernel), good_of (List.mem_of_getElem? (i := 854) (by decide +kernel)) (by decide +kernel), ⟨by decide +kernel, by decide +kernel⟩, by decide +kernel, by decide⟩
theorem mv_X7_oneMore : MVK yX7_oneMore := ⟨good_of (List.mem_of_getElem? (i := 853) (by decide +kernel)) (by decide +kernel), List.mem_filter.mpr ⟨List.mem_append_left _ (List.mem_of_getElem? (i := 55) (by decide +kernel)), by decide +kernel⟩⟩
theorem mf_X7_channel : MFK yX7_channel cX7_channel 9 (some .int) 3 := ⟨good_of (List.mem_of_getElem? (i := 3) (by decide +kernel)) (by decide +kernel), good_of (List.mem_of_getElem? (i := 677) (by decide +kernel)) (by decide +kernel), ⟨by decide +kernel, by decide +kernel⟩, by decide +kernel, by decide⟩
theorem mv_X7_channel : MVK yX7_channel := ⟨good_of (List.mem_of_getElem? (i := 675) (by decide +kernel)) (by decide +kernel), good_of (List.mem_of_getElem? (i := 676) (by decide +kernel)) (by decide +kernel)⟩
theorem mf_X7_blank : MFK yX7_blank cX7_blank 5 (some .int) 1 := ⟨good_of (List.mem_of_getElem? (i := 3) (by decide +kernel)) (by decide +kernel), good_of (List.mem_of_getElem? (i := 690) (by decide +kernel)) (by decide +kernel), ⟨by decide +kernel, by decide +kernel⟩, by decide +kernel, by decide⟩
theorem mv_X7_blank : MVK yX7_blank := ⟨good_of (List.mem_of_getElem? (i := 689) (by decide +kernel)) (by decide +kernel), List.mem_filter.mpr ⟨List.mem_append_left _ (List.mem_of_getElem? (i := 32) (by decide +kernel)), by decide +kernel⟩⟩
theorem mf_X7_copied : MFK yX7_copied cX7_copied 6 (some .int) 1 := ⟨good_of (List.mem_of_getElem? (i := 3) (by decide +kernel)) (by decide +kernel), good_of (List.mem_of_getElem? (i := 706) (by decide +kernel)) (by decide +kernel), ⟨by decide +kernel, by decide +kernel⟩, by decide +kernel, by decide⟩
theorem mv_X7_copied : MVK yX7_copied := ⟨good_of (List.mem_of_getElem? (i := 705) (by decide +kernel)) (by decide +kernel), List.mem_filter.mpr ⟨List.mem_append_left _ (List.mem_of_getElem? (i := 35) (by decide +kernel)), by decide +kernel⟩⟩
theorem mf_X7_state : MFK yX7_state cX7_state 2 (some .int) 1 := ⟨good_of (List.mem_of_getElem? (i := 3) (by decide +kernel)) (by decide +kernel), good_of (List.mem_of_getElem? (i := 698) (by decide +kernel)) (by decide +kernel), ⟨by decide +kernel, by decide +kernel⟩, by decide +kernel, by decide⟩
theorem mv_X7_state : MVK yX7_state := ⟨good_of (List.mem_of_getElem? (i := 696) (by decide +kernel)) (by decide +kernel), good_of (List.mem_of_getElem? (i := 697) (by decide +kernel)) (by decide +kernel)⟩
theorem mf_X7_change : MFK yX7_change cX7_change 5 (some .int) 4 := ⟨good_of (List.mem_of_getElem? (i := 3) (by decide +kernel)) (by decide +kernel), good_of (List.mem_of_getElem? (i := 725) (by decide +kernel)) (by decide +kernel), ⟨by decide +kernel, by decide +kernel⟩, by decide +kernel, by decide⟩
theorem mv_X7_change : MVK yX7_change := ⟨good_of (List.mem_of_getElem? (i := 723) (by decide +kernel)) (by decide +kernel), good_of (List.mem_of_getElem? (i := 724) (by decide +kernel)) (by decide +kernel)⟩
theorem mf_X7_lock : MFK yX7_lock cX7_lock 7 (some .int) 6 := ⟨good_of (List.mem_of_getElem? (i := 3) (by decide +kernel)) (by decide +kernel), good_of (List.mem_of_getElem? (i := 753) (by decide +kernel)) (by decide +kernel), ⟨by decide +kernel, by decide +kernel⟩, by decide +kernel, by decide⟩
theorem mv_X7_lock : MVK yX7_lock := ⟨good_of (List.mem_of_getElem? (i := 751) (by decide +kernel)) (by decide +kernel), good_of (List.mem_of_getElem? (i := 752) (by decide +kernel)) (by decide +kernel)⟩
theorem mf_X7_locks : MFK yX7_locks cX7_locks 9 (some .int) 6 := ⟨good_of (List.mem_of_getElem? (i := 3) (by decide +kernel)) (by decide +kernel), good_of (List.mem_of_getElem? (i := 762) (by decide +kernel)) (by decide +kernel), ⟨by decide +kernel, by decide +kernel⟩, by decide +kernel, by decide⟩
theorem mv_X7_locks : MVK yX7_locks := ⟨good_of (List.mem_of_getElem? (i := 761) (by decide +kernel)) (by decide +kernel), List.mem_filter.mpr ⟨List.mem_append_left _ (List.mem_of_getElem? (i := 45) (by decide +kernel)), by decide +kernel⟩⟩
theorem mf_X7_isLock : MFK yX7_isLock cX7_isLock 3 (some .boolean) 2 := ⟨good_of (List.mem_of_getElem? (i := 3) (by decide +kernel)) (by decide +kernel), good_of (List.mem_of_getElem? (i := 770) (by decide +kernel)) (by decide +kernel), ⟨by decide +kernel, by decide +kernel⟩, by decide +kernel, by decide⟩
theorem mv_X7_isLock : MVK yX7_isLock := ⟨good_of (List.mem_of_getElem? (i := 769) (by decide +kernel)) (by decide +kernel), List.mem_filter.mpr ⟨List.mem_append_left _ (List.mem_of_getElem? (i := 46) (by decide +kernel)), by decide +kernel⟩⟩
theorem mf_X7_unlock : MFK yX7_unlock cX7_unlock 8 (some .int) 3 := ⟨good_of (List.mem_of_getElem? (i := 3) (by decide +kernel)) (by decide +kernel), good_of (List.mem_of_getElem? (i := 766) (by decide +kernel)) (by decide +kernel), ⟨by decide +kernel, by decide +kernel⟩, by decide +kernel, by decide⟩
theorem mv_X7_unlock : MVK yX7_unlock := ⟨good_of (List.mem_of_getElem? (i := 764) (by decide +kernel)) (by decide +kernel), good_of (List.mem_of_getElem? (i := 765) (by decide +kernel)) (by decide +kernel)⟩
theorem mf_X7_game : MFK yX7_game cX7_game 7 (some .int) 5 := ⟨good_of (List.mem_of_getElem? (i := 3) (by decide +kernel)) (by decide +kernel), good_of (List.mem_of_getElem? (i := 774) (by decide +kernel)) (by decide +kernel), ⟨by decide +kernel, by decide +kernel⟩, by decide +kernel, by decide⟩
theorem mv_X7_game : MVK yX7_game := ⟨good_of (List.mem_of_getElem? (i := 772) (by decide +kernel)) (by decide +kernel), good_of (List.mem_of_getElem? (i := 773) (by decide +kernel)) (by decide +kernel)⟩
theorem mf_X7_move : MFK yX7_move cX7_move 5 (some .int) 2 := ⟨good_of (List.mem_of_getElem? (i := 3) (by decide +kernel)) (by decide +kernel), good_of (List.mem_of_getElem? (i := 778) (by decide +kernel)) (by decide +kernel), ⟨by decide +kernel, by decide +kernel⟩, by decide +kernel, by decide⟩
theorem mv_X7_move : MVK yX7_move := ⟨good_of (List.mem_of_getElem? (i := 776) (by decide +kernel)) (by decide +kernel), good_of (List.mem_of_getElem? (i := 777) (by decide +kernel)) (by decide +kernel)⟩
theorem mf_X7_out : MFK yX7_out cX7_out 5 (some .int) 3 := ⟨good_of (List.mem_of_getElem? (i := 3) (by decide +kernel)) (by decide +kernel), good_of (List.mem_of_getElem? (i := 782) (by decide +kernel)) (by decide +kernel), ⟨by decide +kernel, by decide +kernel⟩, by decide +kernel, by decide⟩
theorem mv_X7_out : MVK yX7_out := ⟨good_of (List.mem_of_getElem? (i := 780) (by decide +kernel)) (by decide +kernel), good_of (List.mem_of_getElem? (i := 781) (by decide +kernel)) (by decide +kernel)⟩
theorem mf_X7_sign : MFK yX7_sign cX7_sign 4 (some .int) 2 := ⟨good_of (List.mem_of_getElem? (i := 3) (by decide +kernel)) (by decide +kernel), good_of (List.mem_of_getElem? (i := 786) (by decide +kernel)) (by decide +kernel), ⟨by decide +kernel, by decide +kernel⟩, by decide +kernel, by decide⟩
theorem mv_X7_sign : MVK yX7_sign := ⟨good_of (List.mem_of_getElem? (i := 784) (by decide +kernel)) (by decide +kernel), good_of (List.mem_of_getElem? (i := 785) (by decide +kernel)) (by decide +kernel)⟩
theorem mf_X7_show : MFK yX7_show cX7_show 4 (some .int) 2 := ⟨good_of (List.mem_of_getElem? (i := 3) (by decide +kernel)) (by decide +kernel), good_of (List.mem_of_getElem? (i := 790) (by decide +kernel)) (by decide +kernel), ⟨by decide +kernel, by decide +kernel⟩, by decide +kernel, by decide⟩
theorem mv_X7_show : MVK yX7_show := ⟨good_of (List.mem_of_getElem? (i := 788) (by decide +kernel)) (by decide +kernel), good_of (List.mem_of_getElem? (i := 789) (by decide +kernel)) (by decide +kernel)⟩
theorem mf_X7_agree : MFK yX7_agree cX7_agree 6 (some .int) 2 := ⟨good_of (List.mem_of_getElem? (i := 3) (by decide +kernel)) (by decide +kernel), good_of (List.mem_of_getElem? (i := 798) (by decide +kernel)) (by decide +kernel), ⟨by decide +kernel, by decide +kernel⟩, by decide +kernel, by decide⟩
theorem mv_X7_agree : MVK yX7_agree := ⟨good_of (List.mem_of_getElem? (i := 796) (by decide +kernel)) (by decide +kernel), good_of (List.mem_of_getElem? (i := 797) (by decide +kernel)) (by decide +kernel)⟩
theorem mf_X7_takesOut : MFK yX7_takesOut cX7_takesOut 6 (none) 2 := ⟨good_of (List.mem_of_getElem? (i := 3) (by decide +kernel)) (by decide +kernel), good_of (List.mem_of_getElem? (i := 802) (by decide +kernel)) (by decide +kernel), ⟨by decide +kernel, by decide +kernel⟩, by decide +kernel, by decide⟩
theorem mv_X7_takesOut : MVK yX7_takesOut := ⟨good_of (List.mem_of_getElem? (i := 801) (by decide +kernel)) (by decide +kernel), List.mem_filter.mpr ⟨List.mem_append_left _ (List.mem_of_getElem? (i := 48) (by decide +kernel)), by decide +kernel⟩⟩
theorem mf_X7_secret : MFK yX7_secret cX7_secret 2 (some .int) 1 := ⟨good_of (List.mem_of_getElem? (i := 3) (by decide +kernel)) (by decide +kernel), good_of (List.mem_of_getElem? (i := 814) (by decide +kernel)) (by decide +kernel), ⟨by decide +kernel, by decide +kernel⟩, by decide +kernel, by decide⟩
theorem mv_X7_secret : MVK yX7_secret := ⟨good_of (List.mem_of_getElem? (i := 812) (by decide +kernel)) (by decide +kernel), good_of (List.mem_of_getElem? (i := 813) (by decide +kernel)) (by decide +kernel)⟩
theorem mf_X7_tell : MFK yX7_tell cX7_tell 5 (some .int) 3 := ⟨good_of (List.mem_of_getElem? (i := 3) (by decide +kernel)) (by decide +kernel), good_of (List.mem_of_getElem? (i := 818) (by decide +kernel)) (by decide +kernel), ⟨by decide +kernel, by decide +kernel⟩, by decide +kernel, by decide⟩
theorem mv_X7_tell : MVK yX7_tell := ⟨good_of (List.mem_of_getElem? (i := 816) (by decide +kernel)) (by decide +kernel), good_of (List.mem_of_getElem? (i := 817) (by decide +kernel)) (by decide +kernel)⟩
theorem mf_X7_claim : MFK yX7_claim cX7_claim 4 (some .int) 3 := ⟨good_of (List.mem_of_getElem? (i := 3) (by decide +kernel)) (by decide +kernel), good_of (List.mem_of_getElem? (i := 822) (by decide +kernel)) (by decide +kernel), ⟨by decide +kernel, by decide +kernel⟩, by decide +kernel, by decide⟩
theorem mv_X7_claim : MVK yX7_claim := ⟨good_of (List.mem_of_getElem? (i := 820) (by decide +kernel)) (by decide +kernel), good_of (List.mem_of_getElem? (i := 821) (by decide +kernel)) (by decide +kernel)⟩
theorem mf_X7_step : MFK yX7_step cX7_step 4 (some .int) 3 := ⟨good_of (List.mem_of_getElem? (i := 3) (by decide +kernel)) (by decide +kernel), good_of (List.mem_of_getElem? (i := 834) (by decide +kernel)) (by decide +kernel), ⟨by decide +kernel, by decide +kernel⟩, by decide +kernel, by decide⟩
theorem mv_X7_step : MVK yX7_step := ⟨good_of (List.mem_of_getElem? (i := 832) (by decide +kernel)) (by decide +kernel), good_of (List.mem_of_getElem? (i := 833) (by decide +kernel)) (by decide +kernel)⟩
theorem mf_X7_watch : MFK yX7_watch cX7_watch 4 (some .int) 2 := ⟨good_of (List.mem_of_getElem? (i := 3) (by decide +kernel)) (by decide +kernel), good_of (List.mem_of_getElem? (i := 846) (by decide +kernel)) (by decide +kernel), ⟨by decide +kernel, by decide +kernel⟩, by decide +kernel, by decide⟩
theorem mv_X7_watch : MVK yX7_watch := ⟨good_of (List.mem_of_getElem? (i := 844) (by decide +kernel)) (by decide +kernel), good_of (List.mem_of_getElem? (i := 845) (by decide +kernel)) (by decide +kernel)⟩
theorem mf_X7_height : MFK yX7_height cX7_height 3 (some .int) 1 := ⟨good_of (List.mem_of_getElem? (i := 3) (by decide +kernel)) (by decide +kernel), good_of (List.mem_of_getElem? (i := 850) (by decide +kernel)) (by decide +kernel), ⟨by decide +kernel, by decide +kernel⟩, by decide +kernel, by decide⟩
theorem mv_X7_height : MVK yX7_height := ⟨good_of (List.mem_of_getElem? (i := 848) (by decide +kernel)) (by decide +kernel), good_of (List.mem_of_getElem? (i := 849) (by decide +kernel)) (by decide +kernel)⟩
theorem mf_X7_hop : MFK yX7_hop cX7_hop 6 (some .int) 3 := ⟨good_of (List.mem_of_getElem? (i := 3) (by decide +kernel)) (by decide +kernel), good_of (List.mem_of_getElem? (i := 866) (by decide +kernel)) (by decide +kernel), ⟨by decide +kernel, by decide +kernel⟩, by decide +kernel, by decide⟩
theorem mv_X7_hop : MVK yX7_hop := ⟨good_of (List.mem_of_getElem? (i := 864) (by decide +kernel)) (by decide +kernel), good_of (List.mem_of_getElem? (i := 865) (by decide +kernel)) (by decide +kernel)⟩
theorem mf_X7_pay : MFK yX7_pay cX7_pay 11 (some .int) 2 := ⟨good_of (List.mem_of_getElem? (i := 3) (by decide +kernel)) (by decide +kernel), good_of (List.mem_of_getElem? (i := 870) (by decide +kernel)) (by decide +kernel), ⟨by decide +kernel, by decide +kernel⟩, by decide +kernel, by decide⟩
theorem mv_X7_pay : MVK yX7_pay := ⟨good_of (List.mem_of_getElem? (i := 868) (by decide +kernel)) (by decide +kernel), good_of (List.mem_of_getElem? (i := 869) (by decide +kernel)) (by decide +kernel)⟩
theorem mf_X7_account : MFK yX7_account cX7_account 2 (some .int) 1 := ⟨good_of (List.mem_of_getElem? (i := 3) (by decide +kernel)) (by decide +kernel), good_of (List.mem_of_getElem? (i := 875) (by decide +kernel)) (by decide +kernel), ⟨by decide +kernel, by decide +kernel⟩, by decide +kernel, by decide⟩
theorem mv_X7_account : MVK yX7_account := ⟨good_of (List.mem_of_getElem? (i := 873) (by decide +kernel)) (by decide +kernel), good_of (List.mem_of_getElem? (i := 874) (by decide +kernel)) (by decide +kernel)⟩
theorem mf_X7_told : MFK yX7_told cX7_told 4 (some .int) 2 := ⟨good_of (List.mem_of_getElem? (i := 3) (by decide +kernel)) (by decide +kernel), good_of (List.mem_of_getElem? (i := 879) (by decide +kernel)) (by decide +kernel), ⟨by decide +kernel, by decide +kernel⟩, by decide +kernel, by decide⟩
theorem mv_X7_told : MVK yX7_told := ⟨good_of (List.mem_of_getElem? (i := 877) (by decide +kernel)) (by decide +kernel), good_of (List.mem_of_getElem? (i := 878) (by decide +kernel)) (by decide +kernel)⟩
theorem mf_X7_of : MFK yX7_of cX7_of 4 (some .int) 2 := ⟨good_of (List.mem_of_getElem? (i := 3) (by decide +kernel)) (by decide +kernel), good_of (List.mem_of_getElem? (i := 883) (by decide +kernel)) (by decide +kernel), ⟨by decide +kernel, by decide +kernel⟩, by decide +kernel, by decide⟩
theorem mv_X7_of : MVK yX7_of := ⟨good_of (List.mem_of_getElem? (i := 881) (by decide +kernel)) (by decide +kernel), good_of (List.mem_of_getElem? (i := 882) (by decide +kernel)) (by decide +kernel)⟩
theorem mf_X7_share : MFK yX7_share cX7_share 4 (some .int) 3 := ⟨good_of (List.mem_of_getElem? (i := 3) (by decide +kernel)) (by decide +kernel), good_of (List.mem_of_getElem? (i := 887) (by decide +kernel)) (by decide +kernel), ⟨by decide +kernel, by decide +kernel⟩, by decide +kernel, by decide⟩
theorem mv_X7_share : MVK yX7_share := ⟨good_of (List.mem_of_getElem? (i := 885) (by decide +kernel)) (by decide +kernel), good_of (List.mem_of_getElem? (i := 886) (by decide +kernel)) (by decide +kernel)⟩
theorem mf_X7_locked : MFK yX7_locked cX7_locked 5 (some .int) 3 := ⟨good_of (List.mem_of_getElem? (i := 3) (by decide +kernel)) (by decide +kernel), good_of (List.mem_of_getElem? (i := 891) (by decide +kernel)) (by decide +kernel), ⟨by decide +kernel, by decide +kernel⟩, by decide +kernel, by decide⟩
theorem mv_X7_locked : MVK yX7_locked := ⟨good_of (List.mem_of_getElem? (i := 889) (by decide +kernel)) (by decide +kernel), good_of (List.mem_of_getElem? (i := 890) (by decide +kernel)) (by decide +kernel)⟩
theorem mf_X7_knows : MFK yX7_knows cX7_knows 2 (some .int) 1 := ⟨good_of (List.mem_of_getElem? (i := 3) (by decide +kernel)) (by decide +kernel), good_of (List.mem_of_getElem? (i := 895) (by decide +kernel)) (by decide +kernel), ⟨by decide +kernel, by decide +kernel⟩, by decide +kernel, by decide⟩
theorem mv_X7_knows : MVK yX7_knows := ⟨good_of (List.mem_of_getElem? (i := 893) (by decide +kernel)) (by decide +kernel), good_of (List.mem_of_getElem? (i := 894) (by decide +kernel)) (by decide +kernel)⟩
theorem mf_X7_count : MFK yX7_count cX7_count 2 (some .int) 1 := ⟨good_of (List.mem_of_getElem? (i := 3) (by decide +kernel)) (by decide +kernel), good_of (List.mem_of_getElem? (i := 899) (by decide +kernel)) (by decide +kernel), ⟨by decide +kernel, by decide +kernel⟩, by decide +kernel, by decide⟩
theorem mv_X7_count : MVK yX7_count := ⟨good_of (List.mem_of_getElem? (i := 897) (by decide +kernel)) (by decide +kernel), good_of (List.mem_of_getElem? (i := 898) (by decide +kernel)) (by decide +kernel)⟩
theorem mf_X7_all : MFK yX7_all cX7_all 3 (some .int) 0 := ⟨good_of (List.mem_of_getElem? (i := 3) (by decide +kernel)) (by decide +kernel), good_of (List.mem_of_getElem? (i := 903) (by decide +kernel)) (by decide +kernel), ⟨by decide +kernel, by decide +kernel⟩, by decide +kernel, by decide⟩
theorem mv_X7_all : MVK yX7_all := ⟨good_of (List.mem_of_getElem? (i := 902) (by decide +kernel)) (by decide +kernel), List.mem_filter.mpr ⟨List.mem_append_left _ (List.mem_of_getElem? (i := 58) (by decide +kernel)), by decide +kernel⟩⟩
theorem mf_J6_bitCount_0f7a4 : MFK yJ6_bitCount_0f7a4 cJ6_bitCount_0f7a4 1 (some .int) 1 := ⟨good_of (List.mem_of_getElem? (i := 4) (by decide +kernel)) (by decide +kernel), good_of (List.mem_of_getElem? (i := 82) (by decide +kernel)) (by decide +kernel), ⟨by decide +kernel, by decide +kernel⟩, by decide +kernel, by decide⟩
theorem mv_J6_bitCount_0f7a4 : Cond.static yJ6_bitCount_0f7a4 ∈ lw_good := good_of (List.mem_of_getElem? (i := 81) (by decide +kernel)) (by decide +kernel)
theorem nw_L_7 : NWK RL 7 6 [.null, .null, .null, .null, .null, .int 0, .int 0, .int 0, .int 0, .int 0, .int 0] := ⟨_, _, _, rfl, rfl, ⟨tyX6, tyX6_ok, by decide +kernel⟩, good_of (List.mem_of_getElem? (i := 10) (by decide +kernel)) (by decide +kernel), good_of (List.mem_of_getElem? (i := 11) (by decide +kernel)) (by decide +kernel), good_of (List.mem_of_getElem? (i := 1) (by decide +kernel)) (by decide +kernel)⟩
theorem nw_X6_7 : NWK RX6 7 5 [.null] := ⟨_, _, _, rfl, rfl, ⟨tyX5, tyX5_ok, by decide +kernel⟩, good_of (List.mem_of_getElem? (i := 18) (by decide +kernel)) (by decide +kernel), good_of (List.mem_of_getElem? (i := 19) (by decide +kernel)) (by decide +kernel), good_of (List.mem_of_getElem? (i := 2) (by decide +kernel)) (by decide +kernel)⟩
theorem nw_X6_16 : NWK RX6 16 0 [.int 0, .int 0, .int 0, .int 0, .int 0, .int 0, .null, .null, .int 0, .int 0, .null, .int 0] := ⟨_, _, _, rfl, rfl, ⟨tyX0, tyX0_ok, by decide +kernel⟩, good_of (List.mem_of_getElem? (i := 29) (by decide +kernel)) (by decide +kernel), good_of (List.mem_of_getElem? (i := 101) (by decide +kernel)) (by decide +kernel), good_of (List.mem_of_getElem? (i := 5) (by decide +kernel)) (by decide +kernel)⟩
theorem nr_X6_16 : NRK RX6 16 1 := ⟨_, rfl, good_of (List.mem_of_getElem? (i := 29) (by decide +kernel)) (by decide +kernel)⟩
theorem nw_X6_22 : NWK RX6 22 4 [.int 0, .null, .int 0, .null, .null, .null, .null, .int 0, .int 0] := ⟨_, _, _, rfl, rfl, ⟨tyX4, tyX4_ok, by decide +kernel⟩, good_of (List.mem_of_getElem? (i := 31) (by decide +kernel)) (by decide +kernel), good_of (List.mem_of_getElem? (i := 159) (by decide +kernel)) (by decide +kernel), good_of (List.mem_of_getElem? (i := 6) (by decide +kernel)) (by decide +kernel)⟩
theorem nr_X6_22 : NRK RX6 22 4 := ⟨_, rfl, good_of (List.mem_of_getElem? (i := 31) (by decide +kernel)) (by decide +kernel)⟩
theorem nw_X6_32 : NWK RX6 32 2 [.null, .int 0, .int 0] := ⟨_, _, _, rfl, rfl, ⟨tyX2, tyX2_ok, by decide +kernel⟩, good_of (List.mem_of_getElem? (i := 33) (by decide +kernel)) (by decide +kernel), good_of (List.mem_of_getElem? (i := 518) (by decide +kernel)) (by decide +kernel), good_of (List.mem_of_getElem? (i := 9) (by decide +kernel)) (by decide +kernel)⟩
theorem nr_X6_32 : NRK RX6 32 2 := ⟨_, rfl, good_of (List.mem_of_getElem? (i := 33) (by decide +kernel)) (by decide +kernel)⟩
theorem nw_X4_9 : NWK RX4 9 5 [.null] := ⟨_, _, _, rfl, rfl, ⟨tyX5, tyX5_ok, by decide +kernel⟩, good_of (List.mem_of_getElem? (i := 164) (by decide +kernel)) (by decide +kernel), good_of (List.mem_of_getElem? (i := 19) (by decide +kernel)) (by decide +kernel), good_of (List.mem_of_getElem? (i := 2) (by decide +kernel)) (by decide +kernel)⟩
theorem nr_X4_21 : NRK RX4 21 3 := ⟨_, rfl, good_of (List.mem_of_getElem? (i := 166) (by decide +kernel)) (by decide +kernel)⟩
theorem nw_X6_144 : NWK RX6 144 3 [.int 0, .int 0, .int 0, .int 0, .int 0] := ⟨_, _, _, rfl, rfl, ⟨tyX3, tyX3_ok, by decide +kernel⟩, good_of (List.mem_of_getElem? (i := 271) (by decide +kernel)) (by decide +kernel), good_of (List.mem_of_getElem? (i := 272) (by decide +kernel)) (by decide +kernel), good_of (List.mem_of_getElem? (i := 7) (by decide +kernel)) (by decide +kernel)⟩
theorem nw_X6_174 : NWK RX6 174 1 [.int 0, .int 0, .int 0, .int 0] := ⟨_, _, _, rfl, rfl, ⟨tyX1, tyX1_ok, by decide +kernel⟩, good_of (List.mem_of_getElem? (i := 319) (by decide +kernel)) (by decide +kernel), good_of (List.mem_of_getElem? (i := 320) (by decide +kernel)) (by decide +kernel), good_of (List.mem_of_getElem? (i := 8) (by decide +kernel)) (by decide +kernel)⟩
theorem nw_X1_8 : NWK RX1 8 1 [.int 0, .int 0, .int 0, .int 0] := ⟨_, _, _, rfl, rfl, ⟨tyX1, tyX1_ok, by decide +kernel⟩, good_of (List.mem_of_getElem? (i := 351) (by decide +kernel)) (by decide +kernel), good_of (List.mem_of_getElem? (i := 320) (by decide +kernel)) (by decide +kernel), good_of (List.mem_of_getElem? (i := 8) (by decide +kernel)) (by decide +kernel)⟩
theorem nw_L_10 : NWK RL 10 7 [.null, .int 0, .int 0, .int 0, .null, .int 0, .null, .null, .null, .null, .null, .null, .null, .null, .null, .null, .null, .null, .int 0, .null, .int 0, .null, .null, .null] := ⟨_, _, _, rfl, rfl, ⟨tyX7, tyX7_ok, by decide +kernel⟩, good_of (List.mem_of_getElem? (i := 595) (by decide +kernel)) (by decide +kernel), good_of (List.mem_of_getElem? (i := 596) (by decide +kernel)) (by decide +kernel), good_of (List.mem_of_getElem? (i := 3) (by decide +kernel)) (by decide +kernel)⟩
theorem ac_int : Cond.arrayClass .int ∈ lw_good := good_of (List.mem_of_getElem? (i := 28) (by decide +kernel)) (by decide +kernel)
