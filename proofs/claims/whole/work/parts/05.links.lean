theorem in_P : ∀ w ∈ u_ws R_P F_P 6, w ∈ TG := by
  intro w hw
  obtain ⟨k, hk, rfl⟩ := List.mem_map.mp hw
  have hk := List.mem_range.mp hk
  rcases (show k = 0 ∨ k = 1 ∨ k = 2 ∨ k = 3 ∨ k = 4 ∨ k = 5 by omega) with rfl | rfl | rfl | rfl | rfl | rfl
  · exact (tg_in (List.mem_append_right _ (List.mem_of_getElem? (i := 67) rfl)) rfl)
  · exact (tg_in (List.mem_append_right _ (List.mem_of_getElem? (i := 69) rfl)) rfl)
  · exact (tg_in (List.mem_append_right _ (List.mem_of_getElem? (i := 71) rfl)) rfl)
  · exact (tg_in (List.mem_append_right _ (List.mem_of_getElem? (i := 73) rfl)) rfl)
  · exact (tg_in (List.mem_append_right _ (List.mem_of_getElem? (i := 75) rfl)) rfl)
  · exact (tg_in (List.mem_append_right _ (List.mem_of_getElem? (i := 77) rfl)) rfl)
theorem in_D : ∀ w ∈ u_ws R_D F_D 5, w ∈ TG := by
  intro w hw
  obtain ⟨k, hk, rfl⟩ := List.mem_map.mp hw
  have hk := List.mem_range.mp hk
  rcases (show k = 0 ∨ k = 1 ∨ k = 2 ∨ k = 3 ∨ k = 4 by omega) with rfl | rfl | rfl | rfl | rfl
  · exact (tg_in (List.mem_append_right _ (List.mem_of_getElem? (i := 30) rfl)) rfl)
  · exact (tg_in (List.mem_append_right _ (List.mem_of_getElem? (i := 32) rfl)) rfl)
  · exact (tg_in (List.mem_append_right _ (List.mem_of_getElem? (i := 34) rfl)) rfl)
  · exact (tg_in (List.mem_append_right _ (List.mem_of_getElem? (i := 36) rfl)) rfl)
  · exact (tg_in (List.mem_append_right _ (List.mem_of_getElem? (i := 38) rfl)) rfl)
theorem in_V : ∀ w ∈ u_ws R_V F_V 3, w ∈ TG := by
  intro w hw
  obtain ⟨k, hk, rfl⟩ := List.mem_map.mp hw
  have hk := List.mem_range.mp hk
  rcases (show k = 0 ∨ k = 1 ∨ k = 2 by omega) with rfl | rfl | rfl
  · exact (tg_in (List.mem_append_right _ (List.mem_of_getElem? (i := 52) rfl)) rfl)
  · exact (tg_in (List.mem_append_right _ (List.mem_of_getElem? (i := 54) rfl)) rfl)
  · exact (tg_in (List.mem_append_right _ (List.mem_of_getElem? (i := 56) rfl)) rfl)
theorem in_M : ∀ w ∈ u_ws R_M F_M 10, w ∈ TG := by
  intro w hw
  obtain ⟨k, hk, rfl⟩ := List.mem_map.mp hw
  have hk := List.mem_range.mp hk
  rcases (show k = 0 ∨ k = 1 ∨ k = 2 ∨ k = 3 ∨ k = 4 ∨ k = 5 ∨ k = 6 ∨ k = 7 ∨ k = 8 ∨ k = 9 by omega) with rfl | rfl | rfl | rfl | rfl | rfl | rfl | rfl | rfl | rfl
  · exact (tg_in (List.mem_append_right _ (List.mem_of_getElem? (i := 245) rfl)) rfl)
  · exact (tg_in (List.mem_append_right _ (List.mem_of_getElem? (i := 247) rfl)) rfl)
  · exact (tg_in (List.mem_append_right _ (List.mem_of_getElem? (i := 249) rfl)) rfl)
  · exact (tg_in (List.mem_append_right _ (List.mem_of_getElem? (i := 251) rfl)) rfl)
  · exact (tg_in (List.mem_append_right _ (List.mem_of_getElem? (i := 253) rfl)) rfl)
  · exact (tg_in (List.mem_append_right _ (List.mem_of_getElem? (i := 255) rfl)) rfl)
  · exact (tg_in (List.mem_append_right _ (List.mem_of_getElem? (i := 257) rfl)) rfl)
  · exact (tg_in (List.mem_append_right _ (List.mem_of_getElem? (i := 259) rfl)) rfl)
  · exact (tg_in (List.mem_append_right _ (List.mem_of_getElem? (i := 261) rfl)) rfl)
  · exact (tg_in (List.mem_append_right _ (List.mem_of_getElem? (i := 263) rfl)) rfl)
theorem kf_D_23 : Cond.fieldLink R_D 23 "PostDrawer$Drawing" "count" "I" ∈ TG := (tg_in (List.mem_append_right _ (List.mem_of_getElem? (i := 26) rfl)) rfl)
theorem kc_D_46 : CV R_D 46 R_D y_D_has b_D_has 2 (some .boolean) 1 := ⟨(tg_in (List.mem_append_right _ (List.mem_of_getElem? (i := 120) rfl)) rfl), (tg_in (List.mem_append_right _ (List.mem_of_getElem? (i := 121) rfl)) rfl), (tg_in (List.mem_append_right _ (List.mem_of_getElem? (i := 122) rfl)) rfl), (tg_in (List.mem_append_right _ (List.mem_of_getElem? (i := 2) rfl)) rfl), (tg_in (List.mem_append_right _ (List.mem_of_getElem? (i := 123) rfl)) rfl), rfl, by decide +kernel, by decide +kernel, by decide +kernel⟩
theorem kf_D_26 : Cond.fieldLink R_D 26 "PostDrawer$Drawing" "faultBits" "I" ∈ TG := (tg_in (List.mem_append_right _ (List.mem_of_getElem? (i := 28) rfl)) rfl)
theorem kf_D_9 : Cond.fieldLink R_D 9 "PostDrawer$Drawing" "numbers" "[J" ∈ TG := (tg_in (List.mem_append_right _ (List.mem_of_getElem? (i := 21) rfl)) rfl)
theorem kl_D_50 : Cond.constantLong R_D 50 2 ∈ TG := (tg_in (List.mem_append_right _ (List.mem_of_getElem? (i := 146) rfl)) rfl)
theorem kl_D_52 : Cond.constantLong R_D 52 50 ∈ TG := (tg_in (List.mem_append_right _ (List.mem_of_getElem? (i := 147) rfl)) rfl)
theorem kl_D_54 : Cond.constantLong R_D 54 1000 ∈ TG := (tg_in (List.mem_append_right _ (List.mem_of_getElem? (i := 148) rfl)) rfl)
theorem kl_D_56 : Cond.constantLong R_D 56 24 ∈ TG := (tg_in (List.mem_append_right _ (List.mem_of_getElem? (i := 149) rfl)) rfl)
theorem kl_D_68 : Cond.constantLong R_D 68 (-9223372036854775808) ∈ TG := (tg_in (List.mem_append_right _ (List.mem_of_getElem? (i := 124) rfl)) rfl)
theorem kl_P_123 : Cond.constantLong R_P 123 64 ∈ TG := (tg_in (List.mem_append_right _ (List.mem_of_getElem? (i := 104) rfl)) rfl)
theorem kl_P_125 : Cond.constantLong R_P 125 (-7046029254386353131) ∈ TG := (tg_in (List.mem_append_right _ (List.mem_of_getElem? (i := 105) rfl)) rfl)
theorem kl_P_127 : Cond.constantLong R_P 127 (-4658895280553007687) ∈ TG := (tg_in (List.mem_append_right _ (List.mem_of_getElem? (i := 106) rfl)) rfl)
theorem kl_P_129 : Cond.constantLong R_P 129 (-7723592293110705685) ∈ TG := (tg_in (List.mem_append_right _ (List.mem_of_getElem? (i := 107) rfl)) rfl)
theorem kc_D_62 : CV R_D 62 R_D y_D_isAbove b_D_isAbove 7 (some .boolean) 2 := ⟨(tg_in (List.mem_append_right _ (List.mem_of_getElem? (i := 116) rfl)) rfl), (tg_in (List.mem_append_right _ (List.mem_of_getElem? (i := 118) rfl)) rfl), (tg_in (List.mem_append_left _ (by decide +kernel)) rfl), (tg_in (List.mem_append_right _ (List.mem_of_getElem? (i := 2) rfl)) rfl), (tg_in (List.mem_append_right _ (List.mem_of_getElem? (i := 119) rfl)) rfl), rfl, by decide +kernel, by decide +kernel, by decide +kernel⟩
theorem kc_D_58 : CV R_D 58 R_D y_D_countAbove b_D_countAbove 4 (some .int) 1 := ⟨(tg_in (List.mem_append_right _ (List.mem_of_getElem? (i := 112) rfl)) rfl), (tg_in (List.mem_append_right _ (List.mem_of_getElem? (i := 114) rfl)) rfl), (tg_in (List.mem_append_left _ (by decide +kernel)) rfl), (tg_in (List.mem_append_right _ (List.mem_of_getElem? (i := 2) rfl)) rfl), (tg_in (List.mem_append_right _ (List.mem_of_getElem? (i := 115) rfl)) rfl), rfl, by decide +kernel, by decide +kernel, by decide +kernel⟩
theorem kf_V_19 : Cond.fieldLink R_V 19 "PostDrawer$Verdicts" "count" "I" ∈ TG := (tg_in (List.mem_append_right _ (List.mem_of_getElem? (i := 50) rfl)) rfl)
theorem kf_V_9 : Cond.fieldLink R_V 9 "PostDrawer$Verdicts" "sets" "[I" ∈ TG := (tg_in (List.mem_append_right _ (List.mem_of_getElem? (i := 48) rfl)) rfl)
theorem kc_V_23 : CV R_V 23 R_V y_V_find b_V_find 3 (some .int) 1 := ⟨(tg_in (List.mem_append_right _ (List.mem_of_getElem? (i := 177) rfl)) rfl), (tg_in (List.mem_append_right _ (List.mem_of_getElem? (i := 179) rfl)) rfl), (tg_in (List.mem_append_left _ (by decide +kernel)) rfl), (tg_in (List.mem_append_right _ (List.mem_of_getElem? (i := 3) rfl)) rfl), (tg_in (List.mem_append_right _ (List.mem_of_getElem? (i := 180) rfl)) rfl), rfl, by decide +kernel, by decide +kernel, by decide +kernel⟩
theorem kf_V_15 : Cond.fieldLink R_V 15 "PostDrawer$Verdicts" "stays" "[Z" ∈ TG := (tg_in (List.mem_append_right _ (List.mem_of_getElem? (i := 49) rfl)) rfl)
theorem kf_D_15 : Cond.fieldLink R_D 15 "PostDrawer$Drawing" "seed" "J" ∈ TG := (tg_in (List.mem_append_right _ (List.mem_of_getElem? (i := 22) rfl)) rfl)
theorem kf_D_19 : Cond.fieldLink R_D 19 "PostDrawer$Drawing" "kind" "I" ∈ TG := (tg_in (List.mem_append_right _ (List.mem_of_getElem? (i := 24) rfl)) rfl)
theorem km_D_29 : Cond.methodLink R_D 29 Lib.Math.min.name ∈ TG := (tg_in (List.mem_append_right _ (List.mem_of_getElem? (i := 95) rfl)) rfl)
theorem kms_min : Cond.static Lib.Math.min.name ∈ TG := (tg_in (List.mem_append_right _ (List.mem_of_getElem? (i := 96) rfl)) rfl)
theorem kmi : Cond.initialized "java/lang/Math" ∈ TG := (tg_in (List.mem_append_right _ (List.mem_of_getElem? (i := 5) rfl)) rfl)
theorem kmc_min : Cond.code Lib.Math.min.name Lib.Math.min.code 2 (some .int) ∈ TG := (tg_in (List.mem_append_right _ (List.mem_of_getElem? (i := 97) rfl)) rfl)
theorem km_D_35 : Cond.methodLink R_D 35 Lib.Math.max.name ∈ TG := (tg_in (List.mem_append_right _ (List.mem_of_getElem? (i := 98) rfl)) rfl)
theorem kms_max : Cond.static Lib.Math.max.name ∈ TG := (tg_in (List.mem_append_right _ (List.mem_of_getElem? (i := 99) rfl)) rfl)
theorem kmc_max : Cond.code Lib.Math.max.name Lib.Math.max.code 2 (some .int) ∈ TG := (tg_in (List.mem_append_right _ (List.mem_of_getElem? (i := 100) rfl)) rfl)
theorem kc_D_42 : CV R_D 42 R_D y_D_greaterHalf b_D_greaterHalf 3 (some .int) 0 := ⟨(tg_in (List.mem_append_right _ (List.mem_of_getElem? (i := 108) rfl)) rfl), (tg_in (List.mem_append_right _ (List.mem_of_getElem? (i := 110) rfl)) rfl), (tg_in (List.mem_append_left _ (by decide +kernel)) rfl), (tg_in (List.mem_append_right _ (List.mem_of_getElem? (i := 2) rfl)) rfl), (tg_in (List.mem_append_right _ (List.mem_of_getElem? (i := 111) rfl)) rfl), rfl, by decide +kernel, by decide +kernel, by decide +kernel⟩
theorem kc_D_38 : CNS R_D 38 y_P_number "PostDrawer" b_P_number 6 (some .long) 3 := ⟨(List.mem_append_right _ (List.mem_of_getElem? (i := 101) rfl)), (tg_in (List.mem_append_right _ (List.mem_of_getElem? (i := 102) rfl)) rfl), (tg_in (List.mem_append_right _ (List.mem_of_getElem? (i := 1) rfl)) rfl), (tg_in (List.mem_append_right _ (List.mem_of_getElem? (i := 103) rfl)) rfl), by decide +kernel, by decide +kernel, by decide +kernel⟩
theorem kf_P_7 : Cond.fieldLink R_P 7 "PostDrawer" "nextSeed" "J" ∈ TG := (tg_in (List.mem_append_right _ (List.mem_of_getElem? (i := 65) rfl)) rfl)
theorem kf_P_20 : Cond.fieldLink R_P 20 "PostDrawer" "drawn" "LPostDrawer$Drawing;" ∈ TG := (tg_in (List.mem_append_right _ (List.mem_of_getElem? (i := 61) rfl)) rfl)
theorem kc_P_55 : CV R_P 55 R_D y_D_has b_D_has 2 (some .boolean) 1 := ⟨(tg_in (List.mem_append_right _ (List.mem_of_getElem? (i := 137) rfl)) rfl), (tg_in (List.mem_append_right _ (List.mem_of_getElem? (i := 121) rfl)) rfl), (tg_in (List.mem_append_right _ (List.mem_of_getElem? (i := 122) rfl)) rfl), (tg_in (List.mem_append_right _ (List.mem_of_getElem? (i := 2) rfl)) rfl), (tg_in (List.mem_append_right _ (List.mem_of_getElem? (i := 123) rfl)) rfl), rfl, by decide +kernel, by decide +kernel, by decide +kernel⟩
theorem kc_P_62 : CV R_P 62 R_D y_D_fact b_D_fact 5 (some .int) 2 := ⟨(tg_in (List.mem_append_right _ (List.mem_of_getElem? (i := 142) rfl)) rfl), (tg_in (List.mem_append_right _ (List.mem_of_getElem? (i := 143) rfl)) rfl), (tg_in (List.mem_append_right _ (List.mem_of_getElem? (i := 144) rfl)) rfl), (tg_in (List.mem_append_right _ (List.mem_of_getElem? (i := 2) rfl)) rfl), (tg_in (List.mem_append_right _ (List.mem_of_getElem? (i := 145) rfl)) rfl), rfl, by decide +kernel, by decide +kernel, by decide +kernel⟩
theorem kc_P_59 : CV R_P 59 R_D y_D_hasFaults b_D_hasFaults 2 (some .boolean) 1 := ⟨(tg_in (List.mem_append_right _ (List.mem_of_getElem? (i := 138) rfl)) rfl), (tg_in (List.mem_append_right _ (List.mem_of_getElem? (i := 139) rfl)) rfl), (tg_in (List.mem_append_right _ (List.mem_of_getElem? (i := 140) rfl)) rfl), (tg_in (List.mem_append_right _ (List.mem_of_getElem? (i := 2) rfl)) rfl), (tg_in (List.mem_append_right _ (List.mem_of_getElem? (i := 141) rfl)) rfl), rfl, by decide +kernel, by decide +kernel, by decide +kernel⟩
theorem kn_P_66 : Cond.fieldLinkNest R_P 66 "PostDrawer$Drawing" "kind" "I" "PostDrawer" ∈ lw_tbl := (List.mem_append_right _ (List.mem_of_getElem? (i := 25) rfl))
theorem kf_P_13 : Cond.fieldLink R_P 13 "PostDrawer" "leftBits" "I" ∈ TG := (tg_in (List.mem_append_right _ (List.mem_of_getElem? (i := 66) rfl)) rfl)
theorem kf_P_33 : Cond.fieldLink R_P 33 "PostDrawer" "verdicts" "LPostDrawer$Verdicts;" ∈ TG := (tg_in (List.mem_append_right _ (List.mem_of_getElem? (i := 62) rfl)) rfl)
theorem kc_P_89 : CV R_P 89 R_V y_V_stayFor b_V_stayFor 3 (some .boolean) 1 := ⟨(tg_in (List.mem_append_right _ (List.mem_of_getElem? (i := 185) rfl)) rfl), (tg_in (List.mem_append_right _ (List.mem_of_getElem? (i := 186) rfl)) rfl), (tg_in (List.mem_append_right _ (List.mem_of_getElem? (i := 187) rfl)) rfl), (tg_in (List.mem_append_right _ (List.mem_of_getElem? (i := 3) rfl)) rfl), (tg_in (List.mem_append_right _ (List.mem_of_getElem? (i := 188) rfl)) rfl), rfl, by decide +kernel, by decide +kernel, by decide +kernel⟩
theorem kc_P_80 : CV R_P 80 R_D y_D_isEmpty b_D_isEmpty 1 (some .boolean) 0 := ⟨(tg_in (List.mem_append_right _ (List.mem_of_getElem? (i := 169) rfl)) rfl), (tg_in (List.mem_append_right _ (List.mem_of_getElem? (i := 170) rfl)) rfl), (tg_in (List.mem_append_right _ (List.mem_of_getElem? (i := 171) rfl)) rfl), (tg_in (List.mem_append_right _ (List.mem_of_getElem? (i := 2) rfl)) rfl), (tg_in (List.mem_append_right _ (List.mem_of_getElem? (i := 172) rfl)) rfl), rfl, by decide +kernel, by decide +kernel, by decide +kernel⟩
theorem kc_P_101 : CV R_P 101 R_P y_P_canLeaveOut b_P_canLeaveOut 3 (some .boolean) 1 := ⟨(tg_in (List.mem_append_right _ (List.mem_of_getElem? (i := 197) rfl)) rfl), (tg_in (List.mem_append_right _ (List.mem_of_getElem? (i := 199) rfl)) rfl), (tg_in (List.mem_append_left _ (by decide +kernel)) rfl), (tg_in (List.mem_append_right _ (List.mem_of_getElem? (i := 1) rfl)) rfl), (tg_in (List.mem_append_right _ (List.mem_of_getElem? (i := 200) rfl)) rfl), rfl, by decide +kernel, by decide +kernel, by decide +kernel⟩
theorem kc_P_108 : CV R_P 108 R_P y_P_goThrough b_P_goThrough 2 none 0 := ⟨(tg_in (List.mem_append_right _ (List.mem_of_getElem? (i := 193) rfl)) rfl), (tg_in (List.mem_append_right _ (List.mem_of_getElem? (i := 195) rfl)) rfl), (tg_in (List.mem_append_left _ (by decide +kernel)) rfl), (tg_in (List.mem_append_right _ (List.mem_of_getElem? (i := 1) rfl)) rfl), (tg_in (List.mem_append_right _ (List.mem_of_getElem? (i := 196) rfl)) rfl), rfl, by decide +kernel, by decide +kernel, by decide +kernel⟩
theorem kc_P_37 : CS R_P 37 y_P_isDrawable b_P_isDrawable 2 (some .boolean) 2 := ⟨(tg_in (List.mem_append_right _ (List.mem_of_getElem? (i := 88) rfl)) rfl), (tg_in (List.mem_append_right _ (List.mem_of_getElem? (i := 89) rfl)) rfl), (tg_in (List.mem_append_right _ (List.mem_of_getElem? (i := 1) rfl)) rfl), (tg_in (List.mem_append_right _ (List.mem_of_getElem? (i := 90) rfl)) rfl), by decide +kernel, by decide +kernel, by decide +kernel⟩
theorem kc_P_41 : CV R_P 41 R_D y_D_fill b_D_fill 6 none 3 := ⟨(tg_in (List.mem_append_right _ (List.mem_of_getElem? (i := 91) rfl)) rfl), (tg_in (List.mem_append_right _ (List.mem_of_getElem? (i := 92) rfl)) rfl), (tg_in (List.mem_append_right _ (List.mem_of_getElem? (i := 93) rfl)) rfl), (tg_in (List.mem_append_right _ (List.mem_of_getElem? (i := 2) rfl)) rfl), (tg_in (List.mem_append_right _ (List.mem_of_getElem? (i := 94) rfl)) rfl), rfl, by decide +kernel, by decide +kernel, by decide +kernel⟩
theorem kc_P_45 : CV R_P 45 R_D y_D_allBits b_D_allBits 1 (some .int) 0 := ⟨(tg_in (List.mem_append_right _ (List.mem_of_getElem? (i := 125) rfl)) rfl), (tg_in (List.mem_append_right _ (List.mem_of_getElem? (i := 126) rfl)) rfl), (tg_in (List.mem_append_right _ (List.mem_of_getElem? (i := 127) rfl)) rfl), (tg_in (List.mem_append_right _ (List.mem_of_getElem? (i := 2) rfl)) rfl), (tg_in (List.mem_append_right _ (List.mem_of_getElem? (i := 128) rfl)) rfl), rfl, by decide +kernel, by decide +kernel, by decide +kernel⟩
theorem kc_P_49 : CV R_P 49 R_V y_V_forget b_V_forget 1 none 0 := ⟨(tg_in (List.mem_append_right _ (List.mem_of_getElem? (i := 129) rfl)) rfl), (tg_in (List.mem_append_right _ (List.mem_of_getElem? (i := 130) rfl)) rfl), (tg_in (List.mem_append_right _ (List.mem_of_getElem? (i := 131) rfl)) rfl), (tg_in (List.mem_append_right _ (List.mem_of_getElem? (i := 3) rfl)) rfl), (tg_in (List.mem_append_right _ (List.mem_of_getElem? (i := 132) rfl)) rfl), rfl, by decide +kernel, by decide +kernel, by decide +kernel⟩
theorem kn_P_52 : Cond.fieldLinkNest R_P 52 "PostDrawer$Drawing" "count" "I" "PostDrawer" ∈ lw_tbl := (List.mem_append_right _ (List.mem_of_getElem? (i := 27) rfl))
theorem kc_P_84 : CV R_P 84 R_V y_V_tell b_V_tell 4 (some .boolean) 2 := ⟨(tg_in (List.mem_append_right _ (List.mem_of_getElem? (i := 173) rfl)) rfl), (tg_in (List.mem_append_right _ (List.mem_of_getElem? (i := 174) rfl)) rfl), (tg_in (List.mem_append_right _ (List.mem_of_getElem? (i := 175) rfl)) rfl), (tg_in (List.mem_append_right _ (List.mem_of_getElem? (i := 3) rfl)) rfl), (tg_in (List.mem_append_right _ (List.mem_of_getElem? (i := 176) rfl)) rfl), rfl, by decide +kernel, by decide +kernel, by decide +kernel⟩
theorem kn_P_88 : Cond.fieldLinkNest R_P 88 "PostDrawer$Verdicts" "count" "I" "PostDrawer" ∈ lw_tbl := (List.mem_append_right _ (List.mem_of_getElem? (i := 51) rfl))
theorem kn_P_131 : Cond.fieldLinkNest R_P 131 "PostDrawer$Drawing" "faultBits" "I" "PostDrawer" ∈ lw_tbl := (List.mem_append_right _ (List.mem_of_getElem? (i := 29) rfl))
theorem kc_P_115 : CS R_P 115 y_P_number b_P_number 6 (some .long) 3 := ⟨(tg_in (List.mem_append_right _ (List.mem_of_getElem? (i := 162) rfl)) rfl), (tg_in (List.mem_append_right _ (List.mem_of_getElem? (i := 102) rfl)) rfl), (tg_in (List.mem_append_right _ (List.mem_of_getElem? (i := 1) rfl)) rfl), (tg_in (List.mem_append_right _ (List.mem_of_getElem? (i := 103) rfl)) rfl), by decide +kernel, by decide +kernel, by decide +kernel⟩
theorem kl_P_119 : Cond.constantLong R_P 119 2 ∈ TG := (tg_in (List.mem_append_right _ (List.mem_of_getElem? (i := 163) rfl)) rfl)
theorem kl_P_121 : Cond.constantLong R_P 121 33 ∈ TG := (tg_in (List.mem_append_right _ (List.mem_of_getElem? (i := 164) rfl)) rfl)
theorem kf_P_111 : Cond.fieldLink R_P 111 "PostDrawer" "SIGNS" "[I" ∈ TG := (tg_in (List.mem_append_right _ (List.mem_of_getElem? (i := 157) rfl)) rfl)
theorem kc_P_69 : CS R_P 69 y_P_isInked b_P_isInked 4 (some .boolean) 3 := ⟨(tg_in (List.mem_append_right _ (List.mem_of_getElem? (i := 154) rfl)) rfl), (tg_in (List.mem_append_right _ (List.mem_of_getElem? (i := 155) rfl)) rfl), (tg_in (List.mem_append_right _ (List.mem_of_getElem? (i := 1) rfl)) rfl), (tg_in (List.mem_append_right _ (List.mem_of_getElem? (i := 156) rfl)) rfl), by decide +kernel, by decide +kernel, by decide +kernel⟩
theorem kn_P_73 : Cond.fieldLinkNest R_P 73 "PostDrawer$Drawing" "seed" "J" "PostDrawer" ∈ lw_tbl := (List.mem_append_right _ (List.mem_of_getElem? (i := 23) rfl))
theorem kc_P_76 : CS R_P 76 y_P_noise b_P_noise 9 (some .int) 4 := ⟨(tg_in (List.mem_append_right _ (List.mem_of_getElem? (i := 159) rfl)) rfl), (tg_in (List.mem_append_right _ (List.mem_of_getElem? (i := 160) rfl)) rfl), (tg_in (List.mem_append_right _ (List.mem_of_getElem? (i := 1) rfl)) rfl), (tg_in (List.mem_append_right _ (List.mem_of_getElem? (i := 161) rfl)) rfl), by decide +kernel, by decide +kernel, by decide +kernel⟩
theorem km_D_3 : Cond.methodLink R_D 3 Lib.objectInit ∈ TG := (tg_in (List.mem_append_right _ (List.mem_of_getElem? (i := 20) rfl)) rfl)
theorem k_objI : Cond.instanceMethod Lib.objectInit ∈ TG := (tg_in (List.mem_append_right _ (List.mem_of_getElem? (i := 13) rfl)) rfl)
theorem k_objC : Cond.code Lib.objectInit ⟨#[0xb1]⟩ 1 none ∈ TG := (tg_in (List.mem_append_right _ (List.mem_of_getElem? (i := 14) rfl)) rfl)
theorem k_arr_long : Cond.arrayClass .long ∈ TG := (tg_in (List.mem_append_right _ (List.mem_of_getElem? (i := 41) rfl)) rfl)
theorem km_V_3 : Cond.methodLink R_V 3 Lib.objectInit ∈ TG := (tg_in (List.mem_append_right _ (List.mem_of_getElem? (i := 47) rfl)) rfl)
theorem k_arr_int : Cond.arrayClass .int ∈ TG := (tg_in (List.mem_append_right _ (List.mem_of_getElem? (i := 59) rfl)) rfl)
theorem k_arr_boolean : Cond.arrayClass .boolean ∈ TG := (tg_in (List.mem_append_right _ (List.mem_of_getElem? (i := 60) rfl)) rfl)
theorem km_P_1 : Cond.methodLink R_P 1 Lib.objectInit ∈ TG := (tg_in (List.mem_append_right _ (List.mem_of_getElem? (i := 12) rfl)) rfl)
theorem kw_P_17 : Cond.classLink R_P 17 R_D ∈ TG := (tg_in (List.mem_append_right _ (List.mem_of_getElem? (i := 15) rfl)) rfl)
theorem ki_D : Cond.instantiable R_D 5 ∈ TG := (tg_in (List.mem_append_right _ (List.mem_of_getElem? (i := 16) rfl)) rfl)
theorem kz_D : Cond.initialized R_D ∈ TG := (tg_in (List.mem_append_right _ (List.mem_of_getElem? (i := 2) rfl)) rfl)
theorem kc_P_19 : CNI R_P 19 y_D_init "PostDrawer" b_D_init 1 0 := ⟨(List.mem_append_right _ (List.mem_of_getElem? (i := 17) rfl)), (tg_in (List.mem_append_right _ (List.mem_of_getElem? (i := 18) rfl)) rfl), (tg_in (List.mem_append_right _ (List.mem_of_getElem? (i := 2) rfl)) rfl), (tg_in (List.mem_append_right _ (List.mem_of_getElem? (i := 19) rfl)) rfl), rfl, by decide +kernel, by decide +kernel, by decide +kernel⟩
theorem kf_P_24 : Cond.fieldLink R_P 24 "PostDrawer" "ours" "LPostDrawer$Drawing;" ∈ TG := (tg_in (List.mem_append_right _ (List.mem_of_getElem? (i := 63) rfl)) rfl)
theorem kf_P_27 : Cond.fieldLink R_P 27 "PostDrawer" "theirs" "LPostDrawer$Drawing;" ∈ TG := (tg_in (List.mem_append_right _ (List.mem_of_getElem? (i := 64) rfl)) rfl)
theorem kw_P_30 : Cond.classLink R_P 30 R_V ∈ TG := (tg_in (List.mem_append_right _ (List.mem_of_getElem? (i := 42) rfl)) rfl)
theorem ki_V : Cond.instantiable R_V 3 ∈ TG := (tg_in (List.mem_append_right _ (List.mem_of_getElem? (i := 43) rfl)) rfl)
theorem kz_V : Cond.initialized R_V ∈ TG := (tg_in (List.mem_append_right _ (List.mem_of_getElem? (i := 3) rfl)) rfl)
theorem kc_P_32 : CNI R_P 32 y_V_init "PostDrawer" b_V_init 1 0 := ⟨(List.mem_append_right _ (List.mem_of_getElem? (i := 44) rfl)), (tg_in (List.mem_append_right _ (List.mem_of_getElem? (i := 45) rfl)) rfl), (tg_in (List.mem_append_right _ (List.mem_of_getElem? (i := 3) rfl)) rfl), (tg_in (List.mem_append_right _ (List.mem_of_getElem? (i := 46) rfl)) rfl), rfl, by decide +kernel, by decide +kernel, by decide +kernel⟩
theorem kc_P_104 : CS R_P 104 y_P_haveSameParts b_P_haveSameParts 4 (some .boolean) 2 := ⟨(tg_in (List.mem_append_right _ (List.mem_of_getElem? (i := 223) rfl)) rfl), (tg_in (List.mem_append_right _ (List.mem_of_getElem? (i := 224) rfl)) rfl), (tg_in (List.mem_append_right _ (List.mem_of_getElem? (i := 1) rfl)) rfl), (tg_in (List.mem_append_right _ (List.mem_of_getElem? (i := 225) rfl)) rfl), by decide +kernel, by decide +kernel, by decide +kernel⟩
theorem kl_J_265 : Cond.constant R_J 265 1431655765 ∈ TG := (tg_in (List.mem_append_right _ (List.mem_of_getElem? (i := 204) rfl)) rfl)
theorem kl_J_266 : Cond.constant R_J 266 858993459 ∈ TG := (tg_in (List.mem_append_right _ (List.mem_of_getElem? (i := 205) rfl)) rfl)
theorem kl_J_267 : Cond.constant R_J 267 252645135 ∈ TG := (tg_in (List.mem_append_right _ (List.mem_of_getElem? (i := 206) rfl)) rfl)
theorem kc_P_92 : CV R_P 92 R_P y_P_leaveOutAll b_P_leaveOutAll 3 none 0 := ⟨(tg_in (List.mem_append_right _ (List.mem_of_getElem? (i := 189) rfl)) rfl), (tg_in (List.mem_append_right _ (List.mem_of_getElem? (i := 191) rfl)) rfl), (tg_in (List.mem_append_left _ (by decide +kernel)) rfl), (tg_in (List.mem_append_right _ (List.mem_of_getElem? (i := 1) rfl)) rfl), (tg_in (List.mem_append_right _ (List.mem_of_getElem? (i := 192) rfl)) rfl), rfl, by decide +kernel, by decide +kernel, by decide +kernel⟩
theorem kc_P_95 : CS R_P 95 y_J_bitCount b_J_bitCount 1 (some .int) 1 := ⟨(tg_in (List.mem_append_right _ (List.mem_of_getElem? (i := 201) rfl)) rfl), (tg_in (List.mem_append_right _ (List.mem_of_getElem? (i := 202) rfl)) rfl), (tg_in (List.mem_append_right _ (List.mem_of_getElem? (i := 6) rfl)) rfl), (tg_in (List.mem_append_right _ (List.mem_of_getElem? (i := 203) rfl)) rfl), by decide +kernel, by decide +kernel, by decide +kernel⟩
theorem kl_M_28 : Cond.constantLong R_M 28 64 ∈ TG := (tg_in (List.mem_append_right _ (List.mem_of_getElem? (i := 287) rfl)) rfl)
theorem kl_M_30 : Cond.constantLong R_M 30 (-7046029254386353131) ∈ TG := (tg_in (List.mem_append_right _ (List.mem_of_getElem? (i := 288) rfl)) rfl)
theorem kl_M_32 : Cond.constantLong R_M 32 (-4658895280553007687) ∈ TG := (tg_in (List.mem_append_right _ (List.mem_of_getElem? (i := 289) rfl)) rfl)
theorem kl_M_34 : Cond.constantLong R_M 34 (-7723592293110705685) ∈ TG := (tg_in (List.mem_append_right _ (List.mem_of_getElem? (i := 290) rfl)) rfl)
theorem kl_M_36 : Cond.constantLong R_M 36 2 ∈ TG := (tg_in (List.mem_append_right _ (List.mem_of_getElem? (i := 301) rfl)) rfl)
theorem kl_M_38 : Cond.constantLong R_M 38 (-9223372036854775808) ∈ TG := (tg_in (List.mem_append_right _ (List.mem_of_getElem? (i := 294) rfl)) rfl)
theorem kc_M_40 : CS R_M 40 y_M_rest b_M_rest 5 (some .int) 2 := ⟨(tg_in (List.mem_append_right _ (List.mem_of_getElem? (i := 298) rfl)) rfl), (tg_in (List.mem_append_right _ (List.mem_of_getElem? (i := 299) rfl)) rfl), (tg_in (List.mem_append_right _ (List.mem_of_getElem? (i := 4) rfl)) rfl), (tg_in (List.mem_append_right _ (List.mem_of_getElem? (i := 300) rfl)) rfl), by decide +kernel, by decide +kernel, by decide +kernel⟩
theorem kc_M_44 : CS R_M 44 y_M_number b_M_number 6 (some .long) 3 := ⟨(tg_in (List.mem_append_right _ (List.mem_of_getElem? (i := 284) rfl)) rfl), (tg_in (List.mem_append_right _ (List.mem_of_getElem? (i := 285) rfl)) rfl), (tg_in (List.mem_append_right _ (List.mem_of_getElem? (i := 4) rfl)) rfl), (tg_in (List.mem_append_right _ (List.mem_of_getElem? (i := 286) rfl)) rfl), by decide +kernel, by decide +kernel, by decide +kernel⟩
theorem kc_M_48 : CS R_M 48 y_M_isLess b_M_isLess 4 (some .boolean) 2 := ⟨(tg_in (List.mem_append_right _ (List.mem_of_getElem? (i := 291) rfl)) rfl), (tg_in (List.mem_append_right _ (List.mem_of_getElem? (i := 292) rfl)) rfl), (tg_in (List.mem_append_right _ (List.mem_of_getElem? (i := 4) rfl)) rfl), (tg_in (List.mem_append_right _ (List.mem_of_getElem? (i := 293) rfl)) rfl), by decide +kernel, by decide +kernel, by decide +kernel⟩
theorem kf_M_68 : Cond.fieldLink R_M 68 "PostDrawerModel" "sets" "I" ∈ TG := (tg_in (List.mem_append_right _ (List.mem_of_getElem? (i := 241) rfl)) rfl)
theorem kf_M_7 : Cond.fieldLink R_M 7 "PostDrawerModel" "set" "[I" ∈ TG := (tg_in (List.mem_append_right _ (List.mem_of_getElem? (i := 242) rfl)) rfl)
theorem kc_M_78 : CV R_M 78 R_M y_M_placeOf b_M_placeOf 4 (some .int) 1 := ⟨(tg_in (List.mem_append_right _ (List.mem_of_getElem? (i := 310) rfl)) rfl), (tg_in (List.mem_append_right _ (List.mem_of_getElem? (i := 312) rfl)) rfl), (tg_in (List.mem_append_left _ (by decide +kernel)) rfl), (tg_in (List.mem_append_right _ (List.mem_of_getElem? (i := 4) rfl)) rfl), (tg_in (List.mem_append_right _ (List.mem_of_getElem? (i := 313) rfl)) rfl), rfl, by decide +kernel, by decide +kernel, by decide +kernel⟩
theorem kf_M_13 : Cond.fieldLink R_M 13 "PostDrawerModel" "staying" "[Z" ∈ TG := (tg_in (List.mem_append_right _ (List.mem_of_getElem? (i := 243) rfl)) rfl)
theorem kf_M_62 : Cond.fieldLink R_M 62 "PostDrawerModel" "parts" "I" ∈ TG := (tg_in (List.mem_append_right _ (List.mem_of_getElem? (i := 238) rfl)) rfl)
theorem kc_M_82 : CV R_M 82 R_M y_M_stays b_M_stays 3 (some .boolean) 1 := ⟨(tg_in (List.mem_append_right _ (List.mem_of_getElem? (i := 318) rfl)) rfl), (tg_in (List.mem_append_right _ (List.mem_of_getElem? (i := 320) rfl)) rfl), (tg_in (List.mem_append_left _ (by decide +kernel)) rfl), (tg_in (List.mem_append_right _ (List.mem_of_getElem? (i := 4) rfl)) rfl), (tg_in (List.mem_append_right _ (List.mem_of_getElem? (i := 321) rfl)) rfl), rfl, by decide +kernel, by decide +kernel, by decide +kernel⟩
