set_option maxRecDepth 20000 in
theorem tk_1 {w : Cond} (h : w ∈ tables_1_1) : w ∈ lw_tbl := List.mem_append_right _ (List.mem_append_left _ h)
set_option maxRecDepth 20000 in
theorem tk_2 {w : Cond} (h : w ∈ tables_1_2) : w ∈ lw_tbl := List.mem_append_right _ (List.mem_append_right _ (List.mem_append_left _ h))
set_option maxRecDepth 20000 in
theorem tk_3 {w : Cond} (h : w ∈ tables_1_3) : w ∈ lw_tbl := List.mem_append_right _ (List.mem_append_right _ (List.mem_append_right _ (List.mem_append_left _ h)))
set_option maxRecDepth 20000 in
theorem tk_4 {w : Cond} (h : w ∈ tables_1_4) : w ∈ lw_tbl := List.mem_append_right _ (List.mem_append_right _ (List.mem_append_right _ (List.mem_append_right _ (List.mem_append_left _ h))))
set_option maxRecDepth 20000 in
theorem tk_5 {w : Cond} (h : w ∈ tables_1_5) : w ∈ lw_tbl := List.mem_append_right _ (List.mem_append_right _ (List.mem_append_right _ (List.mem_append_right _ (List.mem_append_right _ h))))
set_option maxRecDepth 20000 in
theorem hwX0 : ∀ w ∈ u_ws RX0 TX0 9, w ∈ big := fun w h => mem_big ((by decide +kernel : ∀ w ∈ u_ws RX0 TX0 9, w ∈ lw_tbl) w h) ((by decide +kernel : ∀ w ∈ u_ws RX0 TX0 9, goodWord w = true) w h)
set_option maxRecDepth 20000 in
theorem hwX1 : ∀ w ∈ u_ws RX1 TX1 6, w ∈ big := fun w h => mem_big ((by decide +kernel : ∀ w ∈ u_ws RX1 TX1 6, w ∈ lw_tbl) w h) ((by decide +kernel : ∀ w ∈ u_ws RX1 TX1 6, goodWord w = true) w h)
set_option maxRecDepth 20000 in
theorem hwX2 : ∀ w ∈ u_ws RX2 TX2 5, w ∈ big := fun w h => mem_big ((by decide +kernel : ∀ w ∈ u_ws RX2 TX2 5, w ∈ lw_tbl) w h) ((by decide +kernel : ∀ w ∈ u_ws RX2 TX2 5, goodWord w = true) w h)
set_option maxRecDepth 20000 in
theorem hwX3 : ∀ w ∈ u_ws RX3 TX3 5, w ∈ big := fun w h => mem_big ((by decide +kernel : ∀ w ∈ u_ws RX3 TX3 5, w ∈ lw_tbl) w h) ((by decide +kernel : ∀ w ∈ u_ws RX3 TX3 5, goodWord w = true) w h)
set_option maxRecDepth 20000 in
theorem hwX4 : ∀ w ∈ u_ws RX4 TX4 3, w ∈ big := fun w h => mem_big ((by decide +kernel : ∀ w ∈ u_ws RX4 TX4 3, w ∈ lw_tbl) w h) ((by decide +kernel : ∀ w ∈ u_ws RX4 TX4 3, goodWord w = true) w h)
set_option maxRecDepth 20000 in
theorem hwX5 : ∀ w ∈ u_ws RX5 TX5 7, w ∈ big := fun w h => mem_big ((by decide +kernel : ∀ w ∈ u_ws RX5 TX5 7, w ∈ lw_tbl) w h) ((by decide +kernel : ∀ w ∈ u_ws RX5 TX5 7, goodWord w = true) w h)
set_option maxRecDepth 20000 in
theorem hwX6 : ∀ w ∈ u_ws RX6 TX6 2, w ∈ big := fun w h => mem_big ((by decide +kernel : ∀ w ∈ u_ws RX6 TX6 2, w ∈ lw_tbl) w h) ((by decide +kernel : ∀ w ∈ u_ws RX6 TX6 2, goodWord w = true) w h)
set_option maxRecDepth 20000 in
theorem hwX7 : ∀ w ∈ u_ws RX7 TX7 11, w ∈ big := fun w h => mem_big ((by decide +kernel : ∀ w ∈ u_ws RX7 TX7 11, w ∈ lw_tbl) w h) ((by decide +kernel : ∀ w ∈ u_ws RX7 TX7 11, goodWord w = true) w h)
set_option maxRecDepth 20000 in
theorem hwX8 : ∀ w ∈ u_ws RX8 TX8 32, w ∈ big := fun w h => mem_big ((by decide +kernel : ∀ w ∈ u_ws RX8 TX8 32, w ∈ lw_tbl) w h) ((by decide +kernel : ∀ w ∈ u_ws RX8 TX8 32, goodWord w = true) w h)
set_option maxRecDepth 20000 in
theorem mi_L_12 : MI RL 12 yX8_init cX8_init 1 0 := ⟨(mem_big (tk_4 (List.mem_of_getElem? (i := 64) rfl)) rfl), (mem_big (tk_4 (List.mem_of_getElem? (i := 65) rfl)) rfl), (mem_big (tk_1 (List.mem_of_getElem? (i := 10) rfl)) rfl), rfl, (mem_big (tk_4 (List.mem_of_getElem? (i := 66) rfl)) rfl), ⟨by decide, by decide, by decide +kernel⟩⟩
set_option maxRecDepth 20000 in
theorem mi_L_9 : MI RL 9 yX7_init cX7_init 1 0 := ⟨(mem_big (tk_1 (List.mem_of_getElem? (i := 19) rfl)) rfl), (mem_big (tk_1 (List.mem_of_getElem? (i := 20) rfl)) rfl), (mem_big (tk_1 (List.mem_of_getElem? (i := 1) rfl)) rfl), rfl, (mem_big (tk_1 (List.mem_of_getElem? (i := 21) rfl)) rfl), ⟨by decide, by decide, by decide +kernel⟩⟩
set_option maxRecDepth 20000 in
theorem mv_L_100 : MV RL 100 yX8_write cX8_write 5 (some .int) 4 := ⟨(mem_big (tk_5 (List.mem_of_getElem? (i := 185) rfl)) rfl), (mem_big (tk_5 (List.mem_of_getElem? (i := 186) rfl)) rfl), (mem_big (tk_5 (List.mem_of_getElem? (i := 187) rfl)) rfl), (mem_big (tk_1 (List.mem_of_getElem? (i := 10) rfl)) rfl), (mem_big (tk_5 (List.mem_of_getElem? (i := 188) rfl)) rfl), ⟨by decide, by decide, by decide +kernel⟩⟩
set_option maxRecDepth 20000 in
theorem mv_L_101 : MV RL 101 yX7_tear cX7_tear 2 (some .int) 0 := ⟨(mem_big (tk_4 (List.mem_of_getElem? (i := 10) rfl)) rfl), (mem_big (tk_4 (List.mem_of_getElem? (i := 11) rfl)) rfl), (mem_big (tk_4 (List.mem_of_getElem? (i := 12) rfl)) rfl), (mem_big (tk_1 (List.mem_of_getElem? (i := 1) rfl)) rfl), (mem_big (tk_4 (List.mem_of_getElem? (i := 13) rfl)) rfl), ⟨by decide, by decide, by decide +kernel⟩⟩
set_option maxRecDepth 20000 in
theorem mv_L_104 : MV RL 104 yX8_tear cX8_tear 2 (some .int) 0 := ⟨(mem_big (tk_5 (List.mem_of_getElem? (i := 189) rfl)) rfl), (mem_big (tk_5 (List.mem_of_getElem? (i := 190) rfl)) rfl), (mem_big (tk_5 (List.mem_of_getElem? (i := 191) rfl)) rfl), (mem_big (tk_1 (List.mem_of_getElem? (i := 10) rfl)) rfl), (mem_big (tk_5 (List.mem_of_getElem? (i := 192) rfl)) rfl), ⟨by decide, by decide, by decide +kernel⟩⟩
set_option maxRecDepth 20000 in
theorem mv_L_105 : MV RL 105 yX7_judge cX7_judge 3 (some .int) 0 := ⟨(mem_big (tk_4 (List.mem_of_getElem? (i := 14) rfl)) rfl), (mem_big (tk_4 (List.mem_of_getElem? (i := 15) rfl)) rfl), (mem_big (tk_4 (List.mem_of_getElem? (i := 16) rfl)) rfl), (mem_big (tk_1 (List.mem_of_getElem? (i := 1) rfl)) rfl), (mem_big (tk_4 (List.mem_of_getElem? (i := 17) rfl)) rfl), ⟨by decide, by decide, by decide +kernel⟩⟩
set_option maxRecDepth 20000 in
theorem mv_L_108 : MV RL 108 yX8_judge cX8_judge 2 (some .int) 0 := ⟨(mem_big (tk_5 (List.mem_of_getElem? (i := 193) rfl)) rfl), (mem_big (tk_5 (List.mem_of_getElem? (i := 194) rfl)) rfl), (mem_big (tk_5 (List.mem_of_getElem? (i := 195) rfl)) rfl), (mem_big (tk_1 (List.mem_of_getElem? (i := 10) rfl)) rfl), (mem_big (tk_5 (List.mem_of_getElem? (i := 196) rfl)) rfl), ⟨by decide, by decide, by decide +kernel⟩⟩
set_option maxRecDepth 20000 in
theorem mv_L_109 : MV RL 109 yX7_drift cX7_drift 6 (some .int) 2 := ⟨(mem_big (tk_4 (List.mem_of_getElem? (i := 22) rfl)) rfl), (mem_big (tk_4 (List.mem_of_getElem? (i := 23) rfl)) rfl), (mem_big (tk_4 (List.mem_of_getElem? (i := 24) rfl)) rfl), (mem_big (tk_1 (List.mem_of_getElem? (i := 1) rfl)) rfl), (mem_big (tk_4 (List.mem_of_getElem? (i := 25) rfl)) rfl), ⟨by decide, by decide, by decide +kernel⟩⟩
set_option maxRecDepth 20000 in
theorem mv_L_112 : MV RL 112 yX8_drift cX8_drift 6 (some .int) 2 := ⟨(mem_big (tk_5 (List.mem_of_getElem? (i := 197) rfl)) rfl), (mem_big (tk_5 (List.mem_of_getElem? (i := 198) rfl)) rfl), (mem_big (tk_5 (List.mem_of_getElem? (i := 199) rfl)) rfl), (mem_big (tk_1 (List.mem_of_getElem? (i := 10) rfl)) rfl), (mem_big (tk_5 (List.mem_of_getElem? (i := 200) rfl)) rfl), ⟨by decide, by decide, by decide +kernel⟩⟩
set_option maxRecDepth 20000 in
theorem mv_L_113 : MV RL 113 yX7_forget cX7_forget 2 (some .int) 0 := ⟨(mem_big (tk_4 (List.mem_of_getElem? (i := 38) rfl)) rfl), (mem_big (tk_4 (List.mem_of_getElem? (i := 39) rfl)) rfl), (mem_big (tk_4 (List.mem_of_getElem? (i := 40) rfl)) rfl), (mem_big (tk_1 (List.mem_of_getElem? (i := 1) rfl)) rfl), (mem_big (tk_4 (List.mem_of_getElem? (i := 41) rfl)) rfl), ⟨by decide, by decide, by decide +kernel⟩⟩
set_option maxRecDepth 20000 in
theorem mv_L_116 : MV RL 116 yX8_forget cX8_forget 2 (some .int) 0 := ⟨(mem_big (tk_5 (List.mem_of_getElem? (i := 210) rfl)) rfl), (mem_big (tk_5 (List.mem_of_getElem? (i := 211) rfl)) rfl), (mem_big (tk_5 (List.mem_of_getElem? (i := 212) rfl)) rfl), (mem_big (tk_1 (List.mem_of_getElem? (i := 10) rfl)) rfl), (mem_big (tk_5 (List.mem_of_getElem? (i := 213) rfl)) rfl), ⟨by decide, by decide, by decide +kernel⟩⟩
set_option maxRecDepth 20000 in
theorem mv_L_117 : MV RL 117 yX7_seed cX7_seed 3 (some .int) 1 := ⟨(mem_big (tk_4 (List.mem_of_getElem? (i := 42) rfl)) rfl), (mem_big (tk_4 (List.mem_of_getElem? (i := 43) rfl)) rfl), (mem_big (tk_4 (List.mem_of_getElem? (i := 44) rfl)) rfl), (mem_big (tk_1 (List.mem_of_getElem? (i := 1) rfl)) rfl), (mem_big (tk_4 (List.mem_of_getElem? (i := 45) rfl)) rfl), ⟨by decide, by decide, by decide +kernel⟩⟩
set_option maxRecDepth 20000 in
theorem mv_L_120 : MV RL 120 yX8_seed cX8_seed 3 (some .int) 1 := ⟨(mem_big (tk_5 (List.mem_of_getElem? (i := 214) rfl)) rfl), (mem_big (tk_5 (List.mem_of_getElem? (i := 215) rfl)) rfl), (mem_big (tk_5 (List.mem_of_getElem? (i := 216) rfl)) rfl), (mem_big (tk_1 (List.mem_of_getElem? (i := 10) rfl)) rfl), (mem_big (tk_5 (List.mem_of_getElem? (i := 217) rfl)) rfl), ⟨by decide, by decide, by decide +kernel⟩⟩
set_option maxRecDepth 20000 in
theorem mv_L_121 : MV RL 121 yX7_keep cX7_keep 3 (some .int) 1 := ⟨(mem_big (tk_4 (List.mem_of_getElem? (i := 46) rfl)) rfl), (mem_big (tk_4 (List.mem_of_getElem? (i := 47) rfl)) rfl), (mem_big (tk_4 (List.mem_of_getElem? (i := 48) rfl)) rfl), (mem_big (tk_1 (List.mem_of_getElem? (i := 1) rfl)) rfl), (mem_big (tk_4 (List.mem_of_getElem? (i := 49) rfl)) rfl), ⟨by decide, by decide, by decide +kernel⟩⟩
set_option maxRecDepth 20000 in
theorem mv_L_124 : MV RL 124 yX8_keep cX8_keep 4 (some .int) 1 := ⟨(mem_big (tk_5 (List.mem_of_getElem? (i := 218) rfl)) rfl), (mem_big (tk_5 (List.mem_of_getElem? (i := 219) rfl)) rfl), (mem_big (tk_5 (List.mem_of_getElem? (i := 220) rfl)) rfl), (mem_big (tk_1 (List.mem_of_getElem? (i := 10) rfl)) rfl), (mem_big (tk_5 (List.mem_of_getElem? (i := 221) rfl)) rfl), ⟨by decide, by decide, by decide +kernel⟩⟩
set_option maxRecDepth 20000 in
theorem mv_L_125 : MV RL 125 yX7_goBack cX7_goBack 3 (some .int) 1 := ⟨(mem_big (tk_4 (List.mem_of_getElem? (i := 58) rfl)) rfl), (mem_big (tk_4 (List.mem_of_getElem? (i := 59) rfl)) rfl), (mem_big (tk_4 (List.mem_of_getElem? (i := 60) rfl)) rfl), (mem_big (tk_1 (List.mem_of_getElem? (i := 1) rfl)) rfl), (mem_big (tk_4 (List.mem_of_getElem? (i := 61) rfl)) rfl), ⟨by decide, by decide, by decide +kernel⟩⟩
set_option maxRecDepth 20000 in
theorem mv_L_128 : MV RL 128 yX8_goBack cX8_goBack 4 (some .int) 1 := ⟨(mem_big (tk_5 (List.mem_of_getElem? (i := 222) rfl)) rfl), (mem_big (tk_5 (List.mem_of_getElem? (i := 223) rfl)) rfl), (mem_big (tk_5 (List.mem_of_getElem? (i := 224) rfl)) rfl), (mem_big (tk_1 (List.mem_of_getElem? (i := 10) rfl)) rfl), (mem_big (tk_5 (List.mem_of_getElem? (i := 225) rfl)) rfl), ⟨by decide, by decide, by decide +kernel⟩⟩
set_option maxRecDepth 20000 in
theorem mv_L_15 : MV RL 15 yX7_feed cX7_feed 4 (some .int) 2 := ⟨(mem_big (tk_2 (List.mem_of_getElem? (i := 6) rfl)) rfl), (mem_big (tk_2 (List.mem_of_getElem? (i := 7) rfl)) rfl), (mem_big (tk_2 (List.mem_of_getElem? (i := 8) rfl)) rfl), (mem_big (tk_1 (List.mem_of_getElem? (i := 1) rfl)) rfl), (mem_big (tk_2 (List.mem_of_getElem? (i := 9) rfl)) rfl), ⟨by decide, by decide, by decide +kernel⟩⟩
set_option maxRecDepth 20000 in
theorem mv_L_19 : MV RL 19 yX8_feed cX8_feed 5 (some .int) 2 := ⟨(mem_big (tk_4 (List.mem_of_getElem? (i := 166) rfl)) rfl), (mem_big (tk_4 (List.mem_of_getElem? (i := 167) rfl)) rfl), (mem_big (tk_4 (List.mem_of_getElem? (i := 168) rfl)) rfl), (mem_big (tk_1 (List.mem_of_getElem? (i := 10) rfl)) rfl), (mem_big (tk_4 (List.mem_of_getElem? (i := 169) rfl)) rfl), ⟨by decide, by decide, by decide +kernel⟩⟩
set_option maxRecDepth 20000 in
theorem mv_L_20 : MV RL 20 yX7_house cX7_house 2 (some .int) 0 := ⟨(mem_big (tk_2 (List.mem_of_getElem? (i := 16) rfl)) rfl), (mem_big (tk_2 (List.mem_of_getElem? (i := 17) rfl)) rfl), (mem_big (tk_2 (List.mem_of_getElem? (i := 18) rfl)) rfl), (mem_big (tk_1 (List.mem_of_getElem? (i := 1) rfl)) rfl), (mem_big (tk_2 (List.mem_of_getElem? (i := 19) rfl)) rfl), ⟨by decide, by decide, by decide +kernel⟩⟩
set_option maxRecDepth 20000 in
theorem mv_L_24 : MV RL 24 yX8_house cX8_house 3 (some .int) 0 := ⟨(mem_big (tk_4 (List.mem_of_getElem? (i := 177) rfl)) rfl), (mem_big (tk_4 (List.mem_of_getElem? (i := 178) rfl)) rfl), (mem_big (tk_4 (List.mem_of_getElem? (i := 179) rfl)) rfl), (mem_big (tk_1 (List.mem_of_getElem? (i := 10) rfl)) rfl), (mem_big (tk_4 (List.mem_of_getElem? (i := 180) rfl)) rfl), ⟨by decide, by decide, by decide +kernel⟩⟩
set_option maxRecDepth 20000 in
theorem mv_L_25 : MV RL 25 yX7_fault cX7_fault 1 (some .int) 0 := ⟨(mem_big (tk_2 (List.mem_of_getElem? (i := 215) rfl)) rfl), (mem_big (tk_2 (List.mem_of_getElem? (i := 216) rfl)) rfl), (mem_big (tk_2 (List.mem_of_getElem? (i := 217) rfl)) rfl), (mem_big (tk_1 (List.mem_of_getElem? (i := 1) rfl)) rfl), (mem_big (tk_2 (List.mem_of_getElem? (i := 218) rfl)) rfl), ⟨by decide, by decide, by decide +kernel⟩⟩
set_option maxRecDepth 20000 in
theorem mv_L_28 : MV RL 28 yX8_fault cX8_fault 1 (some .int) 0 := ⟨(mem_big (tk_4 (List.mem_of_getElem? (i := 228) rfl)) rfl), (mem_big (tk_4 (List.mem_of_getElem? (i := 229) rfl)) rfl), (mem_big (tk_4 (List.mem_of_getElem? (i := 230) rfl)) rfl), (mem_big (tk_1 (List.mem_of_getElem? (i := 10) rfl)) rfl), (mem_big (tk_4 (List.mem_of_getElem? (i := 231) rfl)) rfl), ⟨by decide, by decide, by decide +kernel⟩⟩
set_option maxRecDepth 20000 in
theorem mv_L_29 : MV RL 29 yX7_told cX7_told 2 (some .int) 1 := ⟨(mem_big (tk_2 (List.mem_of_getElem? (i := 219) rfl)) rfl), (mem_big (tk_2 (List.mem_of_getElem? (i := 220) rfl)) rfl), (mem_big (tk_2 (List.mem_of_getElem? (i := 221) rfl)) rfl), (mem_big (tk_1 (List.mem_of_getElem? (i := 1) rfl)) rfl), (mem_big (tk_2 (List.mem_of_getElem? (i := 222) rfl)) rfl), ⟨by decide, by decide, by decide +kernel⟩⟩
set_option maxRecDepth 20000 in
theorem mv_L_33 : MV RL 33 yX8_told cX8_told 2 (some .int) 1 := ⟨(mem_big (tk_4 (List.mem_of_getElem? (i := 232) rfl)) rfl), (mem_big (tk_4 (List.mem_of_getElem? (i := 233) rfl)) rfl), (mem_big (tk_4 (List.mem_of_getElem? (i := 234) rfl)) rfl), (mem_big (tk_1 (List.mem_of_getElem? (i := 10) rfl)) rfl), (mem_big (tk_4 (List.mem_of_getElem? (i := 235) rfl)) rfl), ⟨by decide, by decide, by decide +kernel⟩⟩
set_option maxRecDepth 20000 in
theorem mv_L_34 : MV RL 34 yX7_bath cX7_bath 3 (some .int) 2 := ⟨(mem_big (tk_2 (List.mem_of_getElem? (i := 223) rfl)) rfl), (mem_big (tk_2 (List.mem_of_getElem? (i := 224) rfl)) rfl), (mem_big (tk_2 (List.mem_of_getElem? (i := 225) rfl)) rfl), (mem_big (tk_1 (List.mem_of_getElem? (i := 1) rfl)) rfl), (mem_big (tk_2 (List.mem_of_getElem? (i := 226) rfl)) rfl), ⟨by decide, by decide, by decide +kernel⟩⟩
set_option maxRecDepth 20000 in
theorem mv_L_38 : MV RL 38 yX8_bath cX8_bath 3 (some .int) 2 := ⟨(mem_big (tk_5 (List.mem_of_getElem? (i := 27) rfl)) rfl), (mem_big (tk_5 (List.mem_of_getElem? (i := 28) rfl)) rfl), (mem_big (tk_5 (List.mem_of_getElem? (i := 29) rfl)) rfl), (mem_big (tk_1 (List.mem_of_getElem? (i := 10) rfl)) rfl), (mem_big (tk_5 (List.mem_of_getElem? (i := 30) rfl)) rfl), ⟨by decide, by decide, by decide +kernel⟩⟩
set_option maxRecDepth 20000 in
theorem mv_L_39 : MV RL 39 yX7_bather cX7_bather 3 (some .int) 2 := ⟨(mem_big (tk_2 (List.mem_of_getElem? (i := 233) rfl)) rfl), (mem_big (tk_2 (List.mem_of_getElem? (i := 234) rfl)) rfl), (mem_big (tk_2 (List.mem_of_getElem? (i := 235) rfl)) rfl), (mem_big (tk_1 (List.mem_of_getElem? (i := 1) rfl)) rfl), (mem_big (tk_2 (List.mem_of_getElem? (i := 236) rfl)) rfl), ⟨by decide, by decide, by decide +kernel⟩⟩
set_option maxRecDepth 20000 in
theorem mv_L_42 : MV RL 42 yX8_bather cX8_bather 3 (some .int) 2 := ⟨(mem_big (tk_5 (List.mem_of_getElem? (i := 37) rfl)) rfl), (mem_big (tk_5 (List.mem_of_getElem? (i := 38) rfl)) rfl), (mem_big (tk_5 (List.mem_of_getElem? (i := 39) rfl)) rfl), (mem_big (tk_1 (List.mem_of_getElem? (i := 10) rfl)) rfl), (mem_big (tk_5 (List.mem_of_getElem? (i := 40) rfl)) rfl), ⟨by decide, by decide, by decide +kernel⟩⟩
set_option maxRecDepth 20000 in
theorem mv_L_43 : MV RL 43 yX7_height cX7_height 4 (some .int) 3 := ⟨(mem_big (tk_3 (List.mem_of_getElem? (i := 10) rfl)) rfl), (mem_big (tk_3 (List.mem_of_getElem? (i := 11) rfl)) rfl), (mem_big (tk_3 (List.mem_of_getElem? (i := 12) rfl)) rfl), (mem_big (tk_1 (List.mem_of_getElem? (i := 1) rfl)) rfl), (mem_big (tk_3 (List.mem_of_getElem? (i := 13) rfl)) rfl), ⟨by decide, by decide, by decide +kernel⟩⟩
set_option maxRecDepth 20000 in
theorem mv_L_47 : MV RL 47 yX8_height cX8_height 4 (some .int) 3 := ⟨(mem_big (tk_5 (List.mem_of_getElem? (i := 50) rfl)) rfl), (mem_big (tk_5 (List.mem_of_getElem? (i := 51) rfl)) rfl), (mem_big (tk_5 (List.mem_of_getElem? (i := 52) rfl)) rfl), (mem_big (tk_1 (List.mem_of_getElem? (i := 10) rfl)) rfl), (mem_big (tk_5 (List.mem_of_getElem? (i := 53) rfl)) rfl), ⟨by decide, by decide, by decide +kernel⟩⟩
set_option maxRecDepth 20000 in
theorem mv_L_48 : MV RL 48 yX7_span cX7_span 5 (some .int) 4 := ⟨(mem_big (tk_3 (List.mem_of_getElem? (i := 39) rfl)) rfl), (mem_big (tk_3 (List.mem_of_getElem? (i := 40) rfl)) rfl), (mem_big (tk_3 (List.mem_of_getElem? (i := 41) rfl)) rfl), (mem_big (tk_1 (List.mem_of_getElem? (i := 1) rfl)) rfl), (mem_big (tk_3 (List.mem_of_getElem? (i := 42) rfl)) rfl), ⟨by decide, by decide, by decide +kernel⟩⟩
set_option maxRecDepth 20000 in
theorem mv_L_52 : MV RL 52 yX8_span cX8_span 6 (some .int) 4 := ⟨(mem_big (tk_5 (List.mem_of_getElem? (i := 70) rfl)) rfl), (mem_big (tk_5 (List.mem_of_getElem? (i := 71) rfl)) rfl), (mem_big (tk_5 (List.mem_of_getElem? (i := 72) rfl)) rfl), (mem_big (tk_1 (List.mem_of_getElem? (i := 10) rfl)) rfl), (mem_big (tk_5 (List.mem_of_getElem? (i := 73) rfl)) rfl), ⟨by decide, by decide, by decide +kernel⟩⟩
set_option maxRecDepth 20000 in
theorem mv_L_53 : MV RL 53 yX7_morning cX7_morning 6 (some .int) 4 := ⟨(mem_big (tk_3 (List.mem_of_getElem? (i := 49) rfl)) rfl), (mem_big (tk_3 (List.mem_of_getElem? (i := 50) rfl)) rfl), (mem_big (tk_3 (List.mem_of_getElem? (i := 51) rfl)) rfl), (mem_big (tk_1 (List.mem_of_getElem? (i := 1) rfl)) rfl), (mem_big (tk_3 (List.mem_of_getElem? (i := 52) rfl)) rfl), ⟨by decide, by decide, by decide +kernel⟩⟩
set_option maxRecDepth 20000 in
theorem mv_L_56 : MV RL 56 yX8_morning cX8_morning 5 (some .int) 4 := ⟨(mem_big (tk_5 (List.mem_of_getElem? (i := 78) rfl)) rfl), (mem_big (tk_5 (List.mem_of_getElem? (i := 79) rfl)) rfl), (mem_big (tk_5 (List.mem_of_getElem? (i := 80) rfl)) rfl), (mem_big (tk_1 (List.mem_of_getElem? (i := 10) rfl)) rfl), (mem_big (tk_5 (List.mem_of_getElem? (i := 81) rfl)) rfl), ⟨by decide, by decide, by decide +kernel⟩⟩
set_option maxRecDepth 20000 in
theorem mv_L_57 : MV RL 57 yX7_strike cX7_strike 2 (some .int) 1 := ⟨(mem_big (tk_3 (List.mem_of_getElem? (i := 65) rfl)) rfl), (mem_big (tk_3 (List.mem_of_getElem? (i := 66) rfl)) rfl), (mem_big (tk_3 (List.mem_of_getElem? (i := 67) rfl)) rfl), (mem_big (tk_1 (List.mem_of_getElem? (i := 1) rfl)) rfl), (mem_big (tk_3 (List.mem_of_getElem? (i := 68) rfl)) rfl), ⟨by decide, by decide, by decide +kernel⟩⟩
set_option maxRecDepth 20000 in
theorem mv_L_60 : MV RL 60 yX8_strike cX8_strike 3 (some .int) 1 := ⟨(mem_big (tk_5 (List.mem_of_getElem? (i := 90) rfl)) rfl), (mem_big (tk_5 (List.mem_of_getElem? (i := 91) rfl)) rfl), (mem_big (tk_5 (List.mem_of_getElem? (i := 92) rfl)) rfl), (mem_big (tk_1 (List.mem_of_getElem? (i := 10) rfl)) rfl), (mem_big (tk_5 (List.mem_of_getElem? (i := 93) rfl)) rfl), ⟨by decide, by decide, by decide +kernel⟩⟩
set_option maxRecDepth 20000 in
theorem mv_L_61 : MV RL 61 yX7_wrong cX7_wrong 1 (some .int) 0 := ⟨(mem_big (tk_3 (List.mem_of_getElem? (i := 73) rfl)) rfl), (mem_big (tk_3 (List.mem_of_getElem? (i := 74) rfl)) rfl), (mem_big (tk_3 (List.mem_of_getElem? (i := 75) rfl)) rfl), (mem_big (tk_1 (List.mem_of_getElem? (i := 1) rfl)) rfl), (mem_big (tk_3 (List.mem_of_getElem? (i := 76) rfl)) rfl), ⟨by decide, by decide, by decide +kernel⟩⟩
set_option maxRecDepth 20000 in
theorem mv_L_64 : MV RL 64 yX8_wrong cX8_wrong 3 (some .int) 0 := ⟨(mem_big (tk_5 (List.mem_of_getElem? (i := 94) rfl)) rfl), (mem_big (tk_5 (List.mem_of_getElem? (i := 95) rfl)) rfl), (mem_big (tk_5 (List.mem_of_getElem? (i := 96) rfl)) rfl), (mem_big (tk_1 (List.mem_of_getElem? (i := 10) rfl)) rfl), (mem_big (tk_5 (List.mem_of_getElem? (i := 97) rfl)) rfl), ⟨by decide, by decide, by decide +kernel⟩⟩
set_option maxRecDepth 20000 in
theorem mv_L_65 : MV RL 65 yX7_canBe cX7_canBe 9 (some .int) 4 := ⟨(mem_big (tk_3 (List.mem_of_getElem? (i := 99) rfl)) rfl), (mem_big (tk_3 (List.mem_of_getElem? (i := 100) rfl)) rfl), (mem_big (tk_3 (List.mem_of_getElem? (i := 101) rfl)) rfl), (mem_big (tk_1 (List.mem_of_getElem? (i := 1) rfl)) rfl), (mem_big (tk_3 (List.mem_of_getElem? (i := 102) rfl)) rfl), ⟨by decide, by decide, by decide +kernel⟩⟩
set_option maxRecDepth 20000 in
theorem mv_L_68 : MV RL 68 yX8_canBe cX8_canBe 7 (some .int) 4 := ⟨(mem_big (tk_5 (List.mem_of_getElem? (i := 101) rfl)) rfl), (mem_big (tk_5 (List.mem_of_getElem? (i := 102) rfl)) rfl), (mem_big (tk_5 (List.mem_of_getElem? (i := 103) rfl)) rfl), (mem_big (tk_1 (List.mem_of_getElem? (i := 10) rfl)) rfl), (mem_big (tk_5 (List.mem_of_getElem? (i := 104) rfl)) rfl), ⟨by decide, by decide, by decide +kernel⟩⟩
set_option maxRecDepth 20000 in
theorem mv_L_69 : MV RL 69 yX7_likely cX7_likely 13 (some .int) 4 := ⟨(mem_big (tk_3 (List.mem_of_getElem? (i := 110) rfl)) rfl), (mem_big (tk_3 (List.mem_of_getElem? (i := 111) rfl)) rfl), (mem_big (tk_3 (List.mem_of_getElem? (i := 112) rfl)) rfl), (mem_big (tk_1 (List.mem_of_getElem? (i := 1) rfl)) rfl), (mem_big (tk_3 (List.mem_of_getElem? (i := 113) rfl)) rfl), ⟨by decide, by decide, by decide +kernel⟩⟩
set_option maxRecDepth 20000 in
theorem mv_L_72 : MV RL 72 yX8_likely cX8_likely 10 (some .int) 4 := ⟨(mem_big (tk_5 (List.mem_of_getElem? (i := 109) rfl)) rfl), (mem_big (tk_5 (List.mem_of_getElem? (i := 110) rfl)) rfl), (mem_big (tk_5 (List.mem_of_getElem? (i := 111) rfl)) rfl), (mem_big (tk_1 (List.mem_of_getElem? (i := 10) rfl)) rfl), (mem_big (tk_5 (List.mem_of_getElem? (i := 112) rfl)) rfl), ⟨by decide, by decide, by decide +kernel⟩⟩
set_option maxRecDepth 20000 in
theorem mv_L_73 : MV RL 73 yX7_odds cX7_odds 2 (some .int) 1 := ⟨(mem_big (tk_3 (List.mem_of_getElem? (i := 122) rfl)) rfl), (mem_big (tk_3 (List.mem_of_getElem? (i := 123) rfl)) rfl), (mem_big (tk_3 (List.mem_of_getElem? (i := 124) rfl)) rfl), (mem_big (tk_1 (List.mem_of_getElem? (i := 1) rfl)) rfl), (mem_big (tk_3 (List.mem_of_getElem? (i := 125) rfl)) rfl), ⟨by decide, by decide, by decide +kernel⟩⟩
set_option maxRecDepth 20000 in
theorem mv_L_76 : MV RL 76 yX8_odds cX8_odds 2 (some .int) 1 := ⟨(mem_big (tk_5 (List.mem_of_getElem? (i := 120) rfl)) rfl), (mem_big (tk_5 (List.mem_of_getElem? (i := 121) rfl)) rfl), (mem_big (tk_5 (List.mem_of_getElem? (i := 122) rfl)) rfl), (mem_big (tk_1 (List.mem_of_getElem? (i := 10) rfl)) rfl), (mem_big (tk_5 (List.mem_of_getElem? (i := 123) rfl)) rfl), ⟨by decide, by decide, by decide +kernel⟩⟩
set_option maxRecDepth 20000 in
theorem mv_L_77 : MV RL 77 yX7_tells cX7_tells 4 (some .int) 3 := ⟨(mem_big (tk_3 (List.mem_of_getElem? (i := 126) rfl)) rfl), (mem_big (tk_3 (List.mem_of_getElem? (i := 127) rfl)) rfl), (mem_big (tk_3 (List.mem_of_getElem? (i := 128) rfl)) rfl), (mem_big (tk_1 (List.mem_of_getElem? (i := 1) rfl)) rfl), (mem_big (tk_3 (List.mem_of_getElem? (i := 129) rfl)) rfl), ⟨by decide, by decide, by decide +kernel⟩⟩
set_option maxRecDepth 20000 in
theorem mv_L_80 : MV RL 80 yX8_tells cX8_tells 4 (some .int) 3 := ⟨(mem_big (tk_5 (List.mem_of_getElem? (i := 124) rfl)) rfl), (mem_big (tk_5 (List.mem_of_getElem? (i := 125) rfl)) rfl), (mem_big (tk_5 (List.mem_of_getElem? (i := 126) rfl)) rfl), (mem_big (tk_1 (List.mem_of_getElem? (i := 10) rfl)) rfl), (mem_big (tk_5 (List.mem_of_getElem? (i := 127) rfl)) rfl), ⟨by decide, by decide, by decide +kernel⟩⟩
set_option maxRecDepth 20000 in
theorem mv_L_81 : MV RL 81 yX7_alike cX7_alike 2 (some .int) 1 := ⟨(mem_big (tk_3 (List.mem_of_getElem? (i := 136) rfl)) rfl), (mem_big (tk_3 (List.mem_of_getElem? (i := 137) rfl)) rfl), (mem_big (tk_3 (List.mem_of_getElem? (i := 138) rfl)) rfl), (mem_big (tk_1 (List.mem_of_getElem? (i := 1) rfl)) rfl), (mem_big (tk_3 (List.mem_of_getElem? (i := 139) rfl)) rfl), ⟨by decide, by decide, by decide +kernel⟩⟩
set_option maxRecDepth 20000 in
theorem mv_L_84 : MV RL 84 yX8_alike cX8_alike 2 (some .int) 1 := ⟨(mem_big (tk_5 (List.mem_of_getElem? (i := 138) rfl)) rfl), (mem_big (tk_5 (List.mem_of_getElem? (i := 139) rfl)) rfl), (mem_big (tk_5 (List.mem_of_getElem? (i := 140) rfl)) rfl), (mem_big (tk_1 (List.mem_of_getElem? (i := 10) rfl)) rfl), (mem_big (tk_5 (List.mem_of_getElem? (i := 141) rfl)) rfl), ⟨by decide, by decide, by decide +kernel⟩⟩
set_option maxRecDepth 20000 in
theorem mv_L_85 : MV RL 85 yX7_needed cX7_needed 6 (some .int) 2 := ⟨(mem_big (tk_3 (List.mem_of_getElem? (i := 197) rfl)) rfl), (mem_big (tk_3 (List.mem_of_getElem? (i := 198) rfl)) rfl), (mem_big (tk_3 (List.mem_of_getElem? (i := 199) rfl)) rfl), (mem_big (tk_1 (List.mem_of_getElem? (i := 1) rfl)) rfl), (mem_big (tk_3 (List.mem_of_getElem? (i := 200) rfl)) rfl), ⟨by decide, by decide, by decide +kernel⟩⟩
set_option maxRecDepth 20000 in
theorem mv_L_88 : MV RL 88 yX8_needed cX8_needed 5 (some .int) 2 := ⟨(mem_big (tk_5 (List.mem_of_getElem? (i := 150) rfl)) rfl), (mem_big (tk_5 (List.mem_of_getElem? (i := 151) rfl)) rfl), (mem_big (tk_5 (List.mem_of_getElem? (i := 152) rfl)) rfl), (mem_big (tk_1 (List.mem_of_getElem? (i := 10) rfl)) rfl), (mem_big (tk_5 (List.mem_of_getElem? (i := 153) rfl)) rfl), ⟨by decide, by decide, by decide +kernel⟩⟩
set_option maxRecDepth 20000 in
theorem mv_L_89 : MV RL 89 yX7_away cX7_away 2 (some .int) 0 := ⟨(mem_big (tk_3 (List.mem_of_getElem? (i := 222) rfl)) rfl), (mem_big (tk_3 (List.mem_of_getElem? (i := 223) rfl)) rfl), (mem_big (tk_3 (List.mem_of_getElem? (i := 224) rfl)) rfl), (mem_big (tk_1 (List.mem_of_getElem? (i := 1) rfl)) rfl), (mem_big (tk_3 (List.mem_of_getElem? (i := 225) rfl)) rfl), ⟨by decide, by decide, by decide +kernel⟩⟩
set_option maxRecDepth 20000 in
theorem mv_L_92 : MV RL 92 yX8_away cX8_away 6 (some .int) 0 := ⟨(mem_big (tk_5 (List.mem_of_getElem? (i := 175) rfl)) rfl), (mem_big (tk_5 (List.mem_of_getElem? (i := 176) rfl)) rfl), (mem_big (tk_5 (List.mem_of_getElem? (i := 177) rfl)) rfl), (mem_big (tk_1 (List.mem_of_getElem? (i := 10) rfl)) rfl), (mem_big (tk_5 (List.mem_of_getElem? (i := 178) rfl)) rfl), ⟨by decide, by decide, by decide +kernel⟩⟩
set_option maxRecDepth 20000 in
theorem mv_L_93 : MV RL 93 yX7_called cX7_called 10 (some .int) 2 := ⟨(mem_big (tk_3 (List.mem_of_getElem? (i := 235) rfl)) rfl), (mem_big (tk_3 (List.mem_of_getElem? (i := 236) rfl)) rfl), (mem_big (tk_3 (List.mem_of_getElem? (i := 237) rfl)) rfl), (mem_big (tk_1 (List.mem_of_getElem? (i := 1) rfl)) rfl), (mem_big (tk_3 (List.mem_of_getElem? (i := 238) rfl)) rfl), ⟨by decide, by decide, by decide +kernel⟩⟩
set_option maxRecDepth 20000 in
theorem mv_L_96 : MV RL 96 yX8_called cX8_called 12 (some .int) 2 := ⟨(mem_big (tk_5 (List.mem_of_getElem? (i := 179) rfl)) rfl), (mem_big (tk_5 (List.mem_of_getElem? (i := 180) rfl)) rfl), (mem_big (tk_5 (List.mem_of_getElem? (i := 181) rfl)) rfl), (mem_big (tk_1 (List.mem_of_getElem? (i := 10) rfl)) rfl), (mem_big (tk_5 (List.mem_of_getElem? (i := 182) rfl)) rfl), ⟨by decide, by decide, by decide +kernel⟩⟩
set_option maxRecDepth 20000 in
theorem mv_L_97 : MV RL 97 yX7_write cX7_write 6 (some .int) 4 := ⟨(mem_big (tk_4 (List.mem_of_getElem? (i := 6) rfl)) rfl), (mem_big (tk_4 (List.mem_of_getElem? (i := 7) rfl)) rfl), (mem_big (tk_4 (List.mem_of_getElem? (i := 8) rfl)) rfl), (mem_big (tk_1 (List.mem_of_getElem? (i := 1) rfl)) rfl), (mem_big (tk_4 (List.mem_of_getElem? (i := 9) rfl)) rfl), ⟨by decide, by decide, by decide +kernel⟩⟩
set_option maxRecDepth 20000 in
theorem lc_L_13 : Cond.constantLong RL 13 (4294967295 : Int64) ∈ big := (mem_big (tk_5 (List.mem_of_getElem? (i := 226) rfl)) rfl)
set_option maxRecDepth 20000 in
theorem fg_X0_11 : FG RX0 11 0 0 := ⟨RX0, TX0, 9, rfl, hwX0, by decide, (mem_big (tk_1 (List.mem_of_getElem? (i := 153) rfl)) rfl)⟩
set_option maxRecDepth 20000 in
theorem fg_X0_15 : FG RX0 15 0 1 := ⟨RX0, TX0, 9, rfl, hwX0, by decide, (mem_big (tk_1 (List.mem_of_getElem? (i := 154) rfl)) rfl)⟩
set_option maxRecDepth 20000 in
theorem fg_X0_19 : FG RX0 19 0 2 := ⟨RX0, TX0, 9, rfl, hwX0, by decide, (mem_big (tk_1 (List.mem_of_getElem? (i := 155) rfl)) rfl)⟩
set_option maxRecDepth 20000 in
theorem fg_X0_22 : FG RX0 22 0 3 := ⟨RX0, TX0, 9, rfl, hwX0, by decide, (mem_big (tk_1 (List.mem_of_getElem? (i := 156) rfl)) rfl)⟩
set_option maxRecDepth 20000 in
theorem fg_X0_25 : FG RX0 25 0 4 := ⟨RX0, TX0, 9, rfl, hwX0, by decide, (mem_big (tk_1 (List.mem_of_getElem? (i := 157) rfl)) rfl)⟩
set_option maxRecDepth 20000 in
theorem fg_X0_28 : FG RX0 28 0 5 := ⟨RX0, TX0, 9, rfl, hwX0, by decide, (mem_big (tk_1 (List.mem_of_getElem? (i := 158) rfl)) rfl)⟩
set_option maxRecDepth 20000 in
theorem fg_X0_31 : FG RX0 31 0 8 := ⟨RX0, TX0, 9, rfl, hwX0, by decide, (mem_big (tk_1 (List.mem_of_getElem? (i := 162) rfl)) rfl)⟩
set_option maxRecDepth 20000 in
theorem fg_X0_39 : FG RX0 39 0 7 := ⟨RX0, TX0, 9, rfl, hwX0, by decide, (mem_big (tk_1 (List.mem_of_getElem? (i := 160) rfl)) rfl)⟩
set_option maxRecDepth 20000 in
theorem fg_X0_43 : FG RX0 43 0 6 := ⟨RX0, TX0, 9, rfl, hwX0, by decide, (mem_big (tk_1 (List.mem_of_getElem? (i := 159) rfl)) rfl)⟩
set_option maxRecDepth 20000 in
theorem ms_X0_108 : MS RX0 108 yX0_leaderIn cX0_leaderIn 3 (some .int) 2 := ⟨(mem_big (tk_3 (List.mem_of_getElem? (i := 186) rfl)) rfl), (mem_big (tk_3 (List.mem_of_getElem? (i := 187) rfl)) rfl), (mem_big (tk_1 (List.mem_of_getElem? (i := 8) rfl)) rfl), (mem_big (tk_3 (List.mem_of_getElem? (i := 188) rfl)) rfl), ⟨by decide, by decide, by decide +kernel⟩⟩
set_option maxRecDepth 20000 in
theorem ms_X0_114 : MS RX0 114 yX0_isEnough cX0_isEnough 7 (some .boolean) 3 := ⟨(mem_big (tk_3 (List.mem_of_getElem? (i := 210) rfl)) rfl), (mem_big (tk_3 (List.mem_of_getElem? (i := 211) rfl)) rfl), (mem_big (tk_1 (List.mem_of_getElem? (i := 8) rfl)) rfl), (mem_big (tk_3 (List.mem_of_getElem? (i := 212) rfl)) rfl), ⟨by decide, by decide, by decide +kernel⟩⟩
set_option maxRecDepth 20000 in
theorem ms_X0_118 : MS RX0 118 yX0_partsEnough cX0_partsEnough 7 (some .boolean) 4 := ⟨(mem_big (tk_3 (List.mem_of_getElem? (i := 213) rfl)) rfl), (mem_big (tk_3 (List.mem_of_getElem? (i := 214) rfl)) rfl), (mem_big (tk_1 (List.mem_of_getElem? (i := 8) rfl)) rfl), (mem_big (tk_3 (List.mem_of_getElem? (i := 215) rfl)) rfl), ⟨by decide, by decide, by decide +kernel⟩⟩
set_option maxRecDepth 20000 in
theorem ms_X0_35 : MS RX0 35 yX0_presentIn cX0_presentIn 3 (some .int) 1 := ⟨(mem_big (tk_3 (List.mem_of_getElem? (i := 144) rfl)) rfl), (mem_big (tk_3 (List.mem_of_getElem? (i := 145) rfl)) rfl), (mem_big (tk_1 (List.mem_of_getElem? (i := 8) rfl)) rfl), (mem_big (tk_3 (List.mem_of_getElem? (i := 146) rfl)) rfl), ⟨by decide, by decide, by decide +kernel⟩⟩
set_option maxRecDepth 20000 in
theorem ms_X0_46 : MS RX0 46 yJ7_fill_53178 cJ7_fill_53178 4 none 2 := ⟨(mem_big (tk_3 (List.mem_of_getElem? (i := 148) rfl)) rfl), (mem_big (tk_3 (List.mem_of_getElem? (i := 149) rfl)) rfl), (mem_big (tk_1 (List.mem_of_getElem? (i := 16) rfl)) rfl), (mem_big (tk_3 (List.mem_of_getElem? (i := 150) rfl)) rfl), ⟨by decide, by decide, by decide +kernel⟩⟩
set_option maxRecDepth 20000 in
theorem ms_X0_52 : MS RX0 52 yX0_bathOf cX0_bathOf 1 (some .int) 1 := ⟨(mem_big (tk_3 (List.mem_of_getElem? (i := 151) rfl)) rfl), (mem_big (tk_3 (List.mem_of_getElem? (i := 152) rfl)) rfl), (mem_big (tk_1 (List.mem_of_getElem? (i := 8) rfl)) rfl), (mem_big (tk_3 (List.mem_of_getElem? (i := 153) rfl)) rfl), ⟨by decide, by decide, by decide +kernel⟩⟩
set_option maxRecDepth 20000 in
theorem ms_X0_62 : MS RX0 62 yX0_setOf cX0_setOf 1 (some .int) 1 := ⟨(mem_big (tk_3 (List.mem_of_getElem? (i := 155) rfl)) rfl), (mem_big (tk_3 (List.mem_of_getElem? (i := 156) rfl)) rfl), (mem_big (tk_1 (List.mem_of_getElem? (i := 8) rfl)) rfl), (mem_big (tk_3 (List.mem_of_getElem? (i := 157) rfl)) rfl), ⟨by decide, by decide, by decide +kernel⟩⟩
set_option maxRecDepth 20000 in
theorem ms_X0_82 : MSN RX0 82 yX7_has RX7 cX7_has 2 (some .boolean) 2 := ⟨by decide +kernel, (mem_big (tk_2 (List.mem_of_getElem? (i := 202) rfl)) rfl), (mem_big (tk_1 (List.mem_of_getElem? (i := 1) rfl)) rfl), (mem_big (tk_2 (List.mem_of_getElem? (i := 203) rfl)) rfl), ⟨by decide, by decide, by decide +kernel⟩⟩
set_option maxRecDepth 20000 in
theorem mv_X0_101 : MV RX0 101 yX0_togetherWith cX0_togetherWith 6 (some .int) 2 := ⟨(mem_big (tk_3 (List.mem_of_getElem? (i := 182) rfl)) rfl), (mem_big (tk_3 (List.mem_of_getElem? (i := 184) rfl)) rfl), (mem_big (List.mem_append_left _ (List.mem_map.mpr ⟨_, (List.mem_append_right _ (List.mem_append_left _ (List.mem_of_getElem? (i := 6) rfl : ((⟨"BathWater$Cases", "togetherWith", "(JI)I"⟩ : MethodName), 9) ∈ lw_privs_2))), rfl⟩)) rfl), (mem_big (tk_1 (List.mem_of_getElem? (i := 8) rfl)) rfl), (mem_big (tk_3 (List.mem_of_getElem? (i := 185) rfl)) rfl), ⟨by decide, by decide, by decide +kernel⟩⟩
set_option maxRecDepth 20000 in
theorem mv_X0_105 : MV RX0 105 yX0_partAlikes cX0_partAlikes 3 none 1 := ⟨(mem_big (tk_3 (List.mem_of_getElem? (i := 189) rfl)) rfl), (mem_big (tk_3 (List.mem_of_getElem? (i := 191) rfl)) rfl), (mem_big (List.mem_append_left _ (List.mem_map.mpr ⟨_, (List.mem_append_right _ (List.mem_append_left _ (List.mem_of_getElem? (i := 7) rfl : ((⟨"BathWater$Cases", "partAlikes", "(I)V"⟩ : MethodName), 9) ∈ lw_privs_2))), rfl⟩)) rfl), (mem_big (tk_1 (List.mem_of_getElem? (i := 8) rfl)) rfl), (mem_big (tk_3 (List.mem_of_getElem? (i := 192) rfl)) rfl), ⟨by decide, by decide, by decide +kernel⟩⟩
set_option maxRecDepth 20000 in
theorem mv_X0_111 : MV RX0 111 yX0_alikeTo cX0_alikeTo 2 (some .int) 1 := ⟨(mem_big (tk_3 (List.mem_of_getElem? (i := 205) rfl)) rfl), (mem_big (tk_3 (List.mem_of_getElem? (i := 194) rfl)) rfl), (mem_big (tk_3 (List.mem_of_getElem? (i := 195) rfl)) rfl), (mem_big (tk_1 (List.mem_of_getElem? (i := 8) rfl)) rfl), (mem_big (tk_3 (List.mem_of_getElem? (i := 196) rfl)) rfl), ⟨by decide, by decide, by decide +kernel⟩⟩
set_option maxRecDepth 20000 in
theorem mv_X0_122 : MV RX0 122 yX0_inAllThatPart cX0_inAllThatPart 5 (some .int) 2 := ⟨(mem_big (tk_3 (List.mem_of_getElem? (i := 230) rfl)) rfl), (mem_big (tk_3 (List.mem_of_getElem? (i := 232) rfl)) rfl), (mem_big (List.mem_append_left _ (List.mem_map.mpr ⟨_, (List.mem_append_right _ (List.mem_append_left _ (List.mem_of_getElem? (i := 8) rfl : ((⟨"BathWater$Cases", "inAllThatPart", "(II)I"⟩ : MethodName), 9) ∈ lw_privs_2))), rfl⟩)) rfl), (mem_big (tk_1 (List.mem_of_getElem? (i := 8) rfl)) rfl), (mem_big (tk_3 (List.mem_of_getElem? (i := 233) rfl)) rfl), ⟨by decide, by decide, by decide +kernel⟩⟩
set_option maxRecDepth 20000 in
theorem mv_X0_56 : MV RX0 56 yX3_hasBath cX3_hasBath 2 (some .boolean) 1 := ⟨(mem_big (tk_3 (List.mem_of_getElem? (i := 154) rfl)) rfl), (mem_big (tk_2 (List.mem_of_getElem? (i := 228) rfl)) rfl), (mem_big (tk_2 (List.mem_of_getElem? (i := 229) rfl)) rfl), (mem_big (tk_1 (List.mem_of_getElem? (i := 9) rfl)) rfl), (mem_big (tk_2 (List.mem_of_getElem? (i := 230) rfl)) rfl), ⟨by decide, by decide, by decide +kernel⟩⟩
set_option maxRecDepth 20000 in
theorem mv_X0_65 : MV RX0 65 yX3_hasSet cX3_hasSet 2 (some .boolean) 1 := ⟨(mem_big (tk_3 (List.mem_of_getElem? (i := 158) rfl)) rfl), (mem_big (tk_3 (List.mem_of_getElem? (i := 15) rfl)) rfl), (mem_big (tk_3 (List.mem_of_getElem? (i := 16) rfl)) rfl), (mem_big (tk_1 (List.mem_of_getElem? (i := 9) rfl)) rfl), (mem_big (tk_3 (List.mem_of_getElem? (i := 17) rfl)) rfl), ⟨by decide, by decide, by decide +kernel⟩⟩
set_option maxRecDepth 20000 in
theorem mv_X0_68 : MV RX0 68 yX0_leadersOf cX0_leadersOf 6 (some .long) 2 := ⟨(mem_big (tk_3 (List.mem_of_getElem? (i := 159) rfl)) rfl), (mem_big (tk_3 (List.mem_of_getElem? (i := 161) rfl)) rfl), (mem_big (List.mem_append_left _ (List.mem_map.mpr ⟨_, (List.mem_append_right _ (List.mem_append_left _ (List.mem_of_getElem? (i := 1) rfl : ((⟨"BathWater$Cases", "leadersOf", "(LBathWater$House;I)J"⟩ : MethodName), 9) ∈ lw_privs_2))), rfl⟩)) rfl), (mem_big (tk_1 (List.mem_of_getElem? (i := 8) rfl)) rfl), (mem_big (tk_3 (List.mem_of_getElem? (i := 162) rfl)) rfl), ⟨by decide, by decide, by decide +kernel⟩⟩
set_option maxRecDepth 20000 in
theorem mv_X0_72 : MV RX0 72 yX0_isNew cX0_isNew 3 (some .boolean) 1 := ⟨(mem_big (tk_3 (List.mem_of_getElem? (i := 170) rfl)) rfl), (mem_big (tk_3 (List.mem_of_getElem? (i := 172) rfl)) rfl), (mem_big (List.mem_append_left _ (List.mem_map.mpr ⟨_, (List.mem_append_right _ (List.mem_append_left _ (List.mem_of_getElem? (i := 3) rfl : ((⟨"BathWater$Cases", "isNew", "(I)Z"⟩ : MethodName), 9) ∈ lw_privs_2))), rfl⟩)) rfl), (mem_big (tk_1 (List.mem_of_getElem? (i := 8) rfl)) rfl), (mem_big (tk_3 (List.mem_of_getElem? (i := 173) rfl)) rfl), ⟨by decide, by decide, by decide +kernel⟩⟩
set_option maxRecDepth 20000 in
theorem mv_X0_75 : MV RX0 75 yX0_addUseful cX0_addUseful 5 none 1 := ⟨(mem_big (tk_3 (List.mem_of_getElem? (i := 178) rfl)) rfl), (mem_big (tk_3 (List.mem_of_getElem? (i := 180) rfl)) rfl), (mem_big (List.mem_append_left _ (List.mem_map.mpr ⟨_, (List.mem_append_right _ (List.mem_append_left _ (List.mem_of_getElem? (i := 5) rfl : ((⟨"BathWater$Cases", "addUseful", "(I)V"⟩ : MethodName), 9) ∈ lw_privs_2))), rfl⟩)) rfl), (mem_big (tk_1 (List.mem_of_getElem? (i := 8) rfl)) rfl), (mem_big (tk_3 (List.mem_of_getElem? (i := 181) rfl)) rfl), ⟨by decide, by decide, by decide +kernel⟩⟩
set_option maxRecDepth 20000 in
theorem mv_X0_79 : MV RX0 79 yX3_hasCase cX3_hasCase 2 (some .boolean) 1 := ⟨(mem_big (tk_3 (List.mem_of_getElem? (i := 147) rfl)) rfl), (mem_big (tk_3 (List.mem_of_getElem? (i := 131) rfl)) rfl), (mem_big (tk_3 (List.mem_of_getElem? (i := 132) rfl)) rfl), (mem_big (tk_1 (List.mem_of_getElem? (i := 9) rfl)) rfl), (mem_big (tk_3 (List.mem_of_getElem? (i := 133) rfl)) rfl), ⟨by decide, by decide, by decide +kernel⟩⟩
set_option maxRecDepth 20000 in
theorem mv_X0_86 : MV RX0 86 yX3_inCase cX3_inCase 5 (some .int) 2 := ⟨(mem_big (tk_3 (List.mem_of_getElem? (i := 164) rfl)) rfl), (mem_big (tk_3 (List.mem_of_getElem? (i := 30) rfl)) rfl), (mem_big (tk_3 (List.mem_of_getElem? (i := 31) rfl)) rfl), (mem_big (tk_1 (List.mem_of_getElem? (i := 9) rfl)) rfl), (mem_big (tk_3 (List.mem_of_getElem? (i := 32) rfl)) rfl), ⟨by decide, by decide, by decide +kernel⟩⟩
set_option maxRecDepth 20000 in
theorem mv_X0_90 : MV RX0 90 yX3_heightOf cX3_heightOf 4 (some .int) 3 := ⟨(mem_big (tk_3 (List.mem_of_getElem? (i := 165) rfl)) rfl), (mem_big (tk_3 (List.mem_of_getElem? (i := 36) rfl)) rfl), (mem_big (tk_3 (List.mem_of_getElem? (i := 37) rfl)) rfl), (mem_big (tk_1 (List.mem_of_getElem? (i := 9) rfl)) rfl), (mem_big (tk_3 (List.mem_of_getElem? (i := 38) rfl)) rfl), ⟨by decide, by decide, by decide +kernel⟩⟩
set_option maxRecDepth 20000 in
theorem mv_X0_94 : MV RX0 94 yX0_leaderOf cX0_leaderOf 3 (some .int) 1 := ⟨(mem_big (tk_3 (List.mem_of_getElem? (i := 166) rfl)) rfl), (mem_big (tk_3 (List.mem_of_getElem? (i := 168) rfl)) rfl), (mem_big (List.mem_append_left _ (List.mem_map.mpr ⟨_, (List.mem_append_right _ (List.mem_append_left _ (List.mem_of_getElem? (i := 2) rfl : ((⟨"BathWater$Cases", "leaderOf", "(I)I"⟩ : MethodName), 9) ∈ lw_privs_2))), rfl⟩)) rfl), (mem_big (tk_1 (List.mem_of_getElem? (i := 8) rfl)) rfl), (mem_big (tk_3 (List.mem_of_getElem? (i := 169) rfl)) rfl), ⟨by decide, by decide, by decide +kernel⟩⟩
set_option maxRecDepth 20000 in
theorem mv_X0_97 : MV RX0 97 yX0_leadersAt cX0_leadersAt 2 (some .long) 1 := ⟨(mem_big (tk_3 (List.mem_of_getElem? (i := 174) rfl)) rfl), (mem_big (tk_3 (List.mem_of_getElem? (i := 176) rfl)) rfl), (mem_big (List.mem_append_left _ (List.mem_map.mpr ⟨_, (List.mem_append_right _ (List.mem_append_left _ (List.mem_of_getElem? (i := 4) rfl : ((⟨"BathWater$Cases", "leadersAt", "(I)J"⟩ : MethodName), 9) ∈ lw_privs_2))), rfl⟩)) rfl), (mem_big (tk_1 (List.mem_of_getElem? (i := 8) rfl)) rfl), (mem_big (tk_3 (List.mem_of_getElem? (i := 177) rfl)) rfl), ⟨by decide, by decide, by decide +kernel⟩⟩
set_option maxRecDepth 20000 in
theorem fp_X0_11 : FP RX0 11 0 0 (.array .long) true := ⟨RX0, TX0, 9, tyX0, rfl, hwX0, by decide, (mem_big (tk_1 (List.mem_of_getElem? (i := 153) rfl)) rfl), tyX0_ok, nmX0, rfl, rfl, fun _ => rfl⟩
set_option maxRecDepth 20000 in
theorem fp_X0_15 : FP RX0 15 0 1 (.array .int) true := ⟨RX0, TX0, 9, tyX0, rfl, hwX0, by decide, (mem_big (tk_1 (List.mem_of_getElem? (i := 154) rfl)) rfl), tyX0_ok, nmX0, rfl, rfl, fun _ => rfl⟩
set_option maxRecDepth 20000 in
theorem fp_X0_19 : FP RX0 19 0 2 (.array .int) true := ⟨RX0, TX0, 9, tyX0, rfl, hwX0, by decide, (mem_big (tk_1 (List.mem_of_getElem? (i := 155) rfl)) rfl), tyX0_ok, nmX0, rfl, rfl, fun _ => rfl⟩
set_option maxRecDepth 20000 in
theorem fp_X0_22 : FP RX0 22 0 3 (.array .int) true := ⟨RX0, TX0, 9, tyX0, rfl, hwX0, by decide, (mem_big (tk_1 (List.mem_of_getElem? (i := 156) rfl)) rfl), tyX0_ok, nmX0, rfl, rfl, fun _ => rfl⟩
set_option maxRecDepth 20000 in
theorem fp_X0_25 : FP RX0 25 0 4 (.array .int) true := ⟨RX0, TX0, 9, tyX0, rfl, hwX0, by decide, (mem_big (tk_1 (List.mem_of_getElem? (i := 157) rfl)) rfl), tyX0_ok, nmX0, rfl, rfl, fun _ => rfl⟩
set_option maxRecDepth 20000 in
theorem fp_X0_28 : FP RX0 28 0 5 (.array .int) true := ⟨RX0, TX0, 9, tyX0, rfl, hwX0, by decide, (mem_big (tk_1 (List.mem_of_getElem? (i := 158) rfl)) rfl), tyX0_ok, nmX0, rfl, rfl, fun _ => rfl⟩
set_option maxRecDepth 20000 in
theorem fp_X0_31 : FP RX0 31 0 8 .boolean false := ⟨RX0, TX0, 9, tyX0, rfl, hwX0, by decide, (mem_big (tk_1 (List.mem_of_getElem? (i := 162) rfl)) rfl), tyX0_ok, nmX0, rfl, rfl, fun h => by cases h⟩
set_option maxRecDepth 20000 in
theorem fp_X0_39 : FP RX0 39 0 7 .int false := ⟨RX0, TX0, 9, tyX0, rfl, hwX0, by decide, (mem_big (tk_1 (List.mem_of_getElem? (i := 160) rfl)) rfl), tyX0_ok, nmX0, rfl, rfl, fun h => by cases h⟩
set_option maxRecDepth 20000 in
theorem fp_X0_43 : FP RX0 43 0 6 .int false := ⟨RX0, TX0, 9, tyX0, rfl, hwX0, by decide, (mem_big (tk_1 (List.mem_of_getElem? (i := 159) rfl)) rfl), tyX0_ok, nmX0, rfl, rfl, fun h => by cases h⟩
set_option maxRecDepth 20000 in
theorem fg_X1_15 : FG RX1 15 1 1 := ⟨RX1, TX1, 6, rfl, hwX1, by decide, (mem_big (tk_1 (List.mem_of_getElem? (i := 103) rfl)) rfl)⟩
set_option maxRecDepth 20000 in
theorem fg_X1_18 : FG RX1 18 1 2 := ⟨RX1, TX1, 6, rfl, hwX1, by decide, (mem_big (tk_1 (List.mem_of_getElem? (i := 104) rfl)) rfl)⟩
set_option maxRecDepth 20000 in
theorem fg_X1_21 : FG RX1 21 1 3 := ⟨RX1, TX1, 6, rfl, hwX1, by decide, (mem_big (tk_1 (List.mem_of_getElem? (i := 105) rfl)) rfl)⟩
set_option maxRecDepth 20000 in
theorem fg_X1_24 : FG RX1 24 1 4 := ⟨RX1, TX1, 6, rfl, hwX1, by decide, (mem_big (tk_1 (List.mem_of_getElem? (i := 106) rfl)) rfl)⟩
set_option maxRecDepth 20000 in
theorem fg_X1_31 : FG RX1 31 6 1 := ⟨RX6, TX6, 2, rfl, hwX6, by decide, (mem_big (tk_1 (List.mem_of_getElem? (i := 68) rfl)) rfl)⟩
set_option maxRecDepth 20000 in
theorem fg_X1_41 : FG RX1 41 1 5 := ⟨RX1, TX1, 6, rfl, hwX1, by decide, (mem_big (tk_1 (List.mem_of_getElem? (i := 107) rfl)) rfl)⟩
set_option maxRecDepth 20000 in
theorem fg_X1_9 : FG RX1 9 1 0 := ⟨RX1, TX1, 6, rfl, hwX1, by decide, (mem_big (tk_1 (List.mem_of_getElem? (i := 102) rfl)) rfl)⟩
set_option maxRecDepth 20000 in
theorem ms_X1_75 : MSN RX1 75 yX7_has RX7 cX7_has 2 (some .boolean) 2 := ⟨by decide +kernel, (mem_big (tk_2 (List.mem_of_getElem? (i := 202) rfl)) rfl), (mem_big (tk_1 (List.mem_of_getElem? (i := 1) rfl)) rfl), (mem_big (tk_2 (List.mem_of_getElem? (i := 203) rfl)) rfl), ⟨by decide, by decide, by decide +kernel⟩⟩
set_option maxRecDepth 20000 in
theorem ms_X1_82 : MS RX1 82 yX1_sum cX1_sum 4 (some .int) 2 := ⟨(mem_big (tk_2 (List.mem_of_getElem? (i := 208) rfl)) rfl), (mem_big (tk_2 (List.mem_of_getElem? (i := 209) rfl)) rfl), (mem_big (tk_1 (List.mem_of_getElem? (i := 6) rfl)) rfl), (mem_big (tk_2 (List.mem_of_getElem? (i := 210) rfl)) rfl), ⟨by decide, by decide, by decide +kernel⟩⟩
set_option maxRecDepth 20000 in
theorem ml_X1_86 : Cond.methodLink RX1 86 Lib.Math.max.name ∈ big := (mem_big (tk_2 (List.mem_of_getElem? (i := 211) rfl)) rfl)
set_option maxRecDepth 20000 in
theorem ml_X1_91 : Cond.methodLink RX1 91 Lib.Math.min.name ∈ big := (mem_big (tk_2 (List.mem_of_getElem? (i := 212) rfl)) rfl)
set_option maxRecDepth 20000 in
theorem mv_X1_27 : MV RX1 27 yX1_load cX1_load 7 none 2 := ⟨(mem_big (tk_2 (List.mem_of_getElem? (i := 144) rfl)) rfl), (mem_big (tk_2 (List.mem_of_getElem? (i := 145) rfl)) rfl), (mem_big (tk_2 (List.mem_of_getElem? (i := 146) rfl)) rfl), (mem_big (tk_1 (List.mem_of_getElem? (i := 6) rfl)) rfl), (mem_big (tk_2 (List.mem_of_getElem? (i := 147) rfl)) rfl), ⟨by decide, by decide, by decide +kernel⟩⟩
set_option maxRecDepth 20000 in
theorem mv_X1_37 : MV RX1 37 yX1_stands cX1_stands 7 (some .boolean) 2 := ⟨(mem_big (tk_2 (List.mem_of_getElem? (i := 189) rfl)) rfl), (mem_big (tk_2 (List.mem_of_getElem? (i := 190) rfl)) rfl), (mem_big (tk_2 (List.mem_of_getElem? (i := 191) rfl)) rfl), (mem_big (tk_1 (List.mem_of_getElem? (i := 6) rfl)) rfl), (mem_big (tk_2 (List.mem_of_getElem? (i := 192) rfl)) rfl), ⟨by decide, by decide, by decide +kernel⟩⟩
set_option maxRecDepth 20000 in
theorem mv_X1_45 : MV RX1 45 yX1_reset cX1_reset 3 none 1 := ⟨(mem_big (tk_2 (List.mem_of_getElem? (i := 193) rfl)) rfl), (mem_big (tk_2 (List.mem_of_getElem? (i := 195) rfl)) rfl), (mem_big (List.mem_append_left _ (List.mem_map.mpr ⟨_, (List.mem_append_left _ (List.mem_of_getElem? (i := 12) rfl : ((⟨"BathWater$Ends", "reset", "(LBathWater$House;)V"⟩ : MethodName), 6) ∈ lw_privs_1)), rfl⟩)) rfl), (mem_big (tk_1 (List.mem_of_getElem? (i := 6) rfl)) rfl), (mem_big (tk_2 (List.mem_of_getElem? (i := 196) rfl)) rfl), ⟨by decide, by decide, by decide +kernel⟩⟩
set_option maxRecDepth 20000 in
theorem mv_X1_49 : MV RX1 49 yX6_bathAt cX6_bathAt 2 (some .int) 1 := ⟨(mem_big (tk_2 (List.mem_of_getElem? (i := 148) rfl)) rfl), (mem_big (tk_2 (List.mem_of_getElem? (i := 149) rfl)) rfl), (mem_big (tk_2 (List.mem_of_getElem? (i := 150) rfl)) rfl), (mem_big (tk_1 (List.mem_of_getElem? (i := 3) rfl)) rfl), (mem_big (tk_2 (List.mem_of_getElem? (i := 151) rfl)) rfl), ⟨by decide, by decide, by decide +kernel⟩⟩
set_option maxRecDepth 20000 in
theorem mv_X1_53 : MV RX1 53 yX6_hourAt cX6_hourAt 2 (some .int) 1 := ⟨(mem_big (tk_2 (List.mem_of_getElem? (i := 156) rfl)) rfl), (mem_big (tk_2 (List.mem_of_getElem? (i := 157) rfl)) rfl), (mem_big (tk_2 (List.mem_of_getElem? (i := 158) rfl)) rfl), (mem_big (tk_1 (List.mem_of_getElem? (i := 3) rfl)) rfl), (mem_big (tk_2 (List.mem_of_getElem? (i := 159) rfl)) rfl), ⟨by decide, by decide, by decide +kernel⟩⟩
set_option maxRecDepth 20000 in
theorem mv_X1_56 : MV RX1 56 yX6_heightAt cX6_heightAt 2 (some .int) 1 := ⟨(mem_big (tk_2 (List.mem_of_getElem? (i := 160) rfl)) rfl), (mem_big (tk_2 (List.mem_of_getElem? (i := 161) rfl)) rfl), (mem_big (tk_2 (List.mem_of_getElem? (i := 162) rfl)) rfl), (mem_big (tk_1 (List.mem_of_getElem? (i := 3) rfl)) rfl), (mem_big (tk_2 (List.mem_of_getElem? (i := 163) rfl)) rfl), ⟨by decide, by decide, by decide +kernel⟩⟩
set_option maxRecDepth 20000 in
theorem mv_X1_59 : MV RX1 59 yX6_setAt cX6_setAt 2 (some .int) 1 := ⟨(mem_big (tk_2 (List.mem_of_getElem? (i := 164) rfl)) rfl), (mem_big (tk_2 (List.mem_of_getElem? (i := 165) rfl)) rfl), (mem_big (tk_2 (List.mem_of_getElem? (i := 166) rfl)) rfl), (mem_big (tk_1 (List.mem_of_getElem? (i := 3) rfl)) rfl), (mem_big (tk_2 (List.mem_of_getElem? (i := 167) rfl)) rfl), ⟨by decide, by decide, by decide +kernel⟩⟩
set_option maxRecDepth 20000 in
theorem mv_X1_62 : MV RX1 62 yX3_leastOf cX3_leastOf 5 (some .int) 3 := ⟨(mem_big (tk_2 (List.mem_of_getElem? (i := 168) rfl)) rfl), (mem_big (tk_2 (List.mem_of_getElem? (i := 169) rfl)) rfl), (mem_big (tk_2 (List.mem_of_getElem? (i := 170) rfl)) rfl), (mem_big (tk_1 (List.mem_of_getElem? (i := 9) rfl)) rfl), (mem_big (tk_2 (List.mem_of_getElem? (i := 171) rfl)) rfl), ⟨by decide, by decide, by decide +kernel⟩⟩
set_option maxRecDepth 20000 in
theorem mv_X1_68 : MV RX1 68 yX3_greatestOf cX3_greatestOf 5 (some .int) 3 := ⟨(mem_big (tk_2 (List.mem_of_getElem? (i := 185) rfl)) rfl), (mem_big (tk_2 (List.mem_of_getElem? (i := 186) rfl)) rfl), (mem_big (tk_2 (List.mem_of_getElem? (i := 187) rfl)) rfl), (mem_big (tk_1 (List.mem_of_getElem? (i := 9) rfl)) rfl), (mem_big (tk_2 (List.mem_of_getElem? (i := 188) rfl)) rfl), ⟨by decide, by decide, by decide +kernel⟩⟩
set_option maxRecDepth 20000 in
theorem mv_X1_71 : MV RX1 71 yX3_ofBather cX3_ofBather 4 (some .int) 2 := ⟨(mem_big (tk_2 (List.mem_of_getElem? (i := 197) rfl)) rfl), (mem_big (tk_2 (List.mem_of_getElem? (i := 198) rfl)) rfl), (mem_big (tk_2 (List.mem_of_getElem? (i := 199) rfl)) rfl), (mem_big (tk_1 (List.mem_of_getElem? (i := 9) rfl)) rfl), (mem_big (tk_2 (List.mem_of_getElem? (i := 200) rfl)) rfl), ⟨by decide, by decide, by decide +kernel⟩⟩
set_option maxRecDepth 20000 in
theorem mv_X1_79 : MV RX1 79 yX1_narrow cX1_narrow 9 (some .int) 1 := ⟨(mem_big (tk_2 (List.mem_of_getElem? (i := 204) rfl)) rfl), (mem_big (tk_2 (List.mem_of_getElem? (i := 206) rfl)) rfl), (mem_big (List.mem_append_left _ (List.mem_map.mpr ⟨_, (List.mem_append_left _ (List.mem_of_getElem? (i := 13) rfl : ((⟨"BathWater$Ends", "narrow", "(I)I"⟩ : MethodName), 6) ∈ lw_privs_1)), rfl⟩)) rfl), (mem_big (tk_1 (List.mem_of_getElem? (i := 6) rfl)) rfl), (mem_big (tk_2 (List.mem_of_getElem? (i := 207) rfl)) rfl), ⟨by decide, by decide, by decide +kernel⟩⟩
set_option maxRecDepth 20000 in
theorem mv_X1_94 : MV RX1 94 yX1_lowest cX1_lowest 2 (some .int) 1 := ⟨(mem_big (tk_3 (List.mem_of_getElem? (i := 108) rfl)) rfl), (mem_big (tk_3 (List.mem_of_getElem? (i := 2) rfl)) rfl), (mem_big (tk_3 (List.mem_of_getElem? (i := 3) rfl)) rfl), (mem_big (tk_1 (List.mem_of_getElem? (i := 6) rfl)) rfl), (mem_big (tk_3 (List.mem_of_getElem? (i := 4) rfl)) rfl), ⟨by decide, by decide, by decide +kernel⟩⟩
set_option maxRecDepth 20000 in
theorem mv_X1_97 : MV RX1 97 yX1_highest cX1_highest 2 (some .int) 1 := ⟨(mem_big (tk_3 (List.mem_of_getElem? (i := 109) rfl)) rfl), (mem_big (tk_3 (List.mem_of_getElem? (i := 6) rfl)) rfl), (mem_big (tk_3 (List.mem_of_getElem? (i := 7) rfl)) rfl), (mem_big (tk_1 (List.mem_of_getElem? (i := 6) rfl)) rfl), (mem_big (tk_3 (List.mem_of_getElem? (i := 8) rfl)) rfl), ⟨by decide, by decide, by decide +kernel⟩⟩
set_option maxRecDepth 20000 in
theorem fp_X1_15 : FP RX1 15 1 1 (.array .int) true := ⟨RX1, TX1, 6, tyX1, rfl, hwX1, by decide, (mem_big (tk_1 (List.mem_of_getElem? (i := 103) rfl)) rfl), tyX1_ok, nmX1, rfl, rfl, fun _ => rfl⟩
set_option maxRecDepth 20000 in
theorem fp_X1_18 : FP RX1 18 1 2 (.array .int) true := ⟨RX1, TX1, 6, tyX1, rfl, hwX1, by decide, (mem_big (tk_1 (List.mem_of_getElem? (i := 104) rfl)) rfl), tyX1_ok, nmX1, rfl, rfl, fun _ => rfl⟩
set_option maxRecDepth 20000 in
theorem fp_X1_21 : FP RX1 21 1 3 (.array .int) true := ⟨RX1, TX1, 6, tyX1, rfl, hwX1, by decide, (mem_big (tk_1 (List.mem_of_getElem? (i := 105) rfl)) rfl), tyX1_ok, nmX1, rfl, rfl, fun _ => rfl⟩
set_option maxRecDepth 20000 in
theorem fp_X1_24 : FP RX1 24 1 4 (.array .int) true := ⟨RX1, TX1, 6, tyX1, rfl, hwX1, by decide, (mem_big (tk_1 (List.mem_of_getElem? (i := 106) rfl)) rfl), tyX1_ok, nmX1, rfl, rfl, fun _ => rfl⟩
set_option maxRecDepth 20000 in
theorem fp_X1_41 : FP RX1 41 1 5 .boolean false := ⟨RX1, TX1, 6, tyX1, rfl, hwX1, by decide, (mem_big (tk_1 (List.mem_of_getElem? (i := 107) rfl)) rfl), tyX1_ok, nmX1, rfl, rfl, fun h => by cases h⟩
set_option maxRecDepth 20000 in
theorem fp_X1_9 : FP RX1 9 1 0 (.array .int) true := ⟨RX1, TX1, 6, tyX1, rfl, hwX1, by decide, (mem_big (tk_1 (List.mem_of_getElem? (i := 102) rfl)) rfl), tyX1_ok, nmX1, rfl, rfl, fun _ => rfl⟩
set_option maxRecDepth 20000 in
theorem fg_X2_12 : FG RX2 12 2 0 := ⟨RX2, TX2, 5, rfl, hwX2, by decide, (mem_big (tk_1 (List.mem_of_getElem? (i := 130) rfl)) rfl)⟩
set_option maxRecDepth 20000 in
theorem fg_X2_18 : FG RX2 18 2 1 := ⟨RX2, TX2, 5, rfl, hwX2, by decide, (mem_big (tk_1 (List.mem_of_getElem? (i := 131) rfl)) rfl)⟩
set_option maxRecDepth 20000 in
theorem fg_X2_22 : FG RX2 22 2 3 := ⟨RX2, TX2, 5, rfl, hwX2, by decide, (mem_big (tk_1 (List.mem_of_getElem? (i := 133) rfl)) rfl)⟩
set_option maxRecDepth 20000 in
theorem fg_X2_26 : FG RX2 26 2 4 := ⟨RX2, TX2, 5, rfl, hwX2, by decide, (mem_big (tk_1 (List.mem_of_getElem? (i := 135) rfl)) rfl)⟩
set_option maxRecDepth 20000 in
theorem fg_X2_34 : FG RX2 34 2 2 := ⟨RX2, TX2, 5, rfl, hwX2, by decide, (mem_big (tk_1 (List.mem_of_getElem? (i := 132) rfl)) rfl)⟩
set_option maxRecDepth 20000 in
theorem fg_X2_37 : FG RX2 37 6 1 := ⟨RX6, TX6, 2, rfl, hwX6, by decide, (mem_big (tk_1 (List.mem_of_getElem? (i := 69) rfl)) rfl)⟩
set_option maxRecDepth 20000 in
theorem mi_X2_11 : MIN RX2 11 yX1_init RX7 cX1_init 1 0 := ⟨by decide +kernel, (mem_big (tk_1 (List.mem_of_getElem? (i := 99) rfl)) rfl), (mem_big (tk_1 (List.mem_of_getElem? (i := 6) rfl)) rfl), rfl, (mem_big (tk_1 (List.mem_of_getElem? (i := 100) rfl)) rfl), ⟨by decide, by decide, by decide +kernel⟩⟩
set_option maxRecDepth 20000 in
theorem ms_X2_46 : MS RX2 46 yX2_nextOfLikeCount cX2_nextOfLikeCount 4 (some .int) 2 := ⟨(mem_big (tk_3 (List.mem_of_getElem? (i := 92) rfl)) rfl), (mem_big (tk_3 (List.mem_of_getElem? (i := 93) rfl)) rfl), (mem_big (tk_1 (List.mem_of_getElem? (i := 7) rfl)) rfl), (mem_big (tk_3 (List.mem_of_getElem? (i := 94) rfl)) rfl), ⟨by decide, by decide, by decide +kernel⟩⟩
set_option maxRecDepth 20000 in
theorem ms_X2_58 : MSN RX2 58 yX7_has RX7 cX7_has 2 (some .boolean) 2 := ⟨by decide +kernel, (mem_big (tk_2 (List.mem_of_getElem? (i := 202) rfl)) rfl), (mem_big (tk_1 (List.mem_of_getElem? (i := 1) rfl)) rfl), (mem_big (tk_2 (List.mem_of_getElem? (i := 203) rfl)) rfl), ⟨by decide, by decide, by decide +kernel⟩⟩
set_option maxRecDepth 20000 in
theorem ms_X2_62 : MS RX2 62 yJ6_numberOfTrailingZeros_0f7a4 cJ6_numberOfTrailingZeros_0f7a4 2 (some .int) 1 := ⟨(mem_big (tk_3 (List.mem_of_getElem? (i := 95) rfl)) rfl), (mem_big (tk_3 (List.mem_of_getElem? (i := 96) rfl)) rfl), (mem_big (tk_1 (List.mem_of_getElem? (i := 15) rfl)) rfl), (mem_big (tk_3 (List.mem_of_getElem? (i := 97) rfl)) rfl), ⟨by decide, by decide, by decide +kernel⟩⟩
set_option maxRecDepth 20000 in
theorem mv_X2_30 : MV RX2 30 yX1_load cX1_load 7 none 2 := ⟨(mem_big (tk_3 (List.mem_of_getElem? (i := 81) rfl)) rfl), (mem_big (tk_2 (List.mem_of_getElem? (i := 145) rfl)) rfl), (mem_big (tk_2 (List.mem_of_getElem? (i := 146) rfl)) rfl), (mem_big (tk_1 (List.mem_of_getElem? (i := 6) rfl)) rfl), (mem_big (tk_2 (List.mem_of_getElem? (i := 147) rfl)) rfl), ⟨by decide, by decide, by decide +kernel⟩⟩
set_option maxRecDepth 20000 in
theorem mv_X2_42 : MV RX2 42 yX2_isFree cX2_isFree 5 (some .boolean) 3 := ⟨(mem_big (tk_3 (List.mem_of_getElem? (i := 82) rfl)) rfl), (mem_big (tk_3 (List.mem_of_getElem? (i := 84) rfl)) rfl), (mem_big (List.mem_append_left _ (List.mem_map.mpr ⟨_, (List.mem_append_left _ (List.mem_of_getElem? (i := 15) rfl : ((⟨"BathWater$Falsehood", "isFree", "(LBathWater$House;II)Z"⟩ : MethodName), 5) ∈ lw_privs_1)), rfl⟩)) rfl), (mem_big (tk_1 (List.mem_of_getElem? (i := 7) rfl)) rfl), (mem_big (tk_3 (List.mem_of_getElem? (i := 85) rfl)) rfl), ⟨by decide, by decide, by decide +kernel⟩⟩
set_option maxRecDepth 20000 in
theorem mv_X2_50 : MV RX2 50 yX1_stands cX1_stands 7 (some .boolean) 2 := ⟨(mem_big (tk_3 (List.mem_of_getElem? (i := 86) rfl)) rfl), (mem_big (tk_2 (List.mem_of_getElem? (i := 190) rfl)) rfl), (mem_big (tk_2 (List.mem_of_getElem? (i := 191) rfl)) rfl), (mem_big (tk_1 (List.mem_of_getElem? (i := 6) rfl)) rfl), (mem_big (tk_2 (List.mem_of_getElem? (i := 192) rfl)) rfl), ⟨by decide, by decide, by decide +kernel⟩⟩
set_option maxRecDepth 20000 in
theorem mv_X2_54 : MV RX2 54 yX2_coreOf cX2_coreOf 5 (some .int) 2 := ⟨(mem_big (tk_3 (List.mem_of_getElem? (i := 87) rfl)) rfl), (mem_big (tk_3 (List.mem_of_getElem? (i := 89) rfl)) rfl), (mem_big (List.mem_append_left _ (List.mem_map.mpr ⟨_, (List.mem_append_right _ (List.mem_append_left _ (List.mem_of_getElem? (i := 0) rfl : ((⟨"BathWater$Falsehood", "coreOf", "(LBathWater$House;I)I"⟩ : MethodName), 5) ∈ lw_privs_2))), rfl⟩)) rfl), (mem_big (tk_1 (List.mem_of_getElem? (i := 7) rfl)) rfl), (mem_big (tk_3 (List.mem_of_getElem? (i := 90) rfl)) rfl), ⟨by decide, by decide, by decide +kernel⟩⟩
set_option maxRecDepth 20000 in
theorem fp_X2_12 : FP RX2 12 2 0 (.object "BathWater$Ends") true := ⟨RX2, TX2, 5, tyX2, rfl, hwX2, by decide, (mem_big (tk_1 (List.mem_of_getElem? (i := 130) rfl)) rfl), tyX2_ok, nmX2, rfl, rfl, fun _ => rfl⟩
set_option maxRecDepth 20000 in
theorem fp_X2_18 : FP RX2 18 2 1 (.array .int) true := ⟨RX2, TX2, 5, tyX2, rfl, hwX2, by decide, (mem_big (tk_1 (List.mem_of_getElem? (i := 131) rfl)) rfl), tyX2_ok, nmX2, rfl, rfl, fun _ => rfl⟩
set_option maxRecDepth 20000 in
theorem fp_X2_22 : FP RX2 22 2 3 .boolean false := ⟨RX2, TX2, 5, tyX2, rfl, hwX2, by decide, (mem_big (tk_1 (List.mem_of_getElem? (i := 133) rfl)) rfl), tyX2_ok, nmX2, rfl, rfl, fun h => by cases h⟩
set_option maxRecDepth 20000 in
theorem fp_X2_26 : FP RX2 26 2 4 .int false := ⟨RX2, TX2, 5, tyX2, rfl, hwX2, by decide, (mem_big (tk_1 (List.mem_of_getElem? (i := 135) rfl)) rfl), tyX2_ok, nmX2, rfl, rfl, fun h => by cases h⟩
set_option maxRecDepth 20000 in
theorem fp_X2_34 : FP RX2 34 2 2 .int false := ⟨RX2, TX2, 5, tyX2, rfl, hwX2, by decide, (mem_big (tk_1 (List.mem_of_getElem? (i := 132) rfl)) rfl), tyX2_ok, nmX2, rfl, rfl, fun h => by cases h⟩
set_option maxRecDepth 20000 in
theorem fg_X3_11 : FG RX3 11 3 0 := ⟨RX3, TX3, 5, rfl, hwX3, by decide, (mem_big (tk_1 (List.mem_of_getElem? (i := 190) rfl)) rfl)⟩
set_option maxRecDepth 20000 in
theorem fg_X3_15 : FG RX3 15 3 1 := ⟨RX3, TX3, 5, rfl, hwX3, by decide, (mem_big (tk_1 (List.mem_of_getElem? (i := 191) rfl)) rfl)⟩
set_option maxRecDepth 20000 in
theorem fg_X3_18 : FG RX3 18 3 4 := ⟨RX3, TX3, 5, rfl, hwX3, by decide, (mem_big (tk_1 (List.mem_of_getElem? (i := 198) rfl)) rfl)⟩
set_option maxRecDepth 20000 in
theorem fg_X3_22 : FG RX3 22 3 2 := ⟨RX3, TX3, 5, rfl, hwX3, by decide, (mem_big (tk_1 (List.mem_of_getElem? (i := 192) rfl)) rfl)⟩
set_option maxRecDepth 20000 in
theorem fg_X3_25 : FG RX3 25 3 3 := ⟨RX3, TX3, 5, rfl, hwX3, by decide, (mem_big (tk_1 (List.mem_of_getElem? (i := 195) rfl)) rfl)⟩
set_option maxRecDepth 20000 in
theorem ms_X3_28 : MS RX3 28 yX3_fill cX3_fill 7 none 6 := ⟨(mem_big (tk_2 (List.mem_of_getElem? (i := 119) rfl)) rfl), (mem_big (tk_2 (List.mem_of_getElem? (i := 120) rfl)) rfl), (mem_big (tk_1 (List.mem_of_getElem? (i := 9) rfl)) rfl), (mem_big (tk_2 (List.mem_of_getElem? (i := 121) rfl)) rfl), ⟨by decide, by decide, by decide +kernel⟩⟩
set_option maxRecDepth 20000 in
theorem ml_X3_44 : Cond.methodLink RX3 44 Lib.Math.max.name ∈ big := (mem_big (tk_2 (List.mem_of_getElem? (i := 180) rfl)) rfl)
set_option maxRecDepth 20000 in
theorem ms_X3_59 : MSN RX3 59 yX7_has RX7 cX7_has 2 (some .boolean) 2 := ⟨by decide +kernel, (mem_big (tk_2 (List.mem_of_getElem? (i := 202) rfl)) rfl), (mem_big (tk_1 (List.mem_of_getElem? (i := 1) rfl)) rfl), (mem_big (tk_2 (List.mem_of_getElem? (i := 203) rfl)) rfl), ⟨by decide, by decide, by decide +kernel⟩⟩
set_option maxRecDepth 20000 in
theorem mv_X3_32 : MV RX3 32 yX3_sets cX3_sets 1 (some .int) 0 := ⟨(mem_big (tk_3 (List.mem_of_getElem? (i := 18) rfl)) rfl), (mem_big (tk_3 (List.mem_of_getElem? (i := 19) rfl)) rfl), (mem_big (tk_3 (List.mem_of_getElem? (i := 20) rfl)) rfl), (mem_big (tk_1 (List.mem_of_getElem? (i := 9) rfl)) rfl), (mem_big (tk_3 (List.mem_of_getElem? (i := 21) rfl)) rfl), ⟨by decide, by decide, by decide +kernel⟩⟩
set_option maxRecDepth 20000 in
theorem mv_X3_36 : MV RX3 36 yX3_hasBather cX3_hasBather 2 (some .boolean) 1 := ⟨(mem_big (tk_3 (List.mem_of_getElem? (i := 134) rfl)) rfl), (mem_big (tk_2 (List.mem_of_getElem? (i := 238) rfl)) rfl), (mem_big (tk_2 (List.mem_of_getElem? (i := 239) rfl)) rfl), (mem_big (tk_1 (List.mem_of_getElem? (i := 9) rfl)) rfl), (mem_big (tk_3 (List.mem_of_getElem? (i := 0) rfl)) rfl), ⟨by decide, by decide, by decide +kernel⟩⟩
set_option maxRecDepth 20000 in
theorem mv_X3_40 : MV RX3 40 yX3_ofBath cX3_ofBath 4 (some .int) 2 := ⟨(mem_big (tk_2 (List.mem_of_getElem? (i := 176) rfl)) rfl), (mem_big (tk_2 (List.mem_of_getElem? (i := 177) rfl)) rfl), (mem_big (tk_2 (List.mem_of_getElem? (i := 178) rfl)) rfl), (mem_big (tk_1 (List.mem_of_getElem? (i := 9) rfl)) rfl), (mem_big (tk_2 (List.mem_of_getElem? (i := 179) rfl)) rfl), ⟨by decide, by decide, by decide +kernel⟩⟩
set_option maxRecDepth 20000 in
theorem mv_X3_49 : MV RX3 49 yX3_waterAt cX3_waterAt 3 (some .int) 2 := ⟨(mem_big (tk_2 (List.mem_of_getElem? (i := 181) rfl)) rfl), (mem_big (tk_2 (List.mem_of_getElem? (i := 182) rfl)) rfl), (mem_big (tk_2 (List.mem_of_getElem? (i := 183) rfl)) rfl), (mem_big (tk_1 (List.mem_of_getElem? (i := 9) rfl)) rfl), (mem_big (tk_2 (List.mem_of_getElem? (i := 184) rfl)) rfl), ⟨by decide, by decide, by decide +kernel⟩⟩
set_option maxRecDepth 20000 in
theorem mv_X3_52 : MV RX3 52 yX3_measure cX3_measure 2 (some .int) 1 := ⟨(mem_big (tk_2 (List.mem_of_getElem? (i := 172) rfl)) rfl), (mem_big (tk_2 (List.mem_of_getElem? (i := 173) rfl)) rfl), (mem_big (tk_2 (List.mem_of_getElem? (i := 174) rfl)) rfl), (mem_big (tk_1 (List.mem_of_getElem? (i := 9) rfl)) rfl), (mem_big (tk_2 (List.mem_of_getElem? (i := 175) rfl)) rfl), ⟨by decide, by decide, by decide +kernel⟩⟩
set_option maxRecDepth 20000 in
theorem mv_X3_56 : MV RX3 56 yX3_inCase cX3_inCase 5 (some .int) 2 := ⟨(mem_big (tk_3 (List.mem_of_getElem? (i := 29) rfl)) rfl), (mem_big (tk_3 (List.mem_of_getElem? (i := 30) rfl)) rfl), (mem_big (tk_3 (List.mem_of_getElem? (i := 31) rfl)) rfl), (mem_big (tk_1 (List.mem_of_getElem? (i := 9) rfl)) rfl), (mem_big (tk_3 (List.mem_of_getElem? (i := 32) rfl)) rfl), ⟨by decide, by decide, by decide +kernel⟩⟩
set_option maxRecDepth 20000 in
theorem mv_X3_63 : MV RX3 63 yX3_ofBather cX3_ofBather 4 (some .int) 2 := ⟨(mem_big (tk_3 (List.mem_of_getElem? (i := 34) rfl)) rfl), (mem_big (tk_2 (List.mem_of_getElem? (i := 198) rfl)) rfl), (mem_big (tk_2 (List.mem_of_getElem? (i := 199) rfl)) rfl), (mem_big (tk_1 (List.mem_of_getElem? (i := 9) rfl)) rfl), (mem_big (tk_2 (List.mem_of_getElem? (i := 200) rfl)) rfl), ⟨by decide, by decide, by decide +kernel⟩⟩
set_option maxRecDepth 20000 in
theorem lc_X3_66 : Cond.constantLong RX3 66 (1000000000 : Int64) ∈ big := (mem_big (tk_3 (List.mem_of_getElem? (i := 118) rfl)) rfl)
set_option maxRecDepth 20000 in
theorem lc_X3_68 : Cond.constantLong RX3 68 (100 : Int64) ∈ big := (mem_big (tk_3 (List.mem_of_getElem? (i := 119) rfl)) rfl)
set_option maxRecDepth 20000 in
theorem fp_X3_11 : FP RX3 11 3 0 (.array .int) true := ⟨RX3, TX3, 5, tyX3, rfl, hwX3, by decide, (mem_big (tk_1 (List.mem_of_getElem? (i := 190) rfl)) rfl), tyX3_ok, nmX3, rfl, rfl, fun _ => rfl⟩
set_option maxRecDepth 20000 in
theorem fp_X3_15 : FP RX3 15 3 1 (.array .int) true := ⟨RX3, TX3, 5, tyX3, rfl, hwX3, by decide, (mem_big (tk_1 (List.mem_of_getElem? (i := 191) rfl)) rfl), tyX3_ok, nmX3, rfl, rfl, fun _ => rfl⟩
set_option maxRecDepth 20000 in
theorem fp_X3_18 : FP RX3 18 3 4 .int false := ⟨RX3, TX3, 5, tyX3, rfl, hwX3, by decide, (mem_big (tk_1 (List.mem_of_getElem? (i := 198) rfl)) rfl), tyX3_ok, nmX3, rfl, rfl, fun h => by cases h⟩
set_option maxRecDepth 20000 in
theorem fp_X3_22 : FP RX3 22 3 2 .int false := ⟨RX3, TX3, 5, tyX3, rfl, hwX3, by decide, (mem_big (tk_1 (List.mem_of_getElem? (i := 192) rfl)) rfl), tyX3_ok, nmX3, rfl, rfl, fun h => by cases h⟩
set_option maxRecDepth 20000 in
theorem fp_X3_25 : FP RX3 25 3 3 .int false := ⟨RX3, TX3, 5, tyX3, rfl, hwX3, by decide, (mem_big (tk_1 (List.mem_of_getElem? (i := 195) rfl)) rfl), tyX3_ok, nmX3, rfl, rfl, fun h => by cases h⟩
set_option maxRecDepth 20000 in
theorem mi_X4_11 : MI RX4 11 yX6_init cX6_init 2 1 := ⟨(mem_big (tk_1 (List.mem_of_getElem? (i := 84) rfl)) rfl), (mem_big (tk_1 (List.mem_of_getElem? (i := 60) rfl)) rfl), (mem_big (tk_1 (List.mem_of_getElem? (i := 3) rfl)) rfl), rfl, (mem_big (tk_1 (List.mem_of_getElem? (i := 61) rfl)) rfl), ⟨by decide, by decide, by decide +kernel⟩⟩
set_option maxRecDepth 20000 in
theorem fp_X4_14 : FP RX4 14 4 0 (.object "BathWater$Rows") true := ⟨RX4, TX4, 3, tyX4, rfl, hwX4, by decide, (mem_big (tk_1 (List.mem_of_getElem? (i := 85) rfl)) rfl), tyX4_ok, nmX4, rfl, rfl, fun _ => rfl⟩
set_option maxRecDepth 20000 in
theorem fg_X5_19 : FG RX5 19 5 1 := ⟨RX5, TX5, 7, rfl, hwX5, by decide, (mem_big (tk_1 (List.mem_of_getElem? (i := 32) rfl)) rfl)⟩
set_option maxRecDepth 20000 in
theorem fg_X5_27 : FG RX5 27 5 2 := ⟨RX5, TX5, 7, rfl, hwX5, by decide, (mem_big (tk_1 (List.mem_of_getElem? (i := 34) rfl)) rfl)⟩
set_option maxRecDepth 20000 in
theorem fg_X5_30 : FG RX5 30 5 4 := ⟨RX5, TX5, 7, rfl, hwX5, by decide, (mem_big (tk_1 (List.mem_of_getElem? (i := 38) rfl)) rfl)⟩
set_option maxRecDepth 20000 in
theorem fg_X5_33 : FG RX5 33 5 6 := ⟨RX5, TX5, 7, rfl, hwX5, by decide, (mem_big (tk_1 (List.mem_of_getElem? (i := 40) rfl)) rfl)⟩
set_option maxRecDepth 20000 in
theorem fg_X5_58 : FG RX5 58 3 2 := ⟨RX3, TX3, 5, rfl, hwX3, by decide, (mem_big (tk_1 (List.mem_of_getElem? (i := 193) rfl)) rfl)⟩
set_option maxRecDepth 20000 in
theorem fg_X5_70 : FG RX5 70 3 3 := ⟨RX3, TX3, 5, rfl, hwX3, by decide, (mem_big (tk_1 (List.mem_of_getElem? (i := 197) rfl)) rfl)⟩
set_option maxRecDepth 20000 in
theorem fg_X5_9 : FG RX5 9 5 0 := ⟨RX5, TX5, 7, rfl, hwX5, by decide, (mem_big (tk_1 (List.mem_of_getElem? (i := 31) rfl)) rfl)⟩
set_option maxRecDepth 20000 in
theorem fg_X5_92 : FG RX5 92 5 5 := ⟨RX5, TX5, 7, rfl, hwX5, by decide, (mem_big (tk_1 (List.mem_of_getElem? (i := 39) rfl)) rfl)⟩
set_option maxRecDepth 20000 in
theorem ms_X5_100 : MS RX5 100 yX5_isFigure cX5_isFigure 1 (some .boolean) 1 := ⟨(mem_big (tk_2 (List.mem_of_getElem? (i := 108) rfl)) rfl), (mem_big (tk_2 (List.mem_of_getElem? (i := 109) rfl)) rfl), (mem_big (tk_1 (List.mem_of_getElem? (i := 2) rfl)) rfl), (mem_big (tk_2 (List.mem_of_getElem? (i := 110) rfl)) rfl), ⟨by decide, by decide, by decide +kernel⟩⟩
set_option maxRecDepth 20000 in
theorem ms_X5_48 : MS RX5 48 yX5_isLetter cX5_isLetter 1 (some .boolean) 1 := ⟨(mem_big (tk_2 (List.mem_of_getElem? (i := 40) rfl)) rfl), (mem_big (tk_2 (List.mem_of_getElem? (i := 41) rfl)) rfl), (mem_big (tk_1 (List.mem_of_getElem? (i := 2) rfl)) rfl), (mem_big (tk_2 (List.mem_of_getElem? (i := 42) rfl)) rfl), ⟨by decide, by decide, by decide +kernel⟩⟩
set_option maxRecDepth 20000 in
theorem mv_X5_103 : MV RX5 103 yJ0_length_8abf5 cJ0_length_8abf5 1 (some .int) 0 := ⟨(mem_big (tk_2 (List.mem_of_getElem? (i := 48) rfl)) rfl), (mem_big (tk_2 (List.mem_of_getElem? (i := 49) rfl)) rfl), (mem_big (tk_2 (List.mem_of_getElem? (i := 50) rfl)) rfl), (mem_big (tk_1 (List.mem_of_getElem? (i := 11) rfl)) rfl), (mem_big (tk_2 (List.mem_of_getElem? (i := 51) rfl)) rfl), ⟨by decide, by decide, by decide +kernel⟩⟩
set_option maxRecDepth 20000 in
theorem mv_X5_108 : MV RX5 108 yJ0_charAt_5068e cJ0_charAt_5068e 2 (some .char) 1 := ⟨(mem_big (tk_2 (List.mem_of_getElem? (i := 58) rfl)) rfl), (mem_big (tk_2 (List.mem_of_getElem? (i := 59) rfl)) rfl), (mem_big (tk_2 (List.mem_of_getElem? (i := 60) rfl)) rfl), (mem_big (tk_1 (List.mem_of_getElem? (i := 11) rfl)) rfl), (mem_big (tk_2 (List.mem_of_getElem? (i := 61) rfl)) rfl), ⟨by decide, by decide, by decide +kernel⟩⟩
set_option maxRecDepth 20000 in
theorem mv_X5_22 : MV RX5 22 yX3_clear cX3_clear 1 none 0 := ⟨(mem_big (tk_2 (List.mem_of_getElem? (i := 24) rfl)) rfl), (mem_big (tk_2 (List.mem_of_getElem? (i := 25) rfl)) rfl), (mem_big (tk_2 (List.mem_of_getElem? (i := 26) rfl)) rfl), (mem_big (tk_1 (List.mem_of_getElem? (i := 9) rfl)) rfl), (mem_big (tk_2 (List.mem_of_getElem? (i := 27) rfl)) rfl), ⟨by decide, by decide, by decide +kernel⟩⟩
set_option maxRecDepth 20000 in
theorem mv_X5_37 : MV RX5 37 yX5_skipBlanks cX5_skipBlanks 2 none 0 := ⟨(mem_big (tk_2 (List.mem_of_getElem? (i := 28) rfl)) rfl), (mem_big (tk_2 (List.mem_of_getElem? (i := 30) rfl)) rfl), (mem_big (List.mem_append_left _ (List.mem_map.mpr ⟨_, (List.mem_append_left _ (List.mem_of_getElem? (i := 0) rfl : ((⟨"BathWater$Reader", "skipBlanks", "()V"⟩ : MethodName), 7) ∈ lw_privs_1)), rfl⟩)) rfl), (mem_big (tk_1 (List.mem_of_getElem? (i := 2) rfl)) rfl), (mem_big (tk_2 (List.mem_of_getElem? (i := 31) rfl)) rfl), ⟨by decide, by decide, by decide +kernel⟩⟩
set_option maxRecDepth 20000 in
theorem mv_X5_40 : MV RX5 40 yX5_readClause cX5_readClause 4 none 1 := ⟨(mem_big (tk_2 (List.mem_of_getElem? (i := 36) rfl)) rfl), (mem_big (tk_2 (List.mem_of_getElem? (i := 38) rfl)) rfl), (mem_big (List.mem_append_left _ (List.mem_map.mpr ⟨_, (List.mem_append_left _ (List.mem_of_getElem? (i := 2) rfl : ((⟨"BathWater$Reader", "readClause", "(LBathWater$House;)V"⟩ : MethodName), 7) ∈ lw_privs_1)), rfl⟩)) rfl), (mem_big (tk_1 (List.mem_of_getElem? (i := 2) rfl)) rfl), (mem_big (tk_2 (List.mem_of_getElem? (i := 39) rfl)) rfl), ⟨by decide, by decide, by decide +kernel⟩⟩
set_option maxRecDepth 20000 in
theorem mv_X5_44 : MV RX5 44 yX5_signAt cX5_signAt 2 (some .int) 1 := ⟨(mem_big (tk_2 (List.mem_of_getElem? (i := 32) rfl)) rfl), (mem_big (tk_2 (List.mem_of_getElem? (i := 34) rfl)) rfl), (mem_big (List.mem_append_left _ (List.mem_map.mpr ⟨_, (List.mem_append_left _ (List.mem_of_getElem? (i := 1) rfl : ((⟨"BathWater$Reader", "signAt", "(I)I"⟩ : MethodName), 7) ∈ lw_privs_1)), rfl⟩)) rfl), (mem_big (tk_1 (List.mem_of_getElem? (i := 2) rfl)) rfl), (mem_big (tk_2 (List.mem_of_getElem? (i := 35) rfl)) rfl), ⟨by decide, by decide, by decide +kernel⟩⟩
set_option maxRecDepth 20000 in
theorem mv_X5_54 : MV RX5 54 yX5_wordIs cX5_wordIs 4 (some .boolean) 2 := ⟨(mem_big (tk_2 (List.mem_of_getElem? (i := 44) rfl)) rfl), (mem_big (tk_2 (List.mem_of_getElem? (i := 46) rfl)) rfl), (mem_big (List.mem_append_left _ (List.mem_map.mpr ⟨_, (List.mem_append_left _ (List.mem_of_getElem? (i := 3) rfl : ((⟨"BathWater$Reader", "wordIs", "(Ljava/lang/String;I)Z"⟩ : MethodName), 7) ∈ lw_privs_1)), rfl⟩)) rfl), (mem_big (tk_1 (List.mem_of_getElem? (i := 2) rfl)) rfl), (mem_big (tk_2 (List.mem_of_getElem? (i := 47) rfl)) rfl), ⟨by decide, by decide, by decide +kernel⟩⟩
set_option maxRecDepth 20000 in
theorem mv_X5_61 : MV RX5 61 yX5_failIf cX5_failIf 4 none 3 := ⟨(mem_big (tk_2 (List.mem_of_getElem? (i := 96) rfl)) rfl), (mem_big (tk_2 (List.mem_of_getElem? (i := 98) rfl)) rfl), (mem_big (List.mem_append_left _ (List.mem_map.mpr ⟨_, (List.mem_append_left _ (List.mem_of_getElem? (i := 4) rfl : ((⟨"BathWater$Reader", "failIf", "(ZII)V"⟩ : MethodName), 7) ∈ lw_privs_1)), rfl⟩)) rfl), (mem_big (tk_1 (List.mem_of_getElem? (i := 2) rfl)) rfl), (mem_big (tk_2 (List.mem_of_getElem? (i := 99) rfl)) rfl), ⟨by decide, by decide, by decide +kernel⟩⟩
set_option maxRecDepth 20000 in
theorem mv_X5_65 : MV RX5 65 yX5_readBath cX5_readBath 6 none 1 := ⟨(mem_big (tk_2 (List.mem_of_getElem? (i := 100) rfl)) rfl), (mem_big (tk_2 (List.mem_of_getElem? (i := 102) rfl)) rfl), (mem_big (List.mem_append_left _ (List.mem_map.mpr ⟨_, (List.mem_append_left _ (List.mem_of_getElem? (i := 5) rfl : ((⟨"BathWater$Reader", "readBath", "(LBathWater$House;)V"⟩ : MethodName), 7) ∈ lw_privs_1)), rfl⟩)) rfl), (mem_big (tk_1 (List.mem_of_getElem? (i := 2) rfl)) rfl), (mem_big (tk_2 (List.mem_of_getElem? (i := 103) rfl)) rfl), ⟨by decide, by decide, by decide +kernel⟩⟩
set_option maxRecDepth 20000 in
theorem mv_X5_73 : MV RX5 73 yX5_readBather cX5_readBather 6 none 1 := ⟨(mem_big (tk_2 (List.mem_of_getElem? (i := 123) rfl)) rfl), (mem_big (tk_2 (List.mem_of_getElem? (i := 125) rfl)) rfl), (mem_big (List.mem_append_left _ (List.mem_map.mpr ⟨_, (List.mem_append_left _ (List.mem_of_getElem? (i := 8) rfl : ((⟨"BathWater$Reader", "readBather", "(LBathWater$House;)V"⟩ : MethodName), 7) ∈ lw_privs_1)), rfl⟩)) rfl), (mem_big (tk_1 (List.mem_of_getElem? (i := 2) rfl)) rfl), (mem_big (tk_2 (List.mem_of_getElem? (i := 126) rfl)) rfl), ⟨by decide, by decide, by decide +kernel⟩⟩
set_option maxRecDepth 20000 in
theorem mv_X5_78 : MV RX5 78 yX5_readOdd cX5_readOdd 3 none 1 := ⟨(mem_big (tk_2 (List.mem_of_getElem? (i := 132) rfl)) rfl), (mem_big (tk_2 (List.mem_of_getElem? (i := 134) rfl)) rfl), (mem_big (List.mem_append_left _ (List.mem_map.mpr ⟨_, (List.mem_append_left _ (List.mem_of_getElem? (i := 9) rfl : ((⟨"BathWater$Reader", "readOdd", "(LBathWater$House;)V"⟩ : MethodName), 7) ∈ lw_privs_1)), rfl⟩)) rfl), (mem_big (tk_1 (List.mem_of_getElem? (i := 2) rfl)) rfl), (mem_big (tk_2 (List.mem_of_getElem? (i := 135) rfl)) rfl), ⟨by decide, by decide, by decide +kernel⟩⟩
set_option maxRecDepth 20000 in
theorem mv_X5_81 : MV RX5 81 yX5_readNumber cX5_readNumber 5 (some .int) 2 := ⟨(mem_big (tk_2 (List.mem_of_getElem? (i := 104) rfl)) rfl), (mem_big (tk_2 (List.mem_of_getElem? (i := 106) rfl)) rfl), (mem_big (List.mem_append_left _ (List.mem_map.mpr ⟨_, (List.mem_append_left _ (List.mem_of_getElem? (i := 6) rfl : ((⟨"BathWater$Reader", "readNumber", "(II)I"⟩ : MethodName), 7) ∈ lw_privs_1)), rfl⟩)) rfl), (mem_big (tk_1 (List.mem_of_getElem? (i := 2) rfl)) rfl), (mem_big (tk_2 (List.mem_of_getElem? (i := 107) rfl)) rfl), ⟨by decide, by decide, by decide +kernel⟩⟩
set_option maxRecDepth 20000 in
theorem mv_X5_85 : MV RX5 85 yX5_readEnd cX5_readEnd 1 none 0 := ⟨(mem_big (tk_2 (List.mem_of_getElem? (i := 111) rfl)) rfl), (mem_big (tk_2 (List.mem_of_getElem? (i := 113) rfl)) rfl), (mem_big (List.mem_append_left _ (List.mem_map.mpr ⟨_, (List.mem_append_left _ (List.mem_of_getElem? (i := 7) rfl : ((⟨"BathWater$Reader", "readEnd", "()V"⟩ : MethodName), 7) ∈ lw_privs_1)), rfl⟩)) rfl), (mem_big (tk_1 (List.mem_of_getElem? (i := 2) rfl)) rfl), (mem_big (tk_2 (List.mem_of_getElem? (i := 114) rfl)) rfl), ⟨by decide, by decide, by decide +kernel⟩⟩
set_option maxRecDepth 20000 in
theorem mv_X5_88 : MV RX5 88 yX3_addBath cX3_addBath 5 none 4 := ⟨(mem_big (tk_2 (List.mem_of_getElem? (i := 115) rfl)) rfl), (mem_big (tk_2 (List.mem_of_getElem? (i := 116) rfl)) rfl), (mem_big (tk_2 (List.mem_of_getElem? (i := 117) rfl)) rfl), (mem_big (tk_1 (List.mem_of_getElem? (i := 9) rfl)) rfl), (mem_big (tk_2 (List.mem_of_getElem? (i := 118) rfl)) rfl), ⟨by decide, by decide, by decide +kernel⟩⟩
set_option maxRecDepth 20000 in
theorem mv_X5_95 : MV RX5 95 yX3_addBather cX3_addBather 5 none 4 := ⟨(mem_big (tk_2 (List.mem_of_getElem? (i := 127) rfl)) rfl), (mem_big (tk_2 (List.mem_of_getElem? (i := 128) rfl)) rfl), (mem_big (tk_2 (List.mem_of_getElem? (i := 129) rfl)) rfl), (mem_big (tk_1 (List.mem_of_getElem? (i := 9) rfl)) rfl), (mem_big (tk_2 (List.mem_of_getElem? (i := 130) rfl)) rfl), ⟨by decide, by decide, by decide +kernel⟩⟩
set_option maxRecDepth 20000 in
theorem fp_X5_15 : FP RX5 15 5 3 .int false := ⟨RX5, TX5, 7, tyX5, rfl, hwX5, by decide, (mem_big (tk_1 (List.mem_of_getElem? (i := 36) rfl)) rfl), tyX5_ok, nmX5, rfl, rfl, fun h => by cases h⟩
set_option maxRecDepth 20000 in
theorem fp_X5_19 : FP RX5 19 5 1 .int false := ⟨RX5, TX5, 7, tyX5, rfl, hwX5, by decide, (mem_big (tk_1 (List.mem_of_getElem? (i := 32) rfl)) rfl), tyX5_ok, nmX5, rfl, rfl, fun h => by cases h⟩
set_option maxRecDepth 20000 in
theorem fp_X5_27 : FP RX5 27 5 2 .int false := ⟨RX5, TX5, 7, tyX5, rfl, hwX5, by decide, (mem_big (tk_1 (List.mem_of_getElem? (i := 34) rfl)) rfl), tyX5_ok, nmX5, rfl, rfl, fun h => by cases h⟩
set_option maxRecDepth 20000 in
theorem fp_X5_30 : FP RX5 30 5 4 .int false := ⟨RX5, TX5, 7, tyX5, rfl, hwX5, by decide, (mem_big (tk_1 (List.mem_of_getElem? (i := 38) rfl)) rfl), tyX5_ok, nmX5, rfl, rfl, fun h => by cases h⟩
set_option maxRecDepth 20000 in
theorem fp_X5_33 : FP RX5 33 5 6 .boolean false := ⟨RX5, TX5, 7, tyX5, rfl, hwX5, by decide, (mem_big (tk_1 (List.mem_of_getElem? (i := 40) rfl)) rfl), tyX5_ok, nmX5, rfl, rfl, fun h => by cases h⟩
set_option maxRecDepth 20000 in
theorem fp_X5_9 : FP RX5 9 5 0 (.array .byte) true := ⟨RX5, TX5, 7, tyX5, rfl, hwX5, by decide, (mem_big (tk_1 (List.mem_of_getElem? (i := 31) rfl)) rfl), tyX5_ok, nmX5, rfl, rfl, fun _ => rfl⟩
set_option maxRecDepth 20000 in
theorem fp_X5_92 : FP RX5 92 5 5 .int false := ⟨RX5, TX5, 7, tyX5, rfl, hwX5, by decide, (mem_big (tk_1 (List.mem_of_getElem? (i := 39) rfl)) rfl), tyX5_ok, nmX5, rfl, rfl, fun h => by cases h⟩
set_option maxRecDepth 20000 in
theorem fp_X5_98 : FP RX5 98 3 4 .int false := ⟨RX3, TX3, 5, tyX3, rfl, hwX3, by decide, (mem_big (tk_1 (List.mem_of_getElem? (i := 200) rfl)) rfl), tyX3_ok, nmX3, rfl, rfl, fun h => by cases h⟩
set_option maxRecDepth 20000 in
theorem fg_X6_15 : FG RX6 15 6 0 := ⟨RX6, TX6, 2, rfl, hwX6, by decide, (mem_big (tk_1 (List.mem_of_getElem? (i := 66) rfl)) rfl)⟩
set_option maxRecDepth 20000 in
theorem fg_X6_19 : FG RX6 19 6 1 := ⟨RX6, TX6, 2, rfl, hwX6, by decide, (mem_big (tk_1 (List.mem_of_getElem? (i := 67) rfl)) rfl)⟩
set_option maxRecDepth 20000 in
theorem ml_X6_7 : Cond.methodLink RX6 7 Lib.Math.max.name ∈ big := (mem_big (tk_1 (List.mem_of_getElem? (i := 63) rfl)) rfl)
set_option maxRecDepth 20000 in
theorem mv_X6_23 : MV RX6 23 yX6_cellAt cX6_cellAt 4 (some .int) 2 := ⟨(mem_big (tk_2 (List.mem_of_getElem? (i := 152) rfl)) rfl), (mem_big (tk_2 (List.mem_of_getElem? (i := 154) rfl)) rfl), (mem_big (List.mem_append_left _ (List.mem_map.mpr ⟨_, (List.mem_append_left _ (List.mem_of_getElem? (i := 11) rfl : ((⟨"BathWater$Rows", "cellAt", "(II)I"⟩ : MethodName), 2) ∈ lw_privs_1)), rfl⟩)) rfl), (mem_big (tk_1 (List.mem_of_getElem? (i := 3) rfl)) rfl), (mem_big (tk_2 (List.mem_of_getElem? (i := 155) rfl)) rfl), ⟨by decide, by decide, by decide +kernel⟩⟩
set_option maxRecDepth 20000 in
theorem fp_X6_15 : FP RX6 15 6 0 (.array .int) true := ⟨RX6, TX6, 2, tyX6, rfl, hwX6, by decide, (mem_big (tk_1 (List.mem_of_getElem? (i := 66) rfl)) rfl), tyX6_ok, nmX6, rfl, rfl, fun _ => rfl⟩
set_option maxRecDepth 20000 in
theorem fp_X6_19 : FP RX6 19 6 1 .int false := ⟨RX6, TX6, 2, tyX6, rfl, hwX6, by decide, (mem_big (tk_1 (List.mem_of_getElem? (i := 67) rfl)) rfl), tyX6_ok, nmX6, rfl, rfl, fun h => by cases h⟩
set_option maxRecDepth 20000 in
theorem fg_X7_10 : FG RX7 10 7 0 := ⟨RX7, TX7, 11, rfl, hwX7, by decide, (mem_big (tk_1 (List.mem_of_getElem? (i := 212) rfl)) rfl)⟩
set_option maxRecDepth 20000 in
theorem fg_X7_102 : FG RX7 102 5 3 := ⟨RX5, TX5, 7, rfl, hwX5, by decide, (mem_big (tk_1 (List.mem_of_getElem? (i := 37) rfl)) rfl)⟩
set_option maxRecDepth 20000 in
theorem fg_X7_105 : FG RX7 105 3 2 := ⟨RX3, TX3, 5, rfl, hwX3, by decide, (mem_big (tk_1 (List.mem_of_getElem? (i := 194) rfl)) rfl)⟩
set_option maxRecDepth 20000 in
theorem fg_X7_108 : FG RX7 108 3 4 := ⟨RX3, TX3, 5, rfl, hwX3, by decide, (mem_big (tk_1 (List.mem_of_getElem? (i := 199) rfl)) rfl)⟩
set_option maxRecDepth 20000 in
theorem fg_X7_111 : FG RX7 111 1 5 := ⟨RX1, TX1, 6, rfl, hwX1, by decide, (mem_big (tk_1 (List.mem_of_getElem? (i := 108) rfl)) rfl)⟩
set_option maxRecDepth 20000 in
theorem fg_X7_202 : FG RX7 202 0 7 := ⟨RX0, TX0, 9, rfl, hwX0, by decide, (mem_big (tk_1 (List.mem_of_getElem? (i := 161) rfl)) rfl)⟩
set_option maxRecDepth 20000 in
theorem fg_X7_21 : FG RX7 21 7 1 := ⟨RX7, TX7, 11, rfl, hwX7, by decide, (mem_big (tk_1 (List.mem_of_getElem? (i := 213) rfl)) rfl)⟩
set_option maxRecDepth 20000 in
theorem fg_X7_25 : FG RX7 25 7 2 := ⟨RX7, TX7, 11, rfl, hwX7, by decide, (mem_big (tk_1 (List.mem_of_getElem? (i := 214) rfl)) rfl)⟩
set_option maxRecDepth 20000 in
theorem fg_X7_257 : FG RX7 257 7 10 := ⟨RX7, TX7, 11, rfl, hwX7, by decide, (mem_big (tk_1 (List.mem_of_getElem? (i := 222) rfl)) rfl)⟩
set_option maxRecDepth 20000 in
theorem fg_X7_264 : FG RX7 264 4 0 := ⟨RX4, TX4, 3, rfl, hwX4, by decide, (mem_big (tk_1 (List.mem_of_getElem? (i := 86) rfl)) rfl)⟩
set_option maxRecDepth 20000 in
theorem fg_X7_269 : FG RX7 269 4 1 := ⟨RX4, TX4, 3, rfl, hwX4, by decide, (mem_big (tk_1 (List.mem_of_getElem? (i := 87) rfl)) rfl)⟩
set_option maxRecDepth 20000 in
theorem fg_X7_31 : FG RX7 31 7 3 := ⟨RX7, TX7, 11, rfl, hwX7, by decide, (mem_big (tk_1 (List.mem_of_getElem? (i := 215) rfl)) rfl)⟩
set_option maxRecDepth 20000 in
theorem fg_X7_35 : FG RX7 35 7 4 := ⟨RX7, TX7, 11, rfl, hwX7, by decide, (mem_big (tk_1 (List.mem_of_getElem? (i := 216) rfl)) rfl)⟩
set_option maxRecDepth 20000 in
theorem fg_X7_41 : FG RX7 41 7 5 := ⟨RX7, TX7, 11, rfl, hwX7, by decide, (mem_big (tk_1 (List.mem_of_getElem? (i := 217) rfl)) rfl)⟩
set_option maxRecDepth 20000 in
theorem fg_X7_48 : FG RX7 48 7 6 := ⟨RX7, TX7, 11, rfl, hwX7, by decide, (mem_big (tk_1 (List.mem_of_getElem? (i := 218) rfl)) rfl)⟩
set_option maxRecDepth 20000 in
theorem fg_X7_55 : FG RX7 55 7 7 := ⟨RX7, TX7, 11, rfl, hwX7, by decide, (mem_big (tk_1 (List.mem_of_getElem? (i := 219) rfl)) rfl)⟩
set_option maxRecDepth 20000 in
theorem fg_X7_62 : FG RX7 62 7 8 := ⟨RX7, TX7, 11, rfl, hwX7, by decide, (mem_big (tk_1 (List.mem_of_getElem? (i := 220) rfl)) rfl)⟩
set_option maxRecDepth 20000 in
theorem fg_X7_66 : FG RX7 66 7 9 := ⟨RX7, TX7, 11, rfl, hwX7, by decide, (mem_big (tk_1 (List.mem_of_getElem? (i := 221) rfl)) rfl)⟩
set_option maxRecDepth 20000 in
theorem fg_X7_74 : FG RX7 74 5 1 := ⟨RX5, TX5, 7, rfl, hwX5, by decide, (mem_big (tk_1 (List.mem_of_getElem? (i := 33) rfl)) rfl)⟩
set_option maxRecDepth 20000 in
theorem fg_X7_83 : FG RX7 83 5 2 := ⟨RX5, TX5, 7, rfl, hwX5, by decide, (mem_big (tk_1 (List.mem_of_getElem? (i := 35) rfl)) rfl)⟩
set_option maxRecDepth 20000 in
theorem fg_X7_86 : FG RX7 86 6 1 := ⟨RX6, TX6, 2, rfl, hwX6, by decide, (mem_big (tk_1 (List.mem_of_getElem? (i := 70) rfl)) rfl)⟩
set_option maxRecDepth 20000 in
theorem fg_X7_89 : FG RX7 89 4 2 := ⟨RX4, TX4, 3, rfl, hwX4, by decide, (mem_big (tk_1 (List.mem_of_getElem? (i := 88) rfl)) rfl)⟩
set_option maxRecDepth 20000 in
theorem fg_X7_99 : FG RX7 99 3 3 := ⟨RX3, TX3, 5, rfl, hwX3, by decide, (mem_big (tk_1 (List.mem_of_getElem? (i := 196) rfl)) rfl)⟩
set_option maxRecDepth 20000 in
theorem mi_X7_18 : MI RX7 18 yX6_init cX6_init 2 1 := ⟨(mem_big (tk_1 (List.mem_of_getElem? (i := 59) rfl)) rfl), (mem_big (tk_1 (List.mem_of_getElem? (i := 60) rfl)) rfl), (mem_big (tk_1 (List.mem_of_getElem? (i := 3) rfl)) rfl), rfl, (mem_big (tk_1 (List.mem_of_getElem? (i := 61) rfl)) rfl), ⟨by decide, by decide, by decide +kernel⟩⟩
set_option maxRecDepth 20000 in
theorem mi_X7_30 : MIN RX7 30 yX4_init RX7 cX4_init 1 0 := ⟨by decide +kernel, (mem_big (tk_1 (List.mem_of_getElem? (i := 80) rfl)) rfl), (mem_big (tk_1 (List.mem_of_getElem? (i := 5) rfl)) rfl), rfl, (mem_big (tk_1 (List.mem_of_getElem? (i := 81) rfl)) rfl), ⟨by decide, by decide, by decide +kernel⟩⟩
set_option maxRecDepth 20000 in
theorem mi_X7_40 : MIN RX7 40 yX1_init RX7 cX1_init 1 0 := ⟨by decide +kernel, (mem_big (tk_1 (List.mem_of_getElem? (i := 99) rfl)) rfl), (mem_big (tk_1 (List.mem_of_getElem? (i := 6) rfl)) rfl), rfl, (mem_big (tk_1 (List.mem_of_getElem? (i := 100) rfl)) rfl), ⟨by decide, by decide, by decide +kernel⟩⟩
set_option maxRecDepth 20000 in
theorem mi_X7_47 : MIN RX7 47 yX2_init RX7 cX2_init 1 0 := ⟨by decide +kernel, (mem_big (tk_1 (List.mem_of_getElem? (i := 125) rfl)) rfl), (mem_big (tk_1 (List.mem_of_getElem? (i := 7) rfl)) rfl), rfl, (mem_big (tk_1 (List.mem_of_getElem? (i := 126) rfl)) rfl), ⟨by decide, by decide, by decide +kernel⟩⟩
set_option maxRecDepth 20000 in
theorem mi_X7_54 : MIN RX7 54 yX0_init RX7 cX0_init 1 0 := ⟨by decide +kernel, (mem_big (tk_1 (List.mem_of_getElem? (i := 150) rfl)) rfl), (mem_big (tk_1 (List.mem_of_getElem? (i := 8) rfl)) rfl), rfl, (mem_big (tk_1 (List.mem_of_getElem? (i := 151) rfl)) rfl), ⟨by decide, by decide, by decide +kernel⟩⟩
set_option maxRecDepth 20000 in
theorem mi_X7_61 : MIN RX7 61 yX3_init RX7 cX3_init 1 0 := ⟨by decide +kernel, (mem_big (tk_1 (List.mem_of_getElem? (i := 187) rfl)) rfl), (mem_big (tk_1 (List.mem_of_getElem? (i := 9) rfl)) rfl), rfl, (mem_big (tk_1 (List.mem_of_getElem? (i := 188) rfl)) rfl), ⟨by decide, by decide, by decide +kernel⟩⟩
set_option maxRecDepth 20000 in
theorem mi_X7_9 : MIN RX7 9 yX5_init RX7 cX5_init 1 0 := ⟨by decide +kernel, (mem_big (tk_1 (List.mem_of_getElem? (i := 28) rfl)) rfl), (mem_big (tk_1 (List.mem_of_getElem? (i := 2) rfl)) rfl), rfl, (mem_big (tk_1 (List.mem_of_getElem? (i := 29) rfl)) rfl), ⟨by decide, by decide, by decide +kernel⟩⟩
set_option maxRecDepth 20000 in
theorem ms_X7_139 : MS RX7 139 yX7_isHour cX7_isHour 1 (some .boolean) 1 := ⟨(mem_big (tk_3 (List.mem_of_getElem? (i := 22) rfl)) rfl), (mem_big (tk_3 (List.mem_of_getElem? (i := 23) rfl)) rfl), (mem_big (tk_1 (List.mem_of_getElem? (i := 1) rfl)) rfl), (mem_big (tk_3 (List.mem_of_getElem? (i := 24) rfl)) rfl), ⟨by decide, by decide, by decide +kernel⟩⟩
set_option maxRecDepth 20000 in
theorem ms_X7_149 : MS RX7 149 yX7_isHeight cX7_isHeight 1 (some .boolean) 1 := ⟨(mem_big (tk_3 (List.mem_of_getElem? (i := 43) rfl)) rfl), (mem_big (tk_3 (List.mem_of_getElem? (i := 44) rfl)) rfl), (mem_big (tk_1 (List.mem_of_getElem? (i := 1) rfl)) rfl), (mem_big (tk_3 (List.mem_of_getElem? (i := 45) rfl)) rfl), ⟨by decide, by decide, by decide +kernel⟩⟩
set_option maxRecDepth 20000 in
theorem ms_X7_184 : MS RX7 184 yX7_has cX7_has 2 (some .boolean) 2 := ⟨(mem_big (tk_3 (List.mem_of_getElem? (i := 120) rfl)) rfl), (mem_big (tk_2 (List.mem_of_getElem? (i := 202) rfl)) rfl), (mem_big (tk_1 (List.mem_of_getElem? (i := 1) rfl)) rfl), (mem_big (tk_2 (List.mem_of_getElem? (i := 203) rfl)) rfl), ⟨by decide, by decide, by decide +kernel⟩⟩
set_option maxRecDepth 20000 in
theorem ms_X7_213 : MS RX7 213 yX0_bathOf cX0_bathOf 1 (some .int) 1 := ⟨(mem_big (tk_3 (List.mem_of_getElem? (i := 220) rfl)) rfl), (mem_big (tk_3 (List.mem_of_getElem? (i := 152) rfl)) rfl), (mem_big (tk_1 (List.mem_of_getElem? (i := 8) rfl)) rfl), (mem_big (tk_3 (List.mem_of_getElem? (i := 153) rfl)) rfl), ⟨by decide, by decide, by decide +kernel⟩⟩
set_option maxRecDepth 20000 in
theorem ms_X7_216 : MS RX7 216 yX0_setOf cX0_setOf 1 (some .int) 1 := ⟨(mem_big (tk_3 (List.mem_of_getElem? (i := 221) rfl)) rfl), (mem_big (tk_3 (List.mem_of_getElem? (i := 156) rfl)) rfl), (mem_big (tk_1 (List.mem_of_getElem? (i := 8) rfl)) rfl), (mem_big (tk_3 (List.mem_of_getElem? (i := 157) rfl)) rfl), ⟨by decide, by decide, by decide +kernel⟩⟩
set_option maxRecDepth 20000 in
theorem ms_X7_222 : MS RX7 222 yJ6_numberOfTrailingZeros_0f7a4 cJ6_numberOfTrailingZeros_0f7a4 2 (some .int) 1 := ⟨(mem_big (tk_3 (List.mem_of_getElem? (i := 234) rfl)) rfl), (mem_big (tk_3 (List.mem_of_getElem? (i := 96) rfl)) rfl), (mem_big (tk_1 (List.mem_of_getElem? (i := 15) rfl)) rfl), (mem_big (tk_3 (List.mem_of_getElem? (i := 97) rfl)) rfl), ⟨by decide, by decide, by decide +kernel⟩⟩
set_option maxRecDepth 20000 in
theorem ml_X7_231 : Cond.methodLink RX7 231 Lib.Math.max.name ∈ big := (mem_big (tk_4 (List.mem_of_getElem? (i := 4) rfl)) rfl)
set_option maxRecDepth 20000 in
theorem ml_X7_236 : Cond.methodLink RX7 236 Lib.Math.min.name ∈ big := (mem_big (tk_4 (List.mem_of_getElem? (i := 5) rfl)) rfl)
set_option maxRecDepth 20000 in
theorem mv_X7_114 : MV RX7 114 yX3_hasBath cX3_hasBath 2 (some .boolean) 1 := ⟨(mem_big (tk_2 (List.mem_of_getElem? (i := 227) rfl)) rfl), (mem_big (tk_2 (List.mem_of_getElem? (i := 228) rfl)) rfl), (mem_big (tk_2 (List.mem_of_getElem? (i := 229) rfl)) rfl), (mem_big (tk_1 (List.mem_of_getElem? (i := 9) rfl)) rfl), (mem_big (tk_2 (List.mem_of_getElem? (i := 230) rfl)) rfl), ⟨by decide, by decide, by decide +kernel⟩⟩
set_option maxRecDepth 20000 in
theorem mv_X7_119 : MV RX7 119 yX3_ofBath cX3_ofBath 4 (some .int) 2 := ⟨(mem_big (tk_2 (List.mem_of_getElem? (i := 232) rfl)) rfl), (mem_big (tk_2 (List.mem_of_getElem? (i := 177) rfl)) rfl), (mem_big (tk_2 (List.mem_of_getElem? (i := 178) rfl)) rfl), (mem_big (tk_1 (List.mem_of_getElem? (i := 9) rfl)) rfl), (mem_big (tk_2 (List.mem_of_getElem? (i := 179) rfl)) rfl), ⟨by decide, by decide, by decide +kernel⟩⟩
set_option maxRecDepth 20000 in
theorem mv_X7_123 : MV RX7 123 yX3_hasBather cX3_hasBather 2 (some .boolean) 1 := ⟨(mem_big (tk_2 (List.mem_of_getElem? (i := 237) rfl)) rfl), (mem_big (tk_2 (List.mem_of_getElem? (i := 238) rfl)) rfl), (mem_big (tk_2 (List.mem_of_getElem? (i := 239) rfl)) rfl), (mem_big (tk_1 (List.mem_of_getElem? (i := 9) rfl)) rfl), (mem_big (tk_3 (List.mem_of_getElem? (i := 0) rfl)) rfl), ⟨by decide, by decide, by decide +kernel⟩⟩
set_option maxRecDepth 20000 in
theorem mv_X7_126 : MV RX7 126 yX1_lowest cX1_lowest 2 (some .int) 1 := ⟨(mem_big (tk_3 (List.mem_of_getElem? (i := 1) rfl)) rfl), (mem_big (tk_3 (List.mem_of_getElem? (i := 2) rfl)) rfl), (mem_big (tk_3 (List.mem_of_getElem? (i := 3) rfl)) rfl), (mem_big (tk_1 (List.mem_of_getElem? (i := 6) rfl)) rfl), (mem_big (tk_3 (List.mem_of_getElem? (i := 4) rfl)) rfl), ⟨by decide, by decide, by decide +kernel⟩⟩
set_option maxRecDepth 20000 in
theorem mv_X7_130 : MV RX7 130 yX1_highest cX1_highest 2 (some .int) 1 := ⟨(mem_big (tk_3 (List.mem_of_getElem? (i := 5) rfl)) rfl), (mem_big (tk_3 (List.mem_of_getElem? (i := 6) rfl)) rfl), (mem_big (tk_3 (List.mem_of_getElem? (i := 7) rfl)) rfl), (mem_big (tk_1 (List.mem_of_getElem? (i := 6) rfl)) rfl), (mem_big (tk_3 (List.mem_of_getElem? (i := 8) rfl)) rfl), ⟨by decide, by decide, by decide +kernel⟩⟩
set_option maxRecDepth 20000 in
theorem mv_X7_133 : MV RX7 133 yX3_ofBather cX3_ofBather 4 (some .int) 2 := ⟨(mem_big (tk_3 (List.mem_of_getElem? (i := 9) rfl)) rfl), (mem_big (tk_2 (List.mem_of_getElem? (i := 198) rfl)) rfl), (mem_big (tk_2 (List.mem_of_getElem? (i := 199) rfl)) rfl), (mem_big (tk_1 (List.mem_of_getElem? (i := 9) rfl)) rfl), (mem_big (tk_2 (List.mem_of_getElem? (i := 200) rfl)) rfl), ⟨by decide, by decide, by decide +kernel⟩⟩
set_option maxRecDepth 20000 in
theorem mv_X7_136 : MV RX7 136 yX3_hasSet cX3_hasSet 2 (some .boolean) 1 := ⟨(mem_big (tk_3 (List.mem_of_getElem? (i := 14) rfl)) rfl), (mem_big (tk_3 (List.mem_of_getElem? (i := 15) rfl)) rfl), (mem_big (tk_3 (List.mem_of_getElem? (i := 16) rfl)) rfl), (mem_big (tk_1 (List.mem_of_getElem? (i := 9) rfl)) rfl), (mem_big (tk_3 (List.mem_of_getElem? (i := 17) rfl)) rfl), ⟨by decide, by decide, by decide +kernel⟩⟩
set_option maxRecDepth 20000 in
theorem mv_X7_142 : MV RX7 142 yX3_inTruth cX3_inTruth 2 (some .int) 1 := ⟨(mem_big (tk_3 (List.mem_of_getElem? (i := 25) rfl)) rfl), (mem_big (tk_3 (List.mem_of_getElem? (i := 26) rfl)) rfl), (mem_big (tk_3 (List.mem_of_getElem? (i := 27) rfl)) rfl), (mem_big (tk_1 (List.mem_of_getElem? (i := 9) rfl)) rfl), (mem_big (tk_3 (List.mem_of_getElem? (i := 28) rfl)) rfl), ⟨by decide, by decide, by decide +kernel⟩⟩
set_option maxRecDepth 20000 in
theorem mv_X7_145 : MV RX7 145 yX3_heightOf cX3_heightOf 4 (some .int) 3 := ⟨(mem_big (tk_3 (List.mem_of_getElem? (i := 35) rfl)) rfl), (mem_big (tk_3 (List.mem_of_getElem? (i := 36) rfl)) rfl), (mem_big (tk_3 (List.mem_of_getElem? (i := 37) rfl)) rfl), (mem_big (tk_1 (List.mem_of_getElem? (i := 9) rfl)) rfl), (mem_big (tk_3 (List.mem_of_getElem? (i := 38) rfl)) rfl), ⟨by decide, by decide, by decide +kernel⟩⟩
set_option maxRecDepth 20000 in
theorem mv_X7_152 : MV RX7 152 yX3_leastOf cX3_leastOf 5 (some .int) 3 := ⟨(mem_big (tk_3 (List.mem_of_getElem? (i := 47) rfl)) rfl), (mem_big (tk_2 (List.mem_of_getElem? (i := 169) rfl)) rfl), (mem_big (tk_2 (List.mem_of_getElem? (i := 170) rfl)) rfl), (mem_big (tk_1 (List.mem_of_getElem? (i := 9) rfl)) rfl), (mem_big (tk_2 (List.mem_of_getElem? (i := 171) rfl)) rfl), ⟨by decide, by decide, by decide +kernel⟩⟩
set_option maxRecDepth 20000 in
theorem mv_X7_155 : MV RX7 155 yX3_greatestOf cX3_greatestOf 5 (some .int) 3 := ⟨(mem_big (tk_3 (List.mem_of_getElem? (i := 48) rfl)) rfl), (mem_big (tk_2 (List.mem_of_getElem? (i := 186) rfl)) rfl), (mem_big (tk_2 (List.mem_of_getElem? (i := 187) rfl)) rfl), (mem_big (tk_1 (List.mem_of_getElem? (i := 9) rfl)) rfl), (mem_big (tk_2 (List.mem_of_getElem? (i := 188) rfl)) rfl), ⟨by decide, by decide, by decide +kernel⟩⟩
set_option maxRecDepth 20000 in
theorem mv_X7_158 : MV RX7 158 yX7_refusalOfRow cX7_refusalOfRow 6 (some .int) 5 := ⟨(mem_big (tk_3 (List.mem_of_getElem? (i := 53) rfl)) rfl), (mem_big (tk_3 (List.mem_of_getElem? (i := 55) rfl)) rfl), (mem_big (List.mem_append_left _ (List.mem_map.mpr ⟨_, (List.mem_append_left _ (List.mem_of_getElem? (i := 14) rfl : ((⟨"BathWater", "refusalOfRow", "(IIIILBathWater$Rows;)I"⟩ : MethodName), 11) ∈ lw_privs_1)), rfl⟩)) rfl), (mem_big (tk_1 (List.mem_of_getElem? (i := 1) rfl)) rfl), (mem_big (tk_3 (List.mem_of_getElem? (i := 56) rfl)) rfl), ⟨by decide, by decide, by decide +kernel⟩⟩
set_option maxRecDepth 20000 in
theorem mv_X7_162 : MV RX7 162 yX6_add cX6_add 6 none 4 := ⟨(mem_big (tk_3 (List.mem_of_getElem? (i := 61) rfl)) rfl), (mem_big (tk_3 (List.mem_of_getElem? (i := 62) rfl)) rfl), (mem_big (tk_3 (List.mem_of_getElem? (i := 63) rfl)) rfl), (mem_big (tk_1 (List.mem_of_getElem? (i := 3) rfl)) rfl), (mem_big (tk_3 (List.mem_of_getElem? (i := 64) rfl)) rfl), ⟨by decide, by decide, by decide +kernel⟩⟩
set_option maxRecDepth 20000 in
theorem mv_X7_166 : MV RX7 166 yX6_drop cX6_drop 3 none 1 := ⟨(mem_big (tk_3 (List.mem_of_getElem? (i := 69) rfl)) rfl), (mem_big (tk_3 (List.mem_of_getElem? (i := 70) rfl)) rfl), (mem_big (tk_3 (List.mem_of_getElem? (i := 71) rfl)) rfl), (mem_big (tk_1 (List.mem_of_getElem? (i := 3) rfl)) rfl), (mem_big (tk_3 (List.mem_of_getElem? (i := 72) rfl)) rfl), ⟨by decide, by decide, by decide +kernel⟩⟩
set_option maxRecDepth 20000 in
theorem mv_X7_169 : MV RX7 169 yX2_fewest cX2_fewest 7 (some .int) 2 := ⟨(mem_big (tk_3 (List.mem_of_getElem? (i := 77) rfl)) rfl), (mem_big (tk_3 (List.mem_of_getElem? (i := 78) rfl)) rfl), (mem_big (tk_3 (List.mem_of_getElem? (i := 79) rfl)) rfl), (mem_big (tk_1 (List.mem_of_getElem? (i := 7) rfl)) rfl), (mem_big (tk_3 (List.mem_of_getElem? (i := 80) rfl)) rfl), ⟨by decide, by decide, by decide +kernel⟩⟩
set_option maxRecDepth 20000 in
theorem mv_X7_173 : MV RX7 173 yX3_sets cX3_sets 1 (some .int) 0 := ⟨(mem_big (tk_3 (List.mem_of_getElem? (i := 103) rfl)) rfl), (mem_big (tk_3 (List.mem_of_getElem? (i := 19) rfl)) rfl), (mem_big (tk_3 (List.mem_of_getElem? (i := 20) rfl)) rfl), (mem_big (tk_1 (List.mem_of_getElem? (i := 9) rfl)) rfl), (mem_big (tk_3 (List.mem_of_getElem? (i := 21) rfl)) rfl), ⟨by decide, by decide, by decide +kernel⟩⟩
set_option maxRecDepth 20000 in
theorem mv_X7_177 : MV RX7 177 yX1_allow cX1_allow 4 (some .boolean) 3 := ⟨(mem_big (tk_3 (List.mem_of_getElem? (i := 104) rfl)) rfl), (mem_big (tk_3 (List.mem_of_getElem? (i := 105) rfl)) rfl), (mem_big (tk_3 (List.mem_of_getElem? (i := 106) rfl)) rfl), (mem_big (tk_1 (List.mem_of_getElem? (i := 6) rfl)) rfl), (mem_big (tk_3 (List.mem_of_getElem? (i := 107) rfl)) rfl), ⟨by decide, by decide, by decide +kernel⟩⟩
set_option maxRecDepth 20000 in
theorem mv_X7_181 : MV RX7 181 yX3_oddsOf cX3_oddsOf 6 (some .int) 1 := ⟨(mem_big (tk_3 (List.mem_of_getElem? (i := 114) rfl)) rfl), (mem_big (tk_3 (List.mem_of_getElem? (i := 115) rfl)) rfl), (mem_big (tk_3 (List.mem_of_getElem? (i := 116) rfl)) rfl), (mem_big (tk_1 (List.mem_of_getElem? (i := 9) rfl)) rfl), (mem_big (tk_3 (List.mem_of_getElem? (i := 117) rfl)) rfl), ⟨by decide, by decide, by decide +kernel⟩⟩
set_option maxRecDepth 20000 in
theorem mv_X7_190 : MV RX7 190 yX3_hasCase cX3_hasCase 2 (some .boolean) 1 := ⟨(mem_big (tk_3 (List.mem_of_getElem? (i := 130) rfl)) rfl), (mem_big (tk_3 (List.mem_of_getElem? (i := 131) rfl)) rfl), (mem_big (tk_3 (List.mem_of_getElem? (i := 132) rfl)) rfl), (mem_big (tk_1 (List.mem_of_getElem? (i := 9) rfl)) rfl), (mem_big (tk_3 (List.mem_of_getElem? (i := 133) rfl)) rfl), ⟨by decide, by decide, by decide +kernel⟩⟩
set_option maxRecDepth 20000 in
theorem mv_X7_193 : MV RX7 193 yX3_inCase cX3_inCase 5 (some .int) 2 := ⟨(mem_big (tk_3 (List.mem_of_getElem? (i := 135) rfl)) rfl), (mem_big (tk_3 (List.mem_of_getElem? (i := 30) rfl)) rfl), (mem_big (tk_3 (List.mem_of_getElem? (i := 31) rfl)) rfl), (mem_big (tk_1 (List.mem_of_getElem? (i := 9) rfl)) rfl), (mem_big (tk_3 (List.mem_of_getElem? (i := 32) rfl)) rfl), ⟨by decide, by decide, by decide +kernel⟩⟩
set_option maxRecDepth 20000 in
theorem mv_X7_196 : MV RX7 196 yX0_build cX0_build 3 none 1 := ⟨(mem_big (tk_3 (List.mem_of_getElem? (i := 140) rfl)) rfl), (mem_big (tk_3 (List.mem_of_getElem? (i := 141) rfl)) rfl), (mem_big (tk_3 (List.mem_of_getElem? (i := 142) rfl)) rfl), (mem_big (tk_1 (List.mem_of_getElem? (i := 8) rfl)) rfl), (mem_big (tk_3 (List.mem_of_getElem? (i := 143) rfl)) rfl), ⟨by decide, by decide, by decide +kernel⟩⟩
set_option maxRecDepth 20000 in
theorem mv_X7_199 : MV RX7 199 yX0_alikeTo cX0_alikeTo 2 (some .int) 1 := ⟨(mem_big (tk_3 (List.mem_of_getElem? (i := 193) rfl)) rfl), (mem_big (tk_3 (List.mem_of_getElem? (i := 194) rfl)) rfl), (mem_big (tk_3 (List.mem_of_getElem? (i := 195) rfl)) rfl), (mem_big (tk_1 (List.mem_of_getElem? (i := 8) rfl)) rfl), (mem_big (tk_3 (List.mem_of_getElem? (i := 196) rfl)) rfl), ⟨by decide, by decide, by decide +kernel⟩⟩
set_option maxRecDepth 20000 in
theorem mv_X7_205 : MV RX7 205 yX0_merged cX0_merged 4 (some .int) 1 := ⟨(mem_big (tk_3 (List.mem_of_getElem? (i := 201) rfl)) rfl), (mem_big (tk_3 (List.mem_of_getElem? (i := 202) rfl)) rfl), (mem_big (tk_3 (List.mem_of_getElem? (i := 203) rfl)) rfl), (mem_big (tk_1 (List.mem_of_getElem? (i := 8) rfl)) rfl), (mem_big (tk_3 (List.mem_of_getElem? (i := 204) rfl)) rfl), ⟨by decide, by decide, by decide +kernel⟩⟩
set_option maxRecDepth 20000 in
theorem mv_X7_208 : MV RX7 208 yX0_fewest cX0_fewest 3 (some .int) 1 := ⟨(mem_big (tk_3 (List.mem_of_getElem? (i := 206) rfl)) rfl), (mem_big (tk_3 (List.mem_of_getElem? (i := 207) rfl)) rfl), (mem_big (tk_3 (List.mem_of_getElem? (i := 208) rfl)) rfl), (mem_big (tk_1 (List.mem_of_getElem? (i := 8) rfl)) rfl), (mem_big (tk_3 (List.mem_of_getElem? (i := 209) rfl)) rfl), ⟨by decide, by decide, by decide +kernel⟩⟩
set_option maxRecDepth 20000 in
theorem mv_X7_210 : MV RX7 210 yX0_first cX0_first 4 (some .int) 2 := ⟨(mem_big (tk_3 (List.mem_of_getElem? (i := 216) rfl)) rfl), (mem_big (tk_3 (List.mem_of_getElem? (i := 217) rfl)) rfl), (mem_big (tk_3 (List.mem_of_getElem? (i := 218) rfl)) rfl), (mem_big (tk_1 (List.mem_of_getElem? (i := 8) rfl)) rfl), (mem_big (tk_3 (List.mem_of_getElem? (i := 219) rfl)) rfl), ⟨by decide, by decide, by decide +kernel⟩⟩
set_option maxRecDepth 20000 in
theorem mv_X7_219 : MV RX7 219 yX0_indispensable cX0_indispensable 5 (some .int) 1 := ⟨(mem_big (tk_3 (List.mem_of_getElem? (i := 226) rfl)) rfl), (mem_big (tk_3 (List.mem_of_getElem? (i := 227) rfl)) rfl), (mem_big (tk_3 (List.mem_of_getElem? (i := 228) rfl)) rfl), (mem_big (tk_1 (List.mem_of_getElem? (i := 8) rfl)) rfl), (mem_big (tk_3 (List.mem_of_getElem? (i := 229) rfl)) rfl), ⟨by decide, by decide, by decide +kernel⟩⟩
set_option maxRecDepth 20000 in
theorem mv_X7_228 : MV RX7 228 yX3_finest cX3_finest 1 (some .int) 0 := ⟨(mem_big (tk_4 (List.mem_of_getElem? (i := 0) rfl)) rfl), (mem_big (tk_4 (List.mem_of_getElem? (i := 1) rfl)) rfl), (mem_big (tk_4 (List.mem_of_getElem? (i := 2) rfl)) rfl), (mem_big (tk_1 (List.mem_of_getElem? (i := 9) rfl)) rfl), (mem_big (tk_4 (List.mem_of_getElem? (i := 3) rfl)) rfl), ⟨by decide, by decide, by decide +kernel⟩⟩
set_option maxRecDepth 20000 in
theorem mv_X7_239 : MV RX7 239 yX6_setAt cX6_setAt 2 (some .int) 1 := ⟨(mem_big (tk_4 (List.mem_of_getElem? (i := 18) rfl)) rfl), (mem_big (tk_2 (List.mem_of_getElem? (i := 165) rfl)) rfl), (mem_big (tk_2 (List.mem_of_getElem? (i := 166) rfl)) rfl), (mem_big (tk_1 (List.mem_of_getElem? (i := 3) rfl)) rfl), (mem_big (tk_2 (List.mem_of_getElem? (i := 167) rfl)) rfl), ⟨by decide, by decide, by decide +kernel⟩⟩
set_option maxRecDepth 20000 in
theorem mv_X7_242 : MV RX7 242 yX6_heightAt cX6_heightAt 2 (some .int) 1 := ⟨(mem_big (tk_4 (List.mem_of_getElem? (i := 19) rfl)) rfl), (mem_big (tk_2 (List.mem_of_getElem? (i := 161) rfl)) rfl), (mem_big (tk_2 (List.mem_of_getElem? (i := 162) rfl)) rfl), (mem_big (tk_1 (List.mem_of_getElem? (i := 3) rfl)) rfl), (mem_big (tk_2 (List.mem_of_getElem? (i := 163) rfl)) rfl), ⟨by decide, by decide, by decide +kernel⟩⟩
set_option maxRecDepth 20000 in
theorem mv_X7_245 : MV RX7 245 yX6_bathAt cX6_bathAt 2 (some .int) 1 := ⟨(mem_big (tk_4 (List.mem_of_getElem? (i := 20) rfl)) rfl), (mem_big (tk_2 (List.mem_of_getElem? (i := 149) rfl)) rfl), (mem_big (tk_2 (List.mem_of_getElem? (i := 150) rfl)) rfl), (mem_big (tk_1 (List.mem_of_getElem? (i := 3) rfl)) rfl), (mem_big (tk_2 (List.mem_of_getElem? (i := 151) rfl)) rfl), ⟨by decide, by decide, by decide +kernel⟩⟩
set_option maxRecDepth 20000 in
theorem mv_X7_248 : MV RX7 248 yX6_hourAt cX6_hourAt 2 (some .int) 1 := ⟨(mem_big (tk_4 (List.mem_of_getElem? (i := 21) rfl)) rfl), (mem_big (tk_2 (List.mem_of_getElem? (i := 157) rfl)) rfl), (mem_big (tk_2 (List.mem_of_getElem? (i := 158) rfl)) rfl), (mem_big (tk_1 (List.mem_of_getElem? (i := 3) rfl)) rfl), (mem_big (tk_2 (List.mem_of_getElem? (i := 159) rfl)) rfl), ⟨by decide, by decide, by decide +kernel⟩⟩
set_option maxRecDepth 20000 in
theorem mv_X7_251 : MV RX7 251 yX7_drawSet cX7_drawSet 3 (some .int) 0 := ⟨(mem_big (tk_4 (List.mem_of_getElem? (i := 26) rfl)) rfl), (mem_big (tk_4 (List.mem_of_getElem? (i := 28) rfl)) rfl), (mem_big (List.mem_append_left _ (List.mem_map.mpr ⟨_, (List.mem_append_right _ (List.mem_append_left _ (List.mem_of_getElem? (i := 9) rfl : ((⟨"BathWater", "drawSet", "()I"⟩ : MethodName), 11) ∈ lw_privs_2))), rfl⟩)) rfl), (mem_big (tk_1 (List.mem_of_getElem? (i := 1) rfl)) rfl), (mem_big (tk_4 (List.mem_of_getElem? (i := 29) rfl)) rfl), ⟨by decide, by decide, by decide +kernel⟩⟩
set_option maxRecDepth 20000 in
theorem mv_X7_254 : MV RX7 254 yX7_draw cX7_draw 2 (some .int) 1 := ⟨(mem_big (tk_4 (List.mem_of_getElem? (i := 30) rfl)) rfl), (mem_big (tk_4 (List.mem_of_getElem? (i := 32) rfl)) rfl), (mem_big (List.mem_append_left _ (List.mem_map.mpr ⟨_, (List.mem_append_right _ (List.mem_append_left _ (List.mem_of_getElem? (i := 10) rfl : ((⟨"BathWater", "draw", "(I)I"⟩ : MethodName), 11) ∈ lw_privs_2))), rfl⟩)) rfl), (mem_big (tk_1 (List.mem_of_getElem? (i := 1) rfl)) rfl), (mem_big (tk_4 (List.mem_of_getElem? (i := 33) rfl)) rfl), ⟨by decide, by decide, by decide +kernel⟩⟩
set_option maxRecDepth 20000 in
theorem mv_X7_260 : MV RX7 260 yX7_imageAt cX7_imageAt 2 (some (.object "BathWater$Image")) 1 := ⟨(mem_big (tk_4 (List.mem_of_getElem? (i := 50) rfl)) rfl), (mem_big (tk_4 (List.mem_of_getElem? (i := 52) rfl)) rfl), (mem_big (List.mem_append_left _ (List.mem_map.mpr ⟨_, (List.mem_append_right _ (List.mem_append_left _ (List.mem_of_getElem? (i := 11) rfl : ((⟨"BathWater", "imageAt", "(I)LBathWater$Image;"⟩ : MethodName), 11) ∈ lw_privs_2))), rfl⟩)) rfl), (mem_big (tk_1 (List.mem_of_getElem? (i := 1) rfl)) rfl), (mem_big (tk_4 (List.mem_of_getElem? (i := 53) rfl)) rfl), ⟨by decide, by decide, by decide +kernel⟩⟩
set_option maxRecDepth 20000 in
theorem mv_X7_265 : MV RX7 265 yX6_copy cX6_copy 3 none 1 := ⟨(mem_big (tk_4 (List.mem_of_getElem? (i := 54) rfl)) rfl), (mem_big (tk_4 (List.mem_of_getElem? (i := 55) rfl)) rfl), (mem_big (tk_4 (List.mem_of_getElem? (i := 56) rfl)) rfl), (mem_big (tk_1 (List.mem_of_getElem? (i := 3) rfl)) rfl), (mem_big (tk_4 (List.mem_of_getElem? (i := 57) rfl)) rfl), ⟨by decide, by decide, by decide +kernel⟩⟩
set_option maxRecDepth 20000 in
theorem mv_X7_270 : MV RX7 270 yX1_learn cX1_learn 3 none 2 := ⟨(mem_big (tk_2 (List.mem_of_getElem? (i := 140) rfl)) rfl), (mem_big (tk_2 (List.mem_of_getElem? (i := 141) rfl)) rfl), (mem_big (tk_2 (List.mem_of_getElem? (i := 142) rfl)) rfl), (mem_big (tk_1 (List.mem_of_getElem? (i := 6) rfl)) rfl), (mem_big (tk_2 (List.mem_of_getElem? (i := 143) rfl)) rfl), ⟨by decide, by decide, by decide +kernel⟩⟩
set_option maxRecDepth 20000 in
theorem mv_X7_276 : MV RX7 276 yX6_hasRoom cX6_hasRoom 1 (some .boolean) 0 := ⟨(mem_big (tk_3 (List.mem_of_getElem? (i := 57) rfl)) rfl), (mem_big (tk_3 (List.mem_of_getElem? (i := 58) rfl)) rfl), (mem_big (tk_3 (List.mem_of_getElem? (i := 59) rfl)) rfl), (mem_big (tk_1 (List.mem_of_getElem? (i := 3) rfl)) rfl), (mem_big (tk_3 (List.mem_of_getElem? (i := 60) rfl)) rfl), ⟨by decide, by decide, by decide +kernel⟩⟩
set_option maxRecDepth 20000 in
theorem mv_X7_70 : MV RX7 70 yX5_take cX5_take 5 (some .boolean) 2 := ⟨(mem_big (tk_2 (List.mem_of_getElem? (i := 11) rfl)) rfl), (mem_big (tk_2 (List.mem_of_getElem? (i := 12) rfl)) rfl), (mem_big (tk_2 (List.mem_of_getElem? (i := 13) rfl)) rfl), (mem_big (tk_1 (List.mem_of_getElem? (i := 2) rfl)) rfl), (mem_big (tk_2 (List.mem_of_getElem? (i := 14) rfl)) rfl), ⟨by decide, by decide, by decide +kernel⟩⟩
set_option maxRecDepth 20000 in
theorem mv_X7_79 : MV RX7 79 yX5_read cX5_read 3 none 1 := ⟨(mem_big (tk_2 (List.mem_of_getElem? (i := 20) rfl)) rfl), (mem_big (tk_2 (List.mem_of_getElem? (i := 21) rfl)) rfl), (mem_big (tk_2 (List.mem_of_getElem? (i := 22) rfl)) rfl), (mem_big (tk_1 (List.mem_of_getElem? (i := 2) rfl)) rfl), (mem_big (tk_2 (List.mem_of_getElem? (i := 23) rfl)) rfl), ⟨by decide, by decide, by decide +kernel⟩⟩
set_option maxRecDepth 20000 in
theorem mv_X7_96 : MV RX7 96 yX7_learn cX7_learn 1 none 0 := ⟨(mem_big (tk_2 (List.mem_of_getElem? (i := 136) rfl)) rfl), (mem_big (tk_2 (List.mem_of_getElem? (i := 138) rfl)) rfl), (mem_big (List.mem_append_left _ (List.mem_map.mpr ⟨_, (List.mem_append_left _ (List.mem_of_getElem? (i := 10) rfl : ((⟨"BathWater", "learn", "()V"⟩ : MethodName), 11) ∈ lw_privs_1)), rfl⟩)) rfl), (mem_big (tk_1 (List.mem_of_getElem? (i := 1) rfl)) rfl), (mem_big (tk_2 (List.mem_of_getElem? (i := 139) rfl)) rfl), ⟨by decide, by decide, by decide +kernel⟩⟩
set_option maxRecDepth 20000 in
theorem lc_X7_118 : Cond.constant RX7 118 (-1000000001 : Int32) ∈ big := (mem_big (tk_2 (List.mem_of_getElem? (i := 231) rfl)) rfl)
set_option maxRecDepth 20000 in
theorem lc_X7_227 : Cond.constant RX7 227 (-1000000003 : Int32) ∈ big := (mem_big (tk_3 (List.mem_of_getElem? (i := 239) rfl)) rfl)
set_option maxRecDepth 20000 in
theorem lc_X7_69 : Cond.constant RX7 69 (-1000000002 : Int32) ∈ big := (mem_big (tk_2 (List.mem_of_getElem? (i := 10) rfl)) rfl)
set_option maxRecDepth 20000 in
theorem lc_X7_78 : Cond.constant RX7 78 (-1000000004 : Int32) ∈ big := (mem_big (tk_2 (List.mem_of_getElem? (i := 15) rfl)) rfl)
set_option maxRecDepth 20000 in
theorem lc_X7_188 : Cond.constantLong RX7 188 (1000000 : Int64) ∈ big := (mem_big (tk_3 (List.mem_of_getElem? (i := 121) rfl)) rfl)
set_option maxRecDepth 20000 in
theorem lc_X7_280 : Cond.constantLong RX7 280 (1103515245 : Int64) ∈ big := (mem_big (tk_4 (List.mem_of_getElem? (i := 34) rfl)) rfl)
set_option maxRecDepth 20000 in
theorem lc_X7_282 : Cond.constantLong RX7 282 (12345 : Int64) ∈ big := (mem_big (tk_4 (List.mem_of_getElem? (i := 35) rfl)) rfl)
set_option maxRecDepth 20000 in
theorem lc_X7_284 : Cond.constantLong RX7 284 (2147483647 : Int64) ∈ big := (mem_big (tk_4 (List.mem_of_getElem? (i := 36) rfl)) rfl)
set_option maxRecDepth 20000 in
theorem lc_X7_286 : Cond.constant RX7 286 (65536 : Int32) ∈ big := (mem_big (tk_4 (List.mem_of_getElem? (i := 37) rfl)) rfl)
set_option maxRecDepth 20000 in
theorem lc_X7_287 : Cond.constant RX7 287 (100000 : Int32) ∈ big := (mem_big (tk_3 (List.mem_of_getElem? (i := 46) rfl)) rfl)
set_option maxRecDepth 20000 in
theorem fp_X7_10 : FP RX7 10 7 0 (.object "BathWater$Reader") true := ⟨RX7, TX7, 11, tyX7, rfl, hwX7, by decide, (mem_big (tk_1 (List.mem_of_getElem? (i := 212) rfl)) rfl), tyX7_ok, nmX7, rfl, rfl, fun _ => rfl⟩
set_option maxRecDepth 20000 in
theorem fp_X7_21 : FP RX7 21 7 1 (.object "BathWater$Rows") true := ⟨RX7, TX7, 11, tyX7, rfl, hwX7, by decide, (mem_big (tk_1 (List.mem_of_getElem? (i := 213) rfl)) rfl), tyX7_ok, nmX7, rfl, rfl, fun _ => rfl⟩
set_option maxRecDepth 20000 in
theorem fp_X7_25 : FP RX7 25 7 2 (.object "BathWater$Rows") true := ⟨RX7, TX7, 11, tyX7, rfl, hwX7, by decide, (mem_big (tk_1 (List.mem_of_getElem? (i := 214) rfl)) rfl), tyX7_ok, nmX7, rfl, rfl, fun _ => rfl⟩
set_option maxRecDepth 20000 in
theorem fp_X7_257 : FP RX7 257 7 10 .int false := ⟨RX7, TX7, 11, tyX7, rfl, hwX7, by decide, (mem_big (tk_1 (List.mem_of_getElem? (i := 222) rfl)) rfl), tyX7_ok, nmX7, rfl, rfl, fun h => by cases h⟩
set_option maxRecDepth 20000 in
theorem fp_X7_269 : FP RX7 269 4 1 .int false := ⟨RX4, TX4, 3, tyX4, rfl, hwX4, by decide, (mem_big (tk_1 (List.mem_of_getElem? (i := 87) rfl)) rfl), tyX4_ok, nmX4, rfl, rfl, fun h => by cases h⟩
set_option maxRecDepth 20000 in
theorem fp_X7_273 : FP RX7 273 2 3 .boolean false := ⟨RX2, TX2, 5, tyX2, rfl, hwX2, by decide, (mem_big (tk_1 (List.mem_of_getElem? (i := 134) rfl)) rfl), tyX2_ok, nmX2, rfl, rfl, fun h => by cases h⟩
set_option maxRecDepth 20000 in
theorem fp_X7_31 : FP RX7 31 7 3 (.object "BathWater$Image") true := ⟨RX7, TX7, 11, tyX7, rfl, hwX7, by decide, (mem_big (tk_1 (List.mem_of_getElem? (i := 215) rfl)) rfl), tyX7_ok, nmX7, rfl, rfl, fun _ => rfl⟩
set_option maxRecDepth 20000 in
theorem fp_X7_35 : FP RX7 35 7 4 (.object "BathWater$Image") true := ⟨RX7, TX7, 11, tyX7, rfl, hwX7, by decide, (mem_big (tk_1 (List.mem_of_getElem? (i := 216) rfl)) rfl), tyX7_ok, nmX7, rfl, rfl, fun _ => rfl⟩
set_option maxRecDepth 20000 in
theorem fp_X7_41 : FP RX7 41 7 5 (.object "BathWater$Ends") true := ⟨RX7, TX7, 11, tyX7, rfl, hwX7, by decide, (mem_big (tk_1 (List.mem_of_getElem? (i := 217) rfl)) rfl), tyX7_ok, nmX7, rfl, rfl, fun _ => rfl⟩
set_option maxRecDepth 20000 in
theorem fp_X7_48 : FP RX7 48 7 6 (.object "BathWater$Falsehood") true := ⟨RX7, TX7, 11, tyX7, rfl, hwX7, by decide, (mem_big (tk_1 (List.mem_of_getElem? (i := 218) rfl)) rfl), tyX7_ok, nmX7, rfl, rfl, fun _ => rfl⟩
set_option maxRecDepth 20000 in
theorem fp_X7_55 : FP RX7 55 7 7 (.object "BathWater$Cases") true := ⟨RX7, TX7, 11, tyX7, rfl, hwX7, by decide, (mem_big (tk_1 (List.mem_of_getElem? (i := 219) rfl)) rfl), tyX7_ok, nmX7, rfl, rfl, fun _ => rfl⟩
set_option maxRecDepth 20000 in
theorem fp_X7_62 : FP RX7 62 7 8 (.object "BathWater$House") false := ⟨RX7, TX7, 11, tyX7, rfl, hwX7, by decide, (mem_big (tk_1 (List.mem_of_getElem? (i := 220) rfl)) rfl), tyX7_ok, nmX7, rfl, rfl, fun h => by cases h⟩
set_option maxRecDepth 20000 in
theorem fp_X7_66 : FP RX7 66 7 9 (.object "BathWater$House") false := ⟨RX7, TX7, 11, tyX7, rfl, hwX7, by decide, (mem_big (tk_1 (List.mem_of_getElem? (i := 221) rfl)) rfl), tyX7_ok, nmX7, rfl, rfl, fun h => by cases h⟩
set_option maxRecDepth 20000 in
theorem fp_X7_86 : FP RX7 86 6 1 .int false := ⟨RX6, TX6, 2, tyX6, rfl, hwX6, by decide, (mem_big (tk_1 (List.mem_of_getElem? (i := 70) rfl)) rfl), tyX6_ok, nmX6, rfl, rfl, fun h => by cases h⟩
set_option maxRecDepth 20000 in
theorem fp_X7_89 : FP RX7 89 4 2 .boolean false := ⟨RX4, TX4, 3, tyX4, rfl, hwX4, by decide, (mem_big (tk_1 (List.mem_of_getElem? (i := 88) rfl)) rfl), tyX4_ok, nmX4, rfl, rfl, fun h => by cases h⟩
set_option maxRecDepth 20000 in
theorem fp_X7_93 : FP RX7 93 0 8 .boolean false := ⟨RX0, TX0, 9, tyX0, rfl, hwX0, by decide, (mem_big (tk_1 (List.mem_of_getElem? (i := 163) rfl)) rfl), tyX0_ok, nmX0, rfl, rfl, fun h => by cases h⟩
set_option maxRecDepth 20000 in
theorem fg_X8_117 : FG RX8 117 8 15 := ⟨RX8, TX8, 32, rfl, hwX8, by decide, (mem_big (tk_4 (List.mem_of_getElem? (i := 83) rfl)) rfl)⟩
set_option maxRecDepth 20000 in
theorem fg_X8_120 : FG RX8 120 8 14 := ⟨RX8, TX8, 32, rfl, hwX8, by decide, (mem_big (tk_4 (List.mem_of_getElem? (i := 82) rfl)) rfl)⟩
set_option maxRecDepth 20000 in
theorem fg_X8_127 : FG RX8 127 8 16 := ⟨RX8, TX8, 32, rfl, hwX8, by decide, (mem_big (tk_4 (List.mem_of_getElem? (i := 84) rfl)) rfl)⟩
set_option maxRecDepth 20000 in
theorem fg_X8_13 : FG RX8 13 8 3 := ⟨RX8, TX8, 32, rfl, hwX8, by decide, (mem_big (tk_4 (List.mem_of_getElem? (i := 71) rfl)) rfl)⟩
set_option maxRecDepth 20000 in
theorem fg_X8_134 : FG RX8 134 8 18 := ⟨RX8, TX8, 32, rfl, hwX8, by decide, (mem_big (tk_4 (List.mem_of_getElem? (i := 86) rfl)) rfl)⟩
set_option maxRecDepth 20000 in
theorem fg_X8_148 : FG RX8 148 8 20 := ⟨RX8, TX8, 32, rfl, hwX8, by decide, (mem_big (tk_4 (List.mem_of_getElem? (i := 88) rfl)) rfl)⟩
set_option maxRecDepth 20000 in
theorem fg_X8_16 : FG RX8 16 8 4 := ⟨RX8, TX8, 32, rfl, hwX8, by decide, (mem_big (tk_4 (List.mem_of_getElem? (i := 72) rfl)) rfl)⟩
set_option maxRecDepth 20000 in
theorem fg_X8_160 : FG RX8 160 8 5 := ⟨RX8, TX8, 32, rfl, hwX8, by decide, (mem_big (tk_4 (List.mem_of_getElem? (i := 73) rfl)) rfl)⟩
set_option maxRecDepth 20000 in
theorem fg_X8_163 : FG RX8 163 8 28 := ⟨RX8, TX8, 32, rfl, hwX8, by decide, (mem_big (tk_4 (List.mem_of_getElem? (i := 96) rfl)) rfl)⟩
set_option maxRecDepth 20000 in
theorem fg_X8_20 : FG RX8 20 8 6 := ⟨RX8, TX8, 32, rfl, hwX8, by decide, (mem_big (tk_4 (List.mem_of_getElem? (i := 74) rfl)) rfl)⟩
set_option maxRecDepth 20000 in
theorem fg_X8_217 : FG RX8 217 8 23 := ⟨RX8, TX8, 32, rfl, hwX8, by decide, (mem_big (tk_4 (List.mem_of_getElem? (i := 91) rfl)) rfl)⟩
set_option maxRecDepth 20000 in
theorem fg_X8_23 : FG RX8 23 8 8 := ⟨RX8, TX8, 32, rfl, hwX8, by decide, (mem_big (tk_4 (List.mem_of_getElem? (i := 76) rfl)) rfl)⟩
set_option maxRecDepth 20000 in
theorem fg_X8_26 : FG RX8 26 8 10 := ⟨RX8, TX8, 32, rfl, hwX8, by decide, (mem_big (tk_4 (List.mem_of_getElem? (i := 78) rfl)) rfl)⟩
set_option maxRecDepth 20000 in
theorem fg_X8_268 : FG RX8 268 8 27 := ⟨RX8, TX8, 32, rfl, hwX8, by decide, (mem_big (tk_4 (List.mem_of_getElem? (i := 95) rfl)) rfl)⟩
set_option maxRecDepth 20000 in
theorem fg_X8_29 : FG RX8 29 8 17 := ⟨RX8, TX8, 32, rfl, hwX8, by decide, (mem_big (tk_4 (List.mem_of_getElem? (i := 85) rfl)) rfl)⟩
set_option maxRecDepth 20000 in
theorem fg_X8_292 : FG RX8 292 8 7 := ⟨RX8, TX8, 32, rfl, hwX8, by decide, (mem_big (tk_4 (List.mem_of_getElem? (i := 75) rfl)) rfl)⟩
set_option maxRecDepth 20000 in
theorem fg_X8_32 : FG RX8 32 8 19 := ⟨RX8, TX8, 32, rfl, hwX8, by decide, (mem_big (tk_4 (List.mem_of_getElem? (i := 87) rfl)) rfl)⟩
set_option maxRecDepth 20000 in
theorem fg_X8_35 : FG RX8 35 8 21 := ⟨RX8, TX8, 32, rfl, hwX8, by decide, (mem_big (tk_4 (List.mem_of_getElem? (i := 89) rfl)) rfl)⟩
set_option maxRecDepth 20000 in
theorem fg_X8_38 : FG RX8 38 8 22 := ⟨RX8, TX8, 32, rfl, hwX8, by decide, (mem_big (tk_4 (List.mem_of_getElem? (i := 90) rfl)) rfl)⟩
set_option maxRecDepth 20000 in
theorem fg_X8_41 : FG RX8 41 8 24 := ⟨RX8, TX8, 32, rfl, hwX8, by decide, (mem_big (tk_4 (List.mem_of_getElem? (i := 92) rfl)) rfl)⟩
set_option maxRecDepth 20000 in
theorem fg_X8_44 : FG RX8 44 8 25 := ⟨RX8, TX8, 32, rfl, hwX8, by decide, (mem_big (tk_4 (List.mem_of_getElem? (i := 93) rfl)) rfl)⟩
set_option maxRecDepth 20000 in
theorem fg_X8_47 : FG RX8 47 8 26 := ⟨RX8, TX8, 32, rfl, hwX8, by decide, (mem_big (tk_4 (List.mem_of_getElem? (i := 94) rfl)) rfl)⟩
set_option maxRecDepth 20000 in
theorem fg_X8_50 : FG RX8 50 8 29 := ⟨RX8, TX8, 32, rfl, hwX8, by decide, (mem_big (tk_4 (List.mem_of_getElem? (i := 97) rfl)) rfl)⟩
set_option maxRecDepth 20000 in
theorem fg_X8_53 : FG RX8 53 8 30 := ⟨RX8, TX8, 32, rfl, hwX8, by decide, (mem_big (tk_4 (List.mem_of_getElem? (i := 98) rfl)) rfl)⟩
set_option maxRecDepth 20000 in
theorem fg_X8_56 : FG RX8 56 8 31 := ⟨RX8, TX8, 32, rfl, hwX8, by decide, (mem_big (tk_4 (List.mem_of_getElem? (i := 99) rfl)) rfl)⟩
set_option maxRecDepth 20000 in
theorem fg_X8_60 : FG RX8 60 8 0 := ⟨RX8, TX8, 32, rfl, hwX8, by decide, (mem_big (tk_4 (List.mem_of_getElem? (i := 68) rfl)) rfl)⟩
set_option maxRecDepth 20000 in
theorem fg_X8_67 : FG RX8 67 8 2 := ⟨RX8, TX8, 32, rfl, hwX8, by decide, (mem_big (tk_4 (List.mem_of_getElem? (i := 70) rfl)) rfl)⟩
set_option maxRecDepth 20000 in
theorem fg_X8_7 : FG RX8 7 8 1 := ⟨RX8, TX8, 32, rfl, hwX8, by decide, (mem_big (tk_4 (List.mem_of_getElem? (i := 69) rfl)) rfl)⟩
set_option maxRecDepth 20000 in
theorem fg_X8_77 : FG RX8 77 8 9 := ⟨RX8, TX8, 32, rfl, hwX8, by decide, (mem_big (tk_4 (List.mem_of_getElem? (i := 77) rfl)) rfl)⟩
set_option maxRecDepth 20000 in
theorem fg_X8_83 : FG RX8 83 8 11 := ⟨RX8, TX8, 32, rfl, hwX8, by decide, (mem_big (tk_4 (List.mem_of_getElem? (i := 79) rfl)) rfl)⟩
set_option maxRecDepth 20000 in
theorem fg_X8_90 : FG RX8 90 8 12 := ⟨RX8, TX8, 32, rfl, hwX8, by decide, (mem_big (tk_4 (List.mem_of_getElem? (i := 80) rfl)) rfl)⟩
set_option maxRecDepth 20000 in
theorem fg_X8_94 : FG RX8 94 8 13 := ⟨RX8, TX8, 32, rfl, hwX8, by decide, (mem_big (tk_4 (List.mem_of_getElem? (i := 81) rfl)) rfl)⟩
set_option maxRecDepth 20000 in
theorem ms_X8_140 : MS RX8 140 yX8_code cX8_code 3 (some .long) 3 := ⟨(mem_big (tk_4 (List.mem_of_getElem? (i := 199) rfl)) rfl), (mem_big (tk_4 (List.mem_of_getElem? (i := 200) rfl)) rfl), (mem_big (tk_1 (List.mem_of_getElem? (i := 10) rfl)) rfl), (mem_big (tk_4 (List.mem_of_getElem? (i := 201) rfl)) rfl), ⟨by decide, by decide, by decide +kernel⟩⟩
set_option maxRecDepth 20000 in
theorem ms_X8_144 : MS RX8 144 yX8_longer cX8_longer 4 (some .long) 3 := ⟨(mem_big (tk_4 (List.mem_of_getElem? (i := 202) rfl)) rfl), (mem_big (tk_4 (List.mem_of_getElem? (i := 203) rfl)) rfl), (mem_big (tk_1 (List.mem_of_getElem? (i := 10) rfl)) rfl), (mem_big (tk_4 (List.mem_of_getElem? (i := 204) rfl)) rfl), ⟨by decide, by decide, by decide +kernel⟩⟩
set_option maxRecDepth 20000 in
theorem ms_X8_191 : MS RX8 191 yX8_has cX8_has 2 (some .boolean) 2 := ⟨(mem_big (tk_5 (List.mem_of_getElem? (i := 4) rfl)) rfl), (mem_big (tk_5 (List.mem_of_getElem? (i := 5) rfl)) rfl), (mem_big (tk_1 (List.mem_of_getElem? (i := 10) rfl)) rfl), (mem_big (tk_5 (List.mem_of_getElem? (i := 6) rfl)) rfl), ⟨by decide, by decide, by decide +kernel⟩⟩
set_option maxRecDepth 20000 in
theorem ms_X8_198 : MS RX8 198 yX8_isHour cX8_isHour 1 (some .boolean) 1 := ⟨(mem_big (tk_5 (List.mem_of_getElem? (i := 58) rfl)) rfl), (mem_big (tk_5 (List.mem_of_getElem? (i := 59) rfl)) rfl), (mem_big (tk_1 (List.mem_of_getElem? (i := 10) rfl)) rfl), (mem_big (tk_5 (List.mem_of_getElem? (i := 60) rfl)) rfl), ⟨by decide, by decide, by decide +kernel⟩⟩
set_option maxRecDepth 20000 in
theorem ms_X8_208 : MS RX8 208 yX8_isHeight cX8_isHeight 1 (some .boolean) 1 := ⟨(mem_big (tk_5 (List.mem_of_getElem? (i := 74) rfl)) rfl), (mem_big (tk_5 (List.mem_of_getElem? (i := 75) rfl)) rfl), (mem_big (tk_1 (List.mem_of_getElem? (i := 10) rfl)) rfl), (mem_big (tk_5 (List.mem_of_getElem? (i := 76) rfl)) rfl), ⟨by decide, by decide, by decide +kernel⟩⟩
set_option maxRecDepth 20000 in
theorem ms_X8_234 : MS RX8 234 yX8_bits cX8_bits 3 (some .int) 1 := ⟨(mem_big (tk_5 (List.mem_of_getElem? (i := 98) rfl)) rfl), (mem_big (tk_5 (List.mem_of_getElem? (i := 99) rfl)) rfl), (mem_big (tk_1 (List.mem_of_getElem? (i := 10) rfl)) rfl), (mem_big (tk_5 (List.mem_of_getElem? (i := 100) rfl)) rfl), ⟨by decide, by decide, by decide +kernel⟩⟩
set_option maxRecDepth 20000 in
theorem ms_X8_63 : MS RX8 63 yX8_in cX8_in 6 (some .boolean) 3 := ⟨(mem_big (tk_4 (List.mem_of_getElem? (i := 171) rfl)) rfl), (mem_big (tk_4 (List.mem_of_getElem? (i := 172) rfl)) rfl), (mem_big (tk_1 (List.mem_of_getElem? (i := 10) rfl)) rfl), (mem_big (tk_4 (List.mem_of_getElem? (i := 173) rfl)) rfl), ⟨by decide, by decide, by decide +kernel⟩⟩
set_option maxRecDepth 20000 in
theorem mv_X8_113 : MV RX8 113 yX8_fails cX8_fails 3 (some .int) 2 := ⟨(mem_big (tk_4 (List.mem_of_getElem? (i := 205) rfl)) rfl), (mem_big (tk_4 (List.mem_of_getElem? (i := 207) rfl)) rfl), (mem_big (List.mem_append_left _ (List.mem_map.mpr ⟨_, (List.mem_append_right _ (List.mem_append_left _ (List.mem_of_getElem? (i := 15) rfl : ((⟨"BathWaterModel", "fails", "(II)I"⟩ : MethodName), 32) ∈ lw_privs_2))), rfl⟩)) rfl), (mem_big (tk_1 (List.mem_of_getElem? (i := 10) rfl)) rfl), (mem_big (tk_4 (List.mem_of_getElem? (i := 208) rfl)) rfl), ⟨by decide, by decide, by decide +kernel⟩⟩
set_option maxRecDepth 20000 in
theorem mv_X8_124 : MV RX8 124 yX8_takeNumber cX8_takeNumber 4 (some .int) 2 := ⟨(mem_big (tk_4 (List.mem_of_getElem? (i := 209) rfl)) rfl), (mem_big (tk_4 (List.mem_of_getElem? (i := 211) rfl)) rfl), (mem_big (List.mem_append_left _ (List.mem_map.mpr ⟨_, (List.mem_append_right _ (List.mem_append_right _ (List.mem_append_left _ (List.mem_of_getElem? (i := 0) rfl : ((⟨"BathWaterModel", "takeNumber", "(II)I"⟩ : MethodName), 32) ∈ lw_privs_3)))), rfl⟩)) rfl), (mem_big (tk_1 (List.mem_of_getElem? (i := 10) rfl)) rfl), (mem_big (tk_4 (List.mem_of_getElem? (i := 212) rfl)) rfl), ⟨by decide, by decide, by decide +kernel⟩⟩
set_option maxRecDepth 20000 in
theorem mv_X8_130 : MV RX8 130 yX8_into cX8_into 6 (some .int) 4 := ⟨(mem_big (tk_4 (List.mem_of_getElem? (i := 220) rfl)) rfl), (mem_big (tk_4 (List.mem_of_getElem? (i := 222) rfl)) rfl), (mem_big (List.mem_append_left _ (List.mem_map.mpr ⟨_, (List.mem_append_right _ (List.mem_append_right _ (List.mem_append_left _ (List.mem_of_getElem? (i := 2) rfl : ((⟨"BathWaterModel", "into", "([IIII)I"⟩ : MethodName), 32) ∈ lw_privs_3)))), rfl⟩)) rfl), (mem_big (tk_1 (List.mem_of_getElem? (i := 10) rfl)) rfl), (mem_big (tk_4 (List.mem_of_getElem? (i := 223) rfl)) rfl), ⟨by decide, by decide, by decide +kernel⟩⟩
set_option maxRecDepth 20000 in
theorem mv_X8_137 : MV RX8 137 yX8_readWord cX8_readWord 2 none 0 := ⟨(mem_big (tk_4 (List.mem_of_getElem? (i := 189) rfl)) rfl), (mem_big (tk_4 (List.mem_of_getElem? (i := 191) rfl)) rfl), (mem_big (List.mem_append_left _ (List.mem_map.mpr ⟨_, (List.mem_append_right _ (List.mem_append_left _ (List.mem_of_getElem? (i := 14) rfl : ((⟨"BathWaterModel", "readWord", "()V"⟩ : MethodName), 32) ∈ lw_privs_2))), rfl⟩)) rfl), (mem_big (tk_1 (List.mem_of_getElem? (i := 10) rfl)) rfl), (mem_big (tk_4 (List.mem_of_getElem? (i := 192) rfl)) rfl), ⟨by decide, by decide, by decide +kernel⟩⟩
set_option maxRecDepth 20000 in
theorem mv_X8_151 : MV RX8 151 yX8_takeBath cX8_takeBath 3 (some .int) 0 := ⟨(mem_big (tk_4 (List.mem_of_getElem? (i := 216) rfl)) rfl), (mem_big (tk_4 (List.mem_of_getElem? (i := 218) rfl)) rfl), (mem_big (List.mem_append_left _ (List.mem_map.mpr ⟨_, (List.mem_append_right _ (List.mem_append_right _ (List.mem_append_left _ (List.mem_of_getElem? (i := 1) rfl : ((⟨"BathWaterModel", "takeBath", "()I"⟩ : MethodName), 32) ∈ lw_privs_3)))), rfl⟩)) rfl), (mem_big (tk_1 (List.mem_of_getElem? (i := 10) rfl)) rfl), (mem_big (tk_4 (List.mem_of_getElem? (i := 219) rfl)) rfl), ⟨by decide, by decide, by decide +kernel⟩⟩
set_option maxRecDepth 20000 in
theorem mv_X8_154 : MV RX8 154 yX8_takeBather cX8_takeBather 3 (some .int) 0 := ⟨(mem_big (tk_4 (List.mem_of_getElem? (i := 224) rfl)) rfl), (mem_big (tk_4 (List.mem_of_getElem? (i := 226) rfl)) rfl), (mem_big (List.mem_append_left _ (List.mem_map.mpr ⟨_, (List.mem_append_right _ (List.mem_append_right _ (List.mem_append_left _ (List.mem_of_getElem? (i := 3) rfl : ((⟨"BathWaterModel", "takeBather", "()I"⟩ : MethodName), 32) ∈ lw_privs_3)))), rfl⟩)) rfl), (mem_big (tk_1 (List.mem_of_getElem? (i := 10) rfl)) rfl), (mem_big (tk_4 (List.mem_of_getElem? (i := 227) rfl)) rfl), ⟨by decide, by decide, by decide +kernel⟩⟩
set_option maxRecDepth 20000 in
theorem mv_X8_157 : MV RX8 157 yX8_takeClause cX8_takeClause 3 (some .int) 0 := ⟨(mem_big (tk_4 (List.mem_of_getElem? (i := 185) rfl)) rfl), (mem_big (tk_4 (List.mem_of_getElem? (i := 187) rfl)) rfl), (mem_big (List.mem_append_left _ (List.mem_map.mpr ⟨_, (List.mem_append_right _ (List.mem_append_left _ (List.mem_of_getElem? (i := 13) rfl : ((⟨"BathWaterModel", "takeClause", "()I"⟩ : MethodName), 32) ∈ lw_privs_2))), rfl⟩)) rfl), (mem_big (tk_1 (List.mem_of_getElem? (i := 10) rfl)) rfl), (mem_big (tk_4 (List.mem_of_getElem? (i := 188) rfl)) rfl), ⟨by decide, by decide, by decide +kernel⟩⟩
set_option maxRecDepth 20000 in
theorem mv_X8_166 : MV RX8 166 yX8_isClash cX8_isClash 4 (some .boolean) 1 := ⟨(mem_big (tk_4 (List.mem_of_getElem? (i := 236) rfl)) rfl), (mem_big (tk_4 (List.mem_of_getElem? (i := 238) rfl)) rfl), (mem_big (List.mem_append_left _ (List.mem_map.mpr ⟨_, (List.mem_append_right _ (List.mem_append_right _ (List.mem_append_left _ (List.mem_of_getElem? (i := 4) rfl : ((⟨"BathWaterModel", "isClash", "(I)Z"⟩ : MethodName), 32) ∈ lw_privs_3)))), rfl⟩)) rfl), (mem_big (tk_1 (List.mem_of_getElem? (i := 10) rfl)) rfl), (mem_big (tk_4 (List.mem_of_getElem? (i := 239) rfl)) rfl), ⟨by decide, by decide, by decide +kernel⟩⟩
set_option maxRecDepth 20000 in
theorem mv_X8_170 : MV RX8 170 yX8_isBath cX8_isBath 2 (some .boolean) 1 := ⟨(mem_big (tk_5 (List.mem_of_getElem? (i := 31) rfl)) rfl), (mem_big (tk_5 (List.mem_of_getElem? (i := 33) rfl)) rfl), (mem_big (List.mem_append_left _ (List.mem_map.mpr ⟨_, (List.mem_append_right _ (List.mem_append_right _ (List.mem_append_left _ (List.mem_of_getElem? (i := 11) rfl : ((⟨"BathWaterModel", "isBath", "(I)Z"⟩ : MethodName), 32) ∈ lw_privs_3)))), rfl⟩)) rfl), (mem_big (tk_1 (List.mem_of_getElem? (i := 10) rfl)) rfl), (mem_big (tk_5 (List.mem_of_getElem? (i := 34) rfl)) rfl), ⟨by decide, by decide, by decide +kernel⟩⟩
set_option maxRecDepth 20000 in
theorem mv_X8_176 : MV RX8 176 yX8_isBather cX8_isBather 2 (some .boolean) 1 := ⟨(mem_big (tk_5 (List.mem_of_getElem? (i := 41) rfl)) rfl), (mem_big (tk_5 (List.mem_of_getElem? (i := 43) rfl)) rfl), (mem_big (List.mem_append_left _ (List.mem_map.mpr ⟨_, (List.mem_append_right _ (List.mem_append_right _ (List.mem_append_left _ (List.mem_of_getElem? (i := 12) rfl : ((⟨"BathWaterModel", "isBather", "(I)Z"⟩ : MethodName), 32) ∈ lw_privs_3)))), rfl⟩)) rfl), (mem_big (tk_1 (List.mem_of_getElem? (i := 10) rfl)) rfl), (mem_big (tk_5 (List.mem_of_getElem? (i := 44) rfl)) rfl), ⟨by decide, by decide, by decide +kernel⟩⟩
set_option maxRecDepth 20000 in
theorem mv_X8_181 : MV RX8 181 yX8_findEnds cX8_findEnds 1 none 0 := ⟨(mem_big (tk_5 (List.mem_of_getElem? (i := 46) rfl)) rfl), (mem_big (tk_5 (List.mem_of_getElem? (i := 48) rfl)) rfl), (mem_big (List.mem_append_left _ (List.mem_map.mpr ⟨_, (List.mem_append_right _ (List.mem_append_right _ (List.mem_append_left _ (List.mem_of_getElem? (i := 13) rfl : ((⟨"BathWaterModel", "findEnds", "()V"⟩ : MethodName), 32) ∈ lw_privs_3)))), rfl⟩)) rfl), (mem_big (tk_1 (List.mem_of_getElem? (i := 10) rfl)) rfl), (mem_big (tk_5 (List.mem_of_getElem? (i := 49) rfl)) rfl), ⟨by decide, by decide, by decide +kernel⟩⟩
set_option maxRecDepth 20000 in
theorem mv_X8_184 : MV RX8 184 yX8_waterAt cX8_waterAt 4 (some .int) 2 := ⟨(mem_big (tk_5 (List.mem_of_getElem? (i := 19) rfl)) rfl), (mem_big (tk_5 (List.mem_of_getElem? (i := 21) rfl)) rfl), (mem_big (List.mem_append_left _ (List.mem_map.mpr ⟨_, (List.mem_append_right _ (List.mem_append_right _ (List.mem_append_left _ (List.mem_of_getElem? (i := 9) rfl : ((⟨"BathWaterModel", "waterAt", "(II)I"⟩ : MethodName), 32) ∈ lw_privs_3)))), rfl⟩)) rfl), (mem_big (tk_1 (List.mem_of_getElem? (i := 10) rfl)) rfl), (mem_big (tk_5 (List.mem_of_getElem? (i := 22) rfl)) rfl), ⟨by decide, by decide, by decide +kernel⟩⟩
set_option maxRecDepth 20000 in
theorem mv_X8_187 : MV RX8 187 yX8_fingerOf cX8_fingerOf 2 (some .int) 1 := ⟨(mem_big (tk_5 (List.mem_of_getElem? (i := 15) rfl)) rfl), (mem_big (tk_5 (List.mem_of_getElem? (i := 17) rfl)) rfl), (mem_big (List.mem_append_left _ (List.mem_map.mpr ⟨_, (List.mem_append_right _ (List.mem_append_right _ (List.mem_append_left _ (List.mem_of_getElem? (i := 8) rfl : ((⟨"BathWaterModel", "fingerOf", "(I)I"⟩ : MethodName), 32) ∈ lw_privs_3)))), rfl⟩)) rfl), (mem_big (tk_1 (List.mem_of_getElem? (i := 10) rfl)) rfl), (mem_big (tk_5 (List.mem_of_getElem? (i := 18) rfl)) rfl), ⟨by decide, by decide, by decide +kernel⟩⟩
set_option maxRecDepth 20000 in
theorem mv_X8_195 : MV RX8 195 yX8_isSet cX8_isSet 2 (some .boolean) 1 := ⟨(mem_big (tk_5 (List.mem_of_getElem? (i := 54) rfl)) rfl), (mem_big (tk_5 (List.mem_of_getElem? (i := 56) rfl)) rfl), (mem_big (List.mem_append_left _ (List.mem_map.mpr ⟨_, (List.mem_append_right _ (List.mem_append_right _ (List.mem_append_left _ (List.mem_of_getElem? (i := 14) rfl : ((⟨"BathWaterModel", "isSet", "(I)Z"⟩ : MethodName), 32) ∈ lw_privs_3)))), rfl⟩)) rfl), (mem_big (tk_1 (List.mem_of_getElem? (i := 10) rfl)) rfl), (mem_big (tk_5 (List.mem_of_getElem? (i := 57) rfl)) rfl), ⟨by decide, by decide, by decide +kernel⟩⟩
set_option maxRecDepth 20000 in
theorem mv_X8_201 : MV RX8 201 yX8_sizeOf cX8_sizeOf 4 (some .int) 1 := ⟨(mem_big (tk_5 (List.mem_of_getElem? (i := 62) rfl)) rfl), (mem_big (tk_5 (List.mem_of_getElem? (i := 64) rfl)) rfl), (mem_big (List.mem_append_left _ (List.mem_map.mpr ⟨_, (List.mem_append_right _ (List.mem_append_right _ (List.mem_append_left _ (List.mem_of_getElem? (i := 15) rfl : ((⟨"BathWaterModel", "sizeOf", "(I)I"⟩ : MethodName), 32) ∈ lw_privs_3)))), rfl⟩)) rfl), (mem_big (tk_1 (List.mem_of_getElem? (i := 10) rfl)) rfl), (mem_big (tk_5 (List.mem_of_getElem? (i := 65) rfl)) rfl), ⟨by decide, by decide, by decide +kernel⟩⟩
set_option maxRecDepth 20000 in
theorem mv_X8_204 : MV RX8 204 yX8_heightOf cX8_heightOf 4 (some .int) 3 := ⟨(mem_big (tk_5 (List.mem_of_getElem? (i := 66) rfl)) rfl), (mem_big (tk_5 (List.mem_of_getElem? (i := 68) rfl)) rfl), (mem_big (List.mem_append_left _ (List.mem_map.mpr ⟨_, (List.mem_append_right _ (List.mem_append_right _ (List.mem_append_right _ (List.mem_of_getElem? (i := 0) rfl : ((⟨"BathWaterModel", "heightOf", "(III)I"⟩ : MethodName), 32) ∈ lw_privs_4)))), rfl⟩)) rfl), (mem_big (tk_1 (List.mem_of_getElem? (i := 10) rfl)) rfl), (mem_big (tk_5 (List.mem_of_getElem? (i := 69) rfl)) rfl), ⟨by decide, by decide, by decide +kernel⟩⟩
set_option maxRecDepth 20000 in
theorem mv_X8_211 : MV RX8 211 yX8_mostOf cX8_mostOf 4 (some .int) 3 := ⟨(mem_big (tk_5 (List.mem_of_getElem? (i := 11) rfl)) rfl), (mem_big (tk_5 (List.mem_of_getElem? (i := 13) rfl)) rfl), (mem_big (List.mem_append_left _ (List.mem_map.mpr ⟨_, (List.mem_append_right _ (List.mem_append_right _ (List.mem_append_left _ (List.mem_of_getElem? (i := 7) rfl : ((⟨"BathWaterModel", "mostOf", "(III)I"⟩ : MethodName), 32) ∈ lw_privs_3)))), rfl⟩)) rfl), (mem_big (tk_1 (List.mem_of_getElem? (i := 10) rfl)) rfl), (mem_big (tk_5 (List.mem_of_getElem? (i := 14) rfl)) rfl), ⟨by decide, by decide, by decide +kernel⟩⟩
set_option maxRecDepth 20000 in
theorem mv_X8_214 : MV RX8 214 yX8_leastOf cX8_leastOf 5 (some .int) 3 := ⟨(mem_big (tk_5 (List.mem_of_getElem? (i := 23) rfl)) rfl), (mem_big (tk_5 (List.mem_of_getElem? (i := 25) rfl)) rfl), (mem_big (List.mem_append_left _ (List.mem_map.mpr ⟨_, (List.mem_append_right _ (List.mem_append_right _ (List.mem_append_left _ (List.mem_of_getElem? (i := 10) rfl : ((⟨"BathWaterModel", "leastOf", "(III)I"⟩ : MethodName), 32) ∈ lw_privs_3)))), rfl⟩)) rfl), (mem_big (tk_1 (List.mem_of_getElem? (i := 10) rfl)) rfl), (mem_big (tk_5 (List.mem_of_getElem? (i := 26) rfl)) rfl), ⟨by decide, by decide, by decide +kernel⟩⟩
set_option maxRecDepth 20000 in
theorem mv_X8_221 : MV RX8 221 yX8_startEnds cX8_startEnds 2 none 0 := ⟨(mem_big (tk_5 (List.mem_of_getElem? (i := 0) rfl)) rfl), (mem_big (tk_5 (List.mem_of_getElem? (i := 2) rfl)) rfl), (mem_big (List.mem_append_left _ (List.mem_map.mpr ⟨_, (List.mem_append_right _ (List.mem_append_right _ (List.mem_append_left _ (List.mem_of_getElem? (i := 5) rfl : ((⟨"BathWaterModel", "startEnds", "()V"⟩ : MethodName), 32) ∈ lw_privs_3)))), rfl⟩)) rfl), (mem_big (tk_1 (List.mem_of_getElem? (i := 10) rfl)) rfl), (mem_big (tk_5 (List.mem_of_getElem? (i := 3) rfl)) rfl), ⟨by decide, by decide, by decide +kernel⟩⟩
set_option maxRecDepth 20000 in
theorem mv_X8_224 : MV RX8 224 yX8_narrow cX8_narrow 10 (some .boolean) 1 := ⟨(mem_big (tk_5 (List.mem_of_getElem? (i := 7) rfl)) rfl), (mem_big (tk_5 (List.mem_of_getElem? (i := 9) rfl)) rfl), (mem_big (List.mem_append_left _ (List.mem_map.mpr ⟨_, (List.mem_append_right _ (List.mem_append_right _ (List.mem_append_left _ (List.mem_of_getElem? (i := 6) rfl : ((⟨"BathWaterModel", "narrow", "(I)Z"⟩ : MethodName), 32) ∈ lw_privs_3)))), rfl⟩)) rfl), (mem_big (tk_1 (List.mem_of_getElem? (i := 10) rfl)) rfl), (mem_big (tk_5 (List.mem_of_getElem? (i := 10) rfl)) rfl), ⟨by decide, by decide, by decide +kernel⟩⟩
set_option maxRecDepth 20000 in
theorem mv_X8_227 : MV RX8 227 yX8_isMorning cX8_isMorning 3 (some .boolean) 2 := ⟨(mem_big (tk_5 (List.mem_of_getElem? (i := 82) rfl)) rfl), (mem_big (tk_5 (List.mem_of_getElem? (i := 84) rfl)) rfl), (mem_big (List.mem_append_left _ (List.mem_map.mpr ⟨_, (List.mem_append_right _ (List.mem_append_right _ (List.mem_append_right _ (List.mem_of_getElem? (i := 1) rfl : ((⟨"BathWaterModel", "isMorning", "(II)Z"⟩ : MethodName), 32) ∈ lw_privs_4)))), rfl⟩)) rfl), (mem_big (tk_1 (List.mem_of_getElem? (i := 10) rfl)) rfl), (mem_big (tk_5 (List.mem_of_getElem? (i := 85) rfl)) rfl), ⟨by decide, by decide, by decide +kernel⟩⟩
set_option maxRecDepth 20000 in
theorem mv_X8_230 : MV RX8 230 yX8_addMorning cX8_addMorning 5 none 4 := ⟨(mem_big (tk_5 (List.mem_of_getElem? (i := 86) rfl)) rfl), (mem_big (tk_5 (List.mem_of_getElem? (i := 88) rfl)) rfl), (mem_big (List.mem_append_left _ (List.mem_map.mpr ⟨_, (List.mem_append_right _ (List.mem_append_right _ (List.mem_append_right _ (List.mem_of_getElem? (i := 2) rfl : ((⟨"BathWaterModel", "addMorning", "(IIII)V"⟩ : MethodName), 32) ∈ lw_privs_4)))), rfl⟩)) rfl), (mem_big (tk_1 (List.mem_of_getElem? (i := 10) rfl)) rfl), (mem_big (tk_5 (List.mem_of_getElem? (i := 89) rfl)) rfl), ⟨by decide, by decide, by decide +kernel⟩⟩
set_option maxRecDepth 20000 in
theorem mv_X8_237 : MV RX8 237 yX8_canBeIn cX8_canBeIn 8 (some .boolean) 4 := ⟨(mem_big (tk_5 (List.mem_of_getElem? (i := 105) rfl)) rfl), (mem_big (tk_5 (List.mem_of_getElem? (i := 107) rfl)) rfl), (mem_big (List.mem_append_left _ (List.mem_map.mpr ⟨_, (List.mem_append_right _ (List.mem_append_right _ (List.mem_append_right _ (List.mem_of_getElem? (i := 3) rfl : ((⟨"BathWaterModel", "canBeIn", "(IIII)Z"⟩ : MethodName), 32) ∈ lw_privs_4)))), rfl⟩)) rfl), (mem_big (tk_1 (List.mem_of_getElem? (i := 10) rfl)) rfl), (mem_big (tk_5 (List.mem_of_getElem? (i := 108) rfl)) rfl), ⟨by decide, by decide, by decide +kernel⟩⟩
set_option maxRecDepth 20000 in
theorem mv_X8_245 : MV RX8 245 yX8_oddsOf cX8_oddsOf 5 (some .long) 1 := ⟨(mem_big (tk_5 (List.mem_of_getElem? (i := 113) rfl)) rfl), (mem_big (tk_5 (List.mem_of_getElem? (i := 115) rfl)) rfl), (mem_big (List.mem_append_left _ (List.mem_map.mpr ⟨_, (List.mem_append_right _ (List.mem_append_right _ (List.mem_append_right _ (List.mem_of_getElem? (i := 4) rfl : ((⟨"BathWaterModel", "oddsOf", "(I)J"⟩ : MethodName), 32) ∈ lw_privs_4)))), rfl⟩)) rfl), (mem_big (tk_1 (List.mem_of_getElem? (i := 10) rfl)) rfl), (mem_big (tk_5 (List.mem_of_getElem? (i := 116) rfl)) rfl), ⟨by decide, by decide, by decide +kernel⟩⟩
set_option maxRecDepth 20000 in
theorem mv_X8_255 : MV RX8 255 yX8_isCase cX8_isCase 2 (some .boolean) 1 := ⟨(mem_big (tk_5 (List.mem_of_getElem? (i := 128) rfl)) rfl), (mem_big (tk_5 (List.mem_of_getElem? (i := 130) rfl)) rfl), (mem_big (List.mem_append_left _ (List.mem_map.mpr ⟨_, (List.mem_append_right _ (List.mem_append_right _ (List.mem_append_right _ (List.mem_of_getElem? (i := 5) rfl : ((⟨"BathWaterModel", "isCase", "(I)Z"⟩ : MethodName), 32) ∈ lw_privs_4)))), rfl⟩)) rfl), (mem_big (tk_1 (List.mem_of_getElem? (i := 10) rfl)) rfl), (mem_big (tk_5 (List.mem_of_getElem? (i := 131) rfl)) rfl), ⟨by decide, by decide, by decide +kernel⟩⟩
set_option maxRecDepth 20000 in
theorem mv_X8_258 : MV RX8 258 yX8_tellsOf cX8_tellsOf 5 (some .int) 3 := ⟨(mem_big (tk_5 (List.mem_of_getElem? (i := 133) rfl)) rfl), (mem_big (tk_5 (List.mem_of_getElem? (i := 135) rfl)) rfl), (mem_big (List.mem_append_left _ (List.mem_map.mpr ⟨_, (List.mem_append_right _ (List.mem_append_right _ (List.mem_append_right _ (List.mem_of_getElem? (i := 6) rfl : ((⟨"BathWaterModel", "tellsOf", "(III)I"⟩ : MethodName), 32) ∈ lw_privs_4)))), rfl⟩)) rfl), (mem_big (tk_1 (List.mem_of_getElem? (i := 10) rfl)) rfl), (mem_big (tk_5 (List.mem_of_getElem? (i := 136) rfl)) rfl), ⟨by decide, by decide, by decide +kernel⟩⟩
set_option maxRecDepth 20000 in
theorem mv_X8_261 : MV RX8 261 yX8_isParted cX8_isParted 7 (some .boolean) 3 := ⟨(mem_big (tk_5 (List.mem_of_getElem? (i := 146) rfl)) rfl), (mem_big (tk_5 (List.mem_of_getElem? (i := 148) rfl)) rfl), (mem_big (List.mem_append_left _ (List.mem_map.mpr ⟨_, (List.mem_append_right _ (List.mem_append_right _ (List.mem_append_right _ (List.mem_of_getElem? (i := 8) rfl : ((⟨"BathWaterModel", "isParted", "(III)Z"⟩ : MethodName), 32) ∈ lw_privs_4)))), rfl⟩)) rfl), (mem_big (tk_1 (List.mem_of_getElem? (i := 10) rfl)) rfl), (mem_big (tk_5 (List.mem_of_getElem? (i := 149) rfl)) rfl), ⟨by decide, by decide, by decide +kernel⟩⟩
set_option maxRecDepth 20000 in
theorem mv_X8_265 : MV RX8 265 yX8_alikeOf cX8_alikeOf 4 (some .int) 1 := ⟨(mem_big (tk_5 (List.mem_of_getElem? (i := 142) rfl)) rfl), (mem_big (tk_5 (List.mem_of_getElem? (i := 144) rfl)) rfl), (mem_big (List.mem_append_left _ (List.mem_map.mpr ⟨_, (List.mem_append_right _ (List.mem_append_right _ (List.mem_append_right _ (List.mem_of_getElem? (i := 7) rfl : ((⟨"BathWaterModel", "alikeOf", "(I)I"⟩ : MethodName), 32) ∈ lw_privs_4)))), rfl⟩)) rfl), (mem_big (tk_1 (List.mem_of_getElem? (i := 10) rfl)) rfl), (mem_big (tk_5 (List.mem_of_getElem? (i := 145) rfl)) rfl), ⟨by decide, by decide, by decide +kernel⟩⟩
set_option maxRecDepth 20000 in
theorem mv_X8_271 : MV RX8 271 yX8_findTries cX8_findTries 4 none 0 := ⟨(mem_big (tk_5 (List.mem_of_getElem? (i := 163) rfl)) rfl), (mem_big (tk_5 (List.mem_of_getElem? (i := 165) rfl)) rfl), (mem_big (List.mem_append_left _ (List.mem_map.mpr ⟨_, (List.mem_append_right _ (List.mem_append_right _ (List.mem_append_right _ (List.mem_of_getElem? (i := 11) rfl : ((⟨"BathWaterModel", "findTries", "()V"⟩ : MethodName), 32) ∈ lw_privs_4)))), rfl⟩)) rfl), (mem_big (tk_1 (List.mem_of_getElem? (i := 10) rfl)) rfl), (mem_big (tk_5 (List.mem_of_getElem? (i := 166) rfl)) rfl), ⟨by decide, by decide, by decide +kernel⟩⟩
set_option maxRecDepth 20000 in
theorem mv_X8_274 : MV RX8 274 yX8_isKnown cX8_isKnown 4 (some .boolean) 1 := ⟨(mem_big (tk_5 (List.mem_of_getElem? (i := 167) rfl)) rfl), (mem_big (tk_5 (List.mem_of_getElem? (i := 169) rfl)) rfl), (mem_big (List.mem_append_left _ (List.mem_map.mpr ⟨_, (List.mem_append_right _ (List.mem_append_right _ (List.mem_append_right _ (List.mem_of_getElem? (i := 12) rfl : ((⟨"BathWaterModel", "isKnown", "(I)Z"⟩ : MethodName), 32) ∈ lw_privs_4)))), rfl⟩)) rfl), (mem_big (tk_1 (List.mem_of_getElem? (i := 10) rfl)) rfl), (mem_big (tk_5 (List.mem_of_getElem? (i := 170) rfl)) rfl), ⟨by decide, by decide, by decide +kernel⟩⟩
set_option maxRecDepth 20000 in
theorem mv_X8_277 : MV RX8 277 yX8_worstBy cX8_worstBy 8 (some .int) 2 := ⟨(mem_big (tk_5 (List.mem_of_getElem? (i := 171) rfl)) rfl), (mem_big (tk_5 (List.mem_of_getElem? (i := 173) rfl)) rfl), (mem_big (List.mem_append_left _ (List.mem_map.mpr ⟨_, (List.mem_append_right _ (List.mem_append_right _ (List.mem_append_right _ (List.mem_of_getElem? (i := 13) rfl : ((⟨"BathWaterModel", "worstBy", "(II)I"⟩ : MethodName), 32) ∈ lw_privs_4)))), rfl⟩)) rfl), (mem_big (tk_1 (List.mem_of_getElem? (i := 10) rfl)) rfl), (mem_big (tk_5 (List.mem_of_getElem? (i := 174) rfl)) rfl), ⟨by decide, by decide, by decide +kernel⟩⟩
set_option maxRecDepth 20000 in
theorem mv_X8_280 : MV RX8 280 yX8_allCases cX8_allCases 3 (some .int) 0 := ⟨(mem_big (tk_5 (List.mem_of_getElem? (i := 154) rfl)) rfl), (mem_big (tk_5 (List.mem_of_getElem? (i := 156) rfl)) rfl), (mem_big (List.mem_append_left _ (List.mem_map.mpr ⟨_, (List.mem_append_right _ (List.mem_append_right _ (List.mem_append_right _ (List.mem_of_getElem? (i := 9) rfl : ((⟨"BathWaterModel", "allCases", "()I"⟩ : MethodName), 32) ∈ lw_privs_4)))), rfl⟩)) rfl), (mem_big (tk_1 (List.mem_of_getElem? (i := 10) rfl)) rfl), (mem_big (tk_5 (List.mem_of_getElem? (i := 157) rfl)) rfl), ⟨by decide, by decide, by decide +kernel⟩⟩
set_option maxRecDepth 20000 in
theorem mv_X8_285 : MV RX8 285 yX8_findNeeds cX8_findNeeds 5 none 1 := ⟨(mem_big (tk_5 (List.mem_of_getElem? (i := 159) rfl)) rfl), (mem_big (tk_5 (List.mem_of_getElem? (i := 161) rfl)) rfl), (mem_big (List.mem_append_left _ (List.mem_map.mpr ⟨_, (List.mem_append_right _ (List.mem_append_right _ (List.mem_append_right _ (List.mem_of_getElem? (i := 10) rfl : ((⟨"BathWaterModel", "findNeeds", "(I)V"⟩ : MethodName), 32) ∈ lw_privs_4)))), rfl⟩)) rfl), (mem_big (tk_1 (List.mem_of_getElem? (i := 10) rfl)) rfl), (mem_big (tk_5 (List.mem_of_getElem? (i := 162) rfl)) rfl), ⟨by decide, by decide, by decide +kernel⟩⟩
set_option maxRecDepth 20000 in
theorem mv_X8_304 : MV RX8 304 yX8_draw cX8_draw 2 (some .int) 1 := ⟨(mem_big (tk_5 (List.mem_of_getElem? (i := 202) rfl)) rfl), (mem_big (tk_5 (List.mem_of_getElem? (i := 204) rfl)) rfl), (mem_big (List.mem_append_left _ (List.mem_map.mpr ⟨_, (List.mem_append_right _ (List.mem_append_right _ (List.mem_append_right _ (List.mem_of_getElem? (i := 14) rfl : ((⟨"BathWaterModel", "draw", "(I)I"⟩ : MethodName), 32) ∈ lw_privs_4)))), rfl⟩)) rfl), (mem_big (tk_1 (List.mem_of_getElem? (i := 10) rfl)) rfl), (mem_big (tk_5 (List.mem_of_getElem? (i := 205) rfl)) rfl), ⟨by decide, by decide, by decide +kernel⟩⟩
set_option maxRecDepth 20000 in
theorem mv_X8_86 : MV RX8 86 yX8_here cX8_here 1 (some .int) 0 := ⟨(mem_big (tk_4 (List.mem_of_getElem? (i := 181) rfl)) rfl), (mem_big (tk_4 (List.mem_of_getElem? (i := 183) rfl)) rfl), (mem_big (List.mem_append_left _ (List.mem_map.mpr ⟨_, (List.mem_append_right _ (List.mem_append_left _ (List.mem_of_getElem? (i := 12) rfl : ((⟨"BathWaterModel", "here", "()I"⟩ : MethodName), 32) ∈ lw_privs_2))), rfl⟩)) rfl), (mem_big (tk_1 (List.mem_of_getElem? (i := 10) rfl)) rfl), (mem_big (tk_4 (List.mem_of_getElem? (i := 184) rfl)) rfl), ⟨by decide, by decide, by decide +kernel⟩⟩
set_option maxRecDepth 20000 in
theorem lc_X8_123 : Cond.constant RX8 123 (100000 : Int32) ∈ big := (mem_big (tk_4 (List.mem_of_getElem? (i := 215) rfl)) rfl)
set_option maxRecDepth 20000 in
theorem lc_X8_173 : Cond.constant RX8 173 (-1000000001 : Int32) ∈ big := (mem_big (tk_5 (List.mem_of_getElem? (i := 35) rfl)) rfl)
set_option maxRecDepth 20000 in
theorem lc_X8_76 : Cond.constant RX8 76 (-1000000002 : Int32) ∈ big := (mem_big (tk_4 (List.mem_of_getElem? (i := 174) rfl)) rfl)
set_option maxRecDepth 20000 in
theorem lc_X8_80 : Cond.constant RX8 80 (-1000000004 : Int32) ∈ big := (mem_big (tk_4 (List.mem_of_getElem? (i := 175) rfl)) rfl)
set_option maxRecDepth 20000 in
theorem lc_X8_101 : Cond.constantLong RX8 101 (1000000000000 : Int64) ∈ big := (mem_big (tk_4 (List.mem_of_getElem? (i := 195) rfl)) rfl)
set_option maxRecDepth 20000 in
theorem lc_X8_103 : Cond.constantLong RX8 103 (2000000000000 : Int64) ∈ big := (mem_big (tk_4 (List.mem_of_getElem? (i := 196) rfl)) rfl)
set_option maxRecDepth 20000 in
theorem lc_X8_105 : Cond.constantLong RX8 105 (27 : Int64) ∈ big := (mem_big (tk_4 (List.mem_of_getElem? (i := 197) rfl)) rfl)
set_option maxRecDepth 20000 in
theorem lc_X8_107 : Cond.constantLong RX8 107 (96 : Int64) ∈ big := (mem_big (tk_4 (List.mem_of_getElem? (i := 198) rfl)) rfl)
set_option maxRecDepth 20000 in
theorem lc_X8_109 : Cond.constantLong RX8 109 (48 : Int64) ∈ big := (mem_big (tk_4 (List.mem_of_getElem? (i := 213) rfl)) rfl)
set_option maxRecDepth 20000 in
theorem lc_X8_111 : Cond.constantLong RX8 111 (57 : Int64) ∈ big := (mem_big (tk_4 (List.mem_of_getElem? (i := 214) rfl)) rfl)
set_option maxRecDepth 20000 in
theorem lc_X8_174 : Cond.constantLong RX8 174 (3 : Int64) ∈ big := (mem_big (tk_5 (List.mem_of_getElem? (i := 36) rfl)) rfl)
set_option maxRecDepth 20000 in
theorem lc_X8_179 : Cond.constantLong RX8 179 (5 : Int64) ∈ big := (mem_big (tk_5 (List.mem_of_getElem? (i := 45) rfl)) rfl)
set_option maxRecDepth 20000 in
theorem lc_X8_241 : Cond.constantLong RX8 241 (1000000000 : Int64) ∈ big := (mem_big (tk_5 (List.mem_of_getElem? (i := 117) rfl)) rfl)
set_option maxRecDepth 20000 in
theorem lc_X8_243 : Cond.constantLong RX8 243 (100 : Int64) ∈ big := (mem_big (tk_5 (List.mem_of_getElem? (i := 118) rfl)) rfl)
set_option maxRecDepth 20000 in
theorem lc_X8_249 : Cond.constantLong RX8 249 (1000000 : Int64) ∈ big := (mem_big (tk_5 (List.mem_of_getElem? (i := 119) rfl)) rfl)
set_option maxRecDepth 20000 in
theorem lc_X8_251 : Cond.constantLong RX8 251 (7 : Int64) ∈ big := (mem_big (tk_5 (List.mem_of_getElem? (i := 132) rfl)) rfl)
set_option maxRecDepth 20000 in
theorem lc_X8_253 : Cond.constantLong RX8 253 (6 : Int64) ∈ big := (mem_big (tk_5 (List.mem_of_getElem? (i := 137) rfl)) rfl)
set_option maxRecDepth 20000 in
theorem lc_X8_283 : Cond.constantLong RX8 283 (2 : Int64) ∈ big := (mem_big (tk_5 (List.mem_of_getElem? (i := 158) rfl)) rfl)
set_option maxRecDepth 20000 in
theorem lc_X8_289 : Cond.constantLong RX8 289 (999 : Int64) ∈ big := (mem_big (tk_5 (List.mem_of_getElem? (i := 183) rfl)) rfl)
set_option maxRecDepth 20000 in
theorem lc_X8_295 : Cond.constantLong RX8 295 (1103515245 : Int64) ∈ big := (mem_big (tk_5 (List.mem_of_getElem? (i := 206) rfl)) rfl)
set_option maxRecDepth 20000 in
theorem lc_X8_297 : Cond.constantLong RX8 297 (12345 : Int64) ∈ big := (mem_big (tk_5 (List.mem_of_getElem? (i := 207) rfl)) rfl)
set_option maxRecDepth 20000 in
theorem lc_X8_299 : Cond.constantLong RX8 299 (2147483648 : Int64) ∈ big := (mem_big (tk_5 (List.mem_of_getElem? (i := 208) rfl)) rfl)
set_option maxRecDepth 20000 in
theorem lc_X8_302 : Cond.constantLong RX8 302 (30 : Int64) ∈ big := (mem_big (tk_5 (List.mem_of_getElem? (i := 201) rfl)) rfl)
set_option maxRecDepth 20000 in
theorem lc_X8_70 : Cond.constantLong RX8 70 (99 : Int64) ∈ big := (mem_big (tk_5 (List.mem_of_getElem? (i := 61) rfl)) rfl)
set_option maxRecDepth 20000 in
theorem lc_X8_72 : Cond.constantLong RX8 72 (99999 : Int64) ∈ big := (mem_big (tk_5 (List.mem_of_getElem? (i := 77) rfl)) rfl)
set_option maxRecDepth 20000 in
theorem lc_X8_74 : Cond.constantLong RX8 74 (8 : Int64) ∈ big := (mem_big (tk_4 (List.mem_of_getElem? (i := 170) rfl)) rfl)
set_option maxRecDepth 20000 in
theorem lc_X8_81 : Cond.constantLong RX8 81 (255 : Int64) ∈ big := (mem_big (tk_4 (List.mem_of_getElem? (i := 176) rfl)) rfl)
set_option maxRecDepth 20000 in
theorem lc_X8_97 : Cond.constantLong RX8 97 (97 : Int64) ∈ big := (mem_big (tk_4 (List.mem_of_getElem? (i := 193) rfl)) rfl)
set_option maxRecDepth 20000 in
theorem lc_X8_99 : Cond.constantLong RX8 99 (122 : Int64) ∈ big := (mem_big (tk_4 (List.mem_of_getElem? (i := 194) rfl)) rfl)
set_option maxRecDepth 20000 in
theorem lc_X8_291 : Cond.constant RX8 291 (-1000000003 : Int32) ∈ big := (mem_big (tk_5 (List.mem_of_getElem? (i := 184) rfl)) rfl)
set_option maxRecDepth 20000 in
theorem lc_X8_301 : Cond.constant RX8 301 (65536 : Int32) ∈ big := (mem_big (tk_5 (List.mem_of_getElem? (i := 209) rfl)) rfl)
set_option maxRecDepth 20000 in
theorem fp_X8_117 : FP RX8 117 8 15 .int false := ⟨RX8, TX8, 32, tyX8, rfl, hwX8, by decide, (mem_big (tk_4 (List.mem_of_getElem? (i := 83) rfl)) rfl), tyX8_ok, nmX8, rfl, rfl, fun h => by cases h⟩
set_option maxRecDepth 20000 in
theorem fp_X8_120 : FP RX8 120 8 14 .int false := ⟨RX8, TX8, 32, tyX8, rfl, hwX8, by decide, (mem_big (tk_4 (List.mem_of_getElem? (i := 82) rfl)) rfl), tyX8_ok, nmX8, rfl, rfl, fun h => by cases h⟩
set_option maxRecDepth 20000 in
theorem fp_X8_127 : FP RX8 127 8 16 .int false := ⟨RX8, TX8, 32, tyX8, rfl, hwX8, by decide, (mem_big (tk_4 (List.mem_of_getElem? (i := 84) rfl)) rfl), tyX8_ok, nmX8, rfl, rfl, fun h => by cases h⟩
set_option maxRecDepth 20000 in
theorem fp_X8_13 : FP RX8 13 8 3 (.array .int) true := ⟨RX8, TX8, 32, tyX8, rfl, hwX8, by decide, (mem_big (tk_4 (List.mem_of_getElem? (i := 71) rfl)) rfl), tyX8_ok, nmX8, rfl, rfl, fun _ => rfl⟩
set_option maxRecDepth 20000 in
theorem fp_X8_134 : FP RX8 134 8 18 .int false := ⟨RX8, TX8, 32, tyX8, rfl, hwX8, by decide, (mem_big (tk_4 (List.mem_of_getElem? (i := 86) rfl)) rfl), tyX8_ok, nmX8, rfl, rfl, fun h => by cases h⟩
set_option maxRecDepth 20000 in
theorem fp_X8_148 : FP RX8 148 8 20 .int false := ⟨RX8, TX8, 32, tyX8, rfl, hwX8, by decide, (mem_big (tk_4 (List.mem_of_getElem? (i := 88) rfl)) rfl), tyX8_ok, nmX8, rfl, rfl, fun h => by cases h⟩
set_option maxRecDepth 20000 in
theorem fp_X8_16 : FP RX8 16 8 4 .int false := ⟨RX8, TX8, 32, tyX8, rfl, hwX8, by decide, (mem_big (tk_4 (List.mem_of_getElem? (i := 72) rfl)) rfl), tyX8_ok, nmX8, rfl, rfl, fun h => by cases h⟩
set_option maxRecDepth 20000 in
theorem fp_X8_160 : FP RX8 160 8 5 .int false := ⟨RX8, TX8, 32, tyX8, rfl, hwX8, by decide, (mem_big (tk_4 (List.mem_of_getElem? (i := 73) rfl)) rfl), tyX8_ok, nmX8, rfl, rfl, fun h => by cases h⟩
set_option maxRecDepth 20000 in
theorem fp_X8_163 : FP RX8 163 8 28 .int false := ⟨RX8, TX8, 32, tyX8, rfl, hwX8, by decide, (mem_big (tk_4 (List.mem_of_getElem? (i := 96) rfl)) rfl), tyX8_ok, nmX8, rfl, rfl, fun h => by cases h⟩
set_option maxRecDepth 20000 in
theorem fp_X8_20 : FP RX8 20 8 6 (.array .int) true := ⟨RX8, TX8, 32, tyX8, rfl, hwX8, by decide, (mem_big (tk_4 (List.mem_of_getElem? (i := 74) rfl)) rfl), tyX8_ok, nmX8, rfl, rfl, fun _ => rfl⟩
set_option maxRecDepth 20000 in
theorem fp_X8_217 : FP RX8 217 8 23 .boolean false := ⟨RX8, TX8, 32, tyX8, rfl, hwX8, by decide, (mem_big (tk_4 (List.mem_of_getElem? (i := 91) rfl)) rfl), tyX8_ok, nmX8, rfl, rfl, fun h => by cases h⟩
set_option maxRecDepth 20000 in
theorem fp_X8_23 : FP RX8 23 8 8 (.array .int) true := ⟨RX8, TX8, 32, tyX8, rfl, hwX8, by decide, (mem_big (tk_4 (List.mem_of_getElem? (i := 76) rfl)) rfl), tyX8_ok, nmX8, rfl, rfl, fun _ => rfl⟩
set_option maxRecDepth 20000 in
theorem fp_X8_26 : FP RX8 26 8 10 .int false := ⟨RX8, TX8, 32, tyX8, rfl, hwX8, by decide, (mem_big (tk_4 (List.mem_of_getElem? (i := 78) rfl)) rfl), tyX8_ok, nmX8, rfl, rfl, fun h => by cases h⟩
set_option maxRecDepth 20000 in
theorem fp_X8_268 : FP RX8 268 8 27 .int false := ⟨RX8, TX8, 32, tyX8, rfl, hwX8, by decide, (mem_big (tk_4 (List.mem_of_getElem? (i := 95) rfl)) rfl), tyX8_ok, nmX8, rfl, rfl, fun h => by cases h⟩
set_option maxRecDepth 20000 in
theorem fp_X8_29 : FP RX8 29 8 17 (.array .int) true := ⟨RX8, TX8, 32, tyX8, rfl, hwX8, by decide, (mem_big (tk_4 (List.mem_of_getElem? (i := 85) rfl)) rfl), tyX8_ok, nmX8, rfl, rfl, fun _ => rfl⟩
set_option maxRecDepth 20000 in
theorem fp_X8_292 : FP RX8 292 8 7 .int false := ⟨RX8, TX8, 32, tyX8, rfl, hwX8, by decide, (mem_big (tk_4 (List.mem_of_getElem? (i := 75) rfl)) rfl), tyX8_ok, nmX8, rfl, rfl, fun h => by cases h⟩
set_option maxRecDepth 20000 in
theorem fp_X8_32 : FP RX8 32 8 19 (.array .int) true := ⟨RX8, TX8, 32, tyX8, rfl, hwX8, by decide, (mem_big (tk_4 (List.mem_of_getElem? (i := 87) rfl)) rfl), tyX8_ok, nmX8, rfl, rfl, fun _ => rfl⟩
set_option maxRecDepth 20000 in
theorem fp_X8_35 : FP RX8 35 8 21 (.array .int) true := ⟨RX8, TX8, 32, tyX8, rfl, hwX8, by decide, (mem_big (tk_4 (List.mem_of_getElem? (i := 89) rfl)) rfl), tyX8_ok, nmX8, rfl, rfl, fun _ => rfl⟩
set_option maxRecDepth 20000 in
theorem fp_X8_38 : FP RX8 38 8 22 (.array .int) true := ⟨RX8, TX8, 32, tyX8, rfl, hwX8, by decide, (mem_big (tk_4 (List.mem_of_getElem? (i := 90) rfl)) rfl), tyX8_ok, nmX8, rfl, rfl, fun _ => rfl⟩
set_option maxRecDepth 20000 in
theorem fp_X8_41 : FP RX8 41 8 24 (.array .int) true := ⟨RX8, TX8, 32, tyX8, rfl, hwX8, by decide, (mem_big (tk_4 (List.mem_of_getElem? (i := 92) rfl)) rfl), tyX8_ok, nmX8, rfl, rfl, fun _ => rfl⟩
set_option maxRecDepth 20000 in
theorem fp_X8_44 : FP RX8 44 8 25 (.array .int) true := ⟨RX8, TX8, 32, tyX8, rfl, hwX8, by decide, (mem_big (tk_4 (List.mem_of_getElem? (i := 93) rfl)) rfl), tyX8_ok, nmX8, rfl, rfl, fun _ => rfl⟩
set_option maxRecDepth 20000 in
theorem fp_X8_47 : FP RX8 47 8 26 (.array .int) true := ⟨RX8, TX8, 32, tyX8, rfl, hwX8, by decide, (mem_big (tk_4 (List.mem_of_getElem? (i := 94) rfl)) rfl), tyX8_ok, nmX8, rfl, rfl, fun _ => rfl⟩
set_option maxRecDepth 20000 in
theorem fp_X8_50 : FP RX8 50 8 29 (.array .int) true := ⟨RX8, TX8, 32, tyX8, rfl, hwX8, by decide, (mem_big (tk_4 (List.mem_of_getElem? (i := 97) rfl)) rfl), tyX8_ok, nmX8, rfl, rfl, fun _ => rfl⟩
set_option maxRecDepth 20000 in
theorem fp_X8_53 : FP RX8 53 8 30 (.array .int) true := ⟨RX8, TX8, 32, tyX8, rfl, hwX8, by decide, (mem_big (tk_4 (List.mem_of_getElem? (i := 98) rfl)) rfl), tyX8_ok, nmX8, rfl, rfl, fun _ => rfl⟩
set_option maxRecDepth 20000 in
theorem fp_X8_56 : FP RX8 56 8 31 (.array .boolean) true := ⟨RX8, TX8, 32, tyX8, rfl, hwX8, by decide, (mem_big (tk_4 (List.mem_of_getElem? (i := 99) rfl)) rfl), tyX8_ok, nmX8, rfl, rfl, fun _ => rfl⟩
set_option maxRecDepth 20000 in
theorem fp_X8_60 : FP RX8 60 8 0 .int false := ⟨RX8, TX8, 32, tyX8, rfl, hwX8, by decide, (mem_big (tk_4 (List.mem_of_getElem? (i := 68) rfl)) rfl), tyX8_ok, nmX8, rfl, rfl, fun h => by cases h⟩
set_option maxRecDepth 20000 in
theorem fp_X8_67 : FP RX8 67 8 2 .int false := ⟨RX8, TX8, 32, tyX8, rfl, hwX8, by decide, (mem_big (tk_4 (List.mem_of_getElem? (i := 70) rfl)) rfl), tyX8_ok, nmX8, rfl, rfl, fun h => by cases h⟩
set_option maxRecDepth 20000 in
theorem fp_X8_7 : FP RX8 7 8 1 (.array .int) true := ⟨RX8, TX8, 32, tyX8, rfl, hwX8, by decide, (mem_big (tk_4 (List.mem_of_getElem? (i := 69) rfl)) rfl), tyX8_ok, nmX8, rfl, rfl, fun _ => rfl⟩
set_option maxRecDepth 20000 in
theorem fp_X8_77 : FP RX8 77 8 9 .int false := ⟨RX8, TX8, 32, tyX8, rfl, hwX8, by decide, (mem_big (tk_4 (List.mem_of_getElem? (i := 77) rfl)) rfl), tyX8_ok, nmX8, rfl, rfl, fun h => by cases h⟩
set_option maxRecDepth 20000 in
theorem fp_X8_83 : FP RX8 83 8 11 .int false := ⟨RX8, TX8, 32, tyX8, rfl, hwX8, by decide, (mem_big (tk_4 (List.mem_of_getElem? (i := 79) rfl)) rfl), tyX8_ok, nmX8, rfl, rfl, fun h => by cases h⟩
set_option maxRecDepth 20000 in
theorem fp_X8_90 : FP RX8 90 8 12 .long false := ⟨RX8, TX8, 32, tyX8, rfl, hwX8, by decide, (mem_big (tk_4 (List.mem_of_getElem? (i := 80) rfl)) rfl), tyX8_ok, nmX8, rfl, rfl, fun h => by cases h⟩
set_option maxRecDepth 20000 in
theorem fp_X8_94 : FP RX8 94 8 13 .int false := ⟨RX8, TX8, 32, tyX8, rfl, hwX8, by decide, (mem_big (tk_4 (List.mem_of_getElem? (i := 81) rfl)) rfl), tyX8_ok, nmX8, rfl, rfl, fun h => by cases h⟩
set_option maxRecDepth 20000 in
theorem aw_int : Cond.arrayClass .int ∈ big := (mem_big (tk_1 (List.mem_of_getElem? (i := 76) rfl)) rfl)
set_option maxRecDepth 20000 in
theorem aw_byte : Cond.arrayClass .byte ∈ big := (mem_big (tk_1 (List.mem_of_getElem? (i := 56) rfl)) rfl)
set_option maxRecDepth 20000 in
theorem aw_long : Cond.arrayClass .long ∈ big := (mem_big (tk_1 (List.mem_of_getElem? (i := 183) rfl)) rfl)
set_option maxRecDepth 20000 in
theorem aw_boolean : Cond.arrayClass .boolean ∈ big := (mem_big (tk_4 (List.mem_of_getElem? (i := 165) rfl)) rfl)
set_option maxRecDepth 20000 in
theorem nw_L_10 : Cond.classLink RL 10 RX8 ∈ big := (mem_big (tk_4 (List.mem_of_getElem? (i := 62) rfl)) rfl)
set_option maxRecDepth 20000 in
theorem nw_L_7 : Cond.classLink RL 7 RX7 ∈ big := (mem_big (tk_1 (List.mem_of_getElem? (i := 17) rfl)) rfl)
set_option maxRecDepth 20000 in
theorem nw_X2_9 : Cond.classLink RX2 9 RX1 ∈ big := (mem_big (tk_1 (List.mem_of_getElem? (i := 128) rfl)) rfl)
set_option maxRecDepth 20000 in
theorem nw_X4_9 : Cond.classLink RX4 9 RX6 ∈ big := (mem_big (tk_1 (List.mem_of_getElem? (i := 83) rfl)) rfl)
set_option maxRecDepth 20000 in
theorem nw_X7_16 : Cond.classLink RX7 16 RX6 ∈ big := (mem_big (tk_1 (List.mem_of_getElem? (i := 57) rfl)) rfl)
set_option maxRecDepth 20000 in
theorem nw_X7_28 : Cond.classLink RX7 28 RX4 ∈ big := (mem_big (tk_1 (List.mem_of_getElem? (i := 77) rfl)) rfl)
set_option maxRecDepth 20000 in
theorem nw_X7_38 : Cond.classLink RX7 38 RX1 ∈ big := (mem_big (tk_1 (List.mem_of_getElem? (i := 96) rfl)) rfl)
set_option maxRecDepth 20000 in
theorem nw_X7_45 : Cond.classLink RX7 45 RX2 ∈ big := (mem_big (tk_1 (List.mem_of_getElem? (i := 122) rfl)) rfl)
set_option maxRecDepth 20000 in
theorem nw_X7_52 : Cond.classLink RX7 52 RX0 ∈ big := (mem_big (tk_1 (List.mem_of_getElem? (i := 147) rfl)) rfl)
set_option maxRecDepth 20000 in
theorem nw_X7_59 : Cond.classLink RX7 59 RX3 ∈ big := (mem_big (tk_1 (List.mem_of_getElem? (i := 184) rfl)) rfl)
set_option maxRecDepth 20000 in
theorem nw_X7_7 : Cond.classLink RX7 7 RX5 ∈ big := (mem_big (tk_1 (List.mem_of_getElem? (i := 25) rfl)) rfl)
set_option maxRecDepth 20000 in
theorem in_X0 : Cond.instantiable RX0 9 ∈ big := (mem_big (tk_1 (List.mem_of_getElem? (i := 148) rfl)) rfl)
set_option maxRecDepth 20000 in
theorem ii_X0 : Cond.initialized RX0 ∈ big := (mem_big (tk_1 (List.mem_of_getElem? (i := 8) rfl)) rfl)
set_option maxRecDepth 20000 in
theorem in_X1 : Cond.instantiable RX1 6 ∈ big := (mem_big (tk_1 (List.mem_of_getElem? (i := 97) rfl)) rfl)
set_option maxRecDepth 20000 in
theorem ii_X1 : Cond.initialized RX1 ∈ big := (mem_big (tk_1 (List.mem_of_getElem? (i := 6) rfl)) rfl)
set_option maxRecDepth 20000 in
theorem in_X2 : Cond.instantiable RX2 5 ∈ big := (mem_big (tk_1 (List.mem_of_getElem? (i := 123) rfl)) rfl)
set_option maxRecDepth 20000 in
theorem ii_X2 : Cond.initialized RX2 ∈ big := (mem_big (tk_1 (List.mem_of_getElem? (i := 7) rfl)) rfl)
set_option maxRecDepth 20000 in
theorem in_X3 : Cond.instantiable RX3 5 ∈ big := (mem_big (tk_1 (List.mem_of_getElem? (i := 185) rfl)) rfl)
set_option maxRecDepth 20000 in
theorem ii_X3 : Cond.initialized RX3 ∈ big := (mem_big (tk_1 (List.mem_of_getElem? (i := 9) rfl)) rfl)
set_option maxRecDepth 20000 in
theorem in_X4 : Cond.instantiable RX4 3 ∈ big := (mem_big (tk_1 (List.mem_of_getElem? (i := 78) rfl)) rfl)
set_option maxRecDepth 20000 in
theorem ii_X4 : Cond.initialized RX4 ∈ big := (mem_big (tk_1 (List.mem_of_getElem? (i := 5) rfl)) rfl)
set_option maxRecDepth 20000 in
theorem in_X5 : Cond.instantiable RX5 7 ∈ big := (mem_big (tk_1 (List.mem_of_getElem? (i := 26) rfl)) rfl)
set_option maxRecDepth 20000 in
theorem ii_X5 : Cond.initialized RX5 ∈ big := (mem_big (tk_1 (List.mem_of_getElem? (i := 2) rfl)) rfl)
set_option maxRecDepth 20000 in
theorem in_X6 : Cond.instantiable RX6 2 ∈ big := (mem_big (tk_1 (List.mem_of_getElem? (i := 58) rfl)) rfl)
set_option maxRecDepth 20000 in
theorem ii_X6 : Cond.initialized RX6 ∈ big := (mem_big (tk_1 (List.mem_of_getElem? (i := 3) rfl)) rfl)
set_option maxRecDepth 20000 in
theorem in_X7 : Cond.instantiable RX7 11 ∈ big := (mem_big (tk_1 (List.mem_of_getElem? (i := 18) rfl)) rfl)
set_option maxRecDepth 20000 in
theorem ii_X7 : Cond.initialized RX7 ∈ big := (mem_big (tk_1 (List.mem_of_getElem? (i := 1) rfl)) rfl)
set_option maxRecDepth 20000 in
theorem in_X8 : Cond.instantiable RX8 32 ∈ big := (mem_big (tk_4 (List.mem_of_getElem? (i := 63) rfl)) rfl)
set_option maxRecDepth 20000 in
theorem ii_X8 : Cond.initialized RX8 ∈ big := (mem_big (tk_1 (List.mem_of_getElem? (i := 10) rfl)) rfl)
set_option maxRecDepth 20000 in
theorem ob_inst : Cond.instanceMethod objectInit ∈ big := (mem_big (tk_1 (List.mem_of_getElem? (i := 23) rfl)) rfl)
