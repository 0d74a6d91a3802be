set_option maxRecDepth 100000 in
theorem hc0 : am_c 0 = cX0_init := rfl
set_option maxRecDepth 100000 in
theorem ho0 : am_own 0 = 0 := rfl
set_option maxRecDepth 100000 in
theorem hv0 : am_lev 0 = 2 := rfl
set_option maxRecDepth 100000 in
theorem hn0 : am_nl 0 = 1 := rfl
set_option maxRecDepth 100000 in
theorem hr0 : am_rt 0 = none := rfl
set_option maxRecDepth 100000 in
theorem hp0 : am_np 0 = 0 := rfl
set_option maxRecDepth 100000 in
theorem hi0 : am_ini 0 = true := rfl
set_option maxRecDepth 100000 in
theorem hc1 : am_c 1 = cX0_readFrom := rfl
set_option maxRecDepth 100000 in
theorem ho1 : am_own 1 = 0 := rfl
set_option maxRecDepth 100000 in
theorem hv1 : am_lev 1 = 4 := rfl
set_option maxRecDepth 100000 in
theorem hn1 : am_nl 1 = 4 := rfl
set_option maxRecDepth 100000 in
theorem hr1 : am_rt 1 = (some .int) := rfl
set_option maxRecDepth 100000 in
theorem hp1 : am_np 1 = 1 := rfl
set_option maxRecDepth 100000 in
theorem hi1 : am_ini 1 = false := rfl
set_option maxRecDepth 100000 in
theorem hc2 : am_c 2 = cX0_take := rfl
set_option maxRecDepth 100000 in
theorem ho2 : am_own 2 = 0 := rfl
set_option maxRecDepth 100000 in
theorem hv2 : am_lev 2 = 1 := rfl
set_option maxRecDepth 100000 in
theorem hn2 : am_nl 2 = 5 := rfl
set_option maxRecDepth 100000 in
theorem hr2 : am_rt 2 = none := rfl
set_option maxRecDepth 100000 in
theorem hp2 : am_np 2 = 3 := rfl
set_option maxRecDepth 100000 in
theorem hi2 : am_ini 2 = false := rfl
set_option maxRecDepth 100000 in
theorem hc3 : am_c 3 = cX0_firstAstray := rfl
set_option maxRecDepth 100000 in
theorem ho3 : am_own 3 = 0 := rfl
set_option maxRecDepth 100000 in
theorem hv3 : am_lev 3 = 3 := rfl
set_option maxRecDepth 100000 in
theorem hn3 : am_nl 3 = 3 := rfl
set_option maxRecDepth 100000 in
theorem hr3 : am_rt 3 = (some .int) := rfl
set_option maxRecDepth 100000 in
theorem hp3 : am_np 3 = 0 := rfl
set_option maxRecDepth 100000 in
theorem hi3 : am_ini 3 = false := rfl
set_option maxRecDepth 100000 in
theorem hc4 : am_c 4 = cX0_widthAt := rfl
set_option maxRecDepth 100000 in
theorem ho4 : am_own 4 = 0 := rfl
set_option maxRecDepth 100000 in
theorem hv4 : am_lev 4 = 2 := rfl
set_option maxRecDepth 100000 in
theorem hn4 : am_nl 4 = 4 := rfl
set_option maxRecDepth 100000 in
theorem hr4 : am_rt 4 = (some .int) := rfl
set_option maxRecDepth 100000 in
theorem hp4 : am_np 4 = 2 := rfl
set_option maxRecDepth 100000 in
theorem hi4 : am_ini 4 = false := rfl
set_option maxRecDepth 100000 in
theorem hc5 : am_c 5 = cX0_has := rfl
set_option maxRecDepth 100000 in
theorem ho5 : am_own 5 = 0 := rfl
set_option maxRecDepth 100000 in
theorem hv5 : am_lev 5 = 0 := rfl
set_option maxRecDepth 100000 in
theorem hn5 : am_nl 5 = 2 := rfl
set_option maxRecDepth 100000 in
theorem hr5 : am_rt 5 = (some .boolean) := rfl
set_option maxRecDepth 100000 in
theorem hp5 : am_np 5 = 1 := rfl
set_option maxRecDepth 100000 in
theorem hi5 : am_ini 5 = false := rfl
set_option maxRecDepth 100000 in
theorem hc6 : am_c 6 = cX0_beginsAt := rfl
set_option maxRecDepth 100000 in
theorem ho6 : am_own 6 = 0 := rfl
set_option maxRecDepth 100000 in
theorem hv6 : am_lev 6 = 1 := rfl
set_option maxRecDepth 100000 in
theorem hn6 : am_nl 6 = 2 := rfl
set_option maxRecDepth 100000 in
theorem hr6 : am_rt 6 = (some .boolean) := rfl
set_option maxRecDepth 100000 in
theorem hp6 : am_np 6 = 1 := rfl
set_option maxRecDepth 100000 in
theorem hi6 : am_ini 6 = false := rfl
set_option maxRecDepth 100000 in
theorem hc7 : am_c 7 = cX0_letterAt := rfl
set_option maxRecDepth 100000 in
theorem ho7 : am_own 7 = 0 := rfl
set_option maxRecDepth 100000 in
theorem hv7 : am_lev 7 = 1 := rfl
set_option maxRecDepth 100000 in
theorem hn7 : am_nl 7 = 2 := rfl
set_option maxRecDepth 100000 in
theorem hr7 : am_rt 7 = (some .char) := rfl
set_option maxRecDepth 100000 in
theorem hp7 : am_np 7 = 1 := rfl
set_option maxRecDepth 100000 in
theorem hi7 : am_ini 7 = false := rfl
set_option maxRecDepth 100000 in
theorem hc8 : am_c 8 = cX0_numberAt := rfl
set_option maxRecDepth 100000 in
theorem ho8 : am_own 8 = 0 := rfl
set_option maxRecDepth 100000 in
theorem hv8 : am_lev 8 = 2 := rfl
set_option maxRecDepth 100000 in
theorem hn8 : am_nl 8 = 2 := rfl
set_option maxRecDepth 100000 in
theorem hr8 : am_rt 8 = (some .int) := rfl
set_option maxRecDepth 100000 in
theorem hp8 : am_np 8 = 1 := rfl
set_option maxRecDepth 100000 in
theorem hi8 : am_ini 8 = false := rfl
set_option maxRecDepth 100000 in
theorem hc9 : am_c 9 = cX1_init := rfl
set_option maxRecDepth 100000 in
theorem ho9 : am_own 9 = 1 := rfl
set_option maxRecDepth 100000 in
theorem hv9 : am_lev 9 = 4 := rfl
set_option maxRecDepth 100000 in
theorem hn9 : am_nl 9 = 2 := rfl
set_option maxRecDepth 100000 in
theorem hr9 : am_rt 9 = none := rfl
set_option maxRecDepth 100000 in
theorem hp9 : am_np 9 = 0 := rfl
set_option maxRecDepth 100000 in
theorem hi9 : am_ini 9 = true := rfl
set_option maxRecDepth 100000 in
theorem hc10 : am_c 10 = cX1_keep := rfl
set_option maxRecDepth 100000 in
theorem ho10 : am_own 10 = 1 := rfl
set_option maxRecDepth 100000 in
theorem hv10 : am_lev 10 = 4 := rfl
set_option maxRecDepth 100000 in
theorem hn10 : am_nl 10 = 3 := rfl
set_option maxRecDepth 100000 in
theorem hr10 : am_rt 10 = none := rfl
set_option maxRecDepth 100000 in
theorem hp10 : am_np 10 = 1 := rfl
set_option maxRecDepth 100000 in
theorem hi10 : am_ini 10 = false := rfl
set_option maxRecDepth 100000 in
theorem hc11 : am_c 11 = cX1_giveBack := rfl
set_option maxRecDepth 100000 in
theorem ho11 : am_own 11 = 1 := rfl
set_option maxRecDepth 100000 in
theorem hv11 : am_lev 11 = 4 := rfl
set_option maxRecDepth 100000 in
theorem hn11 : am_nl 11 = 4 := rfl
set_option maxRecDepth 100000 in
theorem hr11 : am_rt 11 = none := rfl
set_option maxRecDepth 100000 in
theorem hp11 : am_np 11 = 1 := rfl
set_option maxRecDepth 100000 in
theorem hi11 : am_ini 11 = false := rfl
set_option maxRecDepth 100000 in
theorem hc12 : am_c 12 = cX1_clear := rfl
set_option maxRecDepth 100000 in
theorem ho12 : am_own 12 = 1 := rfl
set_option maxRecDepth 100000 in
theorem hv12 : am_lev 12 = 0 := rfl
set_option maxRecDepth 100000 in
theorem hn12 : am_nl 12 = 1 := rfl
set_option maxRecDepth 100000 in
theorem hr12 : am_rt 12 = none := rfl
set_option maxRecDepth 100000 in
theorem hp12 : am_np 12 = 0 := rfl
set_option maxRecDepth 100000 in
theorem hi12 : am_ini 12 = false := rfl
set_option maxRecDepth 100000 in
theorem hc13 : am_c 13 = cX2_init := rfl
set_option maxRecDepth 100000 in
theorem ho13 : am_own 13 = 2 := rfl
set_option maxRecDepth 100000 in
theorem hv13 : am_lev 13 = 1 := rfl
set_option maxRecDepth 100000 in
theorem hn13 : am_nl 13 = 1 := rfl
set_option maxRecDepth 100000 in
theorem hr13 : am_rt 13 = none := rfl
set_option maxRecDepth 100000 in
theorem hp13 : am_np 13 = 0 := rfl
set_option maxRecDepth 100000 in
theorem hi13 : am_ini 13 = true := rfl
set_option maxRecDepth 100000 in
theorem hc14 : am_c 14 = cX2_has := rfl
set_option maxRecDepth 100000 in
theorem ho14 : am_own 14 = 2 := rfl
set_option maxRecDepth 100000 in
theorem hv14 : am_lev 14 = 0 := rfl
set_option maxRecDepth 100000 in
theorem hn14 : am_nl 14 = 2 := rfl
set_option maxRecDepth 100000 in
theorem hr14 : am_rt 14 = (some .boolean) := rfl
set_option maxRecDepth 100000 in
theorem hp14 : am_np 14 = 1 := rfl
set_option maxRecDepth 100000 in
theorem hi14 : am_ini 14 = false := rfl
set_option maxRecDepth 100000 in
theorem hc15 : am_c 15 = cX2_get := rfl
set_option maxRecDepth 100000 in
theorem ho15 : am_own 15 = 2 := rfl
set_option maxRecDepth 100000 in
theorem hv15 : am_lev 15 = 1 := rfl
set_option maxRecDepth 100000 in
theorem hn15 : am_nl 15 = 2 := rfl
set_option maxRecDepth 100000 in
theorem hr15 : am_rt 15 = (some .int) := rfl
set_option maxRecDepth 100000 in
theorem hp15 : am_np 15 = 1 := rfl
set_option maxRecDepth 100000 in
theorem hi15 : am_ini 15 = false := rfl
set_option maxRecDepth 100000 in
theorem hc16 : am_c 16 = cX2_put := rfl
set_option maxRecDepth 100000 in
theorem ho16 : am_own 16 = 2 := rfl
set_option maxRecDepth 100000 in
theorem hv16 : am_lev 16 = 1 := rfl
set_option maxRecDepth 100000 in
theorem hn16 : am_nl 16 = 3 := rfl
set_option maxRecDepth 100000 in
theorem hr16 : am_rt 16 = none := rfl
set_option maxRecDepth 100000 in
theorem hp16 : am_np 16 = 2 := rfl
set_option maxRecDepth 100000 in
theorem hi16 : am_ini 16 = false := rfl
set_option maxRecDepth 100000 in
theorem hc17 : am_c 17 = cX2_together := rfl
set_option maxRecDepth 100000 in
theorem ho17 : am_own 17 = 2 := rfl
set_option maxRecDepth 100000 in
theorem hv17 : am_lev 17 = 0 := rfl
set_option maxRecDepth 100000 in
theorem hn17 : am_nl 17 = 3 := rfl
set_option maxRecDepth 100000 in
theorem hr17 : am_rt 17 = (some .int) := rfl
set_option maxRecDepth 100000 in
theorem hp17 : am_np 17 = 0 := rfl
set_option maxRecDepth 100000 in
theorem hi17 : am_ini 17 = false := rfl
set_option maxRecDepth 100000 in
theorem hc18 : am_c 18 = cX2_clear := rfl
set_option maxRecDepth 100000 in
theorem ho18 : am_own 18 = 2 := rfl
set_option maxRecDepth 100000 in
theorem hv18 : am_lev 18 = 0 := rfl
set_option maxRecDepth 100000 in
theorem hn18 : am_nl 18 = 2 := rfl
set_option maxRecDepth 100000 in
theorem hr18 : am_rt 18 = none := rfl
set_option maxRecDepth 100000 in
theorem hp18 : am_np 18 = 0 := rfl
set_option maxRecDepth 100000 in
theorem hi18 : am_ini 18 = false := rfl
set_option maxRecDepth 100000 in
theorem hc19 : am_c 19 = cX2_copyFrom := rfl
set_option maxRecDepth 100000 in
theorem ho19 : am_own 19 = 2 := rfl
set_option maxRecDepth 100000 in
theorem hv19 : am_lev 19 = 1 := rfl
set_option maxRecDepth 100000 in
theorem hn19 : am_nl 19 = 2 := rfl
set_option maxRecDepth 100000 in
theorem hr19 : am_rt 19 = none := rfl
set_option maxRecDepth 100000 in
theorem hp19 : am_np 19 = 1 := rfl
set_option maxRecDepth 100000 in
theorem hi19 : am_ini 19 = false := rfl
set_option maxRecDepth 100000 in
theorem hc20 : am_c 20 = cX3_init := rfl
set_option maxRecDepth 100000 in
theorem ho20 : am_own 20 = 3 := rfl
set_option maxRecDepth 100000 in
theorem hv20 : am_lev 20 = 1 := rfl
set_option maxRecDepth 100000 in
theorem hn20 : am_nl 20 = 2 := rfl
set_option maxRecDepth 100000 in
theorem hr20 : am_rt 20 = none := rfl
set_option maxRecDepth 100000 in
theorem hp20 : am_np 20 = 1 := rfl
set_option maxRecDepth 100000 in
theorem hi20 : am_ini 20 = true := rfl
set_option maxRecDepth 100000 in
theorem hc21 : am_c 21 = cX3_layOn := rfl
set_option maxRecDepth 100000 in
theorem ho21 : am_own 21 = 3 := rfl
set_option maxRecDepth 100000 in
theorem hv21 : am_lev 21 = 0 := rfl
set_option maxRecDepth 100000 in
theorem hn21 : am_nl 21 = 3 := rfl
set_option maxRecDepth 100000 in
theorem hr21 : am_rt 21 = none := rfl
set_option maxRecDepth 100000 in
theorem hp21 : am_np 21 = 2 := rfl
set_option maxRecDepth 100000 in
theorem hi21 : am_ini 21 = false := rfl
set_option maxRecDepth 100000 in
theorem hc22 : am_c 22 = cX3_goIfNobodyIsInside := rfl
set_option maxRecDepth 100000 in
theorem ho22 : am_own 22 = 3 := rfl
set_option maxRecDepth 100000 in
theorem hv22 : am_lev 22 = 0 := rfl
set_option maxRecDepth 100000 in
theorem hn22 : am_nl 22 = 1 := rfl
set_option maxRecDepth 100000 in
theorem hr22 : am_rt 22 = none := rfl
set_option maxRecDepth 100000 in
theorem hp22 : am_np 22 = 0 := rfl
set_option maxRecDepth 100000 in
theorem hi22 : am_ini 22 = false := rfl
set_option maxRecDepth 100000 in
theorem hc23 : am_c 23 = cX3_tell := rfl
set_option maxRecDepth 100000 in
theorem ho23 : am_own 23 = 3 := rfl
set_option maxRecDepth 100000 in
theorem hv23 : am_lev 23 = 0 := rfl
set_option maxRecDepth 100000 in
theorem hn23 : am_nl 23 = 2 := rfl
set_option maxRecDepth 100000 in
theorem hr23 : am_rt 23 = (some .int) := rfl
set_option maxRecDepth 100000 in
theorem hp23 : am_np 23 = 1 := rfl
set_option maxRecDepth 100000 in
theorem hi23 : am_ini 23 = false := rfl
set_option maxRecDepth 100000 in
theorem hc24 : am_c 24 = cX3_copyFrom := rfl
set_option maxRecDepth 100000 in
theorem ho24 : am_own 24 = 3 := rfl
set_option maxRecDepth 100000 in
theorem hv24 : am_lev 24 = 0 := rfl
set_option maxRecDepth 100000 in
theorem hn24 : am_nl 24 = 2 := rfl
set_option maxRecDepth 100000 in
theorem hr24 : am_rt 24 = none := rfl
set_option maxRecDepth 100000 in
theorem hp24 : am_np 24 = 1 := rfl
set_option maxRecDepth 100000 in
theorem hi24 : am_ini 24 = false := rfl
set_option maxRecDepth 100000 in
theorem hc25 : am_c 25 = cX4_init := rfl
set_option maxRecDepth 100000 in
theorem ho25 : am_own 25 = 4 := rfl
set_option maxRecDepth 100000 in
theorem hv25 : am_lev 25 = 2 := rfl
set_option maxRecDepth 100000 in
theorem hn25 : am_nl 25 = 1 := rfl
set_option maxRecDepth 100000 in
theorem hr25 : am_rt 25 = none := rfl
set_option maxRecDepth 100000 in
theorem hp25 : am_np 25 = 0 := rfl
set_option maxRecDepth 100000 in
theorem hi25 : am_ini 25 = true := rfl
set_option maxRecDepth 100000 in
theorem hc26 : am_c 26 = cX4_isAtInstruction := rfl
set_option maxRecDepth 100000 in
theorem ho26 : am_own 26 = 4 := rfl
set_option maxRecDepth 100000 in
theorem hv26 : am_lev 26 = 2 := rfl
set_option maxRecDepth 100000 in
theorem hn26 : am_nl 26 = 2 := rfl
set_option maxRecDepth 100000 in
theorem hr26 : am_rt 26 = (some .boolean) := rfl
set_option maxRecDepth 100000 in
theorem hp26 : am_np 26 = 1 := rfl
set_option maxRecDepth 100000 in
theorem hi26 : am_ini 26 = false := rfl
set_option maxRecDepth 100000 in
theorem hc27 : am_c 27 = cX4_perform := rfl
set_option maxRecDepth 100000 in
theorem ho27 : am_own 27 = 4 := rfl
set_option maxRecDepth 100000 in
theorem hv27 : am_lev 27 = 3 := rfl
set_option maxRecDepth 100000 in
theorem hn27 : am_nl 27 = 5 := rfl
set_option maxRecDepth 100000 in
theorem hr27 : am_rt 27 = none := rfl
set_option maxRecDepth 100000 in
theorem hp27 : am_np 27 = 2 := rfl
set_option maxRecDepth 100000 in
theorem hi27 : am_ini 27 = false := rfl
set_option maxRecDepth 100000 in
theorem hc28 : am_c 28 = cX4_reckon := rfl
set_option maxRecDepth 100000 in
theorem ho28 : am_own 28 = 4 := rfl
set_option maxRecDepth 100000 in
theorem hv28 : am_lev 28 = 2 := rfl
set_option maxRecDepth 100000 in
theorem hn28 : am_nl 28 = 4 := rfl
set_option maxRecDepth 100000 in
theorem hr28 : am_rt 28 = none := rfl
set_option maxRecDepth 100000 in
theorem hp28 : am_np 28 = 3 := rfl
set_option maxRecDepth 100000 in
theorem hi28 : am_ini 28 = false := rfl
set_option maxRecDepth 100000 in
theorem hc29 : am_c 29 = cX4_goingOn := rfl
set_option maxRecDepth 100000 in
theorem ho29 : am_own 29 = 4 := rfl
set_option maxRecDepth 100000 in
theorem hv29 : am_lev 29 = 1 := rfl
set_option maxRecDepth 100000 in
theorem hn29 : am_nl 29 = 4 := rfl
set_option maxRecDepth 100000 in
theorem hr29 : am_rt 29 = (some .int) := rfl
set_option maxRecDepth 100000 in
theorem hp29 : am_np 29 = 2 := rfl
set_option maxRecDepth 100000 in
theorem hi29 : am_ini 29 = false := rfl
set_option maxRecDepth 100000 in
theorem hc30 : am_c 30 = cX4_called := rfl
set_option maxRecDepth 100000 in
theorem ho30 : am_own 30 = 4 := rfl
set_option maxRecDepth 100000 in
theorem hv30 : am_lev 30 = 0 := rfl
set_option maxRecDepth 100000 in
theorem hn30 : am_nl 30 = 3 := rfl
set_option maxRecDepth 100000 in
theorem hr30 : am_rt 30 = (some .int) := rfl
set_option maxRecDepth 100000 in
theorem hp30 : am_np 30 = 2 := rfl
set_option maxRecDepth 100000 in
theorem hi30 : am_ini 30 = false := rfl
set_option maxRecDepth 100000 in
theorem hc31 : am_c 31 = cX4_returned := rfl
set_option maxRecDepth 100000 in
theorem ho31 : am_own 31 = 4 := rfl
set_option maxRecDepth 100000 in
theorem hv31 : am_lev 31 = 0 := rfl
set_option maxRecDepth 100000 in
theorem hn31 : am_nl 31 = 1 := rfl
set_option maxRecDepth 100000 in
theorem hr31 : am_rt 31 = (some .int) := rfl
set_option maxRecDepth 100000 in
theorem hp31 : am_np 31 = 0 := rfl
set_option maxRecDepth 100000 in
theorem hi31 : am_ini 31 = false := rfl
set_option maxRecDepth 100000 in
theorem hc32 : am_c 32 = cX4_returnAt := rfl
set_option maxRecDepth 100000 in
theorem ho32 : am_own 32 = 4 := rfl
set_option maxRecDepth 100000 in
theorem hv32 : am_lev 32 = 0 := rfl
set_option maxRecDepth 100000 in
theorem hn32 : am_nl 32 = 2 := rfl
set_option maxRecDepth 100000 in
theorem hr32 : am_rt 32 = (some .int) := rfl
set_option maxRecDepth 100000 in
theorem hp32 : am_np 32 = 1 := rfl
set_option maxRecDepth 100000 in
theorem hi32 : am_ini 32 = false := rfl
set_option maxRecDepth 100000 in
theorem hc33 : am_c 33 = cX4_holderAt := rfl
set_option maxRecDepth 100000 in
theorem ho33 : am_own 33 = 4 := rfl
set_option maxRecDepth 100000 in
theorem hv33 : am_lev 33 = 0 := rfl
set_option maxRecDepth 100000 in
theorem hn33 : am_nl 33 = 2 := rfl
set_option maxRecDepth 100000 in
theorem hr33 : am_rt 33 = (some .int) := rfl
set_option maxRecDepth 100000 in
theorem hp33 : am_np 33 = 1 := rfl
set_option maxRecDepth 100000 in
theorem hi33 : am_ini 33 = false := rfl
set_option maxRecDepth 100000 in
theorem hc34 : am_c 34 = cX4_topHolder := rfl
set_option maxRecDepth 100000 in
theorem ho34 : am_own 34 = 4 := rfl
set_option maxRecDepth 100000 in
theorem hv34 : am_lev 34 = 1 := rfl
set_option maxRecDepth 100000 in
theorem hn34 : am_nl 34 = 1 := rfl
set_option maxRecDepth 100000 in
theorem hr34 : am_rt 34 = (some .int) := rfl
set_option maxRecDepth 100000 in
theorem hp34 : am_np 34 = 0 := rfl
set_option maxRecDepth 100000 in
theorem hi34 : am_ini 34 = false := rfl
set_option maxRecDepth 100000 in
theorem hc35 : am_c 35 = cX4_holdTop := rfl
set_option maxRecDepth 100000 in
theorem ho35 : am_own 35 = 4 := rfl
set_option maxRecDepth 100000 in
theorem hv35 : am_lev 35 = 0 := rfl
set_option maxRecDepth 100000 in
theorem hn35 : am_nl 35 = 3 := rfl
set_option maxRecDepth 100000 in
theorem hr35 : am_rt 35 = (some .boolean) := rfl
set_option maxRecDepth 100000 in
theorem hp35 : am_np 35 = 1 := rfl
set_option maxRecDepth 100000 in
theorem hi35 : am_ini 35 = false := rfl
set_option maxRecDepth 100000 in
theorem hc36 : am_c 36 = cX4_goTo := rfl
set_option maxRecDepth 100000 in
theorem ho36 : am_own 36 = 4 := rfl
set_option maxRecDepth 100000 in
theorem hv36 : am_lev 36 = 0 := rfl
set_option maxRecDepth 100000 in
theorem hn36 : am_nl 36 = 3 := rfl
set_option maxRecDepth 100000 in
theorem hr36 : am_rt 36 = none := rfl
set_option maxRecDepth 100000 in
theorem hp36 : am_np 36 = 2 := rfl
set_option maxRecDepth 100000 in
theorem hi36 : am_ini 36 = false := rfl
set_option maxRecDepth 100000 in
theorem hc37 : am_c 37 = cX4_tell := rfl
set_option maxRecDepth 100000 in
theorem ho37 : am_own 37 = 4 := rfl
set_option maxRecDepth 100000 in
theorem hv37 : am_lev 37 = 0 := rfl
set_option maxRecDepth 100000 in
theorem hn37 : am_nl 37 = 2 := rfl
set_option maxRecDepth 100000 in
theorem hr37 : am_rt 37 = (some .int) := rfl
set_option maxRecDepth 100000 in
theorem hp37 : am_np 37 = 1 := rfl
set_option maxRecDepth 100000 in
theorem hi37 : am_ini 37 = false := rfl
set_option maxRecDepth 100000 in
theorem hc38 : am_c 38 = cX4_clear := rfl
set_option maxRecDepth 100000 in
theorem ho38 : am_own 38 = 4 := rfl
set_option maxRecDepth 100000 in
theorem hv38 : am_lev 38 = 1 := rfl
set_option maxRecDepth 100000 in
theorem hn38 : am_nl 38 = 1 := rfl
set_option maxRecDepth 100000 in
theorem hr38 : am_rt 38 = none := rfl
set_option maxRecDepth 100000 in
theorem hp38 : am_np 38 = 0 := rfl
set_option maxRecDepth 100000 in
theorem hi38 : am_ini 38 = false := rfl
set_option maxRecDepth 100000 in
theorem hc39 : am_c 39 = cX4_copyFrom := rfl
set_option maxRecDepth 100000 in
theorem ho39 : am_own 39 = 4 := rfl
set_option maxRecDepth 100000 in
theorem hv39 : am_lev 39 = 2 := rfl
set_option maxRecDepth 100000 in
theorem hn39 : am_nl 39 = 2 := rfl
set_option maxRecDepth 100000 in
theorem hr39 : am_rt 39 = none := rfl
set_option maxRecDepth 100000 in
theorem hp39 : am_np 39 = 1 := rfl
set_option maxRecDepth 100000 in
theorem hi39 : am_ini 39 = false := rfl
set_option maxRecDepth 100000 in
theorem hc40 : am_c 40 = cX5_init := rfl
set_option maxRecDepth 100000 in
theorem ho40 : am_own 40 = 5 := rfl
set_option maxRecDepth 100000 in
theorem hv40 : am_lev 40 = 1 := rfl
set_option maxRecDepth 100000 in
theorem hn40 : am_nl 40 = 1 := rfl
set_option maxRecDepth 100000 in
theorem hr40 : am_rt 40 = none := rfl
set_option maxRecDepth 100000 in
theorem hp40 : am_np 40 = 0 := rfl
set_option maxRecDepth 100000 in
theorem hi40 : am_ini 40 = true := rfl
set_option maxRecDepth 100000 in
theorem hc41 : am_c 41 = cX5_enter := rfl
set_option maxRecDepth 100000 in
theorem ho41 : am_own 41 = 5 := rfl
set_option maxRecDepth 100000 in
theorem hv41 : am_lev 41 = 1 := rfl
set_option maxRecDepth 100000 in
theorem hn41 : am_nl 41 = 4 := rfl
set_option maxRecDepth 100000 in
theorem hr41 : am_rt 41 = none := rfl
set_option maxRecDepth 100000 in
theorem hp41 : am_np 41 = 3 := rfl
set_option maxRecDepth 100000 in
theorem hi41 : am_ini 41 = false := rfl
set_option maxRecDepth 100000 in
theorem hc42 : am_c 42 = cX5_loseOldest := rfl
set_option maxRecDepth 100000 in
theorem ho42 : am_own 42 = 5 := rfl
set_option maxRecDepth 100000 in
theorem hv42 : am_lev 42 = 0 := rfl
set_option maxRecDepth 100000 in
theorem hn42 : am_nl 42 = 2 := rfl
set_option maxRecDepth 100000 in
theorem hr42 : am_rt 42 = none := rfl
set_option maxRecDepth 100000 in
theorem hp42 : am_np 42 = 0 := rfl
set_option maxRecDepth 100000 in
theorem hi42 : am_ini 42 = false := rfl
set_option maxRecDepth 100000 in
theorem hc43 : am_c 43 = cX5_tell := rfl
set_option maxRecDepth 100000 in
theorem ho43 : am_own 43 = 5 := rfl
set_option maxRecDepth 100000 in
theorem hv43 : am_lev 43 = 0 := rfl
set_option maxRecDepth 100000 in
theorem hn43 : am_nl 43 = 3 := rfl
set_option maxRecDepth 100000 in
theorem hr43 : am_rt 43 = (some .int) := rfl
set_option maxRecDepth 100000 in
theorem hp43 : am_np 43 = 2 := rfl
set_option maxRecDepth 100000 in
theorem hi43 : am_ini 43 = false := rfl
set_option maxRecDepth 100000 in
theorem hc44 : am_c 44 = cX5_clear := rfl
set_option maxRecDepth 100000 in
theorem ho44 : am_own 44 = 5 := rfl
set_option maxRecDepth 100000 in
theorem hv44 : am_lev 44 = 0 := rfl
set_option maxRecDepth 100000 in
theorem hn44 : am_nl 44 = 1 := rfl
set_option maxRecDepth 100000 in
theorem hr44 : am_rt 44 = none := rfl
set_option maxRecDepth 100000 in
theorem hp44 : am_np 44 = 0 := rfl
set_option maxRecDepth 100000 in
theorem hi44 : am_ini 44 = false := rfl
set_option maxRecDepth 100000 in
theorem hc45 : am_c 45 = cX5_copyFrom := rfl
set_option maxRecDepth 100000 in
theorem ho45 : am_own 45 = 5 := rfl
set_option maxRecDepth 100000 in
theorem hv45 : am_lev 45 = 1 := rfl
set_option maxRecDepth 100000 in
theorem hn45 : am_nl 45 = 2 := rfl
set_option maxRecDepth 100000 in
theorem hr45 : am_rt 45 = none := rfl
set_option maxRecDepth 100000 in
theorem hp45 : am_np 45 = 1 := rfl
set_option maxRecDepth 100000 in
theorem hi45 : am_ini 45 = false := rfl
set_option maxRecDepth 100000 in
theorem hc46 : am_c 46 = cX6_init := rfl
set_option maxRecDepth 100000 in
theorem ho46 : am_own 46 = 6 := rfl
set_option maxRecDepth 100000 in
theorem hv46 : am_lev 46 = 1 := rfl
set_option maxRecDepth 100000 in
theorem hn46 : am_nl 46 = 1 := rfl
set_option maxRecDepth 100000 in
theorem hr46 : am_rt 46 = none := rfl
set_option maxRecDepth 100000 in
theorem hp46 : am_np 46 = 0 := rfl
set_option maxRecDepth 100000 in
theorem hi46 : am_ini 46 = true := rfl
set_option maxRecDepth 100000 in
theorem hc47 : am_c 47 = cX6_ask := rfl
set_option maxRecDepth 100000 in
theorem ho47 : am_own 47 = 6 := rfl
set_option maxRecDepth 100000 in
theorem hv47 : am_lev 47 = 2 := rfl
set_option maxRecDepth 100000 in
theorem hn47 : am_nl 47 = 8 := rfl
set_option maxRecDepth 100000 in
theorem hr47 : am_rt 47 = (some .int) := rfl
set_option maxRecDepth 100000 in
theorem hp47 : am_np 47 = 3 := rfl
set_option maxRecDepth 100000 in
theorem hi47 : am_ini 47 = false := rfl
set_option maxRecDepth 100000 in
theorem hc48 : am_c 48 = cX6_put := rfl
set_option maxRecDepth 100000 in
theorem ho48 : am_own 48 = 6 := rfl
set_option maxRecDepth 100000 in
theorem hv48 : am_lev 48 = 0 := rfl
set_option maxRecDepth 100000 in
theorem hn48 : am_nl 48 = 2 := rfl
set_option maxRecDepth 100000 in
theorem hr48 : am_rt 48 = (some .boolean) := rfl
set_option maxRecDepth 100000 in
theorem hp48 : am_np 48 = 1 := rfl
set_option maxRecDepth 100000 in
theorem hi48 : am_ini 48 = false := rfl
set_option maxRecDepth 100000 in
theorem hc49 : am_c 49 = cX6_turnTop := rfl
set_option maxRecDepth 100000 in
theorem ho49 : am_own 49 = 6 := rfl
set_option maxRecDepth 100000 in
theorem hv49 : am_lev 49 = 0 := rfl
set_option maxRecDepth 100000 in
theorem hn49 : am_nl 49 = 2 := rfl
set_option maxRecDepth 100000 in
theorem hr49 : am_rt 49 = (some .boolean) := rfl
set_option maxRecDepth 100000 in
theorem hp49 : am_np 49 = 0 := rfl
set_option maxRecDepth 100000 in
theorem hi49 : am_ini 49 = false := rfl
set_option maxRecDepth 100000 in
theorem hc50 : am_c 50 = cX6_join := rfl
set_option maxRecDepth 100000 in
theorem ho50 : am_own 50 = 6 := rfl
set_option maxRecDepth 100000 in
theorem hv50 : am_lev 50 = 1 := rfl
set_option maxRecDepth 100000 in
theorem hn50 : am_nl 50 = 4 := rfl
set_option maxRecDepth 100000 in
theorem hr50 : am_rt 50 = (some .boolean) := rfl
set_option maxRecDepth 100000 in
theorem hp50 : am_np 50 = 1 := rfl
set_option maxRecDepth 100000 in
theorem hi50 : am_ini 50 = false := rfl
set_option maxRecDepth 100000 in
theorem hc51 : am_c 51 = cX6_joined := rfl
set_option maxRecDepth 100000 in
theorem ho51 : am_own 51 = 6 := rfl
set_option maxRecDepth 100000 in
theorem hv51 : am_lev 51 = 0 := rfl
set_option maxRecDepth 100000 in
theorem hn51 : am_nl 51 = 3 := rfl
set_option maxRecDepth 100000 in
theorem hr51 : am_rt 51 = (some .int) := rfl
set_option maxRecDepth 100000 in
theorem hp51 : am_np 51 = 3 := rfl
set_option maxRecDepth 100000 in
theorem hi51 : am_ini 51 = false := rfl
set_option maxRecDepth 100000 in
theorem hc52 : am_c 52 = cX7_init := rfl
set_option maxRecDepth 100000 in
theorem ho52 : am_own 52 = 7 := rfl
set_option maxRecDepth 100000 in
theorem hv52 : am_lev 52 = 3 := rfl
set_option maxRecDepth 100000 in
theorem hn52 : am_nl 52 = 2 := rfl
set_option maxRecDepth 100000 in
theorem hr52 : am_rt 52 = none := rfl
set_option maxRecDepth 100000 in
theorem hp52 : am_np 52 = 0 := rfl
set_option maxRecDepth 100000 in
theorem hi52 : am_ini 52 = true := rfl
set_option maxRecDepth 100000 in
theorem hc53 : am_c 53 = cX7_processorOrNull := rfl
set_option maxRecDepth 100000 in
theorem ho53 : am_own 53 = 7 := rfl
set_option maxRecDepth 100000 in
theorem hv53 : am_lev 53 = 0 := rfl
set_option maxRecDepth 100000 in
theorem hn53 : am_nl 53 = 2 := rfl
set_option maxRecDepth 100000 in
theorem hr53 : am_rt 53 = (some (.object "CodeProbes$Processor")) := rfl
set_option maxRecDepth 100000 in
theorem hp53 : am_np 53 = 1 := rfl
set_option maxRecDepth 100000 in
theorem hi53 : am_ini 53 = false := rfl
set_option maxRecDepth 100000 in
theorem hc54 : am_c 54 = cX7_probeOrNull := rfl
set_option maxRecDepth 100000 in
theorem ho54 : am_own 54 = 7 := rfl
set_option maxRecDepth 100000 in
theorem hv54 : am_lev 54 = 0 := rfl
set_option maxRecDepth 100000 in
theorem hn54 : am_nl 54 = 2 := rfl
set_option maxRecDepth 100000 in
theorem hr54 : am_rt 54 = (some (.object "CodeProbes$Probe")) := rfl
set_option maxRecDepth 100000 in
theorem hp54 : am_np 54 = 1 := rfl
set_option maxRecDepth 100000 in
theorem hi54 : am_ini 54 = false := rfl
set_option maxRecDepth 100000 in
theorem hc55 : am_c 55 = cX7_probeNotGone := rfl
set_option maxRecDepth 100000 in
theorem ho55 : am_own 55 = 7 := rfl
set_option maxRecDepth 100000 in
theorem hv55 : am_lev 55 = 1 := rfl
set_option maxRecDepth 100000 in
theorem hn55 : am_nl 55 = 3 := rfl
set_option maxRecDepth 100000 in
theorem hr55 : am_rt 55 = (some (.object "CodeProbes$Probe")) := rfl
set_option maxRecDepth 100000 in
theorem hp55 : am_np 55 = 1 := rfl
set_option maxRecDepth 100000 in
theorem hi55 : am_ini 55 = false := rfl
set_option maxRecDepth 100000 in
theorem hc56 : am_c 56 = cX7_probeOn := rfl
set_option maxRecDepth 100000 in
theorem ho56 : am_own 56 = 7 := rfl
set_option maxRecDepth 100000 in
theorem hv56 : am_lev 56 = 2 := rfl
set_option maxRecDepth 100000 in
theorem hn56 : am_nl 56 = 4 := rfl
set_option maxRecDepth 100000 in
theorem hr56 : am_rt 56 = (some (.object "CodeProbes$Probe")) := rfl
set_option maxRecDepth 100000 in
theorem hp56 : am_np 56 = 1 := rfl
set_option maxRecDepth 100000 in
theorem hi56 : am_ini 56 = false := rfl
set_option maxRecDepth 100000 in
theorem hc57 : am_c 57 = cX7_probeIsOnAt := rfl
set_option maxRecDepth 100000 in
theorem ho57 : am_own 57 = 7 := rfl
set_option maxRecDepth 100000 in
theorem hv57 : am_lev 57 = 3 := rfl
set_option maxRecDepth 100000 in
theorem hn57 : am_nl 57 = 3 := rfl
set_option maxRecDepth 100000 in
theorem hr57 : am_rt 57 = (some .boolean) := rfl
set_option maxRecDepth 100000 in
theorem hp57 : am_np 57 = 1 := rfl
set_option maxRecDepth 100000 in
theorem hi57 : am_ini 57 = false := rfl
set_option maxRecDepth 100000 in
theorem hc58 : am_c 58 = cX7_lowestGone := rfl
set_option maxRecDepth 100000 in
theorem ho58 : am_own 58 = 7 := rfl
set_option maxRecDepth 100000 in
theorem hv58 : am_lev 58 = 2 := rfl
set_option maxRecDepth 100000 in
theorem hn58 : am_nl 58 = 2 := rfl
set_option maxRecDepth 100000 in
theorem hr58 : am_rt 58 = (some (.object "CodeProbes$Probe")) := rfl
set_option maxRecDepth 100000 in
theorem hp58 : am_np 58 = 0 := rfl
set_option maxRecDepth 100000 in
theorem hi58 : am_ini 58 = false := rfl
set_option maxRecDepth 100000 in
theorem hc59 : am_c 59 = cX7_howManyAre := rfl
set_option maxRecDepth 100000 in
theorem ho59 : am_own 59 = 7 := rfl
set_option maxRecDepth 100000 in
theorem hv59 : am_lev 59 = 1 := rfl
set_option maxRecDepth 100000 in
theorem hn59 : am_nl 59 = 5 := rfl
set_option maxRecDepth 100000 in
theorem hr59 : am_rt 59 = (some .int) := rfl
set_option maxRecDepth 100000 in
theorem hp59 : am_np 59 = 1 := rfl
set_option maxRecDepth 100000 in
theorem hi59 : am_ini 59 = false := rfl
set_option maxRecDepth 100000 in
theorem hc60 : am_c 60 = cX7_howManyHeld := rfl
set_option maxRecDepth 100000 in
theorem ho60 : am_own 60 = 7 := rfl
set_option maxRecDepth 100000 in
theorem hv60 : am_lev 60 = 2 := rfl
set_option maxRecDepth 100000 in
theorem hn60 : am_nl 60 = 4 := rfl
set_option maxRecDepth 100000 in
theorem hr60 : am_rt 60 = (some .int) := rfl
set_option maxRecDepth 100000 in
theorem hp60 : am_np 60 = 0 := rfl
set_option maxRecDepth 100000 in
theorem hi60 : am_ini 60 = false := rfl
set_option maxRecDepth 100000 in
theorem hc61 : am_c 61 = cX7_letGoReturns := rfl
set_option maxRecDepth 100000 in
theorem ho61 : am_own 61 = 7 := rfl
set_option maxRecDepth 100000 in
theorem hv61 : am_lev 61 = 1 := rfl
set_option maxRecDepth 100000 in
theorem hn61 : am_nl 61 = 5 := rfl
set_option maxRecDepth 100000 in
theorem hr61 : am_rt 61 = (some .int) := rfl
set_option maxRecDepth 100000 in
theorem hp61 : am_np 61 = 1 := rfl
set_option maxRecDepth 100000 in
theorem hi61 : am_ini 61 = false := rfl
set_option maxRecDepth 100000 in
theorem hc62 : am_c 62 = cX7_clear := rfl
set_option maxRecDepth 100000 in
theorem ho62 : am_own 62 = 7 := rfl
set_option maxRecDepth 100000 in
theorem hv62 : am_lev 62 = 2 := rfl
set_option maxRecDepth 100000 in
theorem hn62 : am_nl 62 = 3 := rfl
set_option maxRecDepth 100000 in
theorem hr62 : am_rt 62 = none := rfl
set_option maxRecDepth 100000 in
theorem hp62 : am_np 62 = 0 := rfl
set_option maxRecDepth 100000 in
theorem hi62 : am_ini 62 = false := rfl
set_option maxRecDepth 100000 in
theorem hc63 : am_c 63 = cX7_copyFrom := rfl
set_option maxRecDepth 100000 in
theorem ho63 : am_own 63 = 7 := rfl
set_option maxRecDepth 100000 in
theorem hv63 : am_lev 63 = 3 := rfl
set_option maxRecDepth 100000 in
theorem hn63 : am_nl 63 = 5 := rfl
set_option maxRecDepth 100000 in
theorem hr63 : am_rt 63 = none := rfl
set_option maxRecDepth 100000 in
theorem hp63 : am_np 63 = 1 := rfl
set_option maxRecDepth 100000 in
theorem hi63 : am_ini 63 = false := rfl
set_option maxRecDepth 100000 in
theorem hc64 : am_c 64 = cX8_init := rfl
set_option maxRecDepth 100000 in
theorem ho64 : am_own 64 = 8 := rfl
set_option maxRecDepth 100000 in
theorem hv64 : am_lev 64 = 1 := rfl
set_option maxRecDepth 100000 in
theorem hn64 : am_nl 64 = 2 := rfl
set_option maxRecDepth 100000 in
theorem hr64 : am_rt 64 = none := rfl
set_option maxRecDepth 100000 in
theorem hp64 : am_np 64 = 1 := rfl
set_option maxRecDepth 100000 in
theorem hi64 : am_ini 64 = true := rfl
set_option maxRecDepth 100000 in
theorem hc65 : am_c 65 = cX8_add := rfl
set_option maxRecDepth 100000 in
theorem ho65 : am_own 65 = 8 := rfl
set_option maxRecDepth 100000 in
theorem hv65 : am_lev 65 = 0 := rfl
set_option maxRecDepth 100000 in
theorem hn65 : am_nl 65 = 2 := rfl
set_option maxRecDepth 100000 in
theorem hr65 : am_rt 65 = (some .boolean) := rfl
set_option maxRecDepth 100000 in
theorem hp65 : am_np 65 = 1 := rfl
set_option maxRecDepth 100000 in
theorem hi65 : am_ini 65 = false := rfl
set_option maxRecDepth 100000 in
theorem hc66 : am_c 66 = cX8_clear := rfl
set_option maxRecDepth 100000 in
theorem ho66 : am_own 66 = 8 := rfl
set_option maxRecDepth 100000 in
theorem hv66 : am_lev 66 = 0 := rfl
set_option maxRecDepth 100000 in
theorem hn66 : am_nl 66 = 1 := rfl
set_option maxRecDepth 100000 in
theorem hr66 : am_rt 66 = none := rfl
set_option maxRecDepth 100000 in
theorem hp66 : am_np 66 = 0 := rfl
set_option maxRecDepth 100000 in
theorem hi66 : am_ini 66 = false := rfl
set_option maxRecDepth 100000 in
theorem hc67 : am_c 67 = cX8_at := rfl
set_option maxRecDepth 100000 in
theorem ho67 : am_own 67 = 8 := rfl
set_option maxRecDepth 100000 in
theorem hv67 : am_lev 67 = 0 := rfl
set_option maxRecDepth 100000 in
theorem hn67 : am_nl 67 = 2 := rfl
set_option maxRecDepth 100000 in
theorem hr67 : am_rt 67 = (some .char) := rfl
set_option maxRecDepth 100000 in
theorem hp67 : am_np 67 = 1 := rfl
set_option maxRecDepth 100000 in
theorem hi67 : am_ini 67 = false := rfl
set_option maxRecDepth 100000 in
theorem hc68 : am_c 68 = cX8_figureAt := rfl
set_option maxRecDepth 100000 in
theorem ho68 : am_own 68 = 8 := rfl
set_option maxRecDepth 100000 in
theorem hv68 : am_lev 68 = 1 := rfl
set_option maxRecDepth 100000 in
theorem hn68 : am_nl 68 = 3 := rfl
set_option maxRecDepth 100000 in
theorem hr68 : am_rt 68 = (some .int) := rfl
set_option maxRecDepth 100000 in
theorem hp68 : am_np 68 = 1 := rfl
set_option maxRecDepth 100000 in
theorem hi68 : am_ini 68 = false := rfl
set_option maxRecDepth 100000 in
theorem hc69 : am_c 69 = cX8_copy := rfl
set_option maxRecDepth 100000 in
theorem ho69 : am_own 69 = 8 := rfl
set_option maxRecDepth 100000 in
theorem hv69 : am_lev 69 = 2 := rfl
set_option maxRecDepth 100000 in
theorem hn69 : am_nl 69 = 3 := rfl
set_option maxRecDepth 100000 in
theorem hr69 : am_rt 69 = (some (.object "CodeProbes$Text")) := rfl
set_option maxRecDepth 100000 in
theorem hp69 : am_np 69 = 0 := rfl
set_option maxRecDepth 100000 in
theorem hi69 : am_ini 69 = false := rfl
set_option maxRecDepth 100000 in
theorem hc70 : am_c 70 = cX9_init := rfl
set_option maxRecDepth 100000 in
theorem ho70 : am_own 70 = 9 := rfl
set_option maxRecDepth 100000 in
theorem hv70 : am_lev 70 = 5 := rfl
set_option maxRecDepth 100000 in
theorem hn70 : am_nl 70 = 2 := rfl
set_option maxRecDepth 100000 in
theorem hr70 : am_rt 70 = none := rfl
set_option maxRecDepth 100000 in
theorem hp70 : am_np 70 = 0 := rfl
set_option maxRecDepth 100000 in
theorem hi70 : am_ini 70 = true := rfl
set_option maxRecDepth 100000 in
theorem hc71 : am_c 71 = cX9_write := rfl
set_option maxRecDepth 100000 in
theorem ho71 : am_own 71 = 9 := rfl
set_option maxRecDepth 100000 in
theorem hv71 : am_lev 71 = 1 := rfl
set_option maxRecDepth 100000 in
theorem hn71 : am_nl 71 = 2 := rfl
set_option maxRecDepth 100000 in
theorem hr71 : am_rt 71 = (some .int) := rfl
set_option maxRecDepth 100000 in
theorem hp71 : am_np 71 = 1 := rfl
set_option maxRecDepth 100000 in
theorem hi71 : am_ini 71 = false := rfl
set_option maxRecDepth 100000 in
theorem hc72 : am_c 72 = cX9_wipe := rfl
set_option maxRecDepth 100000 in
theorem ho72 : am_own 72 = 9 := rfl
set_option maxRecDepth 100000 in
theorem hv72 : am_lev 72 = 1 := rfl
set_option maxRecDepth 100000 in
theorem hn72 : am_nl 72 = 2 := rfl
set_option maxRecDepth 100000 in
theorem hr72 : am_rt 72 = (some .int) := rfl
set_option maxRecDepth 100000 in
theorem hp72 : am_np 72 = 0 := rfl
set_option maxRecDepth 100000 in
theorem hi72 : am_ini 72 = false := rfl
set_option maxRecDepth 100000 in
theorem hc73 : am_c 73 = cX9_fault := rfl
set_option maxRecDepth 100000 in
theorem ho73 : am_own 73 = 9 := rfl
set_option maxRecDepth 100000 in
theorem hv73 : am_lev 73 = 5 := rfl
set_option maxRecDepth 100000 in
theorem hn73 : am_nl 73 = 1 := rfl
set_option maxRecDepth 100000 in
theorem hr73 : am_rt 73 = (some .int) := rfl
set_option maxRecDepth 100000 in
theorem hp73 : am_np 73 = 0 := rfl
set_option maxRecDepth 100000 in
theorem hi73 : am_ini 73 = false := rfl
set_option maxRecDepth 100000 in
theorem hc74 : am_c 74 = cX9_lay := rfl
set_option maxRecDepth 100000 in
theorem ho74 : am_own 74 = 9 := rfl
set_option maxRecDepth 100000 in
theorem hv74 : am_lev 74 = 5 := rfl
set_option maxRecDepth 100000 in
theorem hn74 : am_nl 74 = 1 := rfl
set_option maxRecDepth 100000 in
theorem hr74 : am_rt 74 = (some .int) := rfl
set_option maxRecDepth 100000 in
theorem hp74 : am_np 74 = 0 := rfl
set_option maxRecDepth 100000 in
theorem hi74 : am_ini 74 = false := rfl
set_option maxRecDepth 100000 in
theorem hc75 : am_c 75 = cX9_probe := rfl
set_option maxRecDepth 100000 in
theorem ho75 : am_own 75 = 9 := rfl
set_option maxRecDepth 100000 in
theorem hv75 : am_lev 75 = 5 := rfl
set_option maxRecDepth 100000 in
theorem hn75 : am_nl 75 = 4 := rfl
set_option maxRecDepth 100000 in
theorem hr75 : am_rt 75 = (some .int) := rfl
set_option maxRecDepth 100000 in
theorem hp75 : am_np 75 = 2 := rfl
set_option maxRecDepth 100000 in
theorem hi75 : am_ini 75 = false := rfl
set_option maxRecDepth 100000 in
theorem hc76 : am_c 76 = cX9_turn := rfl
set_option maxRecDepth 100000 in
theorem ho76 : am_own 76 = 9 := rfl
set_option maxRecDepth 100000 in
theorem hv76 : am_lev 76 = 5 := rfl
set_option maxRecDepth 100000 in
theorem hn76 : am_nl 76 = 5 := rfl
set_option maxRecDepth 100000 in
theorem hr76 : am_rt 76 = (some .int) := rfl
set_option maxRecDepth 100000 in
theorem hp76 : am_np 76 = 2 := rfl
set_option maxRecDepth 100000 in
theorem hi76 : am_ini 76 = false := rfl
set_option maxRecDepth 100000 in
theorem hc77 : am_c 77 = cX9_remove := rfl
set_option maxRecDepth 100000 in
theorem ho77 : am_own 77 = 9 := rfl
set_option maxRecDepth 100000 in
theorem hv77 : am_lev 77 = 5 := rfl
set_option maxRecDepth 100000 in
theorem hn77 : am_nl 77 = 3 := rfl
set_option maxRecDepth 100000 in
theorem hr77 : am_rt 77 = (some .int) := rfl
set_option maxRecDepth 100000 in
theorem hp77 : am_np 77 = 1 := rfl
set_option maxRecDepth 100000 in
theorem hi77 : am_ini 77 = false := rfl
set_option maxRecDepth 100000 in
theorem hc78 : am_c 78 = cX9_filter := rfl
set_option maxRecDepth 100000 in
theorem ho78 : am_own 78 = 9 := rfl
set_option maxRecDepth 100000 in
theorem hv78 : am_lev 78 = 5 := rfl
set_option maxRecDepth 100000 in
theorem hn78 : am_nl 78 = 3 := rfl
set_option maxRecDepth 100000 in
theorem hr78 : am_rt 78 = (some .int) := rfl
set_option maxRecDepth 100000 in
theorem hp78 : am_np 78 = 1 := rfl
set_option maxRecDepth 100000 in
theorem hi78 : am_ini 78 = false := rfl
set_option maxRecDepth 100000 in
theorem hc79 : am_c 79 = cX9_start := rfl
set_option maxRecDepth 100000 in
theorem ho79 : am_own 79 = 9 := rfl
set_option maxRecDepth 100000 in
theorem hv79 : am_lev 79 = 5 := rfl
set_option maxRecDepth 100000 in
theorem hn79 : am_nl 79 = 6 := rfl
set_option maxRecDepth 100000 in
theorem hr79 : am_rt 79 = (some .int) := rfl
set_option maxRecDepth 100000 in
theorem hp79 : am_np 79 = 3 := rfl
set_option maxRecDepth 100000 in
theorem hi79 : am_ini 79 = false := rfl
set_option maxRecDepth 100000 in
theorem hc80 : am_c 80 = cX9_step := rfl
set_option maxRecDepth 100000 in
theorem ho80 : am_own 80 = 9 := rfl
set_option maxRecDepth 100000 in
theorem hv80 : am_lev 80 = 6 := rfl
set_option maxRecDepth 100000 in
theorem hn80 : am_nl 80 = 6 := rfl
set_option maxRecDepth 100000 in
theorem hr80 : am_rt 80 = (some .int) := rfl
set_option maxRecDepth 100000 in
theorem hp80 : am_np 80 = 2 := rfl
set_option maxRecDepth 100000 in
theorem hi80 : am_ini 80 = false := rfl
set_option maxRecDepth 100000 in
theorem hc81 : am_c 81 = cX9_poke := rfl
set_option maxRecDepth 100000 in
theorem ho81 : am_own 81 = 9 := rfl
set_option maxRecDepth 100000 in
theorem hv81 : am_lev 81 = 5 := rfl
set_option maxRecDepth 100000 in
theorem hn81 : am_nl 81 = 4 := rfl
set_option maxRecDepth 100000 in
theorem hr81 : am_rt 81 = (some .int) := rfl
set_option maxRecDepth 100000 in
theorem hp81 : am_np 81 = 2 := rfl
set_option maxRecDepth 100000 in
theorem hi81 : am_ini 81 = false := rfl
set_option maxRecDepth 100000 in
theorem hc82 : am_c 82 = cX9_undo := rfl
set_option maxRecDepth 100000 in
theorem ho82 : am_own 82 = 9 := rfl
set_option maxRecDepth 100000 in
theorem hv82 : am_lev 82 = 5 := rfl
set_option maxRecDepth 100000 in
theorem hn82 : am_nl 82 = 1 := rfl
set_option maxRecDepth 100000 in
theorem hr82 : am_rt 82 = (some .int) := rfl
set_option maxRecDepth 100000 in
theorem hp82 : am_np 82 = 0 := rfl
set_option maxRecDepth 100000 in
theorem hi82 : am_ini 82 = false := rfl
set_option maxRecDepth 100000 in
theorem hc83 : am_c 83 = cX9_code := rfl
set_option maxRecDepth 100000 in
theorem ho83 : am_own 83 = 9 := rfl
set_option maxRecDepth 100000 in
theorem hv83 : am_lev 83 = 4 := rfl
set_option maxRecDepth 100000 in
theorem hn83 : am_nl 83 = 4 := rfl
set_option maxRecDepth 100000 in
theorem hr83 : am_rt 83 = (some .int) := rfl
set_option maxRecDepth 100000 in
theorem hp83 : am_np 83 = 2 := rfl
set_option maxRecDepth 100000 in
theorem hi83 : am_ini 83 = false := rfl
set_option maxRecDepth 100000 in
theorem hc84 : am_c 84 = cX9_memory := rfl
set_option maxRecDepth 100000 in
theorem ho84 : am_own 84 = 9 := rfl
set_option maxRecDepth 100000 in
theorem hv84 : am_lev 84 = 2 := rfl
set_option maxRecDepth 100000 in
theorem hn84 : am_nl 84 = 2 := rfl
set_option maxRecDepth 100000 in
theorem hr84 : am_rt 84 = (some .int) := rfl
set_option maxRecDepth 100000 in
theorem hp84 : am_np 84 = 1 := rfl
set_option maxRecDepth 100000 in
theorem hi84 : am_ini 84 = false := rfl
set_option maxRecDepth 100000 in
theorem hc85 : am_c 85 = cX9_processor := rfl
set_option maxRecDepth 100000 in
theorem ho85 : am_own 85 = 9 := rfl
set_option maxRecDepth 100000 in
theorem hv85 : am_lev 85 = 1 := rfl
set_option maxRecDepth 100000 in
theorem hn85 : am_nl 85 = 4 := rfl
set_option maxRecDepth 100000 in
theorem hr85 : am_rt 85 = (some .int) := rfl
set_option maxRecDepth 100000 in
theorem hp85 : am_np 85 = 2 := rfl
set_option maxRecDepth 100000 in
theorem hi85 : am_ini 85 = false := rfl
set_option maxRecDepth 100000 in
theorem hc86 : am_c 86 = cX9_returns := rfl
set_option maxRecDepth 100000 in
theorem ho86 : am_own 86 = 9 := rfl
set_option maxRecDepth 100000 in
theorem hv86 : am_lev 86 = 1 := rfl
set_option maxRecDepth 100000 in
theorem hn86 : am_nl 86 = 6 := rfl
set_option maxRecDepth 100000 in
theorem hr86 : am_rt 86 = (some .int) := rfl
set_option maxRecDepth 100000 in
theorem hp86 : am_np 86 = 3 := rfl
set_option maxRecDepth 100000 in
theorem hi86 : am_ini 86 = false := rfl
set_option maxRecDepth 100000 in
theorem hc87 : am_c 87 = cX9_ring := rfl
set_option maxRecDepth 100000 in
theorem ho87 : am_own 87 = 9 := rfl
set_option maxRecDepth 100000 in
theorem hv87 : am_lev 87 = 1 := rfl
set_option maxRecDepth 100000 in
theorem hn87 : am_nl 87 = 5 := rfl
set_option maxRecDepth 100000 in
theorem hr87 : am_rt 87 = (some .int) := rfl
set_option maxRecDepth 100000 in
theorem hp87 : am_np 87 = 3 := rfl
set_option maxRecDepth 100000 in
theorem hi87 : am_ini 87 = false := rfl
set_option maxRecDepth 100000 in
theorem hc88 : am_c 88 = cX9_look := rfl
set_option maxRecDepth 100000 in
theorem ho88 : am_own 88 = 9 := rfl
set_option maxRecDepth 100000 in
theorem hv88 : am_lev 88 = 1 := rfl
set_option maxRecDepth 100000 in
theorem hn88 : am_nl 88 = 4 := rfl
set_option maxRecDepth 100000 in
theorem hr88 : am_rt 88 = (some .int) := rfl
set_option maxRecDepth 100000 in
theorem hp88 : am_np 88 = 2 := rfl
set_option maxRecDepth 100000 in
theorem hi88 : am_ini 88 = false := rfl
set_option maxRecDepth 100000 in
theorem hc89 : am_c 89 = cX9_asked := rfl
set_option maxRecDepth 100000 in
theorem ho89 : am_own 89 = 9 := rfl
set_option maxRecDepth 100000 in
theorem hv89 : am_lev 89 = 3 := rfl
set_option maxRecDepth 100000 in
theorem hn89 : am_nl 89 = 2 := rfl
set_option maxRecDepth 100000 in
theorem hr89 : am_rt 89 = (some .int) := rfl
set_option maxRecDepth 100000 in
theorem hp89 : am_np 89 = 1 := rfl
set_option maxRecDepth 100000 in
theorem hi89 : am_ini 89 = false := rfl
set_option maxRecDepth 100000 in
theorem hc90 : am_c 90 = cX9_ever := rfl
set_option maxRecDepth 100000 in
theorem ho90 : am_own 90 = 9 := rfl
set_option maxRecDepth 100000 in
theorem hv90 : am_lev 90 = 4 := rfl
set_option maxRecDepth 100000 in
theorem hn90 : am_nl 90 = 6 := rfl
set_option maxRecDepth 100000 in
theorem hr90 : am_rt 90 = (some .int) := rfl
set_option maxRecDepth 100000 in
theorem hp90 : am_np 90 = 3 := rfl
set_option maxRecDepth 100000 in
theorem hi90 : am_ini 90 = false := rfl
set_option maxRecDepth 100000 in
theorem hc91 : am_c 91 = cX9_count := rfl
set_option maxRecDepth 100000 in
theorem ho91 : am_own 91 = 9 := rfl
set_option maxRecDepth 100000 in
theorem hv91 : am_lev 91 = 3 := rfl
set_option maxRecDepth 100000 in
theorem hn91 : am_nl 91 = 2 := rfl
set_option maxRecDepth 100000 in
theorem hr91 : am_rt 91 = (some .int) := rfl
set_option maxRecDepth 100000 in
theorem hp91 : am_np 91 = 1 := rfl
set_option maxRecDepth 100000 in
theorem hi91 : am_ini 91 = false := rfl
set_option maxRecDepth 100000 in
theorem hc92 : am_c 92 = cX9_stepWithProbes := rfl
set_option maxRecDepth 100000 in
theorem ho92 : am_own 92 = 9 := rfl
set_option maxRecDepth 100000 in
theorem hv92 : am_lev 92 = 5 := rfl
set_option maxRecDepth 100000 in
theorem hn92 : am_nl 92 = 5 := rfl
set_option maxRecDepth 100000 in
theorem hr92 : am_rt 92 = none := rfl
set_option maxRecDepth 100000 in
theorem hp92 : am_np 92 = 1 := rfl
set_option maxRecDepth 100000 in
theorem hi92 : am_ini 92 = false := rfl
set_option maxRecDepth 100000 in
theorem hc93 : am_c 93 = cX9_comeBy := rfl
set_option maxRecDepth 100000 in
theorem ho93 : am_own 93 = 9 := rfl
set_option maxRecDepth 100000 in
theorem hv93 : am_lev 93 = 4 := rfl
set_option maxRecDepth 100000 in
theorem hn93 : am_nl 93 = 3 := rfl
set_option maxRecDepth 100000 in
theorem hr93 : am_rt 93 = none := rfl
set_option maxRecDepth 100000 in
theorem hp93 : am_np 93 = 2 := rfl
set_option maxRecDepth 100000 in
theorem hi93 : am_ini 93 = false := rfl
set_option maxRecDepth 100000 in
theorem hc94 : am_c 94 = cX9_leave := rfl
set_option maxRecDepth 100000 in
theorem ho94 : am_own 94 = 9 := rfl
set_option maxRecDepth 100000 in
theorem hv94 : am_lev 94 = 4 := rfl
set_option maxRecDepth 100000 in
theorem hn94 : am_nl 94 = 3 := rfl
set_option maxRecDepth 100000 in
theorem hr94 : am_rt 94 = none := rfl
set_option maxRecDepth 100000 in
theorem hp94 : am_np 94 = 2 := rfl
set_option maxRecDepth 100000 in
theorem hi94 : am_ini 94 = false := rfl
set_option maxRecDepth 100000 in
theorem hc95 : am_c 95 = cX9_hit := rfl
set_option maxRecDepth 100000 in
theorem ho95 : am_own 95 = 9 := rfl
set_option maxRecDepth 100000 in
theorem hv95 : am_lev 95 = 3 := rfl
set_option maxRecDepth 100000 in
theorem hn95 : am_nl 95 = 3 := rfl
set_option maxRecDepth 100000 in
theorem hr95 : am_rt 95 = none := rfl
set_option maxRecDepth 100000 in
theorem hp95 : am_np 95 = 2 := rfl
set_option maxRecDepth 100000 in
theorem hi95 : am_ini 95 = false := rfl
set_option maxRecDepth 100000 in
theorem hc96 : am_c 96 = cX9_within := rfl
set_option maxRecDepth 100000 in
theorem ho96 : am_own 96 = 9 := rfl
set_option maxRecDepth 100000 in
theorem hv96 : am_lev 96 = 0 := rfl
set_option maxRecDepth 100000 in
theorem hn96 : am_nl 96 = 3 := rfl
set_option maxRecDepth 100000 in
theorem hr96 : am_rt 96 = (some .boolean) := rfl
set_option maxRecDepth 100000 in
theorem hp96 : am_np 96 = 3 := rfl
set_option maxRecDepth 100000 in
theorem hi96 : am_ini 96 = false := rfl
set_option maxRecDepth 100000 in
theorem hc97 : am_c 97 = cX9_isNumber := rfl
set_option maxRecDepth 100000 in
theorem ho97 : am_own 97 = 9 := rfl
set_option maxRecDepth 100000 in
theorem hv97 : am_lev 97 = 1 := rfl
set_option maxRecDepth 100000 in
theorem hn97 : am_nl 97 = 1 := rfl
set_option maxRecDepth 100000 in
theorem hr97 : am_rt 97 = (some .boolean) := rfl
set_option maxRecDepth 100000 in
theorem hp97 : am_np 97 = 1 := rfl
set_option maxRecDepth 100000 in
theorem hi97 : am_ini 97 = false := rfl
set_option maxRecDepth 100000 in
theorem hc98 : am_c 98 = cX9_widthOf := rfl
set_option maxRecDepth 100000 in
theorem ho98 : am_own 98 = 9 := rfl
set_option maxRecDepth 100000 in
theorem hv98 : am_lev 98 = 0 := rfl
set_option maxRecDepth 100000 in
theorem hn98 : am_nl 98 = 1 := rfl
set_option maxRecDepth 100000 in
theorem hr98 : am_rt 98 = (some .int) := rfl
set_option maxRecDepth 100000 in
theorem hp98 : am_np 98 = 1 := rfl
set_option maxRecDepth 100000 in
theorem hi98 : am_ini 98 = false := rfl
set_option maxRecDepth 100000 in
theorem hc99 : am_c 99 = cX10_init := rfl
set_option maxRecDepth 100000 in
theorem ho99 : am_own 99 = 10 := rfl
set_option maxRecDepth 100000 in
theorem hv99 : am_lev 99 = 3 := rfl
set_option maxRecDepth 100000 in
theorem hn99 : am_nl 99 = 1 := rfl
set_option maxRecDepth 100000 in
theorem hr99 : am_rt 99 = none := rfl
set_option maxRecDepth 100000 in
theorem hp99 : am_np 99 = 0 := rfl
set_option maxRecDepth 100000 in
theorem hi99 : am_ini 99 = true := rfl
set_option maxRecDepth 100000 in
theorem hc100 : am_c 100 = cX10_none := rfl
set_option maxRecDepth 100000 in
theorem ho100 : am_own 100 = 10 := rfl
set_option maxRecDepth 100000 in
theorem hv100 : am_lev 100 = 0 := rfl
set_option maxRecDepth 100000 in
theorem hn100 : am_nl 100 = 2 := rfl
set_option maxRecDepth 100000 in
theorem hr100 : am_rt 100 = none := rfl
set_option maxRecDepth 100000 in
theorem hp100 : am_np 100 = 1 := rfl
set_option maxRecDepth 100000 in
theorem hi100 : am_ini 100 = false := rfl
set_option maxRecDepth 100000 in
theorem hc101 : am_c 101 = cX10_one := rfl
set_option maxRecDepth 100000 in
theorem ho101 : am_own 101 = 10 := rfl
set_option maxRecDepth 100000 in
theorem hv101 : am_lev 101 = 1 := rfl
set_option maxRecDepth 100000 in
theorem hn101 : am_nl 101 = 3 := rfl
set_option maxRecDepth 100000 in
theorem hr101 : am_rt 101 = none := rfl
set_option maxRecDepth 100000 in
theorem hp101 : am_np 101 = 2 := rfl
set_option maxRecDepth 100000 in
theorem hi101 : am_ini 101 = false := rfl
set_option maxRecDepth 100000 in
theorem hc102 : am_c 102 = cX10_two := rfl
set_option maxRecDepth 100000 in
theorem ho102 : am_own 102 = 10 := rfl
set_option maxRecDepth 100000 in
theorem hv102 : am_lev 102 = 2 := rfl
set_option maxRecDepth 100000 in
theorem hn102 : am_nl 102 = 3 := rfl
set_option maxRecDepth 100000 in
theorem hr102 : am_rt 102 = none := rfl
set_option maxRecDepth 100000 in
theorem hp102 : am_np 102 = 2 := rfl
set_option maxRecDepth 100000 in
theorem hi102 : am_ini 102 = false := rfl
set_option maxRecDepth 100000 in
theorem hc103 : am_c 103 = cX10_empties := rfl
set_option maxRecDepth 100000 in
theorem ho103 : am_own 103 = 10 := rfl
set_option maxRecDepth 100000 in
theorem hv103 : am_lev 103 = 0 := rfl
set_option maxRecDepth 100000 in
theorem hn103 : am_nl 103 = 2 := rfl
set_option maxRecDepth 100000 in
theorem hr103 : am_rt 103 = none := rfl
set_option maxRecDepth 100000 in
theorem hp103 : am_np 103 = 0 := rfl
set_option maxRecDepth 100000 in
theorem hi103 : am_ini 103 = false := rfl
set_option maxRecDepth 100000 in
theorem hc104 : am_c 104 = cX10_isIn := rfl
set_option maxRecDepth 100000 in
theorem ho104 : am_own 104 = 10 := rfl
set_option maxRecDepth 100000 in
theorem hv104 : am_lev 104 = 0 := rfl
set_option maxRecDepth 100000 in
theorem hn104 : am_nl 104 = 3 := rfl
set_option maxRecDepth 100000 in
theorem hr104 : am_rt 104 = (some .boolean) := rfl
set_option maxRecDepth 100000 in
theorem hp104 : am_np 104 = 3 := rfl
set_option maxRecDepth 100000 in
theorem hi104 : am_ini 104 = false := rfl
set_option maxRecDepth 100000 in
theorem hc105 : am_c 105 = cX10_isFigure := rfl
set_option maxRecDepth 100000 in
theorem ho105 : am_own 105 = 10 := rfl
set_option maxRecDepth 100000 in
theorem hv105 : am_lev 105 = 1 := rfl
set_option maxRecDepth 100000 in
theorem hn105 : am_nl 105 = 3 := rfl
set_option maxRecDepth 100000 in
theorem hr105 : am_rt 105 = (some .boolean) := rfl
set_option maxRecDepth 100000 in
theorem hp105 : am_np 105 = 2 := rfl
set_option maxRecDepth 100000 in
theorem hi105 : am_ini 105 = false := rfl
set_option maxRecDepth 100000 in
theorem hc106 : am_c 106 = cX10_wideAt := rfl
set_option maxRecDepth 100000 in
theorem ho106 : am_own 106 = 10 := rfl
set_option maxRecDepth 100000 in
theorem hv106 : am_lev 106 = 2 := rfl
set_option maxRecDepth 100000 in
theorem hn106 : am_nl 106 = 2 := rfl
set_option maxRecDepth 100000 in
theorem hr106 : am_rt 106 = (some .int) := rfl
set_option maxRecDepth 100000 in
theorem hp106 : am_np 106 = 1 := rfl
set_option maxRecDepth 100000 in
theorem hi106 : am_ini 106 = false := rfl
set_option maxRecDepth 100000 in
theorem hc107 : am_c 107 = cX10_reads := rfl
set_option maxRecDepth 100000 in
theorem ho107 : am_own 107 = 10 := rfl
set_option maxRecDepth 100000 in
theorem hv107 : am_lev 107 = 3 := rfl
set_option maxRecDepth 100000 in
theorem hn107 : am_nl 107 = 4 := rfl
set_option maxRecDepth 100000 in
theorem hr107 : am_rt 107 = (some .int) := rfl
set_option maxRecDepth 100000 in
theorem hp107 : am_np 107 = 0 := rfl
set_option maxRecDepth 100000 in
theorem hi107 : am_ini 107 = false := rfl
set_option maxRecDepth 100000 in
theorem hc108 : am_c 108 = cX10_write := rfl
set_option maxRecDepth 100000 in
theorem ho108 : am_own 108 = 10 := rfl
set_option maxRecDepth 100000 in
theorem hv108 : am_lev 108 = 0 := rfl
set_option maxRecDepth 100000 in
theorem hn108 : am_nl 108 = 2 := rfl
set_option maxRecDepth 100000 in
theorem hr108 : am_rt 108 = (some .int) := rfl
set_option maxRecDepth 100000 in
theorem hp108 : am_np 108 = 1 := rfl
set_option maxRecDepth 100000 in
theorem hi108 : am_ini 108 = false := rfl
set_option maxRecDepth 100000 in
theorem hc109 : am_c 109 = cX10_wipe := rfl
set_option maxRecDepth 100000 in
theorem ho109 : am_own 109 = 10 := rfl
set_option maxRecDepth 100000 in
theorem hv109 : am_lev 109 = 0 := rfl
set_option maxRecDepth 100000 in
theorem hn109 : am_nl 109 = 2 := rfl
set_option maxRecDepth 100000 in
theorem hr109 : am_rt 109 = (some .int) := rfl
set_option maxRecDepth 100000 in
theorem hp109 : am_np 109 = 0 := rfl
set_option maxRecDepth 100000 in
theorem hi109 : am_ini 109 = false := rfl
set_option maxRecDepth 100000 in
theorem hc110 : am_c 110 = cX10_fault := rfl
set_option maxRecDepth 100000 in
theorem ho110 : am_own 110 = 10 := rfl
set_option maxRecDepth 100000 in
theorem hv110 : am_lev 110 = 4 := rfl
set_option maxRecDepth 100000 in
theorem hn110 : am_nl 110 = 1 := rfl
set_option maxRecDepth 100000 in
theorem hr110 : am_rt 110 = (some .int) := rfl
set_option maxRecDepth 100000 in
theorem hp110 : am_np 110 = 0 := rfl
set_option maxRecDepth 100000 in
theorem hi110 : am_ini 110 = false := rfl
set_option maxRecDepth 100000 in
theorem hc111 : am_c 111 = cX10_lay := rfl
set_option maxRecDepth 100000 in
theorem ho111 : am_own 111 = 10 := rfl
set_option maxRecDepth 100000 in
theorem hv111 : am_lev 111 = 4 := rfl
set_option maxRecDepth 100000 in
theorem hn111 : am_nl 111 = 2 := rfl
set_option maxRecDepth 100000 in
theorem hr111 : am_rt 111 = (some .int) := rfl
set_option maxRecDepth 100000 in
theorem hp111 : am_np 111 = 0 := rfl
set_option maxRecDepth 100000 in
theorem hi111 : am_ini 111 = false := rfl
set_option maxRecDepth 100000 in
theorem hc112 : am_c 112 = cX10_both := rfl
set_option maxRecDepth 100000 in
theorem ho112 : am_own 112 = 10 := rfl
set_option maxRecDepth 100000 in
theorem hv112 : am_lev 112 = 0 := rfl
set_option maxRecDepth 100000 in
theorem hn112 : am_nl 112 = 3 := rfl
set_option maxRecDepth 100000 in
theorem hr112 : am_rt 112 = (some .int) := rfl
set_option maxRecDepth 100000 in
theorem hp112 : am_np 112 = 3 := rfl
set_option maxRecDepth 100000 in
theorem hi112 : am_ini 112 = false := rfl
set_option maxRecDepth 100000 in
theorem hc113 : am_c 113 = cX10_comes := rfl
set_option maxRecDepth 100000 in
theorem ho113 : am_own 113 = 10 := rfl
set_option maxRecDepth 100000 in
theorem hv113 : am_lev 113 = 0 := rfl
set_option maxRecDepth 100000 in
theorem hn113 : am_nl 113 = 2 := rfl
set_option maxRecDepth 100000 in
theorem hr113 : am_rt 113 = (some .boolean) := rfl
set_option maxRecDepth 100000 in
theorem hp113 : am_np 113 = 1 := rfl
set_option maxRecDepth 100000 in
theorem hi113 : am_ini 113 = false := rfl
set_option maxRecDepth 100000 in
theorem hc114 : am_c 114 = cX10_takes := rfl
set_option maxRecDepth 100000 in
theorem ho114 : am_own 114 = 10 := rfl
set_option maxRecDepth 100000 in
theorem hv114 : am_lev 114 = 1 := rfl
set_option maxRecDepth 100000 in
theorem hn114 : am_nl 114 = 2 := rfl
set_option maxRecDepth 100000 in
theorem hr114 : am_rt 114 = (some .boolean) := rfl
set_option maxRecDepth 100000 in
theorem hp114 : am_np 114 = 1 := rfl
set_option maxRecDepth 100000 in
theorem hi114 : am_ini 114 = false := rfl
set_option maxRecDepth 100000 in
theorem hc115 : am_c 115 = cX10_asks := rfl
set_option maxRecDepth 100000 in
theorem ho115 : am_own 115 = 10 := rfl
set_option maxRecDepth 100000 in
theorem hv115 : am_lev 115 = 2 := rfl
set_option maxRecDepth 100000 in
theorem hn115 : am_nl 115 = 8 := rfl
set_option maxRecDepth 100000 in
theorem hr115 : am_rt 115 = (some .int) := rfl
set_option maxRecDepth 100000 in
theorem hp115 : am_np 115 = 4 := rfl
set_option maxRecDepth 100000 in
theorem hi115 : am_ini 115 = false := rfl
set_option maxRecDepth 100000 in
theorem hc116 : am_c 116 = cX10_asked := rfl
set_option maxRecDepth 100000 in
theorem ho116 : am_own 116 = 10 := rfl
set_option maxRecDepth 100000 in
theorem hv116 : am_lev 116 = 3 := rfl
set_option maxRecDepth 100000 in
theorem hn116 : am_nl 116 = 3 := rfl
set_option maxRecDepth 100000 in
theorem hr116 : am_rt 116 = (some .int) := rfl
set_option maxRecDepth 100000 in
theorem hp116 : am_np 116 = 1 := rfl
set_option maxRecDepth 100000 in
theorem hi116 : am_ini 116 = false := rfl
set_option maxRecDepth 100000 in
theorem hc117 : am_c 117 = cX10_keeps := rfl
set_option maxRecDepth 100000 in
theorem ho117 : am_own 117 = 10 := rfl
set_option maxRecDepth 100000 in
theorem hv117 : am_lev 117 = 0 := rfl
set_option maxRecDepth 100000 in
theorem hn117 : am_nl 117 = 2 := rfl
set_option maxRecDepth 100000 in
theorem hr117 : am_rt 117 = none := rfl
set_option maxRecDepth 100000 in
theorem hp117 : am_np 117 = 0 := rfl
set_option maxRecDepth 100000 in
theorem hi117 : am_ini 117 = false := rfl
set_option maxRecDepth 100000 in
theorem hc118 : am_c 118 = cX10_undo := rfl
set_option maxRecDepth 100000 in
theorem ho118 : am_own 118 = 10 := rfl
set_option maxRecDepth 100000 in
theorem hv118 : am_lev 118 = 0 := rfl
set_option maxRecDepth 100000 in
theorem hn118 : am_nl 118 = 2 := rfl
set_option maxRecDepth 100000 in
theorem hr118 : am_rt 118 = (some .int) := rfl
set_option maxRecDepth 100000 in
theorem hp118 : am_np 118 = 0 := rfl
set_option maxRecDepth 100000 in
theorem hi118 : am_ini 118 = false := rfl
set_option maxRecDepth 100000 in
theorem hc119 : am_c 119 = cX10_processorAt := rfl
set_option maxRecDepth 100000 in
theorem ho119 : am_own 119 = 10 := rfl
set_option maxRecDepth 100000 in
theorem hv119 : am_lev 119 = 0 := rfl
set_option maxRecDepth 100000 in
theorem hn119 : am_nl 119 = 1 := rfl
set_option maxRecDepth 100000 in
theorem hr119 : am_rt 119 = (some .int) := rfl
set_option maxRecDepth 100000 in
theorem hp119 : am_np 119 = 1 := rfl
set_option maxRecDepth 100000 in
theorem hi119 : am_ini 119 = false := rfl
set_option maxRecDepth 100000 in
theorem hc120 : am_c 120 = cX10_probeAt := rfl
set_option maxRecDepth 100000 in
theorem ho120 : am_own 120 = 10 := rfl
set_option maxRecDepth 100000 in
theorem hv120 : am_lev 120 = 0 := rfl
set_option maxRecDepth 100000 in
theorem hn120 : am_nl 120 = 1 := rfl
set_option maxRecDepth 100000 in
theorem hr120 : am_rt 120 = (some .int) := rfl
set_option maxRecDepth 100000 in
theorem hp120 : am_np 120 = 1 := rfl
set_option maxRecDepth 100000 in
theorem hi120 : am_ini 120 = false := rfl
set_option maxRecDepth 100000 in
theorem hc121 : am_c 121 = cX10_isCell := rfl
set_option maxRecDepth 100000 in
theorem ho121 : am_own 121 = 10 := rfl
set_option maxRecDepth 100000 in
theorem hv121 : am_lev 121 = 1 := rfl
set_option maxRecDepth 100000 in
theorem hn121 : am_nl 121 = 2 := rfl
set_option maxRecDepth 100000 in
theorem hr121 : am_rt 121 = (some .boolean) := rfl
set_option maxRecDepth 100000 in
theorem hp121 : am_np 121 = 1 := rfl
set_option maxRecDepth 100000 in
theorem hi121 : am_ini 121 = false := rfl
set_option maxRecDepth 100000 in
theorem hc122 : am_c 122 = cX10_isBegin := rfl
set_option maxRecDepth 100000 in
theorem ho122 : am_own 122 = 10 := rfl
set_option maxRecDepth 100000 in
theorem hv122 : am_lev 122 = 2 := rfl
set_option maxRecDepth 100000 in
theorem hn122 : am_nl 122 = 2 := rfl
set_option maxRecDepth 100000 in
theorem hr122 : am_rt 122 = (some .boolean) := rfl
set_option maxRecDepth 100000 in
theorem hp122 : am_np 122 = 1 := rfl
set_option maxRecDepth 100000 in
theorem hi122 : am_ini 122 = false := rfl
set_option maxRecDepth 100000 in
theorem hc123 : am_c 123 = cX10_isProbe := rfl
set_option maxRecDepth 100000 in
theorem ho123 : am_own 123 = 10 := rfl
set_option maxRecDepth 100000 in
theorem hv123 : am_lev 123 = 1 := rfl
set_option maxRecDepth 100000 in
theorem hn123 : am_nl 123 = 2 := rfl
set_option maxRecDepth 100000 in
theorem hr123 : am_rt 123 = (some .boolean) := rfl
set_option maxRecDepth 100000 in
theorem hp123 : am_np 123 = 1 := rfl
set_option maxRecDepth 100000 in
theorem hi123 : am_ini 123 = false := rfl
set_option maxRecDepth 100000 in
theorem hc124 : am_c 124 = cX10_probeOn := rfl
set_option maxRecDepth 100000 in
theorem ho124 : am_own 124 = 10 := rfl
set_option maxRecDepth 100000 in
theorem hv124 : am_lev 124 = 1 := rfl
set_option maxRecDepth 100000 in
theorem hn124 : am_nl 124 = 3 := rfl
set_option maxRecDepth 100000 in
theorem hr124 : am_rt 124 = (some .int) := rfl
set_option maxRecDepth 100000 in
theorem hp124 : am_np 124 = 1 := rfl
set_option maxRecDepth 100000 in
theorem hi124 : am_ini 124 = false := rfl
set_option maxRecDepth 100000 in
theorem hc125 : am_c 125 = cX10_manyThat := rfl
set_option maxRecDepth 100000 in
theorem ho125 : am_own 125 = 10 := rfl
set_option maxRecDepth 100000 in
theorem hv125 : am_lev 125 = 1 := rfl
set_option maxRecDepth 100000 in
theorem hn125 : am_nl 125 = 4 := rfl
set_option maxRecDepth 100000 in
theorem hr125 : am_rt 125 = (some .int) := rfl
set_option maxRecDepth 100000 in
theorem hp125 : am_np 125 = 1 := rfl
set_option maxRecDepth 100000 in
theorem hi125 : am_ini 125 = false := rfl
set_option maxRecDepth 100000 in
theorem hc126 : am_c 126 = cX10_probe := rfl
set_option maxRecDepth 100000 in
theorem ho126 : am_own 126 = 10 := rfl
set_option maxRecDepth 100000 in
theorem hv126 : am_lev 126 = 2 := rfl
set_option maxRecDepth 100000 in
theorem hn126 : am_nl 126 = 5 := rfl
set_option maxRecDepth 100000 in
theorem hr126 : am_rt 126 = (some .int) := rfl
set_option maxRecDepth 100000 in
theorem hp126 : am_np 126 = 2 := rfl
set_option maxRecDepth 100000 in
theorem hi126 : am_ini 126 = false := rfl
set_option maxRecDepth 100000 in
theorem hc127 : am_c 127 = cX10_turn := rfl
set_option maxRecDepth 100000 in
theorem ho127 : am_own 127 = 10 := rfl
set_option maxRecDepth 100000 in
theorem hv127 : am_lev 127 = 2 := rfl
set_option maxRecDepth 100000 in
theorem hn127 : am_nl 127 = 4 := rfl
set_option maxRecDepth 100000 in
theorem hr127 : am_rt 127 = (some .int) := rfl
set_option maxRecDepth 100000 in
theorem hp127 : am_np 127 = 2 := rfl
set_option maxRecDepth 100000 in
theorem hi127 : am_ini 127 = false := rfl
set_option maxRecDepth 100000 in
theorem hc128 : am_c 128 = cX10_remove := rfl
set_option maxRecDepth 100000 in
theorem ho128 : am_own 128 = 10 := rfl
set_option maxRecDepth 100000 in
theorem hv128 : am_lev 128 = 2 := rfl
set_option maxRecDepth 100000 in
theorem hn128 : am_nl 128 = 3 := rfl
set_option maxRecDepth 100000 in
theorem hr128 : am_rt 128 = (some .int) := rfl
set_option maxRecDepth 100000 in
theorem hp128 : am_np 128 = 1 := rfl
set_option maxRecDepth 100000 in
theorem hi128 : am_ini 128 = false := rfl
set_option maxRecDepth 100000 in
theorem hc129 : am_c 129 = cX10_filter := rfl
set_option maxRecDepth 100000 in
theorem ho129 : am_own 129 = 10 := rfl
set_option maxRecDepth 100000 in
theorem hv129 : am_lev 129 = 3 := rfl
set_option maxRecDepth 100000 in
theorem hn129 : am_nl 129 = 4 := rfl
set_option maxRecDepth 100000 in
theorem hr129 : am_rt 129 = (some .int) := rfl
set_option maxRecDepth 100000 in
theorem hp129 : am_np 129 = 1 := rfl
set_option maxRecDepth 100000 in
theorem hi129 : am_ini 129 = false := rfl
set_option maxRecDepth 100000 in
theorem hc130 : am_c 130 = cX10_hits := rfl
set_option maxRecDepth 100000 in
theorem ho130 : am_own 130 = 10 := rfl
set_option maxRecDepth 100000 in
theorem hv130 : am_lev 130 = 3 := rfl
set_option maxRecDepth 100000 in
theorem hn130 : am_nl 130 = 7 := rfl
set_option maxRecDepth 100000 in
theorem hr130 : am_rt 130 = none := rfl
set_option maxRecDepth 100000 in
theorem hp130 : am_np 130 = 2 := rfl
set_option maxRecDepth 100000 in
theorem hi130 : am_ini 130 = false := rfl
set_option maxRecDepth 100000 in
theorem hc131 : am_c 131 = cX10_frees := rfl
set_option maxRecDepth 100000 in
theorem ho131 : am_own 131 = 10 := rfl
set_option maxRecDepth 100000 in
theorem hv131 : am_lev 131 = 1 := rfl
set_option maxRecDepth 100000 in
theorem hn131 : am_nl 131 = 3 := rfl
set_option maxRecDepth 100000 in
theorem hr131 : am_rt 131 = none := rfl
set_option maxRecDepth 100000 in
theorem hp131 : am_np 131 = 1 := rfl
set_option maxRecDepth 100000 in
theorem hi131 : am_ini 131 = false := rfl
set_option maxRecDepth 100000 in
theorem hc132 : am_c 132 = cX10_meets := rfl
set_option maxRecDepth 100000 in
theorem ho132 : am_own 132 = 10 := rfl
set_option maxRecDepth 100000 in
theorem hv132 : am_lev 132 = 4 := rfl
set_option maxRecDepth 100000 in
theorem hn132 : am_nl 132 = 6 := rfl
set_option maxRecDepth 100000 in
theorem hr132 : am_rt 132 = none := rfl
set_option maxRecDepth 100000 in
theorem hp132 : am_np 132 = 2 := rfl
set_option maxRecDepth 100000 in
theorem hi132 : am_ini 132 = false := rfl
set_option maxRecDepth 100000 in
theorem hc133 : am_c 133 = cX10_figures := rfl
set_option maxRecDepth 100000 in
theorem ho133 : am_own 133 = 10 := rfl
set_option maxRecDepth 100000 in
theorem hv133 : am_lev 133 = 0 := rfl
set_option maxRecDepth 100000 in
theorem hn133 : am_nl 133 = 2 := rfl
set_option maxRecDepth 100000 in
theorem hr133 : am_rt 133 = (some .int) := rfl
set_option maxRecDepth 100000 in
theorem hp133 : am_np 133 = 2 := rfl
set_option maxRecDepth 100000 in
theorem hi133 : am_ini 133 = false := rfl
set_option maxRecDepth 100000 in
theorem hc134 : am_c 134 = cX10_plain := rfl
set_option maxRecDepth 100000 in
theorem ho134 : am_own 134 = 10 := rfl
set_option maxRecDepth 100000 in
theorem hv134 : am_lev 134 = 1 := rfl
set_option maxRecDepth 100000 in
theorem hn134 : am_nl 134 = 5 := rfl
set_option maxRecDepth 100000 in
theorem hr134 : am_rt 134 = (some .int) := rfl
set_option maxRecDepth 100000 in
theorem hp134 : am_np 134 = 3 := rfl
set_option maxRecDepth 100000 in
theorem hi134 : am_ini 134 = false := rfl
set_option maxRecDepth 100000 in
theorem hc135 : am_c 135 = cX10_turns := rfl
set_option maxRecDepth 100000 in
theorem ho135 : am_own 135 = 10 := rfl
set_option maxRecDepth 100000 in
theorem hv135 : am_lev 135 = 1 := rfl
set_option maxRecDepth 100000 in
theorem hn135 : am_nl 135 = 5 := rfl
set_option maxRecDepth 100000 in
theorem hr135 : am_rt 135 = (some .int) := rfl
set_option maxRecDepth 100000 in
theorem hp135 : am_np 135 = 3 := rfl
set_option maxRecDepth 100000 in
theorem hi135 : am_ini 135 = false := rfl
set_option maxRecDepth 100000 in
theorem hc136 : am_c 136 = cX10_goes := rfl
set_option maxRecDepth 100000 in
theorem ho136 : am_own 136 = 10 := rfl
set_option maxRecDepth 100000 in
theorem hv136 : am_lev 136 = 3 := rfl
set_option maxRecDepth 100000 in
theorem hn136 : am_nl 136 = 6 := rfl
set_option maxRecDepth 100000 in
theorem hr136 : am_rt 136 = (some .boolean) := rfl
set_option maxRecDepth 100000 in
theorem hp136 : am_np 136 = 2 := rfl
set_option maxRecDepth 100000 in
theorem hi136 : am_ini 136 = false := rfl
set_option maxRecDepth 100000 in
theorem hc137 : am_c 137 = cX10_does := rfl
set_option maxRecDepth 100000 in
theorem ho137 : am_own 137 = 10 := rfl
set_option maxRecDepth 100000 in
theorem hv137 : am_lev 137 = 5 := rfl
set_option maxRecDepth 100000 in
theorem hn137 : am_nl 137 = 7 := rfl
set_option maxRecDepth 100000 in
theorem hr137 : am_rt 137 = (some .boolean) := rfl
set_option maxRecDepth 100000 in
theorem hp137 : am_np 137 = 1 := rfl
set_option maxRecDepth 100000 in
theorem hi137 : am_ini 137 = false := rfl
set_option maxRecDepth 100000 in
theorem hc138 : am_c 138 = cX10_isProcessor := rfl
set_option maxRecDepth 100000 in
theorem ho138 : am_own 138 = 10 := rfl
set_option maxRecDepth 100000 in
theorem hv138 : am_lev 138 = 1 := rfl
set_option maxRecDepth 100000 in
theorem hn138 : am_nl 138 = 1 := rfl
set_option maxRecDepth 100000 in
theorem hr138 : am_rt 138 = (some .boolean) := rfl
set_option maxRecDepth 100000 in
theorem hp138 : am_np 138 = 1 := rfl
set_option maxRecDepth 100000 in
theorem hi138 : am_ini 138 = false := rfl
set_option maxRecDepth 100000 in
theorem hc139 : am_c 139 = cX10_step := rfl
set_option maxRecDepth 100000 in
theorem ho139 : am_own 139 = 10 := rfl
set_option maxRecDepth 100000 in
theorem hv139 : am_lev 139 = 6 := rfl
set_option maxRecDepth 100000 in
theorem hn139 : am_nl 139 = 5 := rfl
set_option maxRecDepth 100000 in
theorem hr139 : am_rt 139 = (some .int) := rfl
set_option maxRecDepth 100000 in
theorem hp139 : am_np 139 = 2 := rfl
set_option maxRecDepth 100000 in
theorem hi139 : am_ini 139 = false := rfl
set_option maxRecDepth 100000 in
theorem hc140 : am_c 140 = cX10_start := rfl
set_option maxRecDepth 100000 in
theorem ho140 : am_own 140 = 10 := rfl
set_option maxRecDepth 100000 in
theorem hv140 : am_lev 140 = 2 := rfl
set_option maxRecDepth 100000 in
theorem hn140 : am_nl 140 = 7 := rfl
set_option maxRecDepth 100000 in
theorem hr140 : am_rt 140 = (some .int) := rfl
set_option maxRecDepth 100000 in
theorem hp140 : am_np 140 = 3 := rfl
set_option maxRecDepth 100000 in
theorem hi140 : am_ini 140 = false := rfl
set_option maxRecDepth 100000 in
theorem hc141 : am_c 141 = cX10_poke := rfl
set_option maxRecDepth 100000 in
theorem ho141 : am_own 141 = 10 := rfl
set_option maxRecDepth 100000 in
theorem hv141 : am_lev 141 = 1 := rfl
set_option maxRecDepth 100000 in
theorem hn141 : am_nl 141 = 4 := rfl
set_option maxRecDepth 100000 in
theorem hr141 : am_rt 141 = (some .int) := rfl
set_option maxRecDepth 100000 in
theorem hp141 : am_np 141 = 2 := rfl
set_option maxRecDepth 100000 in
theorem hi141 : am_ini 141 = false := rfl
set_option maxRecDepth 100000 in
theorem hc142 : am_c 142 = cX10_code := rfl
set_option maxRecDepth 100000 in
theorem ho142 : am_own 142 = 10 := rfl
set_option maxRecDepth 100000 in
theorem hv142 : am_lev 142 = 2 := rfl
set_option maxRecDepth 100000 in
theorem hn142 : am_nl 142 = 4 := rfl
set_option maxRecDepth 100000 in
theorem hr142 : am_rt 142 = (some .int) := rfl
set_option maxRecDepth 100000 in
theorem hp142 : am_np 142 = 2 := rfl
set_option maxRecDepth 100000 in
theorem hi142 : am_ini 142 = false := rfl
set_option maxRecDepth 100000 in
theorem hc143 : am_c 143 = cX10_memory := rfl
set_option maxRecDepth 100000 in
theorem ho143 : am_own 143 = 10 := rfl
set_option maxRecDepth 100000 in
theorem hv143 : am_lev 143 = 1 := rfl
set_option maxRecDepth 100000 in
theorem hn143 : am_nl 143 = 2 := rfl
set_option maxRecDepth 100000 in
theorem hr143 : am_rt 143 = (some .int) := rfl
set_option maxRecDepth 100000 in
theorem hp143 : am_np 143 = 1 := rfl
set_option maxRecDepth 100000 in
theorem hi143 : am_ini 143 = false := rfl
set_option maxRecDepth 100000 in
theorem hc144 : am_c 144 = cX10_processor := rfl
set_option maxRecDepth 100000 in
theorem ho144 : am_own 144 = 10 := rfl
set_option maxRecDepth 100000 in
theorem hv144 : am_lev 144 = 2 := rfl
set_option maxRecDepth 100000 in
theorem hn144 : am_nl 144 = 4 := rfl
set_option maxRecDepth 100000 in
theorem hr144 : am_rt 144 = (some .int) := rfl
set_option maxRecDepth 100000 in
theorem hp144 : am_np 144 = 2 := rfl
set_option maxRecDepth 100000 in
theorem hi144 : am_ini 144 = false := rfl
set_option maxRecDepth 100000 in
theorem hc145 : am_c 145 = cX10_returns := rfl
set_option maxRecDepth 100000 in
theorem ho145 : am_own 145 = 10 := rfl
set_option maxRecDepth 100000 in
theorem hv145 : am_lev 145 = 2 := rfl
set_option maxRecDepth 100000 in
theorem hn145 : am_nl 145 = 5 := rfl
set_option maxRecDepth 100000 in
theorem hr145 : am_rt 145 = (some .int) := rfl
set_option maxRecDepth 100000 in
theorem hp145 : am_np 145 = 3 := rfl
set_option maxRecDepth 100000 in
theorem hi145 : am_ini 145 = false := rfl
set_option maxRecDepth 100000 in
theorem hc146 : am_c 146 = cX10_ring := rfl
set_option maxRecDepth 100000 in
theorem ho146 : am_own 146 = 10 := rfl
set_option maxRecDepth 100000 in
theorem hv146 : am_lev 146 = 2 := rfl
set_option maxRecDepth 100000 in
theorem hn146 : am_nl 146 = 5 := rfl
set_option maxRecDepth 100000 in
theorem hr146 : am_rt 146 = (some .int) := rfl
set_option maxRecDepth 100000 in
theorem hp146 : am_np 146 = 3 := rfl
set_option maxRecDepth 100000 in
theorem hi146 : am_ini 146 = false := rfl
set_option maxRecDepth 100000 in
theorem hc147 : am_c 147 = cX10_look := rfl
set_option maxRecDepth 100000 in
theorem ho147 : am_own 147 = 10 := rfl
set_option maxRecDepth 100000 in
theorem hv147 : am_lev 147 = 1 := rfl
set_option maxRecDepth 100000 in
theorem hn147 : am_nl 147 = 4 := rfl
set_option maxRecDepth 100000 in
theorem hr147 : am_rt 147 = (some .int) := rfl
set_option maxRecDepth 100000 in
theorem hp147 : am_np 147 = 2 := rfl
set_option maxRecDepth 100000 in
theorem hi147 : am_ini 147 = false := rfl
set_option maxRecDepth 100000 in
theorem hc148 : am_c 148 = cX10_ever := rfl
set_option maxRecDepth 100000 in
theorem ho148 : am_own 148 = 10 := rfl
set_option maxRecDepth 100000 in
theorem hv148 : am_lev 148 = 4 := rfl
set_option maxRecDepth 100000 in
theorem hn148 : am_nl 148 = 7 := rfl
set_option maxRecDepth 100000 in
theorem hr148 : am_rt 148 = (some .int) := rfl
set_option maxRecDepth 100000 in
theorem hp148 : am_np 148 = 3 := rfl
set_option maxRecDepth 100000 in
theorem hi148 : am_ini 148 = false := rfl
set_option maxRecDepth 100000 in
theorem hc149 : am_c 149 = cX10_heldInAll := rfl
set_option maxRecDepth 100000 in
theorem ho149 : am_own 149 = 10 := rfl
set_option maxRecDepth 100000 in
theorem hv149 : am_lev 149 = 1 := rfl
set_option maxRecDepth 100000 in
theorem hn149 : am_nl 149 = 3 := rfl
set_option maxRecDepth 100000 in
theorem hr149 : am_rt 149 = (some .int) := rfl
set_option maxRecDepth 100000 in
theorem hp149 : am_np 149 = 0 := rfl
set_option maxRecDepth 100000 in
theorem hi149 : am_ini 149 = false := rfl
set_option maxRecDepth 100000 in
theorem hc150 : am_c 150 = cX10_count := rfl
set_option maxRecDepth 100000 in
theorem ho150 : am_own 150 = 10 := rfl
set_option maxRecDepth 100000 in
theorem hv150 : am_lev 150 = 2 := rfl
set_option maxRecDepth 100000 in
theorem hn150 : am_nl 150 = 4 := rfl
set_option maxRecDepth 100000 in
theorem hr150 : am_rt 150 = (some .int) := rfl
set_option maxRecDepth 100000 in
theorem hp150 : am_np 150 = 1 := rfl
set_option maxRecDepth 100000 in
theorem hi150 : am_ini 150 = false := rfl
set_option maxRecDepth 100000 in
theorem hc151 : am_c 151 = cJ9_floorMod_7cf53 := rfl
set_option maxRecDepth 100000 in
theorem ho151 : am_own 151 = 12 := rfl
set_option maxRecDepth 100000 in
theorem hv151 : am_lev 151 = 0 := rfl
set_option maxRecDepth 100000 in
theorem hn151 : am_nl 151 = 3 := rfl
set_option maxRecDepth 100000 in
theorem hr151 : am_rt 151 = (some .int) := rfl
set_option maxRecDepth 100000 in
theorem hp151 : am_np 151 = 2 := rfl
set_option maxRecDepth 100000 in
theorem hi151 : am_ini 151 = false := rfl
set_option maxRecDepth 100000 in
theorem hc152 : am_c 152 = cJ9_max_7cf53 := rfl
set_option maxRecDepth 100000 in
theorem ho152 : am_own 152 = 12 := rfl
set_option maxRecDepth 100000 in
theorem hv152 : am_lev 152 = 0 := rfl
set_option maxRecDepth 100000 in
theorem hn152 : am_nl 152 = 2 := rfl
set_option maxRecDepth 100000 in
theorem hr152 : am_rt 152 = (some .int) := rfl
set_option maxRecDepth 100000 in
theorem hp152 : am_np 152 = 2 := rfl
set_option maxRecDepth 100000 in
theorem hi152 : am_ini 152 = false := rfl
set_option maxRecDepth 100000 in
theorem hc153 : am_c 153 = cJ9_min_7cf53 := rfl
set_option maxRecDepth 100000 in
theorem ho153 : am_own 153 = 12 := rfl
set_option maxRecDepth 100000 in
theorem hv153 : am_lev 153 = 0 := rfl
set_option maxRecDepth 100000 in
theorem hn153 : am_nl 153 = 2 := rfl
set_option maxRecDepth 100000 in
theorem hr153 : am_rt 153 = (some .int) := rfl
set_option maxRecDepth 100000 in
theorem hp153 : am_np 153 = 2 := rfl
set_option maxRecDepth 100000 in
theorem hi153 : am_ini 153 = false := rfl
set_option maxRecDepth 100000 in
theorem hc154 : am_c 154 = cJ0_length_8abf5 := rfl
set_option maxRecDepth 100000 in
theorem ho154 : am_own 154 = 13 := rfl
set_option maxRecDepth 100000 in
theorem hv154 : am_lev 154 = 1 := rfl
set_option maxRecDepth 100000 in
theorem hn154 : am_nl 154 = 1 := rfl
set_option maxRecDepth 100000 in
theorem hr154 : am_rt 154 = (some .int) := rfl
set_option maxRecDepth 100000 in
theorem hp154 : am_np 154 = 0 := rfl
set_option maxRecDepth 100000 in
theorem hi154 : am_ini 154 = false := rfl
set_option maxRecDepth 100000 in
theorem hc155 : am_c 155 = cJ0_charAt_5068e := rfl
set_option maxRecDepth 100000 in
theorem ho155 : am_own 155 = 13 := rfl
set_option maxRecDepth 100000 in
theorem hv155 : am_lev 155 = 3 := rfl
set_option maxRecDepth 100000 in
theorem hn155 : am_nl 155 = 2 := rfl
set_option maxRecDepth 100000 in
theorem hr155 : am_rt 155 = (some .char) := rfl
set_option maxRecDepth 100000 in
theorem hp155 : am_np 155 = 1 := rfl
set_option maxRecDepth 100000 in
theorem hi155 : am_ini 155 = false := rfl
set_option maxRecDepth 100000 in
theorem hc156 : am_c 156 = cJ0_coder_7d493 := rfl
set_option maxRecDepth 100000 in
theorem ho156 : am_own 156 = 13 := rfl
set_option maxRecDepth 100000 in
theorem hv156 : am_lev 156 = 0 := rfl
set_option maxRecDepth 100000 in
theorem hn156 : am_nl 156 = 1 := rfl
set_option maxRecDepth 100000 in
theorem hr156 : am_rt 156 = (some .byte) := rfl
set_option maxRecDepth 100000 in
theorem hp156 : am_np 156 = 0 := rfl
set_option maxRecDepth 100000 in
theorem hi156 : am_ini 156 = false := rfl
set_option maxRecDepth 100000 in
theorem hc157 : am_c 157 = cJ0_isLatin1_aae02 := rfl
set_option maxRecDepth 100000 in
theorem ho157 : am_own 157 = 13 := rfl
set_option maxRecDepth 100000 in
theorem hv157 : am_lev 157 = 0 := rfl
set_option maxRecDepth 100000 in
theorem hn157 : am_nl 157 = 1 := rfl
set_option maxRecDepth 100000 in
theorem hr157 : am_rt 157 = (some .boolean) := rfl
set_option maxRecDepth 100000 in
theorem hp157 : am_np 157 = 0 := rfl
set_option maxRecDepth 100000 in
theorem hi157 : am_ini 157 = false := rfl
set_option maxRecDepth 100000 in
theorem hc158 : am_c 158 = cJ0_checkIndex_df160 := rfl
set_option maxRecDepth 100000 in
theorem ho158 : am_own 158 = 13 := rfl
set_option maxRecDepth 100000 in
theorem hv158 : am_lev 158 = 1 := rfl
set_option maxRecDepth 100000 in
theorem hn158 : am_nl 158 = 2 := rfl
set_option maxRecDepth 100000 in
theorem hr158 : am_rt 158 = none := rfl
set_option maxRecDepth 100000 in
theorem hp158 : am_np 158 = 2 := rfl
set_option maxRecDepth 100000 in
theorem hi158 : am_ini 158 = false := rfl
set_option maxRecDepth 100000 in
theorem hc159 : am_c 159 = cJ1_charAt_3b067 := rfl
set_option maxRecDepth 100000 in
theorem ho159 : am_own 159 = 14 := rfl
set_option maxRecDepth 100000 in
theorem hv159 : am_lev 159 = 2 := rfl
set_option maxRecDepth 100000 in
theorem hn159 : am_nl 159 = 2 := rfl
set_option maxRecDepth 100000 in
theorem hr159 : am_rt 159 = (some .char) := rfl
set_option maxRecDepth 100000 in
theorem hp159 : am_np 159 = 2 := rfl
set_option maxRecDepth 100000 in
theorem hi159 : am_ini 159 = false := rfl
set_option maxRecDepth 100000 in
theorem hc160 : am_c 160 = cJ3_checkIndex_8e157 := rfl
set_option maxRecDepth 100000 in
theorem ho160 : am_own 160 = 15 := rfl
set_option maxRecDepth 100000 in
theorem hv160 : am_lev 160 = 0 := rfl
set_option maxRecDepth 100000 in
theorem hn160 : am_nl 160 = 3 := rfl
set_option maxRecDepth 100000 in
theorem hr160 : am_rt 160 = (some .int) := rfl
set_option maxRecDepth 100000 in
theorem hp160 : am_np 160 = 3 := rfl
set_option maxRecDepth 100000 in
theorem hi160 : am_ini 160 = false := rfl
set_option maxRecDepth 100000 in
theorem hc161 : am_c 161 = cL_law := rfl
set_option maxRecDepth 100000 in
theorem ho161 : am_own 161 = 11 := rfl
set_option maxRecDepth 100000 in
theorem hv161 : am_lev 161 = 7 := rfl
set_option maxRecDepth 100000 in
theorem hn161 : am_nl 161 = 4 := rfl
set_option maxRecDepth 100000 in
theorem hr161 : am_rt 161 = (some .boolean) := rfl
set_option maxRecDepth 100000 in
theorem hp161 : am_np 161 = 1 := rfl
set_option maxRecDepth 100000 in
theorem hi161 : am_ini 161 = false := rfl
