abbrev qJ_bitCount : MD := (yJ6_bitCount_0f7a4, cJ6_bitCount_0f7a4, 1, (some .int))
theorem mk_J_bitCount : MOk qJ_bitCount 1 := ⟨List.mem_of_getElem? (i := 1030) (by decide +kernel), List.mem_of_getElem? (i := 117) (by decide +kernel), by decide, ⟨by decide, by decide⟩, by decide +kernel, by decide⟩
theorem mv_J_bitCount : MS qJ_bitCount := List.mem_of_getElem? (i := 1029) (by decide +kernel)
abbrev qDawns_draw : MD := (yX0_draw, cX0_draw, 3, (some .int))
theorem mk_Dawns_draw : MOk qDawns_draw 1 := ⟨List.mem_of_getElem? (i := 1375) (by decide +kernel), List.mem_of_getElem? (i := 102) (by decide +kernel), by decide, ⟨by decide, by decide⟩, by decide +kernel, by decide⟩
theorem mv_Dawns_draw : MV qDawns_draw := ⟨List.mem_of_getElem? (i := 1374) (by decide +kernel), List.mem_of_getElem? (i := 35) (by decide +kernel)⟩
abbrev qDawns_init : MD := (yX0_init, cX0_init, 1, none)
theorem mk_Dawns_init : MOk qDawns_init 0 := ⟨List.mem_of_getElem? (i := 314) (by decide +kernel), List.mem_of_getElem? (i := 102) (by decide +kernel), by decide, ⟨by decide, by decide⟩, by decide +kernel, by decide⟩
theorem mv_Dawns_init : MI qDawns_init := ⟨List.mem_of_getElem? (i := 313) (by decide +kernel), rfl, rfl⟩
abbrev qDawns_play : MD := (yX0_play, cX0_play, 8, none)
theorem mk_Dawns_play : MOk qDawns_play 6 := ⟨List.mem_of_getElem? (i := 1366) (by decide +kernel), List.mem_of_getElem? (i := 102) (by decide +kernel), by decide, ⟨by decide, by decide⟩, by decide +kernel, by decide⟩
theorem mv_Dawns_play : MV qDawns_play := ⟨List.mem_of_getElem? (i := 1364) (by decide +kernel), List.mem_of_getElem? (i := 1365) (by decide +kernel)⟩
abbrev qDawns_playDawn : MD := (yX0_playDawn, cX0_playDawn, 7, none)
theorem mk_Dawns_playDawn : MOk qDawns_playDawn 3 := ⟨List.mem_of_getElem? (i := 1371) (by decide +kernel), List.mem_of_getElem? (i := 102) (by decide +kernel), by decide, ⟨by decide, by decide⟩, by decide +kernel, by decide⟩
theorem mv_Dawns_playDawn : MV qDawns_playDawn := ⟨List.mem_of_getElem? (i := 1370) (by decide +kernel), List.mem_of_getElem? (i := 34) (by decide +kernel)⟩
abbrev qWall_actsOn : MD := (yX10_actsOn, cX10_actsOn, 4, (some .int))
theorem mk_Wall_actsOn : MOk qWall_actsOn 1 := ⟨List.mem_of_getElem? (i := 1114) (by decide +kernel), List.mem_of_getElem? (i := 98) (by decide +kernel), by decide, ⟨by decide, by decide⟩, by decide +kernel, by decide⟩
theorem mv_Wall_actsOn : MV qWall_actsOn := ⟨List.mem_of_getElem? (i := 1112) (by decide +kernel), List.mem_of_getElem? (i := 1113) (by decide +kernel)⟩
abbrev qWall_actsStanding : MD := (yX10_actsStanding, cX10_actsStanding, 3, (some .int))
theorem mk_Wall_actsStanding : MOk qWall_actsStanding 0 := ⟨List.mem_of_getElem? (i := 556) (by decide +kernel), List.mem_of_getElem? (i := 98) (by decide +kernel), by decide, ⟨by decide, by decide⟩, by decide +kernel, by decide⟩
theorem mv_Wall_actsStanding : MV qWall_actsStanding := ⟨List.mem_of_getElem? (i := 554) (by decide +kernel), List.mem_of_getElem? (i := 555) (by decide +kernel)⟩
abbrev qWall_bearsAsTold : MD := (yX10_bearsAsTold, cX10_bearsAsTold, 4, (some .boolean))
theorem mk_Wall_bearsAsTold : MOk qWall_bearsAsTold 2 := ⟨List.mem_of_getElem? (i := 564) (by decide +kernel), List.mem_of_getElem? (i := 98) (by decide +kernel), by decide, ⟨by decide, by decide⟩, by decide +kernel, by decide⟩
theorem mv_Wall_bearsAsTold : MV qWall_bearsAsTold := ⟨List.mem_of_getElem? (i := 562) (by decide +kernel), List.mem_of_getElem? (i := 563) (by decide +kernel)⟩
abbrev qWall_become : MD := (yX10_become, cX10_become, 2, none)
theorem mk_Wall_become : MOk qWall_become 1 := ⟨List.mem_of_getElem? (i := 545) (by decide +kernel), List.mem_of_getElem? (i := 98) (by decide +kernel), by decide, ⟨by decide, by decide⟩, by decide +kernel, by decide⟩
theorem mv_Wall_become : MV qWall_become := ⟨List.mem_of_getElem? (i := 543) (by decide +kernel), List.mem_of_getElem? (i := 544) (by decide +kernel)⟩
abbrev qWall_begin : MD := (yX10_begin, cX10_begin, 3, none)
theorem mk_Wall_begin : MOk qWall_begin 1 := ⟨List.mem_of_getElem? (i := 455) (by decide +kernel), List.mem_of_getElem? (i := 98) (by decide +kernel), by decide, ⟨by decide, by decide⟩, by decide +kernel, by decide⟩
theorem mv_Wall_begin : MV qWall_begin := ⟨List.mem_of_getElem? (i := 453) (by decide +kernel), List.mem_of_getElem? (i := 454) (by decide +kernel)⟩
abbrev qWall_describe : MD := (yX10_describe, cX10_describe, 4, none)
theorem mk_Wall_describe : MOk qWall_describe 3 := ⟨List.mem_of_getElem? (i := 1060) (by decide +kernel), List.mem_of_getElem? (i := 98) (by decide +kernel), by decide, ⟨by decide, by decide⟩, by decide +kernel, by decide⟩
theorem mv_Wall_describe : MV qWall_describe := ⟨List.mem_of_getElem? (i := 1058) (by decide +kernel), List.mem_of_getElem? (i := 1059) (by decide +kernel)⟩
abbrev qWall_init : MD := (yX10_init, cX10_init, 1, none)
theorem mk_Wall_init : MOk qWall_init 0 := ⟨List.mem_of_getElem? (i := 193) (by decide +kernel), List.mem_of_getElem? (i := 98) (by decide +kernel), by decide, ⟨by decide, by decide⟩, by decide +kernel, by decide⟩
theorem mv_Wall_init : MI qWall_init := ⟨List.mem_of_getElem? (i := 192) (by decide +kernel), rfl, rfl⟩
abbrev qWall_keptAsTold : MD := (yX10_keptAsTold, cX10_keptAsTold, 4, (some .int))
theorem mk_Wall_keptAsTold : MOk qWall_keptAsTold 1 := ⟨List.mem_of_getElem? (i := 1384) (by decide +kernel), List.mem_of_getElem? (i := 98) (by decide +kernel), by decide, ⟨by decide, by decide⟩, by decide +kernel, by decide⟩
theorem mv_Wall_keptAsTold : MV qWall_keptAsTold := ⟨List.mem_of_getElem? (i := 1382) (by decide +kernel), List.mem_of_getElem? (i := 1383) (by decide +kernel)⟩
abbrev qWall_lettersFrom : MD := (yX10_lettersFrom, cX10_lettersFrom, 5, (some .int))
theorem mk_Wall_lettersFrom : MOk qWall_lettersFrom 2 := ⟨List.mem_of_getElem? (i := 1044) (by decide +kernel), List.mem_of_getElem? (i := 98) (by decide +kernel), by decide, ⟨by decide, by decide⟩, by decide +kernel, by decide⟩
theorem mv_Wall_lettersFrom : MV qWall_lettersFrom := ⟨List.mem_of_getElem? (i := 1042) (by decide +kernel), List.mem_of_getElem? (i := 1043) (by decide +kernel)⟩
abbrev qWall_lettersOn : MD := (yX10_lettersOn, cX10_lettersOn, 5, (some .int))
theorem mk_Wall_lettersOn : MOk qWall_lettersOn 2 := ⟨List.mem_of_getElem? (i := 587) (by decide +kernel), List.mem_of_getElem? (i := 98) (by decide +kernel), by decide, ⟨by decide, by decide⟩, by decide +kernel, by decide⟩
theorem mv_Wall_lettersOn : MV qWall_lettersOn := ⟨List.mem_of_getElem? (i := 585) (by decide +kernel), List.mem_of_getElem? (i := 586) (by decide +kernel)⟩
abbrev qWall_linesBy : MD := (yX10_linesBy, cX10_linesBy, 2, (some .int))
theorem mk_Wall_linesBy : MOk qWall_linesBy 1 := ⟨List.mem_of_getElem? (i := 1141) (by decide +kernel), List.mem_of_getElem? (i := 98) (by decide +kernel), by decide, ⟨by decide, by decide⟩, by decide +kernel, by decide⟩
theorem mv_Wall_linesBy : MV qWall_linesBy := ⟨List.mem_of_getElem? (i := 1139) (by decide +kernel), List.mem_of_getElem? (i := 1140) (by decide +kernel)⟩
abbrev qWall_linesOfBid : MD := (yX10_linesOfBid, cX10_linesOfBid, 2, (some .int))
theorem mk_Wall_linesOfBid : MOk qWall_linesOfBid 1 := ⟨List.mem_of_getElem? (i := 1130) (by decide +kernel), List.mem_of_getElem? (i := 98) (by decide +kernel), by decide, ⟨by decide, by decide⟩, by decide +kernel, by decide⟩
theorem mv_Wall_linesOfBid : MV qWall_linesOfBid := ⟨List.mem_of_getElem? (i := 1128) (by decide +kernel), List.mem_of_getElem? (i := 1129) (by decide +kernel)⟩
abbrev qWall_linesOn : MD := (yX10_linesOn, cX10_linesOn, 2, (some .int))
theorem mk_Wall_linesOn : MOk qWall_linesOn 1 := ⟨List.mem_of_getElem? (i := 1110) (by decide +kernel), List.mem_of_getElem? (i := 98) (by decide +kernel), by decide, ⟨by decide, by decide⟩, by decide +kernel, by decide⟩
theorem mv_Wall_linesOn : MV qWall_linesOn := ⟨List.mem_of_getElem? (i := 1108) (by decide +kernel), List.mem_of_getElem? (i := 1109) (by decide +kernel)⟩
abbrev qWall_mayWrite : MD := (yX10_mayWrite, cX10_mayWrite, 6, (some .boolean))
theorem mk_Wall_mayWrite : MOk qWall_mayWrite 4 := ⟨List.mem_of_getElem? (i := 576) (by decide +kernel), List.mem_of_getElem? (i := 98) (by decide +kernel), by decide, ⟨by decide, by decide⟩, by decide +kernel, by decide⟩
theorem mv_Wall_mayWrite : MV qWall_mayWrite := ⟨List.mem_of_getElem? (i := 574) (by decide +kernel), List.mem_of_getElem? (i := 575) (by decide +kernel)⟩
abbrev qWall_mayWriteAny : MD := (yX10_mayWriteAny, cX10_mayWriteAny, 5, (some .boolean))
theorem mk_Wall_mayWriteAny : MOk qWall_mayWriteAny 2 := ⟨List.mem_of_getElem? (i := 572) (by decide +kernel), List.mem_of_getElem? (i := 98) (by decide +kernel), by decide, ⟨by decide, by decide⟩, by decide +kernel, by decide⟩
theorem mv_Wall_mayWriteAny : MV qWall_mayWriteAny := ⟨List.mem_of_getElem? (i := 570) (by decide +kernel), List.mem_of_getElem? (i := 571) (by decide +kernel)⟩
abbrev qWall_night : MD := (yX10_night, cX10_night, 2, (some .boolean))
theorem mk_Wall_night : MOk qWall_night 1 := ⟨List.mem_of_getElem? (i := 996) (by decide +kernel), List.mem_of_getElem? (i := 98) (by decide +kernel), by decide, ⟨by decide, by decide⟩, by decide +kernel, by decide⟩
theorem mv_Wall_night : MV qWall_night := ⟨List.mem_of_getElem? (i := 994) (by decide +kernel), List.mem_of_getElem? (i := 995) (by decide +kernel)⟩
abbrev qWall_rain : MD := (yX10_rain, cX10_rain, 4, (some .boolean))
theorem mk_Wall_rain : MOk qWall_rain 1 := ⟨List.mem_of_getElem? (i := 992) (by decide +kernel), List.mem_of_getElem? (i := 98) (by decide +kernel), by decide, ⟨by decide, by decide⟩, by decide +kernel, by decide⟩
theorem mv_Wall_rain : MV qWall_rain := ⟨List.mem_of_getElem? (i := 990) (by decide +kernel), List.mem_of_getElem? (i := 991) (by decide +kernel)⟩
abbrev qWall_roomOn : MD := (yX10_roomOn, cX10_roomOn, 3, (some .int))
theorem mk_Wall_roomOn : MOk qWall_roomOn 2 := ⟨List.mem_of_getElem? (i := 583) (by decide +kernel), List.mem_of_getElem? (i := 98) (by decide +kernel), by decide, ⟨by decide, by decide⟩, by decide +kernel, by decide⟩
theorem mv_Wall_roomOn : MV qWall_roomOn := ⟨List.mem_of_getElem? (i := 581) (by decide +kernel), List.mem_of_getElem? (i := 582) (by decide +kernel)⟩
abbrev qWall_slip : MD := (yX10_slip, cX10_slip, 4, (some .boolean))
theorem mk_Wall_slip : MOk qWall_slip 2 := ⟨List.mem_of_getElem? (i := 988) (by decide +kernel), List.mem_of_getElem? (i := 98) (by decide +kernel), by decide, ⟨by decide, by decide⟩, by decide +kernel, by decide⟩
theorem mv_Wall_slip : MV qWall_slip := ⟨List.mem_of_getElem? (i := 986) (by decide +kernel), List.mem_of_getElem? (i := 987) (by decide +kernel)⟩
abbrev qWall_timesIn : MD := (yX10_timesIn, cX10_timesIn, 5, (some .int))
theorem mk_Wall_timesIn : MOk qWall_timesIn 3 := ⟨List.mem_of_getElem? (i := 1063) (by decide +kernel), List.mem_of_getElem? (i := 98) (by decide +kernel), by decide, ⟨by decide, by decide⟩, by decide +kernel, by decide⟩
theorem mv_Wall_timesIn : MS qWall_timesIn := List.mem_of_getElem? (i := 1062) (by decide +kernel)
abbrev qWall_turnDay : MD := (yX10_turnDay, cX10_turnDay, 2, none)
theorem mk_Wall_turnDay : MOk qWall_turnDay 1 := ⟨List.mem_of_getElem? (i := 1000) (by decide +kernel), List.mem_of_getElem? (i := 98) (by decide +kernel), by decide, ⟨by decide, by decide⟩, by decide +kernel, by decide⟩
theorem mv_Wall_turnDay : MV qWall_turnDay := ⟨List.mem_of_getElem? (i := 998) (by decide +kernel), List.mem_of_getElem? (i := 999) (by decide +kernel)⟩
abbrev qWall_whiten : MD := (yX10_whiten, cX10_whiten, 3, none)
theorem mk_Wall_whiten : MOk qWall_whiten 1 := ⟨List.mem_of_getElem? (i := 459) (by decide +kernel), List.mem_of_getElem? (i := 98) (by decide +kernel), by decide, ⟨by decide, by decide⟩, by decide +kernel, by decide⟩
theorem mv_Wall_whiten : MV qWall_whiten := ⟨List.mem_of_getElem? (i := 458) (by decide +kernel), List.mem_of_getElem? (i := 2) (by decide +kernel)⟩
abbrev qWall_write : MD := (yX10_write, cX10_write, 5, (some .boolean))
theorem mk_Wall_write : MOk qWall_write 4 := ⟨List.mem_of_getElem? (i := 984) (by decide +kernel), List.mem_of_getElem? (i := 98) (by decide +kernel), by decide, ⟨by decide, by decide⟩, by decide +kernel, by decide⟩
theorem mv_Wall_write : MV qWall_write := ⟨List.mem_of_getElem? (i := 982) (by decide +kernel), List.mem_of_getElem? (i := 983) (by decide +kernel)⟩
abbrev qC_above : MD := (yX11_above, cX11_above, 2, (some .int))
theorem mk_C_above : MOk qC_above 1 := ⟨List.mem_of_getElem? (i := 1331) (by decide +kernel), List.mem_of_getElem? (i := 95) (by decide +kernel), by decide, ⟨by decide, by decide⟩, by decide +kernel, by decide⟩
theorem mv_C_above : MV qC_above := ⟨List.mem_of_getElem? (i := 1329) (by decide +kernel), List.mem_of_getElem? (i := 1330) (by decide +kernel)⟩
abbrev qC_actsInForce : MD := (yX11_actsInForce, cX11_actsInForce, 4, (some .int))
theorem mk_C_actsInForce : MOk qC_actsInForce 0 := ⟨List.mem_of_getElem? (i := 1048) (by decide +kernel), List.mem_of_getElem? (i := 95) (by decide +kernel), by decide, ⟨by decide, by decide⟩, by decide +kernel, by decide⟩
theorem mv_C_actsInForce : MV qC_actsInForce := ⟨List.mem_of_getElem? (i := 1047) (by decide +kernel), List.mem_of_getElem? (i := 24) (by decide +kernel)⟩
abbrev qC_areBits : MD := (yX11_areBits, cX11_areBits, 2, (some .boolean))
theorem mk_C_areBits : MOk qC_areBits 2 := ⟨List.mem_of_getElem? (i := 1187) (by decide +kernel), List.mem_of_getElem? (i := 95) (by decide +kernel), by decide, ⟨by decide, by decide⟩, by decide +kernel, by decide⟩
theorem mv_C_areBits : MS qC_areBits := List.mem_of_getElem? (i := 1186) (by decide +kernel)
abbrev qC_areYears : MD := (yX11_areYears, cX11_areYears, 3, (some .boolean))
theorem mk_C_areYears : MOk qC_areYears 3 := ⟨List.mem_of_getElem? (i := 1362) (by decide +kernel), List.mem_of_getElem? (i := 95) (by decide +kernel), by decide, ⟨by decide, by decide⟩, by decide +kernel, by decide⟩
theorem mv_C_areYears : MS qC_areYears := List.mem_of_getElem? (i := 1361) (by decide +kernel)
abbrev qC_ask : MD := (yX11_ask, cX11_ask, 3, (some .int))
theorem mk_C_ask : MOk qC_ask 1 := ⟨List.mem_of_getElem? (i := 1274) (by decide +kernel), List.mem_of_getElem? (i := 95) (by decide +kernel), by decide, ⟨by decide, by decide⟩, by decide +kernel, by decide⟩
theorem mv_C_ask : MV qC_ask := ⟨List.mem_of_getElem? (i := 1272) (by decide +kernel), List.mem_of_getElem? (i := 1273) (by decide +kernel)⟩
abbrev qC_bid : MD := (yX11_bid, cX11_bid, 3, (some .int))
theorem mk_C_bid : MOk qC_bid 2 := ⟨List.mem_of_getElem? (i := 1121) (by decide +kernel), List.mem_of_getElem? (i := 95) (by decide +kernel), by decide, ⟨by decide, by decide⟩, by decide +kernel, by decide⟩
theorem mv_C_bid : MV qC_bid := ⟨List.mem_of_getElem? (i := 1119) (by decide +kernel), List.mem_of_getElem? (i := 1120) (by decide +kernel)⟩
abbrev qC_can : MD := (yX11_can, cX11_can, 4, (some .boolean))
theorem mk_C_can : MOk qC_can 3 := ⟨List.mem_of_getElem? (i := 1176) (by decide +kernel), List.mem_of_getElem? (i := 95) (by decide +kernel), by decide, ⟨by decide, by decide⟩, by decide +kernel, by decide⟩
theorem mv_C_can : MV qC_can := ⟨List.mem_of_getElem? (i := 1174) (by decide +kernel), List.mem_of_getElem? (i := 1175) (by decide +kernel)⟩
abbrev qC_chanceAfter : MD := (yX11_chanceAfter, cX11_chanceAfter, 8, (some .long))
theorem mk_C_chanceAfter : MOk qC_chanceAfter 4 := ⟨List.mem_of_getElem? (i := 1295) (by decide +kernel), List.mem_of_getElem? (i := 95) (by decide +kernel), by decide, ⟨by decide, by decide⟩, by decide +kernel, by decide⟩
theorem mv_C_chanceAfter : MV qC_chanceAfter := ⟨List.mem_of_getElem? (i := 1294) (by decide +kernel), List.mem_of_getElem? (i := 32) (by decide +kernel)⟩
abbrev qC_comes : MD := (yX11_comes, cX11_comes, 5, (some .int))
theorem mk_C_comes : MOk qC_comes 1 := ⟨List.mem_of_getElem? (i := 1214) (by decide +kernel), List.mem_of_getElem? (i := 95) (by decide +kernel), by decide, ⟨by decide, by decide⟩, by decide +kernel, by decide⟩
theorem mv_C_comes : MV qC_comes := ⟨List.mem_of_getElem? (i := 1212) (by decide +kernel), List.mem_of_getElem? (i := 1213) (by decide +kernel)⟩
abbrev qC_count : MD := (yX11_count, cX11_count, 2, (some .int))
theorem mk_C_count : MOk qC_count 1 := ⟨List.mem_of_getElem? (i := 637) (by decide +kernel), List.mem_of_getElem? (i := 95) (by decide +kernel), by decide, ⟨by decide, by decide⟩, by decide +kernel, by decide⟩
theorem mv_C_count : MV qC_count := ⟨List.mem_of_getElem? (i := 635) (by decide +kernel), List.mem_of_getElem? (i := 636) (by decide +kernel)⟩
abbrev qC_crews : MD := (yX11_crews, cX11_crews, 9, (some .int))
theorem mk_C_crews : MOk qC_crews 3 := ⟨List.mem_of_getElem? (i := 1304) (by decide +kernel), List.mem_of_getElem? (i := 95) (by decide +kernel), by decide, ⟨by decide, by decide⟩, by decide +kernel, by decide⟩
theorem mv_C_crews : MV qC_crews := ⟨List.mem_of_getElem? (i := 1302) (by decide +kernel), List.mem_of_getElem? (i := 1303) (by decide +kernel)⟩
abbrev qC_deeds : MD := (yX11_deeds, cX11_deeds, 3, (some .int))
theorem mk_C_deeds : MOk qC_deeds 1 := ⟨List.mem_of_getElem? (i := 1007) (by decide +kernel), List.mem_of_getElem? (i := 95) (by decide +kernel), by decide, ⟨by decide, by decide⟩, by decide +kernel, by decide⟩
theorem mv_C_deeds : MV qC_deeds := ⟨List.mem_of_getElem? (i := 1005) (by decide +kernel), List.mem_of_getElem? (i := 1006) (by decide +kernel)⟩
abbrev qC_ends : MD := (yX11_ends, cX11_ends, 5, (some .int))
theorem mk_C_ends : MOk qC_ends 2 := ⟨List.mem_of_getElem? (i := 1345) (by decide +kernel), List.mem_of_getElem? (i := 95) (by decide +kernel), by decide, ⟨by decide, by decide⟩, by decide +kernel, by decide⟩
theorem mv_C_ends : MV qC_ends := ⟨List.mem_of_getElem? (i := 1343) (by decide +kernel), List.mem_of_getElem? (i := 1344) (by decide +kernel)⟩
abbrev qC_fault : MD := (yX11_fault, cX11_fault, 1, (some .int))
theorem mk_C_fault : MOk qC_fault 0 := ⟨List.mem_of_getElem? (i := 533) (by decide +kernel), List.mem_of_getElem? (i := 95) (by decide +kernel), by decide, ⟨by decide, by decide⟩, by decide +kernel, by decide⟩
theorem mv_C_fault : MV qC_fault := ⟨List.mem_of_getElem? (i := 531) (by decide +kernel), List.mem_of_getElem? (i := 532) (by decide +kernel)⟩
abbrev qC_feed : MD := (yX11_feed, cX11_feed, 6, (some .int))
theorem mk_C_feed : MOk qC_feed 5 := ⟨List.mem_of_getElem? (i := 521) (by decide +kernel), List.mem_of_getElem? (i := 95) (by decide +kernel), by decide, ⟨by decide, by decide⟩, by decide +kernel, by decide⟩
theorem mv_C_feed : MV qC_feed := ⟨List.mem_of_getElem? (i := 519) (by decide +kernel), List.mem_of_getElem? (i := 520) (by decide +kernel)⟩
abbrev qC_fits : MD := (yX11_fits, cX11_fits, 2, (some .int))
theorem mk_C_fits : MOk qC_fits 1 := ⟨List.mem_of_getElem? (i := 1221) (by decide +kernel), List.mem_of_getElem? (i := 95) (by decide +kernel), by decide, ⟨by decide, by decide⟩, by decide +kernel, by decide⟩
theorem mv_C_fits : MV qC_fits := ⟨List.mem_of_getElem? (i := 1219) (by decide +kernel), List.mem_of_getElem? (i := 1220) (by decide +kernel)⟩
abbrev qC_fitted : MD := (yX11_fitted, cX11_fitted, 3, (some .int))
theorem mk_C_fitted : MOk qC_fitted 2 := ⟨List.mem_of_getElem? (i := 1248) (by decide +kernel), List.mem_of_getElem? (i := 95) (by decide +kernel), by decide, ⟨by decide, by decide⟩, by decide +kernel, by decide⟩
theorem mv_C_fitted : MV qC_fitted := ⟨List.mem_of_getElem? (i := 1246) (by decide +kernel), List.mem_of_getElem? (i := 1247) (by decide +kernel)⟩
abbrev qC_force : MD := (yX11_force, cX11_force, 4, (some .int))
theorem mk_C_force : MOk qC_force 2 := ⟨List.mem_of_getElem? (i := 1169) (by decide +kernel), List.mem_of_getElem? (i := 95) (by decide +kernel), by decide, ⟨by decide, by decide⟩, by decide +kernel, by decide⟩
theorem mv_C_force : MV qC_force := ⟨List.mem_of_getElem? (i := 1167) (by decide +kernel), List.mem_of_getElem? (i := 1168) (by decide +kernel)⟩
abbrev qC_forceOf : MD := (yX11_forceOf, cX11_forceOf, 2, (some .int))
theorem mk_C_forceOf : MOk qC_forceOf 1 := ⟨List.mem_of_getElem? (i := 1056) (by decide +kernel), List.mem_of_getElem? (i := 95) (by decide +kernel), by decide, ⟨by decide, by decide⟩, by decide +kernel, by decide⟩
theorem mv_C_forceOf : MV qC_forceOf := ⟨List.mem_of_getElem? (i := 1055) (by decide +kernel), List.mem_of_getElem? (i := 26) (by decide +kernel)⟩
abbrev qC_hasBit : MD := (yX11_hasBit, cX11_hasBit, 2, (some .boolean))
theorem mk_C_hasBit : MOk qC_hasBit 2 := ⟨List.mem_of_getElem? (i := 579) (by decide +kernel), List.mem_of_getElem? (i := 95) (by decide +kernel), by decide, ⟨by decide, by decide⟩, by decide +kernel, by decide⟩
theorem mv_C_hasBit : MS qC_hasBit := List.mem_of_getElem? (i := 578) (by decide +kernel)
abbrev qC_idle : MD := (yX11_idle, cX11_idle, 3, (some .int))
theorem mk_C_idle : MOk qC_idle 0 := ⟨List.mem_of_getElem? (i := 568) (by decide +kernel), List.mem_of_getElem? (i := 95) (by decide +kernel), by decide, ⟨by decide, by decide⟩, by decide +kernel, by decide⟩
theorem mv_C_idle : MV qC_idle := ⟨List.mem_of_getElem? (i := 566) (by decide +kernel), List.mem_of_getElem? (i := 567) (by decide +kernel)⟩
abbrev qC_image : MD := (yX11_image, cX11_image, 1, (some .int))
theorem mk_C_image : MOk qC_image 0 := ⟨List.mem_of_getElem? (i := 591) (by decide +kernel), List.mem_of_getElem? (i := 95) (by decide +kernel), by decide, ⟨by decide, by decide⟩, by decide +kernel, by decide⟩
theorem mv_C_image : MV qC_image := ⟨List.mem_of_getElem? (i := 589) (by decide +kernel), List.mem_of_getElem? (i := 590) (by decide +kernel)⟩
abbrev qC_init : MD := (yX11_init, cX11_init, 1, none)
theorem mk_C_init : MOk qC_init 0 := ⟨List.mem_of_getElem? (i := 124) (by decide +kernel), List.mem_of_getElem? (i := 95) (by decide +kernel), by decide, ⟨by decide, by decide⟩, by decide +kernel, by decide⟩
theorem mv_C_init : MI qC_init := ⟨List.mem_of_getElem? (i := 123) (by decide +kernel), rfl, rfl⟩
abbrev qC_isBelow : MD := (yX11_isBelow, cX11_isBelow, 2, (some .boolean))
theorem mk_C_isBelow : MOk qC_isBelow 2 := ⟨List.mem_of_getElem? (i := 1085) (by decide +kernel), List.mem_of_getElem? (i := 95) (by decide +kernel), by decide, ⟨by decide, by decide⟩, by decide +kernel, by decide⟩
theorem mv_C_isBelow : MS qC_isBelow := List.mem_of_getElem? (i := 1084) (by decide +kernel)
abbrev qC_isRest : MD := (yX11_isRest, cX11_isRest, 8, (some .boolean))
theorem mk_C_isRest : MOk qC_isRest 4 := ⟨List.mem_of_getElem? (i := 1308) (by decide +kernel), List.mem_of_getElem? (i := 95) (by decide +kernel), by decide, ⟨by decide, by decide⟩, by decide +kernel, by decide⟩
theorem mv_C_isRest : MV qC_isRest := ⟨List.mem_of_getElem? (i := 1307) (by decide +kernel), List.mem_of_getElem? (i := 33) (by decide +kernel)⟩
abbrev qC_isWithin : MD := (yX11_isWithin, cX11_isWithin, 3, (some .boolean))
theorem mk_C_isWithin : MOk qC_isWithin 3 := ⟨List.mem_of_getElem? (i := 648) (by decide +kernel), List.mem_of_getElem? (i := 95) (by decide +kernel), by decide, ⟨by decide, by decide⟩, by decide +kernel, by decide⟩
theorem mv_C_isWithin : MS qC_isWithin := List.mem_of_getElem? (i := 647) (by decide +kernel)
abbrev qC_kin : MD := (yX11_kin, cX11_kin, 2, (some .int))
theorem mk_C_kin : MOk qC_kin 1 := ⟨List.mem_of_getElem? (i := 1155) (by decide +kernel), List.mem_of_getElem? (i := 95) (by decide +kernel), by decide, ⟨by decide, by decide⟩, by decide +kernel, by decide⟩
theorem mv_C_kin : MV qC_kin := ⟨List.mem_of_getElem? (i := 1153) (by decide +kernel), List.mem_of_getElem? (i := 1154) (by decide +kernel)⟩
abbrev qC_law : MD := (yX11_law, cX11_law, 3, (some .int))
theorem mk_C_law : MOk qC_law 1 := ⟨List.mem_of_getElem? (i := 876) (by decide +kernel), List.mem_of_getElem? (i := 95) (by decide +kernel), by decide, ⟨by decide, by decide⟩, by decide +kernel, by decide⟩
theorem mv_C_law : MV qC_law := ⟨List.mem_of_getElem? (i := 874) (by decide +kernel), List.mem_of_getElem? (i := 875) (by decide +kernel)⟩
abbrev qC_line : MD := (yX11_line, cX11_line, 3, (some .int))
theorem mk_C_line : MOk qC_line 2 := ⟨List.mem_of_getElem? (i := 1148) (by decide +kernel), List.mem_of_getElem? (i := 95) (by decide +kernel), by decide, ⟨by decide, by decide⟩, by decide +kernel, by decide⟩
theorem mv_C_line : MV qC_line := ⟨List.mem_of_getElem? (i := 1146) (by decide +kernel), List.mem_of_getElem? (i := 1147) (by decide +kernel)⟩
abbrev qC_lineInForce : MD := (yX11_lineInForce, cX11_lineInForce, 6, (some .int))
theorem mk_C_lineInForce : MOk qC_lineInForce 1 := ⟨List.mem_of_getElem? (i := 1052) (by decide +kernel), List.mem_of_getElem? (i := 95) (by decide +kernel), by decide, ⟨by decide, by decide⟩, by decide +kernel, by decide⟩
theorem mv_C_lineInForce : MV qC_lineInForce := ⟨List.mem_of_getElem? (i := 1051) (by decide +kernel), List.mem_of_getElem? (i := 25) (by decide +kernel)⟩
abbrev qC_lost : MD := (yX11_lost, cX11_lost, 3, (some .int))
theorem mk_C_lost : MOk qC_lost 1 := ⟨List.mem_of_getElem? (i := 1199) (by decide +kernel), List.mem_of_getElem? (i := 95) (by decide +kernel), by decide, ⟨by decide, by decide⟩, by decide +kernel, by decide⟩
theorem mv_C_lost : MV qC_lost := ⟨List.mem_of_getElem? (i := 1197) (by decide +kernel), List.mem_of_getElem? (i := 1198) (by decide +kernel)⟩
abbrev qC_loud : MD := (yX11_loud, cX11_loud, 4, (some .int))
theorem mk_C_loud : MOk qC_loud 1 := ⟨List.mem_of_getElem? (i := 1352) (by decide +kernel), List.mem_of_getElem? (i := 95) (by decide +kernel), by decide, ⟨by decide, by decide⟩, by decide +kernel, by decide⟩
theorem mv_C_loud : MV qC_loud := ⟨List.mem_of_getElem? (i := 1350) (by decide +kernel), List.mem_of_getElem? (i := 1351) (by decide +kernel)⟩
abbrev qC_mightiest : MD := (yX11_mightiest, cX11_mightiest, 6, (some .int))
theorem mk_C_mightiest : MOk qC_mightiest 1 := ⟨List.mem_of_getElem? (i := 1338) (by decide +kernel), List.mem_of_getElem? (i := 95) (by decide +kernel), by decide, ⟨by decide, by decide⟩, by decide +kernel, by decide⟩
theorem mv_C_mightiest : MV qC_mightiest := ⟨List.mem_of_getElem? (i := 1336) (by decide +kernel), List.mem_of_getElem? (i := 1337) (by decide +kernel)⟩
abbrev qC_missing : MD := (yX11_missing, cX11_missing, 3, (some .int))
theorem mk_C_missing : MOk qC_missing 0 := ⟨List.mem_of_getElem? (i := 560) (by decide +kernel), List.mem_of_getElem? (i := 95) (by decide +kernel), by decide, ⟨by decide, by decide⟩, by decide +kernel, by decide⟩
theorem mv_C_missing : MV qC_missing := ⟨List.mem_of_getElem? (i := 558) (by decide +kernel), List.mem_of_getElem? (i := 559) (by decide +kernel)⟩
abbrev qC_mustBe : MD := (yX11_mustBe, cX11_mustBe, 2, none)
theorem mk_C_mustBe : MOk qC_mustBe 1 := ⟨List.mem_of_getElem? (i := 652) (by decide +kernel), List.mem_of_getElem? (i := 95) (by decide +kernel), by decide, ⟨by decide, by decide⟩, by decide +kernel, by decide⟩
theorem mv_C_mustBe : MV qC_mustBe := ⟨List.mem_of_getElem? (i := 651) (by decide +kernel), List.mem_of_getElem? (i := 3) (by decide +kernel)⟩
abbrev qC_mustExist : MD := (yX11_mustExist, cX11_mustExist, 2, none)
theorem mk_C_mustExist : MOk qC_mustExist 1 := ⟨List.mem_of_getElem? (i := 1089) (by decide +kernel), List.mem_of_getElem? (i := 95) (by decide +kernel), by decide, ⟨by decide, by decide⟩, by decide +kernel, by decide⟩
theorem mv_C_mustExist : MV qC_mustExist := ⟨List.mem_of_getElem? (i := 1088) (by decide +kernel), List.mem_of_getElem? (i := 27) (by decide +kernel)⟩
abbrev qC_path : MD := (yX11_path, cX11_path, 5, (some .int))
theorem mk_C_path : MOk qC_path 2 := ⟨List.mem_of_getElem? (i := 1207) (by decide +kernel), List.mem_of_getElem? (i := 95) (by decide +kernel), by decide, ⟨by decide, by decide⟩, by decide +kernel, by decide⟩
theorem mv_C_path : MV qC_path := ⟨List.mem_of_getElem? (i := 1205) (by decide +kernel), List.mem_of_getElem? (i := 1206) (by decide +kernel)⟩
abbrev qC_port : MD := (yX11_port, cX11_port, 3, (some .int))
theorem mk_C_port : MOk qC_port 1 := ⟨List.mem_of_getElem? (i := 645) (by decide +kernel), List.mem_of_getElem? (i := 95) (by decide +kernel), by decide, ⟨by decide, by decide⟩, by decide +kernel, by decide⟩
theorem mv_C_port : MV qC_port := ⟨List.mem_of_getElem? (i := 643) (by decide +kernel), List.mem_of_getElem? (i := 644) (by decide +kernel)⟩
abbrev qC_restore : MD := (yX11_restore, cX11_restore, 1, (some .int))
theorem mk_C_restore : MOk qC_restore 0 := ⟨List.mem_of_getElem? (i := 625) (by decide +kernel), List.mem_of_getElem? (i := 95) (by decide +kernel), by decide, ⟨by decide, by decide⟩, by decide +kernel, by decide⟩
theorem mv_C_restore : MV qC_restore := ⟨List.mem_of_getElem? (i := 623) (by decide +kernel), List.mem_of_getElem? (i := 624) (by decide +kernel)⟩
abbrev qC_row : MD := (yX11_row, cX11_row, 3, (some .int))
theorem mk_C_row : MOk qC_row 2 := ⟨List.mem_of_getElem? (i := 1082) (by decide +kernel), List.mem_of_getElem? (i := 95) (by decide +kernel), by decide, ⟨by decide, by decide⟩, by decide +kernel, by decide⟩
theorem mv_C_row : MV qC_row := ⟨List.mem_of_getElem? (i := 1080) (by decide +kernel), List.mem_of_getElem? (i := 1081) (by decide +kernel)⟩
abbrev qC_send : MD := (yX11_send, cX11_send, 5, (some .int))
theorem mk_C_send : MOk qC_send 1 := ⟨List.mem_of_getElem? (i := 1184) (by decide +kernel), List.mem_of_getElem? (i := 95) (by decide +kernel), by decide, ⟨by decide, by decide⟩, by decide +kernel, by decide⟩
theorem mv_C_send : MV qC_send := ⟨List.mem_of_getElem? (i := 1182) (by decide +kernel), List.mem_of_getElem? (i := 1183) (by decide +kernel)⟩
abbrev qC_share : MD := (yX11_share, cX11_share, 5, (some .int))
theorem mk_C_share : MOk qC_share 3 := ⟨List.mem_of_getElem? (i := 1319) (by decide +kernel), List.mem_of_getElem? (i := 95) (by decide +kernel), by decide, ⟨by decide, by decide⟩, by decide +kernel, by decide⟩
theorem mv_C_share : MV qC_share := ⟨List.mem_of_getElem? (i := 1317) (by decide +kernel), List.mem_of_getElem? (i := 1318) (by decide +kernel)⟩
abbrev qC_span : MD := (yX11_span, cX11_span, 13, (some .int))
theorem mk_C_span : MOk qC_span 7 := ⟨List.mem_of_getElem? (i := 1391) (by decide +kernel), List.mem_of_getElem? (i := 95) (by decide +kernel), by decide, ⟨by decide, by decide⟩, by decide +kernel, by decide⟩
theorem mv_C_span : MV qC_span := ⟨List.mem_of_getElem? (i := 1389) (by decide +kernel), List.mem_of_getElem? (i := 1390) (by decide +kernel)⟩
abbrev qC_status : MD := (yX11_status, cX11_status, 2, (some .int))
theorem mk_C_status : MOk qC_status 1 := ⟨List.mem_of_getElem? (i := 633) (by decide +kernel), List.mem_of_getElem? (i := 95) (by decide +kernel), by decide, ⟨by decide, by decide⟩, by decide +kernel, by decide⟩
theorem mv_C_status : MV qC_status := ⟨List.mem_of_getElem? (i := 631) (by decide +kernel), List.mem_of_getElem? (i := 632) (by decide +kernel)⟩
abbrev qC_still : MD := (yX11_still, cX11_still, 11, (some .long))
theorem mk_C_still : MOk qC_still 5 := ⟨List.mem_of_getElem? (i := 1291) (by decide +kernel), List.mem_of_getElem? (i := 95) (by decide +kernel), by decide, ⟨by decide, by decide⟩, by decide +kernel, by decide⟩
theorem mv_C_still : MV qC_still := ⟨List.mem_of_getElem? (i := 1289) (by decide +kernel), List.mem_of_getElem? (i := 1290) (by decide +kernel)⟩
abbrev qC_stood : MD := (yX11_stood, cX11_stood, 2, (some .int))
theorem mk_C_stood : MOk qC_stood 1 := ⟨List.mem_of_getElem? (i := 1255) (by decide +kernel), List.mem_of_getElem? (i := 95) (by decide +kernel), by decide, ⟨by decide, by decide⟩, by decide +kernel, by decide⟩
theorem mv_C_stood : MV qC_stood := ⟨List.mem_of_getElem? (i := 1253) (by decide +kernel), List.mem_of_getElem? (i := 1254) (by decide +kernel)⟩
abbrev qC_told : MD := (yX11_told, cX11_told, 2, (some .int))
theorem mk_C_told : MOk qC_told 1 := ⟨List.mem_of_getElem? (i := 1040) (by decide +kernel), List.mem_of_getElem? (i := 95) (by decide +kernel), by decide, ⟨by decide, by decide⟩, by decide +kernel, by decide⟩
theorem mv_C_told : MV qC_told := ⟨List.mem_of_getElem? (i := 1038) (by decide +kernel), List.mem_of_getElem? (i := 1039) (by decide +kernel)⟩
abbrev qC_torn : MD := (yX11_torn, cX11_torn, 4, (some .int))
theorem mk_C_torn : MOk qC_torn 0 := ⟨List.mem_of_getElem? (i := 552) (by decide +kernel), List.mem_of_getElem? (i := 95) (by decide +kernel), by decide, ⟨by decide, by decide⟩, by decide +kernel, by decide⟩
theorem mv_C_torn : MV qC_torn := ⟨List.mem_of_getElem? (i := 550) (by decide +kernel), List.mem_of_getElem? (i := 551) (by decide +kernel)⟩
abbrev qC_undo : MD := (yX11_undo, cX11_undo, 1, (some .int))
theorem mk_C_undo : MOk qC_undo 0 := ⟨List.mem_of_getElem? (i := 537) (by decide +kernel), List.mem_of_getElem? (i := 95) (by decide +kernel), by decide, ⟨by decide, by decide⟩, by decide +kernel, by decide⟩
theorem mv_C_undo : MV qC_undo := ⟨List.mem_of_getElem? (i := 535) (by decide +kernel), List.mem_of_getElem? (i := 536) (by decide +kernel)⟩
abbrev qC_work : MD := (yX11_work, cX11_work, 2, (some .int))
theorem mk_C_work : MOk qC_work 1 := ⟨List.mem_of_getElem? (i := 931) (by decide +kernel), List.mem_of_getElem? (i := 95) (by decide +kernel), by decide, ⟨by decide, by decide⟩, by decide +kernel, by decide⟩
theorem mv_C_work : MV qC_work := ⟨List.mem_of_getElem? (i := 929) (by decide +kernel), List.mem_of_getElem? (i := 930) (by decide +kernel)⟩
abbrev qC_would : MD := (yX11_would, cX11_would, 9, (some .int))
theorem mk_C_would : MOk qC_would 8 := ⟨List.mem_of_getElem? (i := 1162) (by decide +kernel), List.mem_of_getElem? (i := 95) (by decide +kernel), by decide, ⟨by decide, by decide⟩, by decide +kernel, by decide⟩
theorem mv_C_would : MV qC_would := ⟨List.mem_of_getElem? (i := 1160) (by decide +kernel), List.mem_of_getElem? (i := 1161) (by decide +kernel)⟩
abbrev qC_writer : MD := (yX11_writer, cX11_writer, 3, (some .int))
theorem mk_C_writer : MOk qC_writer 2 := ⟨List.mem_of_getElem? (i := 1137) (by decide +kernel), List.mem_of_getElem? (i := 95) (by decide +kernel), by decide, ⟨by decide, by decide⟩, by decide +kernel, by decide⟩
theorem mv_C_writer : MV qC_writer := ⟨List.mem_of_getElem? (i := 1135) (by decide +kernel), List.mem_of_getElem? (i := 1136) (by decide +kernel)⟩
abbrev qC_years : MD := (yX11_years, cX11_years, 6, (some .int))
theorem mk_C_years : MOk qC_years 5 := ⟨List.mem_of_getElem? (i := 1359) (by decide +kernel), List.mem_of_getElem? (i := 95) (by decide +kernel), by decide, ⟨by decide, by decide⟩, by decide +kernel, by decide⟩
theorem mv_C_years : MV qC_years := ⟨List.mem_of_getElem? (i := 1357) (by decide +kernel), List.mem_of_getElem? (i := 1358) (by decide +kernel)⟩
abbrev qM_above : MD := (yX12_above, cX12_above, 2, (some .int))
theorem mk_M_above : MOk qM_above 1 := ⟨List.mem_of_getElem? (i := 1941) (by decide +kernel), List.mem_of_getElem? (i := 106) (by decide +kernel), by decide, ⟨by decide, by decide⟩, by decide +kernel, by decide⟩
theorem mv_M_above : MV qM_above := ⟨List.mem_of_getElem? (i := 1939) (by decide +kernel), List.mem_of_getElem? (i := 1940) (by decide +kernel)⟩
abbrev qM_actsOf : MD := (yX12_actsOf, cX12_actsOf, 4, (some .int))
theorem mk_M_actsOf : MOk qM_actsOf 1 := ⟨List.mem_of_getElem? (i := 1905) (by decide +kernel), List.mem_of_getElem? (i := 106) (by decide +kernel), by decide, ⟨by decide, by decide⟩, by decide +kernel, by decide⟩
theorem mv_M_actsOf : MV qM_actsOf := ⟨List.mem_of_getElem? (i := 1904) (by decide +kernel), List.mem_of_getElem? (i := 84) (by decide +kernel)⟩
abbrev qM_areBids : MD := (yX12_areBids, cX12_areBids, 2, (some .boolean))
theorem mk_M_areBids : MOk qM_areBids 1 := ⟨List.mem_of_getElem? (i := 1858) (by decide +kernel), List.mem_of_getElem? (i := 106) (by decide +kernel), by decide, ⟨by decide, by decide⟩, by decide +kernel, by decide⟩
theorem mv_M_areBids : MV qM_areBids := ⟨List.mem_of_getElem? (i := 1857) (by decide +kernel), List.mem_of_getElem? (i := 79) (by decide +kernel)⟩
abbrev qM_areYears : MD := (yX12_areYears, cX12_areYears, 3, (some .boolean))
theorem mk_M_areYears : MOk qM_areYears 3 := ⟨List.mem_of_getElem? (i := 1968) (by decide +kernel), List.mem_of_getElem? (i := 106) (by decide +kernel), by decide, ⟨by decide, by decide⟩, by decide +kernel, by decide⟩
theorem mv_M_areYears : MS qM_areYears := List.mem_of_getElem? (i := 1967) (by decide +kernel)
abbrev qM_ask : MD := (yX12_ask, cX12_ask, 8, (some .int))
theorem mk_M_ask : MOk qM_ask 1 := ⟨List.mem_of_getElem? (i := 1909) (by decide +kernel), List.mem_of_getElem? (i := 106) (by decide +kernel), by decide, ⟨by decide, by decide⟩, by decide +kernel, by decide⟩
theorem mv_M_ask : MV qM_ask := ⟨List.mem_of_getElem? (i := 1907) (by decide +kernel), List.mem_of_getElem? (i := 1908) (by decide +kernel)⟩
abbrev qM_bad : MD := (yX12_bad, cX12_bad, 4, (some .boolean))
theorem mk_M_bad : MOk qM_bad 3 := ⟨List.mem_of_getElem? (i := 1597) (by decide +kernel), List.mem_of_getElem? (i := 106) (by decide +kernel), by decide, ⟨by decide, by decide⟩, by decide +kernel, by decide⟩
theorem mv_M_bad : MV qM_bad := ⟨List.mem_of_getElem? (i := 1596) (by decide +kernel), List.mem_of_getElem? (i := 39) (by decide +kernel)⟩
abbrev qM_beginsAnew : MD := (yX12_beginsAnew, cX12_beginsAnew, 2, none)
theorem mk_M_beginsAnew : MOk qM_beginsAnew 0 := ⟨List.mem_of_getElem? (i := 1408) (by decide +kernel), List.mem_of_getElem? (i := 106) (by decide +kernel), by decide, ⟨by decide, by decide⟩, by decide +kernel, by decide⟩
theorem mv_M_beginsAnew : MV qM_beginsAnew := ⟨List.mem_of_getElem? (i := 1407) (by decide +kernel), List.mem_of_getElem? (i := 37) (by decide +kernel)⟩
abbrev qM_bid : MD := (yX12_bid, cX12_bid, 5, (some .int))
theorem mk_M_bid : MOk qM_bid 2 := ⟨List.mem_of_getElem? (i := 1811) (by decide +kernel), List.mem_of_getElem? (i := 106) (by decide +kernel), by decide, ⟨by decide, by decide⟩, by decide +kernel, by decide⟩
theorem mv_M_bid : MV qM_bid := ⟨List.mem_of_getElem? (i := 1809) (by decide +kernel), List.mem_of_getElem? (i := 1810) (by decide +kernel)⟩
abbrev qM_blanks : MD := (yX12_blanks, cX12_blanks, 1, none)
theorem mk_M_blanks : MOk qM_blanks 0 := ⟨List.mem_of_getElem? (i := 1605) (by decide +kernel), List.mem_of_getElem? (i := 106) (by decide +kernel), by decide, ⟨by decide, by decide⟩, by decide +kernel, by decide⟩
theorem mv_M_blanks : MV qM_blanks := ⟨List.mem_of_getElem? (i := 1604) (by decide +kernel), List.mem_of_getElem? (i := 41) (by decide +kernel)⟩
abbrev qM_by : MD := (yX12_by, cX12_by, 3, (some .int))
theorem mk_M_by : MOk qM_by 3 := ⟨List.mem_of_getElem? (i := 1789) (by decide +kernel), List.mem_of_getElem? (i := 106) (by decide +kernel), by decide, ⟨by decide, by decide⟩, by decide +kernel, by decide⟩
theorem mv_M_by : MS qM_by := List.mem_of_getElem? (i := 1788) (by decide +kernel)
abbrev qM_byLaw : MD := (yX12_byLaw, cX12_byLaw, 3, (some .int))
theorem mk_M_byLaw : MOk qM_byLaw 0 := ⟨List.mem_of_getElem? (i := 1786) (by decide +kernel), List.mem_of_getElem? (i := 106) (by decide +kernel), by decide, ⟨by decide, by decide⟩, by decide +kernel, by decide⟩
theorem mv_M_byLaw : MV qM_byLaw := ⟨List.mem_of_getElem? (i := 1785) (by decide +kernel), List.mem_of_getElem? (i := 74) (by decide +kernel)⟩
abbrev qM_byteAt : MD := (yX12_byteAt, cX12_byteAt, 2, (some .int))
theorem mk_M_byteAt : MOk qM_byteAt 1 := ⟨List.mem_of_getElem? (i := 1609) (by decide +kernel), List.mem_of_getElem? (i := 106) (by decide +kernel), by decide, ⟨by decide, by decide⟩, by decide +kernel, by decide⟩
theorem mv_M_byteAt : MV qM_byteAt := ⟨List.mem_of_getElem? (i := 1608) (by decide +kernel), List.mem_of_getElem? (i := 42) (by decide +kernel)⟩
abbrev qM_can : MD := (yX12_can, cX12_can, 4, (some .boolean))
theorem mk_M_can : MOk qM_can 3 := ⟨List.mem_of_getElem? (i := 1850) (by decide +kernel), List.mem_of_getElem? (i := 106) (by decide +kernel), by decide, ⟨by decide, by decide⟩, by decide +kernel, by decide⟩
theorem mv_M_can : MV qM_can := ⟨List.mem_of_getElem? (i := 1848) (by decide +kernel), List.mem_of_getElem? (i := 1849) (by decide +kernel)⟩
abbrev qM_canWrite : MD := (yX12_canWrite, cX12_canWrite, 5, (some .boolean))
theorem mk_M_canWrite : MOk qM_canWrite 4 := ⟨List.mem_of_getElem? (i := 1740) (by decide +kernel), List.mem_of_getElem? (i := 106) (by decide +kernel), by decide, ⟨by decide, by decide⟩, by decide +kernel, by decide⟩
theorem mv_M_canWrite : MV qM_canWrite := ⟨List.mem_of_getElem? (i := 1739) (by decide +kernel), List.mem_of_getElem? (i := 66) (by decide +kernel)⟩
abbrev qM_clause : MD := (yX12_clause, cX12_clause, 6, none)
theorem mk_M_clause : MOk qM_clause 0 := ⟨List.mem_of_getElem? (i := 1613) (by decide +kernel), List.mem_of_getElem? (i := 106) (by decide +kernel), by decide, ⟨by decide, by decide⟩, by decide +kernel, by decide⟩
theorem mv_M_clause : MV qM_clause := ⟨List.mem_of_getElem? (i := 1612) (by decide +kernel), List.mem_of_getElem? (i := 43) (by decide +kernel)⟩
abbrev qM_comes : MD := (yX12_comes, cX12_comes, 4, (some .int))
theorem mk_M_comes : MOk qM_comes 1 := ⟨List.mem_of_getElem? (i := 1877) (by decide +kernel), List.mem_of_getElem? (i := 106) (by decide +kernel), by decide, ⟨by decide, by decide⟩, by decide +kernel, by decide⟩
theorem mv_M_comes : MV qM_comes := ⟨List.mem_of_getElem? (i := 1875) (by decide +kernel), List.mem_of_getElem? (i := 1876) (by decide +kernel)⟩
abbrev qM_copies : MD := (yX12_copies, cX12_copies, 3, none)
theorem mk_M_copies : MOk qM_copies 2 := ⟨List.mem_of_getElem? (i := 1724) (by decide +kernel), List.mem_of_getElem? (i := 106) (by decide +kernel), by decide, ⟨by decide, by decide⟩, by decide +kernel, by decide⟩
theorem mv_M_copies : MS qM_copies := List.mem_of_getElem? (i := 1723) (by decide +kernel)
abbrev qM_count : MD := (yX12_count, cX12_count, 2, (some .int))
theorem mk_M_count : MOk qM_count 1 := ⟨List.mem_of_getElem? (i := 2009) (by decide +kernel), List.mem_of_getElem? (i := 106) (by decide +kernel), by decide, ⟨by decide, by decide⟩, by decide +kernel, by decide⟩
theorem mv_M_count : MV qM_count := ⟨List.mem_of_getElem? (i := 2007) (by decide +kernel), List.mem_of_getElem? (i := 2008) (by decide +kernel)⟩
abbrev qM_crews : MD := (yX12_crews, cX12_crews, 9, (some .int))
theorem mk_M_crews : MOk qM_crews 3 := ⟨List.mem_of_getElem? (i := 1921) (by decide +kernel), List.mem_of_getElem? (i := 106) (by decide +kernel), by decide, ⟨by decide, by decide⟩, by decide +kernel, by decide⟩
theorem mv_M_crews : MV qM_crews := ⟨List.mem_of_getElem? (i := 1919) (by decide +kernel), List.mem_of_getElem? (i := 1920) (by decide +kernel)⟩
abbrev qM_deeds : MD := (yX12_deeds, cX12_deeds, 7, (some .int))
theorem mk_M_deeds : MOk qM_deeds 1 := ⟨List.mem_of_getElem? (i := 1702) (by decide +kernel), List.mem_of_getElem? (i := 106) (by decide +kernel), by decide, ⟨by decide, by decide⟩, by decide +kernel, by decide⟩
theorem mv_M_deeds : MV qM_deeds := ⟨List.mem_of_getElem? (i := 1700) (by decide +kernel), List.mem_of_getElem? (i := 1701) (by decide +kernel)⟩
abbrev qM_does : MD := (yX12_does, cX12_does, 3, (some .boolean))
theorem mk_M_does : MOk qM_does 2 := ⟨List.mem_of_getElem? (i := 1732) (by decide +kernel), List.mem_of_getElem? (i := 106) (by decide +kernel), by decide, ⟨by decide, by decide⟩, by decide +kernel, by decide⟩
theorem mv_M_does : MV qM_does := ⟨List.mem_of_getElem? (i := 1731) (by decide +kernel), List.mem_of_getElem? (i := 64) (by decide +kernel)⟩
abbrev qM_draw : MD := (yX12_draw, cX12_draw, 2, (some .int))
theorem mk_M_draw : MOk qM_draw 1 := ⟨List.mem_of_getElem? (i := 1976) (by decide +kernel), List.mem_of_getElem? (i := 106) (by decide +kernel), by decide, ⟨by decide, by decide⟩, by decide +kernel, by decide⟩
theorem mv_M_draw : MV qM_draw := ⟨List.mem_of_getElem? (i := 1975) (by decide +kernel), List.mem_of_getElem? (i := 90) (by decide +kernel)⟩
abbrev qM_ends : MD := (yX12_ends, cX12_ends, 6, (some .int))
theorem mk_M_ends : MOk qM_ends 2 := ⟨List.mem_of_getElem? (i := 1953) (by decide +kernel), List.mem_of_getElem? (i := 106) (by decide +kernel), by decide, ⟨by decide, by decide⟩, by decide +kernel, by decide⟩
theorem mv_M_ends : MV qM_ends := ⟨List.mem_of_getElem? (i := 1951) (by decide +kernel), List.mem_of_getElem? (i := 1952) (by decide +kernel)⟩
abbrev qM_fault : MD := (yX12_fault, cX12_fault, 1, (some .int))
theorem mk_M_fault : MOk qM_fault 0 := ⟨List.mem_of_getElem? (i := 1709) (by decide +kernel), List.mem_of_getElem? (i := 106) (by decide +kernel), by decide, ⟨by decide, by decide⟩, by decide +kernel, by decide⟩
theorem mv_M_fault : MV qM_fault := ⟨List.mem_of_getElem? (i := 1707) (by decide +kernel), List.mem_of_getElem? (i := 1708) (by decide +kernel)⟩
abbrev qM_faulty : MD := (yX12_faulty, cX12_faulty, 1, (some .int))
theorem mk_M_faulty : MOk qM_faulty 0 := ⟨List.mem_of_getElem? (i := 1658) (by decide +kernel), List.mem_of_getElem? (i := 106) (by decide +kernel), by decide, ⟨by decide, by decide⟩, by decide +kernel, by decide⟩
theorem mv_M_faulty : MV qM_faulty := ⟨List.mem_of_getElem? (i := 1657) (by decide +kernel), List.mem_of_getElem? (i := 51) (by decide +kernel)⟩
abbrev qM_feed : MD := (yX12_feed, cX12_feed, 8, (some .int))
theorem mk_M_feed : MOk qM_feed 5 := ⟨List.mem_of_getElem? (i := 1586) (by decide +kernel), List.mem_of_getElem? (i := 106) (by decide +kernel), by decide, ⟨by decide, by decide⟩, by decide +kernel, by decide⟩
theorem mv_M_feed : MV qM_feed := ⟨List.mem_of_getElem? (i := 1584) (by decide +kernel), List.mem_of_getElem? (i := 1585) (by decide +kernel)⟩
abbrev qM_fills : MD := (yX12_fills, cX12_fills, 3, none)
theorem mk_M_fills : MOk qM_fills 1 := ⟨List.mem_of_getElem? (i := 1415) (by decide +kernel), List.mem_of_getElem? (i := 106) (by decide +kernel), by decide, ⟨by decide, by decide⟩, by decide +kernel, by decide⟩
theorem mv_M_fills : MV qM_fills := ⟨List.mem_of_getElem? (i := 1414) (by decide +kernel), List.mem_of_getElem? (i := 38) (by decide +kernel)⟩
abbrev qM_fits : MD := (yX12_fits, cX12_fits, 2, (some .int))
theorem mk_M_fits : MOk qM_fits 1 := ⟨List.mem_of_getElem? (i := 1881) (by decide +kernel), List.mem_of_getElem? (i := 106) (by decide +kernel), by decide, ⟨by decide, by decide⟩, by decide +kernel, by decide⟩
theorem mv_M_fits : MV qM_fits := ⟨List.mem_of_getElem? (i := 1879) (by decide +kernel), List.mem_of_getElem? (i := 1880) (by decide +kernel)⟩
abbrev qM_fitted : MD := (yX12_fitted, cX12_fitted, 3, (some .int))
theorem mk_M_fitted : MOk qM_fitted 2 := ⟨List.mem_of_getElem? (i := 1893) (by decide +kernel), List.mem_of_getElem? (i := 106) (by decide +kernel), by decide, ⟨by decide, by decide⟩, by decide +kernel, by decide⟩
theorem mv_M_fitted : MV qM_fitted := ⟨List.mem_of_getElem? (i := 1891) (by decide +kernel), List.mem_of_getElem? (i := 1892) (by decide +kernel)⟩
abbrev qM_force : MD := (yX12_force, cX12_force, 4, (some .int))
theorem mk_M_force : MOk qM_force 2 := ⟨List.mem_of_getElem? (i := 1842) (by decide +kernel), List.mem_of_getElem? (i := 106) (by decide +kernel), by decide, ⟨by decide, by decide⟩, by decide +kernel, by decide⟩
theorem mv_M_force : MV qM_force := ⟨List.mem_of_getElem? (i := 1840) (by decide +kernel), List.mem_of_getElem? (i := 1841) (by decide +kernel)⟩
abbrev qM_forceBy : MD := (yX12_forceBy, cX12_forceBy, 9, (some .int))
theorem mk_M_forceBy : MOk qM_forceBy 8 := ⟨List.mem_of_getElem? (i := 1782) (by decide +kernel), List.mem_of_getElem? (i := 106) (by decide +kernel), by decide, ⟨by decide, by decide⟩, by decide +kernel, by decide⟩
theorem mv_M_forceBy : MV qM_forceBy := ⟨List.mem_of_getElem? (i := 1781) (by decide +kernel), List.mem_of_getElem? (i := 73) (by decide +kernel)⟩
abbrev qM_forceOf : MD := (yX12_forceOf, cX12_forceOf, 6, (some .int))
theorem mk_M_forceOf : MOk qM_forceOf 1 := ⟨List.mem_of_getElem? (i := 1778) (by decide +kernel), List.mem_of_getElem? (i := 106) (by decide +kernel), by decide, ⟨by decide, by decide⟩, by decide +kernel, by decide⟩
theorem mv_M_forceOf : MV qM_forceOf := ⟨List.mem_of_getElem? (i := 1777) (by decide +kernel), List.mem_of_getElem? (i := 72) (by decide +kernel)⟩
abbrev qM_givenBy : MD := (yX12_givenBy, cX12_givenBy, 5, (some .int))
theorem mk_M_givenBy : MOk qM_givenBy 2 := ⟨List.mem_of_getElem? (i := 1937) (by decide +kernel), List.mem_of_getElem? (i := 106) (by decide +kernel), by decide, ⟨by decide, by decide⟩, by decide +kernel, by decide⟩
theorem mv_M_givenBy : MV qM_givenBy := ⟨List.mem_of_getElem? (i := 1936) (by decide +kernel), List.mem_of_getElem? (i := 88) (by decide +kernel)⟩
abbrev qM_goes : MD := (yX12_goes, cX12_goes, 5, none)
theorem mk_M_goes : MOk qM_goes 2 := ⟨List.mem_of_getElem? (i := 1728) (by decide +kernel), List.mem_of_getElem? (i := 106) (by decide +kernel), by decide, ⟨by decide, by decide⟩, by decide +kernel, by decide⟩
theorem mv_M_goes : MV qM_goes := ⟨List.mem_of_getElem? (i := 1727) (by decide +kernel), List.mem_of_getElem? (i := 63) (by decide +kernel)⟩
abbrev qM_has : MD := (yX12_has, cX12_has, 2, (some .boolean))
theorem mk_M_has : MOk qM_has 2 := ⟨List.mem_of_getElem? (i := 1705) (by decide +kernel), List.mem_of_getElem? (i := 106) (by decide +kernel), by decide, ⟨by decide, by decide⟩, by decide +kernel, by decide⟩
theorem mv_M_has : MS qM_has := List.mem_of_getElem? (i := 1704) (by decide +kernel)
abbrev qM_hasBy : MD := (yX12_hasBy, cX12_hasBy, 5, (some .int))
theorem mk_M_hasBy : MOk qM_hasBy 4 := ⟨List.mem_of_getElem? (i := 1929) (by decide +kernel), List.mem_of_getElem? (i := 106) (by decide +kernel), by decide, ⟨by decide, by decide⟩, by decide +kernel, by decide⟩
theorem mv_M_hasBy : MV qM_hasBy := ⟨List.mem_of_getElem? (i := 1928) (by decide +kernel), List.mem_of_getElem? (i := 87) (by decide +kernel)⟩
abbrev qM_idle : MD := (yX12_idle, cX12_idle, 5, (some .int))
theorem mk_M_idle : MOk qM_idle 0 := ⟨List.mem_of_getElem? (i := 1949) (by decide +kernel), List.mem_of_getElem? (i := 106) (by decide +kernel), by decide, ⟨by decide, by decide⟩, by decide +kernel, by decide⟩
theorem mv_M_idle : MV qM_idle := ⟨List.mem_of_getElem? (i := 1947) (by decide +kernel), List.mem_of_getElem? (i := 1948) (by decide +kernel)⟩
abbrev qM_image : MD := (yX12_image, cX12_image, 1, (some .int))
theorem mk_M_image : MOk qM_image 0 := ⟨List.mem_of_getElem? (i := 1989) (by decide +kernel), List.mem_of_getElem? (i := 106) (by decide +kernel), by decide, ⟨by decide, by decide⟩, by decide +kernel, by decide⟩
theorem mv_M_image : MV qM_image := ⟨List.mem_of_getElem? (i := 1987) (by decide +kernel), List.mem_of_getElem? (i := 1988) (by decide +kernel)⟩
abbrev qM_in : MD := (yX12_in, cX12_in, 3, (some .boolean))
theorem mk_M_in : MOk qM_in 3 := ⟨List.mem_of_getElem? (i := 1593) (by decide +kernel), List.mem_of_getElem? (i := 106) (by decide +kernel), by decide, ⟨by decide, by decide⟩, by decide +kernel, by decide⟩
theorem mv_M_in : MS qM_in := List.mem_of_getElem? (i := 1592) (by decide +kernel)
abbrev qM_init : MD := (yX12_init, cX12_init, 1, none)
theorem mk_M_init : MOk qM_init 0 := ⟨List.mem_of_getElem? (i := 1397) (by decide +kernel), List.mem_of_getElem? (i := 106) (by decide +kernel), by decide, ⟨by decide, by decide⟩, by decide +kernel, by decide⟩
theorem mv_M_init : MI qM_init := ⟨List.mem_of_getElem? (i := 1396) (by decide +kernel), rfl, rfl⟩
abbrev qM_isAct : MD := (yX12_isAct, cX12_isAct, 1, (some .boolean))
theorem mk_M_isAct : MOk qM_isAct 1 := ⟨List.mem_of_getElem? (i := 1834) (by decide +kernel), List.mem_of_getElem? (i := 106) (by decide +kernel), by decide, ⟨by decide, by decide⟩, by decide +kernel, by decide⟩
theorem mv_M_isAct : MS qM_isAct := List.mem_of_getElem? (i := 1833) (by decide +kernel)
abbrev qM_isBest : MD := (yX12_isBest, cX12_isBest, 6, (some .boolean))
theorem mk_M_isBest : MOk qM_isBest 4 := ⟨List.mem_of_getElem? (i := 1925) (by decide +kernel), List.mem_of_getElem? (i := 106) (by decide +kernel), by decide, ⟨by decide, by decide⟩, by decide +kernel, by decide⟩
theorem mv_M_isBest : MV qM_isBest := ⟨List.mem_of_getElem? (i := 1924) (by decide +kernel), List.mem_of_getElem? (i := 86) (by decide +kernel)⟩
abbrev qM_isBid : MD := (yX12_isBid, cX12_isBid, 2, (some .boolean))
theorem mk_M_isBid : MOk qM_isBid 1 := ⟨List.mem_of_getElem? (i := 1815) (by decide +kernel), List.mem_of_getElem? (i := 106) (by decide +kernel), by decide, ⟨by decide, by decide⟩, by decide +kernel, by decide⟩
theorem mv_M_isBid : MV qM_isBid := ⟨List.mem_of_getElem? (i := 1814) (by decide +kernel), List.mem_of_getElem? (i := 77) (by decide +kernel)⟩
abbrev qM_isDigit : MD := (yX12_isDigit, cX12_isDigit, 1, (some .boolean))
theorem mk_M_isDigit : MOk qM_isDigit 1 := ⟨List.mem_of_getElem? (i := 1649) (by decide +kernel), List.mem_of_getElem? (i := 106) (by decide +kernel), by decide, ⟨by decide, by decide⟩, by decide +kernel, by decide⟩
theorem mv_M_isDigit : MS qM_isDigit := List.mem_of_getElem? (i := 1648) (by decide +kernel)
abbrev qM_isLetters : MD := (yX12_isLetters, cX12_isLetters, 4, (some .boolean))
theorem mk_M_isLetters : MOk qM_isLetters 0 := ⟨List.mem_of_getElem? (i := 1694) (by decide +kernel), List.mem_of_getElem? (i := 106) (by decide +kernel), by decide, ⟨by decide, by decide⟩, by decide +kernel, by decide⟩
theorem mv_M_isLetters : MV qM_isLetters := ⟨List.mem_of_getElem? (i := 1693) (by decide +kernel), List.mem_of_getElem? (i := 59) (by decide +kernel)⟩
abbrev qM_isRight : MD := (yX12_isRight, cX12_isRight, 4, (some .boolean))
theorem mk_M_isRight : MOk qM_isRight 1 := ⟨List.mem_of_getElem? (i := 1901) (by decide +kernel), List.mem_of_getElem? (i := 106) (by decide +kernel), by decide, ⟨by decide, by decide⟩, by decide +kernel, by decide⟩
theorem mv_M_isRight : MV qM_isRight := ⟨List.mem_of_getElem? (i := 1900) (by decide +kernel), List.mem_of_getElem? (i := 83) (by decide +kernel)⟩
abbrev qM_isRow : MD := (yX12_isRow, cX12_isRow, 2, (some .boolean))
theorem mk_M_isRow : MOk qM_isRow 1 := ⟨List.mem_of_getElem? (i := 1803) (by decide +kernel), List.mem_of_getElem? (i := 106) (by decide +kernel), by decide, ⟨by decide, by decide⟩, by decide +kernel, by decide⟩
theorem mv_M_isRow : MV qM_isRow := ⟨List.mem_of_getElem? (i := 1802) (by decide +kernel), List.mem_of_getElem? (i := 75) (by decide +kernel)⟩
abbrev qM_isSmall : MD := (yX12_isSmall, cX12_isSmall, 1, (some .boolean))
theorem mk_M_isSmall : MOk qM_isSmall 1 := ⟨List.mem_of_getElem? (i := 1628) (by decide +kernel), List.mem_of_getElem? (i := 106) (by decide +kernel), by decide, ⟨by decide, by decide⟩, by decide +kernel, by decide⟩
theorem mv_M_isSmall : MS qM_isSmall := List.mem_of_getElem? (i := 1627) (by decide +kernel)
abbrev qM_isTold : MD := (yX12_isTold, cX12_isTold, 3, (some .boolean))
theorem mk_M_isTold : MOk qM_isTold 1 := ⟨List.mem_of_getElem? (i := 1913) (by decide +kernel), List.mem_of_getElem? (i := 106) (by decide +kernel), by decide, ⟨by decide, by decide⟩, by decide +kernel, by decide⟩
theorem mv_M_isTold : MV qM_isTold := ⟨List.mem_of_getElem? (i := 1912) (by decide +kernel), List.mem_of_getElem? (i := 85) (by decide +kernel)⟩
abbrev qM_isWord : MD := (yX12_isWord, cX12_isWord, 7, (some .boolean))
theorem mk_M_isWord : MOk qM_isWord 6 := ⟨List.mem_of_getElem? (i := 1621) (by decide +kernel), List.mem_of_getElem? (i := 106) (by decide +kernel), by decide, ⟨by decide, by decide⟩, by decide +kernel, by decide⟩
theorem mv_M_isWord : MV qM_isWord := ⟨List.mem_of_getElem? (i := 1620) (by decide +kernel), List.mem_of_getElem? (i := 45) (by decide +kernel)⟩
abbrev qM_isWriter : MD := (yX12_isWriter, cX12_isWriter, 2, (some .boolean))
theorem mk_M_isWriter : MOk qM_isWriter 1 := ⟨List.mem_of_getElem? (i := 1823) (by decide +kernel), List.mem_of_getElem? (i := 106) (by decide +kernel), by decide, ⟨by decide, by decide⟩, by decide +kernel, by decide⟩
theorem mv_M_isWriter : MV qM_isWriter := ⟨List.mem_of_getElem? (i := 1822) (by decide +kernel), List.mem_of_getElem? (i := 78) (by decide +kernel)⟩
abbrev qM_keptIn : MD := (yX12_keptIn, cX12_keptIn, 4, (some .int))
theorem mk_M_keptIn : MOk qM_keptIn 1 := ⟨List.mem_of_getElem? (i := 1981) (by decide +kernel), List.mem_of_getElem? (i := 106) (by decide +kernel), by decide, ⟨by decide, by decide⟩, by decide +kernel, by decide⟩
theorem mv_M_keptIn : MV qM_keptIn := ⟨List.mem_of_getElem? (i := 1980) (by decide +kernel), List.mem_of_getElem? (i := 91) (by decide +kernel)⟩
abbrev qM_kin : MD := (yX12_kin, cX12_kin, 2, (some .int))
theorem mk_M_kin : MOk qM_kin 1 := ⟨List.mem_of_getElem? (i := 1831) (by decide +kernel), List.mem_of_getElem? (i := 106) (by decide +kernel), by decide, ⟨by decide, by decide⟩, by decide +kernel, by decide⟩
theorem mv_M_kin : MV qM_kin := ⟨List.mem_of_getElem? (i := 1829) (by decide +kernel), List.mem_of_getElem? (i := 1830) (by decide +kernel)⟩
abbrev qM_kindHere : MD := (yX12_kindHere, cX12_kindHere, 1, (some .int))
theorem mk_M_kindHere : MOk qM_kindHere 0 := ⟨List.mem_of_getElem? (i := 1617) (by decide +kernel), List.mem_of_getElem? (i := 106) (by decide +kernel), by decide, ⟨by decide, by decide⟩, by decide +kernel, by decide⟩
theorem mv_M_kindHere : MV qM_kindHere := ⟨List.mem_of_getElem? (i := 1616) (by decide +kernel), List.mem_of_getElem? (i := 44) (by decide +kernel)⟩
abbrev qM_knownBy : MD := (yX12_knownBy, cX12_knownBy, 4, (some .int))
theorem mk_M_knownBy : MOk qM_knownBy 1 := ⟨List.mem_of_getElem? (i := 1862) (by decide +kernel), List.mem_of_getElem? (i := 106) (by decide +kernel), by decide, ⟨by decide, by decide⟩, by decide +kernel, by decide⟩
theorem mv_M_knownBy : MV qM_knownBy := ⟨List.mem_of_getElem? (i := 1861) (by decide +kernel), List.mem_of_getElem? (i := 80) (by decide +kernel)⟩
abbrev qM_knownHere : MD := (yX12_knownHere, cX12_knownHere, 1, (some .int))
theorem mk_M_knownHere : MOk qM_knownHere 0 := ⟨List.mem_of_getElem? (i := 1686) (by decide +kernel), List.mem_of_getElem? (i := 106) (by decide +kernel), by decide, ⟨by decide, by decide⟩, by decide +kernel, by decide⟩
theorem mv_M_knownHere : MV qM_knownHere := ⟨List.mem_of_getElem? (i := 1685) (by decide +kernel), List.mem_of_getElem? (i := 57) (by decide +kernel)⟩
