/-! # functional level, 47: the words -/
section
theorem wdn_2 : isWd 2 [108, 101, 97, 115, 116] := ⟨⟨by decide, by decide +kernel⟩, by decide, by decide, by decide⟩
theorem wdn_3 : isWd 3 [109, 111, 115, 116] := ⟨⟨by decide, by decide +kernel⟩, by decide, by decide, by decide⟩
theorem wdn_4 : isWd 4 [114, 111, 119] := ⟨⟨by decide, by decide +kernel⟩, by decide, by decide, by decide⟩
theorem wdn_5 : isWd 5 [108, 101, 116, 116, 101, 114, 115] := ⟨⟨by decide, by decide +kernel⟩, by decide, by decide, by decide⟩
theorem wdn_6 : isWd 6 [112, 108, 97, 99, 101] := ⟨⟨by decide, by decide +kernel⟩, by decide, by decide, by decide⟩
theorem wdn_7 : isWd 7 [119, 114, 105, 116, 101, 114] := ⟨⟨by decide, by decide +kernel⟩, by decide, by decide, by decide⟩
theorem wdn_8 : isWd 8 [97, 99, 116] := ⟨⟨by decide, by decide +kernel⟩, by decide, by decide, by decide⟩
theorem wdn_9 : isWd 9 [100, 97, 121] := ⟨⟨by decide, by decide +kernel⟩, by decide, by decide, by decide⟩
theorem wdn_10 : isWd 10 [114, 101, 97, 99, 104] := ⟨⟨by decide, by decide +kernel⟩, by decide, by decide, by decide⟩
theorem wdn_11 : isWd 11 [111, 108, 100] := ⟨⟨by decide, by decide +kernel⟩, by decide, by decide, by decide⟩
theorem wdn_12 : isWd 12 [119, 114, 105, 116, 101] := ⟨⟨by decide, by decide +kernel⟩, by decide, by decide, by decide⟩
theorem wdn_13 : isWd 13 [115, 108, 105, 112] := ⟨⟨by decide, by decide +kernel⟩, by decide, by decide, by decide⟩
theorem wdn_14 : isWd 14 [114, 97, 105, 110] := ⟨⟨by decide, by decide +kernel⟩, by decide, by decide, by decide⟩
theorem wdn_15 : isWd 15 [110, 105, 103, 104, 116] := ⟨⟨by decide, by decide +kernel⟩, by decide, by decide, by decide⟩
theorem wdn_16 : isWd 16 [97, 103, 97, 105, 110] := ⟨⟨by decide, by decide +kernel⟩, by decide, by decide, by decide⟩
theorem wdn_17 : isWd 17 [114, 111, 119] := ⟨⟨by decide, by decide +kernel⟩, by decide, by decide, by decide⟩
theorem wdn_18 : isWd 18 [98, 105, 100] := ⟨⟨by decide, by decide +kernel⟩, by decide, by decide, by decide⟩
theorem wdn_19 : isWd 19 [107, 105, 110] := ⟨⟨by decide, by decide +kernel⟩, by decide, by decide, by decide⟩
theorem wdn_20 : isWd 20 [119, 114, 105, 116, 101, 114] := ⟨⟨by decide, by decide +kernel⟩, by decide, by decide, by decide⟩
theorem wdn_21 : isWd 21 [107, 110, 111, 119, 115] := ⟨⟨by decide, by decide +kernel⟩, by decide, by decide, by decide⟩
theorem w6_act : isW6 [97, 99, 116] (nI 1) (nI 3) (nI 20) (nI 0) (nI 0) (nI 0) := ⟨fun N => by unfold f_M_six f_M_six_b f_M_six_c; rfl, by decide, by decide, by decide⟩
theorem w6_again : isW6 [97, 103, 97, 105, 110] (nI 1) (nI 7) (nI 1) (nI 9) (nI 14) (nI 0) := ⟨fun N => by unfold f_M_six f_M_six_b f_M_six_c; rfl, by decide, by decide, by decide⟩
theorem w6_bid : isW6 [98, 105, 100] (nI 2) (nI 9) (nI 4) (nI 0) (nI 0) (nI 0) := ⟨fun N => by unfold f_M_six f_M_six_b f_M_six_c; rfl, by decide, by decide, by decide⟩
theorem w6_day : isW6 [100, 97, 121] (nI 4) (nI 1) (nI 25) (nI 0) (nI 0) (nI 0) := ⟨fun N => by unfold f_M_six f_M_six_b f_M_six_c; rfl, by decide, by decide, by decide⟩
theorem w6_kin : isW6 [107, 105, 110] (nI 11) (nI 9) (nI 14) (nI 0) (nI 0) (nI 0) := ⟨fun N => by unfold f_M_six f_M_six_b f_M_six_c; rfl, by decide, by decide, by decide⟩
theorem w6_knows : isW6 [107, 110, 111, 119, 115] (nI 11) (nI 14) (nI 15) (nI 23) (nI 19) (nI 0) := ⟨fun N => by unfold f_M_six f_M_six_b f_M_six_c; rfl, by decide, by decide, by decide⟩
theorem w6_least : isW6 [108, 101, 97, 115, 116] (nI 12) (nI 5) (nI 1) (nI 19) (nI 20) (nI 0) := ⟨fun N => by unfold f_M_six f_M_six_b f_M_six_c; rfl, by decide, by decide, by decide⟩
theorem w6_most : isW6 [109, 111, 115, 116] (nI 13) (nI 15) (nI 19) (nI 20) (nI 0) (nI 0) := ⟨fun N => by unfold f_M_six f_M_six_b f_M_six_c; rfl, by decide, by decide, by decide⟩
theorem w6_night : isW6 [110, 105, 103, 104, 116] (nI 14) (nI 9) (nI 7) (nI 8) (nI 20) (nI 0) := ⟨fun N => by unfold f_M_six f_M_six_b f_M_six_c; rfl, by decide, by decide, by decide⟩
theorem w6_old : isW6 [111, 108, 100] (nI 15) (nI 12) (nI 4) (nI 0) (nI 0) (nI 0) := ⟨fun N => by unfold f_M_six f_M_six_b f_M_six_c; rfl, by decide, by decide, by decide⟩
theorem w6_place : isW6 [112, 108, 97, 99, 101] (nI 16) (nI 12) (nI 1) (nI 3) (nI 5) (nI 0) := ⟨fun N => by unfold f_M_six f_M_six_b f_M_six_c; rfl, by decide, by decide, by decide⟩
theorem w6_rain : isW6 [114, 97, 105, 110] (nI 18) (nI 1) (nI 9) (nI 14) (nI 0) (nI 0) := ⟨fun N => by unfold f_M_six f_M_six_b f_M_six_c; rfl, by decide, by decide, by decide⟩
theorem w6_reach : isW6 [114, 101, 97, 99, 104] (nI 18) (nI 5) (nI 1) (nI 3) (nI 8) (nI 0) := ⟨fun N => by unfold f_M_six f_M_six_b f_M_six_c; rfl, by decide, by decide, by decide⟩
theorem w6_slip : isW6 [115, 108, 105, 112] (nI 19) (nI 12) (nI 9) (nI 16) (nI 0) (nI 0) := ⟨fun N => by unfold f_M_six f_M_six_b f_M_six_c; rfl, by decide, by decide, by decide⟩
theorem w6_write : isW6 [119, 114, 105, 116, 101] (nI 23) (nI 18) (nI 9) (nI 20) (nI 5) (nI 0) := ⟨fun N => by unfold f_M_six f_M_six_b f_M_six_c; rfl, by decide, by decide, by decide⟩
theorem w6_writer : isW6 [119, 114, 105, 116, 101, 114] (nI 23) (nI 18) (nI 9) (nI 20) (nI 5) (nI 18) := ⟨fun N => by unfold f_M_six f_M_six_b f_M_six_c; rfl, by decide, by decide, by decide⟩
end
