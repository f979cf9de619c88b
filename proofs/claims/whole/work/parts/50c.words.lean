abbrev qM_law : MD := (yX12_law, cX12_law, 2, (some .int))
theorem mk_M_law : MOk qM_law 1 := ⟨List.mem_of_getElem? (i := 1662) (by decide +kernel), List.mem_of_getElem? (i := 106) (by decide +kernel), by decide, ⟨by decide, by decide⟩, by decide +kernel, by decide⟩
theorem mv_M_law : MV qM_law := ⟨List.mem_of_getElem? (i := 1660) (by decide +kernel), List.mem_of_getElem? (i := 1661) (by decide +kernel)⟩
abbrev qM_lays : MD := (yX12_lays, cX12_lays, 5, none)
theorem mk_M_lays : MOk qM_lays 3 := ⟨List.mem_of_getElem? (i := 1411) (by decide +kernel), List.mem_of_getElem? (i := 106) (by decide +kernel), by decide, ⟨by decide, by decide⟩, by decide +kernel, by decide⟩
theorem mv_M_lays : MS qM_lays := List.mem_of_getElem? (i := 1410) (by decide +kernel)
abbrev qM_laysFits : MD := (yX12_laysFits, cX12_laysFits, 3, none)
theorem mk_M_laysFits : MOk qM_laysFits 1 := ⟨List.mem_of_getElem? (i := 1885) (by decide +kernel), List.mem_of_getElem? (i := 106) (by decide +kernel), by decide, ⟨by decide, by decide⟩, by decide +kernel, by decide⟩
theorem mv_M_laysFits : MV qM_laysFits := ⟨List.mem_of_getElem? (i := 1884) (by decide +kernel), List.mem_of_getElem? (i := 81) (by decide +kernel)⟩
abbrev qM_less : MD := (yX12_less, cX12_less, 2, (some .int))
theorem mk_M_less : MOk qM_less 2 := ⟨List.mem_of_getElem? (i := 1792) (by decide +kernel), List.mem_of_getElem? (i := 106) (by decide +kernel), by decide, ⟨by decide, by decide⟩, by decide +kernel, by decide⟩
theorem mv_M_less : MS qM_less := List.mem_of_getElem? (i := 1791) (by decide +kernel)
abbrev qM_lettersFrom : MD := (yX12_lettersFrom, cX12_lettersFrom, 4, (some .int))
theorem mk_M_lettersFrom : MOk qM_lettersFrom 1 := ⟨List.mem_of_getElem? (i := 1770) (by decide +kernel), List.mem_of_getElem? (i := 106) (by decide +kernel), by decide, ⟨by decide, by decide⟩, by decide +kernel, by decide⟩
theorem mv_M_lettersFrom : MV qM_lettersFrom := ⟨List.mem_of_getElem? (i := 1769) (by decide +kernel), List.mem_of_getElem? (i := 70) (by decide +kernel)⟩
abbrev qM_line : MD := (yX12_line, cX12_line, 3, (some .int))
theorem mk_M_line : MOk qM_line 2 := ⟨List.mem_of_getElem? (i := 1827) (by decide +kernel), List.mem_of_getElem? (i := 106) (by decide +kernel), by decide, ⟨by decide, by decide⟩, by decide +kernel, by decide⟩
theorem mv_M_line : MV qM_line := ⟨List.mem_of_getElem? (i := 1825) (by decide +kernel), List.mem_of_getElem? (i := 1826) (by decide +kernel)⟩
abbrev qM_lineOf : MD := (yX12_lineOf, cX12_lineOf, 3, (some .int))
theorem mk_M_lineOf : MOk qM_lineOf 3 := ⟨List.mem_of_getElem? (i := 1747) (by decide +kernel), List.mem_of_getElem? (i := 106) (by decide +kernel), by decide, ⟨by decide, by decide⟩, by decide +kernel, by decide⟩
theorem mv_M_lineOf : MS qM_lineOf := List.mem_of_getElem? (i := 1746) (by decide +kernel)
abbrev qM_linesWith : MD := (yX12_linesWith, cX12_linesWith, 5, (some .int))
theorem mk_M_linesWith : MOk qM_linesWith 2 := ⟨List.mem_of_getElem? (i := 1807) (by decide +kernel), List.mem_of_getElem? (i := 106) (by decide +kernel), by decide, ⟨by decide, by decide⟩, by decide +kernel, by decide⟩
theorem mv_M_linesWith : MV qM_linesWith := ⟨List.mem_of_getElem? (i := 1806) (by decide +kernel), List.mem_of_getElem? (i := 76) (by decide +kernel)⟩
abbrev qM_lost : MD := (yX12_lost, cX12_lost, 4, (some .int))
theorem mk_M_lost : MOk qM_lost 1 := ⟨List.mem_of_getElem? (i := 1869) (by decide +kernel), List.mem_of_getElem? (i := 106) (by decide +kernel), by decide, ⟨by decide, by decide⟩, by decide +kernel, by decide⟩
theorem mv_M_lost : MV qM_lost := ⟨List.mem_of_getElem? (i := 1867) (by decide +kernel), List.mem_of_getElem? (i := 1868) (by decide +kernel)⟩
abbrev qM_loud : MD := (yX12_loud, cX12_loud, 4, (some .int))
theorem mk_M_loud : MOk qM_loud 1 := ⟨List.mem_of_getElem? (i := 1957) (by decide +kernel), List.mem_of_getElem? (i := 106) (by decide +kernel), by decide, ⟨by decide, by decide⟩, by decide +kernel, by decide⟩
theorem mv_M_loud : MV qM_loud := ⟨List.mem_of_getElem? (i := 1955) (by decide +kernel), List.mem_of_getElem? (i := 1956) (by decide +kernel)⟩
abbrev qM_mightiest : MD := (yX12_mightiest, cX12_mightiest, 6, (some .int))
theorem mk_M_mightiest : MOk qM_mightiest 1 := ⟨List.mem_of_getElem? (i := 1945) (by decide +kernel), List.mem_of_getElem? (i := 106) (by decide +kernel), by decide, ⟨by decide, by decide⟩, by decide +kernel, by decide⟩
theorem mv_M_mightiest : MV qM_mightiest := ⟨List.mem_of_getElem? (i := 1943) (by decide +kernel), List.mem_of_getElem? (i := 1944) (by decide +kernel)⟩
abbrev qM_missing : MD := (yX12_missing, cX12_missing, 4, (some .int))
theorem mk_M_missing : MOk qM_missing 0 := ⟨List.mem_of_getElem? (i := 1961) (by decide +kernel), List.mem_of_getElem? (i := 106) (by decide +kernel), by decide, ⟨by decide, by decide⟩, by decide +kernel, by decide⟩
theorem mv_M_missing : MV qM_missing := ⟨List.mem_of_getElem? (i := 1959) (by decide +kernel), List.mem_of_getElem? (i := 1960) (by decide +kernel)⟩
abbrev qM_more : MD := (yX12_more, cX12_more, 2, (some .int))
theorem mk_M_more : MOk qM_more 2 := ⟨List.mem_of_getElem? (i := 1795) (by decide +kernel), List.mem_of_getElem? (i := 106) (by decide +kernel), by decide, ⟨by decide, by decide⟩, by decide +kernel, by decide⟩
theorem mv_M_more : MS qM_more := List.mem_of_getElem? (i := 1794) (by decide +kernel)
abbrev qM_mostOf : MD := (yX12_mostOf, cX12_mostOf, 1, (some .int))
theorem mk_M_mostOf : MOk qM_mostOf 1 := ⟨List.mem_of_getElem? (i := 1638) (by decide +kernel), List.mem_of_getElem? (i := 106) (by decide +kernel), by decide, ⟨by decide, by decide⟩, by decide +kernel, by decide⟩
theorem mv_M_mostOf : MS qM_mostOf := List.mem_of_getElem? (i := 1637) (by decide +kernel)
abbrev qM_nightEnds : MD := (yX12_nightEnds, cX12_nightEnds, 2, none)
theorem mk_M_nightEnds : MOk qM_nightEnds 1 := ⟨List.mem_of_getElem? (i := 1758) (by decide +kernel), List.mem_of_getElem? (i := 106) (by decide +kernel), by decide, ⟨by decide, by decide⟩, by decide +kernel, by decide⟩
theorem mv_M_nightEnds : MV qM_nightEnds := ⟨List.mem_of_getElem? (i := 1757) (by decide +kernel), List.mem_of_getElem? (i := 69) (by decide +kernel)⟩
abbrev qM_notes : MD := (yX12_notes, cX12_notes, 3, none)
theorem mk_M_notes : MOk qM_notes 2 := ⟨List.mem_of_getElem? (i := 1682) (by decide +kernel), List.mem_of_getElem? (i := 106) (by decide +kernel), by decide, ⟨by decide, by decide⟩, by decide +kernel, by decide⟩
theorem mv_M_notes : MV qM_notes := ⟨List.mem_of_getElem? (i := 1681) (by decide +kernel), List.mem_of_getElem? (i := 56) (by decide +kernel)⟩
abbrev qM_number : MD := (yX12_number, cX12_number, 5, (some .int))
theorem mk_M_number : MOk qM_number 2 := ⟨List.mem_of_getElem? (i := 1646) (by decide +kernel), List.mem_of_getElem? (i := 106) (by decide +kernel), by decide, ⟨by decide, by decide⟩, by decide +kernel, by decide⟩
theorem mv_M_number : MV qM_number := ⟨List.mem_of_getElem? (i := 1645) (by decide +kernel), List.mem_of_getElem? (i := 49) (by decide +kernel)⟩
abbrev qM_one : MD := (yX12_one, cX12_one, 3, none)
theorem mk_M_one : MOk qM_one 0 := ⟨List.mem_of_getElem? (i := 1674) (by decide +kernel), List.mem_of_getElem? (i := 106) (by decide +kernel), by decide, ⟨by decide, by decide⟩, by decide +kernel, by decide⟩
theorem mv_M_one : MV qM_one := ⟨List.mem_of_getElem? (i := 1673) (by decide +kernel), List.mem_of_getElem? (i := 54) (by decide +kernel)⟩
abbrev qM_ones : MD := (yX12_ones, cX12_ones, 3, (some .int))
theorem mk_M_ones : MOk qM_ones 1 := ⟨List.mem_of_getElem? (i := 1865) (by decide +kernel), List.mem_of_getElem? (i := 106) (by decide +kernel), by decide, ⟨by decide, by decide⟩, by decide +kernel, by decide⟩
theorem mv_M_ones : MS qM_ones := List.mem_of_getElem? (i := 1864) (by decide +kernel)
abbrev qM_opensOne : MD := (yX12_opensOne, cX12_opensOne, 1, (some .boolean))
theorem mk_M_opensOne : MOk qM_opensOne 0 := ⟨List.mem_of_getElem? (i := 1678) (by decide +kernel), List.mem_of_getElem? (i := 106) (by decide +kernel), by decide, ⟨by decide, by decide⟩, by decide +kernel, by decide⟩
theorem mv_M_opensOne : MV qM_opensOne := ⟨List.mem_of_getElem? (i := 1677) (by decide +kernel), List.mem_of_getElem? (i := 55) (by decide +kernel)⟩
abbrev qM_path : MD := (yX12_path, cX12_path, 5, (some .int))
theorem mk_M_path : MOk qM_path 2 := ⟨List.mem_of_getElem? (i := 1873) (by decide +kernel), List.mem_of_getElem? (i := 106) (by decide +kernel), by decide, ⟨by decide, by decide⟩, by decide +kernel, by decide⟩
theorem mv_M_path : MV qM_path := ⟨List.mem_of_getElem? (i := 1871) (by decide +kernel), List.mem_of_getElem? (i := 1872) (by decide +kernel)⟩
abbrev qM_port : MD := (yX12_port, cX12_port, 2, (some .int))
theorem mk_M_port : MOk qM_port 1 := ⟨List.mem_of_getElem? (i := 1590) (by decide +kernel), List.mem_of_getElem? (i := 106) (by decide +kernel), by decide, ⟨by decide, by decide⟩, by decide +kernel, by decide⟩
theorem mv_M_port : MV qM_port := ⟨List.mem_of_getElem? (i := 1588) (by decide +kernel), List.mem_of_getElem? (i := 1589) (by decide +kernel)⟩
abbrev qM_product : MD := (yX12_product, cX12_product, 2, none)
theorem mk_M_product : MOk qM_product 0 := ⟨List.mem_of_getElem? (i := 1670) (by decide +kernel), List.mem_of_getElem? (i := 106) (by decide +kernel), by decide, ⟨by decide, by decide⟩, by decide +kernel, by decide⟩
theorem mv_M_product : MV qM_product := ⟨List.mem_of_getElem? (i := 1669) (by decide +kernel), List.mem_of_getElem? (i := 53) (by decide +kernel)⟩
abbrev qM_puts : MD := (yX12_puts, cX12_puts, 4, (some .int))
theorem mk_M_puts : MOk qM_puts 3 := ⟨List.mem_of_getElem? (i := 1997) (by decide +kernel), List.mem_of_getElem? (i := 106) (by decide +kernel), by decide, ⟨by decide, by decide⟩, by decide +kernel, by decide⟩
theorem mv_M_puts : MV qM_puts := ⟨List.mem_of_getElem? (i := 1996) (by decide +kernel), List.mem_of_getElem? (i := 93) (by decide +kernel)⟩
abbrev qM_putsAll : MD := (yX12_putsAll, cX12_putsAll, 5, none)
theorem mk_M_putsAll : MOk qM_putsAll 2 := ⟨List.mem_of_getElem? (i := 1993) (by decide +kernel), List.mem_of_getElem? (i := 106) (by decide +kernel), by decide, ⟨by decide, by decide⟩, by decide +kernel, by decide⟩
theorem mv_M_putsAll : MV qM_putsAll := ⟨List.mem_of_getElem? (i := 1992) (by decide +kernel), List.mem_of_getElem? (i := 92) (by decide +kernel)⟩
abbrev qM_rains : MD := (yX12_rains, cX12_rains, 5, (some .boolean))
theorem mk_M_rains : MOk qM_rains 2 := ⟨List.mem_of_getElem? (i := 1754) (by decide +kernel), List.mem_of_getElem? (i := 106) (by decide +kernel), by decide, ⟨by decide, by decide⟩, by decide +kernel, by decide⟩
theorem mv_M_rains : MS qM_rains := List.mem_of_getElem? (i := 1753) (by decide +kernel)
abbrev qM_readsStep : MD := (yX12_readsStep, cX12_readsStep, 3, none)
theorem mk_M_readsStep : MOk qM_readsStep 0 := ⟨List.mem_of_getElem? (i := 1717) (by decide +kernel), List.mem_of_getElem? (i := 106) (by decide +kernel), by decide, ⟨by decide, by decide⟩, by decide +kernel, by decide⟩
theorem mv_M_readsStep : MV qM_readsStep := ⟨List.mem_of_getElem? (i := 1716) (by decide +kernel), List.mem_of_getElem? (i := 61) (by decide +kernel)⟩
abbrev qM_restore : MD := (yX12_restore, cX12_restore, 1, (some .int))
theorem mk_M_restore : MOk qM_restore 0 := ⟨List.mem_of_getElem? (i := 2001) (by decide +kernel), List.mem_of_getElem? (i := 106) (by decide +kernel), by decide, ⟨by decide, by decide⟩, by decide +kernel, by decide⟩
theorem mv_M_restore : MV qM_restore := ⟨List.mem_of_getElem? (i := 1999) (by decide +kernel), List.mem_of_getElem? (i := 2000) (by decide +kernel)⟩
abbrev qM_roomOf : MD := (yX12_roomOf, cX12_roomOf, 5, (some .int))
theorem mk_M_roomOf : MOk qM_roomOf 2 := ⟨List.mem_of_getElem? (i := 1744) (by decide +kernel), List.mem_of_getElem? (i := 106) (by decide +kernel), by decide, ⟨by decide, by decide⟩, by decide +kernel, by decide⟩
theorem mv_M_roomOf : MV qM_roomOf := ⟨List.mem_of_getElem? (i := 1743) (by decide +kernel), List.mem_of_getElem? (i := 67) (by decide +kernel)⟩
abbrev qM_row : MD := (yX12_row, cX12_row, 5, (some .int))
theorem mk_M_row : MOk qM_row 2 := ⟨List.mem_of_getElem? (i := 1799) (by decide +kernel), List.mem_of_getElem? (i := 106) (by decide +kernel), by decide, ⟨by decide, by decide⟩, by decide +kernel, by decide⟩
theorem mv_M_row : MV qM_row := ⟨List.mem_of_getElem? (i := 1797) (by decide +kernel), List.mem_of_getElem? (i := 1798) (by decide +kernel)⟩
abbrev qM_ruling : MD := (yX12_ruling, cX12_ruling, 6, (some .int))
theorem mk_M_ruling : MOk qM_ruling 1 := ⟨List.mem_of_getElem? (i := 1774) (by decide +kernel), List.mem_of_getElem? (i := 106) (by decide +kernel), by decide, ⟨by decide, by decide⟩, by decide +kernel, by decide⟩
theorem mv_M_ruling : MV qM_ruling := ⟨List.mem_of_getElem? (i := 1773) (by decide +kernel), List.mem_of_getElem? (i := 71) (by decide +kernel)⟩
abbrev qM_send : MD := (yX12_send, cX12_send, 4, (some .int))
theorem mk_M_send : MOk qM_send 1 := ⟨List.mem_of_getElem? (i := 1854) (by decide +kernel), List.mem_of_getElem? (i := 106) (by decide +kernel), by decide, ⟨by decide, by decide⟩, by decide +kernel, by decide⟩
theorem mv_M_send : MV qM_send := ⟨List.mem_of_getElem? (i := 1852) (by decide +kernel), List.mem_of_getElem? (i := 1853) (by decide +kernel)⟩
abbrev qM_share : MD := (yX12_share, cX12_share, 5, (some .int))
theorem mk_M_share : MOk qM_share 3 := ⟨List.mem_of_getElem? (i := 1933) (by decide +kernel), List.mem_of_getElem? (i := 106) (by decide +kernel), by decide, ⟨by decide, by decide⟩, by decide +kernel, by decide⟩
theorem mv_M_share : MV qM_share := ⟨List.mem_of_getElem? (i := 1931) (by decide +kernel), List.mem_of_getElem? (i := 1932) (by decide +kernel)⟩
abbrev qM_sign : MD := (yX12_sign, cX12_sign, 2, none)
theorem mk_M_sign : MOk qM_sign 1 := ⟨List.mem_of_getElem? (i := 1654) (by decide +kernel), List.mem_of_getElem? (i := 106) (by decide +kernel), by decide, ⟨by decide, by decide⟩, by decide +kernel, by decide⟩
theorem mv_M_sign : MV qM_sign := ⟨List.mem_of_getElem? (i := 1653) (by decide +kernel), List.mem_of_getElem? (i := 50) (by decide +kernel)⟩
abbrev qM_six : MD := (yX12_six, cX12_six, 7, (some .int))
theorem mk_M_six : MOk qM_six 6 := ⟨List.mem_of_getElem? (i := 1631) (by decide +kernel), List.mem_of_getElem? (i := 106) (by decide +kernel), by decide, ⟨by decide, by decide⟩, by decide +kernel, by decide⟩
theorem mv_M_six : MS qM_six := List.mem_of_getElem? (i := 1630) (by decide +kernel)
abbrev qM_skipWord : MD := (yX12_skipWord, cX12_skipWord, 1, none)
theorem mk_M_skipWord : MOk qM_skipWord 0 := ⟨List.mem_of_getElem? (i := 1642) (by decide +kernel), List.mem_of_getElem? (i := 106) (by decide +kernel), by decide, ⟨by decide, by decide⟩, by decide +kernel, by decide⟩
theorem mv_M_skipWord : MV qM_skipWord := ⟨List.mem_of_getElem? (i := 1641) (by decide +kernel), List.mem_of_getElem? (i := 48) (by decide +kernel)⟩
abbrev qM_slips : MD := (yX12_slips, cX12_slips, 4, (some .boolean))
theorem mk_M_slips : MOk qM_slips 2 := ⟨List.mem_of_getElem? (i := 1751) (by decide +kernel), List.mem_of_getElem? (i := 106) (by decide +kernel), by decide, ⟨by decide, by decide⟩, by decide +kernel, by decide⟩
theorem mv_M_slips : MV qM_slips := ⟨List.mem_of_getElem? (i := 1750) (by decide +kernel), List.mem_of_getElem? (i := 68) (by decide +kernel)⟩
abbrev qM_span : MD := (yX12_span, cX12_span, 13, (some .int))
theorem mk_M_span : MOk qM_span 7 := ⟨List.mem_of_getElem? (i := 1985) (by decide +kernel), List.mem_of_getElem? (i := 106) (by decide +kernel), by decide, ⟨by decide, by decide⟩, by decide +kernel, by decide⟩
theorem mv_M_span : MV qM_span := ⟨List.mem_of_getElem? (i := 1983) (by decide +kernel), List.mem_of_getElem? (i := 1984) (by decide +kernel)⟩
abbrev qM_starts : MD := (yX12_starts, cX12_starts, 2, none)
theorem mk_M_starts : MOk qM_starts 1 := ⟨List.mem_of_getElem? (i := 1601) (by decide +kernel), List.mem_of_getElem? (i := 106) (by decide +kernel), by decide, ⟨by decide, by decide⟩, by decide +kernel, by decide⟩
theorem mv_M_starts : MV qM_starts := ⟨List.mem_of_getElem? (i := 1600) (by decide +kernel), List.mem_of_getElem? (i := 40) (by decide +kernel)⟩
abbrev qM_status : MD := (yX12_status, cX12_status, 2, (some .int))
theorem mk_M_status : MOk qM_status 1 := ⟨List.mem_of_getElem? (i := 2005) (by decide +kernel), List.mem_of_getElem? (i := 106) (by decide +kernel), by decide, ⟨by decide, by decide⟩, by decide +kernel, by decide⟩
theorem mv_M_status : MV qM_status := ⟨List.mem_of_getElem? (i := 2003) (by decide +kernel), List.mem_of_getElem? (i := 2004) (by decide +kernel)⟩
abbrev qM_stepHere : MD := (yX12_stepHere, cX12_stepHere, 1, (some .int))
theorem mk_M_stepHere : MOk qM_stepHere 0 := ⟨List.mem_of_getElem? (i := 1721) (by decide +kernel), List.mem_of_getElem? (i := 106) (by decide +kernel), by decide, ⟨by decide, by decide⟩, by decide +kernel, by decide⟩
theorem mv_M_stepHere : MV qM_stepHere := ⟨List.mem_of_getElem? (i := 1720) (by decide +kernel), List.mem_of_getElem? (i := 62) (by decide +kernel)⟩
abbrev qM_still : MD := (yX12_still, cX12_still, 14, (some .long))
theorem mk_M_still : MOk qM_still 5 := ⟨List.mem_of_getElem? (i := 1917) (by decide +kernel), List.mem_of_getElem? (i := 106) (by decide +kernel), by decide, ⟨by decide, by decide⟩, by decide +kernel, by decide⟩
theorem mv_M_still : MV qM_still := ⟨List.mem_of_getElem? (i := 1915) (by decide +kernel), List.mem_of_getElem? (i := 1916) (by decide +kernel)⟩
abbrev qM_stood : MD := (yX12_stood, cX12_stood, 6, (some .int))
theorem mk_M_stood : MOk qM_stood 1 := ⟨List.mem_of_getElem? (i := 1897) (by decide +kernel), List.mem_of_getElem? (i := 106) (by decide +kernel), by decide, ⟨by decide, by decide⟩, by decide +kernel, by decide⟩
theorem mv_M_stood : MV qM_stood := ⟨List.mem_of_getElem? (i := 1895) (by decide +kernel), List.mem_of_getElem? (i := 1896) (by decide +kernel)⟩
abbrev qM_sum : MD := (yX12_sum, cX12_sum, 2, none)
theorem mk_M_sum : MOk qM_sum 0 := ⟨List.mem_of_getElem? (i := 1666) (by decide +kernel), List.mem_of_getElem? (i := 106) (by decide +kernel), by decide, ⟨by decide, by decide⟩, by decide +kernel, by decide⟩
theorem mv_M_sum : MV qM_sum := ⟨List.mem_of_getElem? (i := 1665) (by decide +kernel), List.mem_of_getElem? (i := 52) (by decide +kernel)⟩
abbrev qM_takes : MD := (yX12_takes, cX12_takes, 8, (some .boolean))
theorem mk_M_takes : MOk qM_takes 6 := ⟨List.mem_of_getElem? (i := 1690) (by decide +kernel), List.mem_of_getElem? (i := 106) (by decide +kernel), by decide, ⟨by decide, by decide⟩, by decide +kernel, by decide⟩
theorem mv_M_takes : MV qM_takes := ⟨List.mem_of_getElem? (i := 1689) (by decide +kernel), List.mem_of_getElem? (i := 58) (by decide +kernel)⟩
abbrev qM_takesSign : MD := (yX12_takesSign, cX12_takesSign, 3, (some .boolean))
theorem mk_M_takesSign : MOk qM_takesSign 1 := ⟨List.mem_of_getElem? (i := 1698) (by decide +kernel), List.mem_of_getElem? (i := 106) (by decide +kernel), by decide, ⟨by decide, by decide⟩, by decide +kernel, by decide⟩
theorem mv_M_takesSign : MV qM_takesSign := ⟨List.mem_of_getElem? (i := 1697) (by decide +kernel), List.mem_of_getElem? (i := 60) (by decide +kernel)⟩
abbrev qM_tellsNothing : MD := (yX12_tellsNothing, cX12_tellsNothing, 2, none)
theorem mk_M_tellsNothing : MOk qM_tellsNothing 0 := ⟨List.mem_of_getElem? (i := 1404) (by decide +kernel), List.mem_of_getElem? (i := 106) (by decide +kernel), by decide, ⟨by decide, by decide⟩, by decide +kernel, by decide⟩
theorem mv_M_tellsNothing : MV qM_tellsNothing := ⟨List.mem_of_getElem? (i := 1403) (by decide +kernel), List.mem_of_getElem? (i := 36) (by decide +kernel)⟩
abbrev qM_thrown : MD := (yX12_thrown, cX12_thrown, 1, (some .int))
theorem mk_M_thrown : MOk qM_thrown 0 := ⟨List.mem_of_getElem? (i := 1582) (by decide +kernel), List.mem_of_getElem? (i := 106) (by decide +kernel), by decide, ⟨by decide, by decide⟩, by decide +kernel, by decide⟩
theorem mv_M_thrown : MV qM_thrown := ⟨List.mem_of_getElem? (i := 1580) (by decide +kernel), List.mem_of_getElem? (i := 1581) (by decide +kernel)⟩
abbrev qM_told : MD := (yX12_told, cX12_told, 4, (some .int))
theorem mk_M_told : MOk qM_told 1 := ⟨List.mem_of_getElem? (i := 1766) (by decide +kernel), List.mem_of_getElem? (i := 106) (by decide +kernel), by decide, ⟨by decide, by decide⟩, by decide +kernel, by decide⟩
theorem mv_M_told : MV qM_told := ⟨List.mem_of_getElem? (i := 1764) (by decide +kernel), List.mem_of_getElem? (i := 1765) (by decide +kernel)⟩
abbrev qM_torn : MD := (yX12_torn, cX12_torn, 3, (some .int))
theorem mk_M_torn : MOk qM_torn 0 := ⟨List.mem_of_getElem? (i := 1846) (by decide +kernel), List.mem_of_getElem? (i := 106) (by decide +kernel), by decide, ⟨by decide, by decide⟩, by decide +kernel, by decide⟩
theorem mv_M_torn : MV qM_torn := ⟨List.mem_of_getElem? (i := 1844) (by decide +kernel), List.mem_of_getElem? (i := 1845) (by decide +kernel)⟩
abbrev qM_undo : MD := (yX12_undo, cX12_undo, 1, (some .int))
theorem mk_M_undo : MOk qM_undo 0 := ⟨List.mem_of_getElem? (i := 1762) (by decide +kernel), List.mem_of_getElem? (i := 106) (by decide +kernel), by decide, ⟨by decide, by decide⟩, by decide +kernel, by decide⟩
theorem mv_M_undo : MV qM_undo := ⟨List.mem_of_getElem? (i := 1760) (by decide +kernel), List.mem_of_getElem? (i := 1761) (by decide +kernel)⟩
abbrev qM_wordHere : MD := (yX12_wordHere, cX12_wordHere, 3, (some .int))
theorem mk_M_wordHere : MOk qM_wordHere 0 := ⟨List.mem_of_getElem? (i := 1625) (by decide +kernel), List.mem_of_getElem? (i := 106) (by decide +kernel), by decide, ⟨by decide, by decide⟩, by decide +kernel, by decide⟩
theorem mv_M_wordHere : MV qM_wordHere := ⟨List.mem_of_getElem? (i := 1624) (by decide +kernel), List.mem_of_getElem? (i := 46) (by decide +kernel)⟩
abbrev qM_work : MD := (yX12_work, cX12_work, 2, (some .int))
theorem mk_M_work : MOk qM_work 1 := ⟨List.mem_of_getElem? (i := 1713) (by decide +kernel), List.mem_of_getElem? (i := 106) (by decide +kernel), by decide, ⟨by decide, by decide⟩, by decide +kernel, by decide⟩
theorem mv_M_work : MV qM_work := ⟨List.mem_of_getElem? (i := 1711) (by decide +kernel), List.mem_of_getElem? (i := 1712) (by decide +kernel)⟩
abbrev qM_would : MD := (yX12_would, cX12_would, 9, (some .int))
theorem mk_M_would : MOk qM_would 8 := ⟨List.mem_of_getElem? (i := 1838) (by decide +kernel), List.mem_of_getElem? (i := 106) (by decide +kernel), by decide, ⟨by decide, by decide⟩, by decide +kernel, by decide⟩
theorem mv_M_would : MV qM_would := ⟨List.mem_of_getElem? (i := 1836) (by decide +kernel), List.mem_of_getElem? (i := 1837) (by decide +kernel)⟩
abbrev qM_writer : MD := (yX12_writer, cX12_writer, 3, (some .int))
theorem mk_M_writer : MOk qM_writer 2 := ⟨List.mem_of_getElem? (i := 1819) (by decide +kernel), List.mem_of_getElem? (i := 106) (by decide +kernel), by decide, ⟨by decide, by decide⟩, by decide +kernel, by decide⟩
theorem mv_M_writer : MV qM_writer := ⟨List.mem_of_getElem? (i := 1817) (by decide +kernel), List.mem_of_getElem? (i := 1818) (by decide +kernel)⟩
abbrev qM_writes : MD := (yX12_writes, cX12_writes, 6, (some .boolean))
theorem mk_M_writes : MOk qM_writes 4 := ⟨List.mem_of_getElem? (i := 1736) (by decide +kernel), List.mem_of_getElem? (i := 106) (by decide +kernel), by decide, ⟨by decide, by decide⟩, by decide +kernel, by decide⟩
theorem mv_M_writes : MV qM_writes := ⟨List.mem_of_getElem? (i := 1735) (by decide +kernel), List.mem_of_getElem? (i := 65) (by decide +kernel)⟩
abbrev qM_writesFrom : MD := (yX12_writesFrom, cX12_writesFrom, 5, none)
theorem mk_M_writesFrom : MOk qM_writesFrom 3 := ⟨List.mem_of_getElem? (i := 1889) (by decide +kernel), List.mem_of_getElem? (i := 106) (by decide +kernel), by decide, ⟨by decide, by decide⟩, by decide +kernel, by decide⟩
theorem mv_M_writesFrom : MV qM_writesFrom := ⟨List.mem_of_getElem? (i := 1888) (by decide +kernel), List.mem_of_getElem? (i := 82) (by decide +kernel)⟩
abbrev qM_wrong : MD := (yX12_wrong, cX12_wrong, 3, none)
theorem mk_M_wrong : MOk qM_wrong 2 := ⟨List.mem_of_getElem? (i := 1635) (by decide +kernel), List.mem_of_getElem? (i := 106) (by decide +kernel), by decide, ⟨by decide, by decide⟩, by decide +kernel, by decide⟩
theorem mv_M_wrong : MV qM_wrong := ⟨List.mem_of_getElem? (i := 1634) (by decide +kernel), List.mem_of_getElem? (i := 47) (by decide +kernel)⟩
abbrev qM_years : MD := (yX12_years, cX12_years, 6, (some .int))
theorem mk_M_years : MOk qM_years 5 := ⟨List.mem_of_getElem? (i := 1965) (by decide +kernel), List.mem_of_getElem? (i := 106) (by decide +kernel), by decide, ⟨by decide, by decide⟩, by decide +kernel, by decide⟩
theorem mv_M_years : MV qM_years := ⟨List.mem_of_getElem? (i := 1963) (by decide +kernel), List.mem_of_getElem? (i := 1964) (by decide +kernel)⟩
abbrev qM_yearsBy : MD := (yX12_yearsBy, cX12_yearsBy, 9, none)
theorem mk_M_yearsBy : MOk qM_yearsBy 4 := ⟨List.mem_of_getElem? (i := 1972) (by decide +kernel), List.mem_of_getElem? (i := 106) (by decide +kernel), by decide, ⟨by decide, by decide⟩, by decide +kernel, by decide⟩
theorem mv_M_yearsBy : MV qM_yearsBy := ⟨List.mem_of_getElem? (i := 1971) (by decide +kernel), List.mem_of_getElem? (i := 89) (by decide +kernel)⟩
abbrev qDeeds_add : MD := (yX1_add, cX1_add, 4, none)
theorem mk_Deeds_add : MOk qDeeds_add 2 := ⟨List.mem_of_getElem? (i := 1021) (by decide +kernel), List.mem_of_getElem? (i := 105) (by decide +kernel), by decide, ⟨by decide, by decide⟩, by decide +kernel, by decide⟩
theorem mv_Deeds_add : MV qDeeds_add := ⟨List.mem_of_getElem? (i := 1020) (by decide +kernel), List.mem_of_getElem? (i := 23) (by decide +kernel)⟩
abbrev qDeeds_clear : MD := (yX1_clear, cX1_clear, 1, none)
theorem mk_Deeds_clear : MOk qDeeds_clear 0 := ⟨List.mem_of_getElem? (i := 865) (by decide +kernel), List.mem_of_getElem? (i := 105) (by decide +kernel), by decide, ⟨by decide, by decide⟩, by decide +kernel, by decide⟩
theorem mv_Deeds_clear : MV qDeeds_clear := ⟨List.mem_of_getElem? (i := 863) (by decide +kernel), List.mem_of_getElem? (i := 864) (by decide +kernel)⟩
abbrev qDeeds_init : MD := (yX1_init, cX1_init, 1, none)
theorem mk_Deeds_init : MOk qDeeds_init 0 := ⟨List.mem_of_getElem? (i := 441) (by decide +kernel), List.mem_of_getElem? (i := 105) (by decide +kernel), by decide, ⟨by decide, by decide⟩, by decide +kernel, by decide⟩
theorem mv_Deeds_init : MI qDeeds_init := ⟨List.mem_of_getElem? (i := 440) (by decide +kernel), rfl, rfl⟩
abbrev qDeeds_lines : MD := (yX1_lines, cX1_lines, 1, (some .int))
theorem mk_Deeds_lines : MOk qDeeds_lines 0 := ⟨List.mem_of_getElem? (i := 1027) (by decide +kernel), List.mem_of_getElem? (i := 105) (by decide +kernel), by decide, ⟨by decide, by decide⟩, by decide +kernel, by decide⟩
theorem mv_Deeds_lines : MV qDeeds_lines := ⟨List.mem_of_getElem? (i := 1025) (by decide +kernel), List.mem_of_getElem? (i := 1026) (by decide +kernel)⟩
abbrev qDeeds_read : MD := (yX1_read, cX1_read, 5, none)
theorem mk_Deeds_read : MOk qDeeds_read 1 := ⟨List.mem_of_getElem? (i := 1011) (by decide +kernel), List.mem_of_getElem? (i := 105) (by decide +kernel), by decide, ⟨by decide, by decide⟩, by decide +kernel, by decide⟩
theorem mv_Deeds_read : MV qDeeds_read := ⟨List.mem_of_getElem? (i := 1009) (by decide +kernel), List.mem_of_getElem? (i := 1010) (by decide +kernel)⟩
abbrev qFitting_init : MD := (yX2_init, cX2_init, 1, none)
theorem mk_Fitting_init : MOk qFitting_init 0 := ⟨List.mem_of_getElem? (i := 265) (by decide +kernel), List.mem_of_getElem? (i := 100) (by decide +kernel), by decide, ⟨by decide, by decide⟩, by decide +kernel, by decide⟩
theorem mv_Fitting_init : MI qFitting_init := ⟨List.mem_of_getElem? (i := 264) (by decide +kernel), rfl, rfl⟩
abbrev qFitting_isLikeLower : MD := (yX2_isLikeLower, cX2_isLikeLower, 3, (some .boolean))
theorem mk_Fitting_isLikeLower : MOk qFitting_isLikeLower 1 := ⟨List.mem_of_getElem? (i := 1241) (by decide +kernel), List.mem_of_getElem? (i := 100) (by decide +kernel), by decide, ⟨by decide, by decide⟩, by decide +kernel, by decide⟩
theorem mv_Fitting_isLikeLower : MV qFitting_isLikeLower := ⟨List.mem_of_getElem? (i := 1240) (by decide +kernel), List.mem_of_getElem? (i := 30) (by decide +kernel)⟩
abbrev qFitting_place : MD := (yX2_place, cX2_place, 6, none)
theorem mk_Fitting_place : MOk qFitting_place 3 := ⟨List.mem_of_getElem? (i := 1231) (by decide +kernel), List.mem_of_getElem? (i := 100) (by decide +kernel), by decide, ⟨by decide, by decide⟩, by decide +kernel, by decide⟩
theorem mv_Fitting_place : MV qFitting_place := ⟨List.mem_of_getElem? (i := 1230) (by decide +kernel), List.mem_of_getElem? (i := 28) (by decide +kernel)⟩
abbrev qFitting_roomLeft : MD := (yX2_roomLeft, cX2_roomLeft, 3, (some .int))
theorem mk_Fitting_roomLeft : MOk qFitting_roomLeft 0 := ⟨List.mem_of_getElem? (i := 1235) (by decide +kernel), List.mem_of_getElem? (i := 100) (by decide +kernel), by decide, ⟨by decide, by decide⟩, by decide +kernel, by decide⟩
theorem mv_Fitting_roomLeft : MV qFitting_roomLeft := ⟨List.mem_of_getElem? (i := 1234) (by decide +kernel), List.mem_of_getElem? (i := 29) (by decide +kernel)⟩
abbrev qFitting_search : MD := (yX2_search, cX2_search, 6, none)
theorem mk_Fitting_search : MOk qFitting_search 2 := ⟨List.mem_of_getElem? (i := 1225) (by decide +kernel), List.mem_of_getElem? (i := 100) (by decide +kernel), by decide, ⟨by decide, by decide⟩, by decide +kernel, by decide⟩
theorem mv_Fitting_search : MV qFitting_search := ⟨List.mem_of_getElem? (i := 1223) (by decide +kernel), List.mem_of_getElem? (i := 1224) (by decide +kernel)⟩
abbrev qImage_init : MD := (yX3_init, cX3_init, 3, none)
theorem mk_Image_init : MOk qImage_init 2 := ⟨List.mem_of_getElem? (i := 603) (by decide +kernel), List.mem_of_getElem? (i := 119) (by decide +kernel), by decide, ⟨by decide, by decide⟩, by decide +kernel, by decide⟩
theorem mv_Image_init : MI qImage_init := ⟨List.mem_of_getElem? (i := 602) (by decide +kernel), rfl, rfl⟩
abbrev qInquest_actsOfSet : MD := (yX4_actsOfSet, cX4_actsOfSet, 5, (some .int))
theorem mk_Inquest_actsOfSet : MOk qInquest_actsOfSet 3 := ⟨List.mem_of_getElem? (i := 1262) (by decide +kernel), List.mem_of_getElem? (i := 101) (by decide +kernel), by decide, ⟨by decide, by decide⟩, by decide +kernel, by decide⟩
theorem mv_Inquest_actsOfSet : MS qInquest_actsOfSet := List.mem_of_getElem? (i := 1261) (by decide +kernel)
abbrev qInquest_addSet : MD := (yX4_addSet, cX4_addSet, 4, none)
theorem mk_Inquest_addSet : MOk qInquest_addSet 2 := ⟨List.mem_of_getElem? (i := 1267) (by decide +kernel), List.mem_of_getElem? (i := 101) (by decide +kernel), by decide, ⟨by decide, by decide⟩, by decide +kernel, by decide⟩
theorem mv_Inquest_addSet : MV qInquest_addSet := ⟨List.mem_of_getElem? (i := 1266) (by decide +kernel), List.mem_of_getElem? (i := 31) (by decide +kernel)⟩
abbrev qInquest_bestQuestion : MD := (yX4_bestQuestion, cX4_bestQuestion, 5, (some .int))
theorem mk_Inquest_bestQuestion : MOk qInquest_bestQuestion 1 := ⟨List.mem_of_getElem? (i := 1278) (by decide +kernel), List.mem_of_getElem? (i := 101) (by decide +kernel), by decide, ⟨by decide, by decide⟩, by decide +kernel, by decide⟩
theorem mv_Inquest_bestQuestion : MV qInquest_bestQuestion := ⟨List.mem_of_getElem? (i := 1276) (by decide +kernel), List.mem_of_getElem? (i := 1277) (by decide +kernel)⟩
abbrev qInquest_hold : MD := (yX4_hold, cX4_hold, 6, none)
theorem mk_Inquest_hold : MOk qInquest_hold 3 := ⟨List.mem_of_getElem? (i := 1259) (by decide +kernel), List.mem_of_getElem? (i := 101) (by decide +kernel), by decide, ⟨by decide, by decide⟩, by decide +kernel, by decide⟩
theorem mv_Inquest_hold : MV qInquest_hold := ⟨List.mem_of_getElem? (i := 1257) (by decide +kernel), List.mem_of_getElem? (i := 1258) (by decide +kernel)⟩
abbrev qInquest_init : MD := (yX4_init, cX4_init, 1, none)
theorem mk_Inquest_init : MOk qInquest_init 0 := ⟨List.mem_of_getElem? (i := 292) (by decide +kernel), List.mem_of_getElem? (i := 101) (by decide +kernel), by decide, ⟨by decide, by decide⟩, by decide +kernel, by decide⟩
theorem mv_Inquest_init : MI qInquest_init := ⟨List.mem_of_getElem? (i := 291) (by decide +kernel), rfl, rfl⟩
abbrev qInquest_leftAtWorst : MD := (yX4_leftAtWorst, cX4_leftAtWorst, 2, (some .int))
theorem mk_Inquest_leftAtWorst : MOk qInquest_leftAtWorst 1 := ⟨List.mem_of_getElem? (i := 1282) (by decide +kernel), List.mem_of_getElem? (i := 101) (by decide +kernel), by decide, ⟨by decide, by decide⟩, by decide +kernel, by decide⟩
theorem mv_Inquest_leftAtWorst : MV qInquest_leftAtWorst := ⟨List.mem_of_getElem? (i := 1280) (by decide +kernel), List.mem_of_getElem? (i := 1281) (by decide +kernel)⟩
abbrev qLaw_becomePlain : MD := (yX5_becomePlain, cX5_becomePlain, 1, none)
theorem mk_Law_becomePlain : MOk qLaw_becomePlain 0 := ⟨List.mem_of_getElem? (i := 422) (by decide +kernel), List.mem_of_getElem? (i := 104) (by decide +kernel), by decide, ⟨by decide, by decide⟩, by decide +kernel, by decide⟩
theorem mv_Law_becomePlain : MV qLaw_becomePlain := ⟨List.mem_of_getElem? (i := 420) (by decide +kernel), List.mem_of_getElem? (i := 421) (by decide +kernel)⟩
abbrev qLaw_givenWord : MD := (yX5_givenWord, cX5_givenWord, 1, (some .int))
theorem mk_Law_givenWord : MOk qLaw_givenWord 1 := ⟨List.mem_of_getElem? (i := 897) (by decide +kernel), List.mem_of_getElem? (i := 104) (by decide +kernel), by decide, ⟨by decide, by decide⟩, by decide +kernel, by decide⟩
theorem mv_Law_givenWord : MS qLaw_givenWord := List.mem_of_getElem? (i := 896) (by decide +kernel)
abbrev qLaw_init : MD := (yX5_init, cX5_init, 1, none)
theorem mk_Law_init : MOk qLaw_init 0 := ⟨List.mem_of_getElem? (i := 417) (by decide +kernel), List.mem_of_getElem? (i := 104) (by decide +kernel), by decide, ⟨by decide, by decide⟩, by decide +kernel, by decide⟩
theorem mv_Law_init : MI qLaw_init := ⟨List.mem_of_getElem? (i := 416) (by decide +kernel), rfl, rfl⟩
abbrev qLaw_joined : MD := (yX5_joined, cX5_joined, 3, (some .int))
theorem mk_Law_joined : MOk qLaw_joined 3 := ⟨List.mem_of_getElem? (i := 1070) (by decide +kernel), List.mem_of_getElem? (i := 104) (by decide +kernel), by decide, ⟨by decide, by decide⟩, by decide +kernel, by decide⟩
theorem mv_Law_joined : MS qLaw_joined := List.mem_of_getElem? (i := 1069) (by decide +kernel)
abbrev qLaw_put : MD := (yX5_put, cX5_put, 2, none)
theorem mk_Law_put : MOk qLaw_put 1 := ⟨List.mem_of_getElem? (i := 426) (by decide +kernel), List.mem_of_getElem? (i := 104) (by decide +kernel), by decide, ⟨by decide, by decide⟩, by decide +kernel, by decide⟩
theorem mv_Law_put : MV qLaw_put := ⟨List.mem_of_getElem? (i := 425) (by decide +kernel), List.mem_of_getElem? (i := 1) (by decide +kernel)⟩
abbrev qLaw_read : MD := (yX5_read, cX5_read, 2, none)
theorem mk_Law_read : MOk qLaw_read 1 := ⟨List.mem_of_getElem? (i := 881) (by decide +kernel), List.mem_of_getElem? (i := 104) (by decide +kernel), by decide, ⟨by decide, by decide⟩, by decide +kernel, by decide⟩
theorem mv_Law_read : MV qLaw_read := ⟨List.mem_of_getElem? (i := 879) (by decide +kernel), List.mem_of_getElem? (i := 880) (by decide +kernel)⟩
abbrev qLaw_readOpened : MD := (yX5_readOpened, cX5_readOpened, 6, none)
theorem mk_Law_readOpened : MOk qLaw_readOpened 3 := ⟨List.mem_of_getElem? (i := 915) (by decide +kernel), List.mem_of_getElem? (i := 104) (by decide +kernel), by decide, ⟨by decide, by decide⟩, by decide +kernel, by decide⟩
theorem mv_Law_readOpened : MV qLaw_readOpened := ⟨List.mem_of_getElem? (i := 914) (by decide +kernel), List.mem_of_getElem? (i := 16) (by decide +kernel)⟩
abbrev qLaw_readProduct : MD := (yX5_readProduct, cX5_readProduct, 5, none)
theorem mk_Law_readProduct : MOk qLaw_readProduct 2 := ⟨List.mem_of_getElem? (i := 889) (by decide +kernel), List.mem_of_getElem? (i := 104) (by decide +kernel), by decide, ⟨by decide, by decide⟩, by decide +kernel, by decide⟩
theorem mv_Law_readProduct : MV qLaw_readProduct := ⟨List.mem_of_getElem? (i := 888) (by decide +kernel), List.mem_of_getElem? (i := 14) (by decide +kernel)⟩
abbrev qLaw_readSum : MD := (yX5_readSum, cX5_readSum, 5, none)
theorem mk_Law_readSum : MOk qLaw_readSum 2 := ⟨List.mem_of_getElem? (i := 885) (by decide +kernel), List.mem_of_getElem? (i := 104) (by decide +kernel), by decide, ⟨by decide, by decide⟩, by decide +kernel, by decide⟩
theorem mv_Law_readSum : MV qLaw_readSum := ⟨List.mem_of_getElem? (i := 884) (by decide +kernel), List.mem_of_getElem? (i := 13) (by decide +kernel)⟩
abbrev qLaw_readUnit : MD := (yX5_readUnit, cX5_readUnit, 5, none)
theorem mk_Law_readUnit : MOk qLaw_readUnit 2 := ⟨List.mem_of_getElem? (i := 893) (by decide +kernel), List.mem_of_getElem? (i := 104) (by decide +kernel), by decide, ⟨by decide, by decide⟩, by decide +kernel, by decide⟩
theorem mv_Law_readUnit : MV qLaw_readUnit := ⟨List.mem_of_getElem? (i := 892) (by decide +kernel), List.mem_of_getElem? (i := 15) (by decide +kernel)⟩
abbrev qLaw_weigh : MD := (yX5_weigh, cX5_weigh, 5, (some .int))
theorem mk_Law_weigh : MOk qLaw_weigh 1 := ⟨List.mem_of_getElem? (i := 1067) (by decide +kernel), List.mem_of_getElem? (i := 104) (by decide +kernel), by decide, ⟨by decide, by decide⟩, by decide +kernel, by decide⟩
theorem mv_Law_weigh : MV qLaw_weigh := ⟨List.mem_of_getElem? (i := 1065) (by decide +kernel), List.mem_of_getElem? (i := 1066) (by decide +kernel)⟩
abbrev qPast_clear : MD := (yX6_clear, cX6_clear, 1, none)
theorem mk_Past_clear : MOk qPast_clear 0 := ⟨List.mem_of_getElem? (i := 869) (by decide +kernel), List.mem_of_getElem? (i := 99) (by decide +kernel), by decide, ⟨by decide, by decide⟩, by decide +kernel, by decide⟩
theorem mv_Past_clear : MV qPast_clear := ⟨List.mem_of_getElem? (i := 867) (by decide +kernel), List.mem_of_getElem? (i := 868) (by decide +kernel)⟩
abbrev qPast_copied : MD := (yX6_copied, cX6_copied, 2, (some (.object "ChalkWall$Wall")))
theorem mk_Past_copied : MOk qPast_copied 1 := ⟨List.mem_of_getElem? (i := 599) (by decide +kernel), List.mem_of_getElem? (i := 99) (by decide +kernel), by decide, ⟨by decide, by decide⟩, by decide +kernel, by decide⟩
theorem mv_Past_copied : MS qPast_copied := List.mem_of_getElem? (i := 598) (by decide +kernel)
abbrev qPast_copyWorks : MD := (yX6_copyWorks, cX6_copyWorks, 4, none)
theorem mk_Past_copyWorks : MOk qPast_copyWorks 3 := ⟨List.mem_of_getElem? (i := 621) (by decide +kernel), List.mem_of_getElem? (i := 99) (by decide +kernel), by decide, ⟨by decide, by decide⟩, by decide +kernel, by decide⟩
theorem mv_Past_copyWorks : MS qPast_copyWorks := List.mem_of_getElem? (i := 620) (by decide +kernel)
abbrev qPast_init : MD := (yX6_init, cX6_init, 1, none)
theorem mk_Past_init : MOk qPast_init 0 := ⟨List.mem_of_getElem? (i := 240) (by decide +kernel), List.mem_of_getElem? (i := 99) (by decide +kernel), by decide, ⟨by decide, by decide⟩, by decide +kernel, by decide⟩
theorem mv_Past_init : MI qPast_init := ⟨List.mem_of_getElem? (i := 239) (by decide +kernel), rfl, rfl⟩
abbrev qPast_keepImage : MD := (yX6_keepImage, cX6_keepImage, 3, (some .boolean))
theorem mk_Past_keepImage : MOk qPast_keepImage 1 := ⟨List.mem_of_getElem? (i := 595) (by decide +kernel), List.mem_of_getElem? (i := 99) (by decide +kernel), by decide, ⟨by decide, by decide⟩, by decide +kernel, by decide⟩
theorem mv_Past_keepImage : MV qPast_keepImage := ⟨List.mem_of_getElem? (i := 593) (by decide +kernel), List.mem_of_getElem? (i := 594) (by decide +kernel)⟩
abbrev qPast_keepWork : MD := (yX6_keepWork, cX6_keepWork, 2, none)
theorem mk_Past_keepWork : MOk qPast_keepWork 1 := ⟨List.mem_of_getElem? (i := 968) (by decide +kernel), List.mem_of_getElem? (i := 99) (by decide +kernel), by decide, ⟨by decide, by decide⟩, by decide +kernel, by decide⟩
theorem mv_Past_keepWork : MV qPast_keepWork := ⟨List.mem_of_getElem? (i := 966) (by decide +kernel), List.mem_of_getElem? (i := 967) (by decide +kernel)⟩
abbrev qPast_takeBackWork : MD := (yX6_takeBackWork, cX6_takeBackWork, 3, (some .boolean))
theorem mk_Past_takeBackWork : MOk qPast_takeBackWork 1 := ⟨List.mem_of_getElem? (i := 541) (by decide +kernel), List.mem_of_getElem? (i := 99) (by decide +kernel), by decide, ⟨by decide, by decide⟩, by decide +kernel, by decide⟩
theorem mv_Past_takeBackWork : MV qPast_takeBackWork := ⟨List.mem_of_getElem? (i := 539) (by decide +kernel), List.mem_of_getElem? (i := 540) (by decide +kernel)⟩
abbrev qPast_takeImage : MD := (yX6_takeImage, cX6_takeImage, 3, (some .boolean))
theorem mk_Past_takeImage : MOk qPast_takeImage 1 := ⟨List.mem_of_getElem? (i := 629) (by decide +kernel), List.mem_of_getElem? (i := 99) (by decide +kernel), by decide, ⟨by decide, by decide⟩, by decide +kernel, by decide⟩
theorem mv_Past_takeImage : MV qPast_takeImage := ⟨List.mem_of_getElem? (i := 627) (by decide +kernel), List.mem_of_getElem? (i := 628) (by decide +kernel)⟩
abbrev qPlan_attempt : MD := (yX7_attempt, cX7_attempt, 4, (some .boolean))
theorem mk_Plan_attempt : MOk qPlan_attempt 3 := ⟨List.mem_of_getElem? (i := 980) (by decide +kernel), List.mem_of_getElem? (i := 97) (by decide +kernel), by decide, ⟨by decide, by decide⟩, by decide +kernel, by decide⟩
theorem mv_Plan_attempt : MV qPlan_attempt := ⟨List.mem_of_getElem? (i := 979) (by decide +kernel), List.mem_of_getElem? (i := 22) (by decide +kernel)⟩
abbrev qPlan_carryOut : MD := (yX7_carryOut, cX7_carryOut, 3, none)
theorem mk_Plan_carryOut : MOk qPlan_carryOut 2 := ⟨List.mem_of_getElem? (i := 972) (by decide +kernel), List.mem_of_getElem? (i := 97) (by decide +kernel), by decide, ⟨by decide, by decide⟩, by decide +kernel, by decide⟩
theorem mv_Plan_carryOut : MV qPlan_carryOut := ⟨List.mem_of_getElem? (i := 970) (by decide +kernel), List.mem_of_getElem? (i := 971) (by decide +kernel)⟩
abbrev qPlan_doSteps : MD := (yX7_doSteps, cX7_doSteps, 8, none)
theorem mk_Plan_doSteps : MOk qPlan_doSteps 5 := ⟨List.mem_of_getElem? (i := 976) (by decide +kernel), List.mem_of_getElem? (i := 97) (by decide +kernel), by decide, ⟨by decide, by decide⟩, by decide +kernel, by decide⟩
theorem mv_Plan_doSteps : MV qPlan_doSteps := ⟨List.mem_of_getElem? (i := 975) (by decide +kernel), List.mem_of_getElem? (i := 21) (by decide +kernel)⟩
abbrev qPlan_init : MD := (yX7_init, cX7_init, 1, none)
theorem mk_Plan_init : MOk qPlan_init 0 := ⟨List.mem_of_getElem? (i := 160) (by decide +kernel), List.mem_of_getElem? (i := 97) (by decide +kernel), by decide, ⟨by decide, by decide⟩, by decide +kernel, by decide⟩
theorem mv_Plan_init : MI qPlan_init := ⟨List.mem_of_getElem? (i := 159) (by decide +kernel), rfl, rfl⟩
abbrev qPlan_put : MD := (yX7_put, cX7_put, 6, none)
theorem mk_Plan_put : MOk qPlan_put 5 := ⟨List.mem_of_getElem? (i := 954) (by decide +kernel), List.mem_of_getElem? (i := 97) (by decide +kernel), by decide, ⟨by decide, by decide⟩, by decide +kernel, by decide⟩
theorem mv_Plan_put : MV qPlan_put := ⟨List.mem_of_getElem? (i := 953) (by decide +kernel), List.mem_of_getElem? (i := 19) (by decide +kernel)⟩
abbrev qPlan_read : MD := (yX7_read, cX7_read, 3, none)
theorem mk_Plan_read : MOk qPlan_read 2 := ⟨List.mem_of_getElem? (i := 935) (by decide +kernel), List.mem_of_getElem? (i := 97) (by decide +kernel), by decide, ⟨by decide, by decide⟩, by decide +kernel, by decide⟩
theorem mv_Plan_read : MV qPlan_read := ⟨List.mem_of_getElem? (i := 933) (by decide +kernel), List.mem_of_getElem? (i := 934) (by decide +kernel)⟩
abbrev qPlan_readAgain : MD := (yX7_readAgain, cX7_readAgain, 6, none)
theorem mk_Plan_readAgain : MOk qPlan_readAgain 3 := ⟨List.mem_of_getElem? (i := 963) (by decide +kernel), List.mem_of_getElem? (i := 97) (by decide +kernel), by decide, ⟨by decide, by decide⟩, by decide +kernel, by decide⟩
theorem mv_Plan_readAgain : MV qPlan_readAgain := ⟨List.mem_of_getElem? (i := 962) (by decide +kernel), List.mem_of_getElem? (i := 20) (by decide +kernel)⟩
abbrev qPlan_readStep : MD := (yX7_readStep, cX7_readStep, 5, none)
theorem mk_Plan_readStep : MOk qPlan_readStep 3 := ⟨List.mem_of_getElem? (i := 946) (by decide +kernel), List.mem_of_getElem? (i := 97) (by decide +kernel), by decide, ⟨by decide, by decide⟩, by decide +kernel, by decide⟩
theorem mv_Plan_readStep : MV qPlan_readStep := ⟨List.mem_of_getElem? (i := 945) (by decide +kernel), List.mem_of_getElem? (i := 18) (by decide +kernel)⟩
abbrev qPlan_readSteps : MD := (yX7_readSteps, cX7_readSteps, 6, none)
theorem mk_Plan_readSteps : MOk qPlan_readSteps 3 := ⟨List.mem_of_getElem? (i := 939) (by decide +kernel), List.mem_of_getElem? (i := 97) (by decide +kernel), by decide, ⟨by decide, by decide⟩, by decide +kernel, by decide⟩
theorem mv_Plan_readSteps : MV qPlan_readSteps := ⟨List.mem_of_getElem? (i := 938) (by decide +kernel), List.mem_of_getElem? (i := 17) (by decide +kernel)⟩
abbrev qPort_addBid : MD := (yX8_addBid, cX8_addBid, 4, none)
theorem mk_Port_addBid : MOk qPort_addBid 3 := ⟨List.mem_of_getElem? (i := 843) (by decide +kernel), List.mem_of_getElem? (i := 103) (by decide +kernel), by decide, ⟨by decide, by decide⟩, by decide +kernel, by decide⟩
theorem mv_Port_addBid : MV qPort_addBid := ⟨List.mem_of_getElem? (i := 842) (by decide +kernel), List.mem_of_getElem? (i := 10) (by decide +kernel)⟩
abbrev qPort_addKnown : MD := (yX8_addKnown, cX8_addKnown, 4, none)
theorem mk_Port_addKnown : MOk qPort_addKnown 3 := ⟨List.mem_of_getElem? (i := 851) (by decide +kernel), List.mem_of_getElem? (i := 103) (by decide +kernel), by decide, ⟨by decide, by decide⟩, by decide +kernel, by decide⟩
theorem mv_Port_addKnown : MV qPort_addKnown := ⟨List.mem_of_getElem? (i := 850) (by decide +kernel), List.mem_of_getElem? (i := 12) (by decide +kernel)⟩
abbrev qPort_addRow : MD := (yX8_addRow, cX8_addRow, 3, none)
theorem mk_Port_addRow : MOk qPort_addRow 2 := ⟨List.mem_of_getElem? (i := 839) (by decide +kernel), List.mem_of_getElem? (i := 103) (by decide +kernel), by decide, ⟨by decide, by decide⟩, by decide +kernel, by decide⟩
theorem mv_Port_addRow : MV qPort_addRow := ⟨List.mem_of_getElem? (i := 838) (by decide +kernel), List.mem_of_getElem? (i := 9) (by decide +kernel)⟩
abbrev qPort_addWriter : MD := (yX8_addWriter, cX8_addWriter, 4, none)
theorem mk_Port_addWriter : MOk qPort_addWriter 3 := ⟨List.mem_of_getElem? (i := 847) (by decide +kernel), List.mem_of_getElem? (i := 103) (by decide +kernel), by decide, ⟨by decide, by decide⟩, by decide +kernel, by decide⟩
theorem mv_Port_addWriter : MV qPort_addWriter := ⟨List.mem_of_getElem? (i := 846) (by decide +kernel), List.mem_of_getElem? (i := 11) (by decide +kernel)⟩
abbrev qPort_clauseWord : MD := (yX8_clauseWord, cX8_clauseWord, 1, (some .int))
theorem mk_Port_clauseWord : MOk qPort_clauseWord 1 := ⟨List.mem_of_getElem? (i := 746) (by decide +kernel), List.mem_of_getElem? (i := 103) (by decide +kernel), by decide, ⟨by decide, by decide⟩, by decide +kernel, by decide⟩
theorem mv_Port_clauseWord : MS qPort_clauseWord := List.mem_of_getElem? (i := 745) (by decide +kernel)
abbrev qPort_clear : MD := (yX8_clear, cX8_clear, 2, none)
theorem mk_Port_clear : MOk qPort_clear 0 := ⟨List.mem_of_getElem? (i := 350) (by decide +kernel), List.mem_of_getElem? (i := 103) (by decide +kernel), by decide, ⟨by decide, by decide⟩, by decide +kernel, by decide⟩
theorem mv_Port_clear : MV qPort_clear := ⟨List.mem_of_getElem? (i := 349) (by decide +kernel), List.mem_of_getElem? (i := 0) (by decide +kernel)⟩
abbrev qPort_crewHas : MD := (yX8_crewHas, cX8_crewHas, 5, (some .int))
theorem mk_Port_crewHas : MOk qPort_crewHas 4 := ⟨List.mem_of_getElem? (i := 1312) (by decide +kernel), List.mem_of_getElem? (i := 103) (by decide +kernel), by decide, ⟨by decide, by decide⟩, by decide +kernel, by decide⟩
theorem mv_Port_crewHas : MV qPort_crewHas := ⟨List.mem_of_getElem? (i := 1310) (by decide +kernel), List.mem_of_getElem? (i := 1311) (by decide +kernel)⟩
abbrev qPort_givenBy : MD := (yX8_givenBy, cX8_givenBy, 5, (some .int))
theorem mk_Port_givenBy : MOk qPort_givenBy 2 := ⟨List.mem_of_getElem? (i := 1323) (by decide +kernel), List.mem_of_getElem? (i := 103) (by decide +kernel), by decide, ⟨by decide, by decide⟩, by decide +kernel, by decide⟩
theorem mv_Port_givenBy : MV qPort_givenBy := ⟨List.mem_of_getElem? (i := 1321) (by decide +kernel), List.mem_of_getElem? (i := 1322) (by decide +kernel)⟩
abbrev qPort_init : MD := (yX8_init, cX8_init, 1, none)
theorem mk_Port_init : MOk qPort_init 0 := ⟨List.mem_of_getElem? (i := 345) (by decide +kernel), List.mem_of_getElem? (i := 103) (by decide +kernel), by decide, ⟨by decide, by decide⟩, by decide +kernel, by decide⟩
theorem mv_Port_init : MI qPort_init := ⟨List.mem_of_getElem? (i := 344) (by decide +kernel), rfl, rfl⟩
abbrev qPort_isFull : MD := (yX8_isFull, cX8_isFull, 2, (some .boolean))
theorem mk_Port_isFull : MOk qPort_isFull 1 := ⟨List.mem_of_getElem? (i := 814) (by decide +kernel), List.mem_of_getElem? (i := 103) (by decide +kernel), by decide, ⟨by decide, by decide⟩, by decide +kernel, by decide⟩
theorem mv_Port_isFull : MV qPort_isFull := ⟨List.mem_of_getElem? (i := 813) (by decide +kernel), List.mem_of_getElem? (i := 6) (by decide +kernel)⟩
abbrev qPort_knownTo : MD := (yX8_knownTo, cX8_knownTo, 4, (some .int))
theorem mk_Port_knownTo : MOk qPort_knownTo 1 := ⟨List.mem_of_getElem? (i := 1192) (by decide +kernel), List.mem_of_getElem? (i := 103) (by decide +kernel), by decide, ⟨by decide, by decide⟩, by decide +kernel, by decide⟩
theorem mv_Port_knownTo : MV qPort_knownTo := ⟨List.mem_of_getElem? (i := 1190) (by decide +kernel), List.mem_of_getElem? (i := 1191) (by decide +kernel)⟩
abbrev qPort_read : MD := (yX8_read, cX8_read, 3, none)
theorem mk_Port_read : MOk qPort_read 1 := ⟨List.mem_of_getElem? (i := 730) (by decide +kernel), List.mem_of_getElem? (i := 103) (by decide +kernel), by decide, ⟨by decide, by decide⟩, by decide +kernel, by decide⟩
theorem mv_Port_read : MV qPort_read := ⟨List.mem_of_getElem? (i := 728) (by decide +kernel), List.mem_of_getElem? (i := 729) (by decide +kernel)⟩
abbrev qPort_readClause : MD := (yX8_readClause, cX8_readClause, 5, none)
theorem mk_Port_readClause : MOk qPort_readClause 2 := ⟨List.mem_of_getElem? (i := 742) (by decide +kernel), List.mem_of_getElem? (i := 103) (by decide +kernel), by decide, ⟨by decide, by decide⟩, by decide +kernel, by decide⟩
theorem mv_Port_readClause : MV qPort_readClause := ⟨List.mem_of_getElem? (i := 741) (by decide +kernel), List.mem_of_getElem? (i := 5) (by decide +kernel)⟩
abbrev qPort_readKin : MD := (yX8_readKin, cX8_readKin, 5, none)
theorem mk_Port_readKin : MOk qPort_readKin 1 := ⟨List.mem_of_getElem? (i := 818) (by decide +kernel), List.mem_of_getElem? (i := 103) (by decide +kernel), by decide, ⟨by decide, by decide⟩, by decide +kernel, by decide⟩
theorem mv_Port_readKin : MV qPort_readKin := ⟨List.mem_of_getElem? (i := 817) (by decide +kernel), List.mem_of_getElem? (i := 7) (by decide +kernel)⟩
abbrev qPort_readTold : MD := (yX8_readTold, cX8_readTold, 3, none)
theorem mk_Port_readTold : MOk qPort_readTold 2 := ⟨List.mem_of_getElem? (i := 835) (by decide +kernel), List.mem_of_getElem? (i := 103) (by decide +kernel), by decide, ⟨by decide, by decide⟩, by decide +kernel, by decide⟩
theorem mv_Port_readTold : MV qPort_readTold := ⟨List.mem_of_getElem? (i := 834) (by decide +kernel), List.mem_of_getElem? (i := 8) (by decide +kernel)⟩
abbrev qPort_whoKnows : MD := (yX8_whoKnows, cX8_whoKnows, 4, (some .int))
theorem mk_Port_whoKnows : MOk qPort_whoKnows 1 := ⟨List.mem_of_getElem? (i := 1125) (by decide +kernel), List.mem_of_getElem? (i := 103) (by decide +kernel), by decide, ⟨by decide, by decide⟩, by decide +kernel, by decide⟩
theorem mv_Port_whoKnows : MV qPort_whoKnows := ⟨List.mem_of_getElem? (i := 1123) (by decide +kernel), List.mem_of_getElem? (i := 1124) (by decide +kernel)⟩
abbrev qTape_comesNumber : MD := (yX9_comesNumber, cX9_comesNumber, 1, (some .boolean))
theorem mk_Tape_comesNumber : MOk qTape_comesNumber 0 := ⟨List.mem_of_getElem? (i := 910) (by decide +kernel), List.mem_of_getElem? (i := 96) (by decide +kernel), by decide, ⟨by decide, by decide⟩, by decide +kernel, by decide⟩
theorem mv_Tape_comesNumber : MV qTape_comesNumber := ⟨List.mem_of_getElem? (i := 908) (by decide +kernel), List.mem_of_getElem? (i := 909) (by decide +kernel)⟩
abbrev qTape_faultAnswer : MD := (yX9_faultAnswer, cX9_faultAnswer, 1, (some .int))
theorem mk_Tape_faultAnswer : MOk qTape_faultAnswer 0 := ⟨List.mem_of_getElem? (i := 860) (by decide +kernel), List.mem_of_getElem? (i := 96) (by decide +kernel), by decide, ⟨by decide, by decide⟩, by decide +kernel, by decide⟩
theorem mv_Tape_faultAnswer : MV qTape_faultAnswer := ⟨List.mem_of_getElem? (i := 858) (by decide +kernel), List.mem_of_getElem? (i := 859) (by decide +kernel)⟩
abbrev qTape_hasMore : MD := (yX9_hasMore, cX9_hasMore, 1, (some .boolean))
theorem mk_Tape_hasMore : MOk qTape_hasMore 0 := ⟨List.mem_of_getElem? (i := 734) (by decide +kernel), List.mem_of_getElem? (i := 96) (by decide +kernel), by decide, ⟨by decide, by decide⟩, by decide +kernel, by decide⟩
theorem mv_Tape_hasMore : MV qTape_hasMore := ⟨List.mem_of_getElem? (i := 732) (by decide +kernel), List.mem_of_getElem? (i := 733) (by decide +kernel)⟩
abbrev qTape_hasRoom : MD := (yX9_hasRoom, cX9_hasRoom, 1, (some .boolean))
theorem mk_Tape_hasRoom : MOk qTape_hasRoom 0 := ⟨List.mem_of_getElem? (i := 525) (by decide +kernel), List.mem_of_getElem? (i := 96) (by decide +kernel), by decide, ⟨by decide, by decide⟩, by decide +kernel, by decide⟩
theorem mv_Tape_hasRoom : MV qTape_hasRoom := ⟨List.mem_of_getElem? (i := 523) (by decide +kernel), List.mem_of_getElem? (i := 524) (by decide +kernel)⟩
abbrev qTape_init : MD := (yX9_init, cX9_init, 1, none)
theorem mk_Tape_init : MOk qTape_init 0 := ⟨List.mem_of_getElem? (i := 132) (by decide +kernel), List.mem_of_getElem? (i := 96) (by decide +kernel), by decide, ⟨by decide, by decide⟩, by decide +kernel, by decide⟩
theorem mv_Tape_init : MI qTape_init := ⟨List.mem_of_getElem? (i := 131) (by decide +kernel), rfl, rfl⟩
abbrev qTape_isDigit : MD := (yX9_isDigit, cX9_isDigit, 1, (some .boolean))
theorem mk_Tape_isDigit : MOk qTape_isDigit 1 := ⟨List.mem_of_getElem? (i := 825) (by decide +kernel), List.mem_of_getElem? (i := 96) (by decide +kernel), by decide, ⟨by decide, by decide⟩, by decide +kernel, by decide⟩
theorem mv_Tape_isDigit : MS qTape_isDigit := List.mem_of_getElem? (i := 824) (by decide +kernel)
abbrev qTape_isFine : MD := (yX9_isFine, cX9_isFine, 1, (some .boolean))
theorem mk_Tape_isFine : MOk qTape_isFine 0 := ⟨List.mem_of_getElem? (i := 831) (by decide +kernel), List.mem_of_getElem? (i := 96) (by decide +kernel), by decide, ⟨by decide, by decide⟩, by decide +kernel, by decide⟩
theorem mv_Tape_isFine : MV qTape_isFine := ⟨List.mem_of_getElem? (i := 829) (by decide +kernel), List.mem_of_getElem? (i := 830) (by decide +kernel)⟩
abbrev qTape_isSmallLetter : MD := (yX9_isSmallLetter, cX9_isSmallLetter, 1, (some .boolean))
theorem mk_Tape_isSmallLetter : MOk qTape_isSmallLetter 1 := ⟨List.mem_of_getElem? (i := 754) (by decide +kernel), List.mem_of_getElem? (i := 96) (by decide +kernel), by decide, ⟨by decide, by decide⟩, by decide +kernel, by decide⟩
theorem mv_Tape_isSmallLetter : MS qTape_isSmallLetter := List.mem_of_getElem? (i := 753) (by decide +kernel)
abbrev qTape_needSign : MD := (yX9_needSign, cX9_needSign, 2, none)
theorem mk_Tape_needSign : MOk qTape_needSign 1 := ⟨List.mem_of_getElem? (i := 855) (by decide +kernel), List.mem_of_getElem? (i := 96) (by decide +kernel), by decide, ⟨by decide, by decide⟩, by decide +kernel, by decide⟩
theorem mv_Tape_needSign : MV qTape_needSign := ⟨List.mem_of_getElem? (i := 853) (by decide +kernel), List.mem_of_getElem? (i := 854) (by decide +kernel)⟩
abbrev qTape_next : MD := (yX9_next, cX9_next, 1, (some .int))
theorem mk_Tape_next : MOk qTape_next 0 := ⟨List.mem_of_getElem? (i := 738) (by decide +kernel), List.mem_of_getElem? (i := 96) (by decide +kernel), by decide, ⟨by decide, by decide⟩, by decide +kernel, by decide⟩
theorem mv_Tape_next : MV qTape_next := ⟨List.mem_of_getElem? (i := 736) (by decide +kernel), List.mem_of_getElem? (i := 737) (by decide +kernel)⟩
abbrev qTape_number : MD := (yX9_number, cX9_number, 5, (some .int))
theorem mk_Tape_number : MOk qTape_number 2 := ⟨List.mem_of_getElem? (i := 822) (by decide +kernel), List.mem_of_getElem? (i := 96) (by decide +kernel), by decide, ⟨by decide, by decide⟩, by decide +kernel, by decide⟩
theorem mv_Tape_number : MV qTape_number := ⟨List.mem_of_getElem? (i := 820) (by decide +kernel), List.mem_of_getElem? (i := 821) (by decide +kernel)⟩
abbrev qTape_open : MD := (yX9_open, cX9_open, 2, none)
theorem mk_Tape_open : MOk qTape_open 1 := ⟨List.mem_of_getElem? (i := 723) (by decide +kernel), List.mem_of_getElem? (i := 96) (by decide +kernel), by decide, ⟨by decide, by decide⟩, by decide +kernel, by decide⟩
theorem mv_Tape_open : MV qTape_open := ⟨List.mem_of_getElem? (i := 721) (by decide +kernel), List.mem_of_getElem? (i := 722) (by decide +kernel)⟩
abbrev qTape_put : MD := (yX9_put, cX9_put, 3, none)
theorem mk_Tape_put : MOk qTape_put 1 := ⟨List.mem_of_getElem? (i := 529) (by decide +kernel), List.mem_of_getElem? (i := 96) (by decide +kernel), by decide, ⟨by decide, by decide⟩, by decide +kernel, by decide⟩
theorem mv_Tape_put : MV qTape_put := ⟨List.mem_of_getElem? (i := 527) (by decide +kernel), List.mem_of_getElem? (i := 528) (by decide +kernel)⟩
abbrev qTape_takesSign : MD := (yX9_takesSign, cX9_takesSign, 3, (some .boolean))
theorem mk_Tape_takesSign : MOk qTape_takesSign 1 := ⟨List.mem_of_getElem? (i := 919) (by decide +kernel), List.mem_of_getElem? (i := 96) (by decide +kernel), by decide, ⟨by decide, by decide⟩, by decide +kernel, by decide⟩
theorem mv_Tape_takesSign : MV qTape_takesSign := ⟨List.mem_of_getElem? (i := 917) (by decide +kernel), List.mem_of_getElem? (i := 918) (by decide +kernel)⟩
abbrev qTape_takesWord : MD := (yX9_takesWord, cX9_takesWord, 4, (some .boolean))
theorem mk_Tape_takesWord : MOk qTape_takesWord 1 := ⟨List.mem_of_getElem? (i := 751) (by decide +kernel), List.mem_of_getElem? (i := 96) (by decide +kernel), by decide, ⟨by decide, by decide⟩, by decide +kernel, by decide⟩
theorem mv_Tape_takesWord : MV qTape_takesWord := ⟨List.mem_of_getElem? (i := 749) (by decide +kernel), List.mem_of_getElem? (i := 750) (by decide +kernel)⟩
abbrev qTape_wrong : MD := (yX9_wrong, cX9_wrong, 3, none)
theorem mk_Tape_wrong : MOk qTape_wrong 2 := ⟨List.mem_of_getElem? (i := 810) (by decide +kernel), List.mem_of_getElem? (i := 96) (by decide +kernel), by decide, ⟨by decide, by decide⟩, by decide +kernel, by decide⟩
theorem mv_Tape_wrong : MV qTape_wrong := ⟨List.mem_of_getElem? (i := 808) (by decide +kernel), List.mem_of_getElem? (i := 809) (by decide +kernel)⟩
