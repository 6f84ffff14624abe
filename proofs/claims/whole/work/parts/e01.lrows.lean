/-! the law: words, rows for the script -/
theorem w_code_X10_agrees : Cond.code yX10_agrees cX10_agrees 5 (some .int) ∈ zgd := zgd_in (List.mem_append_right _ (List.mem_of_getElem? (i := 1064) (by decide +kernel))) (by decide +kernel)
theorem w_code_X10_apart : Cond.code yX10_apart cX10_apart 3 (some .int) ∈ zgd := zgd_in (List.mem_append_right _ (List.mem_of_getElem? (i := 1084) (by decide +kernel))) (by decide +kernel)
theorem w_code_X10_back : Cond.code yX10_back cX10_back 2 (some .boolean) ∈ zgd := zgd_in (List.mem_append_right _ (List.mem_of_getElem? (i := 1142) (by decide +kernel))) (by decide +kernel)
theorem w_code_X10_borne : Cond.code yX10_borne cX10_borne 2 (some .int) ∈ zgd := zgd_in (List.mem_append_right _ (List.mem_of_getElem? (i := 1000) (by decide +kernel))) (by decide +kernel)
theorem w_code_X10_clash : Cond.code yX10_clash cX10_clash 4 (some .int) ∈ zgd := zgd_in (List.mem_append_right _ (List.mem_of_getElem? (i := 962) (by decide +kernel))) (by decide +kernel)
theorem w_code_X10_count : Cond.code yX10_count cX10_count 3 (some .long) ∈ zgd := zgd_in (List.mem_append_right _ (List.mem_of_getElem? (i := 1038) (by decide +kernel))) (by decide +kernel)
theorem w_code_X10_draw : Cond.code yX10_draw cX10_draw 1 (some .int) ∈ zgd := zgd_in (List.mem_append_right _ (List.mem_of_getElem? (i := 1122) (by decide +kernel))) (by decide +kernel)
theorem w_code_X10_evening : Cond.code yX10_evening cX10_evening 3 (some .int) ∈ zgd := zgd_in (List.mem_append_right _ (List.mem_of_getElem? (i := 1060) (by decide +kernel))) (by decide +kernel)
theorem w_code_X10_fails : Cond.code yX10_fails cX10_fails 2 (some .int) ∈ zgd := zgd_in (List.mem_append_right _ (List.mem_of_getElem? (i := 970) (by decide +kernel))) (by decide +kernel)
theorem w_code_X10_fault : Cond.code yX10_fault cX10_fault 1 (some .int) ∈ zgd := zgd_in (List.mem_append_right _ (List.mem_of_getElem? (i := 726) (by decide +kernel))) (by decide +kernel)
theorem w_code_X10_feed : Cond.code yX10_feed cX10_feed 6 (some .int) ∈ zgd := zgd_in (List.mem_append_right _ (List.mem_of_getElem? (i := 468) (by decide +kernel))) (by decide +kernel)
theorem w_code_X10_fits : Cond.code yX10_fits cX10_fits 3 (some .int) ∈ zgd := zgd_in (List.mem_append_right _ (List.mem_of_getElem? (i := 782) (by decide +kernel))) (by decide +kernel)
theorem w_code_X10_fitting : Cond.code yX10_fitting cX10_fitting 1 (some .int) ∈ zgd := zgd_in (List.mem_append_right _ (List.mem_of_getElem? (i := 803) (by decide +kernel))) (by decide +kernel)
theorem w_code_X10_found : Cond.code yX10_found cX10_found 3 (some .int) ∈ zgd := zgd_in (List.mem_append_right _ (List.mem_of_getElem? (i := 1080) (by decide +kernel))) (by decide +kernel)
theorem w_code_X10_hand : Cond.code yX10_hand cX10_hand 3 (some .int) ∈ zgd := zgd_in (List.mem_append_right _ (List.mem_of_getElem? (i := 742) (by decide +kernel))) (by decide +kernel)
theorem w_code_X10_handOf : Cond.code yX10_handOf cX10_handOf 6 (some .int) ∈ zgd := zgd_in (List.mem_append_right _ (List.mem_of_getElem? (i := 753) (by decide +kernel))) (by decide +kernel)
theorem w_code_X10_hands : Cond.code yX10_hands cX10_hands 1 (some .int) ∈ zgd := zgd_in (List.mem_append_right _ (List.mem_of_getElem? (i := 734) (by decide +kernel))) (by decide +kernel)
theorem w_code_X10_hardest : Cond.code yX10_hardest cX10_hardest 7 (some .int) ∈ zgd := zgd_in (List.mem_append_right _ (List.mem_of_getElem? (i := 1100) (by decide +kernel))) (by decide +kernel)
theorem w_code_X10_image : Cond.code yX10_image cX10_image 1 (some .int) ∈ zgd := zgd_in (List.mem_append_right _ (List.mem_of_getElem? (i := 1131) (by decide +kernel))) (by decide +kernel)
theorem w_code_X10_judge : Cond.code yX10_judge cX10_judge 2 (some .int) ∈ zgd := zgd_in (List.mem_append_right _ (List.mem_of_getElem? (i := 1052) (by decide +kernel))) (by decide +kernel)
theorem w_code_X10_kept : Cond.code yX10_kept cX10_kept 5 (some .int) ∈ zgd := zgd_in (List.mem_append_right _ (List.mem_of_getElem? (i := 941) (by decide +kernel))) (by decide +kernel)
theorem w_code_X10_laid : Cond.code yX10_laid cX10_laid 2 (some .int) ∈ zgd := zgd_in (List.mem_append_right _ (List.mem_of_getElem? (i := 966) (by decide +kernel))) (by decide +kernel)
theorem w_code_X10_lays : Cond.code yX10_lays cX10_lays 3 (some .int) ∈ zgd := zgd_in (List.mem_append_right _ (List.mem_of_getElem? (i := 815) (by decide +kernel))) (by decide +kernel)
theorem w_code_X10_mean : Cond.code yX10_mean cX10_mean 7 (some .int) ∈ zgd := zgd_in (List.mem_append_right _ (List.mem_of_getElem? (i := 1092) (by decide +kernel))) (by decide +kernel)
theorem w_code_X10_most : Cond.code yX10_most cX10_most 1 (some .int) ∈ zgd := zgd_in (List.mem_append_right _ (List.mem_of_getElem? (i := 1042) (by decide +kernel))) (by decide +kernel)
theorem w_code_X10_pairs : Cond.code yX10_pairs cX10_pairs 2 (some .int) ∈ zgd := zgd_in (List.mem_append_right _ (List.mem_of_getElem? (i := 1020) (by decide +kernel))) (by decide +kernel)
theorem w_code_X10_row : Cond.code yX10_row cX10_row 3 (some .int) ∈ zgd := zgd_in (List.mem_append_right _ (List.mem_of_getElem? (i := 762) (by decide +kernel))) (by decide +kernel)
theorem w_code_X10_rows : Cond.code yX10_rows cX10_rows 1 (some .int) ∈ zgd := zgd_in (List.mem_append_right _ (List.mem_of_getElem? (i := 738) (by decide +kernel))) (by decide +kernel)
theorem w_code_X10_says : Cond.code yX10_says cX10_says 3 (some .int) ∈ zgd := zgd_in (List.mem_append_right _ (List.mem_of_getElem? (i := 950) (by decide +kernel))) (by decide +kernel)
theorem w_code_X10_seed : Cond.code yX10_seed cX10_seed 2 (some .boolean) ∈ zgd := zgd_in (List.mem_append_right _ (List.mem_of_getElem? (i := 1109) (by decide +kernel))) (by decide +kernel)
theorem w_code_X10_seen : Cond.code yX10_seen cX10_seen 2 (some .int) ∈ zgd := zgd_in (List.mem_append_right _ (List.mem_of_getElem? (i := 974) (by decide +kernel))) (by decide +kernel)
theorem w_code_X10_shortest : Cond.code yX10_shortest cX10_shortest 2 (some .int) ∈ zgd := zgd_in (List.mem_append_right _ (List.mem_of_getElem? (i := 1016) (by decide +kernel))) (by decide +kernel)
theorem w_code_X10_shows : Cond.code yX10_shows cX10_shows 4 (some .int) ∈ zgd := zgd_in (List.mem_append_right _ (List.mem_of_getElem? (i := 1104) (by decide +kernel))) (by decide +kernel)
theorem w_code_X10_size : Cond.code yX10_size cX10_size 3 (some .int) ∈ zgd := zgd_in (List.mem_append_right _ (List.mem_of_getElem? (i := 1146) (by decide +kernel))) (by decide +kernel)
theorem w_code_X10_strike : Cond.code yX10_strike cX10_strike 1 (some .boolean) ∈ zgd := zgd_in (List.mem_append_right _ (List.mem_of_getElem? (i := 1127) (by decide +kernel))) (by decide +kernel)
theorem w_code_X10_table : Cond.code yX10_table cX10_table 2 (some .int) ∈ zgd := zgd_in (List.mem_append_right _ (List.mem_of_getElem? (i := 1029) (by decide +kernel))) (by decide +kernel)
theorem w_code_X10_tilted : Cond.code yX10_tilted cX10_tilted 2 (some .int) ∈ zgd := zgd_in (List.mem_append_right _ (List.mem_of_getElem? (i := 778) (by decide +kernel))) (by decide +kernel)
theorem w_code_X10_trick : Cond.code yX10_trick cX10_trick 4 (some .int) ∈ zgd := zgd_in (List.mem_append_right _ (List.mem_of_getElem? (i := 476) (by decide +kernel))) (by decide +kernel)
theorem w_code_X10_trouble : Cond.code yX10_trouble cX10_trouble 1 (some .int) ∈ zgd := zgd_in (List.mem_append_right _ (List.mem_of_getElem? (i := 1154) (by decide +kernel))) (by decide +kernel)
theorem w_code_X10_where : Cond.code yX10_where cX10_where 1 (some .int) ∈ zgd := zgd_in (List.mem_append_right _ (List.mem_of_getElem? (i := 730) (by decide +kernel))) (by decide +kernel)
theorem w_code_X10_words : Cond.code yX10_words cX10_words 2 (some .int) ∈ zgd := zgd_in (List.mem_append_right _ (List.mem_of_getElem? (i := 1150) (by decide +kernel))) (by decide +kernel)
theorem w_code_X10_wordsWork : Cond.code yX10_wordsWork cX10_wordsWork 2 (some .int) ∈ zgd := zgd_in (List.mem_append_right _ (List.mem_of_getElem? (i := 1004) (by decide +kernel))) (by decide +kernel)
theorem w_code_X10_works : Cond.code yX10_works cX10_works 3 (some .int) ∈ zgd := zgd_in (List.mem_append_right _ (List.mem_of_getElem? (i := 958) (by decide +kernel))) (by decide +kernel)
theorem w_code_X10_wrong : Cond.code yX10_wrong cX10_wrong 2 (some .int) ∈ zgd := zgd_in (List.mem_append_right _ (List.mem_of_getElem? (i := 1072) (by decide +kernel))) (by decide +kernel)
theorem w_code_X12_agrees : Cond.code yX12_agrees cX12_agrees 4 (some .int) ∈ zgd := zgd_in (List.mem_append_right _ (List.mem_of_getElem? (i := 1894) (by decide +kernel))) (by decide +kernel)
theorem w_code_X12_apart : Cond.code yX12_apart cX12_apart 3 (some .int) ∈ zgd := zgd_in (List.mem_append_right _ (List.mem_of_getElem? (i := 1914) (by decide +kernel))) (by decide +kernel)
theorem w_code_X12_back : Cond.code yX12_back cX12_back 3 (some .boolean) ∈ zgd := zgd_in (List.mem_append_right _ (List.mem_of_getElem? (i := 1969) (by decide +kernel))) (by decide +kernel)
theorem w_code_X12_borne : Cond.code yX12_borne cX12_borne 2 (some .int) ∈ zgd := zgd_in (List.mem_append_right _ (List.mem_of_getElem? (i := 1842) (by decide +kernel))) (by decide +kernel)
theorem w_code_X12_clash : Cond.code yX12_clash cX12_clash 4 (some .int) ∈ zgd := zgd_in (List.mem_append_right _ (List.mem_of_getElem? (i := 1810) (by decide +kernel))) (by decide +kernel)
theorem w_code_X12_count : Cond.code yX12_count cX12_count 3 (some .long) ∈ zgd := zgd_in (List.mem_append_right _ (List.mem_of_getElem? (i := 1870) (by decide +kernel))) (by decide +kernel)
theorem w_code_X12_draw : Cond.code yX12_draw cX12_draw 1 (some .int) ∈ zgd := zgd_in (List.mem_append_right _ (List.mem_of_getElem? (i := 1954) (by decide +kernel))) (by decide +kernel)
theorem w_code_X12_evening : Cond.code yX12_evening cX12_evening 3 (some .int) ∈ zgd := zgd_in (List.mem_append_right _ (List.mem_of_getElem? (i := 1890) (by decide +kernel))) (by decide +kernel)
theorem w_code_X12_fails : Cond.code yX12_fails cX12_fails 4 (some .int) ∈ zgd := zgd_in (List.mem_append_right _ (List.mem_of_getElem? (i := 1818) (by decide +kernel))) (by decide +kernel)
theorem w_code_X12_fault : Cond.code yX12_fault cX12_fault 1 (some .int) ∈ zgd := zgd_in (List.mem_append_right _ (List.mem_of_getElem? (i := 1636) (by decide +kernel))) (by decide +kernel)
theorem w_code_X12_feed : Cond.code yX12_feed cX12_feed 8 (some .int) ∈ zgd := zgd_in (List.mem_append_right _ (List.mem_of_getElem? (i := 1386) (by decide +kernel))) (by decide +kernel)
theorem w_code_X12_fits : Cond.code yX12_fits cX12_fits 3 (some .int) ∈ zgd := zgd_in (List.mem_append_right _ (List.mem_of_getElem? (i := 1684) (by decide +kernel))) (by decide +kernel)
theorem w_code_X12_fitting : Cond.code yX12_fitting cX12_fitting 1 (some .int) ∈ zgd := zgd_in (List.mem_append_right _ (List.mem_of_getElem? (i := 1692) (by decide +kernel))) (by decide +kernel)
theorem w_code_X12_found : Cond.code yX12_found cX12_found 3 (some .int) ∈ zgd := zgd_in (List.mem_append_right _ (List.mem_of_getElem? (i := 1910) (by decide +kernel))) (by decide +kernel)
theorem w_code_X12_hand : Cond.code yX12_hand cX12_hand 3 (some .int) ∈ zgd := zgd_in (List.mem_append_right _ (List.mem_of_getElem? (i := 1656) (by decide +kernel))) (by decide +kernel)
theorem w_code_X12_handOf : Cond.code yX12_handOf cX12_handOf 9 (some .int) ∈ zgd := zgd_in (List.mem_append_right _ (List.mem_of_getElem? (i := 1664) (by decide +kernel))) (by decide +kernel)
theorem w_code_X12_hands : Cond.code yX12_hands cX12_hands 1 (some .int) ∈ zgd := zgd_in (List.mem_append_right _ (List.mem_of_getElem? (i := 1644) (by decide +kernel))) (by decide +kernel)
theorem w_code_X12_hardest : Cond.code yX12_hardest cX12_hardest 6 (some .int) ∈ zgd := zgd_in (List.mem_append_right _ (List.mem_of_getElem? (i := 1933) (by decide +kernel))) (by decide +kernel)
theorem w_code_X12_image : Cond.code yX12_image cX12_image 2 (some .int) ∈ zgd := zgd_in (List.mem_append_right _ (List.mem_of_getElem? (i := 1965) (by decide +kernel))) (by decide +kernel)
theorem w_code_X12_judge : Cond.code yX12_judge cX12_judge 2 (some .int) ∈ zgd := zgd_in (List.mem_append_right _ (List.mem_of_getElem? (i := 1882) (by decide +kernel))) (by decide +kernel)
theorem w_code_X12_kept : Cond.code yX12_kept cX12_kept 9 (some .int) ∈ zgd := zgd_in (List.mem_append_right _ (List.mem_of_getElem? (i := 1782) (by decide +kernel))) (by decide +kernel)
theorem w_code_X12_laid : Cond.code yX12_laid cX12_laid 4 (some .int) ∈ zgd := zgd_in (List.mem_append_right _ (List.mem_of_getElem? (i := 1814) (by decide +kernel))) (by decide +kernel)
theorem w_code_X12_lays : Cond.code yX12_lays cX12_lays 3 (some .int) ∈ zgd := zgd_in (List.mem_append_right _ (List.mem_of_getElem? (i := 1701) (by decide +kernel))) (by decide +kernel)
theorem w_code_X12_mean : Cond.code yX12_mean cX12_mean 5 (some .int) ∈ zgd := zgd_in (List.mem_append_right _ (List.mem_of_getElem? (i := 1926) (by decide +kernel))) (by decide +kernel)
theorem w_code_X12_most : Cond.code yX12_most cX12_most 2 (some .int) ∈ zgd := zgd_in (List.mem_append_right _ (List.mem_of_getElem? (i := 1878) (by decide +kernel))) (by decide +kernel)
theorem w_code_X12_pairs : Cond.code yX12_pairs cX12_pairs 1 (some .int) ∈ zgd := zgd_in (List.mem_append_right _ (List.mem_of_getElem? (i := 1862) (by decide +kernel))) (by decide +kernel)
theorem w_code_X12_row : Cond.code yX12_row cX12_row 3 (some .int) ∈ zgd := zgd_in (List.mem_append_right _ (List.mem_of_getElem? (i := 1668) (by decide +kernel))) (by decide +kernel)
theorem w_code_X12_rows : Cond.code yX12_rows cX12_rows 1 (some .int) ∈ zgd := zgd_in (List.mem_append_right _ (List.mem_of_getElem? (i := 1648) (by decide +kernel))) (by decide +kernel)
theorem w_code_X12_says : Cond.code yX12_says cX12_says 3 (some .int) ∈ zgd := zgd_in (List.mem_append_right _ (List.mem_of_getElem? (i := 1786) (by decide +kernel))) (by decide +kernel)
theorem w_code_X12_seed : Cond.code yX12_seed cX12_seed 2 (some .boolean) ∈ zgd := zgd_in (List.mem_append_right _ (List.mem_of_getElem? (i := 1941) (by decide +kernel))) (by decide +kernel)
theorem w_code_X12_seen : Cond.code yX12_seen cX12_seen 2 (some .int) ∈ zgd := zgd_in (List.mem_append_right _ (List.mem_of_getElem? (i := 1822) (by decide +kernel))) (by decide +kernel)
theorem w_code_X12_shortest : Cond.code yX12_shortest cX12_shortest 2 (some .int) ∈ zgd := zgd_in (List.mem_append_right _ (List.mem_of_getElem? (i := 1858) (by decide +kernel))) (by decide +kernel)
theorem w_code_X12_shows : Cond.code yX12_shows cX12_shows 4 (some .int) ∈ zgd := zgd_in (List.mem_append_right _ (List.mem_of_getElem? (i := 1937) (by decide +kernel))) (by decide +kernel)
theorem w_code_X12_size : Cond.code yX12_size cX12_size 2 (some .int) ∈ zgd := zgd_in (List.mem_append_right _ (List.mem_of_getElem? (i := 1977) (by decide +kernel))) (by decide +kernel)
theorem w_code_X12_strike : Cond.code yX12_strike cX12_strike 1 (some .boolean) ∈ zgd := zgd_in (List.mem_append_right _ (List.mem_of_getElem? (i := 1961) (by decide +kernel))) (by decide +kernel)
theorem w_code_X12_table : Cond.code yX12_table cX12_table 2 (some .int) ∈ zgd := zgd_in (List.mem_append_right _ (List.mem_of_getElem? (i := 1866) (by decide +kernel))) (by decide +kernel)
theorem w_code_X12_tilted : Cond.code yX12_tilted cX12_tilted 2 (some .int) ∈ zgd := zgd_in (List.mem_append_right _ (List.mem_of_getElem? (i := 1680) (by decide +kernel))) (by decide +kernel)
theorem w_code_X12_trick : Cond.code yX12_trick cX12_trick 3 (some .int) ∈ zgd := zgd_in (List.mem_append_right _ (List.mem_of_getElem? (i := 1390) (by decide +kernel))) (by decide +kernel)
theorem w_code_X12_trouble : Cond.code yX12_trouble cX12_trouble 1 (some .int) ∈ zgd := zgd_in (List.mem_append_right _ (List.mem_of_getElem? (i := 1985) (by decide +kernel))) (by decide +kernel)
theorem w_code_X12_where : Cond.code yX12_where cX12_where 1 (some .int) ∈ zgd := zgd_in (List.mem_append_right _ (List.mem_of_getElem? (i := 1640) (by decide +kernel))) (by decide +kernel)
theorem w_code_X12_words : Cond.code yX12_words cX12_words 2 (some .int) ∈ zgd := zgd_in (List.mem_append_right _ (List.mem_of_getElem? (i := 1981) (by decide +kernel))) (by decide +kernel)
theorem w_code_X12_wordsWork : Cond.code yX12_wordsWork cX12_wordsWork 2 (some .int) ∈ zgd := zgd_in (List.mem_append_right _ (List.mem_of_getElem? (i := 1850) (by decide +kernel))) (by decide +kernel)
theorem w_code_X12_works : Cond.code yX12_works cX12_works 2 (some .int) ∈ zgd := zgd_in (List.mem_append_right _ (List.mem_of_getElem? (i := 1798) (by decide +kernel))) (by decide +kernel)
theorem w_code_X12_wrong : Cond.code yX12_wrong cX12_wrong 2 (some .int) ∈ zgd := zgd_in (List.mem_append_right _ (List.mem_of_getElem? (i := 1902) (by decide +kernel))) (by decide +kernel)
theorem w_instanceMethod_X10_agrees : Cond.instanceMethod yX10_agrees ∈ zgd := zgd_in (List.mem_append_right _ (List.mem_of_getElem? (i := 1062) (by decide +kernel))) (by decide +kernel)
theorem w_instanceMethod_X10_apart : Cond.instanceMethod yX10_apart ∈ zgd := zgd_in (List.mem_append_right _ (List.mem_of_getElem? (i := 1082) (by decide +kernel))) (by decide +kernel)
theorem w_instanceMethod_X10_back : Cond.instanceMethod yX10_back ∈ zgd := zgd_in (List.mem_append_right _ (List.mem_of_getElem? (i := 1140) (by decide +kernel))) (by decide +kernel)
theorem w_instanceMethod_X10_borne : Cond.instanceMethod yX10_borne ∈ zgd := zgd_in (List.mem_append_right _ (List.mem_of_getElem? (i := 998) (by decide +kernel))) (by decide +kernel)
theorem w_instanceMethod_X10_clash : Cond.instanceMethod yX10_clash ∈ zgd := zgd_in (List.mem_append_right _ (List.mem_of_getElem? (i := 960) (by decide +kernel))) (by decide +kernel)
theorem w_instanceMethod_X10_count : Cond.instanceMethod yX10_count ∈ zgd := zgd_in (List.mem_append_right _ (List.mem_of_getElem? (i := 1036) (by decide +kernel))) (by decide +kernel)
theorem w_instanceMethod_X10_draw : Cond.instanceMethod yX10_draw ∈ zgd := zgd_in (List.mem_append_right _ (List.mem_of_getElem? (i := 1120) (by decide +kernel))) (by decide +kernel)
theorem w_instanceMethod_X10_evening : Cond.instanceMethod yX10_evening ∈ zgd := zgd_in (List.mem_append_right _ (List.mem_of_getElem? (i := 1058) (by decide +kernel))) (by decide +kernel)
theorem w_instanceMethod_X10_fails : Cond.instanceMethod yX10_fails ∈ zgd := zgd_in (List.mem_append_right _ (List.mem_of_getElem? (i := 968) (by decide +kernel))) (by decide +kernel)
theorem w_instanceMethod_X10_fault : Cond.instanceMethod yX10_fault ∈ zgd := zgd_in (List.mem_append_right _ (List.mem_of_getElem? (i := 724) (by decide +kernel))) (by decide +kernel)
theorem w_instanceMethod_X10_feed : Cond.instanceMethod yX10_feed ∈ zgd := zgd_in (List.mem_append_right _ (List.mem_of_getElem? (i := 466) (by decide +kernel))) (by decide +kernel)
theorem w_instanceMethod_X10_fits : Cond.instanceMethod yX10_fits ∈ zgd := zgd_in (List.mem_append_right _ (List.mem_of_getElem? (i := 780) (by decide +kernel))) (by decide +kernel)
theorem w_instanceMethod_X10_fitting : Cond.instanceMethod yX10_fitting ∈ zgd := zgd_in (List.mem_append_right _ (List.mem_of_getElem? (i := 801) (by decide +kernel))) (by decide +kernel)
theorem w_instanceMethod_X10_found : Cond.instanceMethod yX10_found ∈ zgd := zgd_in (List.mem_append_right _ (List.mem_of_getElem? (i := 1078) (by decide +kernel))) (by decide +kernel)
theorem w_instanceMethod_X10_hand : Cond.instanceMethod yX10_hand ∈ zgd := zgd_in (List.mem_append_right _ (List.mem_of_getElem? (i := 740) (by decide +kernel))) (by decide +kernel)
theorem w_instanceMethod_X10_handOf : Cond.instanceMethod yX10_handOf ∈ zgd := zgd_in (List.mem_append_right _ (List.mem_of_getElem? (i := 751) (by decide +kernel))) (by decide +kernel)
theorem w_instanceMethod_X10_hands : Cond.instanceMethod yX10_hands ∈ zgd := zgd_in (List.mem_append_right _ (List.mem_of_getElem? (i := 732) (by decide +kernel))) (by decide +kernel)
theorem w_instanceMethod_X10_hardest : Cond.instanceMethod yX10_hardest ∈ zgd := zgd_in (List.mem_append_right _ (List.mem_of_getElem? (i := 1098) (by decide +kernel))) (by decide +kernel)
theorem w_instanceMethod_X10_image : Cond.instanceMethod yX10_image ∈ zgd := zgd_in (List.mem_append_right _ (List.mem_of_getElem? (i := 1129) (by decide +kernel))) (by decide +kernel)
theorem w_instanceMethod_X10_judge : Cond.instanceMethod yX10_judge ∈ zgd := zgd_in (List.mem_append_right _ (List.mem_of_getElem? (i := 1050) (by decide +kernel))) (by decide +kernel)
theorem w_instanceMethod_X10_kept : Cond.instanceMethod yX10_kept ∈ zgd := zgd_in (List.mem_append_right _ (List.mem_of_getElem? (i := 939) (by decide +kernel))) (by decide +kernel)
theorem w_instanceMethod_X10_laid : Cond.instanceMethod yX10_laid ∈ zgd := zgd_in (List.mem_append_right _ (List.mem_of_getElem? (i := 964) (by decide +kernel))) (by decide +kernel)
theorem w_instanceMethod_X10_lays : Cond.instanceMethod yX10_lays ∈ zgd := zgd_in (List.mem_append_right _ (List.mem_of_getElem? (i := 813) (by decide +kernel))) (by decide +kernel)
theorem w_instanceMethod_X10_mean : Cond.instanceMethod yX10_mean ∈ zgd := zgd_in (List.mem_append_right _ (List.mem_of_getElem? (i := 1090) (by decide +kernel))) (by decide +kernel)
theorem w_instanceMethod_X10_most : Cond.instanceMethod yX10_most ∈ zgd := zgd_in (List.mem_append_right _ (List.mem_of_getElem? (i := 1040) (by decide +kernel))) (by decide +kernel)
theorem w_instanceMethod_X10_pairs : Cond.instanceMethod yX10_pairs ∈ zgd := zgd_in (List.mem_append_right _ (List.mem_of_getElem? (i := 1018) (by decide +kernel))) (by decide +kernel)
theorem w_instanceMethod_X10_row : Cond.instanceMethod yX10_row ∈ zgd := zgd_in (List.mem_append_right _ (List.mem_of_getElem? (i := 760) (by decide +kernel))) (by decide +kernel)
theorem w_instanceMethod_X10_rows : Cond.instanceMethod yX10_rows ∈ zgd := zgd_in (List.mem_append_right _ (List.mem_of_getElem? (i := 736) (by decide +kernel))) (by decide +kernel)
theorem w_instanceMethod_X10_says : Cond.instanceMethod yX10_says ∈ zgd := zgd_in (List.mem_append_right _ (List.mem_of_getElem? (i := 948) (by decide +kernel))) (by decide +kernel)
theorem w_instanceMethod_X10_seed : Cond.instanceMethod yX10_seed ∈ zgd := zgd_in (List.mem_append_right _ (List.mem_of_getElem? (i := 1107) (by decide +kernel))) (by decide +kernel)
theorem w_instanceMethod_X10_seen : Cond.instanceMethod yX10_seen ∈ zgd := zgd_in (List.mem_append_right _ (List.mem_of_getElem? (i := 972) (by decide +kernel))) (by decide +kernel)
theorem w_instanceMethod_X10_shortest : Cond.instanceMethod yX10_shortest ∈ zgd := zgd_in (List.mem_append_right _ (List.mem_of_getElem? (i := 1014) (by decide +kernel))) (by decide +kernel)
theorem w_instanceMethod_X10_shows : Cond.instanceMethod yX10_shows ∈ zgd := zgd_in (List.mem_append_right _ (List.mem_of_getElem? (i := 1102) (by decide +kernel))) (by decide +kernel)
theorem w_instanceMethod_X10_size : Cond.instanceMethod yX10_size ∈ zgd := zgd_in (List.mem_append_right _ (List.mem_of_getElem? (i := 1144) (by decide +kernel))) (by decide +kernel)
theorem w_instanceMethod_X10_strike : Cond.instanceMethod yX10_strike ∈ zgd := zgd_in (List.mem_append_right _ (List.mem_of_getElem? (i := 1125) (by decide +kernel))) (by decide +kernel)
theorem w_instanceMethod_X10_table : Cond.instanceMethod yX10_table ∈ zgd := zgd_in (List.mem_append_right _ (List.mem_of_getElem? (i := 1027) (by decide +kernel))) (by decide +kernel)
theorem w_instanceMethod_X10_tilted : Cond.instanceMethod yX10_tilted ∈ zgd := zgd_in (List.mem_append_right _ (List.mem_of_getElem? (i := 776) (by decide +kernel))) (by decide +kernel)
theorem w_instanceMethod_X10_trick : Cond.instanceMethod yX10_trick ∈ zgd := zgd_in (List.mem_append_right _ (List.mem_of_getElem? (i := 474) (by decide +kernel))) (by decide +kernel)
theorem w_instanceMethod_X10_trouble : Cond.instanceMethod yX10_trouble ∈ zgd := zgd_in (List.mem_append_right _ (List.mem_of_getElem? (i := 1152) (by decide +kernel))) (by decide +kernel)
theorem w_instanceMethod_X10_where : Cond.instanceMethod yX10_where ∈ zgd := zgd_in (List.mem_append_right _ (List.mem_of_getElem? (i := 728) (by decide +kernel))) (by decide +kernel)
theorem w_instanceMethod_X10_words : Cond.instanceMethod yX10_words ∈ zgd := zgd_in (List.mem_append_right _ (List.mem_of_getElem? (i := 1148) (by decide +kernel))) (by decide +kernel)
theorem w_instanceMethod_X10_wordsWork : Cond.instanceMethod yX10_wordsWork ∈ zgd := zgd_in (List.mem_append_right _ (List.mem_of_getElem? (i := 1002) (by decide +kernel))) (by decide +kernel)
theorem w_instanceMethod_X10_works : Cond.instanceMethod yX10_works ∈ zgd := zgd_in (List.mem_append_right _ (List.mem_of_getElem? (i := 956) (by decide +kernel))) (by decide +kernel)
theorem w_instanceMethod_X10_wrong : Cond.instanceMethod yX10_wrong ∈ zgd := zgd_in (List.mem_append_right _ (List.mem_of_getElem? (i := 1070) (by decide +kernel))) (by decide +kernel)
theorem w_instanceMethod_X12_agrees : Cond.instanceMethod yX12_agrees ∈ zgd := zgd_in (List.mem_append_right _ (List.mem_of_getElem? (i := 1892) (by decide +kernel))) (by decide +kernel)
theorem w_instanceMethod_X12_apart : Cond.instanceMethod yX12_apart ∈ zgd := zgd_in (List.mem_append_right _ (List.mem_of_getElem? (i := 1912) (by decide +kernel))) (by decide +kernel)
theorem w_instanceMethod_X12_back : Cond.instanceMethod yX12_back ∈ zgd := zgd_in (List.mem_append_right _ (List.mem_of_getElem? (i := 1967) (by decide +kernel))) (by decide +kernel)
theorem w_instanceMethod_X12_borne : Cond.instanceMethod yX12_borne ∈ zgd := zgd_in (List.mem_append_right _ (List.mem_of_getElem? (i := 1840) (by decide +kernel))) (by decide +kernel)
theorem w_instanceMethod_X12_clash : Cond.instanceMethod yX12_clash ∈ zgd := zgd_in (List.mem_append_right _ (List.mem_of_getElem? (i := 1808) (by decide +kernel))) (by decide +kernel)
theorem w_instanceMethod_X12_count : Cond.instanceMethod yX12_count ∈ zgd := zgd_in (List.mem_append_right _ (List.mem_of_getElem? (i := 1868) (by decide +kernel))) (by decide +kernel)
theorem w_instanceMethod_X12_draw : Cond.instanceMethod yX12_draw ∈ zgd := zgd_in (List.mem_append_right _ (List.mem_of_getElem? (i := 1952) (by decide +kernel))) (by decide +kernel)
theorem w_instanceMethod_X12_evening : Cond.instanceMethod yX12_evening ∈ zgd := zgd_in (List.mem_append_right _ (List.mem_of_getElem? (i := 1888) (by decide +kernel))) (by decide +kernel)
theorem w_instanceMethod_X12_fails : Cond.instanceMethod yX12_fails ∈ zgd := zgd_in (List.mem_append_right _ (List.mem_of_getElem? (i := 1816) (by decide +kernel))) (by decide +kernel)
theorem w_instanceMethod_X12_fault : Cond.instanceMethod yX12_fault ∈ zgd := zgd_in (List.mem_append_right _ (List.mem_of_getElem? (i := 1634) (by decide +kernel))) (by decide +kernel)
theorem w_instanceMethod_X12_feed : Cond.instanceMethod yX12_feed ∈ zgd := zgd_in (List.mem_append_right _ (List.mem_of_getElem? (i := 1384) (by decide +kernel))) (by decide +kernel)
theorem w_instanceMethod_X12_fits : Cond.instanceMethod yX12_fits ∈ zgd := zgd_in (List.mem_append_right _ (List.mem_of_getElem? (i := 1682) (by decide +kernel))) (by decide +kernel)
theorem w_instanceMethod_X12_fitting : Cond.instanceMethod yX12_fitting ∈ zgd := zgd_in (List.mem_append_right _ (List.mem_of_getElem? (i := 1690) (by decide +kernel))) (by decide +kernel)
theorem w_instanceMethod_X12_found : Cond.instanceMethod yX12_found ∈ zgd := zgd_in (List.mem_append_right _ (List.mem_of_getElem? (i := 1908) (by decide +kernel))) (by decide +kernel)
theorem w_instanceMethod_X12_hand : Cond.instanceMethod yX12_hand ∈ zgd := zgd_in (List.mem_append_right _ (List.mem_of_getElem? (i := 1654) (by decide +kernel))) (by decide +kernel)
theorem w_instanceMethod_X12_handOf : Cond.instanceMethod yX12_handOf ∈ zgd := zgd_in (List.mem_append_right _ (List.mem_of_getElem? (i := 1662) (by decide +kernel))) (by decide +kernel)
theorem w_instanceMethod_X12_hands : Cond.instanceMethod yX12_hands ∈ zgd := zgd_in (List.mem_append_right _ (List.mem_of_getElem? (i := 1642) (by decide +kernel))) (by decide +kernel)
theorem w_instanceMethod_X12_hardest : Cond.instanceMethod yX12_hardest ∈ zgd := zgd_in (List.mem_append_right _ (List.mem_of_getElem? (i := 1931) (by decide +kernel))) (by decide +kernel)
theorem w_instanceMethod_X12_image : Cond.instanceMethod yX12_image ∈ zgd := zgd_in (List.mem_append_right _ (List.mem_of_getElem? (i := 1963) (by decide +kernel))) (by decide +kernel)
theorem w_instanceMethod_X12_judge : Cond.instanceMethod yX12_judge ∈ zgd := zgd_in (List.mem_append_right _ (List.mem_of_getElem? (i := 1880) (by decide +kernel))) (by decide +kernel)
theorem w_instanceMethod_X12_kept : Cond.instanceMethod yX12_kept ∈ zgd := zgd_in (List.mem_append_right _ (List.mem_of_getElem? (i := 1780) (by decide +kernel))) (by decide +kernel)
theorem w_instanceMethod_X12_laid : Cond.instanceMethod yX12_laid ∈ zgd := zgd_in (List.mem_append_right _ (List.mem_of_getElem? (i := 1812) (by decide +kernel))) (by decide +kernel)
theorem w_instanceMethod_X12_lays : Cond.instanceMethod yX12_lays ∈ zgd := zgd_in (List.mem_append_right _ (List.mem_of_getElem? (i := 1699) (by decide +kernel))) (by decide +kernel)
theorem w_instanceMethod_X12_mean : Cond.instanceMethod yX12_mean ∈ zgd := zgd_in (List.mem_append_right _ (List.mem_of_getElem? (i := 1924) (by decide +kernel))) (by decide +kernel)
theorem w_instanceMethod_X12_most : Cond.instanceMethod yX12_most ∈ zgd := zgd_in (List.mem_append_right _ (List.mem_of_getElem? (i := 1876) (by decide +kernel))) (by decide +kernel)
theorem w_instanceMethod_X12_pairs : Cond.instanceMethod yX12_pairs ∈ zgd := zgd_in (List.mem_append_right _ (List.mem_of_getElem? (i := 1860) (by decide +kernel))) (by decide +kernel)
theorem w_instanceMethod_X12_row : Cond.instanceMethod yX12_row ∈ zgd := zgd_in (List.mem_append_right _ (List.mem_of_getElem? (i := 1666) (by decide +kernel))) (by decide +kernel)
theorem w_instanceMethod_X12_rows : Cond.instanceMethod yX12_rows ∈ zgd := zgd_in (List.mem_append_right _ (List.mem_of_getElem? (i := 1646) (by decide +kernel))) (by decide +kernel)
theorem w_instanceMethod_X12_says : Cond.instanceMethod yX12_says ∈ zgd := zgd_in (List.mem_append_right _ (List.mem_of_getElem? (i := 1784) (by decide +kernel))) (by decide +kernel)
theorem w_instanceMethod_X12_seed : Cond.instanceMethod yX12_seed ∈ zgd := zgd_in (List.mem_append_right _ (List.mem_of_getElem? (i := 1939) (by decide +kernel))) (by decide +kernel)
theorem w_instanceMethod_X12_seen : Cond.instanceMethod yX12_seen ∈ zgd := zgd_in (List.mem_append_right _ (List.mem_of_getElem? (i := 1820) (by decide +kernel))) (by decide +kernel)
theorem w_instanceMethod_X12_shortest : Cond.instanceMethod yX12_shortest ∈ zgd := zgd_in (List.mem_append_right _ (List.mem_of_getElem? (i := 1856) (by decide +kernel))) (by decide +kernel)
theorem w_instanceMethod_X12_shows : Cond.instanceMethod yX12_shows ∈ zgd := zgd_in (List.mem_append_right _ (List.mem_of_getElem? (i := 1935) (by decide +kernel))) (by decide +kernel)
theorem w_instanceMethod_X12_size : Cond.instanceMethod yX12_size ∈ zgd := zgd_in (List.mem_append_right _ (List.mem_of_getElem? (i := 1975) (by decide +kernel))) (by decide +kernel)
theorem w_instanceMethod_X12_strike : Cond.instanceMethod yX12_strike ∈ zgd := zgd_in (List.mem_append_right _ (List.mem_of_getElem? (i := 1959) (by decide +kernel))) (by decide +kernel)
theorem w_instanceMethod_X12_table : Cond.instanceMethod yX12_table ∈ zgd := zgd_in (List.mem_append_right _ (List.mem_of_getElem? (i := 1864) (by decide +kernel))) (by decide +kernel)
theorem w_instanceMethod_X12_tilted : Cond.instanceMethod yX12_tilted ∈ zgd := zgd_in (List.mem_append_right _ (List.mem_of_getElem? (i := 1678) (by decide +kernel))) (by decide +kernel)
theorem w_instanceMethod_X12_trick : Cond.instanceMethod yX12_trick ∈ zgd := zgd_in (List.mem_append_right _ (List.mem_of_getElem? (i := 1388) (by decide +kernel))) (by decide +kernel)
theorem w_instanceMethod_X12_trouble : Cond.instanceMethod yX12_trouble ∈ zgd := zgd_in (List.mem_append_right _ (List.mem_of_getElem? (i := 1983) (by decide +kernel))) (by decide +kernel)
theorem w_instanceMethod_X12_where : Cond.instanceMethod yX12_where ∈ zgd := zgd_in (List.mem_append_right _ (List.mem_of_getElem? (i := 1638) (by decide +kernel))) (by decide +kernel)
theorem w_instanceMethod_X12_words : Cond.instanceMethod yX12_words ∈ zgd := zgd_in (List.mem_append_right _ (List.mem_of_getElem? (i := 1979) (by decide +kernel))) (by decide +kernel)
theorem w_instanceMethod_X12_wordsWork : Cond.instanceMethod yX12_wordsWork ∈ zgd := zgd_in (List.mem_append_right _ (List.mem_of_getElem? (i := 1848) (by decide +kernel))) (by decide +kernel)
theorem w_instanceMethod_X12_works : Cond.instanceMethod yX12_works ∈ zgd := zgd_in (List.mem_append_right _ (List.mem_of_getElem? (i := 1796) (by decide +kernel))) (by decide +kernel)
theorem w_instanceMethod_X12_wrong : Cond.instanceMethod yX12_wrong ∈ zgd := zgd_in (List.mem_append_right _ (List.mem_of_getElem? (i := 1900) (by decide +kernel))) (by decide +kernel)
theorem w_ml_RL_100 : Cond.methodLink RL 100 yX10_seen ∈ zgd := zgd_in (List.mem_append_right _ (List.mem_of_getElem? (i := 971) (by decide +kernel))) (by decide +kernel)
theorem w_ml_RL_103 : Cond.methodLink RL 103 yX12_seen ∈ zgd := zgd_in (List.mem_append_right _ (List.mem_of_getElem? (i := 1819) (by decide +kernel))) (by decide +kernel)
theorem w_ml_RL_104 : Cond.methodLink RL 104 yX10_borne ∈ zgd := zgd_in (List.mem_append_right _ (List.mem_of_getElem? (i := 997) (by decide +kernel))) (by decide +kernel)
theorem w_ml_RL_107 : Cond.methodLink RL 107 yX12_borne ∈ zgd := zgd_in (List.mem_append_right _ (List.mem_of_getElem? (i := 1839) (by decide +kernel))) (by decide +kernel)
theorem w_ml_RL_108 : Cond.methodLink RL 108 yX10_wordsWork ∈ zgd := zgd_in (List.mem_append_right _ (List.mem_of_getElem? (i := 1001) (by decide +kernel))) (by decide +kernel)
theorem w_ml_RL_111 : Cond.methodLink RL 111 yX12_wordsWork ∈ zgd := zgd_in (List.mem_append_right _ (List.mem_of_getElem? (i := 1847) (by decide +kernel))) (by decide +kernel)
theorem w_ml_RL_112 : Cond.methodLink RL 112 yX10_shortest ∈ zgd := zgd_in (List.mem_append_right _ (List.mem_of_getElem? (i := 1013) (by decide +kernel))) (by decide +kernel)
theorem w_ml_RL_115 : Cond.methodLink RL 115 yX12_shortest ∈ zgd := zgd_in (List.mem_append_right _ (List.mem_of_getElem? (i := 1855) (by decide +kernel))) (by decide +kernel)
theorem w_ml_RL_116 : Cond.methodLink RL 116 yX10_pairs ∈ zgd := zgd_in (List.mem_append_right _ (List.mem_of_getElem? (i := 1017) (by decide +kernel))) (by decide +kernel)
theorem w_ml_RL_119 : Cond.methodLink RL 119 yX12_pairs ∈ zgd := zgd_in (List.mem_append_right _ (List.mem_of_getElem? (i := 1859) (by decide +kernel))) (by decide +kernel)
theorem w_ml_RL_120 : Cond.methodLink RL 120 yX10_table ∈ zgd := zgd_in (List.mem_append_right _ (List.mem_of_getElem? (i := 1026) (by decide +kernel))) (by decide +kernel)
theorem w_ml_RL_123 : Cond.methodLink RL 123 yX12_table ∈ zgd := zgd_in (List.mem_append_right _ (List.mem_of_getElem? (i := 1863) (by decide +kernel))) (by decide +kernel)
theorem w_ml_RL_124 : Cond.methodLink RL 124 yX10_count ∈ zgd := zgd_in (List.mem_append_right _ (List.mem_of_getElem? (i := 1035) (by decide +kernel))) (by decide +kernel)
theorem w_ml_RL_128 : Cond.methodLink RL 128 yX12_count ∈ zgd := zgd_in (List.mem_append_right _ (List.mem_of_getElem? (i := 1867) (by decide +kernel))) (by decide +kernel)
theorem w_ml_RL_129 : Cond.methodLink RL 129 yX10_most ∈ zgd := zgd_in (List.mem_append_right _ (List.mem_of_getElem? (i := 1039) (by decide +kernel))) (by decide +kernel)
theorem w_ml_RL_132 : Cond.methodLink RL 132 yX12_most ∈ zgd := zgd_in (List.mem_append_right _ (List.mem_of_getElem? (i := 1875) (by decide +kernel))) (by decide +kernel)
theorem w_ml_RL_133 : Cond.methodLink RL 133 yX10_judge ∈ zgd := zgd_in (List.mem_append_right _ (List.mem_of_getElem? (i := 1049) (by decide +kernel))) (by decide +kernel)
theorem w_ml_RL_136 : Cond.methodLink RL 136 yX12_judge ∈ zgd := zgd_in (List.mem_append_right _ (List.mem_of_getElem? (i := 1879) (by decide +kernel))) (by decide +kernel)
theorem w_ml_RL_137 : Cond.methodLink RL 137 yX10_evening ∈ zgd := zgd_in (List.mem_append_right _ (List.mem_of_getElem? (i := 1057) (by decide +kernel))) (by decide +kernel)
theorem w_ml_RL_140 : Cond.methodLink RL 140 yX12_evening ∈ zgd := zgd_in (List.mem_append_right _ (List.mem_of_getElem? (i := 1887) (by decide +kernel))) (by decide +kernel)
theorem w_ml_RL_141 : Cond.methodLink RL 141 yX10_agrees ∈ zgd := zgd_in (List.mem_append_right _ (List.mem_of_getElem? (i := 1061) (by decide +kernel))) (by decide +kernel)
theorem w_ml_RL_144 : Cond.methodLink RL 144 yX12_agrees ∈ zgd := zgd_in (List.mem_append_right _ (List.mem_of_getElem? (i := 1891) (by decide +kernel))) (by decide +kernel)
theorem w_ml_RL_145 : Cond.methodLink RL 145 yX10_wrong ∈ zgd := zgd_in (List.mem_append_right _ (List.mem_of_getElem? (i := 1069) (by decide +kernel))) (by decide +kernel)
theorem w_ml_RL_148 : Cond.methodLink RL 148 yX12_wrong ∈ zgd := zgd_in (List.mem_append_right _ (List.mem_of_getElem? (i := 1899) (by decide +kernel))) (by decide +kernel)
theorem w_ml_RL_149 : Cond.methodLink RL 149 yX10_found ∈ zgd := zgd_in (List.mem_append_right _ (List.mem_of_getElem? (i := 1077) (by decide +kernel))) (by decide +kernel)
theorem w_ml_RL_152 : Cond.methodLink RL 152 yX12_found ∈ zgd := zgd_in (List.mem_append_right _ (List.mem_of_getElem? (i := 1907) (by decide +kernel))) (by decide +kernel)
theorem w_ml_RL_153 : Cond.methodLink RL 153 yX10_apart ∈ zgd := zgd_in (List.mem_append_right _ (List.mem_of_getElem? (i := 1081) (by decide +kernel))) (by decide +kernel)
theorem w_ml_RL_156 : Cond.methodLink RL 156 yX12_apart ∈ zgd := zgd_in (List.mem_append_right _ (List.mem_of_getElem? (i := 1911) (by decide +kernel))) (by decide +kernel)
theorem w_ml_RL_157 : Cond.methodLink RL 157 yX10_mean ∈ zgd := zgd_in (List.mem_append_right _ (List.mem_of_getElem? (i := 1089) (by decide +kernel))) (by decide +kernel)
theorem w_ml_RL_161 : Cond.methodLink RL 161 yX12_mean ∈ zgd := zgd_in (List.mem_append_right _ (List.mem_of_getElem? (i := 1923) (by decide +kernel))) (by decide +kernel)
theorem w_ml_RL_162 : Cond.methodLink RL 162 yX10_hardest ∈ zgd := zgd_in (List.mem_append_right _ (List.mem_of_getElem? (i := 1097) (by decide +kernel))) (by decide +kernel)
theorem w_ml_RL_165 : Cond.methodLink RL 165 yX12_hardest ∈ zgd := zgd_in (List.mem_append_right _ (List.mem_of_getElem? (i := 1930) (by decide +kernel))) (by decide +kernel)
theorem w_ml_RL_166 : Cond.methodLink RL 166 yX10_shows ∈ zgd := zgd_in (List.mem_append_right _ (List.mem_of_getElem? (i := 1101) (by decide +kernel))) (by decide +kernel)
theorem w_ml_RL_169 : Cond.methodLink RL 169 yX12_shows ∈ zgd := zgd_in (List.mem_append_right _ (List.mem_of_getElem? (i := 1934) (by decide +kernel))) (by decide +kernel)
theorem w_ml_RL_170 : Cond.methodLink RL 170 yX10_seed ∈ zgd := zgd_in (List.mem_append_right _ (List.mem_of_getElem? (i := 1106) (by decide +kernel))) (by decide +kernel)
theorem w_ml_RL_174 : Cond.methodLink RL 174 yX12_seed ∈ zgd := zgd_in (List.mem_append_right _ (List.mem_of_getElem? (i := 1938) (by decide +kernel))) (by decide +kernel)
theorem w_ml_RL_175 : Cond.methodLink RL 175 yX10_draw ∈ zgd := zgd_in (List.mem_append_right _ (List.mem_of_getElem? (i := 1119) (by decide +kernel))) (by decide +kernel)
theorem w_ml_RL_178 : Cond.methodLink RL 178 yX12_draw ∈ zgd := zgd_in (List.mem_append_right _ (List.mem_of_getElem? (i := 1951) (by decide +kernel))) (by decide +kernel)
theorem w_ml_RL_179 : Cond.methodLink RL 179 yX10_strike ∈ zgd := zgd_in (List.mem_append_right _ (List.mem_of_getElem? (i := 1124) (by decide +kernel))) (by decide +kernel)
theorem w_ml_RL_183 : Cond.methodLink RL 183 yX12_strike ∈ zgd := zgd_in (List.mem_append_right _ (List.mem_of_getElem? (i := 1958) (by decide +kernel))) (by decide +kernel)
theorem w_ml_RL_184 : Cond.methodLink RL 184 yX10_image ∈ zgd := zgd_in (List.mem_append_right _ (List.mem_of_getElem? (i := 1128) (by decide +kernel))) (by decide +kernel)
theorem w_ml_RL_187 : Cond.methodLink RL 187 yX12_image ∈ zgd := zgd_in (List.mem_append_right _ (List.mem_of_getElem? (i := 1962) (by decide +kernel))) (by decide +kernel)
theorem w_ml_RL_188 : Cond.methodLink RL 188 yX10_back ∈ zgd := zgd_in (List.mem_append_right _ (List.mem_of_getElem? (i := 1139) (by decide +kernel))) (by decide +kernel)
theorem w_ml_RL_19 : Cond.methodLink RL 19 yX10_feed ∈ zgd := zgd_in (List.mem_append_right _ (List.mem_of_getElem? (i := 465) (by decide +kernel))) (by decide +kernel)
theorem w_ml_RL_191 : Cond.methodLink RL 191 yX12_back ∈ zgd := zgd_in (List.mem_append_right _ (List.mem_of_getElem? (i := 1966) (by decide +kernel))) (by decide +kernel)
theorem w_ml_RL_201 : Cond.methodLink RL 201 yX10_size ∈ zgd := zgd_in (List.mem_append_right _ (List.mem_of_getElem? (i := 1143) (by decide +kernel))) (by decide +kernel)
theorem w_ml_RL_204 : Cond.methodLink RL 204 yX12_size ∈ zgd := zgd_in (List.mem_append_right _ (List.mem_of_getElem? (i := 1974) (by decide +kernel))) (by decide +kernel)
theorem w_ml_RL_205 : Cond.methodLink RL 205 yX10_words ∈ zgd := zgd_in (List.mem_append_right _ (List.mem_of_getElem? (i := 1147) (by decide +kernel))) (by decide +kernel)
theorem w_ml_RL_208 : Cond.methodLink RL 208 yX12_words ∈ zgd := zgd_in (List.mem_append_right _ (List.mem_of_getElem? (i := 1978) (by decide +kernel))) (by decide +kernel)
theorem w_ml_RL_209 : Cond.methodLink RL 209 yX10_trouble ∈ zgd := zgd_in (List.mem_append_right _ (List.mem_of_getElem? (i := 1151) (by decide +kernel))) (by decide +kernel)
theorem w_ml_RL_212 : Cond.methodLink RL 212 yX12_trouble ∈ zgd := zgd_in (List.mem_append_right _ (List.mem_of_getElem? (i := 1982) (by decide +kernel))) (by decide +kernel)
theorem w_ml_RL_23 : Cond.methodLink RL 23 yX12_feed ∈ zgd := zgd_in (List.mem_append_right _ (List.mem_of_getElem? (i := 1383) (by decide +kernel))) (by decide +kernel)
theorem w_ml_RL_24 : Cond.methodLink RL 24 yX10_trick ∈ zgd := zgd_in (List.mem_append_right _ (List.mem_of_getElem? (i := 473) (by decide +kernel))) (by decide +kernel)
theorem w_ml_RL_28 : Cond.methodLink RL 28 yX12_trick ∈ zgd := zgd_in (List.mem_append_right _ (List.mem_of_getElem? (i := 1387) (by decide +kernel))) (by decide +kernel)
theorem w_ml_RL_29 : Cond.methodLink RL 29 yX10_fault ∈ zgd := zgd_in (List.mem_append_right _ (List.mem_of_getElem? (i := 723) (by decide +kernel))) (by decide +kernel)
theorem w_ml_RL_33 : Cond.methodLink RL 33 yX12_fault ∈ zgd := zgd_in (List.mem_append_right _ (List.mem_of_getElem? (i := 1633) (by decide +kernel))) (by decide +kernel)
theorem w_ml_RL_34 : Cond.methodLink RL 34 yX10_where ∈ zgd := zgd_in (List.mem_append_right _ (List.mem_of_getElem? (i := 727) (by decide +kernel))) (by decide +kernel)
theorem w_ml_RL_37 : Cond.methodLink RL 37 yX12_where ∈ zgd := zgd_in (List.mem_append_right _ (List.mem_of_getElem? (i := 1637) (by decide +kernel))) (by decide +kernel)
theorem w_ml_RL_38 : Cond.methodLink RL 38 yX10_hands ∈ zgd := zgd_in (List.mem_append_right _ (List.mem_of_getElem? (i := 731) (by decide +kernel))) (by decide +kernel)
theorem w_ml_RL_41 : Cond.methodLink RL 41 yX12_hands ∈ zgd := zgd_in (List.mem_append_right _ (List.mem_of_getElem? (i := 1641) (by decide +kernel))) (by decide +kernel)
theorem w_ml_RL_42 : Cond.methodLink RL 42 yX10_rows ∈ zgd := zgd_in (List.mem_append_right _ (List.mem_of_getElem? (i := 735) (by decide +kernel))) (by decide +kernel)
theorem w_ml_RL_45 : Cond.methodLink RL 45 yX12_rows ∈ zgd := zgd_in (List.mem_append_right _ (List.mem_of_getElem? (i := 1645) (by decide +kernel))) (by decide +kernel)
theorem w_ml_RL_46 : Cond.methodLink RL 46 yX10_hand ∈ zgd := zgd_in (List.mem_append_right _ (List.mem_of_getElem? (i := 739) (by decide +kernel))) (by decide +kernel)
theorem w_ml_RL_49 : Cond.methodLink RL 49 yX12_hand ∈ zgd := zgd_in (List.mem_append_right _ (List.mem_of_getElem? (i := 1653) (by decide +kernel))) (by decide +kernel)
theorem w_ml_RL_50 : Cond.methodLink RL 50 yX10_handOf ∈ zgd := zgd_in (List.mem_append_right _ (List.mem_of_getElem? (i := 750) (by decide +kernel))) (by decide +kernel)
theorem w_ml_RL_53 : Cond.methodLink RL 53 yX12_handOf ∈ zgd := zgd_in (List.mem_append_right _ (List.mem_of_getElem? (i := 1661) (by decide +kernel))) (by decide +kernel)
theorem w_ml_RL_54 : Cond.methodLink RL 54 yX10_row ∈ zgd := zgd_in (List.mem_append_right _ (List.mem_of_getElem? (i := 759) (by decide +kernel))) (by decide +kernel)
theorem w_ml_RL_57 : Cond.methodLink RL 57 yX12_row ∈ zgd := zgd_in (List.mem_append_right _ (List.mem_of_getElem? (i := 1665) (by decide +kernel))) (by decide +kernel)
theorem w_ml_RL_58 : Cond.methodLink RL 58 yX10_tilted ∈ zgd := zgd_in (List.mem_append_right _ (List.mem_of_getElem? (i := 775) (by decide +kernel))) (by decide +kernel)
theorem w_ml_RL_61 : Cond.methodLink RL 61 yX12_tilted ∈ zgd := zgd_in (List.mem_append_right _ (List.mem_of_getElem? (i := 1677) (by decide +kernel))) (by decide +kernel)
theorem w_ml_RL_62 : Cond.methodLink RL 62 yX10_fits ∈ zgd := zgd_in (List.mem_append_right _ (List.mem_of_getElem? (i := 779) (by decide +kernel))) (by decide +kernel)
theorem w_ml_RL_65 : Cond.methodLink RL 65 yX12_fits ∈ zgd := zgd_in (List.mem_append_right _ (List.mem_of_getElem? (i := 1681) (by decide +kernel))) (by decide +kernel)
theorem w_ml_RL_66 : Cond.methodLink RL 66 yX10_fitting ∈ zgd := zgd_in (List.mem_append_right _ (List.mem_of_getElem? (i := 800) (by decide +kernel))) (by decide +kernel)
theorem w_ml_RL_69 : Cond.methodLink RL 69 yX12_fitting ∈ zgd := zgd_in (List.mem_append_right _ (List.mem_of_getElem? (i := 1689) (by decide +kernel))) (by decide +kernel)
theorem w_ml_RL_70 : Cond.methodLink RL 70 yX10_lays ∈ zgd := zgd_in (List.mem_append_right _ (List.mem_of_getElem? (i := 812) (by decide +kernel))) (by decide +kernel)
theorem w_ml_RL_73 : Cond.methodLink RL 73 yX12_lays ∈ zgd := zgd_in (List.mem_append_right _ (List.mem_of_getElem? (i := 1698) (by decide +kernel))) (by decide +kernel)
theorem w_ml_RL_74 : Cond.methodLink RL 74 yX10_kept ∈ zgd := zgd_in (List.mem_append_right _ (List.mem_of_getElem? (i := 938) (by decide +kernel))) (by decide +kernel)
theorem w_ml_RL_78 : Cond.methodLink RL 78 yX12_kept ∈ zgd := zgd_in (List.mem_append_right _ (List.mem_of_getElem? (i := 1779) (by decide +kernel))) (by decide +kernel)
theorem w_ml_RL_79 : Cond.methodLink RL 79 yX10_says ∈ zgd := zgd_in (List.mem_append_right _ (List.mem_of_getElem? (i := 947) (by decide +kernel))) (by decide +kernel)
theorem w_ml_RL_82 : Cond.methodLink RL 82 yX12_says ∈ zgd := zgd_in (List.mem_append_right _ (List.mem_of_getElem? (i := 1783) (by decide +kernel))) (by decide +kernel)
theorem w_ml_RL_83 : Cond.methodLink RL 83 yX10_works ∈ zgd := zgd_in (List.mem_append_right _ (List.mem_of_getElem? (i := 955) (by decide +kernel))) (by decide +kernel)
theorem w_ml_RL_86 : Cond.methodLink RL 86 yX12_works ∈ zgd := zgd_in (List.mem_append_right _ (List.mem_of_getElem? (i := 1795) (by decide +kernel))) (by decide +kernel)
theorem w_ml_RL_87 : Cond.methodLink RL 87 yX10_clash ∈ zgd := zgd_in (List.mem_append_right _ (List.mem_of_getElem? (i := 959) (by decide +kernel))) (by decide +kernel)
theorem w_ml_RL_91 : Cond.methodLink RL 91 yX12_clash ∈ zgd := zgd_in (List.mem_append_right _ (List.mem_of_getElem? (i := 1807) (by decide +kernel))) (by decide +kernel)
theorem w_ml_RL_92 : Cond.methodLink RL 92 yX10_laid ∈ zgd := zgd_in (List.mem_append_right _ (List.mem_of_getElem? (i := 963) (by decide +kernel))) (by decide +kernel)
theorem w_ml_RL_95 : Cond.methodLink RL 95 yX12_laid ∈ zgd := zgd_in (List.mem_append_right _ (List.mem_of_getElem? (i := 1811) (by decide +kernel))) (by decide +kernel)
theorem w_ml_RL_96 : Cond.methodLink RL 96 yX10_fails ∈ zgd := zgd_in (List.mem_append_right _ (List.mem_of_getElem? (i := 967) (by decide +kernel))) (by decide +kernel)
theorem w_ml_RL_99 : Cond.methodLink RL 99 yX12_fails ∈ zgd := zgd_in (List.mem_append_right _ (List.mem_of_getElem? (i := 1815) (by decide +kernel))) (by decide +kernel)
theorem w_sel_X10_agrees : Cond.selects RX10 yX10_agrees yX10_agrees ∈ zgd := zgd_in (List.mem_append_right _ (List.mem_of_getElem? (i := 1063) (by decide +kernel))) (by decide +kernel)
theorem w_sel_X10_apart : Cond.selects RX10 yX10_apart yX10_apart ∈ zgd := zgd_in (List.mem_append_right _ (List.mem_of_getElem? (i := 1083) (by decide +kernel))) (by decide +kernel)
theorem w_sel_X10_back : Cond.selects RX10 yX10_back yX10_back ∈ zgd := zgd_in (List.mem_append_right _ (List.mem_of_getElem? (i := 1141) (by decide +kernel))) (by decide +kernel)
theorem w_sel_X10_borne : Cond.selects RX10 yX10_borne yX10_borne ∈ zgd := zgd_in (List.mem_append_right _ (List.mem_of_getElem? (i := 999) (by decide +kernel))) (by decide +kernel)
theorem w_sel_X10_clash : Cond.selects RX10 yX10_clash yX10_clash ∈ zgd := zgd_in (List.mem_append_right _ (List.mem_of_getElem? (i := 961) (by decide +kernel))) (by decide +kernel)
theorem w_sel_X10_count : Cond.selects RX10 yX10_count yX10_count ∈ zgd := zgd_in (List.mem_append_right _ (List.mem_of_getElem? (i := 1037) (by decide +kernel))) (by decide +kernel)
theorem w_sel_X10_draw : Cond.selects RX10 yX10_draw yX10_draw ∈ zgd := zgd_in (List.mem_append_right _ (List.mem_of_getElem? (i := 1121) (by decide +kernel))) (by decide +kernel)
theorem w_sel_X10_evening : Cond.selects RX10 yX10_evening yX10_evening ∈ zgd := zgd_in (List.mem_append_right _ (List.mem_of_getElem? (i := 1059) (by decide +kernel))) (by decide +kernel)
theorem w_sel_X10_fails : Cond.selects RX10 yX10_fails yX10_fails ∈ zgd := zgd_in (List.mem_append_right _ (List.mem_of_getElem? (i := 969) (by decide +kernel))) (by decide +kernel)
theorem w_sel_X10_fault : Cond.selects RX10 yX10_fault yX10_fault ∈ zgd := zgd_in (List.mem_append_right _ (List.mem_of_getElem? (i := 725) (by decide +kernel))) (by decide +kernel)
theorem w_sel_X10_feed : Cond.selects RX10 yX10_feed yX10_feed ∈ zgd := zgd_in (List.mem_append_right _ (List.mem_of_getElem? (i := 467) (by decide +kernel))) (by decide +kernel)
theorem w_sel_X10_fits : Cond.selects RX10 yX10_fits yX10_fits ∈ zgd := zgd_in (List.mem_append_right _ (List.mem_of_getElem? (i := 781) (by decide +kernel))) (by decide +kernel)
theorem w_sel_X10_fitting : Cond.selects RX10 yX10_fitting yX10_fitting ∈ zgd := zgd_in (List.mem_append_right _ (List.mem_of_getElem? (i := 802) (by decide +kernel))) (by decide +kernel)
theorem w_sel_X10_found : Cond.selects RX10 yX10_found yX10_found ∈ zgd := zgd_in (List.mem_append_right _ (List.mem_of_getElem? (i := 1079) (by decide +kernel))) (by decide +kernel)
theorem w_sel_X10_hand : Cond.selects RX10 yX10_hand yX10_hand ∈ zgd := zgd_in (List.mem_append_right _ (List.mem_of_getElem? (i := 741) (by decide +kernel))) (by decide +kernel)
theorem w_sel_X10_handOf : Cond.selects RX10 yX10_handOf yX10_handOf ∈ zgd := zgd_in (List.mem_append_right _ (List.mem_of_getElem? (i := 752) (by decide +kernel))) (by decide +kernel)
theorem w_sel_X10_hands : Cond.selects RX10 yX10_hands yX10_hands ∈ zgd := zgd_in (List.mem_append_right _ (List.mem_of_getElem? (i := 733) (by decide +kernel))) (by decide +kernel)
theorem w_sel_X10_hardest : Cond.selects RX10 yX10_hardest yX10_hardest ∈ zgd := zgd_in (List.mem_append_right _ (List.mem_of_getElem? (i := 1099) (by decide +kernel))) (by decide +kernel)
theorem w_sel_X10_image : Cond.selects RX10 yX10_image yX10_image ∈ zgd := zgd_in (List.mem_append_right _ (List.mem_of_getElem? (i := 1130) (by decide +kernel))) (by decide +kernel)
theorem w_sel_X10_judge : Cond.selects RX10 yX10_judge yX10_judge ∈ zgd := zgd_in (List.mem_append_right _ (List.mem_of_getElem? (i := 1051) (by decide +kernel))) (by decide +kernel)
theorem w_sel_X10_kept : Cond.selects RX10 yX10_kept yX10_kept ∈ zgd := zgd_in (List.mem_append_right _ (List.mem_of_getElem? (i := 940) (by decide +kernel))) (by decide +kernel)
theorem w_sel_X10_laid : Cond.selects RX10 yX10_laid yX10_laid ∈ zgd := zgd_in (List.mem_append_right _ (List.mem_of_getElem? (i := 965) (by decide +kernel))) (by decide +kernel)
theorem w_sel_X10_lays : Cond.selects RX10 yX10_lays yX10_lays ∈ zgd := zgd_in (List.mem_append_right _ (List.mem_of_getElem? (i := 814) (by decide +kernel))) (by decide +kernel)
theorem w_sel_X10_mean : Cond.selects RX10 yX10_mean yX10_mean ∈ zgd := zgd_in (List.mem_append_right _ (List.mem_of_getElem? (i := 1091) (by decide +kernel))) (by decide +kernel)
theorem w_sel_X10_most : Cond.selects RX10 yX10_most yX10_most ∈ zgd := zgd_in (List.mem_append_right _ (List.mem_of_getElem? (i := 1041) (by decide +kernel))) (by decide +kernel)
theorem w_sel_X10_pairs : Cond.selects RX10 yX10_pairs yX10_pairs ∈ zgd := zgd_in (List.mem_append_right _ (List.mem_of_getElem? (i := 1019) (by decide +kernel))) (by decide +kernel)
theorem w_sel_X10_row : Cond.selects RX10 yX10_row yX10_row ∈ zgd := zgd_in (List.mem_append_right _ (List.mem_of_getElem? (i := 761) (by decide +kernel))) (by decide +kernel)
theorem w_sel_X10_rows : Cond.selects RX10 yX10_rows yX10_rows ∈ zgd := zgd_in (List.mem_append_right _ (List.mem_of_getElem? (i := 737) (by decide +kernel))) (by decide +kernel)
theorem w_sel_X10_says : Cond.selects RX10 yX10_says yX10_says ∈ zgd := zgd_in (List.mem_append_right _ (List.mem_of_getElem? (i := 949) (by decide +kernel))) (by decide +kernel)
theorem w_sel_X10_seed : Cond.selects RX10 yX10_seed yX10_seed ∈ zgd := zgd_in (List.mem_append_right _ (List.mem_of_getElem? (i := 1108) (by decide +kernel))) (by decide +kernel)
theorem w_sel_X10_seen : Cond.selects RX10 yX10_seen yX10_seen ∈ zgd := zgd_in (List.mem_append_right _ (List.mem_of_getElem? (i := 973) (by decide +kernel))) (by decide +kernel)
theorem w_sel_X10_shortest : Cond.selects RX10 yX10_shortest yX10_shortest ∈ zgd := zgd_in (List.mem_append_right _ (List.mem_of_getElem? (i := 1015) (by decide +kernel))) (by decide +kernel)
theorem w_sel_X10_shows : Cond.selects RX10 yX10_shows yX10_shows ∈ zgd := zgd_in (List.mem_append_right _ (List.mem_of_getElem? (i := 1103) (by decide +kernel))) (by decide +kernel)
theorem w_sel_X10_size : Cond.selects RX10 yX10_size yX10_size ∈ zgd := zgd_in (List.mem_append_right _ (List.mem_of_getElem? (i := 1145) (by decide +kernel))) (by decide +kernel)
theorem w_sel_X10_strike : Cond.selects RX10 yX10_strike yX10_strike ∈ zgd := zgd_in (List.mem_append_right _ (List.mem_of_getElem? (i := 1126) (by decide +kernel))) (by decide +kernel)
theorem w_sel_X10_table : Cond.selects RX10 yX10_table yX10_table ∈ zgd := zgd_in (List.mem_append_right _ (List.mem_of_getElem? (i := 1028) (by decide +kernel))) (by decide +kernel)
theorem w_sel_X10_tilted : Cond.selects RX10 yX10_tilted yX10_tilted ∈ zgd := zgd_in (List.mem_append_right _ (List.mem_of_getElem? (i := 777) (by decide +kernel))) (by decide +kernel)
theorem w_sel_X10_trick : Cond.selects RX10 yX10_trick yX10_trick ∈ zgd := zgd_in (List.mem_append_right _ (List.mem_of_getElem? (i := 475) (by decide +kernel))) (by decide +kernel)
theorem w_sel_X10_trouble : Cond.selects RX10 yX10_trouble yX10_trouble ∈ zgd := zgd_in (List.mem_append_right _ (List.mem_of_getElem? (i := 1153) (by decide +kernel))) (by decide +kernel)
theorem w_sel_X10_where : Cond.selects RX10 yX10_where yX10_where ∈ zgd := zgd_in (List.mem_append_right _ (List.mem_of_getElem? (i := 729) (by decide +kernel))) (by decide +kernel)
theorem w_sel_X10_words : Cond.selects RX10 yX10_words yX10_words ∈ zgd := zgd_in (List.mem_append_right _ (List.mem_of_getElem? (i := 1149) (by decide +kernel))) (by decide +kernel)
theorem w_sel_X10_wordsWork : Cond.selects RX10 yX10_wordsWork yX10_wordsWork ∈ zgd := zgd_in (List.mem_append_right _ (List.mem_of_getElem? (i := 1003) (by decide +kernel))) (by decide +kernel)
theorem w_sel_X10_works : Cond.selects RX10 yX10_works yX10_works ∈ zgd := zgd_in (List.mem_append_right _ (List.mem_of_getElem? (i := 957) (by decide +kernel))) (by decide +kernel)
theorem w_sel_X10_wrong : Cond.selects RX10 yX10_wrong yX10_wrong ∈ zgd := zgd_in (List.mem_append_right _ (List.mem_of_getElem? (i := 1071) (by decide +kernel))) (by decide +kernel)
theorem w_sel_X12_agrees : Cond.selects RX12 yX12_agrees yX12_agrees ∈ zgd := zgd_in (List.mem_append_right _ (List.mem_of_getElem? (i := 1893) (by decide +kernel))) (by decide +kernel)
theorem w_sel_X12_apart : Cond.selects RX12 yX12_apart yX12_apart ∈ zgd := zgd_in (List.mem_append_right _ (List.mem_of_getElem? (i := 1913) (by decide +kernel))) (by decide +kernel)
theorem w_sel_X12_back : Cond.selects RX12 yX12_back yX12_back ∈ zgd := zgd_in (List.mem_append_right _ (List.mem_of_getElem? (i := 1968) (by decide +kernel))) (by decide +kernel)
theorem w_sel_X12_borne : Cond.selects RX12 yX12_borne yX12_borne ∈ zgd := zgd_in (List.mem_append_right _ (List.mem_of_getElem? (i := 1841) (by decide +kernel))) (by decide +kernel)
theorem w_sel_X12_clash : Cond.selects RX12 yX12_clash yX12_clash ∈ zgd := zgd_in (List.mem_append_right _ (List.mem_of_getElem? (i := 1809) (by decide +kernel))) (by decide +kernel)
theorem w_sel_X12_count : Cond.selects RX12 yX12_count yX12_count ∈ zgd := zgd_in (List.mem_append_right _ (List.mem_of_getElem? (i := 1869) (by decide +kernel))) (by decide +kernel)
theorem w_sel_X12_draw : Cond.selects RX12 yX12_draw yX12_draw ∈ zgd := zgd_in (List.mem_append_right _ (List.mem_of_getElem? (i := 1953) (by decide +kernel))) (by decide +kernel)
theorem w_sel_X12_evening : Cond.selects RX12 yX12_evening yX12_evening ∈ zgd := zgd_in (List.mem_append_right _ (List.mem_of_getElem? (i := 1889) (by decide +kernel))) (by decide +kernel)
theorem w_sel_X12_fails : Cond.selects RX12 yX12_fails yX12_fails ∈ zgd := zgd_in (List.mem_append_right _ (List.mem_of_getElem? (i := 1817) (by decide +kernel))) (by decide +kernel)
theorem w_sel_X12_fault : Cond.selects RX12 yX12_fault yX12_fault ∈ zgd := zgd_in (List.mem_append_right _ (List.mem_of_getElem? (i := 1635) (by decide +kernel))) (by decide +kernel)
theorem w_sel_X12_feed : Cond.selects RX12 yX12_feed yX12_feed ∈ zgd := zgd_in (List.mem_append_right _ (List.mem_of_getElem? (i := 1385) (by decide +kernel))) (by decide +kernel)
theorem w_sel_X12_fits : Cond.selects RX12 yX12_fits yX12_fits ∈ zgd := zgd_in (List.mem_append_right _ (List.mem_of_getElem? (i := 1683) (by decide +kernel))) (by decide +kernel)
theorem w_sel_X12_fitting : Cond.selects RX12 yX12_fitting yX12_fitting ∈ zgd := zgd_in (List.mem_append_right _ (List.mem_of_getElem? (i := 1691) (by decide +kernel))) (by decide +kernel)
theorem w_sel_X12_found : Cond.selects RX12 yX12_found yX12_found ∈ zgd := zgd_in (List.mem_append_right _ (List.mem_of_getElem? (i := 1909) (by decide +kernel))) (by decide +kernel)
theorem w_sel_X12_hand : Cond.selects RX12 yX12_hand yX12_hand ∈ zgd := zgd_in (List.mem_append_right _ (List.mem_of_getElem? (i := 1655) (by decide +kernel))) (by decide +kernel)
theorem w_sel_X12_handOf : Cond.selects RX12 yX12_handOf yX12_handOf ∈ zgd := zgd_in (List.mem_append_right _ (List.mem_of_getElem? (i := 1663) (by decide +kernel))) (by decide +kernel)
theorem w_sel_X12_hands : Cond.selects RX12 yX12_hands yX12_hands ∈ zgd := zgd_in (List.mem_append_right _ (List.mem_of_getElem? (i := 1643) (by decide +kernel))) (by decide +kernel)
theorem w_sel_X12_hardest : Cond.selects RX12 yX12_hardest yX12_hardest ∈ zgd := zgd_in (List.mem_append_right _ (List.mem_of_getElem? (i := 1932) (by decide +kernel))) (by decide +kernel)
theorem w_sel_X12_image : Cond.selects RX12 yX12_image yX12_image ∈ zgd := zgd_in (List.mem_append_right _ (List.mem_of_getElem? (i := 1964) (by decide +kernel))) (by decide +kernel)
theorem w_sel_X12_judge : Cond.selects RX12 yX12_judge yX12_judge ∈ zgd := zgd_in (List.mem_append_right _ (List.mem_of_getElem? (i := 1881) (by decide +kernel))) (by decide +kernel)
theorem w_sel_X12_kept : Cond.selects RX12 yX12_kept yX12_kept ∈ zgd := zgd_in (List.mem_append_right _ (List.mem_of_getElem? (i := 1781) (by decide +kernel))) (by decide +kernel)
theorem w_sel_X12_laid : Cond.selects RX12 yX12_laid yX12_laid ∈ zgd := zgd_in (List.mem_append_right _ (List.mem_of_getElem? (i := 1813) (by decide +kernel))) (by decide +kernel)
theorem w_sel_X12_lays : Cond.selects RX12 yX12_lays yX12_lays ∈ zgd := zgd_in (List.mem_append_right _ (List.mem_of_getElem? (i := 1700) (by decide +kernel))) (by decide +kernel)
theorem w_sel_X12_mean : Cond.selects RX12 yX12_mean yX12_mean ∈ zgd := zgd_in (List.mem_append_right _ (List.mem_of_getElem? (i := 1925) (by decide +kernel))) (by decide +kernel)
theorem w_sel_X12_most : Cond.selects RX12 yX12_most yX12_most ∈ zgd := zgd_in (List.mem_append_right _ (List.mem_of_getElem? (i := 1877) (by decide +kernel))) (by decide +kernel)
theorem w_sel_X12_pairs : Cond.selects RX12 yX12_pairs yX12_pairs ∈ zgd := zgd_in (List.mem_append_right _ (List.mem_of_getElem? (i := 1861) (by decide +kernel))) (by decide +kernel)
theorem w_sel_X12_row : Cond.selects RX12 yX12_row yX12_row ∈ zgd := zgd_in (List.mem_append_right _ (List.mem_of_getElem? (i := 1667) (by decide +kernel))) (by decide +kernel)
theorem w_sel_X12_rows : Cond.selects RX12 yX12_rows yX12_rows ∈ zgd := zgd_in (List.mem_append_right _ (List.mem_of_getElem? (i := 1647) (by decide +kernel))) (by decide +kernel)
theorem w_sel_X12_says : Cond.selects RX12 yX12_says yX12_says ∈ zgd := zgd_in (List.mem_append_right _ (List.mem_of_getElem? (i := 1785) (by decide +kernel))) (by decide +kernel)
theorem w_sel_X12_seed : Cond.selects RX12 yX12_seed yX12_seed ∈ zgd := zgd_in (List.mem_append_right _ (List.mem_of_getElem? (i := 1940) (by decide +kernel))) (by decide +kernel)
theorem w_sel_X12_seen : Cond.selects RX12 yX12_seen yX12_seen ∈ zgd := zgd_in (List.mem_append_right _ (List.mem_of_getElem? (i := 1821) (by decide +kernel))) (by decide +kernel)
theorem w_sel_X12_shortest : Cond.selects RX12 yX12_shortest yX12_shortest ∈ zgd := zgd_in (List.mem_append_right _ (List.mem_of_getElem? (i := 1857) (by decide +kernel))) (by decide +kernel)
theorem w_sel_X12_shows : Cond.selects RX12 yX12_shows yX12_shows ∈ zgd := zgd_in (List.mem_append_right _ (List.mem_of_getElem? (i := 1936) (by decide +kernel))) (by decide +kernel)
theorem w_sel_X12_size : Cond.selects RX12 yX12_size yX12_size ∈ zgd := zgd_in (List.mem_append_right _ (List.mem_of_getElem? (i := 1976) (by decide +kernel))) (by decide +kernel)
theorem w_sel_X12_strike : Cond.selects RX12 yX12_strike yX12_strike ∈ zgd := zgd_in (List.mem_append_right _ (List.mem_of_getElem? (i := 1960) (by decide +kernel))) (by decide +kernel)
theorem w_sel_X12_table : Cond.selects RX12 yX12_table yX12_table ∈ zgd := zgd_in (List.mem_append_right _ (List.mem_of_getElem? (i := 1865) (by decide +kernel))) (by decide +kernel)
theorem w_sel_X12_tilted : Cond.selects RX12 yX12_tilted yX12_tilted ∈ zgd := zgd_in (List.mem_append_right _ (List.mem_of_getElem? (i := 1679) (by decide +kernel))) (by decide +kernel)
theorem w_sel_X12_trick : Cond.selects RX12 yX12_trick yX12_trick ∈ zgd := zgd_in (List.mem_append_right _ (List.mem_of_getElem? (i := 1389) (by decide +kernel))) (by decide +kernel)
theorem w_sel_X12_trouble : Cond.selects RX12 yX12_trouble yX12_trouble ∈ zgd := zgd_in (List.mem_append_right _ (List.mem_of_getElem? (i := 1984) (by decide +kernel))) (by decide +kernel)
theorem w_sel_X12_where : Cond.selects RX12 yX12_where yX12_where ∈ zgd := zgd_in (List.mem_append_right _ (List.mem_of_getElem? (i := 1639) (by decide +kernel))) (by decide +kernel)
theorem w_sel_X12_words : Cond.selects RX12 yX12_words yX12_words ∈ zgd := zgd_in (List.mem_append_right _ (List.mem_of_getElem? (i := 1980) (by decide +kernel))) (by decide +kernel)
theorem w_sel_X12_wordsWork : Cond.selects RX12 yX12_wordsWork yX12_wordsWork ∈ zgd := zgd_in (List.mem_append_right _ (List.mem_of_getElem? (i := 1849) (by decide +kernel))) (by decide +kernel)
theorem w_sel_X12_works : Cond.selects RX12 yX12_works yX12_works ∈ zgd := zgd_in (List.mem_append_right _ (List.mem_of_getElem? (i := 1797) (by decide +kernel))) (by decide +kernel)
theorem w_sel_X12_wrong : Cond.selects RX12 yX12_wrong yX12_wrong ∈ zgd := zgd_in (List.mem_append_right _ (List.mem_of_getElem? (i := 1901) (by decide +kernel))) (by decide +kernel)
theorem dL_law_0 : decode cL_law 0 = .ok (.new 8, 3) := by decide +kernel
theorem dL_law_3 : decode cL_law 3 = .ok (.dup, 1) := by decide +kernel
theorem dL_law_4 : decode cL_law 4 = .ok (.invokespecial 15, 3) := by decide +kernel
theorem dL_law_7 : decode cL_law 7 = .ok (.astore_n 1, 1) := by decide +kernel
theorem dL_law_8 : decode cL_law 8 = .ok (.new 16, 3) := by decide +kernel
theorem dL_law_11 : decode cL_law 11 = .ok (.dup, 1) := by decide +kernel
theorem dL_law_12 : decode cL_law 12 = .ok (.invokespecial 18, 3) := by decide +kernel
theorem dL_law_15 : decode cL_law 15 = .ok (.astore_n 2, 1) := by decide +kernel
theorem dL_law_16 : decode cL_law 16 = .ok (.iconst 1, 1) := by decide +kernel
theorem dL_law_17 : decode cL_law 17 = .ok (.newarray .long, 2) := by decide +kernel
theorem dL_law_19 : decode cL_law 19 = .ok (.astore_n 3, 1) := by decide +kernel
theorem dL_law_20 : decode cL_law 20 = .ok (.iconst 0, 1) := by decide +kernel
theorem dL_law_21 : decode cL_law 21 = .ok (.istore 4, 2) := by decide +kernel
theorem dL_law_23 : decode cL_law 23 = .ok (.iload 4, 2) := by decide +kernel
theorem dL_law_25 : decode cL_law 25 = .ok (.aload_n 0, 1) := by decide +kernel
theorem dL_law_26 : decode cL_law 26 = .ok (.arraylength, 1) := by decide +kernel
theorem dL_law_27 : decode cL_law 27 = .ok (.bipush 6, 2) := by decide +kernel
theorem dL_law_29 : decode cL_law 29 = .ok (.isub, 1) := by decide +kernel
theorem dL_law_30 : decode cL_law 30 = .ok (.if_icmp .gt 1541, 3) := by decide +kernel
theorem dL_law_33 : decode cL_law 33 = .ok (.aload_n 0, 1) := by decide +kernel
theorem dL_law_34 : decode cL_law 34 = .ok (.iload 4, 2) := by decide +kernel
theorem dL_law_36 : decode cL_law 36 = .ok (.iaload, 1) := by decide +kernel
theorem dL_law_37 : decode cL_law 37 = .ok (.bipush 63, 2) := by decide +kernel
theorem dL_law_39 : decode cL_law 39 = .ok (.iand, 1) := by decide +kernel
theorem dL_law_40 : decode cL_law 40 = .ok (.tableswitch 1525 0 44 #[196, 269, 294, 307, 320, 333, 346, 383, 456, 493, 518, 555, 568, 605, 654, 691, 716, 769, 794, 819, 844, 869, 894, 907, 920, 945, 999, 1012, 1037, 1090, 1115, 1140, 1153, 1190, 1255, 1268, 1305, 1330, 1343, 1356, 1369, 1394, 1462, 1487, 1512], 196) := by decide +kernel
theorem dL_law_236 : decode cL_law 236 = .ok (.aload_n 1, 1) := by decide +kernel
theorem dL_law_237 : decode cL_law 237 = .ok (.aload_n 0, 1) := by decide +kernel
theorem dL_law_238 : decode cL_law 238 = .ok (.iload 4, 2) := by decide +kernel
theorem dL_law_240 : decode cL_law 240 = .ok (.iconst 1, 1) := by decide +kernel
theorem dL_law_241 : decode cL_law 241 = .ok (.iadd, 1) := by decide +kernel
theorem dL_law_242 : decode cL_law 242 = .ok (.iaload, 1) := by decide +kernel
theorem dL_law_243 : decode cL_law 243 = .ok (.aload_n 0, 1) := by decide +kernel
theorem dL_law_244 : decode cL_law 244 = .ok (.iload 4, 2) := by decide +kernel
theorem dL_law_246 : decode cL_law 246 = .ok (.iconst 2, 1) := by decide +kernel
theorem dL_law_247 : decode cL_law 247 = .ok (.iadd, 1) := by decide +kernel
theorem dL_law_248 : decode cL_law 248 = .ok (.iaload, 1) := by decide +kernel
theorem dL_law_249 : decode cL_law 249 = .ok (.aload_n 0, 1) := by decide +kernel
theorem dL_law_250 : decode cL_law 250 = .ok (.iload 4, 2) := by decide +kernel
theorem dL_law_252 : decode cL_law 252 = .ok (.iconst 3, 1) := by decide +kernel
theorem dL_law_253 : decode cL_law 253 = .ok (.iadd, 1) := by decide +kernel
theorem dL_law_254 : decode cL_law 254 = .ok (.iaload, 1) := by decide +kernel
theorem dL_law_255 : decode cL_law 255 = .ok (.aload_n 0, 1) := by decide +kernel
theorem dL_law_256 : decode cL_law 256 = .ok (.iload 4, 2) := by decide +kernel
theorem dL_law_258 : decode cL_law 258 = .ok (.iconst 4, 1) := by decide +kernel
theorem dL_law_259 : decode cL_law 259 = .ok (.iadd, 1) := by decide +kernel
theorem dL_law_260 : decode cL_law 260 = .ok (.iaload, 1) := by decide +kernel
theorem dL_law_261 : decode cL_law 261 = .ok (.aload_n 0, 1) := by decide +kernel
theorem dL_law_262 : decode cL_law 262 = .ok (.iload 4, 2) := by decide +kernel
theorem dL_law_264 : decode cL_law 264 = .ok (.iconst 5, 1) := by decide +kernel
theorem dL_law_265 : decode cL_law 265 = .ok (.iadd, 1) := by decide +kernel
theorem dL_law_266 : decode cL_law 266 = .ok (.iaload, 1) := by decide +kernel
theorem dL_law_267 : decode cL_law 267 = .ok (.invokevirtual 19, 3) := by decide +kernel
theorem dL_law_270 : decode cL_law 270 = .ok (.aload_n 2, 1) := by decide +kernel
theorem dL_law_271 : decode cL_law 271 = .ok (.aload_n 0, 1) := by decide +kernel
theorem dL_law_272 : decode cL_law 272 = .ok (.iload 4, 2) := by decide +kernel
theorem dL_law_274 : decode cL_law 274 = .ok (.iconst 1, 1) := by decide +kernel
theorem dL_law_275 : decode cL_law 275 = .ok (.iadd, 1) := by decide +kernel
theorem dL_law_276 : decode cL_law 276 = .ok (.iaload, 1) := by decide +kernel
theorem dL_law_277 : decode cL_law 277 = .ok (.aload_n 0, 1) := by decide +kernel
theorem dL_law_278 : decode cL_law 278 = .ok (.iload 4, 2) := by decide +kernel
theorem dL_law_280 : decode cL_law 280 = .ok (.iconst 2, 1) := by decide +kernel
theorem dL_law_281 : decode cL_law 281 = .ok (.iadd, 1) := by decide +kernel
theorem dL_law_282 : decode cL_law 282 = .ok (.iaload, 1) := by decide +kernel
theorem dL_law_283 : decode cL_law 283 = .ok (.aload_n 0, 1) := by decide +kernel
theorem dL_law_284 : decode cL_law 284 = .ok (.iload 4, 2) := by decide +kernel
theorem dL_law_286 : decode cL_law 286 = .ok (.iconst 3, 1) := by decide +kernel
theorem dL_law_287 : decode cL_law 287 = .ok (.iadd, 1) := by decide +kernel
theorem dL_law_288 : decode cL_law 288 = .ok (.iaload, 1) := by decide +kernel
theorem dL_law_289 : decode cL_law 289 = .ok (.aload_n 0, 1) := by decide +kernel
theorem dL_law_290 : decode cL_law 290 = .ok (.iload 4, 2) := by decide +kernel
theorem dL_law_292 : decode cL_law 292 = .ok (.iconst 4, 1) := by decide +kernel
theorem dL_law_293 : decode cL_law 293 = .ok (.iadd, 1) := by decide +kernel
theorem dL_law_294 : decode cL_law 294 = .ok (.iaload, 1) := by decide +kernel
theorem dL_law_295 : decode cL_law 295 = .ok (.aload_n 0, 1) := by decide +kernel
theorem dL_law_296 : decode cL_law 296 = .ok (.iload 4, 2) := by decide +kernel
theorem dL_law_298 : decode cL_law 298 = .ok (.iconst 5, 1) := by decide +kernel
theorem dL_law_299 : decode cL_law 299 = .ok (.iadd, 1) := by decide +kernel
theorem dL_law_300 : decode cL_law 300 = .ok (.iaload, 1) := by decide +kernel
theorem dL_law_301 : decode cL_law 301 = .ok (.invokevirtual 23, 3) := by decide +kernel
theorem dL_law_304 : decode cL_law 304 = .ok (.if_icmp .eq 1261, 3) := by decide +kernel
theorem dL_law_309 : decode cL_law 309 = .ok (.aload_n 1, 1) := by decide +kernel
theorem dL_law_310 : decode cL_law 310 = .ok (.aload_n 0, 1) := by decide +kernel
theorem dL_law_311 : decode cL_law 311 = .ok (.iload 4, 2) := by decide +kernel
theorem dL_law_313 : decode cL_law 313 = .ok (.iconst 1, 1) := by decide +kernel
theorem dL_law_314 : decode cL_law 314 = .ok (.iadd, 1) := by decide +kernel
theorem dL_law_315 : decode cL_law 315 = .ok (.iaload, 1) := by decide +kernel
theorem dL_law_316 : decode cL_law 316 = .ok (.invokevirtual 24, 3) := by decide +kernel
theorem dL_law_319 : decode cL_law 319 = .ok (.aload_n 2, 1) := by decide +kernel
theorem dL_law_320 : decode cL_law 320 = .ok (.aload_n 0, 1) := by decide +kernel
theorem dL_law_321 : decode cL_law 321 = .ok (.iload 4, 2) := by decide +kernel
theorem dL_law_323 : decode cL_law 323 = .ok (.iconst 1, 1) := by decide +kernel
theorem dL_law_324 : decode cL_law 324 = .ok (.iadd, 1) := by decide +kernel
theorem dL_law_325 : decode cL_law 325 = .ok (.iaload, 1) := by decide +kernel
theorem dL_law_326 : decode cL_law 326 = .ok (.invokevirtual 28, 3) := by decide +kernel
theorem dL_law_329 : decode cL_law 329 = .ok (.if_icmp .eq 1236, 3) := by decide +kernel
theorem dL_law_334 : decode cL_law 334 = .ok (.aload_n 1, 1) := by decide +kernel
theorem dL_law_335 : decode cL_law 335 = .ok (.invokevirtual 29, 3) := by decide +kernel
theorem dL_law_338 : decode cL_law 338 = .ok (.aload_n 2, 1) := by decide +kernel
theorem dL_law_339 : decode cL_law 339 = .ok (.invokevirtual 33, 3) := by decide +kernel
theorem dL_law_342 : decode cL_law 342 = .ok (.if_icmp .eq 1223, 3) := by decide +kernel
theorem dL_law_347 : decode cL_law 347 = .ok (.aload_n 1, 1) := by decide +kernel
theorem dL_law_348 : decode cL_law 348 = .ok (.invokevirtual 34, 3) := by decide +kernel
theorem dL_law_351 : decode cL_law 351 = .ok (.aload_n 2, 1) := by decide +kernel
theorem dL_law_352 : decode cL_law 352 = .ok (.invokevirtual 37, 3) := by decide +kernel
theorem dL_law_355 : decode cL_law 355 = .ok (.if_icmp .eq 1210, 3) := by decide +kernel
theorem dL_law_360 : decode cL_law 360 = .ok (.aload_n 1, 1) := by decide +kernel
theorem dL_law_361 : decode cL_law 361 = .ok (.invokevirtual 38, 3) := by decide +kernel
theorem dL_law_364 : decode cL_law 364 = .ok (.aload_n 2, 1) := by decide +kernel
theorem dL_law_365 : decode cL_law 365 = .ok (.invokevirtual 41, 3) := by decide +kernel
theorem dL_law_368 : decode cL_law 368 = .ok (.if_icmp .eq 1197, 3) := by decide +kernel
theorem dL_law_373 : decode cL_law 373 = .ok (.aload_n 1, 1) := by decide +kernel
theorem dL_law_374 : decode cL_law 374 = .ok (.invokevirtual 42, 3) := by decide +kernel
theorem dL_law_377 : decode cL_law 377 = .ok (.aload_n 2, 1) := by decide +kernel
theorem dL_law_378 : decode cL_law 378 = .ok (.invokevirtual 45, 3) := by decide +kernel
theorem dL_law_381 : decode cL_law 381 = .ok (.if_icmp .eq 1184, 3) := by decide +kernel
theorem dL_law_386 : decode cL_law 386 = .ok (.aload_n 1, 1) := by decide +kernel
theorem dL_law_387 : decode cL_law 387 = .ok (.aload_n 0, 1) := by decide +kernel
theorem dL_law_388 : decode cL_law 388 = .ok (.iload 4, 2) := by decide +kernel
theorem dL_law_390 : decode cL_law 390 = .ok (.iconst 1, 1) := by decide +kernel
theorem dL_law_391 : decode cL_law 391 = .ok (.iadd, 1) := by decide +kernel
theorem dL_law_392 : decode cL_law 392 = .ok (.iaload, 1) := by decide +kernel
theorem dL_law_393 : decode cL_law 393 = .ok (.aload_n 0, 1) := by decide +kernel
theorem dL_law_394 : decode cL_law 394 = .ok (.iload 4, 2) := by decide +kernel
theorem dL_law_396 : decode cL_law 396 = .ok (.iconst 2, 1) := by decide +kernel
theorem dL_law_397 : decode cL_law 397 = .ok (.iadd, 1) := by decide +kernel
theorem dL_law_398 : decode cL_law 398 = .ok (.iaload, 1) := by decide +kernel
theorem dL_law_399 : decode cL_law 399 = .ok (.invokevirtual 46, 3) := by decide +kernel
theorem dL_law_402 : decode cL_law 402 = .ok (.aload_n 2, 1) := by decide +kernel
theorem dL_law_403 : decode cL_law 403 = .ok (.aload_n 0, 1) := by decide +kernel
theorem dL_law_404 : decode cL_law 404 = .ok (.iload 4, 2) := by decide +kernel
theorem dL_law_406 : decode cL_law 406 = .ok (.iconst 1, 1) := by decide +kernel
theorem dL_law_407 : decode cL_law 407 = .ok (.iadd, 1) := by decide +kernel
theorem dL_law_408 : decode cL_law 408 = .ok (.iaload, 1) := by decide +kernel
theorem dL_law_409 : decode cL_law 409 = .ok (.aload_n 0, 1) := by decide +kernel
theorem dL_law_410 : decode cL_law 410 = .ok (.iload 4, 2) := by decide +kernel
theorem dL_law_412 : decode cL_law 412 = .ok (.iconst 2, 1) := by decide +kernel
theorem dL_law_413 : decode cL_law 413 = .ok (.iadd, 1) := by decide +kernel
theorem dL_law_414 : decode cL_law 414 = .ok (.iaload, 1) := by decide +kernel
theorem dL_law_415 : decode cL_law 415 = .ok (.invokevirtual 49, 3) := by decide +kernel
theorem dL_law_418 : decode cL_law 418 = .ok (.if_icmp .eq 1147, 3) := by decide +kernel
theorem dL_law_423 : decode cL_law 423 = .ok (.aload_n 1, 1) := by decide +kernel
theorem dL_law_424 : decode cL_law 424 = .ok (.aload_n 0, 1) := by decide +kernel
theorem dL_law_425 : decode cL_law 425 = .ok (.iload 4, 2) := by decide +kernel
theorem dL_law_427 : decode cL_law 427 = .ok (.iconst 1, 1) := by decide +kernel
theorem dL_law_428 : decode cL_law 428 = .ok (.iadd, 1) := by decide +kernel
theorem dL_law_429 : decode cL_law 429 = .ok (.iaload, 1) := by decide +kernel
theorem dL_law_430 : decode cL_law 430 = .ok (.aload_n 0, 1) := by decide +kernel
theorem dL_law_431 : decode cL_law 431 = .ok (.iload 4, 2) := by decide +kernel
theorem dL_law_433 : decode cL_law 433 = .ok (.iconst 2, 1) := by decide +kernel
theorem dL_law_434 : decode cL_law 434 = .ok (.iadd, 1) := by decide +kernel
theorem dL_law_435 : decode cL_law 435 = .ok (.iaload, 1) := by decide +kernel
theorem dL_law_436 : decode cL_law 436 = .ok (.aload_n 0, 1) := by decide +kernel
theorem dL_law_437 : decode cL_law 437 = .ok (.iload 4, 2) := by decide +kernel
theorem dL_law_439 : decode cL_law 439 = .ok (.iconst 3, 1) := by decide +kernel
theorem dL_law_440 : decode cL_law 440 = .ok (.iadd, 1) := by decide +kernel
theorem dL_law_441 : decode cL_law 441 = .ok (.iaload, 1) := by decide +kernel
theorem dL_law_442 : decode cL_law 442 = .ok (.aload_n 0, 1) := by decide +kernel
theorem dL_law_443 : decode cL_law 443 = .ok (.iload 4, 2) := by decide +kernel
theorem dL_law_445 : decode cL_law 445 = .ok (.iconst 4, 1) := by decide +kernel
theorem dL_law_446 : decode cL_law 446 = .ok (.iadd, 1) := by decide +kernel
theorem dL_law_447 : decode cL_law 447 = .ok (.iaload, 1) := by decide +kernel
theorem dL_law_448 : decode cL_law 448 = .ok (.aload_n 0, 1) := by decide +kernel
theorem dL_law_449 : decode cL_law 449 = .ok (.iload 4, 2) := by decide +kernel
theorem dL_law_451 : decode cL_law 451 = .ok (.iconst 5, 1) := by decide +kernel
theorem dL_law_452 : decode cL_law 452 = .ok (.iadd, 1) := by decide +kernel
theorem dL_law_453 : decode cL_law 453 = .ok (.iaload, 1) := by decide +kernel
theorem dL_law_454 : decode cL_law 454 = .ok (.invokevirtual 50, 3) := by decide +kernel
theorem dL_law_457 : decode cL_law 457 = .ok (.aload_n 2, 1) := by decide +kernel
theorem dL_law_458 : decode cL_law 458 = .ok (.aload_n 0, 1) := by decide +kernel
theorem dL_law_459 : decode cL_law 459 = .ok (.iload 4, 2) := by decide +kernel
theorem dL_law_461 : decode cL_law 461 = .ok (.iconst 1, 1) := by decide +kernel
theorem dL_law_462 : decode cL_law 462 = .ok (.iadd, 1) := by decide +kernel
theorem dL_law_463 : decode cL_law 463 = .ok (.iaload, 1) := by decide +kernel
theorem dL_law_464 : decode cL_law 464 = .ok (.aload_n 0, 1) := by decide +kernel
theorem dL_law_465 : decode cL_law 465 = .ok (.iload 4, 2) := by decide +kernel
theorem dL_law_467 : decode cL_law 467 = .ok (.iconst 2, 1) := by decide +kernel
theorem dL_law_468 : decode cL_law 468 = .ok (.iadd, 1) := by decide +kernel
theorem dL_law_469 : decode cL_law 469 = .ok (.iaload, 1) := by decide +kernel
theorem dL_law_470 : decode cL_law 470 = .ok (.aload_n 0, 1) := by decide +kernel
theorem dL_law_471 : decode cL_law 471 = .ok (.iload 4, 2) := by decide +kernel
theorem dL_law_473 : decode cL_law 473 = .ok (.iconst 3, 1) := by decide +kernel
theorem dL_law_474 : decode cL_law 474 = .ok (.iadd, 1) := by decide +kernel
theorem dL_law_475 : decode cL_law 475 = .ok (.iaload, 1) := by decide +kernel
theorem dL_law_476 : decode cL_law 476 = .ok (.aload_n 0, 1) := by decide +kernel
theorem dL_law_477 : decode cL_law 477 = .ok (.iload 4, 2) := by decide +kernel
theorem dL_law_479 : decode cL_law 479 = .ok (.iconst 4, 1) := by decide +kernel
theorem dL_law_480 : decode cL_law 480 = .ok (.iadd, 1) := by decide +kernel
theorem dL_law_481 : decode cL_law 481 = .ok (.iaload, 1) := by decide +kernel
theorem dL_law_482 : decode cL_law 482 = .ok (.aload_n 0, 1) := by decide +kernel
theorem dL_law_483 : decode cL_law 483 = .ok (.iload 4, 2) := by decide +kernel
theorem dL_law_485 : decode cL_law 485 = .ok (.iconst 5, 1) := by decide +kernel
theorem dL_law_486 : decode cL_law 486 = .ok (.iadd, 1) := by decide +kernel
theorem dL_law_487 : decode cL_law 487 = .ok (.iaload, 1) := by decide +kernel
theorem dL_law_488 : decode cL_law 488 = .ok (.invokevirtual 53, 3) := by decide +kernel
theorem dL_law_491 : decode cL_law 491 = .ok (.if_icmp .eq 1074, 3) := by decide +kernel
theorem dL_law_496 : decode cL_law 496 = .ok (.aload_n 1, 1) := by decide +kernel
theorem dL_law_497 : decode cL_law 497 = .ok (.aload_n 0, 1) := by decide +kernel
theorem dL_law_498 : decode cL_law 498 = .ok (.iload 4, 2) := by decide +kernel
theorem dL_law_500 : decode cL_law 500 = .ok (.iconst 1, 1) := by decide +kernel
theorem dL_law_501 : decode cL_law 501 = .ok (.iadd, 1) := by decide +kernel
theorem dL_law_502 : decode cL_law 502 = .ok (.iaload, 1) := by decide +kernel
theorem dL_law_503 : decode cL_law 503 = .ok (.aload_n 0, 1) := by decide +kernel
theorem dL_law_504 : decode cL_law 504 = .ok (.iload 4, 2) := by decide +kernel
theorem dL_law_506 : decode cL_law 506 = .ok (.iconst 2, 1) := by decide +kernel
theorem dL_law_507 : decode cL_law 507 = .ok (.iadd, 1) := by decide +kernel
theorem dL_law_508 : decode cL_law 508 = .ok (.iaload, 1) := by decide +kernel
theorem dL_law_509 : decode cL_law 509 = .ok (.invokevirtual 54, 3) := by decide +kernel
theorem dL_law_512 : decode cL_law 512 = .ok (.aload_n 2, 1) := by decide +kernel
theorem dL_law_513 : decode cL_law 513 = .ok (.aload_n 0, 1) := by decide +kernel
theorem dL_law_514 : decode cL_law 514 = .ok (.iload 4, 2) := by decide +kernel
theorem dL_law_516 : decode cL_law 516 = .ok (.iconst 1, 1) := by decide +kernel
theorem dL_law_517 : decode cL_law 517 = .ok (.iadd, 1) := by decide +kernel
theorem dL_law_518 : decode cL_law 518 = .ok (.iaload, 1) := by decide +kernel
theorem dL_law_519 : decode cL_law 519 = .ok (.aload_n 0, 1) := by decide +kernel
theorem dL_law_520 : decode cL_law 520 = .ok (.iload 4, 2) := by decide +kernel
theorem dL_law_522 : decode cL_law 522 = .ok (.iconst 2, 1) := by decide +kernel
theorem dL_law_523 : decode cL_law 523 = .ok (.iadd, 1) := by decide +kernel
theorem dL_law_524 : decode cL_law 524 = .ok (.iaload, 1) := by decide +kernel
theorem dL_law_525 : decode cL_law 525 = .ok (.invokevirtual 57, 3) := by decide +kernel
theorem dL_law_528 : decode cL_law 528 = .ok (.if_icmp .eq 1037, 3) := by decide +kernel
theorem dL_law_533 : decode cL_law 533 = .ok (.aload_n 1, 1) := by decide +kernel
theorem dL_law_534 : decode cL_law 534 = .ok (.aload_n 0, 1) := by decide +kernel
theorem dL_law_535 : decode cL_law 535 = .ok (.iload 4, 2) := by decide +kernel
theorem dL_law_537 : decode cL_law 537 = .ok (.iconst 1, 1) := by decide +kernel
theorem dL_law_538 : decode cL_law 538 = .ok (.iadd, 1) := by decide +kernel
theorem dL_law_539 : decode cL_law 539 = .ok (.iaload, 1) := by decide +kernel
theorem dL_law_540 : decode cL_law 540 = .ok (.invokevirtual 58, 3) := by decide +kernel
theorem dL_law_543 : decode cL_law 543 = .ok (.aload_n 2, 1) := by decide +kernel
theorem dL_law_544 : decode cL_law 544 = .ok (.aload_n 0, 1) := by decide +kernel
theorem dL_law_545 : decode cL_law 545 = .ok (.iload 4, 2) := by decide +kernel
theorem dL_law_547 : decode cL_law 547 = .ok (.iconst 1, 1) := by decide +kernel
theorem dL_law_548 : decode cL_law 548 = .ok (.iadd, 1) := by decide +kernel
theorem dL_law_549 : decode cL_law 549 = .ok (.iaload, 1) := by decide +kernel
theorem dL_law_550 : decode cL_law 550 = .ok (.invokevirtual 61, 3) := by decide +kernel
theorem dL_law_553 : decode cL_law 553 = .ok (.if_icmp .eq 1012, 3) := by decide +kernel
theorem dL_law_558 : decode cL_law 558 = .ok (.aload_n 1, 1) := by decide +kernel
theorem dL_law_559 : decode cL_law 559 = .ok (.aload_n 0, 1) := by decide +kernel
theorem dL_law_560 : decode cL_law 560 = .ok (.iload 4, 2) := by decide +kernel
theorem dL_law_562 : decode cL_law 562 = .ok (.iconst 1, 1) := by decide +kernel
theorem dL_law_563 : decode cL_law 563 = .ok (.iadd, 1) := by decide +kernel
theorem dL_law_564 : decode cL_law 564 = .ok (.iaload, 1) := by decide +kernel
theorem dL_law_565 : decode cL_law 565 = .ok (.aload_n 0, 1) := by decide +kernel
theorem dL_law_566 : decode cL_law 566 = .ok (.iload 4, 2) := by decide +kernel
theorem dL_law_568 : decode cL_law 568 = .ok (.iconst 2, 1) := by decide +kernel
theorem dL_law_569 : decode cL_law 569 = .ok (.iadd, 1) := by decide +kernel
theorem dL_law_570 : decode cL_law 570 = .ok (.iaload, 1) := by decide +kernel
theorem dL_law_571 : decode cL_law 571 = .ok (.invokevirtual 62, 3) := by decide +kernel
theorem dL_law_574 : decode cL_law 574 = .ok (.aload_n 2, 1) := by decide +kernel
theorem dL_law_575 : decode cL_law 575 = .ok (.aload_n 0, 1) := by decide +kernel
theorem dL_law_576 : decode cL_law 576 = .ok (.iload 4, 2) := by decide +kernel
theorem dL_law_578 : decode cL_law 578 = .ok (.iconst 1, 1) := by decide +kernel
theorem dL_law_579 : decode cL_law 579 = .ok (.iadd, 1) := by decide +kernel
theorem dL_law_580 : decode cL_law 580 = .ok (.iaload, 1) := by decide +kernel
theorem dL_law_581 : decode cL_law 581 = .ok (.aload_n 0, 1) := by decide +kernel
theorem dL_law_582 : decode cL_law 582 = .ok (.iload 4, 2) := by decide +kernel
theorem dL_law_584 : decode cL_law 584 = .ok (.iconst 2, 1) := by decide +kernel
theorem dL_law_585 : decode cL_law 585 = .ok (.iadd, 1) := by decide +kernel
theorem dL_law_586 : decode cL_law 586 = .ok (.iaload, 1) := by decide +kernel
theorem dL_law_587 : decode cL_law 587 = .ok (.invokevirtual 65, 3) := by decide +kernel
theorem dL_law_590 : decode cL_law 590 = .ok (.if_icmp .eq 975, 3) := by decide +kernel
theorem dL_law_595 : decode cL_law 595 = .ok (.aload_n 1, 1) := by decide +kernel
theorem dL_law_596 : decode cL_law 596 = .ok (.invokevirtual 66, 3) := by decide +kernel
theorem dL_law_599 : decode cL_law 599 = .ok (.aload_n 2, 1) := by decide +kernel
theorem dL_law_600 : decode cL_law 600 = .ok (.invokevirtual 69, 3) := by decide +kernel
theorem dL_law_603 : decode cL_law 603 = .ok (.if_icmp .eq 962, 3) := by decide +kernel
theorem dL_law_608 : decode cL_law 608 = .ok (.aload_n 1, 1) := by decide +kernel
theorem dL_law_609 : decode cL_law 609 = .ok (.aload_n 0, 1) := by decide +kernel
theorem dL_law_610 : decode cL_law 610 = .ok (.iload 4, 2) := by decide +kernel
theorem dL_law_612 : decode cL_law 612 = .ok (.iconst 1, 1) := by decide +kernel
theorem dL_law_613 : decode cL_law 613 = .ok (.iadd, 1) := by decide +kernel
theorem dL_law_614 : decode cL_law 614 = .ok (.iaload, 1) := by decide +kernel
theorem dL_law_615 : decode cL_law 615 = .ok (.aload_n 0, 1) := by decide +kernel
theorem dL_law_616 : decode cL_law 616 = .ok (.iload 4, 2) := by decide +kernel
theorem dL_law_618 : decode cL_law 618 = .ok (.iconst 2, 1) := by decide +kernel
theorem dL_law_619 : decode cL_law 619 = .ok (.iadd, 1) := by decide +kernel
theorem dL_law_620 : decode cL_law 620 = .ok (.iaload, 1) := by decide +kernel
theorem dL_law_621 : decode cL_law 621 = .ok (.invokevirtual 70, 3) := by decide +kernel
theorem dL_law_624 : decode cL_law 624 = .ok (.aload_n 2, 1) := by decide +kernel
theorem dL_law_625 : decode cL_law 625 = .ok (.aload_n 0, 1) := by decide +kernel
theorem dL_law_626 : decode cL_law 626 = .ok (.iload 4, 2) := by decide +kernel
theorem dL_law_628 : decode cL_law 628 = .ok (.iconst 1, 1) := by decide +kernel
theorem dL_law_629 : decode cL_law 629 = .ok (.iadd, 1) := by decide +kernel
theorem dL_law_630 : decode cL_law 630 = .ok (.iaload, 1) := by decide +kernel
theorem dL_law_631 : decode cL_law 631 = .ok (.aload_n 0, 1) := by decide +kernel
theorem dL_law_632 : decode cL_law 632 = .ok (.iload 4, 2) := by decide +kernel
theorem dL_law_634 : decode cL_law 634 = .ok (.iconst 2, 1) := by decide +kernel
theorem dL_law_635 : decode cL_law 635 = .ok (.iadd, 1) := by decide +kernel
theorem dL_law_636 : decode cL_law 636 = .ok (.iaload, 1) := by decide +kernel
theorem dL_law_637 : decode cL_law 637 = .ok (.invokevirtual 73, 3) := by decide +kernel
theorem dL_law_640 : decode cL_law 640 = .ok (.if_icmp .eq 925, 3) := by decide +kernel
theorem dL_law_645 : decode cL_law 645 = .ok (.aload_n 1, 1) := by decide +kernel
theorem dL_law_646 : decode cL_law 646 = .ok (.aload_n 0, 1) := by decide +kernel
theorem dL_law_647 : decode cL_law 647 = .ok (.iload 4, 2) := by decide +kernel
theorem dL_law_649 : decode cL_law 649 = .ok (.iconst 1, 1) := by decide +kernel
theorem dL_law_650 : decode cL_law 650 = .ok (.iadd, 1) := by decide +kernel
theorem dL_law_651 : decode cL_law 651 = .ok (.iaload, 1) := by decide +kernel
theorem dL_law_652 : decode cL_law 652 = .ok (.aload_n 0, 1) := by decide +kernel
theorem dL_law_653 : decode cL_law 653 = .ok (.iload 4, 2) := by decide +kernel
theorem dL_law_655 : decode cL_law 655 = .ok (.iconst 2, 1) := by decide +kernel
theorem dL_law_656 : decode cL_law 656 = .ok (.iadd, 1) := by decide +kernel
theorem dL_law_657 : decode cL_law 657 = .ok (.iaload, 1) := by decide +kernel
theorem dL_law_658 : decode cL_law 658 = .ok (.aload_n 0, 1) := by decide +kernel
theorem dL_law_659 : decode cL_law 659 = .ok (.iload 4, 2) := by decide +kernel
theorem dL_law_661 : decode cL_law 661 = .ok (.iconst 3, 1) := by decide +kernel
theorem dL_law_662 : decode cL_law 662 = .ok (.iadd, 1) := by decide +kernel
theorem dL_law_663 : decode cL_law 663 = .ok (.iaload, 1) := by decide +kernel
theorem dL_law_664 : decode cL_law 664 = .ok (.invokevirtual 74, 3) := by decide +kernel
theorem dL_law_667 : decode cL_law 667 = .ok (.aload_n 2, 1) := by decide +kernel
theorem dL_law_668 : decode cL_law 668 = .ok (.aload_n 0, 1) := by decide +kernel
theorem dL_law_669 : decode cL_law 669 = .ok (.iload 4, 2) := by decide +kernel
theorem dL_law_671 : decode cL_law 671 = .ok (.iconst 1, 1) := by decide +kernel
theorem dL_law_672 : decode cL_law 672 = .ok (.iadd, 1) := by decide +kernel
theorem dL_law_673 : decode cL_law 673 = .ok (.iaload, 1) := by decide +kernel
theorem dL_law_674 : decode cL_law 674 = .ok (.aload_n 0, 1) := by decide +kernel
theorem dL_law_675 : decode cL_law 675 = .ok (.iload 4, 2) := by decide +kernel
theorem dL_law_677 : decode cL_law 677 = .ok (.iconst 2, 1) := by decide +kernel
theorem dL_law_678 : decode cL_law 678 = .ok (.iadd, 1) := by decide +kernel
theorem dL_law_679 : decode cL_law 679 = .ok (.iaload, 1) := by decide +kernel
theorem dL_law_680 : decode cL_law 680 = .ok (.aload_n 0, 1) := by decide +kernel
theorem dL_law_681 : decode cL_law 681 = .ok (.iload 4, 2) := by decide +kernel
theorem dL_law_683 : decode cL_law 683 = .ok (.iconst 3, 1) := by decide +kernel
theorem dL_law_684 : decode cL_law 684 = .ok (.iadd, 1) := by decide +kernel
theorem dL_law_685 : decode cL_law 685 = .ok (.iaload, 1) := by decide +kernel
theorem dL_law_686 : decode cL_law 686 = .ok (.invokevirtual 78, 3) := by decide +kernel
theorem dL_law_689 : decode cL_law 689 = .ok (.if_icmp .eq 876, 3) := by decide +kernel
theorem dL_law_694 : decode cL_law 694 = .ok (.aload_n 1, 1) := by decide +kernel
theorem dL_law_695 : decode cL_law 695 = .ok (.aload_n 0, 1) := by decide +kernel
theorem dL_law_696 : decode cL_law 696 = .ok (.iload 4, 2) := by decide +kernel
theorem dL_law_698 : decode cL_law 698 = .ok (.iconst 1, 1) := by decide +kernel
theorem dL_law_699 : decode cL_law 699 = .ok (.iadd, 1) := by decide +kernel
theorem dL_law_700 : decode cL_law 700 = .ok (.iaload, 1) := by decide +kernel
theorem dL_law_701 : decode cL_law 701 = .ok (.aload_n 0, 1) := by decide +kernel
theorem dL_law_702 : decode cL_law 702 = .ok (.iload 4, 2) := by decide +kernel
theorem dL_law_704 : decode cL_law 704 = .ok (.iconst 2, 1) := by decide +kernel
theorem dL_law_705 : decode cL_law 705 = .ok (.iadd, 1) := by decide +kernel
theorem dL_law_706 : decode cL_law 706 = .ok (.iaload, 1) := by decide +kernel
theorem dL_law_707 : decode cL_law 707 = .ok (.invokevirtual 79, 3) := by decide +kernel
theorem dL_law_710 : decode cL_law 710 = .ok (.aload_n 2, 1) := by decide +kernel
theorem dL_law_711 : decode cL_law 711 = .ok (.aload_n 0, 1) := by decide +kernel
theorem dL_law_712 : decode cL_law 712 = .ok (.iload 4, 2) := by decide +kernel
theorem dL_law_714 : decode cL_law 714 = .ok (.iconst 1, 1) := by decide +kernel
theorem dL_law_715 : decode cL_law 715 = .ok (.iadd, 1) := by decide +kernel
theorem dL_law_716 : decode cL_law 716 = .ok (.iaload, 1) := by decide +kernel
theorem dL_law_717 : decode cL_law 717 = .ok (.aload_n 0, 1) := by decide +kernel
theorem dL_law_718 : decode cL_law 718 = .ok (.iload 4, 2) := by decide +kernel
theorem dL_law_720 : decode cL_law 720 = .ok (.iconst 2, 1) := by decide +kernel
theorem dL_law_721 : decode cL_law 721 = .ok (.iadd, 1) := by decide +kernel
theorem dL_law_722 : decode cL_law 722 = .ok (.iaload, 1) := by decide +kernel
theorem dL_law_723 : decode cL_law 723 = .ok (.invokevirtual 82, 3) := by decide +kernel
theorem dL_law_726 : decode cL_law 726 = .ok (.if_icmp .eq 839, 3) := by decide +kernel
theorem dL_law_731 : decode cL_law 731 = .ok (.aload_n 1, 1) := by decide +kernel
theorem dL_law_732 : decode cL_law 732 = .ok (.aload_n 0, 1) := by decide +kernel
theorem dL_law_733 : decode cL_law 733 = .ok (.iload 4, 2) := by decide +kernel
theorem dL_law_735 : decode cL_law 735 = .ok (.iconst 1, 1) := by decide +kernel
theorem dL_law_736 : decode cL_law 736 = .ok (.iadd, 1) := by decide +kernel
theorem dL_law_737 : decode cL_law 737 = .ok (.iaload, 1) := by decide +kernel
theorem dL_law_738 : decode cL_law 738 = .ok (.invokevirtual 83, 3) := by decide +kernel
theorem dL_law_741 : decode cL_law 741 = .ok (.aload_n 2, 1) := by decide +kernel
theorem dL_law_742 : decode cL_law 742 = .ok (.aload_n 0, 1) := by decide +kernel
theorem dL_law_743 : decode cL_law 743 = .ok (.iload 4, 2) := by decide +kernel
theorem dL_law_745 : decode cL_law 745 = .ok (.iconst 1, 1) := by decide +kernel
theorem dL_law_746 : decode cL_law 746 = .ok (.iadd, 1) := by decide +kernel
theorem dL_law_747 : decode cL_law 747 = .ok (.iaload, 1) := by decide +kernel
theorem dL_law_748 : decode cL_law 748 = .ok (.invokevirtual 86, 3) := by decide +kernel
theorem dL_law_751 : decode cL_law 751 = .ok (.if_icmp .eq 814, 3) := by decide +kernel
theorem dL_law_756 : decode cL_law 756 = .ok (.aload_n 1, 1) := by decide +kernel
theorem dL_law_757 : decode cL_law 757 = .ok (.aload_n 0, 1) := by decide +kernel
theorem dL_law_758 : decode cL_law 758 = .ok (.iload 4, 2) := by decide +kernel
theorem dL_law_760 : decode cL_law 760 = .ok (.iconst 1, 1) := by decide +kernel
theorem dL_law_761 : decode cL_law 761 = .ok (.iadd, 1) := by decide +kernel
theorem dL_law_762 : decode cL_law 762 = .ok (.iaload, 1) := by decide +kernel
theorem dL_law_763 : decode cL_law 763 = .ok (.aload_n 0, 1) := by decide +kernel
theorem dL_law_764 : decode cL_law 764 = .ok (.iload 4, 2) := by decide +kernel
theorem dL_law_766 : decode cL_law 766 = .ok (.iconst 2, 1) := by decide +kernel
theorem dL_law_767 : decode cL_law 767 = .ok (.iadd, 1) := by decide +kernel
theorem dL_law_768 : decode cL_law 768 = .ok (.iaload, 1) := by decide +kernel
theorem dL_law_769 : decode cL_law 769 = .ok (.ifCond .eq 7, 3) := by decide +kernel
theorem dL_law_772 : decode cL_law 772 = .ok (.iconst 1, 1) := by decide +kernel
theorem dL_law_773 : decode cL_law 773 = .ok (.goto 4, 3) := by decide +kernel
theorem dL_law_776 : decode cL_law 776 = .ok (.iconst 0, 1) := by decide +kernel
theorem dL_law_777 : decode cL_law 777 = .ok (.invokevirtual 87, 3) := by decide +kernel
theorem dL_law_780 : decode cL_law 780 = .ok (.aload_n 2, 1) := by decide +kernel
theorem dL_law_781 : decode cL_law 781 = .ok (.aload_n 0, 1) := by decide +kernel
theorem dL_law_782 : decode cL_law 782 = .ok (.iload 4, 2) := by decide +kernel
theorem dL_law_784 : decode cL_law 784 = .ok (.iconst 1, 1) := by decide +kernel
theorem dL_law_785 : decode cL_law 785 = .ok (.iadd, 1) := by decide +kernel
theorem dL_law_786 : decode cL_law 786 = .ok (.iaload, 1) := by decide +kernel
theorem dL_law_787 : decode cL_law 787 = .ok (.aload_n 0, 1) := by decide +kernel
theorem dL_law_788 : decode cL_law 788 = .ok (.iload 4, 2) := by decide +kernel
theorem dL_law_790 : decode cL_law 790 = .ok (.iconst 2, 1) := by decide +kernel
theorem dL_law_791 : decode cL_law 791 = .ok (.iadd, 1) := by decide +kernel
theorem dL_law_792 : decode cL_law 792 = .ok (.iaload, 1) := by decide +kernel
theorem dL_law_793 : decode cL_law 793 = .ok (.ifCond .eq 7, 3) := by decide +kernel
theorem dL_law_796 : decode cL_law 796 = .ok (.iconst 1, 1) := by decide +kernel
theorem dL_law_797 : decode cL_law 797 = .ok (.goto 4, 3) := by decide +kernel
theorem dL_law_800 : decode cL_law 800 = .ok (.iconst 0, 1) := by decide +kernel
theorem dL_law_801 : decode cL_law 801 = .ok (.invokevirtual 91, 3) := by decide +kernel
theorem dL_law_804 : decode cL_law 804 = .ok (.if_icmp .eq 761, 3) := by decide +kernel
theorem dL_law_809 : decode cL_law 809 = .ok (.aload_n 1, 1) := by decide +kernel
theorem dL_law_810 : decode cL_law 810 = .ok (.aload_n 0, 1) := by decide +kernel
theorem dL_law_811 : decode cL_law 811 = .ok (.iload 4, 2) := by decide +kernel
theorem dL_law_813 : decode cL_law 813 = .ok (.iconst 1, 1) := by decide +kernel
theorem dL_law_814 : decode cL_law 814 = .ok (.iadd, 1) := by decide +kernel
theorem dL_law_815 : decode cL_law 815 = .ok (.iaload, 1) := by decide +kernel
theorem dL_law_816 : decode cL_law 816 = .ok (.invokevirtual 92, 3) := by decide +kernel
theorem dL_law_819 : decode cL_law 819 = .ok (.aload_n 2, 1) := by decide +kernel
theorem dL_law_820 : decode cL_law 820 = .ok (.aload_n 0, 1) := by decide +kernel
theorem dL_law_821 : decode cL_law 821 = .ok (.iload 4, 2) := by decide +kernel
theorem dL_law_823 : decode cL_law 823 = .ok (.iconst 1, 1) := by decide +kernel
theorem dL_law_824 : decode cL_law 824 = .ok (.iadd, 1) := by decide +kernel
theorem dL_law_825 : decode cL_law 825 = .ok (.iaload, 1) := by decide +kernel
theorem dL_law_826 : decode cL_law 826 = .ok (.invokevirtual 95, 3) := by decide +kernel
theorem dL_law_829 : decode cL_law 829 = .ok (.if_icmp .eq 736, 3) := by decide +kernel
theorem dL_law_834 : decode cL_law 834 = .ok (.aload_n 1, 1) := by decide +kernel
theorem dL_law_835 : decode cL_law 835 = .ok (.aload_n 0, 1) := by decide +kernel
theorem dL_law_836 : decode cL_law 836 = .ok (.iload 4, 2) := by decide +kernel
theorem dL_law_838 : decode cL_law 838 = .ok (.iconst 1, 1) := by decide +kernel
theorem dL_law_839 : decode cL_law 839 = .ok (.iadd, 1) := by decide +kernel
theorem dL_law_840 : decode cL_law 840 = .ok (.iaload, 1) := by decide +kernel
theorem dL_law_841 : decode cL_law 841 = .ok (.invokevirtual 96, 3) := by decide +kernel
theorem dL_law_844 : decode cL_law 844 = .ok (.aload_n 2, 1) := by decide +kernel
theorem dL_law_845 : decode cL_law 845 = .ok (.aload_n 0, 1) := by decide +kernel
theorem dL_law_846 : decode cL_law 846 = .ok (.iload 4, 2) := by decide +kernel
theorem dL_law_848 : decode cL_law 848 = .ok (.iconst 1, 1) := by decide +kernel
theorem dL_law_849 : decode cL_law 849 = .ok (.iadd, 1) := by decide +kernel
theorem dL_law_850 : decode cL_law 850 = .ok (.iaload, 1) := by decide +kernel
theorem dL_law_851 : decode cL_law 851 = .ok (.invokevirtual 99, 3) := by decide +kernel
theorem dL_law_854 : decode cL_law 854 = .ok (.if_icmp .eq 711, 3) := by decide +kernel
theorem dL_law_859 : decode cL_law 859 = .ok (.aload_n 1, 1) := by decide +kernel
theorem dL_law_860 : decode cL_law 860 = .ok (.aload_n 0, 1) := by decide +kernel
theorem dL_law_861 : decode cL_law 861 = .ok (.iload 4, 2) := by decide +kernel
theorem dL_law_863 : decode cL_law 863 = .ok (.iconst 1, 1) := by decide +kernel
theorem dL_law_864 : decode cL_law 864 = .ok (.iadd, 1) := by decide +kernel
theorem dL_law_865 : decode cL_law 865 = .ok (.iaload, 1) := by decide +kernel
theorem dL_law_866 : decode cL_law 866 = .ok (.invokevirtual 100, 3) := by decide +kernel
theorem dL_law_869 : decode cL_law 869 = .ok (.aload_n 2, 1) := by decide +kernel
theorem dL_law_870 : decode cL_law 870 = .ok (.aload_n 0, 1) := by decide +kernel
theorem dL_law_871 : decode cL_law 871 = .ok (.iload 4, 2) := by decide +kernel
theorem dL_law_873 : decode cL_law 873 = .ok (.iconst 1, 1) := by decide +kernel
theorem dL_law_874 : decode cL_law 874 = .ok (.iadd, 1) := by decide +kernel
theorem dL_law_875 : decode cL_law 875 = .ok (.iaload, 1) := by decide +kernel
theorem dL_law_876 : decode cL_law 876 = .ok (.invokevirtual 103, 3) := by decide +kernel
theorem dL_law_879 : decode cL_law 879 = .ok (.if_icmp .eq 686, 3) := by decide +kernel
theorem dL_law_884 : decode cL_law 884 = .ok (.aload_n 1, 1) := by decide +kernel
theorem dL_law_885 : decode cL_law 885 = .ok (.aload_n 0, 1) := by decide +kernel
theorem dL_law_886 : decode cL_law 886 = .ok (.iload 4, 2) := by decide +kernel
theorem dL_law_888 : decode cL_law 888 = .ok (.iconst 1, 1) := by decide +kernel
theorem dL_law_889 : decode cL_law 889 = .ok (.iadd, 1) := by decide +kernel
theorem dL_law_890 : decode cL_law 890 = .ok (.iaload, 1) := by decide +kernel
theorem dL_law_891 : decode cL_law 891 = .ok (.invokevirtual 104, 3) := by decide +kernel
theorem dL_law_894 : decode cL_law 894 = .ok (.aload_n 2, 1) := by decide +kernel
theorem dL_law_895 : decode cL_law 895 = .ok (.aload_n 0, 1) := by decide +kernel
theorem dL_law_896 : decode cL_law 896 = .ok (.iload 4, 2) := by decide +kernel
theorem dL_law_898 : decode cL_law 898 = .ok (.iconst 1, 1) := by decide +kernel
theorem dL_law_899 : decode cL_law 899 = .ok (.iadd, 1) := by decide +kernel
theorem dL_law_900 : decode cL_law 900 = .ok (.iaload, 1) := by decide +kernel
theorem dL_law_901 : decode cL_law 901 = .ok (.invokevirtual 107, 3) := by decide +kernel
theorem dL_law_904 : decode cL_law 904 = .ok (.if_icmp .eq 661, 3) := by decide +kernel
theorem dL_law_909 : decode cL_law 909 = .ok (.aload_n 1, 1) := by decide +kernel
theorem dL_law_910 : decode cL_law 910 = .ok (.aload_n 0, 1) := by decide +kernel
theorem dL_law_911 : decode cL_law 911 = .ok (.iload 4, 2) := by decide +kernel
theorem dL_law_913 : decode cL_law 913 = .ok (.iconst 1, 1) := by decide +kernel
theorem dL_law_914 : decode cL_law 914 = .ok (.iadd, 1) := by decide +kernel
theorem dL_law_915 : decode cL_law 915 = .ok (.iaload, 1) := by decide +kernel
theorem dL_law_916 : decode cL_law 916 = .ok (.invokevirtual 108, 3) := by decide +kernel
theorem dL_law_919 : decode cL_law 919 = .ok (.aload_n 2, 1) := by decide +kernel
theorem dL_law_920 : decode cL_law 920 = .ok (.aload_n 0, 1) := by decide +kernel
theorem dL_law_921 : decode cL_law 921 = .ok (.iload 4, 2) := by decide +kernel
theorem dL_law_923 : decode cL_law 923 = .ok (.iconst 1, 1) := by decide +kernel
theorem dL_law_924 : decode cL_law 924 = .ok (.iadd, 1) := by decide +kernel
theorem dL_law_925 : decode cL_law 925 = .ok (.iaload, 1) := by decide +kernel
theorem dL_law_926 : decode cL_law 926 = .ok (.invokevirtual 111, 3) := by decide +kernel
theorem dL_law_929 : decode cL_law 929 = .ok (.if_icmp .eq 636, 3) := by decide +kernel
theorem dL_law_934 : decode cL_law 934 = .ok (.aload_n 1, 1) := by decide +kernel
theorem dL_law_935 : decode cL_law 935 = .ok (.invokevirtual 112, 3) := by decide +kernel
theorem dL_law_938 : decode cL_law 938 = .ok (.aload_n 2, 1) := by decide +kernel
theorem dL_law_939 : decode cL_law 939 = .ok (.invokevirtual 115, 3) := by decide +kernel
theorem dL_law_942 : decode cL_law 942 = .ok (.if_icmp .eq 623, 3) := by decide +kernel
theorem dL_law_947 : decode cL_law 947 = .ok (.aload_n 1, 1) := by decide +kernel
theorem dL_law_948 : decode cL_law 948 = .ok (.invokevirtual 116, 3) := by decide +kernel
theorem dL_law_951 : decode cL_law 951 = .ok (.aload_n 2, 1) := by decide +kernel
theorem dL_law_952 : decode cL_law 952 = .ok (.invokevirtual 119, 3) := by decide +kernel
theorem dL_law_955 : decode cL_law 955 = .ok (.if_icmp .eq 610, 3) := by decide +kernel
theorem dL_law_960 : decode cL_law 960 = .ok (.aload_n 1, 1) := by decide +kernel
theorem dL_law_961 : decode cL_law 961 = .ok (.aload_n 0, 1) := by decide +kernel
theorem dL_law_962 : decode cL_law 962 = .ok (.iload 4, 2) := by decide +kernel
theorem dL_law_964 : decode cL_law 964 = .ok (.iconst 1, 1) := by decide +kernel
theorem dL_law_965 : decode cL_law 965 = .ok (.iadd, 1) := by decide +kernel
theorem dL_law_966 : decode cL_law 966 = .ok (.iaload, 1) := by decide +kernel
theorem dL_law_967 : decode cL_law 967 = .ok (.invokevirtual 120, 3) := by decide +kernel
theorem dL_law_970 : decode cL_law 970 = .ok (.aload_n 2, 1) := by decide +kernel
theorem dL_law_971 : decode cL_law 971 = .ok (.aload_n 0, 1) := by decide +kernel
theorem dL_law_972 : decode cL_law 972 = .ok (.iload 4, 2) := by decide +kernel
theorem dL_law_974 : decode cL_law 974 = .ok (.iconst 1, 1) := by decide +kernel
theorem dL_law_975 : decode cL_law 975 = .ok (.iadd, 1) := by decide +kernel
theorem dL_law_976 : decode cL_law 976 = .ok (.iaload, 1) := by decide +kernel
theorem dL_law_977 : decode cL_law 977 = .ok (.invokevirtual 123, 3) := by decide +kernel
theorem dL_law_980 : decode cL_law 980 = .ok (.if_icmp .eq 585, 3) := by decide +kernel
theorem dL_law_985 : decode cL_law 985 = .ok (.aload_n 1, 1) := by decide +kernel
theorem dL_law_986 : decode cL_law 986 = .ok (.aload_n 0, 1) := by decide +kernel
theorem dL_law_987 : decode cL_law 987 = .ok (.iload 4, 2) := by decide +kernel
theorem dL_law_989 : decode cL_law 989 = .ok (.iconst 1, 1) := by decide +kernel
theorem dL_law_990 : decode cL_law 990 = .ok (.iadd, 1) := by decide +kernel
theorem dL_law_991 : decode cL_law 991 = .ok (.iaload, 1) := by decide +kernel
theorem dL_law_992 : decode cL_law 992 = .ok (.aload_n 0, 1) := by decide +kernel
theorem dL_law_993 : decode cL_law 993 = .ok (.iload 4, 2) := by decide +kernel
theorem dL_law_995 : decode cL_law 995 = .ok (.iconst 2, 1) := by decide +kernel
theorem dL_law_996 : decode cL_law 996 = .ok (.iadd, 1) := by decide +kernel
theorem dL_law_997 : decode cL_law 997 = .ok (.iaload, 1) := by decide +kernel
theorem dL_law_998 : decode cL_law 998 = .ok (.ifCond .eq 7, 3) := by decide +kernel
theorem dL_law_1001 : decode cL_law 1001 = .ok (.iconst 1, 1) := by decide +kernel
theorem dL_law_1002 : decode cL_law 1002 = .ok (.goto 4, 3) := by decide +kernel
theorem dL_law_1005 : decode cL_law 1005 = .ok (.iconst 0, 1) := by decide +kernel
theorem dL_law_1006 : decode cL_law 1006 = .ok (.invokevirtual 124, 3) := by decide +kernel
theorem dL_law_1009 : decode cL_law 1009 = .ok (.aload_n 2, 1) := by decide +kernel
theorem dL_law_1010 : decode cL_law 1010 = .ok (.aload_n 0, 1) := by decide +kernel
theorem dL_law_1011 : decode cL_law 1011 = .ok (.iload 4, 2) := by decide +kernel
theorem dL_law_1013 : decode cL_law 1013 = .ok (.iconst 1, 1) := by decide +kernel
theorem dL_law_1014 : decode cL_law 1014 = .ok (.iadd, 1) := by decide +kernel
theorem dL_law_1015 : decode cL_law 1015 = .ok (.iaload, 1) := by decide +kernel
theorem dL_law_1016 : decode cL_law 1016 = .ok (.aload_n 0, 1) := by decide +kernel
theorem dL_law_1017 : decode cL_law 1017 = .ok (.iload 4, 2) := by decide +kernel
theorem dL_law_1019 : decode cL_law 1019 = .ok (.iconst 2, 1) := by decide +kernel
theorem dL_law_1020 : decode cL_law 1020 = .ok (.iadd, 1) := by decide +kernel
theorem dL_law_1021 : decode cL_law 1021 = .ok (.iaload, 1) := by decide +kernel
theorem dL_law_1022 : decode cL_law 1022 = .ok (.ifCond .eq 7, 3) := by decide +kernel
theorem dL_law_1025 : decode cL_law 1025 = .ok (.iconst 1, 1) := by decide +kernel
theorem dL_law_1026 : decode cL_law 1026 = .ok (.goto 4, 3) := by decide +kernel
theorem dL_law_1029 : decode cL_law 1029 = .ok (.iconst 0, 1) := by decide +kernel
theorem dL_law_1030 : decode cL_law 1030 = .ok (.invokevirtual 128, 3) := by decide +kernel
theorem dL_law_1033 : decode cL_law 1033 = .ok (.lcmp, 1) := by decide +kernel
theorem dL_law_1034 : decode cL_law 1034 = .ok (.ifCond .eq 531, 3) := by decide +kernel
theorem dL_law_1039 : decode cL_law 1039 = .ok (.aload_n 1, 1) := by decide +kernel
theorem dL_law_1040 : decode cL_law 1040 = .ok (.invokevirtual 129, 3) := by decide +kernel
theorem dL_law_1043 : decode cL_law 1043 = .ok (.aload_n 2, 1) := by decide +kernel
theorem dL_law_1044 : decode cL_law 1044 = .ok (.invokevirtual 132, 3) := by decide +kernel
theorem dL_law_1047 : decode cL_law 1047 = .ok (.if_icmp .eq 518, 3) := by decide +kernel
theorem dL_law_1052 : decode cL_law 1052 = .ok (.aload_n 1, 1) := by decide +kernel
theorem dL_law_1053 : decode cL_law 1053 = .ok (.aload_n 0, 1) := by decide +kernel
theorem dL_law_1054 : decode cL_law 1054 = .ok (.iload 4, 2) := by decide +kernel
theorem dL_law_1056 : decode cL_law 1056 = .ok (.iconst 1, 1) := by decide +kernel
theorem dL_law_1057 : decode cL_law 1057 = .ok (.iadd, 1) := by decide +kernel
theorem dL_law_1058 : decode cL_law 1058 = .ok (.iaload, 1) := by decide +kernel
theorem dL_law_1059 : decode cL_law 1059 = .ok (.invokevirtual 133, 3) := by decide +kernel
theorem dL_law_1062 : decode cL_law 1062 = .ok (.aload_n 2, 1) := by decide +kernel
theorem dL_law_1063 : decode cL_law 1063 = .ok (.aload_n 0, 1) := by decide +kernel
theorem dL_law_1064 : decode cL_law 1064 = .ok (.iload 4, 2) := by decide +kernel
theorem dL_law_1066 : decode cL_law 1066 = .ok (.iconst 1, 1) := by decide +kernel
theorem dL_law_1067 : decode cL_law 1067 = .ok (.iadd, 1) := by decide +kernel
theorem dL_law_1068 : decode cL_law 1068 = .ok (.iaload, 1) := by decide +kernel
theorem dL_law_1069 : decode cL_law 1069 = .ok (.invokevirtual 136, 3) := by decide +kernel
theorem dL_law_1072 : decode cL_law 1072 = .ok (.if_icmp .eq 493, 3) := by decide +kernel
theorem dL_law_1077 : decode cL_law 1077 = .ok (.aload_n 1, 1) := by decide +kernel
theorem dL_law_1078 : decode cL_law 1078 = .ok (.aload_n 0, 1) := by decide +kernel
theorem dL_law_1079 : decode cL_law 1079 = .ok (.iload 4, 2) := by decide +kernel
theorem dL_law_1081 : decode cL_law 1081 = .ok (.iconst 1, 1) := by decide +kernel
theorem dL_law_1082 : decode cL_law 1082 = .ok (.iadd, 1) := by decide +kernel
theorem dL_law_1083 : decode cL_law 1083 = .ok (.iaload, 1) := by decide +kernel
theorem dL_law_1084 : decode cL_law 1084 = .ok (.aload_n 0, 1) := by decide +kernel
theorem dL_law_1085 : decode cL_law 1085 = .ok (.iload 4, 2) := by decide +kernel
theorem dL_law_1087 : decode cL_law 1087 = .ok (.iconst 2, 1) := by decide +kernel
theorem dL_law_1088 : decode cL_law 1088 = .ok (.iadd, 1) := by decide +kernel
theorem dL_law_1089 : decode cL_law 1089 = .ok (.iaload, 1) := by decide +kernel
theorem dL_law_1090 : decode cL_law 1090 = .ok (.ifCond .eq 7, 3) := by decide +kernel
theorem dL_law_1093 : decode cL_law 1093 = .ok (.iconst 1, 1) := by decide +kernel
theorem dL_law_1094 : decode cL_law 1094 = .ok (.goto 4, 3) := by decide +kernel
theorem dL_law_1097 : decode cL_law 1097 = .ok (.iconst 0, 1) := by decide +kernel
theorem dL_law_1098 : decode cL_law 1098 = .ok (.invokevirtual 137, 3) := by decide +kernel
theorem dL_law_1101 : decode cL_law 1101 = .ok (.aload_n 2, 1) := by decide +kernel
theorem dL_law_1102 : decode cL_law 1102 = .ok (.aload_n 0, 1) := by decide +kernel
theorem dL_law_1103 : decode cL_law 1103 = .ok (.iload 4, 2) := by decide +kernel
theorem dL_law_1105 : decode cL_law 1105 = .ok (.iconst 1, 1) := by decide +kernel
theorem dL_law_1106 : decode cL_law 1106 = .ok (.iadd, 1) := by decide +kernel
theorem dL_law_1107 : decode cL_law 1107 = .ok (.iaload, 1) := by decide +kernel
theorem dL_law_1108 : decode cL_law 1108 = .ok (.aload_n 0, 1) := by decide +kernel
theorem dL_law_1109 : decode cL_law 1109 = .ok (.iload 4, 2) := by decide +kernel
theorem dL_law_1111 : decode cL_law 1111 = .ok (.iconst 2, 1) := by decide +kernel
theorem dL_law_1112 : decode cL_law 1112 = .ok (.iadd, 1) := by decide +kernel
theorem dL_law_1113 : decode cL_law 1113 = .ok (.iaload, 1) := by decide +kernel
theorem dL_law_1114 : decode cL_law 1114 = .ok (.ifCond .eq 7, 3) := by decide +kernel
theorem dL_law_1117 : decode cL_law 1117 = .ok (.iconst 1, 1) := by decide +kernel
theorem dL_law_1118 : decode cL_law 1118 = .ok (.goto 4, 3) := by decide +kernel
theorem dL_law_1121 : decode cL_law 1121 = .ok (.iconst 0, 1) := by decide +kernel
theorem dL_law_1122 : decode cL_law 1122 = .ok (.invokevirtual 140, 3) := by decide +kernel
theorem dL_law_1125 : decode cL_law 1125 = .ok (.if_icmp .eq 440, 3) := by decide +kernel
theorem dL_law_1130 : decode cL_law 1130 = .ok (.aload_n 1, 1) := by decide +kernel
theorem dL_law_1131 : decode cL_law 1131 = .ok (.aload_n 0, 1) := by decide +kernel
theorem dL_law_1132 : decode cL_law 1132 = .ok (.iload 4, 2) := by decide +kernel
theorem dL_law_1134 : decode cL_law 1134 = .ok (.iconst 1, 1) := by decide +kernel
theorem dL_law_1135 : decode cL_law 1135 = .ok (.iadd, 1) := by decide +kernel
theorem dL_law_1136 : decode cL_law 1136 = .ok (.iaload, 1) := by decide +kernel
theorem dL_law_1137 : decode cL_law 1137 = .ok (.invokevirtual 141, 3) := by decide +kernel
theorem dL_law_1140 : decode cL_law 1140 = .ok (.aload_n 2, 1) := by decide +kernel
theorem dL_law_1141 : decode cL_law 1141 = .ok (.aload_n 0, 1) := by decide +kernel
theorem dL_law_1142 : decode cL_law 1142 = .ok (.iload 4, 2) := by decide +kernel
theorem dL_law_1144 : decode cL_law 1144 = .ok (.iconst 1, 1) := by decide +kernel
theorem dL_law_1145 : decode cL_law 1145 = .ok (.iadd, 1) := by decide +kernel
theorem dL_law_1146 : decode cL_law 1146 = .ok (.iaload, 1) := by decide +kernel
theorem dL_law_1147 : decode cL_law 1147 = .ok (.invokevirtual 144, 3) := by decide +kernel
theorem dL_law_1150 : decode cL_law 1150 = .ok (.if_icmp .eq 415, 3) := by decide +kernel
theorem dL_law_1155 : decode cL_law 1155 = .ok (.aload_n 1, 1) := by decide +kernel
theorem dL_law_1156 : decode cL_law 1156 = .ok (.aload_n 0, 1) := by decide +kernel
theorem dL_law_1157 : decode cL_law 1157 = .ok (.iload 4, 2) := by decide +kernel
theorem dL_law_1159 : decode cL_law 1159 = .ok (.iconst 1, 1) := by decide +kernel
theorem dL_law_1160 : decode cL_law 1160 = .ok (.iadd, 1) := by decide +kernel
theorem dL_law_1161 : decode cL_law 1161 = .ok (.iaload, 1) := by decide +kernel
theorem dL_law_1162 : decode cL_law 1162 = .ok (.invokevirtual 145, 3) := by decide +kernel
theorem dL_law_1165 : decode cL_law 1165 = .ok (.aload_n 2, 1) := by decide +kernel
theorem dL_law_1166 : decode cL_law 1166 = .ok (.aload_n 0, 1) := by decide +kernel
theorem dL_law_1167 : decode cL_law 1167 = .ok (.iload 4, 2) := by decide +kernel
theorem dL_law_1169 : decode cL_law 1169 = .ok (.iconst 1, 1) := by decide +kernel
theorem dL_law_1170 : decode cL_law 1170 = .ok (.iadd, 1) := by decide +kernel
theorem dL_law_1171 : decode cL_law 1171 = .ok (.iaload, 1) := by decide +kernel
theorem dL_law_1172 : decode cL_law 1172 = .ok (.invokevirtual 148, 3) := by decide +kernel
theorem dL_law_1175 : decode cL_law 1175 = .ok (.if_icmp .eq 390, 3) := by decide +kernel
theorem dL_law_1180 : decode cL_law 1180 = .ok (.aload_n 1, 1) := by decide +kernel
theorem dL_law_1181 : decode cL_law 1181 = .ok (.invokevirtual 149, 3) := by decide +kernel
theorem dL_law_1184 : decode cL_law 1184 = .ok (.aload_n 2, 1) := by decide +kernel
theorem dL_law_1185 : decode cL_law 1185 = .ok (.invokevirtual 152, 3) := by decide +kernel
theorem dL_law_1188 : decode cL_law 1188 = .ok (.if_icmp .eq 377, 3) := by decide +kernel
theorem dL_law_1193 : decode cL_law 1193 = .ok (.aload_n 1, 1) := by decide +kernel
theorem dL_law_1194 : decode cL_law 1194 = .ok (.aload_n 0, 1) := by decide +kernel
theorem dL_law_1195 : decode cL_law 1195 = .ok (.iload 4, 2) := by decide +kernel
theorem dL_law_1197 : decode cL_law 1197 = .ok (.iconst 1, 1) := by decide +kernel
theorem dL_law_1198 : decode cL_law 1198 = .ok (.iadd, 1) := by decide +kernel
theorem dL_law_1199 : decode cL_law 1199 = .ok (.iaload, 1) := by decide +kernel
theorem dL_law_1200 : decode cL_law 1200 = .ok (.aload_n 0, 1) := by decide +kernel
theorem dL_law_1201 : decode cL_law 1201 = .ok (.iload 4, 2) := by decide +kernel
theorem dL_law_1203 : decode cL_law 1203 = .ok (.iconst 2, 1) := by decide +kernel
theorem dL_law_1204 : decode cL_law 1204 = .ok (.iadd, 1) := by decide +kernel
theorem dL_law_1205 : decode cL_law 1205 = .ok (.iaload, 1) := by decide +kernel
theorem dL_law_1206 : decode cL_law 1206 = .ok (.invokevirtual 153, 3) := by decide +kernel
theorem dL_law_1209 : decode cL_law 1209 = .ok (.aload_n 2, 1) := by decide +kernel
theorem dL_law_1210 : decode cL_law 1210 = .ok (.aload_n 0, 1) := by decide +kernel
theorem dL_law_1211 : decode cL_law 1211 = .ok (.iload 4, 2) := by decide +kernel
theorem dL_law_1213 : decode cL_law 1213 = .ok (.iconst 1, 1) := by decide +kernel
theorem dL_law_1214 : decode cL_law 1214 = .ok (.iadd, 1) := by decide +kernel
theorem dL_law_1215 : decode cL_law 1215 = .ok (.iaload, 1) := by decide +kernel
theorem dL_law_1216 : decode cL_law 1216 = .ok (.aload_n 0, 1) := by decide +kernel
theorem dL_law_1217 : decode cL_law 1217 = .ok (.iload 4, 2) := by decide +kernel
theorem dL_law_1219 : decode cL_law 1219 = .ok (.iconst 2, 1) := by decide +kernel
theorem dL_law_1220 : decode cL_law 1220 = .ok (.iadd, 1) := by decide +kernel
theorem dL_law_1221 : decode cL_law 1221 = .ok (.iaload, 1) := by decide +kernel
theorem dL_law_1222 : decode cL_law 1222 = .ok (.invokevirtual 156, 3) := by decide +kernel
theorem dL_law_1225 : decode cL_law 1225 = .ok (.if_icmp .eq 340, 3) := by decide +kernel
theorem dL_law_1230 : decode cL_law 1230 = .ok (.aload_n 1, 1) := by decide +kernel
theorem dL_law_1231 : decode cL_law 1231 = .ok (.aload_n 0, 1) := by decide +kernel
theorem dL_law_1232 : decode cL_law 1232 = .ok (.iload 4, 2) := by decide +kernel
theorem dL_law_1234 : decode cL_law 1234 = .ok (.iconst 1, 1) := by decide +kernel
theorem dL_law_1235 : decode cL_law 1235 = .ok (.iadd, 1) := by decide +kernel
theorem dL_law_1236 : decode cL_law 1236 = .ok (.iaload, 1) := by decide +kernel
theorem dL_law_1237 : decode cL_law 1237 = .ok (.aload_n 0, 1) := by decide +kernel
theorem dL_law_1238 : decode cL_law 1238 = .ok (.iload 4, 2) := by decide +kernel
theorem dL_law_1240 : decode cL_law 1240 = .ok (.iconst 2, 1) := by decide +kernel
theorem dL_law_1241 : decode cL_law 1241 = .ok (.iadd, 1) := by decide +kernel
theorem dL_law_1242 : decode cL_law 1242 = .ok (.iaload, 1) := by decide +kernel
theorem dL_law_1243 : decode cL_law 1243 = .ok (.aload_n 0, 1) := by decide +kernel
theorem dL_law_1244 : decode cL_law 1244 = .ok (.iload 4, 2) := by decide +kernel
theorem dL_law_1246 : decode cL_law 1246 = .ok (.iconst 3, 1) := by decide +kernel
theorem dL_law_1247 : decode cL_law 1247 = .ok (.iadd, 1) := by decide +kernel
theorem dL_law_1248 : decode cL_law 1248 = .ok (.iaload, 1) := by decide +kernel
theorem dL_law_1249 : decode cL_law 1249 = .ok (.ifCond .eq 7, 3) := by decide +kernel
theorem dL_law_1252 : decode cL_law 1252 = .ok (.iconst 1, 1) := by decide +kernel
theorem dL_law_1253 : decode cL_law 1253 = .ok (.goto 4, 3) := by decide +kernel
theorem dL_law_1256 : decode cL_law 1256 = .ok (.iconst 0, 1) := by decide +kernel
theorem dL_law_1257 : decode cL_law 1257 = .ok (.invokevirtual 157, 3) := by decide +kernel
theorem dL_law_1260 : decode cL_law 1260 = .ok (.aload_n 2, 1) := by decide +kernel
theorem dL_law_1261 : decode cL_law 1261 = .ok (.aload_n 0, 1) := by decide +kernel
theorem dL_law_1262 : decode cL_law 1262 = .ok (.iload 4, 2) := by decide +kernel
theorem dL_law_1264 : decode cL_law 1264 = .ok (.iconst 1, 1) := by decide +kernel
theorem dL_law_1265 : decode cL_law 1265 = .ok (.iadd, 1) := by decide +kernel
theorem dL_law_1266 : decode cL_law 1266 = .ok (.iaload, 1) := by decide +kernel
theorem dL_law_1267 : decode cL_law 1267 = .ok (.aload_n 0, 1) := by decide +kernel
theorem dL_law_1268 : decode cL_law 1268 = .ok (.iload 4, 2) := by decide +kernel
theorem dL_law_1270 : decode cL_law 1270 = .ok (.iconst 2, 1) := by decide +kernel
theorem dL_law_1271 : decode cL_law 1271 = .ok (.iadd, 1) := by decide +kernel
theorem dL_law_1272 : decode cL_law 1272 = .ok (.iaload, 1) := by decide +kernel
theorem dL_law_1273 : decode cL_law 1273 = .ok (.aload_n 0, 1) := by decide +kernel
theorem dL_law_1274 : decode cL_law 1274 = .ok (.iload 4, 2) := by decide +kernel
theorem dL_law_1276 : decode cL_law 1276 = .ok (.iconst 3, 1) := by decide +kernel
theorem dL_law_1277 : decode cL_law 1277 = .ok (.iadd, 1) := by decide +kernel
theorem dL_law_1278 : decode cL_law 1278 = .ok (.iaload, 1) := by decide +kernel
theorem dL_law_1279 : decode cL_law 1279 = .ok (.ifCond .eq 7, 3) := by decide +kernel
theorem dL_law_1282 : decode cL_law 1282 = .ok (.iconst 1, 1) := by decide +kernel
theorem dL_law_1283 : decode cL_law 1283 = .ok (.goto 4, 3) := by decide +kernel
theorem dL_law_1286 : decode cL_law 1286 = .ok (.iconst 0, 1) := by decide +kernel
theorem dL_law_1287 : decode cL_law 1287 = .ok (.invokevirtual 161, 3) := by decide +kernel
theorem dL_law_1290 : decode cL_law 1290 = .ok (.if_icmp .eq 275, 3) := by decide +kernel
theorem dL_law_1295 : decode cL_law 1295 = .ok (.aload_n 1, 1) := by decide +kernel
theorem dL_law_1296 : decode cL_law 1296 = .ok (.invokevirtual 162, 3) := by decide +kernel
theorem dL_law_1299 : decode cL_law 1299 = .ok (.aload_n 2, 1) := by decide +kernel
theorem dL_law_1300 : decode cL_law 1300 = .ok (.invokevirtual 165, 3) := by decide +kernel
theorem dL_law_1303 : decode cL_law 1303 = .ok (.if_icmp .eq 262, 3) := by decide +kernel
theorem dL_law_1308 : decode cL_law 1308 = .ok (.aload_n 1, 1) := by decide +kernel
theorem dL_law_1309 : decode cL_law 1309 = .ok (.aload_n 0, 1) := by decide +kernel
theorem dL_law_1310 : decode cL_law 1310 = .ok (.iload 4, 2) := by decide +kernel
theorem dL_law_1312 : decode cL_law 1312 = .ok (.iconst 1, 1) := by decide +kernel
theorem dL_law_1313 : decode cL_law 1313 = .ok (.iadd, 1) := by decide +kernel
theorem dL_law_1314 : decode cL_law 1314 = .ok (.iaload, 1) := by decide +kernel
theorem dL_law_1315 : decode cL_law 1315 = .ok (.aload_n 0, 1) := by decide +kernel
theorem dL_law_1316 : decode cL_law 1316 = .ok (.iload 4, 2) := by decide +kernel
theorem dL_law_1318 : decode cL_law 1318 = .ok (.iconst 2, 1) := by decide +kernel
theorem dL_law_1319 : decode cL_law 1319 = .ok (.iadd, 1) := by decide +kernel
theorem dL_law_1320 : decode cL_law 1320 = .ok (.iaload, 1) := by decide +kernel
theorem dL_law_1321 : decode cL_law 1321 = .ok (.invokevirtual 166, 3) := by decide +kernel
theorem dL_law_1324 : decode cL_law 1324 = .ok (.aload_n 2, 1) := by decide +kernel
theorem dL_law_1325 : decode cL_law 1325 = .ok (.aload_n 0, 1) := by decide +kernel
theorem dL_law_1326 : decode cL_law 1326 = .ok (.iload 4, 2) := by decide +kernel
theorem dL_law_1328 : decode cL_law 1328 = .ok (.iconst 1, 1) := by decide +kernel
theorem dL_law_1329 : decode cL_law 1329 = .ok (.iadd, 1) := by decide +kernel
theorem dL_law_1330 : decode cL_law 1330 = .ok (.iaload, 1) := by decide +kernel
theorem dL_law_1331 : decode cL_law 1331 = .ok (.aload_n 0, 1) := by decide +kernel
theorem dL_law_1332 : decode cL_law 1332 = .ok (.iload 4, 2) := by decide +kernel
theorem dL_law_1334 : decode cL_law 1334 = .ok (.iconst 2, 1) := by decide +kernel
theorem dL_law_1335 : decode cL_law 1335 = .ok (.iadd, 1) := by decide +kernel
theorem dL_law_1336 : decode cL_law 1336 = .ok (.iaload, 1) := by decide +kernel
theorem dL_law_1337 : decode cL_law 1337 = .ok (.invokevirtual 169, 3) := by decide +kernel
theorem dL_law_1340 : decode cL_law 1340 = .ok (.if_icmp .eq 225, 3) := by decide +kernel
theorem dL_law_1345 : decode cL_law 1345 = .ok (.aload_n 1, 1) := by decide +kernel
theorem dL_law_1346 : decode cL_law 1346 = .ok (.aload_n 0, 1) := by decide +kernel
theorem dL_law_1347 : decode cL_law 1347 = .ok (.iload 4, 2) := by decide +kernel
theorem dL_law_1349 : decode cL_law 1349 = .ok (.iconst 1, 1) := by decide +kernel
theorem dL_law_1350 : decode cL_law 1350 = .ok (.iadd, 1) := by decide +kernel
theorem dL_law_1351 : decode cL_law 1351 = .ok (.iaload, 1) := by decide +kernel
theorem dL_law_1352 : decode cL_law 1352 = .ok (.invokevirtual 170, 3) := by decide +kernel
theorem dL_law_1355 : decode cL_law 1355 = .ok (.aload_n 2, 1) := by decide +kernel
theorem dL_law_1356 : decode cL_law 1356 = .ok (.aload_n 0, 1) := by decide +kernel
theorem dL_law_1357 : decode cL_law 1357 = .ok (.iload 4, 2) := by decide +kernel
theorem dL_law_1359 : decode cL_law 1359 = .ok (.iconst 1, 1) := by decide +kernel
theorem dL_law_1360 : decode cL_law 1360 = .ok (.iadd, 1) := by decide +kernel
theorem dL_law_1361 : decode cL_law 1361 = .ok (.iaload, 1) := by decide +kernel
theorem dL_law_1362 : decode cL_law 1362 = .ok (.invokevirtual 174, 3) := by decide +kernel
theorem dL_law_1365 : decode cL_law 1365 = .ok (.if_icmp .eq 200, 3) := by decide +kernel
theorem dL_law_1370 : decode cL_law 1370 = .ok (.aload_n 1, 1) := by decide +kernel
theorem dL_law_1371 : decode cL_law 1371 = .ok (.invokevirtual 175, 3) := by decide +kernel
theorem dL_law_1374 : decode cL_law 1374 = .ok (.aload_n 2, 1) := by decide +kernel
theorem dL_law_1375 : decode cL_law 1375 = .ok (.invokevirtual 178, 3) := by decide +kernel
theorem dL_law_1378 : decode cL_law 1378 = .ok (.if_icmp .eq 187, 3) := by decide +kernel
theorem dL_law_1383 : decode cL_law 1383 = .ok (.aload_n 1, 1) := by decide +kernel
theorem dL_law_1384 : decode cL_law 1384 = .ok (.invokevirtual 179, 3) := by decide +kernel
theorem dL_law_1387 : decode cL_law 1387 = .ok (.aload_n 2, 1) := by decide +kernel
theorem dL_law_1388 : decode cL_law 1388 = .ok (.invokevirtual 183, 3) := by decide +kernel
theorem dL_law_1391 : decode cL_law 1391 = .ok (.if_icmp .eq 174, 3) := by decide +kernel
theorem dL_law_1396 : decode cL_law 1396 = .ok (.aload_n 1, 1) := by decide +kernel
theorem dL_law_1397 : decode cL_law 1397 = .ok (.invokevirtual 184, 3) := by decide +kernel
theorem dL_law_1400 : decode cL_law 1400 = .ok (.aload_n 2, 1) := by decide +kernel
theorem dL_law_1401 : decode cL_law 1401 = .ok (.invokevirtual 187, 3) := by decide +kernel
theorem dL_law_1404 : decode cL_law 1404 = .ok (.if_icmp .eq 161, 3) := by decide +kernel
theorem dL_law_1409 : decode cL_law 1409 = .ok (.aload_n 1, 1) := by decide +kernel
theorem dL_law_1410 : decode cL_law 1410 = .ok (.aload_n 0, 1) := by decide +kernel
theorem dL_law_1411 : decode cL_law 1411 = .ok (.iload 4, 2) := by decide +kernel
theorem dL_law_1413 : decode cL_law 1413 = .ok (.iconst 1, 1) := by decide +kernel
theorem dL_law_1414 : decode cL_law 1414 = .ok (.iadd, 1) := by decide +kernel
theorem dL_law_1415 : decode cL_law 1415 = .ok (.iaload, 1) := by decide +kernel
theorem dL_law_1416 : decode cL_law 1416 = .ok (.invokevirtual 188, 3) := by decide +kernel
theorem dL_law_1419 : decode cL_law 1419 = .ok (.aload_n 2, 1) := by decide +kernel
theorem dL_law_1420 : decode cL_law 1420 = .ok (.aload_n 0, 1) := by decide +kernel
theorem dL_law_1421 : decode cL_law 1421 = .ok (.iload 4, 2) := by decide +kernel
theorem dL_law_1423 : decode cL_law 1423 = .ok (.iconst 1, 1) := by decide +kernel
theorem dL_law_1424 : decode cL_law 1424 = .ok (.iadd, 1) := by decide +kernel
theorem dL_law_1425 : decode cL_law 1425 = .ok (.iaload, 1) := by decide +kernel
theorem dL_law_1426 : decode cL_law 1426 = .ok (.invokevirtual 191, 3) := by decide +kernel
theorem dL_law_1429 : decode cL_law 1429 = .ok (.if_icmp .eq 136, 3) := by decide +kernel
theorem dL_law_1502 : decode cL_law 1502 = .ok (.aload_n 1, 1) := by decide +kernel
theorem dL_law_1503 : decode cL_law 1503 = .ok (.aload_n 0, 1) := by decide +kernel
theorem dL_law_1504 : decode cL_law 1504 = .ok (.iload 4, 2) := by decide +kernel
theorem dL_law_1506 : decode cL_law 1506 = .ok (.iconst 1, 1) := by decide +kernel
theorem dL_law_1507 : decode cL_law 1507 = .ok (.iadd, 1) := by decide +kernel
theorem dL_law_1508 : decode cL_law 1508 = .ok (.iaload, 1) := by decide +kernel
theorem dL_law_1509 : decode cL_law 1509 = .ok (.invokevirtual 201, 3) := by decide +kernel
theorem dL_law_1512 : decode cL_law 1512 = .ok (.aload_n 2, 1) := by decide +kernel
theorem dL_law_1513 : decode cL_law 1513 = .ok (.aload_n 0, 1) := by decide +kernel
theorem dL_law_1514 : decode cL_law 1514 = .ok (.iload 4, 2) := by decide +kernel
theorem dL_law_1516 : decode cL_law 1516 = .ok (.iconst 1, 1) := by decide +kernel
theorem dL_law_1517 : decode cL_law 1517 = .ok (.iadd, 1) := by decide +kernel
theorem dL_law_1518 : decode cL_law 1518 = .ok (.iaload, 1) := by decide +kernel
theorem dL_law_1519 : decode cL_law 1519 = .ok (.invokevirtual 204, 3) := by decide +kernel
theorem dL_law_1522 : decode cL_law 1522 = .ok (.if_icmp .eq 43, 3) := by decide +kernel
theorem dL_law_1527 : decode cL_law 1527 = .ok (.aload_n 1, 1) := by decide +kernel
theorem dL_law_1528 : decode cL_law 1528 = .ok (.aload_n 0, 1) := by decide +kernel
theorem dL_law_1529 : decode cL_law 1529 = .ok (.iload 4, 2) := by decide +kernel
theorem dL_law_1531 : decode cL_law 1531 = .ok (.iconst 1, 1) := by decide +kernel
theorem dL_law_1532 : decode cL_law 1532 = .ok (.iadd, 1) := by decide +kernel
theorem dL_law_1533 : decode cL_law 1533 = .ok (.iaload, 1) := by decide +kernel
theorem dL_law_1534 : decode cL_law 1534 = .ok (.invokevirtual 205, 3) := by decide +kernel
theorem dL_law_1537 : decode cL_law 1537 = .ok (.aload_n 2, 1) := by decide +kernel
theorem dL_law_1538 : decode cL_law 1538 = .ok (.aload_n 0, 1) := by decide +kernel
theorem dL_law_1539 : decode cL_law 1539 = .ok (.iload 4, 2) := by decide +kernel
theorem dL_law_1541 : decode cL_law 1541 = .ok (.iconst 1, 1) := by decide +kernel
theorem dL_law_1542 : decode cL_law 1542 = .ok (.iadd, 1) := by decide +kernel
theorem dL_law_1543 : decode cL_law 1543 = .ok (.iaload, 1) := by decide +kernel
theorem dL_law_1544 : decode cL_law 1544 = .ok (.invokevirtual 208, 3) := by decide +kernel
theorem dL_law_1547 : decode cL_law 1547 = .ok (.if_icmp .eq 18, 3) := by decide +kernel
theorem dL_law_1552 : decode cL_law 1552 = .ok (.aload_n 1, 1) := by decide +kernel
theorem dL_law_1553 : decode cL_law 1553 = .ok (.invokevirtual 209, 3) := by decide +kernel
theorem dL_law_1556 : decode cL_law 1556 = .ok (.aload_n 2, 1) := by decide +kernel
theorem dL_law_1557 : decode cL_law 1557 = .ok (.invokevirtual 212, 3) := by decide +kernel
theorem dL_law_1560 : decode cL_law 1560 = .ok (.if_icmp .eq 5, 3) := by decide +kernel
theorem dL_law_1565 : decode cL_law 1565 = .ok (.iinc 4 6, 3) := by decide +kernel
theorem dL_law_1568 : decode cL_law 1568 = .ok (.goto (-1545), 3) := by decide +kernel
theorem dL_law_1571 : decode cL_law 1571 = .ok (.iconst 1, 1) := by decide +kernel
theorem dL_law_1572 : decode cL_law 1572 = .ok (.ireturn, 1) := by decide +kernel
def lwLO (base b : Nat) (i : Int32) : List (Nat × Value) := [(4, .int i), (3, .ref (base + 100)), (2, .ref (base + 76)), (1, .ref (base + 0)), (0, .ref b)]
theorem toI (x : Int32) : iI x.toInt = x := Int32.ofInt_toInt x
theorem toR (x : Int32) : iR x.toInt := ⟨Int32.le_toInt x, Int32.toInt_lt x⟩
theorem lcmp_rf (x : Int64) : lg_cmp x x = 0 := by
  unfold lg_cmp
  simp
theorem Inv.st {h : Zh} {u : Nat} (q : Inv h u) : St h := by
  obtain ⟨v, tb, tr, ra, ok, c, -⟩ := q
  exact c.1
theorem Inv.k0 {h : Zh} {u : Nat} (q : Inv h u) : zK h 0 = 10 := sK0 q.st
theorem ax_len {p : Program} {l : Launch} {e : Env} {R : Room} {s : State} {m : MethodId} {args : Array Value} {below : List Frame} {meth : Method} {c : Code} {Q : State → Prop} {nL : Nat} {D : va_G} {cA : Nat → ClassId} {base : Nat} {sA : Nat → Nat} {h0 h : Zh} {pc : Nat} {lo : List (Nat × Value)} {st : List Value} {cc : ByteArray} {own : String} {b L : Nat} {xs : Nat → Int32} (X : zX p s m args meth c cc own nL D cA base sA) (hb : base = s.heap.size ∧ b < s.heap.size ∧ va_X b L xs s s.heap) (d : decode cc pc = .ok (.arraylength, 1)) (kk : zGA p l e R s m args below meth c Q nL D cA base h0 (pc + 1) lo (.int (Int32.ofNat L) :: st) h) : zGA p l e R s m args below meth c Q nL D cA base h0 pc lo (.ref b :: st) h := fun z H locs ls hW hS hl => va_slen X.1 X.2.1 hb.2.2 hb.2.1 (A := zA base) (by rw [hb.1]; exact Nat.not_le.mpr hb.2.1) hS d (kk z H locs ls hW hS hl)
theorem ax_ald {p : Program} {l : Launch} {e : Env} {R : Room} {s : State} {m : MethodId} {args : Array Value} {below : List Frame} {meth : Method} {c : Code} {Q : State → Prop} {nL : Nat} {D : va_G} {cA : Nat → ClassId} {base : Nat} {sA : Nat → Nat} {h0 h : Zh} {pc : Nat} {lo : List (Nat × Value)} {st : List Value} {cc : ByteArray} {own : String} {b L : Nat} {xs : Nat → Int32} {i : Int32} (X : zX p s m args meth c cc own nL D cA base sA) (hb : base = s.heap.size ∧ b < s.heap.size ∧ va_X b L xs s s.heap) (hin : zin i L) (d : decode cc pc = .ok (.iaload, 1)) (kk : zGA p l e R s m args below meth c Q nL D cA base h0 (pc + 1) lo (.int (xs i.toNatClampNeg) :: st) h) : zGA p l e R s m args below meth c Q nL D cA base h0 pc lo (.int i :: .ref b :: st) h := fun z H locs ls hW hS hl => va_sld X.1 X.2.1 hb.2.2 hb.2.1 (A := zA base) (by rw [hb.1]; exact Nat.not_le.mpr hb.2.1) hS (vp_in_iff.mpr hin) d (kk z H locs ls hW hS hl)
theorem ax_arg {p : Program} {l : Launch} {e : Env} {R : Room} {s : State} {m : MethodId} {args : Array Value} {below : List Frame} {meth : Method} {c : Code} {Q : State → Prop} {D : va_G} {cA : Nat → ClassId} {base : Nat} {sA : Nat → Nat} {h0 h : Zh} {pc : Nat} {st : List Value} {cc : ByteArray} {own : String} {b L : Nat} {xs : Nat → Int32} {i v : Int32} {n : Int} (X : zX p s m args meth c cc own 7 D cA base sA) (hb : base = s.heap.size ∧ b < s.heap.size ∧ va_X b L xs s s.heap) (d0 : decode cc pc = .ok (.aload_n 0, 1)) (d1 : decode cc (pc + 1) = .ok (.iload 4, 2)) (d2 : decode cc (pc + 3) = .ok (.iconst n, 1)) (d3 : decode cc (pc + 4) = .ok (.iadd, 1)) (d4 : decode cc (pc + 5) = .ok (.iaload, 1)) (hv : Int32.ofInt n = v) (hin : zin (i + v) L) (kk : zGA p l e R s m args below meth c Q 7 D cA base h0 (pc + 6) (lwLO base b i) (.int (xs (i + v).toNatClampNeg) :: st) h) : zGA p l e R s m args below meth c Q 7 D cA base h0 pc (lwLO base b i) st h := by
  refine a_aload_n X 4 d0 rfl ?_
  refine a_iload X 0 d1 rfl ?_
  refine a_iconst X (v := v) d2 hv ?_
  refine a_iadd X d3 ?_
  exact ax_ald X hb hin d4 kk
theorem ax_bool {p : Program} {l : Launch} {e : Env} {R : Room} {s : State} {m : MethodId} {args : Array Value} {below : List Frame} {meth : Method} {c : Code} {Q : State → Prop} {D : va_G} {cA : Nat → ClassId} {base : Nat} {sA : Nat → Nat} {h0 h : Zh} {pc : Nat} {st : List Value} {cc : ByteArray} {own : String} {b L : Nat} {xs : Nat → Int32} {i v : Int32} {n o1 o2 : Int} (X : zX p s m args meth c cc own 7 D cA base sA) (hb : base = s.heap.size ∧ b < s.heap.size ∧ va_X b L xs s s.heap) (d0 : decode cc pc = .ok (.aload_n 0, 1)) (d1 : decode cc (pc + 1) = .ok (.iload 4, 2)) (d2 : decode cc (pc + 3) = .ok (.iconst n, 1)) (d3 : decode cc (pc + 4) = .ok (.iadd, 1)) (d4 : decode cc (pc + 5) = .ok (.iaload, 1)) (d5 : decode cc (pc + 6) = .ok (.ifCond .eq o1, 3)) (d6 : decode cc (pc + 9) = .ok (.iconst 1, 1)) (d7 : decode cc (pc + 10) = .ok (.goto o2, 3)) (d8 : decode cc (pc + 13) = .ok (.iconst 0, 1)) (hv : Int32.ofInt n = v) (hin : zin (i + v) L) (e1 : o1 = 7) (e2 : o2 = 4) (kk : zGA p l e R s m args below meth c Q 7 D cA base h0 (pc + 14) (lwLO base b i) (.int (iI (bI (decide (¬ xs (i + v).toNatClampNeg = 0)))) :: st) h) : zGA p l e R s m args below meth c Q 7 D cA base h0 pc (lwLO base b i) st h := by
  refine ax_arg X hb d0 d1 d2 d3 d4 hv hin ?_
  refine a_if_eq X (pc + 13) d5 (by rw [e1]; omega) (fun hc => ?_) (fun hc => ?_)
  · refine a_iconst X (v := 0) d8 (by decide) ?_
    rw [decide_eq_false (fun z => z hc)] at kk
    exact kk
  · refine a_iconst X (v := 1) d6 (by decide) ?_
    refine a_goto X (pc + 14) d7 (by rw [e2]; omega) ?_
    rw [decide_eq_true hc] at kk
    exact kk

theorem kx_feed {x0 x1 x2 x3 x4 : Int32} {h : Zh} {y : Int32 × Zh} (e : fX12_feed 76 x0 x1 x2 x3 x4 h = some y) : zK h 76 = 12 := by
  unfold fX12_feed at e
  exact (zite (zlet_n (x := h) rfl e)).1
theorem kx_trick {x0 : Int32} {h : Zh} {y : Int32 × Zh} (e : fX12_trick 76 x0 h = some y) : zK h 76 = 12 := by
  unfold fX12_trick at e
  exact (zite (zlet_n (x := h) rfl e)).1
theorem kx_fault {h : Zh} {y : Int32 × Zh} (e : fX12_fault 76 h = some y) : zK h 76 = 12 := by
  unfold fX12_fault at e
  exact (zite (zlet_n (x := h) rfl e)).1
theorem kx_where {h : Zh} {y : Int32 × Zh} (e : fX12_where 76 h = some y) : zK h 76 = 12 := by
  unfold fX12_where at e
  exact (zite (zlet_n (x := h) rfl e)).1
theorem kx_hands {h : Zh} {y : Int32 × Zh} (e : fX12_hands 76 h = some y) : zK h 76 = 12 := by
  unfold fX12_hands at e
  exact (zite (zlet_n (x := h) rfl e)).1
theorem kx_rows {h : Zh} {y : Int32 × Zh} (e : fX12_rows 76 h = some y) : zK h 76 = 12 := by
  unfold fX12_rows at e
  exact (zite (zlet_n (x := h) rfl e)).1
theorem kx_hand {x0 x1 : Int32} {h : Zh} {y : Int32 × Zh} (e : fX12_hand 76 x0 x1 h = some y) : zK h 76 = 12 := by
  unfold fX12_hand at e
  exact (zite (zlet_n (x := h) rfl e)).1
theorem kx_handOf {x0 x1 x2 x3 x4 : Int32} {h : Zh} {y : Int32 × Zh} (e : fX12_handOf 76 x0 x1 x2 x3 x4 h = some y) : zK h 76 = 12 := by
  unfold fX12_handOf at e
  exact (zite (zlet_n (x := h) rfl e)).1
theorem kx_row {x0 x1 : Int32} {h : Zh} {y : Int32 × Zh} (e : fX12_row 76 x0 x1 h = some y) : zK h 76 = 12 := by
  unfold fX12_row at e
  exact (zite (zlet_n (x := h) rfl e)).1
theorem kx_tilted {x0 : Int32} {h : Zh} {y : Int32 × Zh} (e : fX12_tilted 76 x0 h = some y) : zK h 76 = 12 := by
  unfold fX12_tilted at e
  exact (zite (zlet_n (x := h) rfl e)).1
theorem kx_fits {x0 x1 : Int32} {h : Zh} {y : Int32 × Zh} (e : fX12_fits 76 x0 x1 h = some y) : zK h 76 = 12 := by
  unfold fX12_fits at e
  exact (zite (zlet_n (x := h) rfl e)).1
theorem kx_fitting {h : Zh} {y : Int32 × Zh} (e : fX12_fitting 76 h = some y) : zK h 76 = 12 := by
  unfold fX12_fitting at e
  exact (zite (zlet_n (x := h) rfl e)).1
theorem kx_lays {x0 x1 : Int32} {h : Zh} {y : Int32 × Zh} (e : fX12_lays 76 x0 x1 h = some y) : zK h 76 = 12 := by
  unfold fX12_lays at e
  exact (zite (zlet_n (x := h) rfl e)).1
theorem kx_kept {x0 x1 x2 : Int32} {h : Zh} {y : Int32 × Zh} (e : fX12_kept 76 x0 x1 x2 h = some y) : zK h 76 = 12 := by
  unfold fX12_kept at e
  exact (zite (zlet_n (x := h) rfl e)).1
theorem kx_says {x0 x1 : Int32} {h : Zh} {y : Int32 × Zh} (e : fX12_says 76 x0 x1 h = some y) : zK h 76 = 12 := by
  unfold fX12_says at e
  exact (zite (zlet_n (x := h) rfl e)).1
theorem kx_works {x0 : Int32} {h : Zh} {y : Int32 × Zh} (e : fX12_works 76 x0 h = some y) : zK h 76 = 12 := by
  unfold fX12_works at e
  exact (zite (zlet_n (x := h) rfl e)).1
theorem kx_clash {x0 x1 : Int32} {h : Zh} {y : Int32 × Zh} (e : fX12_clash 76 x0 x1 h = some y) : zK h 76 = 12 := by
  unfold fX12_clash at e
  exact (zite (zlet_n (x := h) rfl e)).1
theorem kx_laid {x0 : Int32} {h : Zh} {y : Int32 × Zh} (e : fX12_laid 76 x0 h = some y) : zK h 76 = 12 := by
  unfold fX12_laid at e
  exact (zite (zlet_n (x := h) rfl e)).1
theorem kx_fails {x0 : Int32} {h : Zh} {y : Int32 × Zh} (e : fX12_fails 76 x0 h = some y) : zK h 76 = 12 := by
  unfold fX12_fails at e
  exact (zite (zlet_n (x := h) rfl e)).1
theorem kx_seen {x0 : Int32} {h : Zh} {y : Int32 × Zh} (e : fX12_seen 76 x0 h = some y) : zK h 76 = 12 := by
  unfold fX12_seen at e
  exact (zite (zlet_n (x := h) rfl e)).1
theorem kx_borne {x0 : Int32} {h : Zh} {y : Int32 × Zh} (e : fX12_borne 76 x0 h = some y) : zK h 76 = 12 := by
  unfold fX12_borne at e
  exact (zite (zlet_n (x := h) rfl e)).1
theorem kx_wordsWork {x0 : Int32} {h : Zh} {y : Int32 × Zh} (e : fX12_wordsWork 76 x0 h = some y) : zK h 76 = 12 := by
  unfold fX12_wordsWork at e
  exact (zite (zlet_n (x := h) rfl e)).1
theorem kx_shortest {h : Zh} {y : Int32 × Zh} (e : fX12_shortest 76 h = some y) : zK h 76 = 12 := by
  unfold fX12_shortest at e
  exact (zite (zlet_n (x := h) rfl e)).1
theorem kx_pairs {h : Zh} {y : Int32 × Zh} (e : fX12_pairs 76 h = some y) : zK h 76 = 12 := by
  unfold fX12_pairs at e
  exact (zite (zlet_n (x := h) rfl e)).1
theorem kx_table {x0 : Int32} {h : Zh} {y : Int32 × Zh} (e : fX12_table 76 x0 h = some y) : zK h 76 = 12 := by
  unfold fX12_table at e
  exact (zite (zlet_n (x := h) rfl e)).1
theorem kx_count {x0 x1 : Int32} {h : Zh} {y : Int64 × Zh} (e : fX12_count 76 x0 x1 h = some y) : zK h 76 = 12 := by
  unfold fX12_count at e
  exact (zite (zlet_n (x := h) rfl e)).1
theorem kx_most {h : Zh} {y : Int32 × Zh} (e : fX12_most 76 h = some y) : zK h 76 = 12 := by
  unfold fX12_most at e
  exact (zite (zlet_n (x := h) rfl e)).1
theorem kx_judge {x0 : Int32} {h : Zh} {y : Int32 × Zh} (e : fX12_judge 76 x0 h = some y) : zK h 76 = 12 := by
  unfold fX12_judge at e
  exact (zite (zlet_n (x := h) rfl e)).1
theorem kx_evening {x0 x1 : Int32} {h : Zh} {y : Int32 × Zh} (e : fX12_evening 76 x0 x1 h = some y) : zK h 76 = 12 := by
  unfold fX12_evening at e
  exact (zite (zlet_n (x := h) rfl e)).1
theorem kx_agrees {x0 : Int32} {h : Zh} {y : Int32 × Zh} (e : fX12_agrees 76 x0 h = some y) : zK h 76 = 12 := by
  unfold fX12_agrees at e
  exact (zite (zlet_n (x := h) rfl e)).1
theorem kx_wrong {x0 : Int32} {h : Zh} {y : Int32 × Zh} (e : fX12_wrong 76 x0 h = some y) : zK h 76 = 12 := by
  unfold fX12_wrong at e
  exact (zite (zlet_n (x := h) rfl e)).1
theorem kx_found {h : Zh} {y : Int32 × Zh} (e : fX12_found 76 h = some y) : zK h 76 = 12 := by
  unfold fX12_found at e
  exact (zite (zlet_n (x := h) rfl e)).1
theorem kx_apart {x0 x1 : Int32} {h : Zh} {y : Int32 × Zh} (e : fX12_apart 76 x0 x1 h = some y) : zK h 76 = 12 := by
  unfold fX12_apart at e
  exact (zite (zlet_n (x := h) rfl e)).1
theorem kx_mean {x0 x1 x2 : Int32} {h : Zh} {y : Int32 × Zh} (e : fX12_mean 76 x0 x1 x2 h = some y) : zK h 76 = 12 := by
  unfold fX12_mean at e
  exact (zite (zlet_n (x := h) rfl e)).1
theorem kx_hardest {h : Zh} {y : Int32 × Zh} (e : fX12_hardest 76 h = some y) : zK h 76 = 12 := by
  unfold fX12_hardest at e
  exact (zite (zlet_n (x := h) rfl e)).1
theorem kx_shows {x0 x1 : Int32} {h : Zh} {y : Int32 × Zh} (e : fX12_shows 76 x0 x1 h = some y) : zK h 76 = 12 := by
  unfold fX12_shows at e
  exact (zite (zlet_n (x := h) rfl e)).1
theorem kx_seed {x0 : Int32} {h : Zh} {y : Int32 × Zh} (e : fX12_seed 76 x0 h = some y) : zK h 76 = 12 := by
  unfold fX12_seed at e
  exact (zite (zlet_n (x := h) rfl e)).1
theorem kx_draw {h : Zh} {y : Int32 × Zh} (e : fX12_draw 76 h = some y) : zK h 76 = 12 := by
  unfold fX12_draw at e
  exact (zite (zlet_n (x := h) rfl e)).1
theorem kx_strike {h : Zh} {y : Int32 × Zh} (e : fX12_strike 76 h = some y) : zK h 76 = 12 := by
  unfold fX12_strike at e
  exact (zite (zlet_n (x := h) rfl e)).1
theorem kx_image {h : Zh} {y : Int32 × Zh} (e : fX12_image 76 h = some y) : zK h 76 = 12 := by
  unfold fX12_image at e
  exact (zite (zlet_n (x := h) rfl e)).1
theorem kx_back {x0 : Int32} {h : Zh} {y : Int32 × Zh} (e : fX12_back 76 x0 h = some y) : zK h 76 = 12 := by
  unfold fX12_back at e
  exact (zite (zlet_n (x := h) rfl e)).1
theorem kx_size {x0 : Int32} {h : Zh} {y : Int32 × Zh} (e : fX12_size 76 x0 h = some y) : zK h 76 = 12 := by
  unfold fX12_size at e
  exact (zite (zlet_n (x := h) rfl e)).1
theorem kx_words {x0 : Int32} {h : Zh} {y : Int32 × Zh} (e : fX12_words 76 x0 h = some y) : zK h 76 = 12 := by
  unfold fX12_words at e
  exact (zite (zlet_n (x := h) rfl e)).1
theorem kx_trouble {h : Zh} {y : Int32 × Zh} (e : fX12_trouble 76 h = some y) : zK h 76 = 12 := by
  unfold fX12_trouble at e
  exact (zite (zlet_n (x := h) rfl e)).1
