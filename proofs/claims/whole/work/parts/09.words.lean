theorem w_c_RJ6_265 : Cond.constant RJ6 265 (1431655765) ∈ zgd := zgd_in (List.mem_append_right _ (List.mem_of_getElem? (i := 680) (by decide +kernel))) (by decide +kernel)
theorem w_c_RJ6_266 : Cond.constant RJ6 266 (858993459) ∈ zgd := zgd_in (List.mem_append_right _ (List.mem_of_getElem? (i := 681) (by decide +kernel))) (by decide +kernel)
theorem w_c_RJ6_267 : Cond.constant RJ6 267 (252645135) ∈ zgd := zgd_in (List.mem_append_right _ (List.mem_of_getElem? (i := 682) (by decide +kernel))) (by decide +kernel)
theorem w_c_RX10_265 : Cond.constant RX10 265 (65536) ∈ zgd := zgd_in (List.mem_append_right _ (List.mem_of_getElem? (i := 1114) (by decide +kernel))) (by decide +kernel)
theorem w_c_RX10_273 : Cond.constant RX10 273 (65537) ∈ zgd := zgd_in (List.mem_append_right _ (List.mem_of_getElem? (i := 1123) (by decide +kernel))) (by decide +kernel)
theorem w_c_RX12_112 : Cond.constantLong RX12 112 (32) ∈ zgd := zgd_in (List.mem_append_right _ (List.mem_of_getElem? (i := 1468) (by decide +kernel))) (by decide +kernel)
theorem w_c_RX12_238 : Cond.constantLong RX12 238 (2000) ∈ zgd := zgd_in (List.mem_append_right _ (List.mem_of_getElem? (i := 1530) (by decide +kernel))) (by decide +kernel)
theorem w_c_RX12_42 : Cond.constant RX12 42 (32768) ∈ zgd := zgd_in (List.mem_append_right _ (List.mem_of_getElem? (i := 1238) (by decide +kernel))) (by decide +kernel)
theorem w_c_RX12_454 : Cond.constant RX12 454 (-1640531535) ∈ zgd := zgd_in (List.mem_append_right _ (List.mem_of_getElem? (i := 1766) (by decide +kernel))) (by decide +kernel)
theorem w_c_RX12_519 : Cond.constant RX12 519 (65536) ∈ zgd := zgd_in (List.mem_append_right _ (List.mem_of_getElem? (i := 1946) (by decide +kernel))) (by decide +kernel)
theorem w_c_RX12_523 : Cond.constantLong RX12 523 (75) ∈ zgd := zgd_in (List.mem_append_right _ (List.mem_of_getElem? (i := 1955) (by decide +kernel))) (by decide +kernel)
theorem w_c_RX12_525 : Cond.constantLong RX12 525 (74) ∈ zgd := zgd_in (List.mem_append_right _ (List.mem_of_getElem? (i := 1956) (by decide +kernel))) (by decide +kernel)
theorem w_c_RX12_527 : Cond.constantLong RX12 527 (65537) ∈ zgd := zgd_in (List.mem_append_right _ (List.mem_of_getElem? (i := 1957) (by decide +kernel))) (by decide +kernel)
theorem w_c_RX5_15 : Cond.constant RX5 15 (1000000) ∈ zgd := zgd_in (List.mem_append_right _ (List.mem_of_getElem? (i := 703) (by decide +kernel))) (by decide +kernel)
theorem w_c_RX7_165 : Cond.constantLong RX7 165 (2000) ∈ zgd := zgd_in (List.mem_append_right _ (List.mem_of_getElem? (i := 609) (by decide +kernel))) (by decide +kernel)
theorem w_c_RX8_25 : Cond.constant RX8 25 (-1640531535) ∈ zgd := zgd_in (List.mem_append_right _ (List.mem_of_getElem? (i := 937) (by decide +kernel))) (by decide +kernel)
theorem w_code_J0_charAt_5068e : Cond.code yJ0_charAt_5068e cJ0_charAt_5068e 2 (some .char) ∈ zgd := zgd_in (List.mem_append_right _ (List.mem_of_getElem? (i := 530) (by decide +kernel))) (by decide +kernel)
theorem w_code_J0_checkIndex_df160 : Cond.code yJ0_checkIndex_df160 cJ0_checkIndex_df160 2 none ∈ zgd := zgd_in (List.mem_append_right _ (List.mem_of_getElem? (i := 540) (by decide +kernel))) (by decide +kernel)
theorem w_code_J0_coder_7d493 : Cond.code yJ0_coder_7d493 cJ0_coder_7d493 1 (some .byte) ∈ zgd := zgd_in (List.mem_append_right _ (List.mem_of_getElem? (i := 524) (by decide +kernel))) (by decide +kernel)
theorem w_code_J0_isLatin1_aae02 : Cond.code yJ0_isLatin1_aae02 cJ0_isLatin1_aae02 1 (some .boolean) ∈ zgd := zgd_in (List.mem_append_right _ (List.mem_of_getElem? (i := 534) (by decide +kernel))) (by decide +kernel)
theorem w_code_J0_length_8abf5 : Cond.code yJ0_length_8abf5 cJ0_length_8abf5 1 (some .int) ∈ zgd := zgd_in (List.mem_append_right _ (List.mem_of_getElem? (i := 520) (by decide +kernel))) (by decide +kernel)
theorem w_code_J1_charAt_3b067 : Cond.code yJ1_charAt_3b067 cJ1_charAt_3b067 2 (some .char) ∈ zgd := zgd_in (List.mem_append_right _ (List.mem_of_getElem? (i := 537) (by decide +kernel))) (by decide +kernel)
theorem w_code_J3_checkIndex_8e157 : Cond.code yJ3_checkIndex_8e157 cJ3_checkIndex_8e157 3 (some .int) ∈ zgd := zgd_in (List.mem_append_right _ (List.mem_of_getElem? (i := 545) (by decide +kernel))) (by decide +kernel)
theorem w_code_J6_bitCount_0f7a4 : Cond.code yJ6_bitCount_0f7a4 cJ6_bitCount_0f7a4 1 (some .int) ∈ zgd := zgd_in (List.mem_append_right _ (List.mem_of_getElem? (i := 679) (by decide +kernel))) (by decide +kernel)
theorem w_code_J7_fill_53178 : Cond.code yJ7_fill_53178 cJ7_fill_53178 4 none ∈ zgd := zgd_in (List.mem_append_right _ (List.mem_of_getElem? (i := 718) (by decide +kernel))) (by decide +kernel)
theorem w_code_X0_anyOrder : Cond.code yX0_anyOrder cX0_anyOrder 1 (some .boolean) ∈ zgd := zgd_in (List.mem_append_right _ (List.mem_of_getElem? (i := 811) (by decide +kernel))) (by decide +kernel)
theorem w_code_X0_cardAt : Cond.code yX0_cardAt cX0_cardAt 2 (some .int) ∈ zgd := zgd_in (List.mem_append_right _ (List.mem_of_getElem? (i := 749) (by decide +kernel))) (by decide +kernel)
theorem w_code_X0_choose : Cond.code yX0_choose cX0_choose 5 (some .long) ∈ zgd := zgd_in (List.mem_append_right _ (List.mem_of_getElem? (i := 608) (by decide +kernel))) (by decide +kernel)
theorem w_code_X0_clear : Cond.code yX0_clear cX0_clear 1 none ∈ zgd := zgd_in (List.mem_append_right _ (List.mem_of_getElem? (i := 495) (by decide +kernel))) (by decide +kernel)
theorem w_code_X0_falling : Cond.code yX0_falling cX0_falling 5 (some .long) ∈ zgd := zgd_in (List.mem_append_right _ (List.mem_of_getElem? (i := 605) (by decide +kernel))) (by decide +kernel)
theorem w_code_X0_handNumber : Cond.code yX0_handNumber cX0_handNumber 5 (some .int) ∈ zgd := zgd_in (List.mem_append_right _ (List.mem_of_getElem? (i := 672) (by decide +kernel))) (by decide +kernel)
theorem w_code_X0_handsOf : Cond.code yX0_handsOf cX0_handsOf 2 (some .long) ∈ zgd := zgd_in (List.mem_append_right _ (List.mem_of_getElem? (i := 602) (by decide +kernel))) (by decide +kernel)
theorem w_code_X0_isHand : Cond.code yX0_isHand cX0_isHand 5 (some .boolean) ∈ zgd := zgd_in (List.mem_append_right _ (List.mem_of_getElem? (i := 757) (by decide +kernel))) (by decide +kernel)
theorem w_code_X0_isShownOf : Cond.code yX0_isShownOf cX0_isShownOf 6 (some .boolean) ∈ zgd := zgd_in (List.mem_append_right _ (List.mem_of_getElem? (i := 790) (by decide +kernel))) (by decide +kernel)
theorem w_code_X0_lower : Cond.code yX0_lower cX0_lower 2 (some .int) ∈ zgd := zgd_in (List.mem_append_right _ (List.mem_of_getElem? (i := 920) (by decide +kernel))) (by decide +kernel)
theorem w_code_X0_placeIn : Cond.code yX0_placeIn cX0_placeIn 5 (some .int) ∈ zgd := zgd_in (List.mem_append_right _ (List.mem_of_getElem? (i := 794) (by decide +kernel))) (by decide +kernel)
theorem w_code_X0_rowNumber : Cond.code yX0_rowNumber cX0_rowNumber 7 (some .int) ∈ zgd := zgd_in (List.mem_append_right _ (List.mem_of_getElem? (i := 676) (by decide +kernel))) (by decide +kernel)
theorem w_code_X0_rowsOf : Cond.code yX0_rowsOf cX0_rowsOf 2 (some .long) ∈ zgd := zgd_in (List.mem_append_right _ (List.mem_of_getElem? (i := 831) (by decide +kernel))) (by decide +kernel)
theorem w_code_X0_settle : Cond.code yX0_settle cX0_settle 1 none ∈ zgd := zgd_in (List.mem_append_right _ (List.mem_of_getElem? (i := 615) (by decide +kernel))) (by decide +kernel)
theorem w_code_X0_sort : Cond.code yX0_sort cX0_sort 5 none ∈ zgd := zgd_in (List.mem_append_right _ (List.mem_of_getElem? (i := 685) (by decide +kernel))) (by decide +kernel)
theorem w_code_X0_unpackRow : Cond.code yX0_unpackRow cX0_unpackRow 6 none ∈ zgd := zgd_in (List.mem_append_right _ (List.mem_of_getElem? (i := 770) (by decide +kernel))) (by decide +kernel)
theorem w_code_X0_unusedCard : Cond.code yX0_unusedCard cX0_unusedCard 5 (some .int) ∈ zgd := zgd_in (List.mem_append_right _ (List.mem_of_getElem? (i := 774) (by decide +kernel))) (by decide +kernel)
theorem w_code_X0_waysToShow : Cond.code yX0_waysToShow cX0_waysToShow 3 (some .int) ∈ zgd := zgd_in (List.mem_append_right _ (List.mem_of_getElem? (i := 807) (by decide +kernel))) (by decide +kernel)
theorem w_code_X10_answer : Cond.code yX10_answer cX10_answer 2 (some .int) ∈ zgd := zgd_in (List.mem_append_right _ (List.mem_of_getElem? (i := 722) (by decide +kernel))) (by decide +kernel)
theorem w_code_X10_answerWhether : Cond.code yX10_answerWhether cX10_answerWhether 2 (some .int) ∈ zgd := zgd_in (List.mem_append_right _ (List.mem_of_getElem? (i := 799) (by decide +kernel))) (by decide +kernel)
theorem w_code_X10_deny : Cond.code yX10_deny cX10_deny 2 (some .boolean) ∈ zgd := zgd_in (List.mem_append_right _ (List.mem_of_getElem? (i := 1113) (by decide +kernel))) (by decide +kernel)
theorem w_code_X10_fitsHand : Cond.code yX10_fitsHand cX10_fitsHand 3 (some .boolean) ∈ zgd := zgd_in (List.mem_append_right _ (List.mem_of_getElem? (i := 786) (by decide +kernel))) (by decide +kernel)
theorem w_code_X10_grant : Cond.code yX10_grant cX10_grant 1 (some .boolean) ∈ zgd := zgd_in (List.mem_append_right _ (List.mem_of_getElem? (i := 1118) (by decide +kernel))) (by decide +kernel)
theorem w_code_X10_isAgreed : Cond.code yX10_isAgreed cX10_isAgreed 3 (some .boolean) ∈ zgd := zgd_in (List.mem_append_right _ (List.mem_of_getElem? (i := 1068) (by decide +kernel))) (by decide +kernel)
theorem w_code_X10_noEvening : Cond.code yX10_noEvening cX10_noEvening 2 (some .boolean) ∈ zgd := zgd_in (List.mem_append_right _ (List.mem_of_getElem? (i := 1056) (by decide +kernel))) (by decide +kernel)
theorem w_code_X10_noHand : Cond.code yX10_noHand cX10_noHand 2 (some .boolean) ∈ zgd := zgd_in (List.mem_append_right _ (List.mem_of_getElem? (i := 746) (by decide +kernel))) (by decide +kernel)
theorem w_code_X10_noRow : Cond.code yX10_noRow cX10_noRow 2 (some .boolean) ∈ zgd := zgd_in (List.mem_append_right _ (List.mem_of_getElem? (i := 766) (by decide +kernel))) (by decide +kernel)
theorem w_code_X10_noRule : Cond.code yX10_noRule cX10_noRule 2 (some .boolean) ∈ zgd := zgd_in (List.mem_append_right _ (List.mem_of_getElem? (i := 819) (by decide +kernel))) (by decide +kernel)
theorem w_code_X10_putBytes : Cond.code yX10_putBytes cX10_putBytes 3 none ∈ zgd := zgd_in (List.mem_append_right _ (List.mem_of_getElem? (i := 472) (by decide +kernel))) (by decide +kernel)
theorem w_code_X10_refuse : Cond.code yX10_refuse cX10_refuse 2 (some .int) ∈ zgd := zgd_in (List.mem_append_right _ (List.mem_of_getElem? (i := 480) (by decide +kernel))) (by decide +kernel)
theorem w_code_X11_handsOf : Cond.code yX11_handsOf cX11_handsOf 2 (some .long) ∈ zgd := zgd_in (List.mem_append_right _ (List.mem_of_getElem? (i := 1522) (by decide +kernel))) (by decide +kernel)
theorem w_code_X11_tilts : Cond.code yX11_tilts cX11_tilts 1 (some .int) ∈ zgd := zgd_in (List.mem_append_right _ (List.mem_of_getElem? (i := 1628) (by decide +kernel))) (by decide +kernel)
theorem w_code_X12_agreesWith : Cond.code yX12_agreesWith cX12_agreesWith 3 (some .boolean) ∈ zgd := zgd_in (List.mem_append_right _ (List.mem_of_getElem? (i := 1898) (by decide +kernel))) (by decide +kernel)
theorem w_code_X12_apartNow : Cond.code yX12_apartNow cX12_apartNow 5 (some .int) ∈ zgd := zgd_in (List.mem_append_right _ (List.mem_of_getElem? (i := 1922) (by decide +kernel))) (by decide +kernel)
theorem w_code_X12_areRules : Cond.code yX12_areRules cX12_areRules 3 (some .boolean) ∈ zgd := zgd_in (List.mem_append_right _ (List.mem_of_getElem? (i := 1918) (by decide +kernel))) (by decide +kernel)
theorem w_code_X12_becomes : Cond.code yX12_becomes cX12_becomes 7 (some .int) ∈ zgd := zgd_in (List.mem_append_right _ (List.mem_of_getElem? (i := 1834) (by decide +kernel))) (by decide +kernel)
theorem w_code_X12_begins : Cond.code yX12_begins cX12_begins 3 none ∈ zgd := zgd_in (List.mem_append_right _ (List.mem_of_getElem? (i := 1545) (by decide +kernel))) (by decide +kernel)
theorem w_code_X12_bounded : Cond.code yX12_bounded cX12_bounded 3 (some .int) ∈ zgd := zgd_in (List.mem_append_right _ (List.mem_of_getElem? (i := 1510) (by decide +kernel))) (by decide +kernel)
theorem w_code_X12_byteAt : Cond.code yX12_byteAt cX12_byteAt 2 (some .int) ∈ zgd := zgd_in (List.mem_append_right _ (List.mem_of_getElem? (i := 1464) (by decide +kernel))) (by decide +kernel)
theorem w_code_X12_cardOf : Cond.code yX12_cardOf cX12_cardOf 3 (some .int) ∈ zgd := zgd_in (List.mem_append_right _ (List.mem_of_getElem? (i := 1616) (by decide +kernel))) (by decide +kernel)
theorem w_code_X12_clashNow : Cond.code yX12_clashNow cX12_clashNow 2 (some .int) ∈ zgd := zgd_in (List.mem_append_right _ (List.mem_of_getElem? (i := 1806) (by decide +kernel))) (by decide +kernel)
theorem w_code_X12_clearOwners : Cond.code yX12_clearOwners cX12_clearOwners 2 none ∈ zgd := zgd_in (List.mem_append_right _ (List.mem_of_getElem? (i := 1745) (by decide +kernel))) (by decide +kernel)
theorem w_code_X12_countOf : Cond.code yX12_countOf cX12_countOf 3 (some .long) ∈ zgd := zgd_in (List.mem_append_right _ (List.mem_of_getElem? (i := 1874) (by decide +kernel))) (by decide +kernel)
theorem w_code_X12_denied : Cond.code yX12_denied cX12_denied 2 (some .boolean) ∈ zgd := zgd_in (List.mem_append_right _ (List.mem_of_getElem? (i := 1945) (by decide +kernel))) (by decide +kernel)
theorem w_code_X12_divisor : Cond.code yX12_divisor cX12_divisor 5 (some .int) ∈ zgd := zgd_in (List.mem_append_right _ (List.mem_of_getElem? (i := 1929) (by decide +kernel))) (by decide +kernel)
theorem w_code_X12_eatsSign : Cond.code yX12_eatsSign cX12_eatsSign 3 (some .boolean) ∈ zgd := zgd_in (List.mem_append_right _ (List.mem_of_getElem? (i := 1588) (by decide +kernel))) (by decide +kernel)
theorem w_code_X12_eatsWord : Cond.code yX12_eatsWord cX12_eatsWord 3 (some .boolean) ∈ zgd := zgd_in (List.mem_append_right _ (List.mem_of_getElem? (i := 1535) (by decide +kernel))) (by decide +kernel)
theorem w_code_X12_firstWith : Cond.code yX12_firstWith cX12_firstWith 3 (some .int) ∈ zgd := zgd_in (List.mem_append_right _ (List.mem_of_getElem? (i := 1794) (by decide +kernel))) (by decide +kernel)
theorem w_code_X12_firstWrong : Cond.code yX12_firstWrong cX12_firstWrong 3 (some .int) ∈ zgd := zgd_in (List.mem_append_right _ (List.mem_of_getElem? (i := 1906) (by decide +kernel))) (by decide +kernel)
theorem w_code_X12_fitsOf : Cond.code yX12_fitsOf cX12_fitsOf 4 none ∈ zgd := zgd_in (List.mem_append_right _ (List.mem_of_getElem? (i := 1753) (by decide +kernel))) (by decide +kernel)
theorem w_code_X12_fittingMany : Cond.code yX12_fittingMany cX12_fittingMany 1 (some .int) ∈ zgd := zgd_in (List.mem_append_right _ (List.mem_of_getElem? (i := 1696) (by decide +kernel))) (by decide +kernel)
theorem w_code_X12_flaw : Cond.code yX12_flaw cX12_flaw 2 none ∈ zgd := zgd_in (List.mem_append_right _ (List.mem_of_getElem? (i := 1497) (by decide +kernel))) (by decide +kernel)
theorem w_code_X12_goesOn : Cond.code yX12_goesOn cX12_goesOn 3 none ∈ zgd := zgd_in (List.mem_append_right _ (List.mem_of_getElem? (i := 1460) (by decide +kernel))) (by decide +kernel)
theorem w_code_X12_goesOnFrom : Cond.code yX12_goesOnFrom cX12_goesOnFrom 10 (some .boolean) ∈ zgd := zgd_in (List.mem_append_right _ (List.mem_of_getElem? (i := 1749) (by decide +kernel))) (by decide +kernel)
theorem w_code_X12_good : Cond.code yX12_good cX12_good 2 (some .int) ∈ zgd := zgd_in (List.mem_append_right _ (List.mem_of_getElem? (i := 1632) (by decide +kernel))) (by decide +kernel)
theorem w_code_X12_granted : Cond.code yX12_granted cX12_granted 1 (some .boolean) ∈ zgd := zgd_in (List.mem_append_right _ (List.mem_of_getElem? (i := 1950) (by decide +kernel))) (by decide +kernel)
theorem w_code_X12_handNumber : Cond.code yX12_handNumber cX12_handNumber 6 (some .int) ∈ zgd := zgd_in (List.mem_append_right _ (List.mem_of_getElem? (i := 1612) (by decide +kernel))) (by decide +kernel)
theorem w_code_X12_has : Cond.code yX12_has cX12_has 4 (some .boolean) ∈ zgd := zgd_in (List.mem_append_right _ (List.mem_of_getElem? (i := 1620) (by decide +kernel))) (by decide +kernel)
theorem w_code_X12_in : Cond.code yX12_in cX12_in 3 (some .boolean) ∈ zgd := zgd_in (List.mem_append_right _ (List.mem_of_getElem? (i := 1513) (by decide +kernel))) (by decide +kernel)
theorem w_code_X12_isBorne : Cond.code yX12_isBorne cX12_isBorne 5 (some .boolean) ∈ zgd := zgd_in (List.mem_append_right _ (List.mem_of_getElem? (i := 1846) (by decide +kernel))) (by decide +kernel)
theorem w_code_X12_isDigit : Cond.code yX12_isDigit cX12_isDigit 1 (some .boolean) ∈ zgd := zgd_in (List.mem_append_right _ (List.mem_of_getElem? (i := 1471) (by decide +kernel))) (by decide +kernel)
theorem w_code_X12_isEvening : Cond.code yX12_isEvening cX12_isEvening 2 (some .boolean) ∈ zgd := zgd_in (List.mem_append_right _ (List.mem_of_getElem? (i := 1886) (by decide +kernel))) (by decide +kernel)
theorem w_code_X12_isHand : Cond.code yX12_isHand cX12_isHand 2 (some .boolean) ∈ zgd := zgd_in (List.mem_append_right _ (List.mem_of_getElem? (i := 1660) (by decide +kernel))) (by decide +kernel)
theorem w_code_X12_isLetter : Cond.code yX12_isLetter cX12_isLetter 1 (some .boolean) ∈ zgd := zgd_in (List.mem_append_right _ (List.mem_of_getElem? (i := 1467) (by decide +kernel))) (by decide +kernel)
theorem w_code_X12_isName : Cond.code yX12_isName cX12_isName 1 (some .boolean) ∈ zgd := zgd_in (List.mem_append_right _ (List.mem_of_getElem? (i := 1549) (by decide +kernel))) (by decide +kernel)
theorem w_code_X12_isOneOrder : Cond.code yX12_isOneOrder cX12_isOneOrder 1 (some .boolean) ∈ zgd := zgd_in (List.mem_append_right _ (List.mem_of_getElem? (i := 1608) (by decide +kernel))) (by decide +kernel)
theorem w_code_X12_isOwned : Cond.code yX12_isOwned cX12_isOwned 2 (some .boolean) ∈ zgd := zgd_in (List.mem_append_right _ (List.mem_of_getElem? (i := 1838) (by decide +kernel))) (by decide +kernel)
theorem w_code_X12_isPicked : Cond.code yX12_isPicked cX12_isPicked 4 (some .boolean) ∈ zgd := zgd_in (List.mem_append_right _ (List.mem_of_getElem? (i := 1600) (by decide +kernel))) (by decide +kernel)
theorem w_code_X12_isRow : Cond.code yX12_isRow cX12_isRow 2 (some .boolean) ∈ zgd := zgd_in (List.mem_append_right _ (List.mem_of_getElem? (i := 1672) (by decide +kernel))) (by decide +kernel)
theorem w_code_X12_isRule : Cond.code yX12_isRule cX12_isRule 2 (some .boolean) ∈ zgd := zgd_in (List.mem_append_right _ (List.mem_of_getElem? (i := 1705) (by decide +kernel))) (by decide +kernel)
theorem w_code_X12_isSeen : Cond.code yX12_isSeen cX12_isSeen 3 (some .boolean) ∈ zgd := zgd_in (List.mem_append_right _ (List.mem_of_getElem? (i := 1830) (by decide +kernel))) (by decide +kernel)
theorem w_code_X12_isWord : Cond.code yX12_isWord cX12_isWord 2 (some .boolean) ∈ zgd := zgd_in (List.mem_append_right _ (List.mem_of_getElem? (i := 1484) (by decide +kernel))) (by decide +kernel)
theorem w_code_X12_isWorking : Cond.code yX12_isWorking cX12_isWorking 2 (some .boolean) ∈ zgd := zgd_in (List.mem_append_right _ (List.mem_of_getElem? (i := 1802) (by decide +kernel))) (by decide +kernel)
theorem w_code_X12_keepsAt : Cond.code yX12_keepsAt cX12_keepsAt 5 (some .int) ∈ zgd := zgd_in (List.mem_append_right _ (List.mem_of_getElem? (i := 1729) (by decide +kernel))) (by decide +kernel)
theorem w_code_X12_knowsTable : Cond.code yX12_knowsTable cX12_knowsTable 4 none ∈ zgd := zgd_in (List.mem_append_right _ (List.mem_of_getElem? (i := 1737) (by decide +kernel))) (by decide +kernel)
theorem w_code_X12_laysAll : Cond.code yX12_laysAll cX12_laysAll 3 none ∈ zgd := zgd_in (List.mem_append_right _ (List.mem_of_getElem? (i := 1790) (by decide +kernel))) (by decide +kernel)
theorem w_code_X12_laysAllWords : Cond.code yX12_laysAllWords cX12_laysAllWords 3 none ∈ zgd := zgd_in (List.mem_append_right _ (List.mem_of_getElem? (i := 1854) (by decide +kernel))) (by decide +kernel)
theorem w_code_X12_laysNow : Cond.code yX12_laysNow cX12_laysNow 4 (some .int) ∈ zgd := zgd_in (List.mem_append_right _ (List.mem_of_getElem? (i := 1709) (by decide +kernel))) (by decide +kernel)
theorem w_code_X12_laysSuit : Cond.code yX12_laysSuit cX12_laysSuit 13 (some .int) ∈ zgd := zgd_in (List.mem_append_right _ (List.mem_of_getElem? (i := 1713) (by decide +kernel))) (by decide +kernel)
theorem w_code_X12_laysWords : Cond.code yX12_laysWords cX12_laysWords 13 (some .int) ∈ zgd := zgd_in (List.mem_append_right _ (List.mem_of_getElem? (i := 1721) (by decide +kernel))) (by decide +kernel)
theorem w_code_X12_needs : Cond.code yX12_needs cX12_needs 2 none ∈ zgd := zgd_in (List.mem_append_right _ (List.mem_of_getElem? (i := 1506) (by decide +kernel))) (by decide +kernel)
theorem w_code_X12_needsSign : Cond.code yX12_needsSign cX12_needsSign 2 none ∈ zgd := zgd_in (List.mem_append_right _ (List.mem_of_getElem? (i := 1580) (by decide +kernel))) (by decide +kernel)
theorem w_code_X12_next : Cond.code yX12_next cX12_next 3 (some .int) ∈ zgd := zgd_in (List.mem_append_right _ (List.mem_of_getElem? (i := 1596) (by decide +kernel))) (by decide +kernel)
theorem w_code_X12_orders : Cond.code yX12_orders cX12_orders 9 none ∈ zgd := zgd_in (List.mem_append_right _ (List.mem_of_getElem? (i := 1717) (by decide +kernel))) (by decide +kernel)
theorem w_code_X12_ownerOf : Cond.code yX12_ownerOf cX12_ownerOf 3 (some .int) ∈ zgd := zgd_in (List.mem_append_right _ (List.mem_of_getElem? (i := 1761) (by decide +kernel))) (by decide +kernel)
theorem w_code_X12_owns : Cond.code yX12_owns cX12_owns 4 none ∈ zgd := zgd_in (List.mem_append_right _ (List.mem_of_getElem? (i := 1774) (by decide +kernel))) (by decide +kernel)
theorem w_code_X12_ownsLaid : Cond.code yX12_ownsLaid cX12_ownsLaid 2 none ∈ zgd := zgd_in (List.mem_append_right _ (List.mem_of_getElem? (i := 1826) (by decide +kernel))) (by decide +kernel)
theorem w_code_X12_pairsNow : Cond.code yX12_pairsNow cX12_pairsNow 3 (some .int) ∈ zgd := zgd_in (List.mem_append_right _ (List.mem_of_getElem? (i := 1741) (by decide +kernel))) (by decide +kernel)
theorem w_code_X12_puts : Cond.code yX12_puts cX12_puts 5 none ∈ zgd := zgd_in (List.mem_append_right _ (List.mem_of_getElem? (i := 1757) (by decide +kernel))) (by decide +kernel)
theorem w_code_X12_readEvening : Cond.code yX12_readEvening cX12_readEvening 3 none ∈ zgd := zgd_in (List.mem_append_right _ (List.mem_of_getElem? (i := 1572) (by decide +kernel))) (by decide +kernel)
theorem w_code_X12_readLine : Cond.code yX12_readLine cX12_readLine 1 none ∈ zgd := zgd_in (List.mem_append_right _ (List.mem_of_getElem? (i := 1479) (by decide +kernel))) (by decide +kernel)
theorem w_code_X12_readPart : Cond.code yX12_readPart cX12_readPart 5 (some .int) ∈ zgd := zgd_in (List.mem_append_right _ (List.mem_of_getElem? (i := 1502) (by decide +kernel))) (by decide +kernel)
theorem w_code_X12_readPlaces : Cond.code yX12_readPlaces cX12_readPlaces 4 (some .int) ∈ zgd := zgd_in (List.mem_append_right _ (List.mem_of_getElem? (i := 1584) (by decide +kernel))) (by decide +kernel)
theorem w_code_X12_readRule : Cond.code yX12_readRule cX12_readRule 4 none ∈ zgd := zgd_in (List.mem_append_right _ (List.mem_of_getElem? (i := 1541) (by decide +kernel))) (by decide +kernel)
theorem w_code_X12_readTrick : Cond.code yX12_readTrick cX12_readTrick 5 none ∈ zgd := zgd_in (List.mem_append_right _ (List.mem_of_getElem? (i := 1493) (by decide +kernel))) (by decide +kernel)
theorem w_code_X12_readUnlike : Cond.code yX12_readUnlike cX12_readUnlike 8 none ∈ zgd := zgd_in (List.mem_append_right _ (List.mem_of_getElem? (i := 1576) (by decide +kernel))) (by decide +kernel)
theorem w_code_X12_readWords : Cond.code yX12_readWords cX12_readWords 3 (some .int) ∈ zgd := zgd_in (List.mem_append_right _ (List.mem_of_getElem? (i := 1559) (by decide +kernel))) (by decide +kernel)
theorem w_code_X12_refused : Cond.code yX12_refused cX12_refused 2 (some .int) ∈ zgd := zgd_in (List.mem_append_right _ (List.mem_of_getElem? (i := 1394) (by decide +kernel))) (by decide +kernel)
theorem w_code_X12_rowCards : Cond.code yX12_rowCards cX12_rowCards 9 none ∈ zgd := zgd_in (List.mem_append_right _ (List.mem_of_getElem? (i := 1676) (by decide +kernel))) (by decide +kernel)
theorem w_code_X12_rowFits : Cond.code yX12_rowFits cX12_rowFits 5 (some .boolean) ∈ zgd := zgd_in (List.mem_append_right _ (List.mem_of_getElem? (i := 1688) (by decide +kernel))) (by decide +kernel)
theorem w_code_X12_rowMany : Cond.code yX12_rowMany cX12_rowMany 1 (some .int) ∈ zgd := zgd_in (List.mem_append_right _ (List.mem_of_getElem? (i := 1652) (by decide +kernel))) (by decide +kernel)
theorem w_code_X12_rowNumber : Cond.code yX12_rowNumber cX12_rowNumber 7 (some .int) ∈ zgd := zgd_in (List.mem_append_right _ (List.mem_of_getElem? (i := 1624) (by decide +kernel))) (by decide +kernel)
theorem w_code_X12_rowsOf : Cond.code yX12_rowsOf cX12_rowsOf 5 (some .long) ∈ zgd := zgd_in (List.mem_append_right _ (List.mem_of_getElem? (i := 1525) (by decide +kernel))) (by decide +kernel)
theorem w_code_X12_setsOf : Cond.code yX12_setsOf cX12_setsOf 2 (some .long) ∈ zgd := zgd_in (List.mem_append_right _ (List.mem_of_getElem? (i := 1528) (by decide +kernel))) (by decide +kernel)
theorem w_code_X12_settles : Cond.code yX12_settles cX12_settles 5 (some .boolean) ∈ zgd := zgd_in (List.mem_append_right _ (List.mem_of_getElem? (i := 1778) (by decide +kernel))) (by decide +kernel)
theorem w_code_X12_slot : Cond.code yX12_slot cX12_slot 3 (some .int) ∈ zgd := zgd_in (List.mem_append_right _ (List.mem_of_getElem? (i := 1765) (by decide +kernel))) (by decide +kernel)
theorem w_code_X12_sorts : Cond.code yX12_sorts cX12_sorts 5 none ∈ zgd := zgd_in (List.mem_append_right _ (List.mem_of_getElem? (i := 1725) (by decide +kernel))) (by decide +kernel)
theorem w_code_X12_takes : Cond.code yX12_takes cX12_takes 6 none ∈ zgd := zgd_in (List.mem_append_right _ (List.mem_of_getElem? (i := 1770) (by decide +kernel))) (by decide +kernel)
theorem w_code_X12_tells : Cond.code yX12_tells cX12_tells 10 (some .int) ∈ zgd := zgd_in (List.mem_append_right _ (List.mem_of_getElem? (i := 1733) (by decide +kernel))) (by decide +kernel)
theorem w_code_X12_wordOf : Cond.code yX12_wordOf cX12_wordOf 4 (some .long) ∈ zgd := zgd_in (List.mem_append_right _ (List.mem_of_getElem? (i := 1487) (by decide +kernel))) (by decide +kernel)
theorem w_code_X1_add : Cond.code yX1_add cX1_add 3 none ∈ zgd := zgd_in (List.mem_append_right _ (List.mem_of_getElem? (i := 694) (by decide +kernel))) (by decide +kernel)
theorem w_code_X1_become : Cond.code yX1_become cX1_become 2 none ∈ zgd := zgd_in (List.mem_append_right _ (List.mem_of_getElem? (i := 1135) (by decide +kernel))) (by decide +kernel)
theorem w_code_X1_clear : Cond.code yX1_clear cX1_clear 1 none ∈ zgd := zgd_in (List.mem_append_right _ (List.mem_of_getElem? (i := 499) (by decide +kernel))) (by decide +kernel)
theorem w_code_X2_clear : Cond.code yX2_clear cX2_clear 1 none ∈ zgd := zgd_in (List.mem_append_right _ (List.mem_of_getElem? (i := 715) (by decide +kernel))) (by decide +kernel)
theorem w_code_X3_arrange : Cond.code yX3_arrange cX3_arrange 11 none ∈ zgd := zgd_in (List.mem_append_right _ (List.mem_of_getElem? (i := 893) (by decide +kernel))) (by decide +kernel)
theorem w_code_X3_bySuit : Cond.code yX3_bySuit cX3_bySuit 5 (some .int) ∈ zgd := zgd_in (List.mem_append_right _ (List.mem_of_getElem? (i := 877) (by decide +kernel))) (by decide +kernel)
theorem w_code_X3_byWords : Cond.code yX3_byWords cX3_byWords 12 (some .int) ∈ zgd := zgd_in (List.mem_append_right _ (List.mem_of_getElem? (i := 898) (by decide +kernel))) (by decide +kernel)
theorem w_code_X3_gapBelow : Cond.code yX3_gapBelow cX3_gapBelow 5 (some .int) ∈ zgd := zgd_in (List.mem_append_right _ (List.mem_of_getElem? (i := 917) (by decide +kernel))) (by decide +kernel)
theorem w_code_X3_keepPlace : Cond.code yX3_keepPlace cX3_keepPlace 5 (some .int) ∈ zgd := zgd_in (List.mem_append_right _ (List.mem_of_getElem? (i := 902) (by decide +kernel))) (by decide +kernel)
theorem w_code_X3_rowOfTwo : Cond.code yX3_rowOfTwo cX3_rowOfTwo 10 (some .int) ∈ zgd := zgd_in (List.mem_append_right _ (List.mem_of_getElem? (i := 888) (by decide +kernel))) (by decide +kernel)
theorem w_code_X3_rowTelling : Cond.code yX3_rowTelling cX3_rowTelling 4 (some .int) ∈ zgd := zgd_in (List.mem_append_right _ (List.mem_of_getElem? (i := 924) (by decide +kernel))) (by decide +kernel)
theorem w_code_X3_showOthers : Cond.code yX3_showOthers cX3_showOthers 8 (some .int) ∈ zgd := zgd_in (List.mem_append_right _ (List.mem_of_getElem? (i := 910) (by decide +kernel))) (by decide +kernel)
theorem w_code_X3_sortHand : Cond.code yX3_sortHand cX3_sortHand 4 none ∈ zgd := zgd_in (List.mem_append_right _ (List.mem_of_getElem? (i := 882) (by decide +kernel))) (by decide +kernel)
theorem w_code_X3_tellOf : Cond.code yX3_tellOf cX3_tellOf 6 (some .int) ∈ zgd := zgd_in (List.mem_append_right _ (List.mem_of_getElem? (i := 914) (by decide +kernel))) (by decide +kernel)
theorem w_code_X4_begin : Cond.code yX4_begin cX4_begin 3 none ∈ zgd := zgd_in (List.mem_append_right _ (List.mem_of_getElem? (i := 698) (by decide +kernel))) (by decide +kernel)
theorem w_code_X4_doWordsWork : Cond.code yX4_doWordsWork cX4_doWordsWork 2 (some .boolean) ∈ zgd := zgd_in (List.mem_append_right _ (List.mem_of_getElem? (i := 1008) (by decide +kernel))) (by decide +kernel)
theorem w_code_X4_largestDeck : Cond.code yX4_largestDeck cX4_largestDeck 2 (some .int) ∈ zgd := zgd_in (List.mem_append_right _ (List.mem_of_getElem? (i := 1046) (by decide +kernel))) (by decide +kernel)
theorem w_code_X4_noSwap : Cond.code yX4_noSwap cX4_noSwap 7 (some .boolean) ∈ zgd := zgd_in (List.mem_append_right _ (List.mem_of_getElem? (i := 982) (by decide +kernel))) (by decide +kernel)
theorem w_code_X4_swapCards : Cond.code yX4_swapCards cX4_swapCards 3 none ∈ zgd := zgd_in (List.mem_append_right _ (List.mem_of_getElem? (i := 995) (by decide +kernel))) (by decide +kernel)
theorem w_code_X4_swapped : Cond.code yX4_swapped cX4_swapped 5 (some .int) ∈ zgd := zgd_in (List.mem_append_right _ (List.mem_of_getElem? (i := 991) (by decide +kernel))) (by decide +kernel)
theorem w_code_X4_tableRow : Cond.code yX4_tableRow cX4_tableRow 2 (some .int) ∈ zgd := zgd_in (List.mem_append_right _ (List.mem_of_getElem? (i := 873) (by decide +kernel))) (by decide +kernel)
theorem w_code_X4_tryWords : Cond.code yX4_tryWords cX4_tryWords 3 (some .boolean) ∈ zgd := zgd_in (List.mem_append_right _ (List.mem_of_getElem? (i := 1012) (by decide +kernel))) (by decide +kernel)
theorem w_code_X5_following : Cond.code yX5_following cX5_following 6 (some .int) ∈ zgd := zgd_in (List.mem_append_right _ (List.mem_of_getElem? (i := 707) (by decide +kernel))) (by decide +kernel)
theorem w_code_X5_list : Cond.code yX5_list cX5_list 8 none ∈ zgd := zgd_in (List.mem_append_right _ (List.mem_of_getElem? (i := 702) (by decide +kernel))) (by decide +kernel)
theorem w_code_X5_pack : Cond.code yX5_pack cX5_pack 4 (some .int) ∈ zgd := zgd_in (List.mem_append_right _ (List.mem_of_getElem? (i := 711) (by decide +kernel))) (by decide +kernel)
theorem w_code_X6_hurry : Cond.code yX6_hurry cX6_hurry 7 none ∈ zgd := zgd_in (List.mem_append_right _ (List.mem_of_getElem? (i := 857) (by decide +kernel))) (by decide +kernel)
theorem w_code_X6_rehome : Cond.code yX6_rehome cX6_rehome 9 (some .boolean) ∈ zgd := zgd_in (List.mem_append_right _ (List.mem_of_getElem? (i := 853) (by decide +kernel))) (by decide +kernel)
theorem w_code_X6_rowAt : Cond.code yX6_rowAt cX6_rowAt 5 (some .int) ∈ zgd := zgd_in (List.mem_append_right _ (List.mem_of_getElem? (i := 847) (by decide +kernel))) (by decide +kernel)
theorem w_code_X7_fail : Cond.code yX7_fail cX7_fail 2 (some .boolean) ∈ zgd := zgd_in (List.mem_append_right _ (List.mem_of_getElem? (i := 572) (by decide +kernel))) (by decide +kernel)
theorem w_code_X7_is : Cond.code yX7_is cX7_is 3 (some .boolean) ∈ zgd := zgd_in (List.mem_append_right _ (List.mem_of_getElem? (i := 516) (by decide +kernel))) (by decide +kernel)
theorem w_code_X7_isNameOf : Cond.code yX7_isNameOf cX7_isNameOf 3 (some .boolean) ∈ zgd := zgd_in (List.mem_append_right _ (List.mem_of_getElem? (i := 632) (by decide +kernel))) (by decide +kernel)
theorem w_code_X7_isUntold : Cond.code yX7_isUntold cX7_isUntold 3 (some .boolean) ∈ zgd := zgd_in (List.mem_append_right _ (List.mem_of_getElem? (i := 668) (by decide +kernel))) (by decide +kernel)
theorem w_code_X7_isWhole : Cond.code yX7_isWhole cX7_isWhole 3 (some .boolean) ∈ zgd := zgd_in (List.mem_append_right _ (List.mem_of_getElem? (i := 581) (by decide +kernel))) (by decide +kernel)
theorem w_code_X7_keepWord : Cond.code yX7_keepWord cX7_keepWord 1 (some .int) ∈ zgd := zgd_in (List.mem_append_right _ (List.mem_of_getElem? (i := 643) (by decide +kernel))) (by decide +kernel)
theorem w_code_X7_pass : Cond.code yX7_pass cX7_pass 2 (some .boolean) ∈ zgd := zgd_in (List.mem_append_right _ (List.mem_of_getElem? (i := 590) (by decide +kernel))) (by decide +kernel)
theorem w_code_X7_passWhole : Cond.code yX7_passWhole cX7_passWhole 5 (some .int) ∈ zgd := zgd_in (List.mem_append_right _ (List.mem_of_getElem? (i := 577) (by decide +kernel))) (by decide +kernel)
theorem w_code_X7_readCards : Cond.code yX7_readCards cX7_readCards 4 (some .boolean) ∈ zgd := zgd_in (List.mem_append_right _ (List.mem_of_getElem? (i := 664) (by decide +kernel))) (by decide +kernel)
theorem w_code_X7_readEvening : Cond.code yX7_readEvening cX7_readEvening 5 (some .boolean) ∈ zgd := zgd_in (List.mem_append_right _ (List.mem_of_getElem? (i := 660) (by decide +kernel))) (by decide +kernel)
theorem w_code_X7_readKind : Cond.code yX7_readKind cX7_readKind 3 (some .int) ∈ zgd := zgd_in (List.mem_append_right _ (List.mem_of_getElem? (i := 636) (by decide +kernel))) (by decide +kernel)
theorem w_code_X7_readLine : Cond.code yX7_readLine cX7_readLine 1 (some .boolean) ∈ zgd := zgd_in (List.mem_append_right _ (List.mem_of_getElem? (i := 511) (by decide +kernel))) (by decide +kernel)
theorem w_code_X7_readName : Cond.code yX7_readName cX7_readName 2 (some .boolean) ∈ zgd := zgd_in (List.mem_append_right _ (List.mem_of_getElem? (i := 625) (by decide +kernel))) (by decide +kernel)
theorem w_code_X7_readRule : Cond.code yX7_readRule cX7_readRule 2 (some .boolean) ∈ zgd := zgd_in (List.mem_append_right _ (List.mem_of_getElem? (i := 621) (by decide +kernel))) (by decide +kernel)
theorem w_code_X7_readSuits : Cond.code yX7_readSuits cX7_readSuits 2 (some .boolean) ∈ zgd := zgd_in (List.mem_append_right _ (List.mem_of_getElem? (i := 585) (by decide +kernel))) (by decide +kernel)
theorem w_code_X7_readText : Cond.code yX7_readText cX7_readText 5 (some .boolean) ∈ zgd := zgd_in (List.mem_append_right _ (List.mem_of_getElem? (i := 484) (by decide +kernel))) (by decide +kernel)
theorem w_code_X7_readTilts : Cond.code yX7_readTilts cX7_readTilts 4 (some .int) ∈ zgd := zgd_in (List.mem_append_right _ (List.mem_of_getElem? (i := 690) (by decide +kernel))) (by decide +kernel)
theorem w_code_X7_readTrick : Cond.code yX7_readTrick cX7_readTrick 2 (some .boolean) ∈ zgd := zgd_in (List.mem_append_right _ (List.mem_of_getElem? (i := 568) (by decide +kernel))) (by decide +kernel)
theorem w_code_X7_readWay : Cond.code yX7_readWay cX7_readWay 2 (some .boolean) ∈ zgd := zgd_in (List.mem_append_right _ (List.mem_of_getElem? (i := 596) (by decide +kernel))) (by decide +kernel)
theorem w_code_X7_runLength : Cond.code yX7_runLength cX7_runLength 3 (some .int) ∈ zgd := zgd_in (List.mem_append_right _ (List.mem_of_getElem? (i := 507) (by decide +kernel))) (by decide +kernel)
theorem w_code_X7_step : Cond.code yX7_step cX7_step 2 none ∈ zgd := zgd_in (List.mem_append_right _ (List.mem_of_getElem? (i := 503) (by decide +kernel))) (by decide +kernel)
theorem w_code_X7_tellWord : Cond.code yX7_tellWord cX7_tellWord 1 (some .int) ∈ zgd := zgd_in (List.mem_append_right _ (List.mem_of_getElem? (i := 652) (by decide +kernel))) (by decide +kernel)
theorem w_code_X8_clear : Cond.code yX8_clear cX8_clear 1 none ∈ zgd := zgd_in (List.mem_append_right _ (List.mem_of_getElem? (i := 865) (by decide +kernel))) (by decide +kernel)
theorem w_code_X8_holderOf : Cond.code yX8_holderOf cX8_holderOf 3 (some .int) ∈ zgd := zgd_in (List.mem_append_right _ (List.mem_of_getElem? (i := 986) (by decide +kernel))) (by decide +kernel)
theorem w_code_X8_put : Cond.code yX8_put cX8_put 4 (some .int) ∈ zgd := zgd_in (List.mem_append_right _ (List.mem_of_getElem? (i := 932) (by decide +kernel))) (by decide +kernel)
theorem w_code_X8_slotOf : Cond.code yX8_slotOf cX8_slotOf 4 (some .int) ∈ zgd := zgd_in (List.mem_append_right _ (List.mem_of_getElem? (i := 936) (by decide +kernel))) (by decide +kernel)
theorem w_code_X9_clear : Cond.code yX9_clear cX9_clear 1 none ∈ zgd := zgd_in (List.mem_append_right _ (List.mem_of_getElem? (i := 491) (by decide +kernel))) (by decide +kernel)
theorem w_cp1_RX1_25 : Cond.methodLink RX1 25 arraycopyName ∈ zgd := zgd_in (List.mem_append_right _ (List.mem_of_getElem? (i := 1136) (by decide +kernel))) (by decide +kernel)
theorem w_f_RJ0_1053 : Cond.fieldLink RJ0 1053 "jdk/internal/util/Preconditions" "SIOOBE_FORMATTER" "Ljava/util/function/BiFunction;" ∈ zgd := zgd_in (List.mem_append_right _ (List.mem_of_getElem? (i := 541) (by decide +kernel))) (by decide +kernel)
theorem w_f_RJ0_15 : Cond.fieldLink RJ0 15 "java/lang/String" "coder" "B" ∈ zgd := zgd_in (List.mem_append_right _ (List.mem_of_getElem? (i := 2004) (by decide +kernel))) (by decide +kernel)
theorem w_f_RJ0_38 : Cond.fieldLink RJ0 38 "java/lang/String" "COMPACT_STRINGS" "Z" ∈ zgd := zgd_in (List.mem_append_right _ (List.mem_of_getElem? (i := 525) (by decide +kernel))) (by decide +kernel)
theorem w_f_RJ0_9 : Cond.fieldLink RJ0 9 "java/lang/String" "value" "[B" ∈ zgd := zgd_in (List.mem_append_right _ (List.mem_of_getElem? (i := 2003) (by decide +kernel))) (by decide +kernel)
theorem w_f_RX0_15 : Cond.fieldLink RX0 15 RX0 "tiltSets" "I" ∈ zgd := zgd_in (List.mem_append_right _ (List.mem_of_getElem? (i := 100) (by decide +kernel))) (by decide +kernel)
theorem w_f_RX0_18 : Cond.fieldLink RX0 18 RX0 "cards" "I" ∈ zgd := zgd_in (List.mem_append_right _ (List.mem_of_getElem? (i := 52) (by decide +kernel))) (by decide +kernel)
theorem w_f_RX0_21 : Cond.fieldLink RX0 21 RX0 "suits" "I" ∈ zgd := zgd_in (List.mem_append_right _ (List.mem_of_getElem? (i := 58) (by decide +kernel))) (by decide +kernel)
theorem w_f_RX0_24 : Cond.fieldLink RX0 24 RX0 "ranks" "I" ∈ zgd := zgd_in (List.mem_append_right _ (List.mem_of_getElem? (i := 61) (by decide +kernel))) (by decide +kernel)
theorem w_f_RX0_27 : Cond.fieldLink RX0 27 RX0 "handSize" "I" ∈ zgd := zgd_in (List.mem_append_right _ (List.mem_of_getElem? (i := 63) (by decide +kernel))) (by decide +kernel)
theorem w_f_RX0_30 : Cond.fieldLink RX0 30 RX0 "keptSize" "I" ∈ zgd := zgd_in (List.mem_append_right _ (List.mem_of_getElem? (i := 70) (by decide +kernel))) (by decide +kernel)
theorem w_f_RX0_33 : Cond.fieldLink RX0 33 RX0 "shownSize" "I" ∈ zgd := zgd_in (List.mem_append_right _ (List.mem_of_getElem? (i := 73) (by decide +kernel))) (by decide +kernel)
theorem w_f_RX0_36 : Cond.fieldLink RX0 36 RX0 "stranger" "Z" ∈ zgd := zgd_in (List.mem_append_right _ (List.mem_of_getElem? (i := 79) (by decide +kernel))) (by decide +kernel)
theorem w_f_RX0_40 : Cond.fieldLink RX0 40 RX0 "held" "Z" ∈ zgd := zgd_in (List.mem_append_right _ (List.mem_of_getElem? (i := 85) (by decide +kernel))) (by decide +kernel)
theorem w_f_RX0_43 : Cond.fieldLink RX0 43 RX0 "tilts" "Z" ∈ zgd := zgd_in (List.mem_append_right _ (List.mem_of_getElem? (i := 88) (by decide +kernel))) (by decide +kernel)
theorem w_f_RX0_46 : Cond.fieldLink RX0 46 RX0 "handCount" "I" ∈ zgd := zgd_in (List.mem_append_right _ (List.mem_of_getElem? (i := 92) (by decide +kernel))) (by decide +kernel)
theorem w_f_RX0_49 : Cond.fieldLink RX0 49 RX0 "rowCount" "I" ∈ zgd := zgd_in (List.mem_append_right _ (List.mem_of_getElem? (i := 95) (by decide +kernel))) (by decide +kernel)
theorem w_f_RX0_9 : Cond.fieldLink RX0 9 RX0 "orders" "I" ∈ zgd := zgd_in (List.mem_append_right _ (List.mem_of_getElem? (i := 98) (by decide +kernel))) (by decide +kernel)
theorem w_f_RX10_103 : Cond.fieldLink RX10 103 RX0 "rowCount" "I" ∈ zgd := zgd_in (List.mem_append_right _ (List.mem_of_getElem? (i := 97) (by decide +kernel))) (by decide +kernel)
theorem w_f_RX10_110 : Cond.fieldLink RX10 110 RX0 "handSize" "I" ∈ zgd := zgd_in (List.mem_append_right _ (List.mem_of_getElem? (i := 67) (by decide +kernel))) (by decide +kernel)
theorem w_f_RX10_113 : Cond.fieldLink RX10 113 RX4 "hands" "[I" ∈ zgd := zgd_in (List.mem_append_right _ (List.mem_of_getElem? (i := 391) (by decide +kernel))) (by decide +kernel)
theorem w_f_RX10_131 : Cond.fieldLink RX10 131 RX0 "shownSize" "I" ∈ zgd := zgd_in (List.mem_append_right _ (List.mem_of_getElem? (i := 76) (by decide +kernel))) (by decide +kernel)
theorem w_f_RX10_138 : Cond.fieldLink RX10 138 RX0 "tiltSets" "I" ∈ zgd := zgd_in (List.mem_append_right _ (List.mem_of_getElem? (i := 104) (by decide +kernel))) (by decide +kernel)
theorem w_f_RX10_16 : Cond.fieldLink RX10 16 RX10 "reader" "LFifthCard$Reader;" ∈ zgd := zgd_in (List.mem_append_right _ (List.mem_of_getElem? (i := 430) (by decide +kernel))) (by decide +kernel)
theorem w_f_RX10_169 : Cond.fieldLink RX10 169 RX0 "keptSize" "I" ∈ zgd := zgd_in (List.mem_append_right _ (List.mem_of_getElem? (i := 72) (by decide +kernel))) (by decide +kernel)
theorem w_f_RX10_205 : Cond.fieldLink RX10 205 RX0 "cards" "I" ∈ zgd := zgd_in (List.mem_append_right _ (List.mem_of_getElem? (i := 57) (by decide +kernel))) (by decide +kernel)
theorem w_f_RX10_23 : Cond.fieldLink RX10 23 RX10 "told" "LFifthCard$Told;" ∈ zgd := zgd_in (List.mem_append_right _ (List.mem_of_getElem? (i := 431) (by decide +kernel))) (by decide +kernel)
theorem w_f_RX10_233 : Cond.fieldLink RX10 233 RX9 "diary" "LFifthCard$Diary;" ∈ zgd := zgd_in (List.mem_append_right _ (List.mem_of_getElem? (i := 175) (by decide +kernel))) (by decide +kernel)
theorem w_f_RX10_237 : Cond.fieldLink RX10 237 RX1 "hands" "[I" ∈ zgd := zgd_in (List.mem_append_right _ (List.mem_of_getElem? (i := 141) (by decide +kernel))) (by decide +kernel)
theorem w_f_RX10_238 : Cond.fieldLink RX10 238 RX1 "rows" "[I" ∈ zgd := zgd_in (List.mem_append_right _ (List.mem_of_getElem? (i := 143) (by decide +kernel))) (by decide +kernel)
theorem w_f_RX10_239 : Cond.fieldLink RX10 239 RX1 "length" "I" ∈ zgd := zgd_in (List.mem_append_right _ (List.mem_of_getElem? (i := 146) (by decide +kernel))) (by decide +kernel)
theorem w_f_RX10_266 : Cond.fieldLink RX10 266 RX1 "seedNow" "I" ∈ zgd := zgd_in (List.mem_append_right _ (List.mem_of_getElem? (i := 148) (by decide +kernel))) (by decide +kernel)
theorem w_f_RX10_27 : Cond.fieldLink RX10 27 RX10 "spare" "LFifthCard$Told;" ∈ zgd := zgd_in (List.mem_append_right _ (List.mem_of_getElem? (i := 432) (by decide +kernel))) (by decide +kernel)
theorem w_f_RX10_288 : Cond.fieldLink RX10 288 RX0 "suits" "I" ∈ zgd := zgd_in (List.mem_append_right _ (List.mem_of_getElem? (i := 60) (by decide +kernel))) (by decide +kernel)
theorem w_f_RX10_291 : Cond.fieldLink RX10 291 RX0 "stranger" "Z" ∈ zgd := zgd_in (List.mem_append_right _ (List.mem_of_getElem? (i := 84) (by decide +kernel))) (by decide +kernel)
theorem w_f_RX10_294 : Cond.fieldLink RX10 294 RX0 "held" "Z" ∈ zgd := zgd_in (List.mem_append_right _ (List.mem_of_getElem? (i := 87) (by decide +kernel))) (by decide +kernel)
theorem w_f_RX10_297 : Cond.fieldLink RX10 297 RX0 "tilts" "Z" ∈ zgd := zgd_in (List.mem_append_right _ (List.mem_of_getElem? (i := 90) (by decide +kernel))) (by decide +kernel)
theorem w_f_RX10_300 : Cond.fieldLink RX10 300 RX9 "rules" "[I" ∈ zgd := zgd_in (List.mem_append_right _ (List.mem_of_getElem? (i := 169) (by decide +kernel))) (by decide +kernel)
theorem w_f_RX10_33 : Cond.fieldLink RX10 33 RX10 "ledger" "LFifthCard$Ledger;" ∈ zgd := zgd_in (List.mem_append_right _ (List.mem_of_getElem? (i := 433) (by decide +kernel))) (by decide +kernel)
theorem w_f_RX10_40 : Cond.fieldLink RX10 40 RX10 "images" "[LFifthCard$Diary;" ∈ zgd := zgd_in (List.mem_append_right _ (List.mem_of_getElem? (i := 434) (by decide +kernel))) (by decide +kernel)
theorem w_f_RX10_44 : Cond.fieldLink RX10 44 RX10 "five" "[I" ∈ zgd := zgd_in (List.mem_append_right _ (List.mem_of_getElem? (i := 439) (by decide +kernel))) (by decide +kernel)
theorem w_f_RX10_48 : Cond.fieldLink RX10 48 RX10 "tapeLength" "I" ∈ zgd := zgd_in (List.mem_append_right _ (List.mem_of_getElem? (i := 429) (by decide +kernel))) (by decide +kernel)
theorem w_f_RX10_64 : Cond.fieldLink RX10 64 RX7 "faultNumber" "I" ∈ zgd := zgd_in (List.mem_append_right _ (List.mem_of_getElem? (i := 188) (by decide +kernel))) (by decide +kernel)
theorem w_f_RX10_67 : Cond.fieldLink RX10 67 RX10 "lastFault" "I" ∈ zgd := zgd_in (List.mem_append_right _ (List.mem_of_getElem? (i := 437) (by decide +kernel))) (by decide +kernel)
theorem w_f_RX10_70 : Cond.fieldLink RX10 70 RX7 "faultPlace" "I" ∈ zgd := zgd_in (List.mem_append_right _ (List.mem_of_getElem? (i := 190) (by decide +kernel))) (by decide +kernel)
theorem w_f_RX10_73 : Cond.fieldLink RX10 73 RX10 "faultPlace" "I" ∈ zgd := zgd_in (List.mem_append_right _ (List.mem_of_getElem? (i := 438) (by decide +kernel))) (by decide +kernel)
theorem w_f_RX10_74 : Cond.fieldLink RX10 74 RX10 "imageCount" "I" ∈ zgd := zgd_in (List.mem_append_right _ (List.mem_of_getElem? (i := 435) (by decide +kernel))) (by decide +kernel)
theorem w_f_RX10_81 : Cond.fieldLink RX10 81 RX9 "ruleCount" "I" ∈ zgd := zgd_in (List.mem_append_right _ (List.mem_of_getElem? (i := 171) (by decide +kernel))) (by decide +kernel)
theorem w_f_RX10_87 : Cond.fieldLink RX10 87 RX10 "lastTrouble" "I" ∈ zgd := zgd_in (List.mem_append_right _ (List.mem_of_getElem? (i := 436) (by decide +kernel))) (by decide +kernel)
theorem w_f_RX10_9 : Cond.fieldLink RX10 9 RX10 "tape" "[B" ∈ zgd := zgd_in (List.mem_append_right _ (List.mem_of_getElem? (i := 428) (by decide +kernel))) (by decide +kernel)
theorem w_f_RX10_90 : Cond.fieldLink RX10 90 RX9 "begun" "Z" ∈ zgd := zgd_in (List.mem_append_right _ (List.mem_of_getElem? (i := 160) (by decide +kernel))) (by decide +kernel)
theorem w_f_RX10_94 : Cond.fieldLink RX10 94 RX9 "deck" "LFifthCard$Deck;" ∈ zgd := zgd_in (List.mem_append_right _ (List.mem_of_getElem? (i := 164) (by decide +kernel))) (by decide +kernel)
theorem w_f_RX10_98 : Cond.fieldLink RX10 98 RX0 "handCount" "I" ∈ zgd := zgd_in (List.mem_append_right _ (List.mem_of_getElem? (i := 94) (by decide +kernel))) (by decide +kernel)
theorem w_f_RX11_28 : Cond.fieldLink RX11 28 RX11 "isStranger" "Z" ∈ zgd := zgd_in (List.mem_append_right _ (List.mem_of_getElem? (i := 1410) (by decide +kernel))) (by decide +kernel)
theorem w_f_RX11_32 : Cond.fieldLink RX11 32 RX11 "hand" "I" ∈ zgd := zgd_in (List.mem_append_right _ (List.mem_of_getElem? (i := 1403) (by decide +kernel))) (by decide +kernel)
theorem w_f_RX11_43 : Cond.fieldLink RX11 43 RX11 "isTilted" "Z" ∈ zgd := zgd_in (List.mem_append_right _ (List.mem_of_getElem? (i := 1413) (by decide +kernel))) (by decide +kernel)
theorem w_f_RX11_46 : Cond.fieldLink RX11 46 RX11 "shown" "I" ∈ zgd := zgd_in (List.mem_append_right _ (List.mem_of_getElem? (i := 1406) (by decide +kernel))) (by decide +kernel)
theorem w_f_RX12_103 : Cond.fieldLink RX12 103 RX12 "size" "I" ∈ zgd := zgd_in (List.mem_append_right _ (List.mem_of_getElem? (i := 1246) (by decide +kernel))) (by decide +kernel)
theorem w_f_RX12_118 : Cond.fieldLink RX12 118 RX12 "sort" "I" ∈ zgd := zgd_in (List.mem_append_right _ (List.mem_of_getElem? (i := 1248) (by decide +kernel))) (by decide +kernel)
theorem w_f_RX12_121 : Cond.fieldLink RX12 121 RX12 "at" "I" ∈ zgd := zgd_in (List.mem_append_right _ (List.mem_of_getElem? (i := 1247) (by decide +kernel))) (by decide +kernel)
theorem w_f_RX12_127 : Cond.fieldLink RX12 127 RX12 "place" "I" ∈ zgd := zgd_in (List.mem_append_right _ (List.mem_of_getElem? (i := 1249) (by decide +kernel))) (by decide +kernel)
theorem w_f_RX12_13 : Cond.fieldLink RX12 13 RX12 "tape" "[B" ∈ zgd := zgd_in (List.mem_append_right _ (List.mem_of_getElem? (i := 1244) (by decide +kernel))) (by decide +kernel)
theorem w_f_RX12_130 : Cond.fieldLink RX12 130 RX12 "sign" "I" ∈ zgd := zgd_in (List.mem_append_right _ (List.mem_of_getElem? (i := 1250) (by decide +kernel))) (by decide +kernel)
theorem w_f_RX12_137 : Cond.fieldLink RX12 137 RX12 "word" "J" ∈ zgd := zgd_in (List.mem_append_right _ (List.mem_of_getElem? (i := 1254) (by decide +kernel))) (by decide +kernel)
theorem w_f_RX12_144 : Cond.fieldLink RX12 144 RX12 "number" "I" ∈ zgd := zgd_in (List.mem_append_right _ (List.mem_of_getElem? (i := 1251) (by decide +kernel))) (by decide +kernel)
theorem w_f_RX12_147 : Cond.fieldLink RX12 147 RX12 "fault" "I" ∈ zgd := zgd_in (List.mem_append_right _ (List.mem_of_getElem? (i := 1252) (by decide +kernel))) (by decide +kernel)
theorem w_f_RX12_150 : Cond.fieldLink RX12 150 RX12 "wrongAt" "I" ∈ zgd := zgd_in (List.mem_append_right _ (List.mem_of_getElem? (i := 1253) (by decide +kernel))) (by decide +kernel)
theorem w_f_RX12_17 : Cond.fieldLink RX12 17 RX12 "cards" "[B" ∈ zgd := zgd_in (List.mem_append_right _ (List.mem_of_getElem? (i := 1255) (by decide +kernel))) (by decide +kernel)
theorem w_f_RX12_190 : Cond.fieldLink RX12 190 RX12 "read" "LFifthCardModel$Trick;" ∈ zgd := zgd_in (List.mem_append_right _ (List.mem_of_getElem? (i := 1243) (by decide +kernel))) (by decide +kernel)
theorem w_f_RX12_20 : Cond.fieldLink RX12 20 RX12 "pick" "[I" ∈ zgd := zgd_in (List.mem_append_right _ (List.mem_of_getElem? (i := 1257) (by decide +kernel))) (by decide +kernel)
theorem w_f_RX12_24 : Cond.fieldLink RX12 24 RX12 "shown" "[I" ∈ zgd := zgd_in (List.mem_append_right _ (List.mem_of_getElem? (i := 1258) (by decide +kernel))) (by decide +kernel)
theorem w_f_RX12_27 : Cond.fieldLink RX12 27 RX12 "sorted" "[I" ∈ zgd := zgd_in (List.mem_append_right _ (List.mem_of_getElem? (i := 1259) (by decide +kernel))) (by decide +kernel)
theorem w_f_RX12_30 : Cond.fieldLink RX12 30 RX12 "fit" "[I" ∈ zgd := zgd_in (List.mem_append_right _ (List.mem_of_getElem? (i := 1260) (by decide +kernel))) (by decide +kernel)
theorem w_f_RX12_322 : Cond.fieldLink RX12 322 RX12 "taped" "I" ∈ zgd := zgd_in (List.mem_append_right _ (List.mem_of_getElem? (i := 1245) (by decide +kernel))) (by decide +kernel)
theorem w_f_RX12_329 : Cond.fieldLink RX12 329 RX12 "trick" "LFifthCardModel$Trick;" ∈ zgd := zgd_in (List.mem_append_right _ (List.mem_of_getElem? (i := 1242) (by decide +kernel))) (by decide +kernel)
theorem w_f_RX12_33 : Cond.fieldLink RX12 33 RX12 "codes" "[I" ∈ zgd := zgd_in (List.mem_append_right _ (List.mem_of_getElem? (i := 1262) (by decide +kernel))) (by decide +kernel)
theorem w_f_RX12_331 : Cond.fieldLink RX12 331 RX12 "seed" "I" ∈ zgd := zgd_in (List.mem_append_right _ (List.mem_of_getElem? (i := 1284) (by decide +kernel))) (by decide +kernel)
theorem w_f_RX12_334 : Cond.fieldLink RX12 334 RX12 "images" "I" ∈ zgd := zgd_in (List.mem_append_right _ (List.mem_of_getElem? (i := 1283) (by decide +kernel))) (by decide +kernel)
theorem w_f_RX12_343 : Cond.fieldLink RX12 343 RX12 "isTableKnown" "Z" ∈ zgd := zgd_in (List.mem_append_right _ (List.mem_of_getElem? (i := 1274) (by decide +kernel))) (by decide +kernel)
theorem w_f_RX12_346 : Cond.fieldLink RX12 346 RX12 "evenings" "I" ∈ zgd := zgd_in (List.mem_append_right _ (List.mem_of_getElem? (i := 1282) (by decide +kernel))) (by decide +kernel)
theorem w_f_RX12_356 : Cond.fieldLink RX12 356 RX12 "hands" "I" ∈ zgd := zgd_in (List.mem_append_right _ (List.mem_of_getElem? (i := 1256) (by decide +kernel))) (by decide +kernel)
theorem w_f_RX12_36 : Cond.fieldLink RX12 36 RX12 "laidRow" "[I" ∈ zgd := zgd_in (List.mem_append_right _ (List.mem_of_getElem? (i := 1264) (by decide +kernel))) (by decide +kernel)
theorem w_f_RX12_39 : Cond.fieldLink RX12 39 RX12 "changed" "[I" ∈ zgd := zgd_in (List.mem_append_right _ (List.mem_of_getElem? (i := 1265) (by decide +kernel))) (by decide +kernel)
theorem w_f_RX12_397 : Cond.fieldLink RX12 397 RX12 "codeMany" "I" ∈ zgd := zgd_in (List.mem_append_right _ (List.mem_of_getElem? (i := 1263) (by decide +kernel))) (by decide +kernel)
theorem w_f_RX12_400 : Cond.fieldLink RX12 400 RX12 "fitMany" "I" ∈ zgd := zgd_in (List.mem_append_right _ (List.mem_of_getElem? (i := 1261) (by decide +kernel))) (by decide +kernel)
theorem w_f_RX12_427 : Cond.fieldLink RX12 427 RX12 "hasTable" "Z" ∈ zgd := zgd_in (List.mem_append_right _ (List.mem_of_getElem? (i := 1275) (by decide +kernel))) (by decide +kernel)
theorem w_f_RX12_43 : Cond.fieldLink RX12 43 RX12 "key" "[I" ∈ zgd := zgd_in (List.mem_append_right _ (List.mem_of_getElem? (i := 1266) (by decide +kernel))) (by decide +kernel)
theorem w_f_RX12_46 : Cond.fieldLink RX12 46 RX12 "owner" "[I" ∈ zgd := zgd_in (List.mem_append_right _ (List.mem_of_getElem? (i := 1267) (by decide +kernel))) (by decide +kernel)
theorem w_f_RX12_49 : Cond.fieldLink RX12 49 RX12 "paired" "[I" ∈ zgd := zgd_in (List.mem_append_right _ (List.mem_of_getElem? (i := 1268) (by decide +kernel))) (by decide +kernel)
theorem w_f_RX12_52 : Cond.fieldLink RX12 52 RX12 "queue" "[I" ∈ zgd := zgd_in (List.mem_append_right _ (List.mem_of_getElem? (i := 1269) (by decide +kernel))) (by decide +kernel)
theorem w_f_RX12_55 : Cond.fieldLink RX12 55 RX12 "cameFrom" "[I" ∈ zgd := zgd_in (List.mem_append_right _ (List.mem_of_getElem? (i := 1270) (by decide +kernel))) (by decide +kernel)
theorem w_f_RX12_58 : Cond.fieldLink RX12 58 RX12 "isDone" "[Z" ∈ zgd := zgd_in (List.mem_append_right _ (List.mem_of_getElem? (i := 1271) (by decide +kernel))) (by decide +kernel)
theorem w_f_RX12_62 : Cond.fieldLink RX12 62 RX12 "tableRow" "[I" ∈ zgd := zgd_in (List.mem_append_right _ (List.mem_of_getElem? (i := 1272) (by decide +kernel))) (by decide +kernel)
theorem w_f_RX12_65 : Cond.fieldLink RX12 65 RX12 "candidates" "[I" ∈ zgd := zgd_in (List.mem_append_right _ (List.mem_of_getElem? (i := 1273) (by decide +kernel))) (by decide +kernel)
theorem w_f_RX12_68 : Cond.fieldLink RX12 68 RX12 "eveningHand" "[I" ∈ zgd := zgd_in (List.mem_append_right _ (List.mem_of_getElem? (i := 1276) (by decide +kernel))) (by decide +kernel)
theorem w_f_RX12_71 : Cond.fieldLink RX12 71 RX12 "eveningRow" "[I" ∈ zgd := zgd_in (List.mem_append_right _ (List.mem_of_getElem? (i := 1277) (by decide +kernel))) (by decide +kernel)
theorem w_f_RX12_74 : Cond.fieldLink RX12 74 RX12 "keptHand" "[I" ∈ zgd := zgd_in (List.mem_append_right _ (List.mem_of_getElem? (i := 1278) (by decide +kernel))) (by decide +kernel)
theorem w_f_RX12_77 : Cond.fieldLink RX12 77 RX12 "keptRow" "[I" ∈ zgd := zgd_in (List.mem_append_right _ (List.mem_of_getElem? (i := 1279) (by decide +kernel))) (by decide +kernel)
theorem w_f_RX12_80 : Cond.fieldLink RX12 80 RX12 "keptMany" "[I" ∈ zgd := zgd_in (List.mem_append_right _ (List.mem_of_getElem? (i := 1280) (by decide +kernel))) (by decide +kernel)
theorem w_f_RX12_83 : Cond.fieldLink RX12 83 RX12 "keptSeed" "[I" ∈ zgd := zgd_in (List.mem_append_right _ (List.mem_of_getElem? (i := 1281) (by decide +kernel))) (by decide +kernel)
theorem w_f_RX12_86 : Cond.fieldLink RX12 86 RX12 "thrown" "I" ∈ zgd := zgd_in (List.mem_append_right _ (List.mem_of_getElem? (i := 1239) (by decide +kernel))) (by decide +kernel)
theorem w_f_RX12_89 : Cond.fieldLink RX12 89 RX12 "trouble" "I" ∈ zgd := zgd_in (List.mem_append_right _ (List.mem_of_getElem? (i := 1240) (by decide +kernel))) (by decide +kernel)
theorem w_f_RX12_9 : Cond.fieldLink RX12 9 RX12 "where" "I" ∈ zgd := zgd_in (List.mem_append_right _ (List.mem_of_getElem? (i := 1241) (by decide +kernel))) (by decide +kernel)
theorem w_f_RX1_15 : Cond.fieldLink RX1 15 RX1 "rows" "[I" ∈ zgd := zgd_in (List.mem_append_right _ (List.mem_of_getElem? (i := 142) (by decide +kernel))) (by decide +kernel)
theorem w_f_RX1_18 : Cond.fieldLink RX1 18 RX1 "length" "I" ∈ zgd := zgd_in (List.mem_append_right _ (List.mem_of_getElem? (i := 144) (by decide +kernel))) (by decide +kernel)
theorem w_f_RX1_22 : Cond.fieldLink RX1 22 RX1 "seedNow" "I" ∈ zgd := zgd_in (List.mem_append_right _ (List.mem_of_getElem? (i := 147) (by decide +kernel))) (by decide +kernel)
theorem w_f_RX1_9 : Cond.fieldLink RX1 9 RX1 "hands" "[I" ∈ zgd := zgd_in (List.mem_append_right _ (List.mem_of_getElem? (i := 140) (by decide +kernel))) (by decide +kernel)
theorem w_f_RX2_19 : Cond.fieldLink RX2 19 RX2 "filled" "Z" ∈ zgd := zgd_in (List.mem_append_right _ (List.mem_of_getElem? (i := 347) (by decide +kernel))) (by decide +kernel)
theorem w_f_RX2_23 : Cond.fieldLink RX2 23 RX2 "failCount" "I" ∈ zgd := zgd_in (List.mem_append_right _ (List.mem_of_getElem? (i := 349) (by decide +kernel))) (by decide +kernel)
theorem w_f_RX2_26 : Cond.fieldLink RX2 26 RX2 "unlikeCount" "I" ∈ zgd := zgd_in (List.mem_append_right _ (List.mem_of_getElem? (i := 352) (by decide +kernel))) (by decide +kernel)
theorem w_f_RX2_29 : Cond.fieldLink RX2 29 RX2 "clashHand" "I" ∈ zgd := zgd_in (List.mem_append_right _ (List.mem_of_getElem? (i := 355) (by decide +kernel))) (by decide +kernel)
theorem w_f_RX2_32 : Cond.fieldLink RX2 32 RX2 "clashAhead" "I" ∈ zgd := zgd_in (List.mem_append_right _ (List.mem_of_getElem? (i := 358) (by decide +kernel))) (by decide +kernel)
theorem w_f_RX2_35 : Cond.fieldLink RX2 35 RX2 "judged" "Z" ∈ zgd := zgd_in (List.mem_append_right _ (List.mem_of_getElem? (i := 361) (by decide +kernel))) (by decide +kernel)
theorem w_f_RX2_38 : Cond.fieldLink RX2 38 RX2 "seen" "Z" ∈ zgd := zgd_in (List.mem_append_right _ (List.mem_of_getElem? (i := 363) (by decide +kernel))) (by decide +kernel)
theorem w_f_RX2_41 : Cond.fieldLink RX2 41 RX2 "borne" "Z" ∈ zgd := zgd_in (List.mem_append_right _ (List.mem_of_getElem? (i := 366) (by decide +kernel))) (by decide +kernel)
theorem w_f_RX3_15 : Cond.fieldLink RX3 15 RX3 "shown" "[I" ∈ zgd := zgd_in (List.mem_append_right _ (List.mem_of_getElem? (i := 253) (by decide +kernel))) (by decide +kernel)
theorem w_f_RX3_26 : Cond.fieldLink RX3 26 RX0 "keptSize" "I" ∈ zgd := zgd_in (List.mem_append_right _ (List.mem_of_getElem? (i := 69) (by decide +kernel))) (by decide +kernel)
theorem w_f_RX3_32 : Cond.fieldLink RX3 32 RX0 "handSize" "I" ∈ zgd := zgd_in (List.mem_append_right _ (List.mem_of_getElem? (i := 65) (by decide +kernel))) (by decide +kernel)
theorem w_f_RX3_55 : Cond.fieldLink RX3 55 RX0 "cards" "I" ∈ zgd := zgd_in (List.mem_append_right _ (List.mem_of_getElem? (i := 55) (by decide +kernel))) (by decide +kernel)
theorem w_f_RX3_61 : Cond.fieldLink RX3 61 RX0 "stranger" "Z" ∈ zgd := zgd_in (List.mem_append_right _ (List.mem_of_getElem? (i := 81) (by decide +kernel))) (by decide +kernel)
theorem w_f_RX3_69 : Cond.fieldLink RX3 69 RX0 "ranks" "I" ∈ zgd := zgd_in (List.mem_append_right _ (List.mem_of_getElem? (i := 62) (by decide +kernel))) (by decide +kernel)
theorem w_f_RX3_83 : Cond.fieldLink RX3 83 RX0 "shownSize" "I" ∈ zgd := zgd_in (List.mem_append_right _ (List.mem_of_getElem? (i := 75) (by decide +kernel))) (by decide +kernel)
theorem w_f_RX3_86 : Cond.fieldLink RX3 86 RX0 "orders" "I" ∈ zgd := zgd_in (List.mem_append_right _ (List.mem_of_getElem? (i := 99) (by decide +kernel))) (by decide +kernel)
theorem w_f_RX3_9 : Cond.fieldLink RX3 9 RX3 "rising" "[I" ∈ zgd := zgd_in (List.mem_append_right _ (List.mem_of_getElem? (i := 252) (by decide +kernel))) (by decide +kernel)
theorem w_f_RX3_97 : Cond.fieldLink RX3 97 RX0 "tiltSets" "I" ∈ zgd := zgd_in (List.mem_append_right _ (List.mem_of_getElem? (i := 102) (by decide +kernel))) (by decide +kernel)
theorem w_f_RX4_101 : Cond.fieldLink RX4 101 RX4 "mostCards" "I" ∈ zgd := zgd_in (List.mem_append_right _ (List.mem_of_getElem? (i := 400) (by decide +kernel))) (by decide +kernel)
theorem w_f_RX4_115 : Cond.fieldLink RX4 115 RX0 "handCount" "I" ∈ zgd := zgd_in (List.mem_append_right _ (List.mem_of_getElem? (i := 93) (by decide +kernel))) (by decide +kernel)
theorem w_f_RX4_138 : Cond.fieldLink RX4 138 RX2 "rows" "[I" ∈ zgd := zgd_in (List.mem_append_right _ (List.mem_of_getElem? (i := 345) (by decide +kernel))) (by decide +kernel)
theorem w_f_RX4_141 : Cond.fieldLink RX4 141 RX2 "failCount" "I" ∈ zgd := zgd_in (List.mem_append_right _ (List.mem_of_getElem? (i := 350) (by decide +kernel))) (by decide +kernel)
theorem w_f_RX4_147 : Cond.fieldLink RX4 147 RX2 "unlikeCount" "I" ∈ zgd := zgd_in (List.mem_append_right _ (List.mem_of_getElem? (i := 353) (by decide +kernel))) (by decide +kernel)
theorem w_f_RX4_150 : Cond.fieldLink RX4 150 RX2 "clashHand" "I" ∈ zgd := zgd_in (List.mem_append_right _ (List.mem_of_getElem? (i := 356) (by decide +kernel))) (by decide +kernel)
theorem w_f_RX4_153 : Cond.fieldLink RX4 153 RX2 "clashAhead" "I" ∈ zgd := zgd_in (List.mem_append_right _ (List.mem_of_getElem? (i := 359) (by decide +kernel))) (by decide +kernel)
theorem w_f_RX4_156 : Cond.fieldLink RX4 156 RX6 "whole" "Z" ∈ zgd := zgd_in (List.mem_append_right _ (List.mem_of_getElem? (i := 291) (by decide +kernel))) (by decide +kernel)
theorem w_f_RX4_159 : Cond.fieldLink RX4 159 RX6 "rowOfHand" "[I" ∈ zgd := zgd_in (List.mem_append_right _ (List.mem_of_getElem? (i := 287) (by decide +kernel))) (by decide +kernel)
theorem w_f_RX4_162 : Cond.fieldLink RX4 162 RX2 "judged" "Z" ∈ zgd := zgd_in (List.mem_append_right _ (List.mem_of_getElem? (i := 362) (by decide +kernel))) (by decide +kernel)
theorem w_f_RX4_169 : Cond.fieldLink RX4 169 RX2 "seen" "Z" ∈ zgd := zgd_in (List.mem_append_right _ (List.mem_of_getElem? (i := 364) (by decide +kernel))) (by decide +kernel)
theorem w_f_RX4_172 : Cond.fieldLink RX4 172 RX2 "borne" "Z" ∈ zgd := zgd_in (List.mem_append_right _ (List.mem_of_getElem? (i := 367) (by decide +kernel))) (by decide +kernel)
theorem w_f_RX4_18 : Cond.fieldLink RX4 18 RX4 "told" "LFifthCard$Told;" ∈ zgd := zgd_in (List.mem_append_right _ (List.mem_of_getElem? (i := 392) (by decide +kernel))) (by decide +kernel)
theorem w_f_RX4_182 : Cond.fieldLink RX4 182 RX0 "shownSize" "I" ∈ zgd := zgd_in (List.mem_append_right _ (List.mem_of_getElem? (i := 77) (by decide +kernel))) (by decide +kernel)
theorem w_f_RX4_185 : Cond.fieldLink RX4 185 RX0 "tiltSets" "I" ∈ zgd := zgd_in (List.mem_append_right _ (List.mem_of_getElem? (i := 103) (by decide +kernel))) (by decide +kernel)
theorem w_f_RX4_202 : Cond.fieldLink RX4 202 RX2 "rule" "I" ∈ zgd := zgd_in (List.mem_append_right _ (List.mem_of_getElem? (i := 343) (by decide +kernel))) (by decide +kernel)
theorem w_f_RX4_25 : Cond.fieldLink RX4 25 RX4 "lister" "LFifthCard$Lister;" ∈ zgd := zgd_in (List.mem_append_right _ (List.mem_of_getElem? (i := 393) (by decide +kernel))) (by decide +kernel)
theorem w_f_RX4_32 : Cond.fieldLink RX4 32 RX4 "layer" "LFifthCard$Layer;" ∈ zgd := zgd_in (List.mem_append_right _ (List.mem_of_getElem? (i := 394) (by decide +kernel))) (by decide +kernel)
theorem w_f_RX4_39 : Cond.fieldLink RX4 39 RX4 "set" "LFifthCard$RowSet;" ∈ zgd := zgd_in (List.mem_append_right _ (List.mem_of_getElem? (i := 395) (by decide +kernel))) (by decide +kernel)
theorem w_f_RX4_46 : Cond.fieldLink RX4 46 RX4 "pairing" "LFifthCard$Pairing;" ∈ zgd := zgd_in (List.mem_append_right _ (List.mem_of_getElem? (i := 396) (by decide +kernel))) (by decide +kernel)
theorem w_f_RX4_55 : Cond.fieldLink RX4 55 RX4 "laids" "[LFifthCard$Laid;" ∈ zgd := zgd_in (List.mem_append_right _ (List.mem_of_getElem? (i := 397) (by decide +kernel))) (by decide +kernel)
theorem w_f_RX4_59 : Cond.fieldLink RX4 59 RX4 "aparts" "[I" ∈ zgd := zgd_in (List.mem_append_right _ (List.mem_of_getElem? (i := 398) (by decide +kernel))) (by decide +kernel)
theorem w_f_RX4_62 : Cond.fieldLink RX4 62 RX4 "wordsWorking" "[I" ∈ zgd := zgd_in (List.mem_append_right _ (List.mem_of_getElem? (i := 399) (by decide +kernel))) (by decide +kernel)
theorem w_f_RX4_65 : Cond.fieldLink RX4 65 RX4 "row" "[I" ∈ zgd := zgd_in (List.mem_append_right _ (List.mem_of_getElem? (i := 401) (by decide +kernel))) (by decide +kernel)
theorem w_f_RX4_68 : Cond.fieldLink RX4 68 RX9 "deck" "LFifthCard$Deck;" ∈ zgd := zgd_in (List.mem_append_right _ (List.mem_of_getElem? (i := 163) (by decide +kernel))) (by decide +kernel)
theorem w_f_RX4_72 : Cond.fieldLink RX4 72 RX0 "cards" "I" ∈ zgd := zgd_in (List.mem_append_right _ (List.mem_of_getElem? (i := 53) (by decide +kernel))) (by decide +kernel)
theorem w_f_RX4_78 : Cond.fieldLink RX4 78 RX0 "handSize" "I" ∈ zgd := zgd_in (List.mem_append_right _ (List.mem_of_getElem? (i := 64) (by decide +kernel))) (by decide +kernel)
theorem w_f_RX4_81 : Cond.fieldLink RX4 81 RX0 "stranger" "Z" ∈ zgd := zgd_in (List.mem_append_right _ (List.mem_of_getElem? (i := 80) (by decide +kernel))) (by decide +kernel)
theorem w_f_RX4_89 : Cond.fieldLink RX4 89 RX6 "ready" "Z" ∈ zgd := zgd_in (List.mem_append_right _ (List.mem_of_getElem? (i := 289) (by decide +kernel))) (by decide +kernel)
theorem w_f_RX4_9 : Cond.fieldLink RX4 9 RX4 "hands" "[I" ∈ zgd := zgd_in (List.mem_append_right _ (List.mem_of_getElem? (i := 390) (by decide +kernel))) (by decide +kernel)
theorem w_f_RX5_9 : Cond.fieldLink RX5 9 RX5 "row" "[I" ∈ zgd := zgd_in (List.mem_append_right _ (List.mem_of_getElem? (i := 242) (by decide +kernel))) (by decide +kernel)
theorem w_f_RX6_114 : Cond.fieldLink RX6 114 RX6 "settled" "I" ∈ zgd := zgd_in (List.mem_append_right _ (List.mem_of_getElem? (i := 299) (by decide +kernel))) (by decide +kernel)
theorem w_f_RX6_18 : Cond.fieldLink RX6 18 RX6 "deck" "LFifthCard$Deck;" ∈ zgd := zgd_in (List.mem_append_right _ (List.mem_of_getElem? (i := 292) (by decide +kernel))) (by decide +kernel)
theorem w_f_RX6_22 : Cond.fieldLink RX6 22 RX6 "hands" "[I" ∈ zgd := zgd_in (List.mem_append_right _ (List.mem_of_getElem? (i := 293) (by decide +kernel))) (by decide +kernel)
theorem w_f_RX6_25 : Cond.fieldLink RX6 25 RX6 "places" "[I" ∈ zgd := zgd_in (List.mem_append_right _ (List.mem_of_getElem? (i := 294) (by decide +kernel))) (by decide +kernel)
theorem w_f_RX6_28 : Cond.fieldLink RX6 28 RX6 "shown" "[I" ∈ zgd := zgd_in (List.mem_append_right _ (List.mem_of_getElem? (i := 296) (by decide +kernel))) (by decide +kernel)
theorem w_f_RX6_31 : Cond.fieldLink RX6 31 RX6 "cardRows" "[I" ∈ zgd := zgd_in (List.mem_append_right _ (List.mem_of_getElem? (i := 297) (by decide +kernel))) (by decide +kernel)
theorem w_f_RX6_34 : Cond.fieldLink RX6 34 RX6 "owners" "[I" ∈ zgd := zgd_in (List.mem_append_right _ (List.mem_of_getElem? (i := 298) (by decide +kernel))) (by decide +kernel)
theorem w_f_RX6_37 : Cond.fieldLink RX6 37 RX6 "queue" "[I" ∈ zgd := zgd_in (List.mem_append_right _ (List.mem_of_getElem? (i := 300) (by decide +kernel))) (by decide +kernel)
theorem w_f_RX6_40 : Cond.fieldLink RX6 40 RX6 "cameFrom" "[I" ∈ zgd := zgd_in (List.mem_append_right _ (List.mem_of_getElem? (i := 301) (by decide +kernel))) (by decide +kernel)
theorem w_f_RX6_43 : Cond.fieldLink RX6 43 RX6 "reached" "[I" ∈ zgd := zgd_in (List.mem_append_right _ (List.mem_of_getElem? (i := 302) (by decide +kernel))) (by decide +kernel)
theorem w_f_RX6_68 : Cond.fieldLink RX6 68 RX6 "search" "I" ∈ zgd := zgd_in (List.mem_append_right _ (List.mem_of_getElem? (i := 303) (by decide +kernel))) (by decide +kernel)
theorem w_f_RX6_83 : Cond.fieldLink RX6 83 RX0 "tiltSets" "I" ∈ zgd := zgd_in (List.mem_append_right _ (List.mem_of_getElem? (i := 101) (by decide +kernel))) (by decide +kernel)
theorem w_f_RX6_86 : Cond.fieldLink RX6 86 RX6 "placeCount" "I" ∈ zgd := zgd_in (List.mem_append_right _ (List.mem_of_getElem? (i := 295) (by decide +kernel))) (by decide +kernel)
theorem w_f_RX6_9 : Cond.fieldLink RX6 9 RX6 "rowOfHand" "[I" ∈ zgd := zgd_in (List.mem_append_right _ (List.mem_of_getElem? (i := 286) (by decide +kernel))) (by decide +kernel)
theorem w_f_RX6_92 : Cond.fieldLink RX6 92 RX0 "shownSize" "I" ∈ zgd := zgd_in (List.mem_append_right _ (List.mem_of_getElem? (i := 74) (by decide +kernel))) (by decide +kernel)
theorem w_f_RX7_110 : Cond.fieldLink RX7 110 RX9 "begun" "Z" ∈ zgd := zgd_in (List.mem_append_right _ (List.mem_of_getElem? (i := 161) (by decide +kernel))) (by decide +kernel)
theorem w_f_RX7_114 : Cond.fieldLink RX7 114 RX9 "deck" "LFifthCard$Deck;" ∈ zgd := zgd_in (List.mem_append_right _ (List.mem_of_getElem? (i := 165) (by decide +kernel))) (by decide +kernel)
theorem w_f_RX7_124 : Cond.fieldLink RX7 124 RX0 "cards" "I" ∈ zgd := zgd_in (List.mem_append_right _ (List.mem_of_getElem? (i := 56) (by decide +kernel))) (by decide +kernel)
theorem w_f_RX7_134 : Cond.fieldLink RX7 134 RX0 "handSize" "I" ∈ zgd := zgd_in (List.mem_append_right _ (List.mem_of_getElem? (i := 68) (by decide +kernel))) (by decide +kernel)
theorem w_f_RX7_139 : Cond.fieldLink RX7 139 RX0 "keptSize" "I" ∈ zgd := zgd_in (List.mem_append_right _ (List.mem_of_getElem? (i := 71) (by decide +kernel))) (by decide +kernel)
theorem w_f_RX7_153 : Cond.fieldLink RX7 153 RX0 "suits" "I" ∈ zgd := zgd_in (List.mem_append_right _ (List.mem_of_getElem? (i := 59) (by decide +kernel))) (by decide +kernel)
theorem w_f_RX7_157 : Cond.fieldLink RX7 157 RX0 "stranger" "Z" ∈ zgd := zgd_in (List.mem_append_right _ (List.mem_of_getElem? (i := 83) (by decide +kernel))) (by decide +kernel)
theorem w_f_RX7_169 : Cond.fieldLink RX7 169 RX0 "held" "Z" ∈ zgd := zgd_in (List.mem_append_right _ (List.mem_of_getElem? (i := 86) (by decide +kernel))) (by decide +kernel)
theorem w_f_RX7_173 : Cond.fieldLink RX7 173 RX0 "tilts" "Z" ∈ zgd := zgd_in (List.mem_append_right _ (List.mem_of_getElem? (i := 89) (by decide +kernel))) (by decide +kernel)
theorem w_f_RX7_175 : Cond.fieldLink RX7 175 RX9 "ruleCount" "I" ∈ zgd := zgd_in (List.mem_append_right _ (List.mem_of_getElem? (i := 172) (by decide +kernel))) (by decide +kernel)
theorem w_f_RX7_18 : Cond.fieldLink RX7 18 RX7 "into" "LFifthCard$Told;" ∈ zgd := zgd_in (List.mem_append_right _ (List.mem_of_getElem? (i := 193) (by decide +kernel))) (by decide +kernel)
theorem w_f_RX7_184 : Cond.fieldLink RX7 184 RX9 "rules" "[I" ∈ zgd := zgd_in (List.mem_append_right _ (List.mem_of_getElem? (i := 168) (by decide +kernel))) (by decide +kernel)
theorem w_f_RX7_22 : Cond.fieldLink RX7 22 RX7 "nameStarts" "[I" ∈ zgd := zgd_in (List.mem_append_right _ (List.mem_of_getElem? (i := 194) (by decide +kernel))) (by decide +kernel)
theorem w_f_RX7_224 : Cond.fieldLink RX7 224 RX9 "diary" "LFifthCard$Diary;" ∈ zgd := zgd_in (List.mem_append_right _ (List.mem_of_getElem? (i := 174) (by decide +kernel))) (by decide +kernel)
theorem w_f_RX7_228 : Cond.fieldLink RX7 228 RX1 "length" "I" ∈ zgd := zgd_in (List.mem_append_right _ (List.mem_of_getElem? (i := 145) (by decide +kernel))) (by decide +kernel)
theorem w_f_RX7_239 : Cond.fieldLink RX7 239 RX0 "shownSize" "I" ∈ zgd := zgd_in (List.mem_append_right _ (List.mem_of_getElem? (i := 78) (by decide +kernel))) (by decide +kernel)
theorem w_f_RX7_246 : Cond.fieldLink RX7 246 RX0 "tiltSets" "I" ∈ zgd := zgd_in (List.mem_append_right _ (List.mem_of_getElem? (i := 105) (by decide +kernel))) (by decide +kernel)
theorem w_f_RX7_26 : Cond.fieldLink RX7 26 RX7 "nameLengths" "[I" ∈ zgd := zgd_in (List.mem_append_right _ (List.mem_of_getElem? (i := 195) (by decide +kernel))) (by decide +kernel)
theorem w_f_RX7_29 : Cond.fieldLink RX7 29 RX7 "row" "[I" ∈ zgd := zgd_in (List.mem_append_right _ (List.mem_of_getElem? (i := 196) (by decide +kernel))) (by decide +kernel)
theorem w_f_RX7_38 : Cond.fieldLink RX7 38 RX7 "textLength" "I" ∈ zgd := zgd_in (List.mem_append_right _ (List.mem_of_getElem? (i := 192) (by decide +kernel))) (by decide +kernel)
theorem w_f_RX7_45 : Cond.fieldLink RX7 45 RX7 "faultNumber" "I" ∈ zgd := zgd_in (List.mem_append_right _ (List.mem_of_getElem? (i := 187) (by decide +kernel))) (by decide +kernel)
theorem w_f_RX7_48 : Cond.fieldLink RX7 48 RX7 "faultPlace" "I" ∈ zgd := zgd_in (List.mem_append_right _ (List.mem_of_getElem? (i := 189) (by decide +kernel))) (by decide +kernel)
theorem w_f_RX7_51 : Cond.fieldLink RX7 51 RX7 "next" "I" ∈ zgd := zgd_in (List.mem_append_right _ (List.mem_of_getElem? (i := 199) (by decide +kernel))) (by decide +kernel)
theorem w_f_RX7_61 : Cond.fieldLink RX7 61 RX7 "kind" "I" ∈ zgd := zgd_in (List.mem_append_right _ (List.mem_of_getElem? (i := 197) (by decide +kernel))) (by decide +kernel)
theorem w_f_RX7_68 : Cond.fieldLink RX7 68 RX7 "start" "I" ∈ zgd := zgd_in (List.mem_append_right _ (List.mem_of_getElem? (i := 198) (by decide +kernel))) (by decide +kernel)
theorem w_f_RX7_74 : Cond.fieldLink RX7 74 RX7 "value" "I" ∈ zgd := zgd_in (List.mem_append_right _ (List.mem_of_getElem? (i := 200) (by decide +kernel))) (by decide +kernel)
theorem w_f_RX7_9 : Cond.fieldLink RX7 9 RX7 "text" "[B" ∈ zgd := zgd_in (List.mem_append_right _ (List.mem_of_getElem? (i := 191) (by decide +kernel))) (by decide +kernel)
theorem w_f_RX8_11 : Cond.fieldLink RX8 11 RX8 "keys" "[I" ∈ zgd := zgd_in (List.mem_append_right _ (List.mem_of_getElem? (i := 265) (by decide +kernel))) (by decide +kernel)
theorem w_f_RX8_15 : Cond.fieldLink RX8 15 RX8 "holders" "[I" ∈ zgd := zgd_in (List.mem_append_right _ (List.mem_of_getElem? (i := 266) (by decide +kernel))) (by decide +kernel)
theorem w_f_RX8_18 : Cond.fieldLink RX8 18 RX8 "stamps" "[I" ∈ zgd := zgd_in (List.mem_append_right _ (List.mem_of_getElem? (i := 267) (by decide +kernel))) (by decide +kernel)
theorem w_f_RX8_21 : Cond.fieldLink RX8 21 RX8 "stamp" "I" ∈ zgd := zgd_in (List.mem_append_right _ (List.mem_of_getElem? (i := 268) (by decide +kernel))) (by decide +kernel)
theorem w_f_RX9_12 : Cond.fieldLink RX9 12 RX9 "deck" "LFifthCard$Deck;" ∈ zgd := zgd_in (List.mem_append_right _ (List.mem_of_getElem? (i := 162) (by decide +kernel))) (by decide +kernel)
theorem w_f_RX9_25 : Cond.fieldLink RX9 25 RX9 "diary" "LFifthCard$Diary;" ∈ zgd := zgd_in (List.mem_append_right _ (List.mem_of_getElem? (i := 173) (by decide +kernel))) (by decide +kernel)
theorem w_f_RX9_29 : Cond.fieldLink RX9 29 RX9 "begun" "Z" ∈ zgd := zgd_in (List.mem_append_right _ (List.mem_of_getElem? (i := 159) (by decide +kernel))) (by decide +kernel)
theorem w_f_RX9_36 : Cond.fieldLink RX9 36 RX9 "ruleCount" "I" ∈ zgd := zgd_in (List.mem_append_right _ (List.mem_of_getElem? (i := 170) (by decide +kernel))) (by decide +kernel)
theorem w_fn_RX12_194 : Cond.fieldLinkNest RX12 194 RX11 "cards" "I" "FifthCardModel" ∈ znn := znn_in (List.mem_append_right _ (List.mem_of_getElem? (i := 1401) (by decide +kernel))) (by decide +kernel)
theorem w_fn_RX12_228 : Cond.fieldLinkNest RX12 228 RX11 "isStranger" "Z" "FifthCardModel" ∈ znn := znn_in (List.mem_append_right _ (List.mem_of_getElem? (i := 1411) (by decide +kernel))) (by decide +kernel)
theorem w_fn_RX12_232 : Cond.fieldLinkNest RX12 232 RX11 "hand" "I" "FifthCardModel" ∈ znn := znn_in (List.mem_append_right _ (List.mem_of_getElem? (i := 1404) (by decide +kernel))) (by decide +kernel)
theorem w_fn_RX12_245 : Cond.fieldLinkNest RX12 245 RX11 "isHeld" "Z" "FifthCardModel" ∈ znn := znn_in (List.mem_append_right _ (List.mem_of_getElem? (i := 1412) (by decide +kernel))) (by decide +kernel)
theorem w_fn_RX12_250 : Cond.fieldLinkNest RX12 250 RX11 "isTilted" "Z" "FifthCardModel" ∈ znn := znn_in (List.mem_append_right _ (List.mem_of_getElem? (i := 1414) (by decide +kernel))) (by decide +kernel)
theorem w_fn_RX12_253 : Cond.fieldLinkNest RX12 253 RX11 "suits" "I" "FifthCardModel" ∈ znn := znn_in (List.mem_append_right _ (List.mem_of_getElem? (i := 1402) (by decide +kernel))) (by decide +kernel)
theorem w_fn_RX12_255 : Cond.fieldLinkNest RX12 255 RX11 "kept" "I" "FifthCardModel" ∈ znn := znn_in (List.mem_append_right _ (List.mem_of_getElem? (i := 1405) (by decide +kernel))) (by decide +kernel)
theorem w_fn_RX12_257 : Cond.fieldLinkNest RX12 257 RX11 "shown" "I" "FifthCardModel" ∈ znn := znn_in (List.mem_append_right _ (List.mem_of_getElem? (i := 1407) (by decide +kernel))) (by decide +kernel)
theorem w_fn_RX12_259 : Cond.fieldLinkNest RX12 259 RX11 "rules" "I" "FifthCardModel" ∈ znn := znn_in (List.mem_append_right _ (List.mem_of_getElem? (i := 1408) (by decide +kernel))) (by decide +kernel)
theorem w_fn_RX12_270 : Cond.fieldLinkNest RX12 270 RX11 "name" "[J" "FifthCardModel" ∈ znn := znn_in (List.mem_append_right _ (List.mem_of_getElem? (i := 1424) (by decide +kernel))) (by decide +kernel)
theorem w_fn_RX12_283 : Cond.fieldLinkNest RX12 283 RX11 "rule" "[I" "FifthCardModel" ∈ znn := znn_in (List.mem_append_right _ (List.mem_of_getElem? (i := 1416) (by decide +kernel))) (by decide +kernel)
theorem w_fn_RX12_305 : Cond.fieldLinkNest RX12 305 RX11 "evenings" "I" "FifthCardModel" ∈ znn := znn_in (List.mem_append_right _ (List.mem_of_getElem? (i := 1409) (by decide +kernel))) (by decide +kernel)
theorem w_fn_RX12_308 : Cond.fieldLinkNest RX12 308 RX11 "eveningCards" "[I" "FifthCardModel" ∈ znn := znn_in (List.mem_append_right _ (List.mem_of_getElem? (i := 1418) (by decide +kernel))) (by decide +kernel)
theorem w_fn_RX12_315 : Cond.fieldLinkNest RX12 315 RX11 "eveningRow" "[I" "FifthCardModel" ∈ znn := znn_in (List.mem_append_right _ (List.mem_of_getElem? (i := 1420) (by decide +kernel))) (by decide +kernel)
theorem w_fn_RX12_319 : Cond.fieldLinkNest RX12 319 RX11 "eveningTilts" "[I" "FifthCardModel" ∈ znn := znn_in (List.mem_append_right _ (List.mem_of_getElem? (i := 1422) (by decide +kernel))) (by decide +kernel)
theorem w_ini_RJ0 : Cond.initialized RJ0 ∈ zgd := zgd_in (List.mem_append_right _ (List.mem_of_getElem? (i := 14) (by decide +kernel))) (by decide +kernel)
theorem w_ini_RJ1 : Cond.initialized RJ1 ∈ zgd := zgd_in (List.mem_append_right _ (List.mem_of_getElem? (i := 15) (by decide +kernel))) (by decide +kernel)
theorem w_ini_RJ3 : Cond.initialized RJ3 ∈ zgd := zgd_in (List.mem_append_right _ (List.mem_of_getElem? (i := 16) (by decide +kernel))) (by decide +kernel)
theorem w_ini_RJ6 : Cond.initialized RJ6 ∈ zgd := zgd_in (List.mem_append_right _ (List.mem_of_getElem? (i := 18) (by decide +kernel))) (by decide +kernel)
theorem w_ini_RJ7 : Cond.initialized RJ7 ∈ zgd := zgd_in (List.mem_append_right _ (List.mem_of_getElem? (i := 19) (by decide +kernel))) (by decide +kernel)
theorem w_ini_RX0 : Cond.initialized RX0 ∈ zgd := zgd_in (List.mem_append_right _ (List.mem_of_getElem? (i := 4) (by decide +kernel))) (by decide +kernel)
theorem w_ini_RX1 : Cond.initialized RX1 ∈ zgd := zgd_in (List.mem_append_right _ (List.mem_of_getElem? (i := 5) (by decide +kernel))) (by decide +kernel)
theorem w_ini_RX10 : Cond.initialized RX10 ∈ zgd := zgd_in (List.mem_append_right _ (List.mem_of_getElem? (i := 1) (by decide +kernel))) (by decide +kernel)
theorem w_ini_RX11 : Cond.initialized RX11 ∈ zgd := zgd_in (List.mem_append_right _ (List.mem_of_getElem? (i := 20) (by decide +kernel))) (by decide +kernel)
theorem w_ini_RX12 : Cond.initialized RX12 ∈ zgd := zgd_in (List.mem_append_right _ (List.mem_of_getElem? (i := 12) (by decide +kernel))) (by decide +kernel)
theorem w_ini_RX2 : Cond.initialized RX2 ∈ zgd := zgd_in (List.mem_append_right _ (List.mem_of_getElem? (i := 11) (by decide +kernel))) (by decide +kernel)
theorem w_ini_RX3 : Cond.initialized RX3 ∈ zgd := zgd_in (List.mem_append_right _ (List.mem_of_getElem? (i := 8) (by decide +kernel))) (by decide +kernel)
theorem w_ini_RX4 : Cond.initialized RX4 ∈ zgd := zgd_in (List.mem_append_right _ (List.mem_of_getElem? (i := 6) (by decide +kernel))) (by decide +kernel)
theorem w_ini_RX5 : Cond.initialized RX5 ∈ zgd := zgd_in (List.mem_append_right _ (List.mem_of_getElem? (i := 7) (by decide +kernel))) (by decide +kernel)
theorem w_ini_RX6 : Cond.initialized RX6 ∈ zgd := zgd_in (List.mem_append_right _ (List.mem_of_getElem? (i := 10) (by decide +kernel))) (by decide +kernel)
theorem w_ini_RX7 : Cond.initialized RX7 ∈ zgd := zgd_in (List.mem_append_right _ (List.mem_of_getElem? (i := 2) (by decide +kernel))) (by decide +kernel)
theorem w_ini_RX8 : Cond.initialized RX8 ∈ zgd := zgd_in (List.mem_append_right _ (List.mem_of_getElem? (i := 9) (by decide +kernel))) (by decide +kernel)
theorem w_ini_RX9 : Cond.initialized RX9 ∈ zgd := zgd_in (List.mem_append_right _ (List.mem_of_getElem? (i := 3) (by decide +kernel))) (by decide +kernel)
theorem w_instanceMethod_J0_charAt_5068e : Cond.instanceMethod yJ0_charAt_5068e ∈ zgd := zgd_in (List.mem_append_right _ (List.mem_of_getElem? (i := 528) (by decide +kernel))) (by decide +kernel)
theorem w_instanceMethod_J0_coder_7d493 : Cond.instanceMethod yJ0_coder_7d493 ∈ zgd := zgd_in (List.mem_append_right _ (List.mem_of_getElem? (i := 522) (by decide +kernel))) (by decide +kernel)
theorem w_instanceMethod_J0_isLatin1_aae02 : Cond.instanceMethod yJ0_isLatin1_aae02 ∈ zgd := zgd_in (List.mem_append_right _ (List.mem_of_getElem? (i := 532) (by decide +kernel))) (by decide +kernel)
theorem w_instanceMethod_J0_length_8abf5 : Cond.instanceMethod yJ0_length_8abf5 ∈ zgd := zgd_in (List.mem_append_right _ (List.mem_of_getElem? (i := 518) (by decide +kernel))) (by decide +kernel)
theorem w_instanceMethod_X0_anyOrder : Cond.instanceMethod yX0_anyOrder ∈ zgd := zgd_in (List.mem_append_right _ (List.mem_of_getElem? (i := 809) (by decide +kernel))) (by decide +kernel)
theorem w_instanceMethod_X0_clear : Cond.instanceMethod yX0_clear ∈ zgd := zgd_in (List.mem_append_right _ (List.mem_of_getElem? (i := 493) (by decide +kernel))) (by decide +kernel)
theorem w_instanceMethod_X0_handNumber : Cond.instanceMethod yX0_handNumber ∈ zgd := zgd_in (List.mem_append_right _ (List.mem_of_getElem? (i := 670) (by decide +kernel))) (by decide +kernel)
theorem w_instanceMethod_X0_handsOf : Cond.instanceMethod yX0_handsOf ∈ zgd := zgd_in (List.mem_append_right _ (List.mem_of_getElem? (i := 600) (by decide +kernel))) (by decide +kernel)
theorem w_instanceMethod_X0_isHand : Cond.instanceMethod yX0_isHand ∈ zgd := zgd_in (List.mem_append_right _ (List.mem_of_getElem? (i := 755) (by decide +kernel))) (by decide +kernel)
theorem w_instanceMethod_X0_isShownOf : Cond.instanceMethod yX0_isShownOf ∈ zgd := zgd_in (List.mem_append_right _ (List.mem_of_getElem? (i := 788) (by decide +kernel))) (by decide +kernel)
theorem w_instanceMethod_X0_placeIn : Cond.instanceMethod yX0_placeIn ∈ zgd := zgd_in (List.mem_append_right _ (List.mem_of_getElem? (i := 793) (by decide +kernel))) (by decide +kernel)
theorem w_instanceMethod_X0_rowNumber : Cond.instanceMethod yX0_rowNumber ∈ zgd := zgd_in (List.mem_append_right _ (List.mem_of_getElem? (i := 674) (by decide +kernel))) (by decide +kernel)
theorem w_instanceMethod_X0_rowsOf : Cond.instanceMethod yX0_rowsOf ∈ zgd := zgd_in (List.mem_append_right _ (List.mem_of_getElem? (i := 829) (by decide +kernel))) (by decide +kernel)
theorem w_instanceMethod_X0_settle : Cond.instanceMethod yX0_settle ∈ zgd := zgd_in (List.mem_append_right _ (List.mem_of_getElem? (i := 613) (by decide +kernel))) (by decide +kernel)
theorem w_instanceMethod_X0_unpackRow : Cond.instanceMethod yX0_unpackRow ∈ zgd := zgd_in (List.mem_append_right _ (List.mem_of_getElem? (i := 768) (by decide +kernel))) (by decide +kernel)
theorem w_instanceMethod_X0_unusedCard : Cond.instanceMethod yX0_unusedCard ∈ zgd := zgd_in (List.mem_append_right _ (List.mem_of_getElem? (i := 773) (by decide +kernel))) (by decide +kernel)
theorem w_instanceMethod_X0_waysToShow : Cond.instanceMethod yX0_waysToShow ∈ zgd := zgd_in (List.mem_append_right _ (List.mem_of_getElem? (i := 805) (by decide +kernel))) (by decide +kernel)
theorem w_instanceMethod_X10_answer : Cond.instanceMethod yX10_answer ∈ zgd := zgd_in (List.mem_append_right _ (List.mem_of_getElem? (i := 721) (by decide +kernel))) (by decide +kernel)
theorem w_instanceMethod_X10_answerWhether : Cond.instanceMethod yX10_answerWhether ∈ zgd := zgd_in (List.mem_append_right _ (List.mem_of_getElem? (i := 798) (by decide +kernel))) (by decide +kernel)
theorem w_instanceMethod_X10_deny : Cond.instanceMethod yX10_deny ∈ zgd := zgd_in (List.mem_append_right _ (List.mem_of_getElem? (i := 1112) (by decide +kernel))) (by decide +kernel)
theorem w_instanceMethod_X10_fitsHand : Cond.instanceMethod yX10_fitsHand ∈ zgd := zgd_in (List.mem_append_right _ (List.mem_of_getElem? (i := 785) (by decide +kernel))) (by decide +kernel)
theorem w_instanceMethod_X10_grant : Cond.instanceMethod yX10_grant ∈ zgd := zgd_in (List.mem_append_right _ (List.mem_of_getElem? (i := 1117) (by decide +kernel))) (by decide +kernel)
theorem w_instanceMethod_X10_isAgreed : Cond.instanceMethod yX10_isAgreed ∈ zgd := zgd_in (List.mem_append_right _ (List.mem_of_getElem? (i := 1067) (by decide +kernel))) (by decide +kernel)
theorem w_instanceMethod_X10_noEvening : Cond.instanceMethod yX10_noEvening ∈ zgd := zgd_in (List.mem_append_right _ (List.mem_of_getElem? (i := 1055) (by decide +kernel))) (by decide +kernel)
theorem w_instanceMethod_X10_noHand : Cond.instanceMethod yX10_noHand ∈ zgd := zgd_in (List.mem_append_right _ (List.mem_of_getElem? (i := 745) (by decide +kernel))) (by decide +kernel)
theorem w_instanceMethod_X10_noRow : Cond.instanceMethod yX10_noRow ∈ zgd := zgd_in (List.mem_append_right _ (List.mem_of_getElem? (i := 765) (by decide +kernel))) (by decide +kernel)
theorem w_instanceMethod_X10_noRule : Cond.instanceMethod yX10_noRule ∈ zgd := zgd_in (List.mem_append_right _ (List.mem_of_getElem? (i := 818) (by decide +kernel))) (by decide +kernel)
theorem w_instanceMethod_X10_putBytes : Cond.instanceMethod yX10_putBytes ∈ zgd := zgd_in (List.mem_append_right _ (List.mem_of_getElem? (i := 471) (by decide +kernel))) (by decide +kernel)
theorem w_instanceMethod_X10_refuse : Cond.instanceMethod yX10_refuse ∈ zgd := zgd_in (List.mem_append_right _ (List.mem_of_getElem? (i := 479) (by decide +kernel))) (by decide +kernel)
theorem w_instanceMethod_X11_handsOf : Cond.instanceMethod yX11_handsOf ∈ zgd := zgd_in (List.mem_append_right _ (List.mem_of_getElem? (i := 1520) (by decide +kernel))) (by decide +kernel)
theorem w_instanceMethod_X11_tilts : Cond.instanceMethod yX11_tilts ∈ zgd := zgd_in (List.mem_append_right _ (List.mem_of_getElem? (i := 1626) (by decide +kernel))) (by decide +kernel)
theorem w_instanceMethod_X12_agreesWith : Cond.instanceMethod yX12_agreesWith ∈ zgd := zgd_in (List.mem_append_right _ (List.mem_of_getElem? (i := 1897) (by decide +kernel))) (by decide +kernel)
theorem w_instanceMethod_X12_apartNow : Cond.instanceMethod yX12_apartNow ∈ zgd := zgd_in (List.mem_append_right _ (List.mem_of_getElem? (i := 1921) (by decide +kernel))) (by decide +kernel)
theorem w_instanceMethod_X12_areRules : Cond.instanceMethod yX12_areRules ∈ zgd := zgd_in (List.mem_append_right _ (List.mem_of_getElem? (i := 1917) (by decide +kernel))) (by decide +kernel)
theorem w_instanceMethod_X12_becomes : Cond.instanceMethod yX12_becomes ∈ zgd := zgd_in (List.mem_append_right _ (List.mem_of_getElem? (i := 1833) (by decide +kernel))) (by decide +kernel)
theorem w_instanceMethod_X12_begins : Cond.instanceMethod yX12_begins ∈ zgd := zgd_in (List.mem_append_right _ (List.mem_of_getElem? (i := 1544) (by decide +kernel))) (by decide +kernel)
theorem w_instanceMethod_X12_bounded : Cond.instanceMethod yX12_bounded ∈ zgd := zgd_in (List.mem_append_right _ (List.mem_of_getElem? (i := 1509) (by decide +kernel))) (by decide +kernel)
theorem w_instanceMethod_X12_byteAt : Cond.instanceMethod yX12_byteAt ∈ zgd := zgd_in (List.mem_append_right _ (List.mem_of_getElem? (i := 1463) (by decide +kernel))) (by decide +kernel)
theorem w_instanceMethod_X12_cardOf : Cond.instanceMethod yX12_cardOf ∈ zgd := zgd_in (List.mem_append_right _ (List.mem_of_getElem? (i := 1615) (by decide +kernel))) (by decide +kernel)
theorem w_instanceMethod_X12_clashNow : Cond.instanceMethod yX12_clashNow ∈ zgd := zgd_in (List.mem_append_right _ (List.mem_of_getElem? (i := 1805) (by decide +kernel))) (by decide +kernel)
theorem w_instanceMethod_X12_clearOwners : Cond.instanceMethod yX12_clearOwners ∈ zgd := zgd_in (List.mem_append_right _ (List.mem_of_getElem? (i := 1744) (by decide +kernel))) (by decide +kernel)
theorem w_instanceMethod_X12_countOf : Cond.instanceMethod yX12_countOf ∈ zgd := zgd_in (List.mem_append_right _ (List.mem_of_getElem? (i := 1873) (by decide +kernel))) (by decide +kernel)
theorem w_instanceMethod_X12_denied : Cond.instanceMethod yX12_denied ∈ zgd := zgd_in (List.mem_append_right _ (List.mem_of_getElem? (i := 1944) (by decide +kernel))) (by decide +kernel)
theorem w_instanceMethod_X12_eatsSign : Cond.instanceMethod yX12_eatsSign ∈ zgd := zgd_in (List.mem_append_right _ (List.mem_of_getElem? (i := 1587) (by decide +kernel))) (by decide +kernel)
theorem w_instanceMethod_X12_eatsWord : Cond.instanceMethod yX12_eatsWord ∈ zgd := zgd_in (List.mem_append_right _ (List.mem_of_getElem? (i := 1534) (by decide +kernel))) (by decide +kernel)
theorem w_instanceMethod_X12_firstWith : Cond.instanceMethod yX12_firstWith ∈ zgd := zgd_in (List.mem_append_right _ (List.mem_of_getElem? (i := 1793) (by decide +kernel))) (by decide +kernel)
theorem w_instanceMethod_X12_firstWrong : Cond.instanceMethod yX12_firstWrong ∈ zgd := zgd_in (List.mem_append_right _ (List.mem_of_getElem? (i := 1905) (by decide +kernel))) (by decide +kernel)
theorem w_instanceMethod_X12_fitsOf : Cond.instanceMethod yX12_fitsOf ∈ zgd := zgd_in (List.mem_append_right _ (List.mem_of_getElem? (i := 1752) (by decide +kernel))) (by decide +kernel)
theorem w_instanceMethod_X12_fittingMany : Cond.instanceMethod yX12_fittingMany ∈ zgd := zgd_in (List.mem_append_right _ (List.mem_of_getElem? (i := 1695) (by decide +kernel))) (by decide +kernel)
theorem w_instanceMethod_X12_flaw : Cond.instanceMethod yX12_flaw ∈ zgd := zgd_in (List.mem_append_right _ (List.mem_of_getElem? (i := 1496) (by decide +kernel))) (by decide +kernel)
theorem w_instanceMethod_X12_goesOn : Cond.instanceMethod yX12_goesOn ∈ zgd := zgd_in (List.mem_append_right _ (List.mem_of_getElem? (i := 1459) (by decide +kernel))) (by decide +kernel)
theorem w_instanceMethod_X12_goesOnFrom : Cond.instanceMethod yX12_goesOnFrom ∈ zgd := zgd_in (List.mem_append_right _ (List.mem_of_getElem? (i := 1748) (by decide +kernel))) (by decide +kernel)
theorem w_instanceMethod_X12_good : Cond.instanceMethod yX12_good ∈ zgd := zgd_in (List.mem_append_right _ (List.mem_of_getElem? (i := 1631) (by decide +kernel))) (by decide +kernel)
theorem w_instanceMethod_X12_granted : Cond.instanceMethod yX12_granted ∈ zgd := zgd_in (List.mem_append_right _ (List.mem_of_getElem? (i := 1949) (by decide +kernel))) (by decide +kernel)
theorem w_instanceMethod_X12_handNumber : Cond.instanceMethod yX12_handNumber ∈ zgd := zgd_in (List.mem_append_right _ (List.mem_of_getElem? (i := 1611) (by decide +kernel))) (by decide +kernel)
theorem w_instanceMethod_X12_has : Cond.instanceMethod yX12_has ∈ zgd := zgd_in (List.mem_append_right _ (List.mem_of_getElem? (i := 1619) (by decide +kernel))) (by decide +kernel)
theorem w_instanceMethod_X12_isBorne : Cond.instanceMethod yX12_isBorne ∈ zgd := zgd_in (List.mem_append_right _ (List.mem_of_getElem? (i := 1845) (by decide +kernel))) (by decide +kernel)
theorem w_instanceMethod_X12_isEvening : Cond.instanceMethod yX12_isEvening ∈ zgd := zgd_in (List.mem_append_right _ (List.mem_of_getElem? (i := 1885) (by decide +kernel))) (by decide +kernel)
theorem w_instanceMethod_X12_isHand : Cond.instanceMethod yX12_isHand ∈ zgd := zgd_in (List.mem_append_right _ (List.mem_of_getElem? (i := 1659) (by decide +kernel))) (by decide +kernel)
theorem w_instanceMethod_X12_isName : Cond.instanceMethod yX12_isName ∈ zgd := zgd_in (List.mem_append_right _ (List.mem_of_getElem? (i := 1548) (by decide +kernel))) (by decide +kernel)
theorem w_instanceMethod_X12_isOneOrder : Cond.instanceMethod yX12_isOneOrder ∈ zgd := zgd_in (List.mem_append_right _ (List.mem_of_getElem? (i := 1607) (by decide +kernel))) (by decide +kernel)
theorem w_instanceMethod_X12_isOwned : Cond.instanceMethod yX12_isOwned ∈ zgd := zgd_in (List.mem_append_right _ (List.mem_of_getElem? (i := 1837) (by decide +kernel))) (by decide +kernel)
theorem w_instanceMethod_X12_isPicked : Cond.instanceMethod yX12_isPicked ∈ zgd := zgd_in (List.mem_append_right _ (List.mem_of_getElem? (i := 1599) (by decide +kernel))) (by decide +kernel)
theorem w_instanceMethod_X12_isRow : Cond.instanceMethod yX12_isRow ∈ zgd := zgd_in (List.mem_append_right _ (List.mem_of_getElem? (i := 1671) (by decide +kernel))) (by decide +kernel)
theorem w_instanceMethod_X12_isRule : Cond.instanceMethod yX12_isRule ∈ zgd := zgd_in (List.mem_append_right _ (List.mem_of_getElem? (i := 1704) (by decide +kernel))) (by decide +kernel)
theorem w_instanceMethod_X12_isSeen : Cond.instanceMethod yX12_isSeen ∈ zgd := zgd_in (List.mem_append_right _ (List.mem_of_getElem? (i := 1829) (by decide +kernel))) (by decide +kernel)
theorem w_instanceMethod_X12_isWord : Cond.instanceMethod yX12_isWord ∈ zgd := zgd_in (List.mem_append_right _ (List.mem_of_getElem? (i := 1483) (by decide +kernel))) (by decide +kernel)
theorem w_instanceMethod_X12_isWorking : Cond.instanceMethod yX12_isWorking ∈ zgd := zgd_in (List.mem_append_right _ (List.mem_of_getElem? (i := 1801) (by decide +kernel))) (by decide +kernel)
theorem w_instanceMethod_X12_keepsAt : Cond.instanceMethod yX12_keepsAt ∈ zgd := zgd_in (List.mem_append_right _ (List.mem_of_getElem? (i := 1728) (by decide +kernel))) (by decide +kernel)
theorem w_instanceMethod_X12_knowsTable : Cond.instanceMethod yX12_knowsTable ∈ zgd := zgd_in (List.mem_append_right _ (List.mem_of_getElem? (i := 1736) (by decide +kernel))) (by decide +kernel)
theorem w_instanceMethod_X12_laysAll : Cond.instanceMethod yX12_laysAll ∈ zgd := zgd_in (List.mem_append_right _ (List.mem_of_getElem? (i := 1789) (by decide +kernel))) (by decide +kernel)
theorem w_instanceMethod_X12_laysAllWords : Cond.instanceMethod yX12_laysAllWords ∈ zgd := zgd_in (List.mem_append_right _ (List.mem_of_getElem? (i := 1853) (by decide +kernel))) (by decide +kernel)
theorem w_instanceMethod_X12_laysNow : Cond.instanceMethod yX12_laysNow ∈ zgd := zgd_in (List.mem_append_right _ (List.mem_of_getElem? (i := 1708) (by decide +kernel))) (by decide +kernel)
theorem w_instanceMethod_X12_laysSuit : Cond.instanceMethod yX12_laysSuit ∈ zgd := zgd_in (List.mem_append_right _ (List.mem_of_getElem? (i := 1712) (by decide +kernel))) (by decide +kernel)
theorem w_instanceMethod_X12_laysWords : Cond.instanceMethod yX12_laysWords ∈ zgd := zgd_in (List.mem_append_right _ (List.mem_of_getElem? (i := 1720) (by decide +kernel))) (by decide +kernel)
theorem w_instanceMethod_X12_needs : Cond.instanceMethod yX12_needs ∈ zgd := zgd_in (List.mem_append_right _ (List.mem_of_getElem? (i := 1505) (by decide +kernel))) (by decide +kernel)
theorem w_instanceMethod_X12_needsSign : Cond.instanceMethod yX12_needsSign ∈ zgd := zgd_in (List.mem_append_right _ (List.mem_of_getElem? (i := 1579) (by decide +kernel))) (by decide +kernel)
theorem w_instanceMethod_X12_next : Cond.instanceMethod yX12_next ∈ zgd := zgd_in (List.mem_append_right _ (List.mem_of_getElem? (i := 1595) (by decide +kernel))) (by decide +kernel)
theorem w_instanceMethod_X12_orders : Cond.instanceMethod yX12_orders ∈ zgd := zgd_in (List.mem_append_right _ (List.mem_of_getElem? (i := 1716) (by decide +kernel))) (by decide +kernel)
theorem w_instanceMethod_X12_ownerOf : Cond.instanceMethod yX12_ownerOf ∈ zgd := zgd_in (List.mem_append_right _ (List.mem_of_getElem? (i := 1760) (by decide +kernel))) (by decide +kernel)
theorem w_instanceMethod_X12_owns : Cond.instanceMethod yX12_owns ∈ zgd := zgd_in (List.mem_append_right _ (List.mem_of_getElem? (i := 1773) (by decide +kernel))) (by decide +kernel)
theorem w_instanceMethod_X12_ownsLaid : Cond.instanceMethod yX12_ownsLaid ∈ zgd := zgd_in (List.mem_append_right _ (List.mem_of_getElem? (i := 1825) (by decide +kernel))) (by decide +kernel)
theorem w_instanceMethod_X12_pairsNow : Cond.instanceMethod yX12_pairsNow ∈ zgd := zgd_in (List.mem_append_right _ (List.mem_of_getElem? (i := 1740) (by decide +kernel))) (by decide +kernel)
theorem w_instanceMethod_X12_puts : Cond.instanceMethod yX12_puts ∈ zgd := zgd_in (List.mem_append_right _ (List.mem_of_getElem? (i := 1756) (by decide +kernel))) (by decide +kernel)
theorem w_instanceMethod_X12_readEvening : Cond.instanceMethod yX12_readEvening ∈ zgd := zgd_in (List.mem_append_right _ (List.mem_of_getElem? (i := 1571) (by decide +kernel))) (by decide +kernel)
theorem w_instanceMethod_X12_readLine : Cond.instanceMethod yX12_readLine ∈ zgd := zgd_in (List.mem_append_right _ (List.mem_of_getElem? (i := 1478) (by decide +kernel))) (by decide +kernel)
theorem w_instanceMethod_X12_readPart : Cond.instanceMethod yX12_readPart ∈ zgd := zgd_in (List.mem_append_right _ (List.mem_of_getElem? (i := 1501) (by decide +kernel))) (by decide +kernel)
theorem w_instanceMethod_X12_readPlaces : Cond.instanceMethod yX12_readPlaces ∈ zgd := zgd_in (List.mem_append_right _ (List.mem_of_getElem? (i := 1583) (by decide +kernel))) (by decide +kernel)
theorem w_instanceMethod_X12_readRule : Cond.instanceMethod yX12_readRule ∈ zgd := zgd_in (List.mem_append_right _ (List.mem_of_getElem? (i := 1540) (by decide +kernel))) (by decide +kernel)
theorem w_instanceMethod_X12_readTrick : Cond.instanceMethod yX12_readTrick ∈ zgd := zgd_in (List.mem_append_right _ (List.mem_of_getElem? (i := 1492) (by decide +kernel))) (by decide +kernel)
theorem w_instanceMethod_X12_readUnlike : Cond.instanceMethod yX12_readUnlike ∈ zgd := zgd_in (List.mem_append_right _ (List.mem_of_getElem? (i := 1575) (by decide +kernel))) (by decide +kernel)
theorem w_instanceMethod_X12_readWords : Cond.instanceMethod yX12_readWords ∈ zgd := zgd_in (List.mem_append_right _ (List.mem_of_getElem? (i := 1558) (by decide +kernel))) (by decide +kernel)
theorem w_instanceMethod_X12_refused : Cond.instanceMethod yX12_refused ∈ zgd := zgd_in (List.mem_append_right _ (List.mem_of_getElem? (i := 1393) (by decide +kernel))) (by decide +kernel)
theorem w_instanceMethod_X12_rowCards : Cond.instanceMethod yX12_rowCards ∈ zgd := zgd_in (List.mem_append_right _ (List.mem_of_getElem? (i := 1675) (by decide +kernel))) (by decide +kernel)
theorem w_instanceMethod_X12_rowFits : Cond.instanceMethod yX12_rowFits ∈ zgd := zgd_in (List.mem_append_right _ (List.mem_of_getElem? (i := 1687) (by decide +kernel))) (by decide +kernel)
theorem w_instanceMethod_X12_rowMany : Cond.instanceMethod yX12_rowMany ∈ zgd := zgd_in (List.mem_append_right _ (List.mem_of_getElem? (i := 1651) (by decide +kernel))) (by decide +kernel)
theorem w_instanceMethod_X12_rowNumber : Cond.instanceMethod yX12_rowNumber ∈ zgd := zgd_in (List.mem_append_right _ (List.mem_of_getElem? (i := 1623) (by decide +kernel))) (by decide +kernel)
theorem w_instanceMethod_X12_settles : Cond.instanceMethod yX12_settles ∈ zgd := zgd_in (List.mem_append_right _ (List.mem_of_getElem? (i := 1777) (by decide +kernel))) (by decide +kernel)
theorem w_instanceMethod_X12_slot : Cond.instanceMethod yX12_slot ∈ zgd := zgd_in (List.mem_append_right _ (List.mem_of_getElem? (i := 1764) (by decide +kernel))) (by decide +kernel)
theorem w_instanceMethod_X12_sorts : Cond.instanceMethod yX12_sorts ∈ zgd := zgd_in (List.mem_append_right _ (List.mem_of_getElem? (i := 1724) (by decide +kernel))) (by decide +kernel)
theorem w_instanceMethod_X12_takes : Cond.instanceMethod yX12_takes ∈ zgd := zgd_in (List.mem_append_right _ (List.mem_of_getElem? (i := 1769) (by decide +kernel))) (by decide +kernel)
theorem w_instanceMethod_X12_tells : Cond.instanceMethod yX12_tells ∈ zgd := zgd_in (List.mem_append_right _ (List.mem_of_getElem? (i := 1732) (by decide +kernel))) (by decide +kernel)
theorem w_instanceMethod_X1_add : Cond.instanceMethod yX1_add ∈ zgd := zgd_in (List.mem_append_right _ (List.mem_of_getElem? (i := 692) (by decide +kernel))) (by decide +kernel)
theorem w_instanceMethod_X1_become : Cond.instanceMethod yX1_become ∈ zgd := zgd_in (List.mem_append_right _ (List.mem_of_getElem? (i := 1133) (by decide +kernel))) (by decide +kernel)
theorem w_instanceMethod_X1_clear : Cond.instanceMethod yX1_clear ∈ zgd := zgd_in (List.mem_append_right _ (List.mem_of_getElem? (i := 497) (by decide +kernel))) (by decide +kernel)
theorem w_instanceMethod_X2_clear : Cond.instanceMethod yX2_clear ∈ zgd := zgd_in (List.mem_append_right _ (List.mem_of_getElem? (i := 713) (by decide +kernel))) (by decide +kernel)
theorem w_instanceMethod_X3_arrange : Cond.instanceMethod yX3_arrange ∈ zgd := zgd_in (List.mem_append_right _ (List.mem_of_getElem? (i := 892) (by decide +kernel))) (by decide +kernel)
theorem w_instanceMethod_X3_bySuit : Cond.instanceMethod yX3_bySuit ∈ zgd := zgd_in (List.mem_append_right _ (List.mem_of_getElem? (i := 875) (by decide +kernel))) (by decide +kernel)
theorem w_instanceMethod_X3_byWords : Cond.instanceMethod yX3_byWords ∈ zgd := zgd_in (List.mem_append_right _ (List.mem_of_getElem? (i := 896) (by decide +kernel))) (by decide +kernel)
theorem w_instanceMethod_X3_keepPlace : Cond.instanceMethod yX3_keepPlace ∈ zgd := zgd_in (List.mem_append_right _ (List.mem_of_getElem? (i := 901) (by decide +kernel))) (by decide +kernel)
theorem w_instanceMethod_X3_rowOfTwo : Cond.instanceMethod yX3_rowOfTwo ∈ zgd := zgd_in (List.mem_append_right _ (List.mem_of_getElem? (i := 887) (by decide +kernel))) (by decide +kernel)
theorem w_instanceMethod_X3_rowTelling : Cond.instanceMethod yX3_rowTelling ∈ zgd := zgd_in (List.mem_append_right _ (List.mem_of_getElem? (i := 923) (by decide +kernel))) (by decide +kernel)
theorem w_instanceMethod_X3_showOthers : Cond.instanceMethod yX3_showOthers ∈ zgd := zgd_in (List.mem_append_right _ (List.mem_of_getElem? (i := 909) (by decide +kernel))) (by decide +kernel)
theorem w_instanceMethod_X3_sortHand : Cond.instanceMethod yX3_sortHand ∈ zgd := zgd_in (List.mem_append_right _ (List.mem_of_getElem? (i := 881) (by decide +kernel))) (by decide +kernel)
theorem w_instanceMethod_X3_tellOf : Cond.instanceMethod yX3_tellOf ∈ zgd := zgd_in (List.mem_append_right _ (List.mem_of_getElem? (i := 913) (by decide +kernel))) (by decide +kernel)
theorem w_instanceMethod_X4_begin : Cond.instanceMethod yX4_begin ∈ zgd := zgd_in (List.mem_append_right _ (List.mem_of_getElem? (i := 696) (by decide +kernel))) (by decide +kernel)
theorem w_instanceMethod_X4_doWordsWork : Cond.instanceMethod yX4_doWordsWork ∈ zgd := zgd_in (List.mem_append_right _ (List.mem_of_getElem? (i := 1006) (by decide +kernel))) (by decide +kernel)
theorem w_instanceMethod_X4_largestDeck : Cond.instanceMethod yX4_largestDeck ∈ zgd := zgd_in (List.mem_append_right _ (List.mem_of_getElem? (i := 1044) (by decide +kernel))) (by decide +kernel)
theorem w_instanceMethod_X4_noSwap : Cond.instanceMethod yX4_noSwap ∈ zgd := zgd_in (List.mem_append_right _ (List.mem_of_getElem? (i := 981) (by decide +kernel))) (by decide +kernel)
theorem w_instanceMethod_X4_swapCards : Cond.instanceMethod yX4_swapCards ∈ zgd := zgd_in (List.mem_append_right _ (List.mem_of_getElem? (i := 994) (by decide +kernel))) (by decide +kernel)
theorem w_instanceMethod_X4_swapped : Cond.instanceMethod yX4_swapped ∈ zgd := zgd_in (List.mem_append_right _ (List.mem_of_getElem? (i := 990) (by decide +kernel))) (by decide +kernel)
theorem w_instanceMethod_X4_tableRow : Cond.instanceMethod yX4_tableRow ∈ zgd := zgd_in (List.mem_append_right _ (List.mem_of_getElem? (i := 871) (by decide +kernel))) (by decide +kernel)
theorem w_instanceMethod_X4_tryWords : Cond.instanceMethod yX4_tryWords ∈ zgd := zgd_in (List.mem_append_right _ (List.mem_of_getElem? (i := 1011) (by decide +kernel))) (by decide +kernel)
theorem w_instanceMethod_X5_following : Cond.instanceMethod yX5_following ∈ zgd := zgd_in (List.mem_append_right _ (List.mem_of_getElem? (i := 706) (by decide +kernel))) (by decide +kernel)
theorem w_instanceMethod_X5_list : Cond.instanceMethod yX5_list ∈ zgd := zgd_in (List.mem_append_right _ (List.mem_of_getElem? (i := 700) (by decide +kernel))) (by decide +kernel)
theorem w_instanceMethod_X5_pack : Cond.instanceMethod yX5_pack ∈ zgd := zgd_in (List.mem_append_right _ (List.mem_of_getElem? (i := 710) (by decide +kernel))) (by decide +kernel)
theorem w_instanceMethod_X6_hurry : Cond.instanceMethod yX6_hurry ∈ zgd := zgd_in (List.mem_append_right _ (List.mem_of_getElem? (i := 856) (by decide +kernel))) (by decide +kernel)
theorem w_instanceMethod_X6_rehome : Cond.instanceMethod yX6_rehome ∈ zgd := zgd_in (List.mem_append_right _ (List.mem_of_getElem? (i := 852) (by decide +kernel))) (by decide +kernel)
theorem w_instanceMethod_X6_rowAt : Cond.instanceMethod yX6_rowAt ∈ zgd := zgd_in (List.mem_append_right _ (List.mem_of_getElem? (i := 846) (by decide +kernel))) (by decide +kernel)
theorem w_instanceMethod_X7_fail : Cond.instanceMethod yX7_fail ∈ zgd := zgd_in (List.mem_append_right _ (List.mem_of_getElem? (i := 571) (by decide +kernel))) (by decide +kernel)
theorem w_instanceMethod_X7_is : Cond.instanceMethod yX7_is ∈ zgd := zgd_in (List.mem_append_right _ (List.mem_of_getElem? (i := 515) (by decide +kernel))) (by decide +kernel)
theorem w_instanceMethod_X7_isNameOf : Cond.instanceMethod yX7_isNameOf ∈ zgd := zgd_in (List.mem_append_right _ (List.mem_of_getElem? (i := 631) (by decide +kernel))) (by decide +kernel)
theorem w_instanceMethod_X7_isUntold : Cond.instanceMethod yX7_isUntold ∈ zgd := zgd_in (List.mem_append_right _ (List.mem_of_getElem? (i := 667) (by decide +kernel))) (by decide +kernel)
theorem w_instanceMethod_X7_isWhole : Cond.instanceMethod yX7_isWhole ∈ zgd := zgd_in (List.mem_append_right _ (List.mem_of_getElem? (i := 580) (by decide +kernel))) (by decide +kernel)
theorem w_instanceMethod_X7_keepWord : Cond.instanceMethod yX7_keepWord ∈ zgd := zgd_in (List.mem_append_right _ (List.mem_of_getElem? (i := 642) (by decide +kernel))) (by decide +kernel)
theorem w_instanceMethod_X7_pass : Cond.instanceMethod yX7_pass ∈ zgd := zgd_in (List.mem_append_right _ (List.mem_of_getElem? (i := 589) (by decide +kernel))) (by decide +kernel)
theorem w_instanceMethod_X7_passWhole : Cond.instanceMethod yX7_passWhole ∈ zgd := zgd_in (List.mem_append_right _ (List.mem_of_getElem? (i := 576) (by decide +kernel))) (by decide +kernel)
theorem w_instanceMethod_X7_readCards : Cond.instanceMethod yX7_readCards ∈ zgd := zgd_in (List.mem_append_right _ (List.mem_of_getElem? (i := 663) (by decide +kernel))) (by decide +kernel)
theorem w_instanceMethod_X7_readEvening : Cond.instanceMethod yX7_readEvening ∈ zgd := zgd_in (List.mem_append_right _ (List.mem_of_getElem? (i := 659) (by decide +kernel))) (by decide +kernel)
theorem w_instanceMethod_X7_readKind : Cond.instanceMethod yX7_readKind ∈ zgd := zgd_in (List.mem_append_right _ (List.mem_of_getElem? (i := 635) (by decide +kernel))) (by decide +kernel)
theorem w_instanceMethod_X7_readLine : Cond.instanceMethod yX7_readLine ∈ zgd := zgd_in (List.mem_append_right _ (List.mem_of_getElem? (i := 510) (by decide +kernel))) (by decide +kernel)
theorem w_instanceMethod_X7_readName : Cond.instanceMethod yX7_readName ∈ zgd := zgd_in (List.mem_append_right _ (List.mem_of_getElem? (i := 624) (by decide +kernel))) (by decide +kernel)
theorem w_instanceMethod_X7_readRule : Cond.instanceMethod yX7_readRule ∈ zgd := zgd_in (List.mem_append_right _ (List.mem_of_getElem? (i := 620) (by decide +kernel))) (by decide +kernel)
theorem w_instanceMethod_X7_readSuits : Cond.instanceMethod yX7_readSuits ∈ zgd := zgd_in (List.mem_append_right _ (List.mem_of_getElem? (i := 584) (by decide +kernel))) (by decide +kernel)
theorem w_instanceMethod_X7_readText : Cond.instanceMethod yX7_readText ∈ zgd := zgd_in (List.mem_append_right _ (List.mem_of_getElem? (i := 482) (by decide +kernel))) (by decide +kernel)
theorem w_instanceMethod_X7_readTilts : Cond.instanceMethod yX7_readTilts ∈ zgd := zgd_in (List.mem_append_right _ (List.mem_of_getElem? (i := 689) (by decide +kernel))) (by decide +kernel)
theorem w_instanceMethod_X7_readTrick : Cond.instanceMethod yX7_readTrick ∈ zgd := zgd_in (List.mem_append_right _ (List.mem_of_getElem? (i := 567) (by decide +kernel))) (by decide +kernel)
theorem w_instanceMethod_X7_readWay : Cond.instanceMethod yX7_readWay ∈ zgd := zgd_in (List.mem_append_right _ (List.mem_of_getElem? (i := 595) (by decide +kernel))) (by decide +kernel)
theorem w_instanceMethod_X7_runLength : Cond.instanceMethod yX7_runLength ∈ zgd := zgd_in (List.mem_append_right _ (List.mem_of_getElem? (i := 506) (by decide +kernel))) (by decide +kernel)
theorem w_instanceMethod_X7_step : Cond.instanceMethod yX7_step ∈ zgd := zgd_in (List.mem_append_right _ (List.mem_of_getElem? (i := 502) (by decide +kernel))) (by decide +kernel)
theorem w_instanceMethod_X7_tellWord : Cond.instanceMethod yX7_tellWord ∈ zgd := zgd_in (List.mem_append_right _ (List.mem_of_getElem? (i := 651) (by decide +kernel))) (by decide +kernel)
theorem w_instanceMethod_X8_clear : Cond.instanceMethod yX8_clear ∈ zgd := zgd_in (List.mem_append_right _ (List.mem_of_getElem? (i := 863) (by decide +kernel))) (by decide +kernel)
theorem w_instanceMethod_X8_holderOf : Cond.instanceMethod yX8_holderOf ∈ zgd := zgd_in (List.mem_append_right _ (List.mem_of_getElem? (i := 984) (by decide +kernel))) (by decide +kernel)
theorem w_instanceMethod_X8_put : Cond.instanceMethod yX8_put ∈ zgd := zgd_in (List.mem_append_right _ (List.mem_of_getElem? (i := 930) (by decide +kernel))) (by decide +kernel)
theorem w_instanceMethod_X8_slotOf : Cond.instanceMethod yX8_slotOf ∈ zgd := zgd_in (List.mem_append_right _ (List.mem_of_getElem? (i := 935) (by decide +kernel))) (by decide +kernel)
theorem w_instanceMethod_X9_clear : Cond.instanceMethod yX9_clear ∈ zgd := zgd_in (List.mem_append_right _ (List.mem_of_getElem? (i := 489) (by decide +kernel))) (by decide +kernel)
theorem w_m1_RX10_215 : Cond.methodLink RX10 215 Lib.MathLoose.min_long.x ∈ zgd := zgd_in (List.mem_append_right _ (List.mem_of_getElem? (i := 1023) (by decide +kernel))) (by decide +kernel)
theorem w_m1_RX10_255 : Cond.methodLink RX10 255 Lib.Math.max.name ∈ zgd := zgd_in (List.mem_append_right _ (List.mem_of_getElem? (i := 1096) (by decide +kernel))) (by decide +kernel)
theorem w_m1_RX3_35 : Cond.methodLink RX3 35 Lib.Math.min.name ∈ zgd := zgd_in (List.mem_append_right _ (List.mem_of_getElem? (i := 903) (by decide +kernel))) (by decide +kernel)
theorem w_m1_RX3_41 : Cond.methodLink RX3 41 Lib.Math.max.name ∈ zgd := zgd_in (List.mem_append_right _ (List.mem_of_getElem? (i := 904) (by decide +kernel))) (by decide +kernel)
theorem w_m1_RX7_32 : Cond.methodLink RX7 32 Lib.Math.min.name ∈ zgd := zgd_in (List.mem_append_right _ (List.mem_of_getElem? (i := 485) (by decide +kernel))) (by decide +kernel)
theorem w_ml_RJ0_1059 : Cond.methodLink RJ0 1059 yJ3_checkIndex_8e157 ∈ zgd := zgd_in (List.mem_append_right _ (List.mem_of_getElem? (i := 543) (by decide +kernel))) (by decide +kernel)
theorem w_ml_RJ0_335 : Cond.methodLink RJ0 335 yJ0_coder_7d493 ∈ zgd := zgd_in (List.mem_append_right _ (List.mem_of_getElem? (i := 521) (by decide +kernel))) (by decide +kernel)
theorem w_ml_RJ0_492 : Cond.methodLink RJ0 492 yJ0_isLatin1_aae02 ∈ zgd := zgd_in (List.mem_append_right _ (List.mem_of_getElem? (i := 531) (by decide +kernel))) (by decide +kernel)
theorem w_ml_RJ0_495 : Cond.methodLink RJ0 495 yJ1_charAt_3b067 ∈ zgd := zgd_in (List.mem_append_right _ (List.mem_of_getElem? (i := 535) (by decide +kernel))) (by decide +kernel)
theorem w_ml_RJ1_9 : Cond.methodLink RJ1 9 yJ0_checkIndex_df160 ∈ zgd := zgd_in (List.mem_append_right _ (List.mem_of_getElem? (i := 538) (by decide +kernel))) (by decide +kernel)
theorem w_ml_RX0_52 : Cond.methodLink RX0 52 yX0_falling ∈ zgd := zgd_in (List.mem_append_right _ (List.mem_of_getElem? (i := 603) (by decide +kernel))) (by decide +kernel)
theorem w_ml_RX0_56 : Cond.methodLink RX0 56 yX0_handsOf ∈ zgd := zgd_in (List.mem_append_right _ (List.mem_of_getElem? (i := 616) (by decide +kernel))) (by decide +kernel)
theorem w_ml_RX0_60 : Cond.methodLink RX0 60 yX0_choose ∈ zgd := zgd_in (List.mem_append_right _ (List.mem_of_getElem? (i := 606) (by decide +kernel))) (by decide +kernel)
theorem w_ml_RX0_63 : Cond.methodLink RX0 63 yX0_anyOrder ∈ zgd := zgd_in (List.mem_append_right _ (List.mem_of_getElem? (i := 808) (by decide +kernel))) (by decide +kernel)
theorem w_ml_RX0_67 : Cond.methodLink RX0 67 yX0_rowNumber ∈ zgd := zgd_in (List.mem_append_right _ (List.mem_of_getElem? (i := 673) (by decide +kernel))) (by decide +kernel)
theorem w_ml_RX0_71 : Cond.methodLink RX0 71 yX0_sort ∈ zgd := zgd_in (List.mem_append_right _ (List.mem_of_getElem? (i := 683) (by decide +kernel))) (by decide +kernel)
theorem w_ml_RX0_75 : Cond.methodLink RX0 75 yJ6_bitCount_0f7a4 ∈ zgd := zgd_in (List.mem_append_right _ (List.mem_of_getElem? (i := 677) (by decide +kernel))) (by decide +kernel)
theorem w_ml_RX0_81 : Cond.methodLink RX0 81 yX0_unusedCard ∈ zgd := zgd_in (List.mem_append_right _ (List.mem_of_getElem? (i := 771) (by decide +kernel))) (by decide +kernel)
theorem w_ml_RX0_85 : Cond.methodLink RX0 85 yX0_placeIn ∈ zgd := zgd_in (List.mem_append_right _ (List.mem_of_getElem? (i := 791) (by decide +kernel))) (by decide +kernel)
theorem w_ml_RX0_89 : Cond.methodLink RX0 89 yX0_cardAt ∈ zgd := zgd_in (List.mem_append_right _ (List.mem_of_getElem? (i := 795) (by decide +kernel))) (by decide +kernel)
theorem w_ml_RX0_92 : Cond.methodLink RX0 92 yX0_lower ∈ zgd := zgd_in (List.mem_append_right _ (List.mem_of_getElem? (i := 946) (by decide +kernel))) (by decide +kernel)
theorem w_ml_RX10_106 : Cond.methodLink RX10 106 yX10_noHand ∈ zgd := zgd_in (List.mem_append_right _ (List.mem_of_getElem? (i := 743) (by decide +kernel))) (by decide +kernel)
theorem w_ml_RX10_116 : Cond.methodLink RX10 116 yX0_cardAt ∈ zgd := zgd_in (List.mem_append_right _ (List.mem_of_getElem? (i := 747) (by decide +kernel))) (by decide +kernel)
theorem w_ml_RX10_120 : Cond.methodLink RX10 120 yX0_isHand ∈ zgd := zgd_in (List.mem_append_right _ (List.mem_of_getElem? (i := 754) (by decide +kernel))) (by decide +kernel)
theorem w_ml_RX10_124 : Cond.methodLink RX10 124 yX0_handNumber ∈ zgd := zgd_in (List.mem_append_right _ (List.mem_of_getElem? (i := 758) (by decide +kernel))) (by decide +kernel)
theorem w_ml_RX10_128 : Cond.methodLink RX10 128 yX10_noRow ∈ zgd := zgd_in (List.mem_append_right _ (List.mem_of_getElem? (i := 763) (by decide +kernel))) (by decide +kernel)
theorem w_ml_RX10_134 : Cond.methodLink RX10 134 yX0_unpackRow ∈ zgd := zgd_in (List.mem_append_right _ (List.mem_of_getElem? (i := 767) (by decide +kernel))) (by decide +kernel)
theorem w_ml_RX10_141 : Cond.methodLink RX10 141 yX10_fitsHand ∈ zgd := zgd_in (List.mem_append_right _ (List.mem_of_getElem? (i := 783) (by decide +kernel))) (by decide +kernel)
theorem w_ml_RX10_145 : Cond.methodLink RX10 145 yX10_answerWhether ∈ zgd := zgd_in (List.mem_append_right _ (List.mem_of_getElem? (i := 796) (by decide +kernel))) (by decide +kernel)
theorem w_ml_RX10_149 : Cond.methodLink RX10 149 yX0_isShownOf ∈ zgd := zgd_in (List.mem_append_right _ (List.mem_of_getElem? (i := 787) (by decide +kernel))) (by decide +kernel)
theorem w_ml_RX10_153 : Cond.methodLink RX10 153 yX0_waysToShow ∈ zgd := zgd_in (List.mem_append_right _ (List.mem_of_getElem? (i := 804) (by decide +kernel))) (by decide +kernel)
theorem w_ml_RX10_157 : Cond.methodLink RX10 157 yX10_noRule ∈ zgd := zgd_in (List.mem_append_right _ (List.mem_of_getElem? (i := 816) (by decide +kernel))) (by decide +kernel)
theorem w_ml_RX10_202 : Cond.methodLink RX10 202 yX4_doWordsWork ∈ zgd := zgd_in (List.mem_append_right _ (List.mem_of_getElem? (i := 1005) (by decide +kernel))) (by decide +kernel)
theorem w_ml_RX10_208 : Cond.methodLink RX10 208 yX0_handsOf ∈ zgd := zgd_in (List.mem_append_right _ (List.mem_of_getElem? (i := 1021) (by decide +kernel))) (by decide +kernel)
theorem w_ml_RX10_212 : Cond.methodLink RX10 212 yX0_rowsOf ∈ zgd := zgd_in (List.mem_append_right _ (List.mem_of_getElem? (i := 1022) (by decide +kernel))) (by decide +kernel)
theorem w_ml_RX10_227 : Cond.methodLink RX10 227 yX4_largestDeck ∈ zgd := zgd_in (List.mem_append_right _ (List.mem_of_getElem? (i := 1043) (by decide +kernel))) (by decide +kernel)
theorem w_ml_RX10_230 : Cond.methodLink RX10 230 yX10_noEvening ∈ zgd := zgd_in (List.mem_append_right _ (List.mem_of_getElem? (i := 1053) (by decide +kernel))) (by decide +kernel)
theorem w_ml_RX10_242 : Cond.methodLink RX10 242 yX10_isAgreed ∈ zgd := zgd_in (List.mem_append_right _ (List.mem_of_getElem? (i := 1065) (by decide +kernel))) (by decide +kernel)
theorem w_ml_RX10_262 : Cond.methodLink RX10 262 yX10_deny ∈ zgd := zgd_in (List.mem_append_right _ (List.mem_of_getElem? (i := 1110) (by decide +kernel))) (by decide +kernel)
theorem w_ml_RX10_269 : Cond.methodLink RX10 269 yX10_grant ∈ zgd := zgd_in (List.mem_append_right _ (List.mem_of_getElem? (i := 1115) (by decide +kernel))) (by decide +kernel)
theorem w_ml_RX10_274 : Cond.methodLink RX10 274 yX1_become ∈ zgd := zgd_in (List.mem_append_right _ (List.mem_of_getElem? (i := 1132) (by decide +kernel))) (by decide +kernel)
theorem w_ml_RX10_52 : Cond.methodLink RX10 52 yX10_putBytes ∈ zgd := zgd_in (List.mem_append_right _ (List.mem_of_getElem? (i := 469) (by decide +kernel))) (by decide +kernel)
theorem w_ml_RX10_56 : Cond.methodLink RX10 56 yX10_refuse ∈ zgd := zgd_in (List.mem_append_right _ (List.mem_of_getElem? (i := 477) (by decide +kernel))) (by decide +kernel)
theorem w_ml_RX10_60 : Cond.methodLink RX10 60 yX7_readText ∈ zgd := zgd_in (List.mem_append_right _ (List.mem_of_getElem? (i := 481) (by decide +kernel))) (by decide +kernel)
theorem w_ml_RX10_77 : Cond.methodLink RX10 77 yX4_begin ∈ zgd := zgd_in (List.mem_append_right _ (List.mem_of_getElem? (i := 695) (by decide +kernel))) (by decide +kernel)
theorem w_ml_RX10_84 : Cond.methodLink RX10 84 yX10_answer ∈ zgd := zgd_in (List.mem_append_right _ (List.mem_of_getElem? (i := 719) (by decide +kernel))) (by decide +kernel)
theorem w_ml_RX12_106 : Cond.methodLink RX12 106 yJ0_length_8abf5 ∈ zgd := zgd_in (List.mem_append_right _ (List.mem_of_getElem? (i := 1488) (by decide +kernel))) (by decide +kernel)
theorem w_ml_RX12_114 : Cond.methodLink RX12 114 yJ0_charAt_5068e ∈ zgd := zgd_in (List.mem_append_right _ (List.mem_of_getElem? (i := 1489) (by decide +kernel))) (by decide +kernel)
theorem w_ml_RX12_124 : Cond.methodLink RX12 124 yX12_byteAt ∈ zgd := zgd_in (List.mem_append_right _ (List.mem_of_getElem? (i := 1461) (by decide +kernel))) (by decide +kernel)
theorem w_ml_RX12_133 : Cond.methodLink RX12 133 yX12_isLetter ∈ zgd := zgd_in (List.mem_append_right _ (List.mem_of_getElem? (i := 1465) (by decide +kernel))) (by decide +kernel)
theorem w_ml_RX12_141 : Cond.methodLink RX12 141 yX12_isDigit ∈ zgd := zgd_in (List.mem_append_right _ (List.mem_of_getElem? (i := 1469) (by decide +kernel))) (by decide +kernel)
theorem w_ml_RX12_153 : Cond.methodLink RX12 153 yX12_wordOf ∈ zgd := zgd_in (List.mem_append_right _ (List.mem_of_getElem? (i := 1485) (by decide +kernel))) (by decide +kernel)
theorem w_ml_RX12_157 : Cond.methodLink RX12 157 yX12_isWord ∈ zgd := zgd_in (List.mem_append_right _ (List.mem_of_getElem? (i := 1481) (by decide +kernel))) (by decide +kernel)
theorem w_ml_RX12_161 : Cond.methodLink RX12 161 yX12_goesOn ∈ zgd := zgd_in (List.mem_append_right _ (List.mem_of_getElem? (i := 1457) (by decide +kernel))) (by decide +kernel)
theorem w_ml_RX12_164 : Cond.methodLink RX12 164 yX12_flaw ∈ zgd := zgd_in (List.mem_append_right _ (List.mem_of_getElem? (i := 1494) (by decide +kernel))) (by decide +kernel)
theorem w_ml_RX12_168 : Cond.methodLink RX12 168 yX12_in ∈ zgd := zgd_in (List.mem_append_right _ (List.mem_of_getElem? (i := 1511) (by decide +kernel))) (by decide +kernel)
theorem w_ml_RX12_172 : Cond.methodLink RX12 172 yX12_needs ∈ zgd := zgd_in (List.mem_append_right _ (List.mem_of_getElem? (i := 1503) (by decide +kernel))) (by decide +kernel)
theorem w_ml_RX12_176 : Cond.methodLink RX12 176 yX12_bounded ∈ zgd := zgd_in (List.mem_append_right _ (List.mem_of_getElem? (i := 1507) (by decide +kernel))) (by decide +kernel)
theorem w_ml_RX12_198 : Cond.methodLink RX12 198 yX12_readLine ∈ zgd := zgd_in (List.mem_append_right _ (List.mem_of_getElem? (i := 1476) (by decide +kernel))) (by decide +kernel)
theorem w_ml_RX12_201 : Cond.methodLink RX12 201 yX12_eatsSign ∈ zgd := zgd_in (List.mem_append_right _ (List.mem_of_getElem? (i := 1585) (by decide +kernel))) (by decide +kernel)
theorem w_ml_RX12_204 : Cond.methodLink RX12 204 yX12_readTrick ∈ zgd := zgd_in (List.mem_append_right _ (List.mem_of_getElem? (i := 1490) (by decide +kernel))) (by decide +kernel)
theorem w_ml_RX12_207 : Cond.methodLink RX12 207 yX12_readRule ∈ zgd := zgd_in (List.mem_append_right _ (List.mem_of_getElem? (i := 1538) (by decide +kernel))) (by decide +kernel)
theorem w_ml_RX12_210 : Cond.methodLink RX12 210 yX12_readEvening ∈ zgd := zgd_in (List.mem_append_right _ (List.mem_of_getElem? (i := 1569) (by decide +kernel))) (by decide +kernel)
theorem w_ml_RX12_214 : Cond.methodLink RX12 214 yX12_readPart ∈ zgd := zgd_in (List.mem_append_right _ (List.mem_of_getElem? (i := 1499) (by decide +kernel))) (by decide +kernel)
theorem w_ml_RX12_234 : Cond.methodLink RX12 234 yX11_handsOf ∈ zgd := zgd_in (List.mem_append_right _ (List.mem_of_getElem? (i := 1519) (by decide +kernel))) (by decide +kernel)
theorem w_ml_RX12_242 : Cond.methodLink RX12 242 yX12_eatsWord ∈ zgd := zgd_in (List.mem_append_right _ (List.mem_of_getElem? (i := 1532) (by decide +kernel))) (by decide +kernel)
theorem w_ml_RX12_262 : Cond.methodLink RX12 262 yX12_begins ∈ zgd := zgd_in (List.mem_append_right _ (List.mem_of_getElem? (i := 1542) (by decide +kernel))) (by decide +kernel)
theorem w_ml_RX12_266 : Cond.methodLink RX12 266 yX12_isName ∈ zgd := zgd_in (List.mem_append_right _ (List.mem_of_getElem? (i := 1546) (by decide +kernel))) (by decide +kernel)
theorem w_ml_RX12_280 : Cond.methodLink RX12 280 yX12_readWords ∈ zgd := zgd_in (List.mem_append_right _ (List.mem_of_getElem? (i := 1556) (by decide +kernel))) (by decide +kernel)
theorem w_ml_RX12_302 : Cond.methodLink RX12 302 yX12_needsSign ∈ zgd := zgd_in (List.mem_append_right _ (List.mem_of_getElem? (i := 1577) (by decide +kernel))) (by decide +kernel)
theorem w_ml_RX12_311 : Cond.methodLink RX12 311 yX12_readUnlike ∈ zgd := zgd_in (List.mem_append_right _ (List.mem_of_getElem? (i := 1573) (by decide +kernel))) (by decide +kernel)
theorem w_ml_RX12_316 : Cond.methodLink RX12 316 yX12_readPlaces ∈ zgd := zgd_in (List.mem_append_right _ (List.mem_of_getElem? (i := 1581) (by decide +kernel))) (by decide +kernel)
theorem w_ml_RX12_347 : Cond.methodLink RX12 347 yX12_handNumber ∈ zgd := zgd_in (List.mem_append_right _ (List.mem_of_getElem? (i := 1609) (by decide +kernel))) (by decide +kernel)
theorem w_ml_RX12_351 : Cond.methodLink RX12 351 yX12_rowNumber ∈ zgd := zgd_in (List.mem_append_right _ (List.mem_of_getElem? (i := 1621) (by decide +kernel))) (by decide +kernel)
theorem w_ml_RX12_354 : Cond.methodLink RX12 354 yX11_tilts ∈ zgd := zgd_in (List.mem_append_right _ (List.mem_of_getElem? (i := 1625) (by decide +kernel))) (by decide +kernel)
theorem w_ml_RX12_359 : Cond.methodLink RX12 359 yX12_next ∈ zgd := zgd_in (List.mem_append_right _ (List.mem_of_getElem? (i := 1593) (by decide +kernel))) (by decide +kernel)
theorem w_ml_RX12_362 : Cond.methodLink RX12 362 yX12_isPicked ∈ zgd := zgd_in (List.mem_append_right _ (List.mem_of_getElem? (i := 1597) (by decide +kernel))) (by decide +kernel)
theorem w_ml_RX12_366 : Cond.methodLink RX12 366 yX12_cardOf ∈ zgd := zgd_in (List.mem_append_right _ (List.mem_of_getElem? (i := 1613) (by decide +kernel))) (by decide +kernel)
theorem w_ml_RX12_369 : Cond.methodLink RX12 369 yX12_has ∈ zgd := zgd_in (List.mem_append_right _ (List.mem_of_getElem? (i := 1617) (by decide +kernel))) (by decide +kernel)
theorem w_ml_RX12_372 : Cond.methodLink RX12 372 yX12_rowMany ∈ zgd := zgd_in (List.mem_append_right _ (List.mem_of_getElem? (i := 1649) (by decide +kernel))) (by decide +kernel)
theorem w_ml_RX12_375 : Cond.methodLink RX12 375 yX12_isHand ∈ zgd := zgd_in (List.mem_append_right _ (List.mem_of_getElem? (i := 1657) (by decide +kernel))) (by decide +kernel)
theorem w_ml_RX12_378 : Cond.methodLink RX12 378 yX12_isRow ∈ zgd := zgd_in (List.mem_append_right _ (List.mem_of_getElem? (i := 1669) (by decide +kernel))) (by decide +kernel)
theorem w_ml_RX12_381 : Cond.methodLink RX12 381 yX12_rowCards ∈ zgd := zgd_in (List.mem_append_right _ (List.mem_of_getElem? (i := 1673) (by decide +kernel))) (by decide +kernel)
theorem w_ml_RX12_385 : Cond.methodLink RX12 385 yX12_rowFits ∈ zgd := zgd_in (List.mem_append_right _ (List.mem_of_getElem? (i := 1685) (by decide +kernel))) (by decide +kernel)
theorem w_ml_RX12_388 : Cond.methodLink RX12 388 yX12_isOneOrder ∈ zgd := zgd_in (List.mem_append_right _ (List.mem_of_getElem? (i := 1605) (by decide +kernel))) (by decide +kernel)
theorem w_ml_RX12_391 : Cond.methodLink RX12 391 yX12_setsOf ∈ zgd := zgd_in (List.mem_append_right _ (List.mem_of_getElem? (i := 1697) (by decide +kernel))) (by decide +kernel)
theorem w_ml_RX12_394 : Cond.methodLink RX12 394 yX12_fittingMany ∈ zgd := zgd_in (List.mem_append_right _ (List.mem_of_getElem? (i := 1693) (by decide +kernel))) (by decide +kernel)
theorem w_ml_RX12_403 : Cond.methodLink RX12 403 yX12_puts ∈ zgd := zgd_in (List.mem_append_right _ (List.mem_of_getElem? (i := 1754) (by decide +kernel))) (by decide +kernel)
theorem w_ml_RX12_406 : Cond.methodLink RX12 406 yX12_sorts ∈ zgd := zgd_in (List.mem_append_right _ (List.mem_of_getElem? (i := 1722) (by decide +kernel))) (by decide +kernel)
theorem w_ml_RX12_409 : Cond.methodLink RX12 409 yX12_keepsAt ∈ zgd := zgd_in (List.mem_append_right _ (List.mem_of_getElem? (i := 1726) (by decide +kernel))) (by decide +kernel)
theorem w_ml_RX12_412 : Cond.methodLink RX12 412 yX12_tells ∈ zgd := zgd_in (List.mem_append_right _ (List.mem_of_getElem? (i := 1730) (by decide +kernel))) (by decide +kernel)
theorem w_ml_RX12_415 : Cond.methodLink RX12 415 yX12_orders ∈ zgd := zgd_in (List.mem_append_right _ (List.mem_of_getElem? (i := 1714) (by decide +kernel))) (by decide +kernel)
theorem w_ml_RX12_418 : Cond.methodLink RX12 418 yX12_laysSuit ∈ zgd := zgd_in (List.mem_append_right _ (List.mem_of_getElem? (i := 1710) (by decide +kernel))) (by decide +kernel)
theorem w_ml_RX12_421 : Cond.methodLink RX12 421 yX12_laysWords ∈ zgd := zgd_in (List.mem_append_right _ (List.mem_of_getElem? (i := 1718) (by decide +kernel))) (by decide +kernel)
theorem w_ml_RX12_424 : Cond.methodLink RX12 424 yX12_knowsTable ∈ zgd := zgd_in (List.mem_append_right _ (List.mem_of_getElem? (i := 1734) (by decide +kernel))) (by decide +kernel)
theorem w_ml_RX12_430 : Cond.methodLink RX12 430 yX12_isRule ∈ zgd := zgd_in (List.mem_append_right _ (List.mem_of_getElem? (i := 1702) (by decide +kernel))) (by decide +kernel)
theorem w_ml_RX12_433 : Cond.methodLink RX12 433 yX12_laysNow ∈ zgd := zgd_in (List.mem_append_right _ (List.mem_of_getElem? (i := 1706) (by decide +kernel))) (by decide +kernel)
theorem w_ml_RX12_436 : Cond.methodLink RX12 436 yX12_laysAll ∈ zgd := zgd_in (List.mem_append_right _ (List.mem_of_getElem? (i := 1787) (by decide +kernel))) (by decide +kernel)
theorem w_ml_RX12_439 : Cond.methodLink RX12 439 yX12_firstWith ∈ zgd := zgd_in (List.mem_append_right _ (List.mem_of_getElem? (i := 1791) (by decide +kernel))) (by decide +kernel)
theorem w_ml_RX12_442 : Cond.methodLink RX12 442 yX12_clashNow ∈ zgd := zgd_in (List.mem_append_right _ (List.mem_of_getElem? (i := 1803) (by decide +kernel))) (by decide +kernel)
theorem w_ml_RX12_445 : Cond.methodLink RX12 445 yX12_isWorking ∈ zgd := zgd_in (List.mem_append_right _ (List.mem_of_getElem? (i := 1799) (by decide +kernel))) (by decide +kernel)
theorem w_ml_RX12_448 : Cond.methodLink RX12 448 yX12_becomes ∈ zgd := zgd_in (List.mem_append_right _ (List.mem_of_getElem? (i := 1831) (by decide +kernel))) (by decide +kernel)
theorem w_ml_RX12_451 : Cond.methodLink RX12 451 yX12_isOwned ∈ zgd := zgd_in (List.mem_append_right _ (List.mem_of_getElem? (i := 1835) (by decide +kernel))) (by decide +kernel)
theorem w_ml_RX12_455 : Cond.methodLink RX12 455 yX12_slot ∈ zgd := zgd_in (List.mem_append_right _ (List.mem_of_getElem? (i := 1762) (by decide +kernel))) (by decide +kernel)
theorem w_ml_RX12_458 : Cond.methodLink RX12 458 yX12_clearOwners ∈ zgd := zgd_in (List.mem_append_right _ (List.mem_of_getElem? (i := 1742) (by decide +kernel))) (by decide +kernel)
theorem w_ml_RX12_461 : Cond.methodLink RX12 461 yX12_owns ∈ zgd := zgd_in (List.mem_append_right _ (List.mem_of_getElem? (i := 1771) (by decide +kernel))) (by decide +kernel)
theorem w_ml_RX12_464 : Cond.methodLink RX12 464 yX12_ownsLaid ∈ zgd := zgd_in (List.mem_append_right _ (List.mem_of_getElem? (i := 1823) (by decide +kernel))) (by decide +kernel)
theorem w_ml_RX12_467 : Cond.methodLink RX12 467 yX12_isSeen ∈ zgd := zgd_in (List.mem_append_right _ (List.mem_of_getElem? (i := 1827) (by decide +kernel))) (by decide +kernel)
theorem w_ml_RX12_470 : Cond.methodLink RX12 470 yX12_ownerOf ∈ zgd := zgd_in (List.mem_append_right _ (List.mem_of_getElem? (i := 1758) (by decide +kernel))) (by decide +kernel)
theorem w_ml_RX12_473 : Cond.methodLink RX12 473 yX12_isBorne ∈ zgd := zgd_in (List.mem_append_right _ (List.mem_of_getElem? (i := 1843) (by decide +kernel))) (by decide +kernel)
theorem w_ml_RX12_476 : Cond.methodLink RX12 476 yX12_laysAllWords ∈ zgd := zgd_in (List.mem_append_right _ (List.mem_of_getElem? (i := 1851) (by decide +kernel))) (by decide +kernel)
theorem w_ml_RX12_479 : Cond.methodLink RX12 479 yX12_fitsOf ∈ zgd := zgd_in (List.mem_append_right _ (List.mem_of_getElem? (i := 1750) (by decide +kernel))) (by decide +kernel)
theorem w_ml_RX12_482 : Cond.methodLink RX12 482 yX12_takes ∈ zgd := zgd_in (List.mem_append_right _ (List.mem_of_getElem? (i := 1767) (by decide +kernel))) (by decide +kernel)
theorem w_ml_RX12_485 : Cond.methodLink RX12 485 yX12_goesOnFrom ∈ zgd := zgd_in (List.mem_append_right _ (List.mem_of_getElem? (i := 1746) (by decide +kernel))) (by decide +kernel)
theorem w_ml_RX12_488 : Cond.methodLink RX12 488 yX12_pairsNow ∈ zgd := zgd_in (List.mem_append_right _ (List.mem_of_getElem? (i := 1738) (by decide +kernel))) (by decide +kernel)
theorem w_ml_RX12_491 : Cond.methodLink RX12 491 yX12_settles ∈ zgd := zgd_in (List.mem_append_right _ (List.mem_of_getElem? (i := 1775) (by decide +kernel))) (by decide +kernel)
theorem w_ml_RX12_494 : Cond.methodLink RX12 494 yX12_countOf ∈ zgd := zgd_in (List.mem_append_right _ (List.mem_of_getElem? (i := 1871) (by decide +kernel))) (by decide +kernel)
theorem w_ml_RX12_498 : Cond.methodLink RX12 498 yX12_isEvening ∈ zgd := zgd_in (List.mem_append_right _ (List.mem_of_getElem? (i := 1883) (by decide +kernel))) (by decide +kernel)
theorem w_ml_RX12_501 : Cond.methodLink RX12 501 yX12_agreesWith ∈ zgd := zgd_in (List.mem_append_right _ (List.mem_of_getElem? (i := 1895) (by decide +kernel))) (by decide +kernel)
theorem w_ml_RX12_504 : Cond.methodLink RX12 504 yX12_firstWrong ∈ zgd := zgd_in (List.mem_append_right _ (List.mem_of_getElem? (i := 1903) (by decide +kernel))) (by decide +kernel)
theorem w_ml_RX12_507 : Cond.methodLink RX12 507 yX12_areRules ∈ zgd := zgd_in (List.mem_append_right _ (List.mem_of_getElem? (i := 1915) (by decide +kernel))) (by decide +kernel)
theorem w_ml_RX12_510 : Cond.methodLink RX12 510 yX12_apartNow ∈ zgd := zgd_in (List.mem_append_right _ (List.mem_of_getElem? (i := 1919) (by decide +kernel))) (by decide +kernel)
theorem w_ml_RX12_513 : Cond.methodLink RX12 513 yX12_divisor ∈ zgd := zgd_in (List.mem_append_right _ (List.mem_of_getElem? (i := 1927) (by decide +kernel))) (by decide +kernel)
theorem w_ml_RX12_516 : Cond.methodLink RX12 516 yX12_denied ∈ zgd := zgd_in (List.mem_append_right _ (List.mem_of_getElem? (i := 1942) (by decide +kernel))) (by decide +kernel)
theorem w_ml_RX12_520 : Cond.methodLink RX12 520 yX12_granted ∈ zgd := zgd_in (List.mem_append_right _ (List.mem_of_getElem? (i := 1947) (by decide +kernel))) (by decide +kernel)
theorem w_ml_RX12_92 : Cond.methodLink RX12 92 yX12_refused ∈ zgd := zgd_in (List.mem_append_right _ (List.mem_of_getElem? (i := 1391) (by decide +kernel))) (by decide +kernel)
theorem w_ml_RX12_96 : Cond.methodLink RX12 96 yX12_good ∈ zgd := zgd_in (List.mem_append_right _ (List.mem_of_getElem? (i := 1629) (by decide +kernel))) (by decide +kernel)
theorem w_ml_RX12_99 : Cond.methodLink RX12 99 yX12_rowsOf ∈ zgd := zgd_in (List.mem_append_right _ (List.mem_of_getElem? (i := 1529) (by decide +kernel))) (by decide +kernel)
theorem w_ml_RX3_100 : Cond.methodLink RX3 100 yX0_falling ∈ zgd := zgd_in (List.mem_append_right _ (List.mem_of_getElem? (i := 889) (by decide +kernel))) (by decide +kernel)
theorem w_ml_RX3_104 : Cond.methodLink RX3 104 yX3_rowOfTwo ∈ zgd := zgd_in (List.mem_append_right _ (List.mem_of_getElem? (i := 885) (by decide +kernel))) (by decide +kernel)
theorem w_ml_RX3_18 : Cond.methodLink RX3 18 yX3_sortHand ∈ zgd := zgd_in (List.mem_append_right _ (List.mem_of_getElem? (i := 879) (by decide +kernel))) (by decide +kernel)
theorem w_ml_RX3_22 : Cond.methodLink RX3 22 yX3_keepPlace ∈ zgd := zgd_in (List.mem_append_right _ (List.mem_of_getElem? (i := 899) (by decide +kernel))) (by decide +kernel)
theorem w_ml_RX3_44 : Cond.methodLink RX3 44 yX3_showOthers ∈ zgd := zgd_in (List.mem_append_right _ (List.mem_of_getElem? (i := 907) (by decide +kernel))) (by decide +kernel)
theorem w_ml_RX3_48 : Cond.methodLink RX3 48 yX3_tellOf ∈ zgd := zgd_in (List.mem_append_right _ (List.mem_of_getElem? (i := 911) (by decide +kernel))) (by decide +kernel)
theorem w_ml_RX3_52 : Cond.methodLink RX3 52 yX3_rowTelling ∈ zgd := zgd_in (List.mem_append_right _ (List.mem_of_getElem? (i := 921) (by decide +kernel))) (by decide +kernel)
theorem w_ml_RX3_58 : Cond.methodLink RX3 58 yX0_cardAt ∈ zgd := zgd_in (List.mem_append_right _ (List.mem_of_getElem? (i := 883) (by decide +kernel))) (by decide +kernel)
theorem w_ml_RX3_65 : Cond.methodLink RX3 65 yX0_sort ∈ zgd := zgd_in (List.mem_append_right _ (List.mem_of_getElem? (i := 884) (by decide +kernel))) (by decide +kernel)
theorem w_ml_RX3_72 : Cond.methodLink RX3 72 yX3_gapBelow ∈ zgd := zgd_in (List.mem_append_right _ (List.mem_of_getElem? (i := 915) (by decide +kernel))) (by decide +kernel)
theorem w_ml_RX3_76 : Cond.methodLink RX3 76 yX0_lower ∈ zgd := zgd_in (List.mem_append_right _ (List.mem_of_getElem? (i := 918) (by decide +kernel))) (by decide +kernel)
theorem w_ml_RX3_79 : Cond.methodLink RX3 79 yX0_anyOrder ∈ zgd := zgd_in (List.mem_append_right _ (List.mem_of_getElem? (i := 878) (by decide +kernel))) (by decide +kernel)
theorem w_ml_RX3_89 : Cond.methodLink RX3 89 yX3_arrange ∈ zgd := zgd_in (List.mem_append_right _ (List.mem_of_getElem? (i := 890) (by decide +kernel))) (by decide +kernel)
theorem w_ml_RX3_93 : Cond.methodLink RX3 93 yX0_rowNumber ∈ zgd := zgd_in (List.mem_append_right _ (List.mem_of_getElem? (i := 894) (by decide +kernel))) (by decide +kernel)
theorem w_ml_RX4_114 : Cond.methodLink RX4 114 yX8_clear ∈ zgd := zgd_in (List.mem_append_right _ (List.mem_of_getElem? (i := 862) (by decide +kernel))) (by decide +kernel)
theorem w_ml_RX4_126 : Cond.methodLink RX4 126 yX4_tableRow ∈ zgd := zgd_in (List.mem_append_right _ (List.mem_of_getElem? (i := 870) (by decide +kernel))) (by decide +kernel)
theorem w_ml_RX4_130 : Cond.methodLink RX4 130 yX3_bySuit ∈ zgd := zgd_in (List.mem_append_right _ (List.mem_of_getElem? (i := 874) (by decide +kernel))) (by decide +kernel)
theorem w_ml_RX4_134 : Cond.methodLink RX4 134 yX3_byWords ∈ zgd := zgd_in (List.mem_append_right _ (List.mem_of_getElem? (i := 895) (by decide +kernel))) (by decide +kernel)
theorem w_ml_RX4_144 : Cond.methodLink RX4 144 yX8_put ∈ zgd := zgd_in (List.mem_append_right _ (List.mem_of_getElem? (i := 929) (by decide +kernel))) (by decide +kernel)
theorem w_ml_RX4_165 : Cond.methodLink RX4 165 yX4_noSwap ∈ zgd := zgd_in (List.mem_append_right _ (List.mem_of_getElem? (i := 979) (by decide +kernel))) (by decide +kernel)
theorem w_ml_RX4_175 : Cond.methodLink RX4 175 yX8_holderOf ∈ zgd := zgd_in (List.mem_append_right _ (List.mem_of_getElem? (i := 983) (by decide +kernel))) (by decide +kernel)
theorem w_ml_RX4_178 : Cond.methodLink RX4 178 yX0_unpackRow ∈ zgd := zgd_in (List.mem_append_right _ (List.mem_of_getElem? (i := 987) (by decide +kernel))) (by decide +kernel)
theorem w_ml_RX4_188 : Cond.methodLink RX4 188 yX4_swapped ∈ zgd := zgd_in (List.mem_append_right _ (List.mem_of_getElem? (i := 988) (by decide +kernel))) (by decide +kernel)
theorem w_ml_RX4_191 : Cond.methodLink RX4 191 yX4_swapCards ∈ zgd := zgd_in (List.mem_append_right _ (List.mem_of_getElem? (i := 992) (by decide +kernel))) (by decide +kernel)
theorem w_ml_RX4_194 : Cond.methodLink RX4 194 yX0_rowNumber ∈ zgd := zgd_in (List.mem_append_right _ (List.mem_of_getElem? (i := 996) (by decide +kernel))) (by decide +kernel)
theorem w_ml_RX4_198 : Cond.methodLink RX4 198 yX4_tryWords ∈ zgd := zgd_in (List.mem_append_right _ (List.mem_of_getElem? (i := 1009) (by decide +kernel))) (by decide +kernel)
theorem w_ml_RX4_205 : Cond.methodLink RX4 205 yX0_handsOf ∈ zgd := zgd_in (List.mem_append_right _ (List.mem_of_getElem? (i := 1047) (by decide +kernel))) (by decide +kernel)
theorem w_ml_RX4_209 : Cond.methodLink RX4 209 yX0_rowsOf ∈ zgd := zgd_in (List.mem_append_right _ (List.mem_of_getElem? (i := 1048) (by decide +kernel))) (by decide +kernel)
theorem w_ml_RX4_85 : Cond.methodLink RX4 85 yX5_list ∈ zgd := zgd_in (List.mem_append_right _ (List.mem_of_getElem? (i := 699) (by decide +kernel))) (by decide +kernel)
theorem w_ml_RX4_92 : Cond.methodLink RX4 92 yX2_clear ∈ zgd := zgd_in (List.mem_append_right _ (List.mem_of_getElem? (i := 712) (by decide +kernel))) (by decide +kernel)
theorem w_ml_RX4_95 : Cond.methodLink RX4 95 yJ7_fill_53178 ∈ zgd := zgd_in (List.mem_append_right _ (List.mem_of_getElem? (i := 716) (by decide +kernel))) (by decide +kernel)
theorem w_ml_RX5_16 : Cond.methodLink RX5 16 yX5_following ∈ zgd := zgd_in (List.mem_append_right _ (List.mem_of_getElem? (i := 704) (by decide +kernel))) (by decide +kernel)
theorem w_ml_RX5_20 : Cond.methodLink RX5 20 yX5_pack ∈ zgd := zgd_in (List.mem_append_right _ (List.mem_of_getElem? (i := 708) (by decide +kernel))) (by decide +kernel)
theorem w_ml_RX6_123 : Cond.methodLink RX6 123 yX6_rowAt ∈ zgd := zgd_in (List.mem_append_right _ (List.mem_of_getElem? (i := 844) (by decide +kernel))) (by decide +kernel)
theorem w_ml_RX6_127 : Cond.methodLink RX6 127 yX0_cardAt ∈ zgd := zgd_in (List.mem_append_right _ (List.mem_of_getElem? (i := 848) (by decide +kernel))) (by decide +kernel)
theorem w_ml_RX6_130 : Cond.methodLink RX6 130 yX0_rowNumber ∈ zgd := zgd_in (List.mem_append_right _ (List.mem_of_getElem? (i := 849) (by decide +kernel))) (by decide +kernel)
theorem w_ml_RX6_134 : Cond.methodLink RX6 134 yX6_hurry ∈ zgd := zgd_in (List.mem_append_right _ (List.mem_of_getElem? (i := 854) (by decide +kernel))) (by decide +kernel)
theorem w_ml_RX6_71 : Cond.methodLink RX6 71 yX6_rehome ∈ zgd := zgd_in (List.mem_append_right _ (List.mem_of_getElem? (i := 850) (by decide +kernel))) (by decide +kernel)
theorem w_ml_RX7_102 : Cond.methodLink RX7 102 yX7_readRule ∈ zgd := zgd_in (List.mem_append_right _ (List.mem_of_getElem? (i := 618) (by decide +kernel))) (by decide +kernel)
theorem w_ml_RX7_107 : Cond.methodLink RX7 107 yX7_readEvening ∈ zgd := zgd_in (List.mem_append_right _ (List.mem_of_getElem? (i := 657) (by decide +kernel))) (by decide +kernel)
theorem w_ml_RX7_120 : Cond.methodLink RX7 120 yX7_passWhole ∈ zgd := zgd_in (List.mem_append_right _ (List.mem_of_getElem? (i := 574) (by decide +kernel))) (by decide +kernel)
theorem w_ml_RX7_128 : Cond.methodLink RX7 128 yX7_readSuits ∈ zgd := zgd_in (List.mem_append_right _ (List.mem_of_getElem? (i := 582) (by decide +kernel))) (by decide +kernel)
theorem w_ml_RX7_142 : Cond.methodLink RX7 142 yX7_readWay ∈ zgd := zgd_in (List.mem_append_right _ (List.mem_of_getElem? (i := 593) (by decide +kernel))) (by decide +kernel)
theorem w_ml_RX7_145 : Cond.methodLink RX7 145 yX0_settle ∈ zgd := zgd_in (List.mem_append_right _ (List.mem_of_getElem? (i := 612) (by decide +kernel))) (by decide +kernel)
theorem w_ml_RX7_150 : Cond.methodLink RX7 150 yX7_pass ∈ zgd := zgd_in (List.mem_append_right _ (List.mem_of_getElem? (i := 587) (by decide +kernel))) (by decide +kernel)
theorem w_ml_RX7_161 : Cond.methodLink RX7 161 yX0_handsOf ∈ zgd := zgd_in (List.mem_append_right _ (List.mem_of_getElem? (i := 599) (by decide +kernel))) (by decide +kernel)
theorem w_ml_RX7_178 : Cond.methodLink RX7 178 yX7_readName ∈ zgd := zgd_in (List.mem_append_right _ (List.mem_of_getElem? (i := 622) (by decide +kernel))) (by decide +kernel)
theorem w_ml_RX7_181 : Cond.methodLink RX7 181 yX7_readKind ∈ zgd := zgd_in (List.mem_append_right _ (List.mem_of_getElem? (i := 633) (by decide +kernel))) (by decide +kernel)
theorem w_ml_RX7_191 : Cond.methodLink RX7 191 yX7_isNameOf ∈ zgd := zgd_in (List.mem_append_right _ (List.mem_of_getElem? (i := 629) (by decide +kernel))) (by decide +kernel)
theorem w_ml_RX7_200 : Cond.methodLink RX7 200 yX7_keepWord ∈ zgd := zgd_in (List.mem_append_right _ (List.mem_of_getElem? (i := 640) (by decide +kernel))) (by decide +kernel)
theorem w_ml_RX7_205 : Cond.methodLink RX7 205 yX7_tellWord ∈ zgd := zgd_in (List.mem_append_right _ (List.mem_of_getElem? (i := 649) (by decide +kernel))) (by decide +kernel)
theorem w_ml_RX7_232 : Cond.methodLink RX7 232 yX7_readCards ∈ zgd := zgd_in (List.mem_append_right _ (List.mem_of_getElem? (i := 661) (by decide +kernel))) (by decide +kernel)
theorem w_ml_RX7_235 : Cond.methodLink RX7 235 yX0_handNumber ∈ zgd := zgd_in (List.mem_append_right _ (List.mem_of_getElem? (i := 669) (by decide +kernel))) (by decide +kernel)
theorem w_ml_RX7_242 : Cond.methodLink RX7 242 yX0_rowNumber ∈ zgd := zgd_in (List.mem_append_right _ (List.mem_of_getElem? (i := 686) (by decide +kernel))) (by decide +kernel)
theorem w_ml_RX7_249 : Cond.methodLink RX7 249 yX7_readTilts ∈ zgd := zgd_in (List.mem_append_right _ (List.mem_of_getElem? (i := 687) (by decide +kernel))) (by decide +kernel)
theorem w_ml_RX7_253 : Cond.methodLink RX7 253 yX1_add ∈ zgd := zgd_in (List.mem_append_right _ (List.mem_of_getElem? (i := 691) (by decide +kernel))) (by decide +kernel)
theorem w_ml_RX7_257 : Cond.methodLink RX7 257 yX7_isUntold ∈ zgd := zgd_in (List.mem_append_right _ (List.mem_of_getElem? (i := 665) (by decide +kernel))) (by decide +kernel)
theorem w_ml_RX7_42 : Cond.methodLink RX7 42 yX9_clear ∈ zgd := zgd_in (List.mem_append_right _ (List.mem_of_getElem? (i := 488) (by decide +kernel))) (by decide +kernel)
theorem w_ml_RX7_54 : Cond.methodLink RX7 54 yX7_step ∈ zgd := zgd_in (List.mem_append_right _ (List.mem_of_getElem? (i := 500) (by decide +kernel))) (by decide +kernel)
theorem w_ml_RX7_57 : Cond.methodLink RX7 57 yX7_readLine ∈ zgd := zgd_in (List.mem_append_right _ (List.mem_of_getElem? (i := 508) (by decide +kernel))) (by decide +kernel)
theorem w_ml_RX7_64 : Cond.methodLink RX7 64 yX7_fail ∈ zgd := zgd_in (List.mem_append_right _ (List.mem_of_getElem? (i := 569) (by decide +kernel))) (by decide +kernel)
theorem w_ml_RX7_71 : Cond.methodLink RX7 71 yX7_runLength ∈ zgd := zgd_in (List.mem_append_right _ (List.mem_of_getElem? (i := 504) (by decide +kernel))) (by decide +kernel)
theorem w_ml_RX7_77 : Cond.methodLink RX7 77 yJ0_length_8abf5 ∈ zgd := zgd_in (List.mem_append_right _ (List.mem_of_getElem? (i := 517) (by decide +kernel))) (by decide +kernel)
theorem w_ml_RX7_83 : Cond.methodLink RX7 83 yJ0_charAt_5068e ∈ zgd := zgd_in (List.mem_append_right _ (List.mem_of_getElem? (i := 527) (by decide +kernel))) (by decide +kernel)
theorem w_ml_RX7_87 : Cond.methodLink RX7 87 yX7_is ∈ zgd := zgd_in (List.mem_append_right _ (List.mem_of_getElem? (i := 513) (by decide +kernel))) (by decide +kernel)
theorem w_ml_RX7_91 : Cond.methodLink RX7 91 yX7_isWhole ∈ zgd := zgd_in (List.mem_append_right _ (List.mem_of_getElem? (i := 578) (by decide +kernel))) (by decide +kernel)
theorem w_ml_RX7_97 : Cond.methodLink RX7 97 yX7_readTrick ∈ zgd := zgd_in (List.mem_append_right _ (List.mem_of_getElem? (i := 565) (by decide +kernel))) (by decide +kernel)
theorem w_ml_RX8_26 : Cond.methodLink RX8 26 yX8_slotOf ∈ zgd := zgd_in (List.mem_append_right _ (List.mem_of_getElem? (i := 933) (by decide +kernel))) (by decide +kernel)
theorem w_ml_RX9_33 : Cond.methodLink RX9 33 yX0_clear ∈ zgd := zgd_in (List.mem_append_right _ (List.mem_of_getElem? (i := 492) (by decide +kernel))) (by decide +kernel)
theorem w_ml_RX9_40 : Cond.methodLink RX9 40 yX1_clear ∈ zgd := zgd_in (List.mem_append_right _ (List.mem_of_getElem? (i := 496) (by decide +kernel))) (by decide +kernel)
theorem w_mn_RX11_36 : Cond.methodLinkNest RX11 36 yX12_rowsOf "FifthCardModel" ∈ znn := znn_in (List.mem_append_right _ (List.mem_of_getElem? (i := 1523) (by decide +kernel))) (by decide +kernel)
theorem w_mn_RX11_40 : Cond.methodLinkNest RX11 40 yX12_setsOf "FifthCardModel" ∈ znn := znn_in (List.mem_append_right _ (List.mem_of_getElem? (i := 1526) (by decide +kernel))) (by decide +kernel)
theorem w_sel_J0_charAt_5068e : Cond.selects RJ0 yJ0_charAt_5068e yJ0_charAt_5068e ∈ zgd := zgd_in (List.mem_append_right _ (List.mem_of_getElem? (i := 529) (by decide +kernel))) (by decide +kernel)
theorem w_sel_J0_coder_7d493 : Cond.selects RJ0 yJ0_coder_7d493 yJ0_coder_7d493 ∈ zgd := zgd_in (List.mem_append_right _ (List.mem_of_getElem? (i := 523) (by decide +kernel))) (by decide +kernel)
theorem w_sel_J0_isLatin1_aae02 : Cond.selects RJ0 yJ0_isLatin1_aae02 yJ0_isLatin1_aae02 ∈ zgd := zgd_in (List.mem_append_right _ (List.mem_of_getElem? (i := 533) (by decide +kernel))) (by decide +kernel)
theorem w_sel_J0_length_8abf5 : Cond.selects RJ0 yJ0_length_8abf5 yJ0_length_8abf5 ∈ zgd := zgd_in (List.mem_append_right _ (List.mem_of_getElem? (i := 519) (by decide +kernel))) (by decide +kernel)
theorem w_sel_X0_anyOrder : Cond.selects RX0 yX0_anyOrder yX0_anyOrder ∈ zgd := zgd_in (List.mem_append_right _ (List.mem_of_getElem? (i := 810) (by decide +kernel))) (by decide +kernel)
theorem w_sel_X0_clear : Cond.selects RX0 yX0_clear yX0_clear ∈ zgd := zgd_in (List.mem_append_right _ (List.mem_of_getElem? (i := 494) (by decide +kernel))) (by decide +kernel)
theorem w_sel_X0_handNumber : Cond.selects RX0 yX0_handNumber yX0_handNumber ∈ zgd := zgd_in (List.mem_append_right _ (List.mem_of_getElem? (i := 671) (by decide +kernel))) (by decide +kernel)
theorem w_sel_X0_handsOf : Cond.selects RX0 yX0_handsOf yX0_handsOf ∈ zgd := zgd_in (List.mem_append_right _ (List.mem_of_getElem? (i := 601) (by decide +kernel))) (by decide +kernel)
theorem w_sel_X0_isHand : Cond.selects RX0 yX0_isHand yX0_isHand ∈ zgd := zgd_in (List.mem_append_right _ (List.mem_of_getElem? (i := 756) (by decide +kernel))) (by decide +kernel)
theorem w_sel_X0_isShownOf : Cond.selects RX0 yX0_isShownOf yX0_isShownOf ∈ zgd := zgd_in (List.mem_append_right _ (List.mem_of_getElem? (i := 789) (by decide +kernel))) (by decide +kernel)
theorem w_sel_X0_placeIn : Cond.selects RX0 yX0_placeIn yX0_placeIn ∈ zgd := zgd_in (List.mem_append_left _ (List.mem_of_getElem? (i := 30) (by decide +kernel))) (by decide +kernel)
theorem w_sel_X0_rowNumber : Cond.selects RX0 yX0_rowNumber yX0_rowNumber ∈ zgd := zgd_in (List.mem_append_right _ (List.mem_of_getElem? (i := 675) (by decide +kernel))) (by decide +kernel)
theorem w_sel_X0_rowsOf : Cond.selects RX0 yX0_rowsOf yX0_rowsOf ∈ zgd := zgd_in (List.mem_append_right _ (List.mem_of_getElem? (i := 830) (by decide +kernel))) (by decide +kernel)
theorem w_sel_X0_settle : Cond.selects RX0 yX0_settle yX0_settle ∈ zgd := zgd_in (List.mem_append_right _ (List.mem_of_getElem? (i := 614) (by decide +kernel))) (by decide +kernel)
theorem w_sel_X0_unpackRow : Cond.selects RX0 yX0_unpackRow yX0_unpackRow ∈ zgd := zgd_in (List.mem_append_right _ (List.mem_of_getElem? (i := 769) (by decide +kernel))) (by decide +kernel)
theorem w_sel_X0_unusedCard : Cond.selects RX0 yX0_unusedCard yX0_unusedCard ∈ zgd := zgd_in (List.mem_append_left _ (List.mem_of_getElem? (i := 28) (by decide +kernel))) (by decide +kernel)
theorem w_sel_X0_waysToShow : Cond.selects RX0 yX0_waysToShow yX0_waysToShow ∈ zgd := zgd_in (List.mem_append_right _ (List.mem_of_getElem? (i := 806) (by decide +kernel))) (by decide +kernel)
theorem w_sel_X10_answer : Cond.selects RX10 yX10_answer yX10_answer ∈ zgd := zgd_in (List.mem_append_left _ (List.mem_of_getElem? (i := 25) (by decide +kernel))) (by decide +kernel)
theorem w_sel_X10_answerWhether : Cond.selects RX10 yX10_answerWhether yX10_answerWhether ∈ zgd := zgd_in (List.mem_append_left _ (List.mem_of_getElem? (i := 31) (by decide +kernel))) (by decide +kernel)
theorem w_sel_X10_deny : Cond.selects RX10 yX10_deny yX10_deny ∈ zgd := zgd_in (List.mem_append_left _ (List.mem_of_getElem? (i := 56) (by decide +kernel))) (by decide +kernel)
theorem w_sel_X10_fitsHand : Cond.selects RX10 yX10_fitsHand yX10_fitsHand ∈ zgd := zgd_in (List.mem_append_left _ (List.mem_of_getElem? (i := 29) (by decide +kernel))) (by decide +kernel)
theorem w_sel_X10_grant : Cond.selects RX10 yX10_grant yX10_grant ∈ zgd := zgd_in (List.mem_append_left _ (List.mem_of_getElem? (i := 57) (by decide +kernel))) (by decide +kernel)
theorem w_sel_X10_isAgreed : Cond.selects RX10 yX10_isAgreed yX10_isAgreed ∈ zgd := zgd_in (List.mem_append_left _ (List.mem_of_getElem? (i := 54) (by decide +kernel))) (by decide +kernel)
theorem w_sel_X10_noEvening : Cond.selects RX10 yX10_noEvening yX10_noEvening ∈ zgd := zgd_in (List.mem_append_left _ (List.mem_of_getElem? (i := 53) (by decide +kernel))) (by decide +kernel)
theorem w_sel_X10_noHand : Cond.selects RX10 yX10_noHand yX10_noHand ∈ zgd := zgd_in (List.mem_append_left _ (List.mem_of_getElem? (i := 26) (by decide +kernel))) (by decide +kernel)
theorem w_sel_X10_noRow : Cond.selects RX10 yX10_noRow yX10_noRow ∈ zgd := zgd_in (List.mem_append_left _ (List.mem_of_getElem? (i := 27) (by decide +kernel))) (by decide +kernel)
theorem w_sel_X10_noRule : Cond.selects RX10 yX10_noRule yX10_noRule ∈ zgd := zgd_in (List.mem_append_left _ (List.mem_of_getElem? (i := 32) (by decide +kernel))) (by decide +kernel)
theorem w_sel_X10_putBytes : Cond.selects RX10 yX10_putBytes yX10_putBytes ∈ zgd := zgd_in (List.mem_append_left _ (List.mem_of_getElem? (i := 0) (by decide +kernel))) (by decide +kernel)
theorem w_sel_X10_refuse : Cond.selects RX10 yX10_refuse yX10_refuse ∈ zgd := zgd_in (List.mem_append_left _ (List.mem_of_getElem? (i := 1) (by decide +kernel))) (by decide +kernel)
theorem w_sel_X11_handsOf : Cond.selects RX11 yX11_handsOf yX11_handsOf ∈ zgd := zgd_in (List.mem_append_right _ (List.mem_of_getElem? (i := 1521) (by decide +kernel))) (by decide +kernel)
theorem w_sel_X11_tilts : Cond.selects RX11 yX11_tilts yX11_tilts ∈ zgd := zgd_in (List.mem_append_right _ (List.mem_of_getElem? (i := 1627) (by decide +kernel))) (by decide +kernel)
theorem w_sel_X12_agreesWith : Cond.selects RX12 yX12_agreesWith yX12_agreesWith ∈ zgd := zgd_in (List.mem_append_left _ (List.mem_of_getElem? (i := 127) (by decide +kernel))) (by decide +kernel)
theorem w_sel_X12_apartNow : Cond.selects RX12 yX12_apartNow yX12_apartNow ∈ zgd := zgd_in (List.mem_append_left _ (List.mem_of_getElem? (i := 130) (by decide +kernel))) (by decide +kernel)
theorem w_sel_X12_areRules : Cond.selects RX12 yX12_areRules yX12_areRules ∈ zgd := zgd_in (List.mem_append_left _ (List.mem_of_getElem? (i := 129) (by decide +kernel))) (by decide +kernel)
theorem w_sel_X12_becomes : Cond.selects RX12 yX12_becomes yX12_becomes ∈ zgd := zgd_in (List.mem_append_left _ (List.mem_of_getElem? (i := 121) (by decide +kernel))) (by decide +kernel)
theorem w_sel_X12_begins : Cond.selects RX12 yX12_begins yX12_begins ∈ zgd := zgd_in (List.mem_append_left _ (List.mem_of_getElem? (i := 72) (by decide +kernel))) (by decide +kernel)
theorem w_sel_X12_bounded : Cond.selects RX12 yX12_bounded yX12_bounded ∈ zgd := zgd_in (List.mem_append_left _ (List.mem_of_getElem? (i := 69) (by decide +kernel))) (by decide +kernel)
theorem w_sel_X12_byteAt : Cond.selects RX12 yX12_byteAt yX12_byteAt ∈ zgd := zgd_in (List.mem_append_left _ (List.mem_of_getElem? (i := 61) (by decide +kernel))) (by decide +kernel)
theorem w_sel_X12_cardOf : Cond.selects RX12 yX12_cardOf yX12_cardOf ∈ zgd := zgd_in (List.mem_append_left _ (List.mem_of_getElem? (i := 86) (by decide +kernel))) (by decide +kernel)
theorem w_sel_X12_clashNow : Cond.selects RX12 yX12_clashNow yX12_clashNow ∈ zgd := zgd_in (List.mem_append_left _ (List.mem_of_getElem? (i := 118) (by decide +kernel))) (by decide +kernel)
theorem w_sel_X12_clearOwners : Cond.selects RX12 yX12_clearOwners yX12_clearOwners ∈ zgd := zgd_in (List.mem_append_left _ (List.mem_of_getElem? (i := 106) (by decide +kernel))) (by decide +kernel)
theorem w_sel_X12_countOf : Cond.selects RX12 yX12_countOf yX12_countOf ∈ zgd := zgd_in (List.mem_append_left _ (List.mem_of_getElem? (i := 125) (by decide +kernel))) (by decide +kernel)
theorem w_sel_X12_denied : Cond.selects RX12 yX12_denied yX12_denied ∈ zgd := zgd_in (List.mem_append_left _ (List.mem_of_getElem? (i := 131) (by decide +kernel))) (by decide +kernel)
theorem w_sel_X12_eatsSign : Cond.selects RX12 yX12_eatsSign yX12_eatsSign ∈ zgd := zgd_in (List.mem_append_left _ (List.mem_of_getElem? (i := 79) (by decide +kernel))) (by decide +kernel)
theorem w_sel_X12_eatsWord : Cond.selects RX12 yX12_eatsWord yX12_eatsWord ∈ zgd := zgd_in (List.mem_append_left _ (List.mem_of_getElem? (i := 70) (by decide +kernel))) (by decide +kernel)
theorem w_sel_X12_firstWith : Cond.selects RX12 yX12_firstWith yX12_firstWith ∈ zgd := zgd_in (List.mem_append_left _ (List.mem_of_getElem? (i := 116) (by decide +kernel))) (by decide +kernel)
theorem w_sel_X12_firstWrong : Cond.selects RX12 yX12_firstWrong yX12_firstWrong ∈ zgd := zgd_in (List.mem_append_left _ (List.mem_of_getElem? (i := 128) (by decide +kernel))) (by decide +kernel)
theorem w_sel_X12_fitsOf : Cond.selects RX12 yX12_fitsOf yX12_fitsOf ∈ zgd := zgd_in (List.mem_append_left _ (List.mem_of_getElem? (i := 108) (by decide +kernel))) (by decide +kernel)
theorem w_sel_X12_fittingMany : Cond.selects RX12 yX12_fittingMany yX12_fittingMany ∈ zgd := zgd_in (List.mem_append_left _ (List.mem_of_getElem? (i := 95) (by decide +kernel))) (by decide +kernel)
theorem w_sel_X12_flaw : Cond.selects RX12 yX12_flaw yX12_flaw ∈ zgd := zgd_in (List.mem_append_left _ (List.mem_of_getElem? (i := 66) (by decide +kernel))) (by decide +kernel)
theorem w_sel_X12_goesOn : Cond.selects RX12 yX12_goesOn yX12_goesOn ∈ zgd := zgd_in (List.mem_append_left _ (List.mem_of_getElem? (i := 60) (by decide +kernel))) (by decide +kernel)
theorem w_sel_X12_goesOnFrom : Cond.selects RX12 yX12_goesOnFrom yX12_goesOnFrom ∈ zgd := zgd_in (List.mem_append_left _ (List.mem_of_getElem? (i := 107) (by decide +kernel))) (by decide +kernel)
theorem w_sel_X12_good : Cond.selects RX12 yX12_good yX12_good ∈ zgd := zgd_in (List.mem_append_left _ (List.mem_of_getElem? (i := 89) (by decide +kernel))) (by decide +kernel)
theorem w_sel_X12_granted : Cond.selects RX12 yX12_granted yX12_granted ∈ zgd := zgd_in (List.mem_append_left _ (List.mem_of_getElem? (i := 132) (by decide +kernel))) (by decide +kernel)
theorem w_sel_X12_handNumber : Cond.selects RX12 yX12_handNumber yX12_handNumber ∈ zgd := zgd_in (List.mem_append_left _ (List.mem_of_getElem? (i := 85) (by decide +kernel))) (by decide +kernel)
theorem w_sel_X12_has : Cond.selects RX12 yX12_has yX12_has ∈ zgd := zgd_in (List.mem_append_left _ (List.mem_of_getElem? (i := 87) (by decide +kernel))) (by decide +kernel)
theorem w_sel_X12_isBorne : Cond.selects RX12 yX12_isBorne yX12_isBorne ∈ zgd := zgd_in (List.mem_append_left _ (List.mem_of_getElem? (i := 123) (by decide +kernel))) (by decide +kernel)
theorem w_sel_X12_isEvening : Cond.selects RX12 yX12_isEvening yX12_isEvening ∈ zgd := zgd_in (List.mem_append_left _ (List.mem_of_getElem? (i := 126) (by decide +kernel))) (by decide +kernel)
theorem w_sel_X12_isHand : Cond.selects RX12 yX12_isHand yX12_isHand ∈ zgd := zgd_in (List.mem_append_left _ (List.mem_of_getElem? (i := 91) (by decide +kernel))) (by decide +kernel)
theorem w_sel_X12_isName : Cond.selects RX12 yX12_isName yX12_isName ∈ zgd := zgd_in (List.mem_append_left _ (List.mem_of_getElem? (i := 73) (by decide +kernel))) (by decide +kernel)
theorem w_sel_X12_isOneOrder : Cond.selects RX12 yX12_isOneOrder yX12_isOneOrder ∈ zgd := zgd_in (List.mem_append_left _ (List.mem_of_getElem? (i := 84) (by decide +kernel))) (by decide +kernel)
theorem w_sel_X12_isOwned : Cond.selects RX12 yX12_isOwned yX12_isOwned ∈ zgd := zgd_in (List.mem_append_left _ (List.mem_of_getElem? (i := 122) (by decide +kernel))) (by decide +kernel)
theorem w_sel_X12_isPicked : Cond.selects RX12 yX12_isPicked yX12_isPicked ∈ zgd := zgd_in (List.mem_append_left _ (List.mem_of_getElem? (i := 82) (by decide +kernel))) (by decide +kernel)
theorem w_sel_X12_isRow : Cond.selects RX12 yX12_isRow yX12_isRow ∈ zgd := zgd_in (List.mem_append_left _ (List.mem_of_getElem? (i := 92) (by decide +kernel))) (by decide +kernel)
theorem w_sel_X12_isRule : Cond.selects RX12 yX12_isRule yX12_isRule ∈ zgd := zgd_in (List.mem_append_left _ (List.mem_of_getElem? (i := 96) (by decide +kernel))) (by decide +kernel)
theorem w_sel_X12_isSeen : Cond.selects RX12 yX12_isSeen yX12_isSeen ∈ zgd := zgd_in (List.mem_append_left _ (List.mem_of_getElem? (i := 120) (by decide +kernel))) (by decide +kernel)
theorem w_sel_X12_isWord : Cond.selects RX12 yX12_isWord yX12_isWord ∈ zgd := zgd_in (List.mem_append_left _ (List.mem_of_getElem? (i := 64) (by decide +kernel))) (by decide +kernel)
theorem w_sel_X12_isWorking : Cond.selects RX12 yX12_isWorking yX12_isWorking ∈ zgd := zgd_in (List.mem_append_left _ (List.mem_of_getElem? (i := 117) (by decide +kernel))) (by decide +kernel)
theorem w_sel_X12_keepsAt : Cond.selects RX12 yX12_keepsAt yX12_keepsAt ∈ zgd := zgd_in (List.mem_append_left _ (List.mem_of_getElem? (i := 102) (by decide +kernel))) (by decide +kernel)
theorem w_sel_X12_knowsTable : Cond.selects RX12 yX12_knowsTable yX12_knowsTable ∈ zgd := zgd_in (List.mem_append_left _ (List.mem_of_getElem? (i := 104) (by decide +kernel))) (by decide +kernel)
theorem w_sel_X12_laysAll : Cond.selects RX12 yX12_laysAll yX12_laysAll ∈ zgd := zgd_in (List.mem_append_left _ (List.mem_of_getElem? (i := 115) (by decide +kernel))) (by decide +kernel)
theorem w_sel_X12_laysAllWords : Cond.selects RX12 yX12_laysAllWords yX12_laysAllWords ∈ zgd := zgd_in (List.mem_append_left _ (List.mem_of_getElem? (i := 124) (by decide +kernel))) (by decide +kernel)
theorem w_sel_X12_laysNow : Cond.selects RX12 yX12_laysNow yX12_laysNow ∈ zgd := zgd_in (List.mem_append_left _ (List.mem_of_getElem? (i := 97) (by decide +kernel))) (by decide +kernel)
theorem w_sel_X12_laysSuit : Cond.selects RX12 yX12_laysSuit yX12_laysSuit ∈ zgd := zgd_in (List.mem_append_left _ (List.mem_of_getElem? (i := 98) (by decide +kernel))) (by decide +kernel)
theorem w_sel_X12_laysWords : Cond.selects RX12 yX12_laysWords yX12_laysWords ∈ zgd := zgd_in (List.mem_append_left _ (List.mem_of_getElem? (i := 100) (by decide +kernel))) (by decide +kernel)
theorem w_sel_X12_needs : Cond.selects RX12 yX12_needs yX12_needs ∈ zgd := zgd_in (List.mem_append_left _ (List.mem_of_getElem? (i := 68) (by decide +kernel))) (by decide +kernel)
theorem w_sel_X12_needsSign : Cond.selects RX12 yX12_needsSign yX12_needsSign ∈ zgd := zgd_in (List.mem_append_left _ (List.mem_of_getElem? (i := 77) (by decide +kernel))) (by decide +kernel)
theorem w_sel_X12_next : Cond.selects RX12 yX12_next yX12_next ∈ zgd := zgd_in (List.mem_append_left _ (List.mem_of_getElem? (i := 81) (by decide +kernel))) (by decide +kernel)
theorem w_sel_X12_orders : Cond.selects RX12 yX12_orders yX12_orders ∈ zgd := zgd_in (List.mem_append_left _ (List.mem_of_getElem? (i := 99) (by decide +kernel))) (by decide +kernel)
theorem w_sel_X12_ownerOf : Cond.selects RX12 yX12_ownerOf yX12_ownerOf ∈ zgd := zgd_in (List.mem_append_left _ (List.mem_of_getElem? (i := 110) (by decide +kernel))) (by decide +kernel)
theorem w_sel_X12_owns : Cond.selects RX12 yX12_owns yX12_owns ∈ zgd := zgd_in (List.mem_append_left _ (List.mem_of_getElem? (i := 113) (by decide +kernel))) (by decide +kernel)
theorem w_sel_X12_ownsLaid : Cond.selects RX12 yX12_ownsLaid yX12_ownsLaid ∈ zgd := zgd_in (List.mem_append_left _ (List.mem_of_getElem? (i := 119) (by decide +kernel))) (by decide +kernel)
theorem w_sel_X12_pairsNow : Cond.selects RX12 yX12_pairsNow yX12_pairsNow ∈ zgd := zgd_in (List.mem_append_left _ (List.mem_of_getElem? (i := 105) (by decide +kernel))) (by decide +kernel)
theorem w_sel_X12_puts : Cond.selects RX12 yX12_puts yX12_puts ∈ zgd := zgd_in (List.mem_append_left _ (List.mem_of_getElem? (i := 109) (by decide +kernel))) (by decide +kernel)
theorem w_sel_X12_readEvening : Cond.selects RX12 yX12_readEvening yX12_readEvening ∈ zgd := zgd_in (List.mem_append_left _ (List.mem_of_getElem? (i := 75) (by decide +kernel))) (by decide +kernel)
theorem w_sel_X12_readLine : Cond.selects RX12 yX12_readLine yX12_readLine ∈ zgd := zgd_in (List.mem_append_left _ (List.mem_of_getElem? (i := 63) (by decide +kernel))) (by decide +kernel)
theorem w_sel_X12_readPart : Cond.selects RX12 yX12_readPart yX12_readPart ∈ zgd := zgd_in (List.mem_append_left _ (List.mem_of_getElem? (i := 67) (by decide +kernel))) (by decide +kernel)
theorem w_sel_X12_readPlaces : Cond.selects RX12 yX12_readPlaces yX12_readPlaces ∈ zgd := zgd_in (List.mem_append_left _ (List.mem_of_getElem? (i := 78) (by decide +kernel))) (by decide +kernel)
theorem w_sel_X12_readRule : Cond.selects RX12 yX12_readRule yX12_readRule ∈ zgd := zgd_in (List.mem_append_left _ (List.mem_of_getElem? (i := 71) (by decide +kernel))) (by decide +kernel)
theorem w_sel_X12_readTrick : Cond.selects RX12 yX12_readTrick yX12_readTrick ∈ zgd := zgd_in (List.mem_append_left _ (List.mem_of_getElem? (i := 65) (by decide +kernel))) (by decide +kernel)
theorem w_sel_X12_readUnlike : Cond.selects RX12 yX12_readUnlike yX12_readUnlike ∈ zgd := zgd_in (List.mem_append_left _ (List.mem_of_getElem? (i := 76) (by decide +kernel))) (by decide +kernel)
theorem w_sel_X12_readWords : Cond.selects RX12 yX12_readWords yX12_readWords ∈ zgd := zgd_in (List.mem_append_left _ (List.mem_of_getElem? (i := 74) (by decide +kernel))) (by decide +kernel)
theorem w_sel_X12_refused : Cond.selects RX12 yX12_refused yX12_refused ∈ zgd := zgd_in (List.mem_append_left _ (List.mem_of_getElem? (i := 59) (by decide +kernel))) (by decide +kernel)
theorem w_sel_X12_rowCards : Cond.selects RX12 yX12_rowCards yX12_rowCards ∈ zgd := zgd_in (List.mem_append_left _ (List.mem_of_getElem? (i := 93) (by decide +kernel))) (by decide +kernel)
theorem w_sel_X12_rowFits : Cond.selects RX12 yX12_rowFits yX12_rowFits ∈ zgd := zgd_in (List.mem_append_left _ (List.mem_of_getElem? (i := 94) (by decide +kernel))) (by decide +kernel)
theorem w_sel_X12_rowMany : Cond.selects RX12 yX12_rowMany yX12_rowMany ∈ zgd := zgd_in (List.mem_append_left _ (List.mem_of_getElem? (i := 90) (by decide +kernel))) (by decide +kernel)
theorem w_sel_X12_rowNumber : Cond.selects RX12 yX12_rowNumber yX12_rowNumber ∈ zgd := zgd_in (List.mem_append_left _ (List.mem_of_getElem? (i := 88) (by decide +kernel))) (by decide +kernel)
theorem w_sel_X12_settles : Cond.selects RX12 yX12_settles yX12_settles ∈ zgd := zgd_in (List.mem_append_left _ (List.mem_of_getElem? (i := 114) (by decide +kernel))) (by decide +kernel)
theorem w_sel_X12_slot : Cond.selects RX12 yX12_slot yX12_slot ∈ zgd := zgd_in (List.mem_append_left _ (List.mem_of_getElem? (i := 111) (by decide +kernel))) (by decide +kernel)
theorem w_sel_X12_sorts : Cond.selects RX12 yX12_sorts yX12_sorts ∈ zgd := zgd_in (List.mem_append_left _ (List.mem_of_getElem? (i := 101) (by decide +kernel))) (by decide +kernel)
theorem w_sel_X12_takes : Cond.selects RX12 yX12_takes yX12_takes ∈ zgd := zgd_in (List.mem_append_left _ (List.mem_of_getElem? (i := 112) (by decide +kernel))) (by decide +kernel)
theorem w_sel_X12_tells : Cond.selects RX12 yX12_tells yX12_tells ∈ zgd := zgd_in (List.mem_append_left _ (List.mem_of_getElem? (i := 103) (by decide +kernel))) (by decide +kernel)
theorem w_sel_X1_add : Cond.selects RX1 yX1_add yX1_add ∈ zgd := zgd_in (List.mem_append_right _ (List.mem_of_getElem? (i := 693) (by decide +kernel))) (by decide +kernel)
theorem w_sel_X1_become : Cond.selects RX1 yX1_become yX1_become ∈ zgd := zgd_in (List.mem_append_right _ (List.mem_of_getElem? (i := 1134) (by decide +kernel))) (by decide +kernel)
theorem w_sel_X1_clear : Cond.selects RX1 yX1_clear yX1_clear ∈ zgd := zgd_in (List.mem_append_right _ (List.mem_of_getElem? (i := 498) (by decide +kernel))) (by decide +kernel)
theorem w_sel_X2_clear : Cond.selects RX2 yX2_clear yX2_clear ∈ zgd := zgd_in (List.mem_append_right _ (List.mem_of_getElem? (i := 714) (by decide +kernel))) (by decide +kernel)
theorem w_sel_X3_arrange : Cond.selects RX3 yX3_arrange yX3_arrange ∈ zgd := zgd_in (List.mem_append_left _ (List.mem_of_getElem? (i := 42) (by decide +kernel))) (by decide +kernel)
theorem w_sel_X3_bySuit : Cond.selects RX3 yX3_bySuit yX3_bySuit ∈ zgd := zgd_in (List.mem_append_right _ (List.mem_of_getElem? (i := 876) (by decide +kernel))) (by decide +kernel)
theorem w_sel_X3_byWords : Cond.selects RX3 yX3_byWords yX3_byWords ∈ zgd := zgd_in (List.mem_append_right _ (List.mem_of_getElem? (i := 897) (by decide +kernel))) (by decide +kernel)
theorem w_sel_X3_keepPlace : Cond.selects RX3 yX3_keepPlace yX3_keepPlace ∈ zgd := zgd_in (List.mem_append_left _ (List.mem_of_getElem? (i := 43) (by decide +kernel))) (by decide +kernel)
theorem w_sel_X3_rowOfTwo : Cond.selects RX3 yX3_rowOfTwo yX3_rowOfTwo ∈ zgd := zgd_in (List.mem_append_left _ (List.mem_of_getElem? (i := 41) (by decide +kernel))) (by decide +kernel)
theorem w_sel_X3_rowTelling : Cond.selects RX3 yX3_rowTelling yX3_rowTelling ∈ zgd := zgd_in (List.mem_append_left _ (List.mem_of_getElem? (i := 46) (by decide +kernel))) (by decide +kernel)
theorem w_sel_X3_showOthers : Cond.selects RX3 yX3_showOthers yX3_showOthers ∈ zgd := zgd_in (List.mem_append_left _ (List.mem_of_getElem? (i := 44) (by decide +kernel))) (by decide +kernel)
theorem w_sel_X3_sortHand : Cond.selects RX3 yX3_sortHand yX3_sortHand ∈ zgd := zgd_in (List.mem_append_left _ (List.mem_of_getElem? (i := 40) (by decide +kernel))) (by decide +kernel)
theorem w_sel_X3_tellOf : Cond.selects RX3 yX3_tellOf yX3_tellOf ∈ zgd := zgd_in (List.mem_append_left _ (List.mem_of_getElem? (i := 45) (by decide +kernel))) (by decide +kernel)
theorem w_sel_X4_begin : Cond.selects RX4 yX4_begin yX4_begin ∈ zgd := zgd_in (List.mem_append_right _ (List.mem_of_getElem? (i := 697) (by decide +kernel))) (by decide +kernel)
theorem w_sel_X4_doWordsWork : Cond.selects RX4 yX4_doWordsWork yX4_doWordsWork ∈ zgd := zgd_in (List.mem_append_right _ (List.mem_of_getElem? (i := 1007) (by decide +kernel))) (by decide +kernel)
theorem w_sel_X4_largestDeck : Cond.selects RX4 yX4_largestDeck yX4_largestDeck ∈ zgd := zgd_in (List.mem_append_right _ (List.mem_of_getElem? (i := 1045) (by decide +kernel))) (by decide +kernel)
theorem w_sel_X4_noSwap : Cond.selects RX4 yX4_noSwap yX4_noSwap ∈ zgd := zgd_in (List.mem_append_left _ (List.mem_of_getElem? (i := 49) (by decide +kernel))) (by decide +kernel)
theorem w_sel_X4_swapCards : Cond.selects RX4 yX4_swapCards yX4_swapCards ∈ zgd := zgd_in (List.mem_append_left _ (List.mem_of_getElem? (i := 51) (by decide +kernel))) (by decide +kernel)
theorem w_sel_X4_swapped : Cond.selects RX4 yX4_swapped yX4_swapped ∈ zgd := zgd_in (List.mem_append_left _ (List.mem_of_getElem? (i := 50) (by decide +kernel))) (by decide +kernel)
theorem w_sel_X4_tableRow : Cond.selects RX4 yX4_tableRow yX4_tableRow ∈ zgd := zgd_in (List.mem_append_right _ (List.mem_of_getElem? (i := 872) (by decide +kernel))) (by decide +kernel)
theorem w_sel_X4_tryWords : Cond.selects RX4 yX4_tryWords yX4_tryWords ∈ zgd := zgd_in (List.mem_append_left _ (List.mem_of_getElem? (i := 52) (by decide +kernel))) (by decide +kernel)
theorem w_sel_X5_following : Cond.selects RX5 yX5_following yX5_following ∈ zgd := zgd_in (List.mem_append_left _ (List.mem_of_getElem? (i := 23) (by decide +kernel))) (by decide +kernel)
theorem w_sel_X5_list : Cond.selects RX5 yX5_list yX5_list ∈ zgd := zgd_in (List.mem_append_right _ (List.mem_of_getElem? (i := 701) (by decide +kernel))) (by decide +kernel)
theorem w_sel_X5_pack : Cond.selects RX5 yX5_pack yX5_pack ∈ zgd := zgd_in (List.mem_append_left _ (List.mem_of_getElem? (i := 24) (by decide +kernel))) (by decide +kernel)
theorem w_sel_X6_hurry : Cond.selects RX6 yX6_hurry yX6_hurry ∈ zgd := zgd_in (List.mem_append_left _ (List.mem_of_getElem? (i := 37) (by decide +kernel))) (by decide +kernel)
theorem w_sel_X6_rehome : Cond.selects RX6 yX6_rehome yX6_rehome ∈ zgd := zgd_in (List.mem_append_left _ (List.mem_of_getElem? (i := 36) (by decide +kernel))) (by decide +kernel)
theorem w_sel_X6_rowAt : Cond.selects RX6 yX6_rowAt yX6_rowAt ∈ zgd := zgd_in (List.mem_append_left _ (List.mem_of_getElem? (i := 35) (by decide +kernel))) (by decide +kernel)
theorem w_sel_X7_fail : Cond.selects RX7 yX7_fail yX7_fail ∈ zgd := zgd_in (List.mem_append_left _ (List.mem_of_getElem? (i := 7) (by decide +kernel))) (by decide +kernel)
theorem w_sel_X7_is : Cond.selects RX7 yX7_is yX7_is ∈ zgd := zgd_in (List.mem_append_left _ (List.mem_of_getElem? (i := 5) (by decide +kernel))) (by decide +kernel)
theorem w_sel_X7_isNameOf : Cond.selects RX7 yX7_isNameOf yX7_isNameOf ∈ zgd := zgd_in (List.mem_append_left _ (List.mem_of_getElem? (i := 15) (by decide +kernel))) (by decide +kernel)
theorem w_sel_X7_isUntold : Cond.selects RX7 yX7_isUntold yX7_isUntold ∈ zgd := zgd_in (List.mem_append_left _ (List.mem_of_getElem? (i := 21) (by decide +kernel))) (by decide +kernel)
theorem w_sel_X7_isWhole : Cond.selects RX7 yX7_isWhole yX7_isWhole ∈ zgd := zgd_in (List.mem_append_left _ (List.mem_of_getElem? (i := 9) (by decide +kernel))) (by decide +kernel)
theorem w_sel_X7_keepWord : Cond.selects RX7 yX7_keepWord yX7_keepWord ∈ zgd := zgd_in (List.mem_append_left _ (List.mem_of_getElem? (i := 17) (by decide +kernel))) (by decide +kernel)
theorem w_sel_X7_pass : Cond.selects RX7 yX7_pass yX7_pass ∈ zgd := zgd_in (List.mem_append_left _ (List.mem_of_getElem? (i := 11) (by decide +kernel))) (by decide +kernel)
theorem w_sel_X7_passWhole : Cond.selects RX7 yX7_passWhole yX7_passWhole ∈ zgd := zgd_in (List.mem_append_left _ (List.mem_of_getElem? (i := 8) (by decide +kernel))) (by decide +kernel)
theorem w_sel_X7_readCards : Cond.selects RX7 yX7_readCards yX7_readCards ∈ zgd := zgd_in (List.mem_append_left _ (List.mem_of_getElem? (i := 20) (by decide +kernel))) (by decide +kernel)
theorem w_sel_X7_readEvening : Cond.selects RX7 yX7_readEvening yX7_readEvening ∈ zgd := zgd_in (List.mem_append_left _ (List.mem_of_getElem? (i := 19) (by decide +kernel))) (by decide +kernel)
theorem w_sel_X7_readKind : Cond.selects RX7 yX7_readKind yX7_readKind ∈ zgd := zgd_in (List.mem_append_left _ (List.mem_of_getElem? (i := 16) (by decide +kernel))) (by decide +kernel)
theorem w_sel_X7_readLine : Cond.selects RX7 yX7_readLine yX7_readLine ∈ zgd := zgd_in (List.mem_append_left _ (List.mem_of_getElem? (i := 4) (by decide +kernel))) (by decide +kernel)
theorem w_sel_X7_readName : Cond.selects RX7 yX7_readName yX7_readName ∈ zgd := zgd_in (List.mem_append_left _ (List.mem_of_getElem? (i := 14) (by decide +kernel))) (by decide +kernel)
theorem w_sel_X7_readRule : Cond.selects RX7 yX7_readRule yX7_readRule ∈ zgd := zgd_in (List.mem_append_left _ (List.mem_of_getElem? (i := 13) (by decide +kernel))) (by decide +kernel)
theorem w_sel_X7_readSuits : Cond.selects RX7 yX7_readSuits yX7_readSuits ∈ zgd := zgd_in (List.mem_append_left _ (List.mem_of_getElem? (i := 10) (by decide +kernel))) (by decide +kernel)
theorem w_sel_X7_readText : Cond.selects RX7 yX7_readText yX7_readText ∈ zgd := zgd_in (List.mem_append_right _ (List.mem_of_getElem? (i := 483) (by decide +kernel))) (by decide +kernel)
theorem w_sel_X7_readTilts : Cond.selects RX7 yX7_readTilts yX7_readTilts ∈ zgd := zgd_in (List.mem_append_left _ (List.mem_of_getElem? (i := 22) (by decide +kernel))) (by decide +kernel)
theorem w_sel_X7_readTrick : Cond.selects RX7 yX7_readTrick yX7_readTrick ∈ zgd := zgd_in (List.mem_append_left _ (List.mem_of_getElem? (i := 6) (by decide +kernel))) (by decide +kernel)
theorem w_sel_X7_readWay : Cond.selects RX7 yX7_readWay yX7_readWay ∈ zgd := zgd_in (List.mem_append_left _ (List.mem_of_getElem? (i := 12) (by decide +kernel))) (by decide +kernel)
theorem w_sel_X7_runLength : Cond.selects RX7 yX7_runLength yX7_runLength ∈ zgd := zgd_in (List.mem_append_left _ (List.mem_of_getElem? (i := 3) (by decide +kernel))) (by decide +kernel)
theorem w_sel_X7_step : Cond.selects RX7 yX7_step yX7_step ∈ zgd := zgd_in (List.mem_append_left _ (List.mem_of_getElem? (i := 2) (by decide +kernel))) (by decide +kernel)
theorem w_sel_X7_tellWord : Cond.selects RX7 yX7_tellWord yX7_tellWord ∈ zgd := zgd_in (List.mem_append_left _ (List.mem_of_getElem? (i := 18) (by decide +kernel))) (by decide +kernel)
theorem w_sel_X8_clear : Cond.selects RX8 yX8_clear yX8_clear ∈ zgd := zgd_in (List.mem_append_right _ (List.mem_of_getElem? (i := 864) (by decide +kernel))) (by decide +kernel)
theorem w_sel_X8_holderOf : Cond.selects RX8 yX8_holderOf yX8_holderOf ∈ zgd := zgd_in (List.mem_append_right _ (List.mem_of_getElem? (i := 985) (by decide +kernel))) (by decide +kernel)
theorem w_sel_X8_put : Cond.selects RX8 yX8_put yX8_put ∈ zgd := zgd_in (List.mem_append_right _ (List.mem_of_getElem? (i := 931) (by decide +kernel))) (by decide +kernel)
theorem w_sel_X8_slotOf : Cond.selects RX8 yX8_slotOf yX8_slotOf ∈ zgd := zgd_in (List.mem_append_left _ (List.mem_of_getElem? (i := 48) (by decide +kernel))) (by decide +kernel)
theorem w_sel_X9_clear : Cond.selects RX9 yX9_clear yX9_clear ∈ zgd := zgd_in (List.mem_append_right _ (List.mem_of_getElem? (i := 490) (by decide +kernel))) (by decide +kernel)
theorem w_static_J0_checkIndex_df160 : Cond.static yJ0_checkIndex_df160 ∈ zgd := zgd_in (List.mem_append_right _ (List.mem_of_getElem? (i := 539) (by decide +kernel))) (by decide +kernel)
theorem w_static_J1_charAt_3b067 : Cond.static yJ1_charAt_3b067 ∈ zgd := zgd_in (List.mem_append_right _ (List.mem_of_getElem? (i := 536) (by decide +kernel))) (by decide +kernel)
theorem w_static_J3_checkIndex_8e157 : Cond.static yJ3_checkIndex_8e157 ∈ zgd := zgd_in (List.mem_append_right _ (List.mem_of_getElem? (i := 544) (by decide +kernel))) (by decide +kernel)
theorem w_static_J6_bitCount_0f7a4 : Cond.static yJ6_bitCount_0f7a4 ∈ zgd := zgd_in (List.mem_append_right _ (List.mem_of_getElem? (i := 678) (by decide +kernel))) (by decide +kernel)
theorem w_static_J7_fill_53178 : Cond.static yJ7_fill_53178 ∈ zgd := zgd_in (List.mem_append_right _ (List.mem_of_getElem? (i := 717) (by decide +kernel))) (by decide +kernel)
theorem w_static_X0_cardAt : Cond.static yX0_cardAt ∈ zgd := zgd_in (List.mem_append_right _ (List.mem_of_getElem? (i := 748) (by decide +kernel))) (by decide +kernel)
theorem w_static_X0_choose : Cond.static yX0_choose ∈ zgd := zgd_in (List.mem_append_right _ (List.mem_of_getElem? (i := 607) (by decide +kernel))) (by decide +kernel)
theorem w_static_X0_falling : Cond.static yX0_falling ∈ zgd := zgd_in (List.mem_append_right _ (List.mem_of_getElem? (i := 604) (by decide +kernel))) (by decide +kernel)
theorem w_static_X0_lower : Cond.static yX0_lower ∈ zgd := zgd_in (List.mem_append_right _ (List.mem_of_getElem? (i := 919) (by decide +kernel))) (by decide +kernel)
theorem w_static_X0_sort : Cond.static yX0_sort ∈ zgd := zgd_in (List.mem_append_right _ (List.mem_of_getElem? (i := 684) (by decide +kernel))) (by decide +kernel)
theorem w_static_X12_divisor : Cond.static yX12_divisor ∈ zgd := zgd_in (List.mem_append_right _ (List.mem_of_getElem? (i := 1928) (by decide +kernel))) (by decide +kernel)
theorem w_static_X12_in : Cond.static yX12_in ∈ zgd := zgd_in (List.mem_append_right _ (List.mem_of_getElem? (i := 1512) (by decide +kernel))) (by decide +kernel)
theorem w_static_X12_isDigit : Cond.static yX12_isDigit ∈ zgd := zgd_in (List.mem_append_right _ (List.mem_of_getElem? (i := 1470) (by decide +kernel))) (by decide +kernel)
theorem w_static_X12_isLetter : Cond.static yX12_isLetter ∈ zgd := zgd_in (List.mem_append_right _ (List.mem_of_getElem? (i := 1466) (by decide +kernel))) (by decide +kernel)
theorem w_static_X12_rowsOf : Cond.static yX12_rowsOf ∈ zgd := zgd_in (List.mem_append_right _ (List.mem_of_getElem? (i := 1524) (by decide +kernel))) (by decide +kernel)
theorem w_static_X12_setsOf : Cond.static yX12_setsOf ∈ zgd := zgd_in (List.mem_append_right _ (List.mem_of_getElem? (i := 1527) (by decide +kernel))) (by decide +kernel)
theorem w_static_X12_wordOf : Cond.static yX12_wordOf ∈ zgd := zgd_in (List.mem_append_right _ (List.mem_of_getElem? (i := 1486) (by decide +kernel))) (by decide +kernel)
theorem w_static_X3_gapBelow : Cond.static yX3_gapBelow ∈ zgd := zgd_in (List.mem_append_right _ (List.mem_of_getElem? (i := 916) (by decide +kernel))) (by decide +kernel)
theorem ydX0_clear : yX0_clear.cls = RX0 ∧ yX0_clear.cls ≠ "java/lang/invoke/MethodHandle" ∧ yX0_clear.cls ≠ "java/lang/invoke/VarHandle" ∧ (parseMethodDescriptor yX0_clear.desc).map (fun d => d.parameters.length) = some 0 := by decide +kernel
theorem ysX0_falling : yX0_falling.cls ≠ "java/lang/invoke/MethodHandle" ∧ yX0_falling.cls ≠ "java/lang/invoke/VarHandle" ∧ (parseMethodDescriptor yX0_falling.desc).map (fun d => d.parameters.length) = some 2 := by decide +kernel
theorem ysX0_choose : yX0_choose.cls ≠ "java/lang/invoke/MethodHandle" ∧ yX0_choose.cls ≠ "java/lang/invoke/VarHandle" ∧ (parseMethodDescriptor yX0_choose.desc).map (fun d => d.parameters.length) = some 2 := by decide +kernel
theorem ydX0_handsOf : yX0_handsOf.cls = RX0 ∧ yX0_handsOf.cls ≠ "java/lang/invoke/MethodHandle" ∧ yX0_handsOf.cls ≠ "java/lang/invoke/VarHandle" ∧ (parseMethodDescriptor yX0_handsOf.desc).map (fun d => d.parameters.length) = some 1 := by decide +kernel
theorem ydX0_settle : yX0_settle.cls = RX0 ∧ yX0_settle.cls ≠ "java/lang/invoke/MethodHandle" ∧ yX0_settle.cls ≠ "java/lang/invoke/VarHandle" ∧ (parseMethodDescriptor yX0_settle.desc).map (fun d => d.parameters.length) = some 0 := by decide +kernel
theorem ydX0_anyOrder : yX0_anyOrder.cls = RX0 ∧ yX0_anyOrder.cls ≠ "java/lang/invoke/MethodHandle" ∧ yX0_anyOrder.cls ≠ "java/lang/invoke/VarHandle" ∧ (parseMethodDescriptor yX0_anyOrder.desc).map (fun d => d.parameters.length) = some 0 := by decide +kernel
theorem ydX0_rowsOf : yX0_rowsOf.cls = RX0 ∧ yX0_rowsOf.cls ≠ "java/lang/invoke/MethodHandle" ∧ yX0_rowsOf.cls ≠ "java/lang/invoke/VarHandle" ∧ (parseMethodDescriptor yX0_rowsOf.desc).map (fun d => d.parameters.length) = some 1 := by decide +kernel
theorem ydX0_waysToShow : yX0_waysToShow.cls = RX0 ∧ yX0_waysToShow.cls ≠ "java/lang/invoke/MethodHandle" ∧ yX0_waysToShow.cls ≠ "java/lang/invoke/VarHandle" ∧ (parseMethodDescriptor yX0_waysToShow.desc).map (fun d => d.parameters.length) = some 0 := by decide +kernel
theorem ysX0_cardAt : yX0_cardAt.cls ≠ "java/lang/invoke/MethodHandle" ∧ yX0_cardAt.cls ≠ "java/lang/invoke/VarHandle" ∧ (parseMethodDescriptor yX0_cardAt.desc).map (fun d => d.parameters.length) = some 2 := by decide +kernel
theorem ydX0_isHand : yX0_isHand.cls = RX0 ∧ yX0_isHand.cls ≠ "java/lang/invoke/MethodHandle" ∧ yX0_isHand.cls ≠ "java/lang/invoke/VarHandle" ∧ (parseMethodDescriptor yX0_isHand.desc).map (fun d => d.parameters.length) = some 1 := by decide +kernel
theorem ysJ6_bitCount_0f7a4 : yJ6_bitCount_0f7a4.cls ≠ "java/lang/invoke/MethodHandle" ∧ yJ6_bitCount_0f7a4.cls ≠ "java/lang/invoke/VarHandle" ∧ (parseMethodDescriptor yJ6_bitCount_0f7a4.desc).map (fun d => d.parameters.length) = some 1 := by decide +kernel
theorem ydX0_rowNumber : yX0_rowNumber.cls = RX0 ∧ yX0_rowNumber.cls ≠ "java/lang/invoke/MethodHandle" ∧ yX0_rowNumber.cls ≠ "java/lang/invoke/VarHandle" ∧ (parseMethodDescriptor yX0_rowNumber.desc).map (fun d => d.parameters.length) = some 2 := by decide +kernel
theorem ysX0_sort : yX0_sort.cls ≠ "java/lang/invoke/MethodHandle" ∧ yX0_sort.cls ≠ "java/lang/invoke/VarHandle" ∧ (parseMethodDescriptor yX0_sort.desc).map (fun d => d.parameters.length) = some 2 := by decide +kernel
theorem ydX0_handNumber : yX0_handNumber.cls = RX0 ∧ yX0_handNumber.cls ≠ "java/lang/invoke/MethodHandle" ∧ yX0_handNumber.cls ≠ "java/lang/invoke/VarHandle" ∧ (parseMethodDescriptor yX0_handNumber.desc).map (fun d => d.parameters.length) = some 1 := by decide +kernel
theorem ysX0_lower : yX0_lower.cls ≠ "java/lang/invoke/MethodHandle" ∧ yX0_lower.cls ≠ "java/lang/invoke/VarHandle" ∧ (parseMethodDescriptor yX0_lower.desc).map (fun d => d.parameters.length) = some 2 := by decide +kernel
theorem ydX0_unusedCard : yX0_unusedCard.cls = RX0 ∧ yX0_unusedCard.cls ≠ "java/lang/invoke/MethodHandle" ∧ yX0_unusedCard.cls ≠ "java/lang/invoke/VarHandle" ∧ (parseMethodDescriptor yX0_unusedCard.desc).map (fun d => d.parameters.length) = some 2 := by decide +kernel
theorem ydX0_unpackRow : yX0_unpackRow.cls = RX0 ∧ yX0_unpackRow.cls ≠ "java/lang/invoke/MethodHandle" ∧ yX0_unpackRow.cls ≠ "java/lang/invoke/VarHandle" ∧ (parseMethodDescriptor yX0_unpackRow.desc).map (fun d => d.parameters.length) = some 2 := by decide +kernel
theorem ydX0_placeIn : yX0_placeIn.cls = RX0 ∧ yX0_placeIn.cls ≠ "java/lang/invoke/MethodHandle" ∧ yX0_placeIn.cls ≠ "java/lang/invoke/VarHandle" ∧ (parseMethodDescriptor yX0_placeIn.desc).map (fun d => d.parameters.length) = some 3 := by decide +kernel
theorem ydX0_isShownOf : yX0_isShownOf.cls = RX0 ∧ yX0_isShownOf.cls ≠ "java/lang/invoke/MethodHandle" ∧ yX0_isShownOf.cls ≠ "java/lang/invoke/VarHandle" ∧ (parseMethodDescriptor yX0_isShownOf.desc).map (fun d => d.parameters.length) = some 2 := by decide +kernel
theorem ydX0_keptCard : yX0_keptCard.cls = RX0 ∧ yX0_keptCard.cls ≠ "java/lang/invoke/MethodHandle" ∧ yX0_keptCard.cls ≠ "java/lang/invoke/VarHandle" ∧ (parseMethodDescriptor yX0_keptCard.desc).map (fun d => d.parameters.length) = some 3 := by decide +kernel
theorem ydX1_clear : yX1_clear.cls = RX1 ∧ yX1_clear.cls ≠ "java/lang/invoke/MethodHandle" ∧ yX1_clear.cls ≠ "java/lang/invoke/VarHandle" ∧ (parseMethodDescriptor yX1_clear.desc).map (fun d => d.parameters.length) = some 0 := by decide +kernel
theorem ydX1_add : yX1_add.cls = RX1 ∧ yX1_add.cls ≠ "java/lang/invoke/MethodHandle" ∧ yX1_add.cls ≠ "java/lang/invoke/VarHandle" ∧ (parseMethodDescriptor yX1_add.desc).map (fun d => d.parameters.length) = some 2 := by decide +kernel
theorem ydX2_clear : yX2_clear.cls = RX2 ∧ yX2_clear.cls ≠ "java/lang/invoke/MethodHandle" ∧ yX2_clear.cls ≠ "java/lang/invoke/VarHandle" ∧ (parseMethodDescriptor yX2_clear.desc).map (fun d => d.parameters.length) = some 0 := by decide +kernel
theorem ydX3_sortHand : yX3_sortHand.cls = RX3 ∧ yX3_sortHand.cls ≠ "java/lang/invoke/MethodHandle" ∧ yX3_sortHand.cls ≠ "java/lang/invoke/VarHandle" ∧ (parseMethodDescriptor yX3_sortHand.desc).map (fun d => d.parameters.length) = some 2 := by decide +kernel
theorem ydX3_keepPlace : yX3_keepPlace.cls = RX3 ∧ yX3_keepPlace.cls ≠ "java/lang/invoke/MethodHandle" ∧ yX3_keepPlace.cls ≠ "java/lang/invoke/VarHandle" ∧ (parseMethodDescriptor yX3_keepPlace.desc).map (fun d => d.parameters.length) = some 2 := by decide +kernel
theorem ydX3_showOthers : yX3_showOthers.cls = RX3 ∧ yX3_showOthers.cls ≠ "java/lang/invoke/MethodHandle" ∧ yX3_showOthers.cls ≠ "java/lang/invoke/VarHandle" ∧ (parseMethodDescriptor yX3_showOthers.desc).map (fun d => d.parameters.length) = some 3 := by decide +kernel
theorem ysX3_gapBelow : yX3_gapBelow.cls ≠ "java/lang/invoke/MethodHandle" ∧ yX3_gapBelow.cls ≠ "java/lang/invoke/VarHandle" ∧ (parseMethodDescriptor yX3_gapBelow.desc).map (fun d => d.parameters.length) = some 3 := by decide +kernel
theorem ydX3_tellOf : yX3_tellOf.cls = RX3 ∧ yX3_tellOf.cls ≠ "java/lang/invoke/MethodHandle" ∧ yX3_tellOf.cls ≠ "java/lang/invoke/VarHandle" ∧ (parseMethodDescriptor yX3_tellOf.desc).map (fun d => d.parameters.length) = some 5 := by decide +kernel
theorem ydX3_arrange : yX3_arrange.cls = RX3 ∧ yX3_arrange.cls ≠ "java/lang/invoke/MethodHandle" ∧ yX3_arrange.cls ≠ "java/lang/invoke/VarHandle" ∧ (parseMethodDescriptor yX3_arrange.desc).map (fun d => d.parameters.length) = some 3 := by decide +kernel
theorem ydX3_rowTelling : yX3_rowTelling.cls = RX3 ∧ yX3_rowTelling.cls ≠ "java/lang/invoke/MethodHandle" ∧ yX3_rowTelling.cls ≠ "java/lang/invoke/VarHandle" ∧ (parseMethodDescriptor yX3_rowTelling.desc).map (fun d => d.parameters.length) = some 2 := by decide +kernel
theorem ydX3_byWords : yX3_byWords.cls = RX3 ∧ yX3_byWords.cls ≠ "java/lang/invoke/MethodHandle" ∧ yX3_byWords.cls ≠ "java/lang/invoke/VarHandle" ∧ (parseMethodDescriptor yX3_byWords.desc).map (fun d => d.parameters.length) = some 3 := by decide +kernel
theorem ydX3_rowOfTwo : yX3_rowOfTwo.cls = RX3 ∧ yX3_rowOfTwo.cls ≠ "java/lang/invoke/MethodHandle" ∧ yX3_rowOfTwo.cls ≠ "java/lang/invoke/VarHandle" ∧ (parseMethodDescriptor yX3_rowOfTwo.desc).map (fun d => d.parameters.length) = some 3 := by decide +kernel
theorem ydX3_bySuit : yX3_bySuit.cls = RX3 ∧ yX3_bySuit.cls ≠ "java/lang/invoke/MethodHandle" ∧ yX3_bySuit.cls ≠ "java/lang/invoke/VarHandle" ∧ (parseMethodDescriptor yX3_bySuit.desc).map (fun d => d.parameters.length) = some 2 := by decide +kernel
theorem ydX5_following : yX5_following.cls = RX5 ∧ yX5_following.cls ≠ "java/lang/invoke/MethodHandle" ∧ yX5_following.cls ≠ "java/lang/invoke/VarHandle" ∧ (parseMethodDescriptor yX5_following.desc).map (fun d => d.parameters.length) = some 3 := by decide +kernel
theorem ydX5_pack : yX5_pack.cls = RX5 ∧ yX5_pack.cls ≠ "java/lang/invoke/MethodHandle" ∧ yX5_pack.cls ≠ "java/lang/invoke/VarHandle" ∧ (parseMethodDescriptor yX5_pack.desc).map (fun d => d.parameters.length) = some 1 := by decide +kernel
theorem ydX5_list : yX5_list.cls = RX5 ∧ yX5_list.cls ≠ "java/lang/invoke/MethodHandle" ∧ yX5_list.cls ≠ "java/lang/invoke/VarHandle" ∧ (parseMethodDescriptor yX5_list.desc).map (fun d => d.parameters.length) = some 4 := by decide +kernel
theorem ysJ7_fill_53178 : yJ7_fill_53178.cls ≠ "java/lang/invoke/MethodHandle" ∧ yJ7_fill_53178.cls ≠ "java/lang/invoke/VarHandle" ∧ (parseMethodDescriptor yJ7_fill_53178.desc).map (fun d => d.parameters.length) = some 2 := by decide +kernel
theorem ydX4_begin : yX4_begin.cls = RX4 ∧ yX4_begin.cls ≠ "java/lang/invoke/MethodHandle" ∧ yX4_begin.cls ≠ "java/lang/invoke/VarHandle" ∧ (parseMethodDescriptor yX4_begin.desc).map (fun d => d.parameters.length) = some 1 := by decide +kernel
theorem ydX4_tableRow : yX4_tableRow.cls = RX4 ∧ yX4_tableRow.cls ≠ "java/lang/invoke/MethodHandle" ∧ yX4_tableRow.cls ≠ "java/lang/invoke/VarHandle" ∧ (parseMethodDescriptor yX4_tableRow.desc).map (fun d => d.parameters.length) = some 1 := by decide +kernel
theorem ydX4_rowFor : yX4_rowFor.cls = RX4 ∧ yX4_rowFor.cls ≠ "java/lang/invoke/MethodHandle" ∧ yX4_rowFor.cls ≠ "java/lang/invoke/VarHandle" ∧ (parseMethodDescriptor yX4_rowFor.desc).map (fun d => d.parameters.length) = some 2 := by decide +kernel
theorem ydX8_slotOf : yX8_slotOf.cls = RX8 ∧ yX8_slotOf.cls ≠ "java/lang/invoke/MethodHandle" ∧ yX8_slotOf.cls ≠ "java/lang/invoke/VarHandle" ∧ (parseMethodDescriptor yX8_slotOf.desc).map (fun d => d.parameters.length) = some 1 := by decide +kernel
theorem ydX8_put : yX8_put.cls = RX8 ∧ yX8_put.cls ≠ "java/lang/invoke/MethodHandle" ∧ yX8_put.cls ≠ "java/lang/invoke/VarHandle" ∧ (parseMethodDescriptor yX8_put.desc).map (fun d => d.parameters.length) = some 2 := by decide +kernel
theorem ydX4_note : yX4_note.cls = RX4 ∧ yX4_note.cls ≠ "java/lang/invoke/MethodHandle" ∧ yX4_note.cls ≠ "java/lang/invoke/VarHandle" ∧ (parseMethodDescriptor yX4_note.desc).map (fun d => d.parameters.length) = some 3 := by decide +kernel
theorem ydX4_firstLaid : yX4_firstLaid.cls = RX4 ∧ yX4_firstLaid.cls ≠ "java/lang/invoke/MethodHandle" ∧ yX4_firstLaid.cls ≠ "java/lang/invoke/VarHandle" ∧ (parseMethodDescriptor yX4_firstLaid.desc).map (fun d => d.parameters.length) = some 2 := by decide +kernel
theorem ydX4_failedHand : yX4_failedHand.cls = RX4 ∧ yX4_failedHand.cls ≠ "java/lang/invoke/MethodHandle" ∧ yX4_failedHand.cls ≠ "java/lang/invoke/VarHandle" ∧ (parseMethodDescriptor yX4_failedHand.desc).map (fun d => d.parameters.length) = some 2 := by decide +kernel
theorem ydX8_clear : yX8_clear.cls = RX8 ∧ yX8_clear.cls ≠ "java/lang/invoke/MethodHandle" ∧ yX8_clear.cls ≠ "java/lang/invoke/VarHandle" ∧ (parseMethodDescriptor yX8_clear.desc).map (fun d => d.parameters.length) = some 0 := by decide +kernel
theorem ydX8_holderOf : yX8_holderOf.cls = RX8 ∧ yX8_holderOf.cls ≠ "java/lang/invoke/MethodHandle" ∧ yX8_holderOf.cls ≠ "java/lang/invoke/VarHandle" ∧ (parseMethodDescriptor yX8_holderOf.desc).map (fun d => d.parameters.length) = some 1 := by decide +kernel
theorem ydX4_swapCards : yX4_swapCards.cls = RX4 ∧ yX4_swapCards.cls ≠ "java/lang/invoke/MethodHandle" ∧ yX4_swapCards.cls ≠ "java/lang/invoke/VarHandle" ∧ (parseMethodDescriptor yX4_swapCards.desc).map (fun d => d.parameters.length) = some 1 := by decide +kernel
theorem ydX4_swapped : yX4_swapped.cls = RX4 ∧ yX4_swapped.cls ≠ "java/lang/invoke/MethodHandle" ∧ yX4_swapped.cls ≠ "java/lang/invoke/VarHandle" ∧ (parseMethodDescriptor yX4_swapped.desc).map (fun d => d.parameters.length) = some 2 := by decide +kernel
theorem ydX4_noSwap : yX4_noSwap.cls = RX4 ∧ yX4_noSwap.cls ≠ "java/lang/invoke/MethodHandle" ∧ yX4_noSwap.cls ≠ "java/lang/invoke/VarHandle" ∧ (parseMethodDescriptor yX4_noSwap.desc).map (fun d => d.parameters.length) = some 2 := by decide +kernel
theorem ydX4_swapsJudged : yX4_swapsJudged.cls = RX4 ∧ yX4_swapsJudged.cls ≠ "java/lang/invoke/MethodHandle" ∧ yX4_swapsJudged.cls ≠ "java/lang/invoke/VarHandle" ∧ (parseMethodDescriptor yX4_swapsJudged.desc).map (fun d => d.parameters.length) = some 1 := by decide +kernel
theorem ydX4_tryWords : yX4_tryWords.cls = RX4 ∧ yX4_tryWords.cls ≠ "java/lang/invoke/MethodHandle" ∧ yX4_tryWords.cls ≠ "java/lang/invoke/VarHandle" ∧ (parseMethodDescriptor yX4_tryWords.desc).map (fun d => d.parameters.length) = some 1 := by decide +kernel
theorem ydX4_doWordsWork : yX4_doWordsWork.cls = RX4 ∧ yX4_doWordsWork.cls ≠ "java/lang/invoke/MethodHandle" ∧ yX4_doWordsWork.cls ≠ "java/lang/invoke/VarHandle" ∧ (parseMethodDescriptor yX4_doWordsWork.desc).map (fun d => d.parameters.length) = some 1 := by decide +kernel
theorem ydX4_handsApart : yX4_handsApart.cls = RX4 ∧ yX4_handsApart.cls ≠ "java/lang/invoke/MethodHandle" ∧ yX4_handsApart.cls ≠ "java/lang/invoke/VarHandle" ∧ (parseMethodDescriptor yX4_handsApart.desc).map (fun d => d.parameters.length) = some 2 := by decide +kernel
theorem ydX4_largestDeck : yX4_largestDeck.cls = RX4 ∧ yX4_largestDeck.cls ≠ "java/lang/invoke/MethodHandle" ∧ yX4_largestDeck.cls ≠ "java/lang/invoke/VarHandle" ∧ (parseMethodDescriptor yX4_largestDeck.desc).map (fun d => d.parameters.length) = some 0 := by decide +kernel
theorem ydX6_rowAt : yX6_rowAt.cls = RX6 ∧ yX6_rowAt.cls ≠ "java/lang/invoke/MethodHandle" ∧ yX6_rowAt.cls ≠ "java/lang/invoke/VarHandle" ∧ (parseMethodDescriptor yX6_rowAt.desc).map (fun d => d.parameters.length) = some 2 := by decide +kernel
theorem ydX6_sortRows : yX6_sortRows.cls = RX6 ∧ yX6_sortRows.cls ≠ "java/lang/invoke/MethodHandle" ∧ yX6_sortRows.cls ≠ "java/lang/invoke/VarHandle" ∧ (parseMethodDescriptor yX6_sortRows.desc).map (fun d => d.parameters.length) = some 1 := by decide +kernel
theorem ydX6_hurry : yX6_hurry.cls = RX6 ∧ yX6_hurry.cls ≠ "java/lang/invoke/MethodHandle" ∧ yX6_hurry.cls ≠ "java/lang/invoke/VarHandle" ∧ (parseMethodDescriptor yX6_hurry.desc).map (fun d => d.parameters.length) = some 2 := by decide +kernel
theorem ydX6_rehome : yX6_rehome.cls = RX6 ∧ yX6_rehome.cls ≠ "java/lang/invoke/MethodHandle" ∧ yX6_rehome.cls ≠ "java/lang/invoke/VarHandle" ∧ (parseMethodDescriptor yX6_rehome.desc).map (fun d => d.parameters.length) = some 1 := by decide +kernel
theorem ydX6_settleLeast : yX6_settleLeast.cls = RX6 ∧ yX6_settleLeast.cls ≠ "java/lang/invoke/MethodHandle" ∧ yX6_settleLeast.cls ≠ "java/lang/invoke/VarHandle" ∧ (parseMethodDescriptor yX6_settleLeast.desc).map (fun d => d.parameters.length) = some 1 := by decide +kernel
theorem ydX7_fail : yX7_fail.cls = RX7 ∧ yX7_fail.cls ≠ "java/lang/invoke/MethodHandle" ∧ yX7_fail.cls ≠ "java/lang/invoke/VarHandle" ∧ (parseMethodDescriptor yX7_fail.desc).map (fun d => d.parameters.length) = some 1 := by decide +kernel
theorem ydX7_runLength : yX7_runLength.cls = RX7 ∧ yX7_runLength.cls ≠ "java/lang/invoke/MethodHandle" ∧ yX7_runLength.cls ≠ "java/lang/invoke/VarHandle" ∧ (parseMethodDescriptor yX7_runLength.desc).map (fun d => d.parameters.length) = some 2 := by decide +kernel
theorem ydX7_step : yX7_step.cls = RX7 ∧ yX7_step.cls ≠ "java/lang/invoke/MethodHandle" ∧ yX7_step.cls ≠ "java/lang/invoke/VarHandle" ∧ (parseMethodDescriptor yX7_step.desc).map (fun d => d.parameters.length) = some 0 := by decide +kernel
theorem ydX7_isWhole : yX7_isWhole.cls = RX7 ∧ yX7_isWhole.cls ≠ "java/lang/invoke/MethodHandle" ∧ yX7_isWhole.cls ≠ "java/lang/invoke/VarHandle" ∧ (parseMethodDescriptor yX7_isWhole.desc).map (fun d => d.parameters.length) = some 2 := by decide +kernel
theorem ydX7_isNameOf : yX7_isNameOf.cls = RX7 ∧ yX7_isNameOf.cls ≠ "java/lang/invoke/MethodHandle" ∧ yX7_isNameOf.cls ≠ "java/lang/invoke/VarHandle" ∧ (parseMethodDescriptor yX7_isNameOf.desc).map (fun d => d.parameters.length) = some 1 := by decide +kernel
theorem ydX7_isUntold : yX7_isUntold.cls = RX7 ∧ yX7_isUntold.cls ≠ "java/lang/invoke/MethodHandle" ∧ yX7_isUntold.cls ≠ "java/lang/invoke/VarHandle" ∧ (parseMethodDescriptor yX7_isUntold.desc).map (fun d => d.parameters.length) = some 2 := by decide +kernel
theorem ydX7_readCards : yX7_readCards.cls = RX7 ∧ yX7_readCards.cls ≠ "java/lang/invoke/MethodHandle" ∧ yX7_readCards.cls ≠ "java/lang/invoke/VarHandle" ∧ (parseMethodDescriptor yX7_readCards.desc).map (fun d => d.parameters.length) = some 1 := by decide +kernel
theorem ydX7_readTilts : yX7_readTilts.cls = RX7 ∧ yX7_readTilts.cls ≠ "java/lang/invoke/MethodHandle" ∧ yX7_readTilts.cls ≠ "java/lang/invoke/VarHandle" ∧ (parseMethodDescriptor yX7_readTilts.desc).map (fun d => d.parameters.length) = some 1 := by decide +kernel
theorem ydX9_clear : yX9_clear.cls = RX9 ∧ yX9_clear.cls ≠ "java/lang/invoke/MethodHandle" ∧ yX9_clear.cls ≠ "java/lang/invoke/VarHandle" ∧ (parseMethodDescriptor yX9_clear.desc).map (fun d => d.parameters.length) = some 0 := by decide +kernel
theorem ydX10_putBytes : yX10_putBytes.cls = RX10 ∧ yX10_putBytes.cls ≠ "java/lang/invoke/MethodHandle" ∧ yX10_putBytes.cls ≠ "java/lang/invoke/VarHandle" ∧ (parseMethodDescriptor yX10_putBytes.desc).map (fun d => d.parameters.length) = some 1 := by decide +kernel
theorem ydX10_feed : yX10_feed.cls = RX10 ∧ yX10_feed.cls ≠ "java/lang/invoke/MethodHandle" ∧ yX10_feed.cls ≠ "java/lang/invoke/VarHandle" ∧ (parseMethodDescriptor yX10_feed.desc).map (fun d => d.parameters.length) = some 5 := by decide +kernel
theorem ydX10_fault : yX10_fault.cls = RX10 ∧ yX10_fault.cls ≠ "java/lang/invoke/MethodHandle" ∧ yX10_fault.cls ≠ "java/lang/invoke/VarHandle" ∧ (parseMethodDescriptor yX10_fault.desc).map (fun d => d.parameters.length) = some 0 := by decide +kernel
theorem ydX10_where : yX10_where.cls = RX10 ∧ yX10_where.cls ≠ "java/lang/invoke/MethodHandle" ∧ yX10_where.cls ≠ "java/lang/invoke/VarHandle" ∧ (parseMethodDescriptor yX10_where.desc).map (fun d => d.parameters.length) = some 0 := by decide +kernel
theorem ydX10_refuse : yX10_refuse.cls = RX10 ∧ yX10_refuse.cls ≠ "java/lang/invoke/MethodHandle" ∧ yX10_refuse.cls ≠ "java/lang/invoke/VarHandle" ∧ (parseMethodDescriptor yX10_refuse.desc).map (fun d => d.parameters.length) = some 1 := by decide +kernel
theorem ydX10_answer : yX10_answer.cls = RX10 ∧ yX10_answer.cls ≠ "java/lang/invoke/MethodHandle" ∧ yX10_answer.cls ≠ "java/lang/invoke/VarHandle" ∧ (parseMethodDescriptor yX10_answer.desc).map (fun d => d.parameters.length) = some 1 := by decide +kernel
theorem ydX10_hands : yX10_hands.cls = RX10 ∧ yX10_hands.cls ≠ "java/lang/invoke/MethodHandle" ∧ yX10_hands.cls ≠ "java/lang/invoke/VarHandle" ∧ (parseMethodDescriptor yX10_hands.desc).map (fun d => d.parameters.length) = some 0 := by decide +kernel
theorem ydX10_rows : yX10_rows.cls = RX10 ∧ yX10_rows.cls ≠ "java/lang/invoke/MethodHandle" ∧ yX10_rows.cls ≠ "java/lang/invoke/VarHandle" ∧ (parseMethodDescriptor yX10_rows.desc).map (fun d => d.parameters.length) = some 0 := by decide +kernel
theorem ydX10_noHand : yX10_noHand.cls = RX10 ∧ yX10_noHand.cls ≠ "java/lang/invoke/MethodHandle" ∧ yX10_noHand.cls ≠ "java/lang/invoke/VarHandle" ∧ (parseMethodDescriptor yX10_noHand.desc).map (fun d => d.parameters.length) = some 1 := by decide +kernel
theorem ydX10_hand : yX10_hand.cls = RX10 ∧ yX10_hand.cls ≠ "java/lang/invoke/MethodHandle" ∧ yX10_hand.cls ≠ "java/lang/invoke/VarHandle" ∧ (parseMethodDescriptor yX10_hand.desc).map (fun d => d.parameters.length) = some 2 := by decide +kernel
theorem ydX10_handOf : yX10_handOf.cls = RX10 ∧ yX10_handOf.cls ≠ "java/lang/invoke/MethodHandle" ∧ yX10_handOf.cls ≠ "java/lang/invoke/VarHandle" ∧ (parseMethodDescriptor yX10_handOf.desc).map (fun d => d.parameters.length) = some 5 := by decide +kernel
theorem ydX10_noRow : yX10_noRow.cls = RX10 ∧ yX10_noRow.cls ≠ "java/lang/invoke/MethodHandle" ∧ yX10_noRow.cls ≠ "java/lang/invoke/VarHandle" ∧ (parseMethodDescriptor yX10_noRow.desc).map (fun d => d.parameters.length) = some 1 := by decide +kernel
theorem ydX10_row : yX10_row.cls = RX10 ∧ yX10_row.cls ≠ "java/lang/invoke/MethodHandle" ∧ yX10_row.cls ≠ "java/lang/invoke/VarHandle" ∧ (parseMethodDescriptor yX10_row.desc).map (fun d => d.parameters.length) = some 2 := by decide +kernel
theorem ydX10_tilted : yX10_tilted.cls = RX10 ∧ yX10_tilted.cls ≠ "java/lang/invoke/MethodHandle" ∧ yX10_tilted.cls ≠ "java/lang/invoke/VarHandle" ∧ (parseMethodDescriptor yX10_tilted.desc).map (fun d => d.parameters.length) = some 1 := by decide +kernel
theorem ydX10_fitsHand : yX10_fitsHand.cls = RX10 ∧ yX10_fitsHand.cls ≠ "java/lang/invoke/MethodHandle" ∧ yX10_fitsHand.cls ≠ "java/lang/invoke/VarHandle" ∧ (parseMethodDescriptor yX10_fitsHand.desc).map (fun d => d.parameters.length) = some 2 := by decide +kernel
theorem ydX10_answerWhether : yX10_answerWhether.cls = RX10 ∧ yX10_answerWhether.cls ≠ "java/lang/invoke/MethodHandle" ∧ yX10_answerWhether.cls ≠ "java/lang/invoke/VarHandle" ∧ (parseMethodDescriptor yX10_answerWhether.desc).map (fun d => d.parameters.length) = some 1 := by decide +kernel
theorem ydX10_fits : yX10_fits.cls = RX10 ∧ yX10_fits.cls ≠ "java/lang/invoke/MethodHandle" ∧ yX10_fits.cls ≠ "java/lang/invoke/VarHandle" ∧ (parseMethodDescriptor yX10_fits.desc).map (fun d => d.parameters.length) = some 2 := by decide +kernel
theorem ydX10_fitting : yX10_fitting.cls = RX10 ∧ yX10_fitting.cls ≠ "java/lang/invoke/MethodHandle" ∧ yX10_fitting.cls ≠ "java/lang/invoke/VarHandle" ∧ (parseMethodDescriptor yX10_fitting.desc).map (fun d => d.parameters.length) = some 0 := by decide +kernel
theorem ydX10_wordsWork : yX10_wordsWork.cls = RX10 ∧ yX10_wordsWork.cls ≠ "java/lang/invoke/MethodHandle" ∧ yX10_wordsWork.cls ≠ "java/lang/invoke/VarHandle" ∧ (parseMethodDescriptor yX10_wordsWork.desc).map (fun d => d.parameters.length) = some 1 := by decide +kernel
theorem ydX10_shortest : yX10_shortest.cls = RX10 ∧ yX10_shortest.cls ≠ "java/lang/invoke/MethodHandle" ∧ yX10_shortest.cls ≠ "java/lang/invoke/VarHandle" ∧ (parseMethodDescriptor yX10_shortest.desc).map (fun d => d.parameters.length) = some 0 := by decide +kernel
theorem ydX10_pairs : yX10_pairs.cls = RX10 ∧ yX10_pairs.cls ≠ "java/lang/invoke/MethodHandle" ∧ yX10_pairs.cls ≠ "java/lang/invoke/VarHandle" ∧ (parseMethodDescriptor yX10_pairs.desc).map (fun d => d.parameters.length) = some 0 := by decide +kernel
theorem ydX10_count : yX10_count.cls = RX10 ∧ yX10_count.cls ≠ "java/lang/invoke/MethodHandle" ∧ yX10_count.cls ≠ "java/lang/invoke/VarHandle" ∧ (parseMethodDescriptor yX10_count.desc).map (fun d => d.parameters.length) = some 2 := by decide +kernel
theorem ydX10_most : yX10_most.cls = RX10 ∧ yX10_most.cls ≠ "java/lang/invoke/MethodHandle" ∧ yX10_most.cls ≠ "java/lang/invoke/VarHandle" ∧ (parseMethodDescriptor yX10_most.desc).map (fun d => d.parameters.length) = some 0 := by decide +kernel
theorem ydX10_noEvening : yX10_noEvening.cls = RX10 ∧ yX10_noEvening.cls ≠ "java/lang/invoke/MethodHandle" ∧ yX10_noEvening.cls ≠ "java/lang/invoke/VarHandle" ∧ (parseMethodDescriptor yX10_noEvening.desc).map (fun d => d.parameters.length) = some 1 := by decide +kernel
theorem ydX10_judge : yX10_judge.cls = RX10 ∧ yX10_judge.cls ≠ "java/lang/invoke/MethodHandle" ∧ yX10_judge.cls ≠ "java/lang/invoke/VarHandle" ∧ (parseMethodDescriptor yX10_judge.desc).map (fun d => d.parameters.length) = some 1 := by decide +kernel
theorem ydX10_evening : yX10_evening.cls = RX10 ∧ yX10_evening.cls ≠ "java/lang/invoke/MethodHandle" ∧ yX10_evening.cls ≠ "java/lang/invoke/VarHandle" ∧ (parseMethodDescriptor yX10_evening.desc).map (fun d => d.parameters.length) = some 2 := by decide +kernel
theorem ydX10_isAgreed : yX10_isAgreed.cls = RX10 ∧ yX10_isAgreed.cls ≠ "java/lang/invoke/MethodHandle" ∧ yX10_isAgreed.cls ≠ "java/lang/invoke/VarHandle" ∧ (parseMethodDescriptor yX10_isAgreed.desc).map (fun d => d.parameters.length) = some 2 := by decide +kernel
theorem ydX10_firstWrong : yX10_firstWrong.cls = RX10 ∧ yX10_firstWrong.cls ≠ "java/lang/invoke/MethodHandle" ∧ yX10_firstWrong.cls ≠ "java/lang/invoke/VarHandle" ∧ (parseMethodDescriptor yX10_firstWrong.desc).map (fun d => d.parameters.length) = some 1 := by decide +kernel
theorem ysX10_commonDivisor : yX10_commonDivisor.cls ≠ "java/lang/invoke/MethodHandle" ∧ yX10_commonDivisor.cls ≠ "java/lang/invoke/VarHandle" ∧ (parseMethodDescriptor yX10_commonDivisor.desc).map (fun d => d.parameters.length) = some 2 := by decide +kernel
theorem ydX10_deny : yX10_deny.cls = RX10 ∧ yX10_deny.cls ≠ "java/lang/invoke/MethodHandle" ∧ yX10_deny.cls ≠ "java/lang/invoke/VarHandle" ∧ (parseMethodDescriptor yX10_deny.desc).map (fun d => d.parameters.length) = some 1 := by decide +kernel
theorem ydX10_grant : yX10_grant.cls = RX10 ∧ yX10_grant.cls ≠ "java/lang/invoke/MethodHandle" ∧ yX10_grant.cls ≠ "java/lang/invoke/VarHandle" ∧ (parseMethodDescriptor yX10_grant.desc).map (fun d => d.parameters.length) = some 0 := by decide +kernel
theorem ydX10_seed : yX10_seed.cls = RX10 ∧ yX10_seed.cls ≠ "java/lang/invoke/MethodHandle" ∧ yX10_seed.cls ≠ "java/lang/invoke/VarHandle" ∧ (parseMethodDescriptor yX10_seed.desc).map (fun d => d.parameters.length) = some 1 := by decide +kernel
theorem ydX10_draw : yX10_draw.cls = RX10 ∧ yX10_draw.cls ≠ "java/lang/invoke/MethodHandle" ∧ yX10_draw.cls ≠ "java/lang/invoke/VarHandle" ∧ (parseMethodDescriptor yX10_draw.desc).map (fun d => d.parameters.length) = some 0 := by decide +kernel
theorem ydX10_strike : yX10_strike.cls = RX10 ∧ yX10_strike.cls ≠ "java/lang/invoke/MethodHandle" ∧ yX10_strike.cls ≠ "java/lang/invoke/VarHandle" ∧ (parseMethodDescriptor yX10_strike.desc).map (fun d => d.parameters.length) = some 0 := by decide +kernel
theorem ydX10_size : yX10_size.cls = RX10 ∧ yX10_size.cls ≠ "java/lang/invoke/MethodHandle" ∧ yX10_size.cls ≠ "java/lang/invoke/VarHandle" ∧ (parseMethodDescriptor yX10_size.desc).map (fun d => d.parameters.length) = some 1 := by decide +kernel
theorem ydX10_noRule : yX10_noRule.cls = RX10 ∧ yX10_noRule.cls ≠ "java/lang/invoke/MethodHandle" ∧ yX10_noRule.cls ≠ "java/lang/invoke/VarHandle" ∧ (parseMethodDescriptor yX10_noRule.desc).map (fun d => d.parameters.length) = some 1 := by decide +kernel
theorem ydX10_words : yX10_words.cls = RX10 ∧ yX10_words.cls ≠ "java/lang/invoke/MethodHandle" ∧ yX10_words.cls ≠ "java/lang/invoke/VarHandle" ∧ (parseMethodDescriptor yX10_words.desc).map (fun d => d.parameters.length) = some 1 := by decide +kernel
theorem ydX10_trouble : yX10_trouble.cls = RX10 ∧ yX10_trouble.cls ≠ "java/lang/invoke/MethodHandle" ∧ yX10_trouble.cls ≠ "java/lang/invoke/VarHandle" ∧ (parseMethodDescriptor yX10_trouble.desc).map (fun d => d.parameters.length) = some 0 := by decide +kernel
theorem ysX12_rowsOf : yX12_rowsOf.cls ≠ "java/lang/invoke/MethodHandle" ∧ yX12_rowsOf.cls ≠ "java/lang/invoke/VarHandle" ∧ (parseMethodDescriptor yX12_rowsOf.desc).map (fun d => d.parameters.length) = some 2 := by decide +kernel
theorem ysX12_setsOf : yX12_setsOf.cls ≠ "java/lang/invoke/MethodHandle" ∧ yX12_setsOf.cls ≠ "java/lang/invoke/VarHandle" ∧ (parseMethodDescriptor yX12_setsOf.desc).map (fun d => d.parameters.length) = some 2 := by decide +kernel
theorem ydX11_handsOf : yX11_handsOf.cls = RX11 ∧ yX11_handsOf.cls ≠ "java/lang/invoke/MethodHandle" ∧ yX11_handsOf.cls ≠ "java/lang/invoke/VarHandle" ∧ (parseMethodDescriptor yX11_handsOf.desc).map (fun d => d.parameters.length) = some 1 := by decide +kernel
theorem ydX11_tilts : yX11_tilts.cls = RX11 ∧ yX11_tilts.cls ≠ "java/lang/invoke/MethodHandle" ∧ yX11_tilts.cls ≠ "java/lang/invoke/VarHandle" ∧ (parseMethodDescriptor yX11_tilts.desc).map (fun d => d.parameters.length) = some 0 := by decide +kernel
theorem ydX12_thrown : yX12_thrown.cls = RX12 ∧ yX12_thrown.cls ≠ "java/lang/invoke/MethodHandle" ∧ yX12_thrown.cls ≠ "java/lang/invoke/VarHandle" ∧ (parseMethodDescriptor yX12_thrown.desc).map (fun d => d.parameters.length) = some 0 := by decide +kernel
theorem ydX12_refused : yX12_refused.cls = RX12 ∧ yX12_refused.cls ≠ "java/lang/invoke/MethodHandle" ∧ yX12_refused.cls ≠ "java/lang/invoke/VarHandle" ∧ (parseMethodDescriptor yX12_refused.desc).map (fun d => d.parameters.length) = some 1 := by decide +kernel
theorem ydX12_denied : yX12_denied.cls = RX12 ∧ yX12_denied.cls ≠ "java/lang/invoke/MethodHandle" ∧ yX12_denied.cls ≠ "java/lang/invoke/VarHandle" ∧ (parseMethodDescriptor yX12_denied.desc).map (fun d => d.parameters.length) = some 1 := by decide +kernel
theorem ydX12_good : yX12_good.cls = RX12 ∧ yX12_good.cls ≠ "java/lang/invoke/MethodHandle" ∧ yX12_good.cls ≠ "java/lang/invoke/VarHandle" ∧ (parseMethodDescriptor yX12_good.desc).map (fun d => d.parameters.length) = some 1 := by decide +kernel
theorem ydX12_granted : yX12_granted.cls = RX12 ∧ yX12_granted.cls ≠ "java/lang/invoke/MethodHandle" ∧ yX12_granted.cls ≠ "java/lang/invoke/VarHandle" ∧ (parseMethodDescriptor yX12_granted.desc).map (fun d => d.parameters.length) = some 0 := by decide +kernel
theorem ysX12_in : yX12_in.cls ≠ "java/lang/invoke/MethodHandle" ∧ yX12_in.cls ≠ "java/lang/invoke/VarHandle" ∧ (parseMethodDescriptor yX12_in.desc).map (fun d => d.parameters.length) = some 3 := by decide +kernel
theorem ysX12_divisor : yX12_divisor.cls ≠ "java/lang/invoke/MethodHandle" ∧ yX12_divisor.cls ≠ "java/lang/invoke/VarHandle" ∧ (parseMethodDescriptor yX12_divisor.desc).map (fun d => d.parameters.length) = some 2 := by decide +kernel
theorem ydX12_byteAt : yX12_byteAt.cls = RX12 ∧ yX12_byteAt.cls ≠ "java/lang/invoke/MethodHandle" ∧ yX12_byteAt.cls ≠ "java/lang/invoke/VarHandle" ∧ (parseMethodDescriptor yX12_byteAt.desc).map (fun d => d.parameters.length) = some 1 := by decide +kernel
theorem ysX12_isLetter : yX12_isLetter.cls ≠ "java/lang/invoke/MethodHandle" ∧ yX12_isLetter.cls ≠ "java/lang/invoke/VarHandle" ∧ (parseMethodDescriptor yX12_isLetter.desc).map (fun d => d.parameters.length) = some 1 := by decide +kernel
theorem ysX12_isDigit : yX12_isDigit.cls ≠ "java/lang/invoke/MethodHandle" ∧ yX12_isDigit.cls ≠ "java/lang/invoke/VarHandle" ∧ (parseMethodDescriptor yX12_isDigit.desc).map (fun d => d.parameters.length) = some 1 := by decide +kernel
theorem ydX12_goesOn : yX12_goesOn.cls = RX12 ∧ yX12_goesOn.cls ≠ "java/lang/invoke/MethodHandle" ∧ yX12_goesOn.cls ≠ "java/lang/invoke/VarHandle" ∧ (parseMethodDescriptor yX12_goesOn.desc).map (fun d => d.parameters.length) = some 0 := by decide +kernel
theorem ydX12_flaw : yX12_flaw.cls = RX12 ∧ yX12_flaw.cls ≠ "java/lang/invoke/MethodHandle" ∧ yX12_flaw.cls ≠ "java/lang/invoke/VarHandle" ∧ (parseMethodDescriptor yX12_flaw.desc).map (fun d => d.parameters.length) = some 1 := by decide +kernel
theorem ydX12_eatsSign : yX12_eatsSign.cls = RX12 ∧ yX12_eatsSign.cls ≠ "java/lang/invoke/MethodHandle" ∧ yX12_eatsSign.cls ≠ "java/lang/invoke/VarHandle" ∧ (parseMethodDescriptor yX12_eatsSign.desc).map (fun d => d.parameters.length) = some 1 := by decide +kernel
theorem ydX12_needsSign : yX12_needsSign.cls = RX12 ∧ yX12_needsSign.cls ≠ "java/lang/invoke/MethodHandle" ∧ yX12_needsSign.cls ≠ "java/lang/invoke/VarHandle" ∧ (parseMethodDescriptor yX12_needsSign.desc).map (fun d => d.parameters.length) = some 1 := by decide +kernel
theorem ydX12_bounded : yX12_bounded.cls = RX12 ∧ yX12_bounded.cls ≠ "java/lang/invoke/MethodHandle" ∧ yX12_bounded.cls ≠ "java/lang/invoke/VarHandle" ∧ (parseMethodDescriptor yX12_bounded.desc).map (fun d => d.parameters.length) = some 2 := by decide +kernel
theorem ydX12_begins : yX12_begins.cls = RX12 ∧ yX12_begins.cls ≠ "java/lang/invoke/MethodHandle" ∧ yX12_begins.cls ≠ "java/lang/invoke/VarHandle" ∧ (parseMethodDescriptor yX12_begins.desc).map (fun d => d.parameters.length) = some 2 := by decide +kernel
theorem ydX12_readUnlike : yX12_readUnlike.cls = RX12 ∧ yX12_readUnlike.cls ≠ "java/lang/invoke/MethodHandle" ∧ yX12_readUnlike.cls ≠ "java/lang/invoke/VarHandle" ∧ (parseMethodDescriptor yX12_readUnlike.desc).map (fun d => d.parameters.length) = some 4 := by decide +kernel
theorem ydX12_readPlaces : yX12_readPlaces.cls = RX12 ∧ yX12_readPlaces.cls ≠ "java/lang/invoke/MethodHandle" ∧ yX12_readPlaces.cls ≠ "java/lang/invoke/VarHandle" ∧ (parseMethodDescriptor yX12_readPlaces.desc).map (fun d => d.parameters.length) = some 0 := by decide +kernel
theorem ydX12_feed : yX12_feed.cls = RX12 ∧ yX12_feed.cls ≠ "java/lang/invoke/MethodHandle" ∧ yX12_feed.cls ≠ "java/lang/invoke/VarHandle" ∧ (parseMethodDescriptor yX12_feed.desc).map (fun d => d.parameters.length) = some 5 := by decide +kernel
theorem ydX12_fault : yX12_fault.cls = RX12 ∧ yX12_fault.cls ≠ "java/lang/invoke/MethodHandle" ∧ yX12_fault.cls ≠ "java/lang/invoke/VarHandle" ∧ (parseMethodDescriptor yX12_fault.desc).map (fun d => d.parameters.length) = some 0 := by decide +kernel
theorem ydX12_where : yX12_where.cls = RX12 ∧ yX12_where.cls ≠ "java/lang/invoke/MethodHandle" ∧ yX12_where.cls ≠ "java/lang/invoke/VarHandle" ∧ (parseMethodDescriptor yX12_where.desc).map (fun d => d.parameters.length) = some 0 := by decide +kernel
theorem ydX12_isPicked : yX12_isPicked.cls = RX12 ∧ yX12_isPicked.cls ≠ "java/lang/invoke/MethodHandle" ∧ yX12_isPicked.cls ≠ "java/lang/invoke/VarHandle" ∧ (parseMethodDescriptor yX12_isPicked.desc).map (fun d => d.parameters.length) = some 2 := by decide +kernel
theorem ydX12_next : yX12_next.cls = RX12 ∧ yX12_next.cls ≠ "java/lang/invoke/MethodHandle" ∧ yX12_next.cls ≠ "java/lang/invoke/VarHandle" ∧ (parseMethodDescriptor yX12_next.desc).map (fun d => d.parameters.length) = some 1 := by decide +kernel
theorem ydX12_deals : yX12_deals.cls = RX12 ∧ yX12_deals.cls ≠ "java/lang/invoke/MethodHandle" ∧ yX12_deals.cls ≠ "java/lang/invoke/VarHandle" ∧ (parseMethodDescriptor yX12_deals.desc).map (fun d => d.parameters.length) = some 0 := by decide +kernel
theorem ydX12_cardOf : yX12_cardOf.cls = RX12 ∧ yX12_cardOf.cls ≠ "java/lang/invoke/MethodHandle" ∧ yX12_cardOf.cls ≠ "java/lang/invoke/VarHandle" ∧ (parseMethodDescriptor yX12_cardOf.desc).map (fun d => d.parameters.length) = some 2 := by decide +kernel
theorem ydX12_has : yX12_has.cls = RX12 ∧ yX12_has.cls ≠ "java/lang/invoke/MethodHandle" ∧ yX12_has.cls ≠ "java/lang/invoke/VarHandle" ∧ (parseMethodDescriptor yX12_has.desc).map (fun d => d.parameters.length) = some 2 := by decide +kernel
theorem ydX12_handNumber : yX12_handNumber.cls = RX12 ∧ yX12_handNumber.cls ≠ "java/lang/invoke/MethodHandle" ∧ yX12_handNumber.cls ≠ "java/lang/invoke/VarHandle" ∧ (parseMethodDescriptor yX12_handNumber.desc).map (fun d => d.parameters.length) = some 2 := by decide +kernel
theorem ydX12_rowNumber : yX12_rowNumber.cls = RX12 ∧ yX12_rowNumber.cls ≠ "java/lang/invoke/MethodHandle" ∧ yX12_rowNumber.cls ≠ "java/lang/invoke/VarHandle" ∧ (parseMethodDescriptor yX12_rowNumber.desc).map (fun d => d.parameters.length) = some 2 := by decide +kernel
theorem ydX12_rowCards : yX12_rowCards.cls = RX12 ∧ yX12_rowCards.cls ≠ "java/lang/invoke/MethodHandle" ∧ yX12_rowCards.cls ≠ "java/lang/invoke/VarHandle" ∧ (parseMethodDescriptor yX12_rowCards.desc).map (fun d => d.parameters.length) = some 2 := by decide +kernel
theorem ydX12_rowMany : yX12_rowMany.cls = RX12 ∧ yX12_rowMany.cls ≠ "java/lang/invoke/MethodHandle" ∧ yX12_rowMany.cls ≠ "java/lang/invoke/VarHandle" ∧ (parseMethodDescriptor yX12_rowMany.desc).map (fun d => d.parameters.length) = some 0 := by decide +kernel
theorem ydX12_isHand : yX12_isHand.cls = RX12 ∧ yX12_isHand.cls ≠ "java/lang/invoke/MethodHandle" ∧ yX12_isHand.cls ≠ "java/lang/invoke/VarHandle" ∧ (parseMethodDescriptor yX12_isHand.desc).map (fun d => d.parameters.length) = some 1 := by decide +kernel
theorem ydX12_isRow : yX12_isRow.cls = RX12 ∧ yX12_isRow.cls ≠ "java/lang/invoke/MethodHandle" ∧ yX12_isRow.cls ≠ "java/lang/invoke/VarHandle" ∧ (parseMethodDescriptor yX12_isRow.desc).map (fun d => d.parameters.length) = some 1 := by decide +kernel
theorem ydX12_hands : yX12_hands.cls = RX12 ∧ yX12_hands.cls ≠ "java/lang/invoke/MethodHandle" ∧ yX12_hands.cls ≠ "java/lang/invoke/VarHandle" ∧ (parseMethodDescriptor yX12_hands.desc).map (fun d => d.parameters.length) = some 0 := by decide +kernel
theorem ydX12_rows : yX12_rows.cls = RX12 ∧ yX12_rows.cls ≠ "java/lang/invoke/MethodHandle" ∧ yX12_rows.cls ≠ "java/lang/invoke/VarHandle" ∧ (parseMethodDescriptor yX12_rows.desc).map (fun d => d.parameters.length) = some 0 := by decide +kernel
theorem ydX12_hand : yX12_hand.cls = RX12 ∧ yX12_hand.cls ≠ "java/lang/invoke/MethodHandle" ∧ yX12_hand.cls ≠ "java/lang/invoke/VarHandle" ∧ (parseMethodDescriptor yX12_hand.desc).map (fun d => d.parameters.length) = some 2 := by decide +kernel
theorem ydX12_handOf : yX12_handOf.cls = RX12 ∧ yX12_handOf.cls ≠ "java/lang/invoke/MethodHandle" ∧ yX12_handOf.cls ≠ "java/lang/invoke/VarHandle" ∧ (parseMethodDescriptor yX12_handOf.desc).map (fun d => d.parameters.length) = some 5 := by decide +kernel
theorem ydX12_row : yX12_row.cls = RX12 ∧ yX12_row.cls ≠ "java/lang/invoke/MethodHandle" ∧ yX12_row.cls ≠ "java/lang/invoke/VarHandle" ∧ (parseMethodDescriptor yX12_row.desc).map (fun d => d.parameters.length) = some 2 := by decide +kernel
theorem ydX12_tilted : yX12_tilted.cls = RX12 ∧ yX12_tilted.cls ≠ "java/lang/invoke/MethodHandle" ∧ yX12_tilted.cls ≠ "java/lang/invoke/VarHandle" ∧ (parseMethodDescriptor yX12_tilted.desc).map (fun d => d.parameters.length) = some 1 := by decide +kernel
theorem ydX12_rowFits : yX12_rowFits.cls = RX12 ∧ yX12_rowFits.cls ≠ "java/lang/invoke/MethodHandle" ∧ yX12_rowFits.cls ≠ "java/lang/invoke/VarHandle" ∧ (parseMethodDescriptor yX12_rowFits.desc).map (fun d => d.parameters.length) = some 2 := by decide +kernel
theorem ydX12_fits : yX12_fits.cls = RX12 ∧ yX12_fits.cls ≠ "java/lang/invoke/MethodHandle" ∧ yX12_fits.cls ≠ "java/lang/invoke/VarHandle" ∧ (parseMethodDescriptor yX12_fits.desc).map (fun d => d.parameters.length) = some 2 := by decide +kernel
theorem ydX12_isOneOrder : yX12_isOneOrder.cls = RX12 ∧ yX12_isOneOrder.cls ≠ "java/lang/invoke/MethodHandle" ∧ yX12_isOneOrder.cls ≠ "java/lang/invoke/VarHandle" ∧ (parseMethodDescriptor yX12_isOneOrder.desc).map (fun d => d.parameters.length) = some 0 := by decide +kernel
theorem ydX12_fittingMany : yX12_fittingMany.cls = RX12 ∧ yX12_fittingMany.cls ≠ "java/lang/invoke/MethodHandle" ∧ yX12_fittingMany.cls ≠ "java/lang/invoke/VarHandle" ∧ (parseMethodDescriptor yX12_fittingMany.desc).map (fun d => d.parameters.length) = some 0 := by decide +kernel
theorem ydX12_fitting : yX12_fitting.cls = RX12 ∧ yX12_fitting.cls ≠ "java/lang/invoke/MethodHandle" ∧ yX12_fitting.cls ≠ "java/lang/invoke/VarHandle" ∧ (parseMethodDescriptor yX12_fitting.desc).map (fun d => d.parameters.length) = some 0 := by decide +kernel
theorem ydX12_laysCodes : yX12_laysCodes.cls = RX12 ∧ yX12_laysCodes.cls ≠ "java/lang/invoke/MethodHandle" ∧ yX12_laysCodes.cls ≠ "java/lang/invoke/VarHandle" ∧ (parseMethodDescriptor yX12_laysCodes.desc).map (fun d => d.parameters.length) = some 0 := by decide +kernel
theorem ydX12_puts : yX12_puts.cls = RX12 ∧ yX12_puts.cls ≠ "java/lang/invoke/MethodHandle" ∧ yX12_puts.cls ≠ "java/lang/invoke/VarHandle" ∧ (parseMethodDescriptor yX12_puts.desc).map (fun d => d.parameters.length) = some 1 := by decide +kernel
theorem ydX12_fitsOf : yX12_fitsOf.cls = RX12 ∧ yX12_fitsOf.cls ≠ "java/lang/invoke/MethodHandle" ∧ yX12_fitsOf.cls ≠ "java/lang/invoke/VarHandle" ∧ (parseMethodDescriptor yX12_fitsOf.desc).map (fun d => d.parameters.length) = some 1 := by decide +kernel
theorem ydX12_sorts : yX12_sorts.cls = RX12 ∧ yX12_sorts.cls ≠ "java/lang/invoke/MethodHandle" ∧ yX12_sorts.cls ≠ "java/lang/invoke/VarHandle" ∧ (parseMethodDescriptor yX12_sorts.desc).map (fun d => d.parameters.length) = some 1 := by decide +kernel
theorem ydX12_keepsAt : yX12_keepsAt.cls = RX12 ∧ yX12_keepsAt.cls ≠ "java/lang/invoke/MethodHandle" ∧ yX12_keepsAt.cls ≠ "java/lang/invoke/VarHandle" ∧ (parseMethodDescriptor yX12_keepsAt.desc).map (fun d => d.parameters.length) = some 1 := by decide +kernel
theorem ydX12_tells : yX12_tells.cls = RX12 ∧ yX12_tells.cls ≠ "java/lang/invoke/MethodHandle" ∧ yX12_tells.cls ≠ "java/lang/invoke/VarHandle" ∧ (parseMethodDescriptor yX12_tells.desc).map (fun d => d.parameters.length) = some 4 := by decide +kernel
theorem ydX12_orders : yX12_orders.cls = RX12 ∧ yX12_orders.cls ≠ "java/lang/invoke/MethodHandle" ∧ yX12_orders.cls ≠ "java/lang/invoke/VarHandle" ∧ (parseMethodDescriptor yX12_orders.desc).map (fun d => d.parameters.length) = some 2 := by decide +kernel
theorem ydX12_laysWords : yX12_laysWords.cls = RX12 ∧ yX12_laysWords.cls ≠ "java/lang/invoke/MethodHandle" ∧ yX12_laysWords.cls ≠ "java/lang/invoke/VarHandle" ∧ (parseMethodDescriptor yX12_laysWords.desc).map (fun d => d.parameters.length) = some 2 := by decide +kernel
theorem ydX12_laysSuit : yX12_laysSuit.cls = RX12 ∧ yX12_laysSuit.cls ≠ "java/lang/invoke/MethodHandle" ∧ yX12_laysSuit.cls ≠ "java/lang/invoke/VarHandle" ∧ (parseMethodDescriptor yX12_laysSuit.desc).map (fun d => d.parameters.length) = some 1 := by decide +kernel
theorem ydX12_clearOwners : yX12_clearOwners.cls = RX12 ∧ yX12_clearOwners.cls ≠ "java/lang/invoke/MethodHandle" ∧ yX12_clearOwners.cls ≠ "java/lang/invoke/VarHandle" ∧ (parseMethodDescriptor yX12_clearOwners.desc).map (fun d => d.parameters.length) = some 0 := by decide +kernel
theorem ydX12_slot : yX12_slot.cls = RX12 ∧ yX12_slot.cls ≠ "java/lang/invoke/MethodHandle" ∧ yX12_slot.cls ≠ "java/lang/invoke/VarHandle" ∧ (parseMethodDescriptor yX12_slot.desc).map (fun d => d.parameters.length) = some 1 := by decide +kernel
theorem ydX12_ownerOf : yX12_ownerOf.cls = RX12 ∧ yX12_ownerOf.cls ≠ "java/lang/invoke/MethodHandle" ∧ yX12_ownerOf.cls ≠ "java/lang/invoke/VarHandle" ∧ (parseMethodDescriptor yX12_ownerOf.desc).map (fun d => d.parameters.length) = some 1 := by decide +kernel
theorem ydX12_owns : yX12_owns.cls = RX12 ∧ yX12_owns.cls ≠ "java/lang/invoke/MethodHandle" ∧ yX12_owns.cls ≠ "java/lang/invoke/VarHandle" ∧ (parseMethodDescriptor yX12_owns.desc).map (fun d => d.parameters.length) = some 2 := by decide +kernel
theorem ydX12_takes : yX12_takes.cls = RX12 ∧ yX12_takes.cls ≠ "java/lang/invoke/MethodHandle" ∧ yX12_takes.cls ≠ "java/lang/invoke/VarHandle" ∧ (parseMethodDescriptor yX12_takes.desc).map (fun d => d.parameters.length) = some 2 := by decide +kernel
theorem ydX12_goesOnFrom : yX12_goesOnFrom.cls = RX12 ∧ yX12_goesOnFrom.cls ≠ "java/lang/invoke/MethodHandle" ∧ yX12_goesOnFrom.cls ≠ "java/lang/invoke/VarHandle" ∧ (parseMethodDescriptor yX12_goesOnFrom.desc).map (fun d => d.parameters.length) = some 3 := by decide +kernel
theorem ydX12_pairsNow : yX12_pairsNow.cls = RX12 ∧ yX12_pairsNow.cls ≠ "java/lang/invoke/MethodHandle" ∧ yX12_pairsNow.cls ≠ "java/lang/invoke/VarHandle" ∧ (parseMethodDescriptor yX12_pairsNow.desc).map (fun d => d.parameters.length) = some 0 := by decide +kernel
theorem ydX12_settles : yX12_settles.cls = RX12 ∧ yX12_settles.cls ≠ "java/lang/invoke/MethodHandle" ∧ yX12_settles.cls ≠ "java/lang/invoke/VarHandle" ∧ (parseMethodDescriptor yX12_settles.desc).map (fun d => d.parameters.length) = some 2 := by decide +kernel
theorem ydX12_knowsTable : yX12_knowsTable.cls = RX12 ∧ yX12_knowsTable.cls ≠ "java/lang/invoke/MethodHandle" ∧ yX12_knowsTable.cls ≠ "java/lang/invoke/VarHandle" ∧ (parseMethodDescriptor yX12_knowsTable.desc).map (fun d => d.parameters.length) = some 0 := by decide +kernel
theorem ydX12_laysNow : yX12_laysNow.cls = RX12 ∧ yX12_laysNow.cls ≠ "java/lang/invoke/MethodHandle" ∧ yX12_laysNow.cls ≠ "java/lang/invoke/VarHandle" ∧ (parseMethodDescriptor yX12_laysNow.desc).map (fun d => d.parameters.length) = some 2 := by decide +kernel
theorem ydX12_isRule : yX12_isRule.cls = RX12 ∧ yX12_isRule.cls ≠ "java/lang/invoke/MethodHandle" ∧ yX12_isRule.cls ≠ "java/lang/invoke/VarHandle" ∧ (parseMethodDescriptor yX12_isRule.desc).map (fun d => d.parameters.length) = some 1 := by decide +kernel
theorem ydX12_lays : yX12_lays.cls = RX12 ∧ yX12_lays.cls ≠ "java/lang/invoke/MethodHandle" ∧ yX12_lays.cls ≠ "java/lang/invoke/VarHandle" ∧ (parseMethodDescriptor yX12_lays.desc).map (fun d => d.parameters.length) = some 2 := by decide +kernel
theorem ydX12_kept : yX12_kept.cls = RX12 ∧ yX12_kept.cls ≠ "java/lang/invoke/MethodHandle" ∧ yX12_kept.cls ≠ "java/lang/invoke/VarHandle" ∧ (parseMethodDescriptor yX12_kept.desc).map (fun d => d.parameters.length) = some 3 := by decide +kernel
theorem ydX12_laysAll : yX12_laysAll.cls = RX12 ∧ yX12_laysAll.cls ≠ "java/lang/invoke/MethodHandle" ∧ yX12_laysAll.cls ≠ "java/lang/invoke/VarHandle" ∧ (parseMethodDescriptor yX12_laysAll.desc).map (fun d => d.parameters.length) = some 1 := by decide +kernel
theorem ydX12_laysAllWords : yX12_laysAllWords.cls = RX12 ∧ yX12_laysAllWords.cls ≠ "java/lang/invoke/MethodHandle" ∧ yX12_laysAllWords.cls ≠ "java/lang/invoke/VarHandle" ∧ (parseMethodDescriptor yX12_laysAllWords.desc).map (fun d => d.parameters.length) = some 1 := by decide +kernel
theorem ydX12_firstWith : yX12_firstWith.cls = RX12 ∧ yX12_firstWith.cls ≠ "java/lang/invoke/MethodHandle" ∧ yX12_firstWith.cls ≠ "java/lang/invoke/VarHandle" ∧ (parseMethodDescriptor yX12_firstWith.desc).map (fun d => d.parameters.length) = some 1 := by decide +kernel
theorem ydX12_says : yX12_says.cls = RX12 ∧ yX12_says.cls ≠ "java/lang/invoke/MethodHandle" ∧ yX12_says.cls ≠ "java/lang/invoke/VarHandle" ∧ (parseMethodDescriptor yX12_says.desc).map (fun d => d.parameters.length) = some 2 := by decide +kernel
theorem ydX12_clashNow : yX12_clashNow.cls = RX12 ∧ yX12_clashNow.cls ≠ "java/lang/invoke/MethodHandle" ∧ yX12_clashNow.cls ≠ "java/lang/invoke/VarHandle" ∧ (parseMethodDescriptor yX12_clashNow.desc).map (fun d => d.parameters.length) = some 0 := by decide +kernel
theorem ydX12_isWorking : yX12_isWorking.cls = RX12 ∧ yX12_isWorking.cls ≠ "java/lang/invoke/MethodHandle" ∧ yX12_isWorking.cls ≠ "java/lang/invoke/VarHandle" ∧ (parseMethodDescriptor yX12_isWorking.desc).map (fun d => d.parameters.length) = some 0 := by decide +kernel
theorem ydX12_works : yX12_works.cls = RX12 ∧ yX12_works.cls ≠ "java/lang/invoke/MethodHandle" ∧ yX12_works.cls ≠ "java/lang/invoke/VarHandle" ∧ (parseMethodDescriptor yX12_works.desc).map (fun d => d.parameters.length) = some 1 := by decide +kernel
theorem ydX12_clash : yX12_clash.cls = RX12 ∧ yX12_clash.cls ≠ "java/lang/invoke/MethodHandle" ∧ yX12_clash.cls ≠ "java/lang/invoke/VarHandle" ∧ (parseMethodDescriptor yX12_clash.desc).map (fun d => d.parameters.length) = some 2 := by decide +kernel
theorem ydX12_laid : yX12_laid.cls = RX12 ∧ yX12_laid.cls ≠ "java/lang/invoke/MethodHandle" ∧ yX12_laid.cls ≠ "java/lang/invoke/VarHandle" ∧ (parseMethodDescriptor yX12_laid.desc).map (fun d => d.parameters.length) = some 1 := by decide +kernel
theorem ydX12_fails : yX12_fails.cls = RX12 ∧ yX12_fails.cls ≠ "java/lang/invoke/MethodHandle" ∧ yX12_fails.cls ≠ "java/lang/invoke/VarHandle" ∧ (parseMethodDescriptor yX12_fails.desc).map (fun d => d.parameters.length) = some 1 := by decide +kernel
theorem ydX12_becomes : yX12_becomes.cls = RX12 ∧ yX12_becomes.cls ≠ "java/lang/invoke/MethodHandle" ∧ yX12_becomes.cls ≠ "java/lang/invoke/VarHandle" ∧ (parseMethodDescriptor yX12_becomes.desc).map (fun d => d.parameters.length) = some 2 := by decide +kernel
theorem ydX12_isOwned : yX12_isOwned.cls = RX12 ∧ yX12_isOwned.cls ≠ "java/lang/invoke/MethodHandle" ∧ yX12_isOwned.cls ≠ "java/lang/invoke/VarHandle" ∧ (parseMethodDescriptor yX12_isOwned.desc).map (fun d => d.parameters.length) = some 1 := by decide +kernel
theorem ydX12_isSeen : yX12_isSeen.cls = RX12 ∧ yX12_isSeen.cls ≠ "java/lang/invoke/MethodHandle" ∧ yX12_isSeen.cls ≠ "java/lang/invoke/VarHandle" ∧ (parseMethodDescriptor yX12_isSeen.desc).map (fun d => d.parameters.length) = some 0 := by decide +kernel
theorem ydX12_ownsLaid : yX12_ownsLaid.cls = RX12 ∧ yX12_ownsLaid.cls ≠ "java/lang/invoke/MethodHandle" ∧ yX12_ownsLaid.cls ≠ "java/lang/invoke/VarHandle" ∧ (parseMethodDescriptor yX12_ownsLaid.desc).map (fun d => d.parameters.length) = some 0 := by decide +kernel
theorem ydX12_seen : yX12_seen.cls = RX12 ∧ yX12_seen.cls ≠ "java/lang/invoke/MethodHandle" ∧ yX12_seen.cls ≠ "java/lang/invoke/VarHandle" ∧ (parseMethodDescriptor yX12_seen.desc).map (fun d => d.parameters.length) = some 1 := by decide +kernel
theorem ydX12_isBorne : yX12_isBorne.cls = RX12 ∧ yX12_isBorne.cls ≠ "java/lang/invoke/MethodHandle" ∧ yX12_isBorne.cls ≠ "java/lang/invoke/VarHandle" ∧ (parseMethodDescriptor yX12_isBorne.desc).map (fun d => d.parameters.length) = some 0 := by decide +kernel
theorem ydX12_borne : yX12_borne.cls = RX12 ∧ yX12_borne.cls ≠ "java/lang/invoke/MethodHandle" ∧ yX12_borne.cls ≠ "java/lang/invoke/VarHandle" ∧ (parseMethodDescriptor yX12_borne.desc).map (fun d => d.parameters.length) = some 1 := by decide +kernel
theorem ydX12_wordsWork : yX12_wordsWork.cls = RX12 ∧ yX12_wordsWork.cls ≠ "java/lang/invoke/MethodHandle" ∧ yX12_wordsWork.cls ≠ "java/lang/invoke/VarHandle" ∧ (parseMethodDescriptor yX12_wordsWork.desc).map (fun d => d.parameters.length) = some 1 := by decide +kernel
theorem ydX12_shortest : yX12_shortest.cls = RX12 ∧ yX12_shortest.cls ≠ "java/lang/invoke/MethodHandle" ∧ yX12_shortest.cls ≠ "java/lang/invoke/VarHandle" ∧ (parseMethodDescriptor yX12_shortest.desc).map (fun d => d.parameters.length) = some 0 := by decide +kernel
theorem ydX12_pairs : yX12_pairs.cls = RX12 ∧ yX12_pairs.cls ≠ "java/lang/invoke/MethodHandle" ∧ yX12_pairs.cls ≠ "java/lang/invoke/VarHandle" ∧ (parseMethodDescriptor yX12_pairs.desc).map (fun d => d.parameters.length) = some 0 := by decide +kernel
theorem ydX12_table : yX12_table.cls = RX12 ∧ yX12_table.cls ≠ "java/lang/invoke/MethodHandle" ∧ yX12_table.cls ≠ "java/lang/invoke/VarHandle" ∧ (parseMethodDescriptor yX12_table.desc).map (fun d => d.parameters.length) = some 1 := by decide +kernel
theorem ydX12_countOf : yX12_countOf.cls = RX12 ∧ yX12_countOf.cls ≠ "java/lang/invoke/MethodHandle" ∧ yX12_countOf.cls ≠ "java/lang/invoke/VarHandle" ∧ (parseMethodDescriptor yX12_countOf.desc).map (fun d => d.parameters.length) = some 2 := by decide +kernel
theorem ydX12_count : yX12_count.cls = RX12 ∧ yX12_count.cls ≠ "java/lang/invoke/MethodHandle" ∧ yX12_count.cls ≠ "java/lang/invoke/VarHandle" ∧ (parseMethodDescriptor yX12_count.desc).map (fun d => d.parameters.length) = some 2 := by decide +kernel
theorem ydX12_most : yX12_most.cls = RX12 ∧ yX12_most.cls ≠ "java/lang/invoke/MethodHandle" ∧ yX12_most.cls ≠ "java/lang/invoke/VarHandle" ∧ (parseMethodDescriptor yX12_most.desc).map (fun d => d.parameters.length) = some 0 := by decide +kernel
theorem ydX12_isEvening : yX12_isEvening.cls = RX12 ∧ yX12_isEvening.cls ≠ "java/lang/invoke/MethodHandle" ∧ yX12_isEvening.cls ≠ "java/lang/invoke/VarHandle" ∧ (parseMethodDescriptor yX12_isEvening.desc).map (fun d => d.parameters.length) = some 1 := by decide +kernel
theorem ydX12_judge : yX12_judge.cls = RX12 ∧ yX12_judge.cls ≠ "java/lang/invoke/MethodHandle" ∧ yX12_judge.cls ≠ "java/lang/invoke/VarHandle" ∧ (parseMethodDescriptor yX12_judge.desc).map (fun d => d.parameters.length) = some 1 := by decide +kernel
theorem ydX12_evening : yX12_evening.cls = RX12 ∧ yX12_evening.cls ≠ "java/lang/invoke/MethodHandle" ∧ yX12_evening.cls ≠ "java/lang/invoke/VarHandle" ∧ (parseMethodDescriptor yX12_evening.desc).map (fun d => d.parameters.length) = some 2 := by decide +kernel
theorem ydX12_agreesWith : yX12_agreesWith.cls = RX12 ∧ yX12_agreesWith.cls ≠ "java/lang/invoke/MethodHandle" ∧ yX12_agreesWith.cls ≠ "java/lang/invoke/VarHandle" ∧ (parseMethodDescriptor yX12_agreesWith.desc).map (fun d => d.parameters.length) = some 2 := by decide +kernel
theorem ydX12_agrees : yX12_agrees.cls = RX12 ∧ yX12_agrees.cls ≠ "java/lang/invoke/MethodHandle" ∧ yX12_agrees.cls ≠ "java/lang/invoke/VarHandle" ∧ (parseMethodDescriptor yX12_agrees.desc).map (fun d => d.parameters.length) = some 1 := by decide +kernel
theorem ydX12_firstWrong : yX12_firstWrong.cls = RX12 ∧ yX12_firstWrong.cls ≠ "java/lang/invoke/MethodHandle" ∧ yX12_firstWrong.cls ≠ "java/lang/invoke/VarHandle" ∧ (parseMethodDescriptor yX12_firstWrong.desc).map (fun d => d.parameters.length) = some 1 := by decide +kernel
theorem ydX12_wrong : yX12_wrong.cls = RX12 ∧ yX12_wrong.cls ≠ "java/lang/invoke/MethodHandle" ∧ yX12_wrong.cls ≠ "java/lang/invoke/VarHandle" ∧ (parseMethodDescriptor yX12_wrong.desc).map (fun d => d.parameters.length) = some 1 := by decide +kernel
theorem ydX12_found : yX12_found.cls = RX12 ∧ yX12_found.cls ≠ "java/lang/invoke/MethodHandle" ∧ yX12_found.cls ≠ "java/lang/invoke/VarHandle" ∧ (parseMethodDescriptor yX12_found.desc).map (fun d => d.parameters.length) = some 0 := by decide +kernel
theorem ydX12_apartNow : yX12_apartNow.cls = RX12 ∧ yX12_apartNow.cls ≠ "java/lang/invoke/MethodHandle" ∧ yX12_apartNow.cls ≠ "java/lang/invoke/VarHandle" ∧ (parseMethodDescriptor yX12_apartNow.desc).map (fun d => d.parameters.length) = some 2 := by decide +kernel
theorem ydX12_areRules : yX12_areRules.cls = RX12 ∧ yX12_areRules.cls ≠ "java/lang/invoke/MethodHandle" ∧ yX12_areRules.cls ≠ "java/lang/invoke/VarHandle" ∧ (parseMethodDescriptor yX12_areRules.desc).map (fun d => d.parameters.length) = some 2 := by decide +kernel
theorem ydX12_apart : yX12_apart.cls = RX12 ∧ yX12_apart.cls ≠ "java/lang/invoke/MethodHandle" ∧ yX12_apart.cls ≠ "java/lang/invoke/VarHandle" ∧ (parseMethodDescriptor yX12_apart.desc).map (fun d => d.parameters.length) = some 2 := by decide +kernel
theorem ydX12_mean : yX12_mean.cls = RX12 ∧ yX12_mean.cls ≠ "java/lang/invoke/MethodHandle" ∧ yX12_mean.cls ≠ "java/lang/invoke/VarHandle" ∧ (parseMethodDescriptor yX12_mean.desc).map (fun d => d.parameters.length) = some 3 := by decide +kernel
theorem ydX12_hardest : yX12_hardest.cls = RX12 ∧ yX12_hardest.cls ≠ "java/lang/invoke/MethodHandle" ∧ yX12_hardest.cls ≠ "java/lang/invoke/VarHandle" ∧ (parseMethodDescriptor yX12_hardest.desc).map (fun d => d.parameters.length) = some 0 := by decide +kernel
theorem ydX12_shows : yX12_shows.cls = RX12 ∧ yX12_shows.cls ≠ "java/lang/invoke/MethodHandle" ∧ yX12_shows.cls ≠ "java/lang/invoke/VarHandle" ∧ (parseMethodDescriptor yX12_shows.desc).map (fun d => d.parameters.length) = some 2 := by decide +kernel
theorem ydX12_seed : yX12_seed.cls = RX12 ∧ yX12_seed.cls ≠ "java/lang/invoke/MethodHandle" ∧ yX12_seed.cls ≠ "java/lang/invoke/VarHandle" ∧ (parseMethodDescriptor yX12_seed.desc).map (fun d => d.parameters.length) = some 1 := by decide +kernel
theorem ydX12_draw : yX12_draw.cls = RX12 ∧ yX12_draw.cls ≠ "java/lang/invoke/MethodHandle" ∧ yX12_draw.cls ≠ "java/lang/invoke/VarHandle" ∧ (parseMethodDescriptor yX12_draw.desc).map (fun d => d.parameters.length) = some 0 := by decide +kernel
theorem ydX12_strike : yX12_strike.cls = RX12 ∧ yX12_strike.cls ≠ "java/lang/invoke/MethodHandle" ∧ yX12_strike.cls ≠ "java/lang/invoke/VarHandle" ∧ (parseMethodDescriptor yX12_strike.desc).map (fun d => d.parameters.length) = some 0 := by decide +kernel
theorem ydX12_image : yX12_image.cls = RX12 ∧ yX12_image.cls ≠ "java/lang/invoke/MethodHandle" ∧ yX12_image.cls ≠ "java/lang/invoke/VarHandle" ∧ (parseMethodDescriptor yX12_image.desc).map (fun d => d.parameters.length) = some 0 := by decide +kernel
theorem ydX12_back : yX12_back.cls = RX12 ∧ yX12_back.cls ≠ "java/lang/invoke/MethodHandle" ∧ yX12_back.cls ≠ "java/lang/invoke/VarHandle" ∧ (parseMethodDescriptor yX12_back.desc).map (fun d => d.parameters.length) = some 1 := by decide +kernel
theorem ydX12_led : yX12_led.cls = RX12 ∧ yX12_led.cls ≠ "java/lang/invoke/MethodHandle" ∧ yX12_led.cls ≠ "java/lang/invoke/VarHandle" ∧ (parseMethodDescriptor yX12_led.desc).map (fun d => d.parameters.length) = some 2 := by decide +kernel
theorem ydX12_size : yX12_size.cls = RX12 ∧ yX12_size.cls ≠ "java/lang/invoke/MethodHandle" ∧ yX12_size.cls ≠ "java/lang/invoke/VarHandle" ∧ (parseMethodDescriptor yX12_size.desc).map (fun d => d.parameters.length) = some 1 := by decide +kernel
theorem ydX12_words : yX12_words.cls = RX12 ∧ yX12_words.cls ≠ "java/lang/invoke/MethodHandle" ∧ yX12_words.cls ≠ "java/lang/invoke/VarHandle" ∧ (parseMethodDescriptor yX12_words.desc).map (fun d => d.parameters.length) = some 1 := by decide +kernel
theorem ydX12_trouble : yX12_trouble.cls = RX12 ∧ yX12_trouble.cls ≠ "java/lang/invoke/MethodHandle" ∧ yX12_trouble.cls ≠ "java/lang/invoke/VarHandle" ∧ (parseMethodDescriptor yX12_trouble.desc).map (fun d => d.parameters.length) = some 0 := by decide +kernel
theorem ydX1_become : yX1_become.cls = RX1 ∧ yX1_become.cls ≠ "java/lang/invoke/MethodHandle" ∧ yX1_become.cls ≠ "java/lang/invoke/VarHandle" ∧ (parseMethodDescriptor yX1_become.desc).map (fun d => d.parameters.length) = some 1 := by decide +kernel
theorem ydX7_is : yX7_is.cls = RX7 ∧ yX7_is.cls ≠ "java/lang/invoke/MethodHandle" ∧ yX7_is.cls ≠ "java/lang/invoke/VarHandle" ∧ (parseMethodDescriptor yX7_is.desc).map (fun d => d.parameters.length) = some 1 := by decide +kernel
theorem ydX7_passWhole : yX7_passWhole.cls = RX7 ∧ yX7_passWhole.cls ≠ "java/lang/invoke/MethodHandle" ∧ yX7_passWhole.cls ≠ "java/lang/invoke/VarHandle" ∧ (parseMethodDescriptor yX7_passWhole.desc).map (fun d => d.parameters.length) = some 3 := by decide +kernel
theorem ydX7_pass : yX7_pass.cls = RX7 ∧ yX7_pass.cls ≠ "java/lang/invoke/MethodHandle" ∧ yX7_pass.cls ≠ "java/lang/invoke/VarHandle" ∧ (parseMethodDescriptor yX7_pass.desc).map (fun d => d.parameters.length) = some 1 := by decide +kernel
theorem ydX7_readSuits : yX7_readSuits.cls = RX7 ∧ yX7_readSuits.cls ≠ "java/lang/invoke/MethodHandle" ∧ yX7_readSuits.cls ≠ "java/lang/invoke/VarHandle" ∧ (parseMethodDescriptor yX7_readSuits.desc).map (fun d => d.parameters.length) = some 1 := by decide +kernel
theorem ydX7_readWay : yX7_readWay.cls = RX7 ∧ yX7_readWay.cls ≠ "java/lang/invoke/MethodHandle" ∧ yX7_readWay.cls ≠ "java/lang/invoke/VarHandle" ∧ (parseMethodDescriptor yX7_readWay.desc).map (fun d => d.parameters.length) = some 1 := by decide +kernel
theorem ydX7_readTrick : yX7_readTrick.cls = RX7 ∧ yX7_readTrick.cls ≠ "java/lang/invoke/MethodHandle" ∧ yX7_readTrick.cls ≠ "java/lang/invoke/VarHandle" ∧ (parseMethodDescriptor yX7_readTrick.desc).map (fun d => d.parameters.length) = some 0 := by decide +kernel
theorem ydX7_readName : yX7_readName.cls = RX7 ∧ yX7_readName.cls ≠ "java/lang/invoke/MethodHandle" ∧ yX7_readName.cls ≠ "java/lang/invoke/VarHandle" ∧ (parseMethodDescriptor yX7_readName.desc).map (fun d => d.parameters.length) = some 0 := by decide +kernel
theorem ydX7_keepWord : yX7_keepWord.cls = RX7 ∧ yX7_keepWord.cls ≠ "java/lang/invoke/MethodHandle" ∧ yX7_keepWord.cls ≠ "java/lang/invoke/VarHandle" ∧ (parseMethodDescriptor yX7_keepWord.desc).map (fun d => d.parameters.length) = some 0 := by decide +kernel
theorem ydX7_tellWord : yX7_tellWord.cls = RX7 ∧ yX7_tellWord.cls ≠ "java/lang/invoke/MethodHandle" ∧ yX7_tellWord.cls ≠ "java/lang/invoke/VarHandle" ∧ (parseMethodDescriptor yX7_tellWord.desc).map (fun d => d.parameters.length) = some 0 := by decide +kernel
theorem ydX7_readKind : yX7_readKind.cls = RX7 ∧ yX7_readKind.cls ≠ "java/lang/invoke/MethodHandle" ∧ yX7_readKind.cls ≠ "java/lang/invoke/VarHandle" ∧ (parseMethodDescriptor yX7_readKind.desc).map (fun d => d.parameters.length) = some 0 := by decide +kernel
theorem ydX7_readRule : yX7_readRule.cls = RX7 ∧ yX7_readRule.cls ≠ "java/lang/invoke/MethodHandle" ∧ yX7_readRule.cls ≠ "java/lang/invoke/VarHandle" ∧ (parseMethodDescriptor yX7_readRule.desc).map (fun d => d.parameters.length) = some 0 := by decide +kernel
theorem ydX7_readEvening : yX7_readEvening.cls = RX7 ∧ yX7_readEvening.cls ≠ "java/lang/invoke/MethodHandle" ∧ yX7_readEvening.cls ≠ "java/lang/invoke/VarHandle" ∧ (parseMethodDescriptor yX7_readEvening.desc).map (fun d => d.parameters.length) = some 0 := by decide +kernel
theorem ydX7_readLine : yX7_readLine.cls = RX7 ∧ yX7_readLine.cls ≠ "java/lang/invoke/MethodHandle" ∧ yX7_readLine.cls ≠ "java/lang/invoke/VarHandle" ∧ (parseMethodDescriptor yX7_readLine.desc).map (fun d => d.parameters.length) = some 0 := by decide +kernel
theorem ydX7_readText : yX7_readText.cls = RX7 ∧ yX7_readText.cls ≠ "java/lang/invoke/MethodHandle" ∧ yX7_readText.cls ≠ "java/lang/invoke/VarHandle" ∧ (parseMethodDescriptor yX7_readText.desc).map (fun d => d.parameters.length) = some 3 := by decide +kernel
theorem ydX10_trick : yX10_trick.cls = RX10 ∧ yX10_trick.cls ≠ "java/lang/invoke/MethodHandle" ∧ yX10_trick.cls ≠ "java/lang/invoke/VarHandle" ∧ (parseMethodDescriptor yX10_trick.desc).map (fun d => d.parameters.length) = some 1 := by decide +kernel
theorem ydX10_image : yX10_image.cls = RX10 ∧ yX10_image.cls ≠ "java/lang/invoke/MethodHandle" ∧ yX10_image.cls ≠ "java/lang/invoke/VarHandle" ∧ (parseMethodDescriptor yX10_image.desc).map (fun d => d.parameters.length) = some 0 := by decide +kernel
theorem ydX10_back : yX10_back.cls = RX10 ∧ yX10_back.cls ≠ "java/lang/invoke/MethodHandle" ∧ yX10_back.cls ≠ "java/lang/invoke/VarHandle" ∧ (parseMethodDescriptor yX10_back.desc).map (fun d => d.parameters.length) = some 1 := by decide +kernel
theorem ysX12_wordOf : yX12_wordOf.cls ≠ "java/lang/invoke/MethodHandle" ∧ yX12_wordOf.cls ≠ "java/lang/invoke/VarHandle" ∧ (parseMethodDescriptor yX12_wordOf.desc).map (fun d => d.parameters.length) = some 1 := by decide +kernel
theorem ydX12_isWord : yX12_isWord.cls = RX12 ∧ yX12_isWord.cls ≠ "java/lang/invoke/MethodHandle" ∧ yX12_isWord.cls ≠ "java/lang/invoke/VarHandle" ∧ (parseMethodDescriptor yX12_isWord.desc).map (fun d => d.parameters.length) = some 1 := by decide +kernel
theorem ydX12_eatsWord : yX12_eatsWord.cls = RX12 ∧ yX12_eatsWord.cls ≠ "java/lang/invoke/MethodHandle" ∧ yX12_eatsWord.cls ≠ "java/lang/invoke/VarHandle" ∧ (parseMethodDescriptor yX12_eatsWord.desc).map (fun d => d.parameters.length) = some 1 := by decide +kernel
theorem ydX12_needs : yX12_needs.cls = RX12 ∧ yX12_needs.cls ≠ "java/lang/invoke/MethodHandle" ∧ yX12_needs.cls ≠ "java/lang/invoke/VarHandle" ∧ (parseMethodDescriptor yX12_needs.desc).map (fun d => d.parameters.length) = some 1 := by decide +kernel
theorem ydX12_readPart : yX12_readPart.cls = RX12 ∧ yX12_readPart.cls ≠ "java/lang/invoke/MethodHandle" ∧ yX12_readPart.cls ≠ "java/lang/invoke/VarHandle" ∧ (parseMethodDescriptor yX12_readPart.desc).map (fun d => d.parameters.length) = some 3 := by decide +kernel
theorem ydX12_isName : yX12_isName.cls = RX12 ∧ yX12_isName.cls ≠ "java/lang/invoke/MethodHandle" ∧ yX12_isName.cls ≠ "java/lang/invoke/VarHandle" ∧ (parseMethodDescriptor yX12_isName.desc).map (fun d => d.parameters.length) = some 0 := by decide +kernel
theorem ydX12_readTrick : yX12_readTrick.cls = RX12 ∧ yX12_readTrick.cls ≠ "java/lang/invoke/MethodHandle" ∧ yX12_readTrick.cls ≠ "java/lang/invoke/VarHandle" ∧ (parseMethodDescriptor yX12_readTrick.desc).map (fun d => d.parameters.length) = some 0 := by decide +kernel
theorem ydX12_readWords : yX12_readWords.cls = RX12 ∧ yX12_readWords.cls ≠ "java/lang/invoke/MethodHandle" ∧ yX12_readWords.cls ≠ "java/lang/invoke/VarHandle" ∧ (parseMethodDescriptor yX12_readWords.desc).map (fun d => d.parameters.length) = some 0 := by decide +kernel
theorem ydX12_readRule : yX12_readRule.cls = RX12 ∧ yX12_readRule.cls ≠ "java/lang/invoke/MethodHandle" ∧ yX12_readRule.cls ≠ "java/lang/invoke/VarHandle" ∧ (parseMethodDescriptor yX12_readRule.desc).map (fun d => d.parameters.length) = some 0 := by decide +kernel
theorem ydX12_readEvening : yX12_readEvening.cls = RX12 ∧ yX12_readEvening.cls ≠ "java/lang/invoke/MethodHandle" ∧ yX12_readEvening.cls ≠ "java/lang/invoke/VarHandle" ∧ (parseMethodDescriptor yX12_readEvening.desc).map (fun d => d.parameters.length) = some 0 := by decide +kernel
theorem ydX12_readLine : yX12_readLine.cls = RX12 ∧ yX12_readLine.cls ≠ "java/lang/invoke/MethodHandle" ∧ yX12_readLine.cls ≠ "java/lang/invoke/VarHandle" ∧ (parseMethodDescriptor yX12_readLine.desc).map (fun d => d.parameters.length) = some 0 := by decide +kernel
theorem ydX12_readAll : yX12_readAll.cls = RX12 ∧ yX12_readAll.cls ≠ "java/lang/invoke/MethodHandle" ∧ yX12_readAll.cls ≠ "java/lang/invoke/VarHandle" ∧ (parseMethodDescriptor yX12_readAll.desc).map (fun d => d.parameters.length) = some 0 := by decide +kernel
theorem ydJ0_coder_7d493 : yJ0_coder_7d493.cls = RJ0 ∧ yJ0_coder_7d493.cls ≠ "java/lang/invoke/MethodHandle" ∧ yJ0_coder_7d493.cls ≠ "java/lang/invoke/VarHandle" ∧ (parseMethodDescriptor yJ0_coder_7d493.desc).map (fun d => d.parameters.length) = some 0 := by decide +kernel
theorem ydJ0_length_8abf5 : yJ0_length_8abf5.cls = RJ0 ∧ yJ0_length_8abf5.cls ≠ "java/lang/invoke/MethodHandle" ∧ yJ0_length_8abf5.cls ≠ "java/lang/invoke/VarHandle" ∧ (parseMethodDescriptor yJ0_length_8abf5.desc).map (fun d => d.parameters.length) = some 0 := by decide +kernel
theorem ydJ0_isLatin1_aae02 : yJ0_isLatin1_aae02.cls = RJ0 ∧ yJ0_isLatin1_aae02.cls ≠ "java/lang/invoke/MethodHandle" ∧ yJ0_isLatin1_aae02.cls ≠ "java/lang/invoke/VarHandle" ∧ (parseMethodDescriptor yJ0_isLatin1_aae02.desc).map (fun d => d.parameters.length) = some 0 := by decide +kernel
theorem ysJ3_checkIndex_8e157 : yJ3_checkIndex_8e157.cls ≠ "java/lang/invoke/MethodHandle" ∧ yJ3_checkIndex_8e157.cls ≠ "java/lang/invoke/VarHandle" ∧ (parseMethodDescriptor yJ3_checkIndex_8e157.desc).map (fun d => d.parameters.length) = some 3 := by decide +kernel
theorem ysJ0_checkIndex_df160 : yJ0_checkIndex_df160.cls ≠ "java/lang/invoke/MethodHandle" ∧ yJ0_checkIndex_df160.cls ≠ "java/lang/invoke/VarHandle" ∧ (parseMethodDescriptor yJ0_checkIndex_df160.desc).map (fun d => d.parameters.length) = some 2 := by decide +kernel
theorem ysJ1_charAt_3b067 : yJ1_charAt_3b067.cls ≠ "java/lang/invoke/MethodHandle" ∧ yJ1_charAt_3b067.cls ≠ "java/lang/invoke/VarHandle" ∧ (parseMethodDescriptor yJ1_charAt_3b067.desc).map (fun d => d.parameters.length) = some 2 := by decide +kernel
theorem ydJ0_charAt_5068e : yJ0_charAt_5068e.cls = RJ0 ∧ yJ0_charAt_5068e.cls ≠ "java/lang/invoke/MethodHandle" ∧ yJ0_charAt_5068e.cls ≠ "java/lang/invoke/VarHandle" ∧ (parseMethodDescriptor yJ0_charAt_5068e.desc).map (fun d => d.parameters.length) = some 1 := by decide +kernel
theorem w_m3 : Cond.initialized "java/lang/Math" ∈ zgd := zgd_in (List.mem_append_right _ (List.mem_of_getElem? (i := 13) (by decide +kernel))) (by decide +kernel)
theorem w_m2_mmax : Cond.static Lib.Math.max.name ∈ zgd := zgd_in (List.mem_append_right _ (List.mem_of_getElem? (i := 905) (by decide +kernel))) (by decide +kernel)
theorem w_m4_mmax : Cond.code Lib.Math.max.name Lib.Math.max.code 2 (some .int) ∈ zgd := zgd_in (List.mem_append_right _ (List.mem_of_getElem? (i := 906) (by decide +kernel))) (by decide +kernel)
theorem w_m2_mmin : Cond.static Lib.Math.min.name ∈ zgd := zgd_in (List.mem_append_right _ (List.mem_of_getElem? (i := 486) (by decide +kernel))) (by decide +kernel)
theorem w_m4_mmin : Cond.code Lib.Math.min.name Lib.Math.min.code 2 (some .int) ∈ zgd := zgd_in (List.mem_append_right _ (List.mem_of_getElem? (i := 487) (by decide +kernel))) (by decide +kernel)
theorem w_m2_mminl : Cond.static Lib.MathLoose.min_long.x ∈ zgd := zgd_in (List.mem_append_right _ (List.mem_of_getElem? (i := 1024) (by decide +kernel))) (by decide +kernel)
theorem w_m4_mminl : Cond.code Lib.MathLoose.min_long.x Lib.MathLoose.min_long.code 4 (some .long) ∈ zgd := zgd_in (List.mem_append_right _ (List.mem_of_getElem? (i := 1025) (by decide +kernel))) (by decide +kernel)
theorem w_cp2 : Cond.native arraycopyName ∈ zgd := zgd_in (List.mem_append_right _ (List.mem_of_getElem? (i := 1138) (by decide +kernel))) (by decide +kernel)
theorem w_cp3 : Cond.static arraycopyName ∈ zgd := zgd_in (List.mem_append_right _ (List.mem_of_getElem? (i := 1137) (by decide +kernel))) (by decide +kernel)
theorem w_cp4 : Cond.initialized "java/lang/System" ∈ zgd := zgd_in (List.mem_append_right _ (List.mem_of_getElem? (i := 21) (by decide +kernel))) (by decide +kernel)
