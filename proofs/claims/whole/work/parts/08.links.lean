/-! ===== the methods, and their links in the tables ===== -/
def mX0_parse : jM := (yX0_parse, cX0_parse, 2, none, 9, 201)
def mX0_findFault : jM := (yX0_findFault, cX0_findFault, 2, (some .int), 8, 180)
def mX0_isDue : jM := (yX0_isDue, cX0_isDue, 2, (some .boolean), 7, 159)
def mX0_allBits : jM := (yX0_allBits, cX0_allBits, 1, (some .int), 0, 0)
def mX0_allSprings : jM := (yX0_allSprings, cX0_allSprings, 3, (some .int), 0, 0)
def mX0_withLaw : jM := (yX0_withLaw, cX0_withLaw, 4, (some .int), 0, 0)
def mX1_load : jM := (yX1_load, cX1_load, 6, none, 1, 26)
def mX1_putRow : jM := (yX1_putRow, cX1_putRow, 3, none, 0, 0)
def mX1_putLaw : jM := (yX1_putLaw, cX1_putLaw, 3, none, 0, 0)
def mX1_putLooks : jM := (yX1_putLooks, cX1_putLooks, 6, none, 0, 0)
def mX1_run : jM := (yX1_run, cX1_run, 3, none, 2, 47)
def mX1_placesAround : jM := (yX1_placesAround, cX1_placesAround, 3, (some .int), 0, 0)
def mX1_go : jM := (yX1_go, cX1_go, 6, none, 1, 22)
def mX1_opensByLaw : jM := (yX1_opensByLaw, cX1_opensByLaw, 3, (some .boolean), 0, 0)
def mX1_isUp : jM := (yX1_isUp, cX1_isUp, 3, (some .boolean), 0, 0)
def mX1_openings : jM := (yX1_openings, cX1_openings, 4, (some .int), 1, 20)
def mX2_renew : jM := (yX2_renew, cX2_renew, 3, none, 1, 23)
def mX2_put : jM := (yX2_put, cX2_put, 3, none, 0, 0)
def mX2_has : jM := (yX2_has, cX2_has, 3, (some .boolean), 0, 0)
def mX2_findingAt : jM := (yX2_findingAt, cX2_findingAt, 3, (some .int), 1, 22)
def mX3_mayBe : jM := (yX3_mayBe, cX3_mayBe, 3, (some .boolean), 1, 20)
def mX3_add : jM := (yX3_add, cX3_add, 4, none, 0, 0)
def mJ11_isValidCodePoint_9a6ad : jM := (yJ11_isValidCodePoint_9a6ad, cJ11_isValidCodePoint_9a6ad, 2, (some .boolean), 0, 0)
def mJ11_highSurrogate_5068e : jM := (yJ11_highSurrogate_5068e, cJ11_highSurrogate_5068e, 1, (some .char), 0, 0)
def mJ11_lowSurrogate_5068e : jM := (yJ11_lowSurrogate_5068e, cJ11_lowSurrogate_5068e, 1, (some .char), 0, 0)
def mJ6_bitCount_0f7a4 : jM := (yJ6_bitCount_0f7a4, cJ6_bitCount_0f7a4, 1, (some .int), 0, 0)
def mJ9_max_7cf53 : jM := (yJ9_max_7cf53, cJ9_max_7cf53, 2, (some .int), 0, 0)
def mJ9_min_7cf53 : jM := (yJ9_min_7cf53, cJ9_min_7cf53, 2, (some .int), 0, 0)
def mJ0_length_8abf5 : jM := (yJ0_length_8abf5, cJ0_length_8abf5, 1, (some .int), 1, 20)
def mJ0_indexOf_0f7a4 : jM := (yJ0_indexOf_0f7a4, cJ0_indexOf_0f7a4, 2, (some .int), 6, 138)
def mJ0_indexOf_7cf53 : jM := (yJ0_indexOf_7cf53, cJ0_indexOf_7cf53, 3, (some .int), 5, 116)
def mJ0_coder_7d493 : jM := (yJ0_coder_7d493, cJ0_coder_7d493, 1, (some .byte), 0, 0)
def mJ0_isLatin1_aae02 : jM := (yJ0_isLatin1_aae02, cJ0_isLatin1_aae02, 1, (some .boolean), 0, 0)
def mJ0_checkBoundsBeginEnd_23922 : jM := (yJ0_checkBoundsBeginEnd_23922, cJ0_checkBoundsBeginEnd_23922, 3, none, 1, 23)
def mJ1_canEncode_9a6ad : jM := (yJ1_canEncode_9a6ad, cJ1_canEncode_9a6ad, 1, (some .boolean), 0, 0)
def mJ1_indexOf_4cfef : jM := (yJ1_indexOf_4cfef, cJ1_indexOf_4cfef, 4, (some .int), 1, 25)
def mJ1_indexOfChar_4cfef : jM := (yJ1_indexOfChar_4cfef, cJ1_indexOfChar_4cfef, 6, (some .int), 0, 0)
def mJ2_getChar_3b067 : jM := (yJ2_getChar_3b067, cJ2_getChar_3b067, 2, (some .char), 1, 20)
def mJ2_length_9d52b : jM := (yJ2_length_9d52b, cJ2_length_9d52b, 1, (some .int), 0, 0)
def mJ2_indexOf_4cfef : jM := (yJ2_indexOf_4cfef, cJ2_indexOf_4cfef, 4, (some .int), 4, 93)
def mJ2_indexOfChar_4cfef : jM := (yJ2_indexOfChar_4cfef, cJ2_indexOfChar_4cfef, 4, (some .int), 3, 67)
def mJ2_indexOfCharUnsafe_4cfef : jM := (yJ2_indexOfCharUnsafe_4cfef, cJ2_indexOfCharUnsafe_4cfef, 5, (some .int), 2, 41)
def mJ2_indexOfSupplementary_4cfef : jM := (yJ2_indexOfSupplementary_4cfef, cJ2_indexOfSupplementary_4cfef, 7, (some .int), 3, 67)
def mJ2_checkBoundsBeginEnd_d044e : jM := (yJ2_checkBoundsBeginEnd_d044e, cJ2_checkBoundsBeginEnd_d044e, 3, none, 2, 45)
def mJ7_fill_53178 : jM := (yJ7_fill_53178, cJ7_fill_53178, 4, none, 0, 0)
def mJ3_checkFromToIndex_8c36e : jM := (yJ3_checkFromToIndex_8c36e, cJ3_checkFromToIndex_8c36e, 4, (some .int), 0, 0)
def mX4_type : jM := (yX4_type, cX4_type, 2, (some .int), 11, 243)
def mX4_wipe : jM := (yX4_wipe, cX4_wipe, 2, (some .int), 11, 243)
def mX4_undo : jM := (yX4_undo, cX4_undo, 1, (some .int), 11, 243)
def mX4_fault : jM := (yX4_fault, cX4_fault, 1, (some .int), 0, 0)
def mX4_box : jM := (yX4_box, cX4_box, 3, (some .int), 1, 21)
def mX4_place : jM := (yX4_place, cX4_place, 2, (some .int), 1, 20)
def mX4_swap : jM := (yX4_swap, cX4_swap, 3, (some .int), 1, 23)
def mX4_lids : jM := (yX4_lids, cX4_lids, 3, (some .int), 0, 0)
def mX4_tell : jM := (yX4_tell, cX4_tell, 4, (some .int), 2, 42)
def mX4_back : jM := (yX4_back, cX4_back, 1, (some .int), 0, 0)
def mX4_read : jM := (yX4_read, cX4_read, 6, (some .int), 3, 65)
def mX4_step : jM := (yX4_step, cX4_step, 3, (some .int), 4, 89)
def mX4_spring : jM := (yX4_spring, cX4_spring, 5, (some .int), 4, 89)
def mX4_quiet : jM := (yX4_quiet, cX4_quiet, 2, (some .int), 4, 89)
def mX4_loudest : jM := (yX4_loudest, cX4_loudest, 6, (some .int), 4, 89)
def mX4_first : jM := (yX4_first, cX4_first, 3, (some .int), 4, 89)
def mX4_together : jM := (yX4_together, cX4_together, 6, (some .int), 4, 89)
def mX4_news : jM := (yX4_news, cX4_news, 6, (some .int), 4, 89)
def mX4_hears : jM := (yX4_hears, cX4_hears, 5, (some .int), 4, 89)
def mX4_hush : jM := (yX4_hush, cX4_hush, 6, (some .int), 4, 91)
def mX4_shelf : jM := (yX4_shelf, cX4_shelf, 5, (some .int), 4, 95)
def mX4_heard : jM := (yX4_heard, cX4_heard, 3, (some .int), 1, 20)
def mX4_forget : jM := (yX4_forget, cX4_forget, 2, (some .int), 0, 0)
def mX4_learn : jM := (yX4_learn, cX4_learn, 4, (some .int), 4, 93)
def mX4_empty : jM := (yX4_empty, cX4_empty, 5, (some .int), 3, 69)
def mX4_turn : jM := (yX4_turn, cX4_turn, 8, (some .int), 4, 97)
def mX4_looks : jM := (yX4_looks, cX4_looks, 11, (some .long), 4, 98)
def mX4_night : jM := (yX4_night, cX4_night, 6, (some .int), 3, 69)
def mX4_sheet : jM := (yX4_sheet, cX4_sheet, 4, (some .int), 2, 45)
def mX4_lose : jM := (yX4_lose, cX4_lose, 2, (some .int), 1, 21)
def mX4_lay : jM := (yX4_lay, cX4_lay, 6, (some .int), 2, 44)
def mX4_get : jM := (yX4_get, cX4_get, 5, (some .int), 2, 44)
def mX4_copy : jM := (yX4_copy, cX4_copy, 8, (some .int), 1, 26)
def mX4_write : jM := (yX4_write, cX4_write, 5, (some .int), 4, 89)
def mX4_count : jM := (yX4_count, cX4_count, 2, (some .int), 4, 89)
def mX4_digest : jM := (yX4_digest, cX4_digest, 7, (some .long), 6, 154)
def mX4_digestBox : jM := (yX4_digestBox, cX4_digestBox, 7, (some .long), 5, 128)
def mX4_isBox : jM := (yX4_isBox, cX4_isBox, 2, (some .boolean), 0, 0)
def mX4_isNumber : jM := (yX4_isNumber, cX4_isNumber, 1, (some .boolean), 0, 0)
def mX4_isStep : jM := (yX4_isStep, cX4_isStep, 1, (some .boolean), 0, 0)
def mX4_isEither : jM := (yX4_isEither, cX4_isEither, 1, (some .boolean), 0, 0)
def mX4_isSheet : jM := (yX4_isSheet, cX4_isSheet, 1, (some .boolean), 0, 0)
def mX4_isForm : jM := (yX4_isForm, cX4_isForm, 1, (some .boolean), 0, 0)
def mX4_finding : jM := (yX4_finding, cX4_finding, 2, (some .int), 0, 0)
def mX4_lengthen : jM := (yX4_lengthen, cX4_lengthen, 2, (some .int), 10, 222)
def mX4_runAsTold : jM := (yX4_runAsTold, cX4_runAsTold, 1, none, 3, 69)
def mX4_spread : jM := (yX4_spread, cX4_spread, 2, (some .int), 0, 0)
def mX4_exchange : jM := (yX4_exchange, cX4_exchange, 4, none, 0, 0)
def mX4_isHushed : jM := (yX4_isHushed, cX4_isHushed, 3, (some .boolean), 3, 69)
def mX4_findShelf : jM := (yX4_findShelf, cX4_findShelf, 7, (some .int), 3, 69)
def mX4_stepToNextRow : jM := (yX4_stepToNextRow, cX4_stepToNextRow, 6, (some .boolean), 1, 23)
def mX4_lastHeardStep : jM := (yX4_lastHeardStep, cX4_lastHeardStep, 3, (some .int), 1, 21)
def mX4_isAsHeard : jM := (yX4_isAsHeard, cX4_isAsHeard, 2, (some .boolean), 1, 20)
def mX4_findFitting : jM := (yX4_findFitting, cX4_findFitting, 5, (some .int), 3, 69)
def mX4_greatestAlike : jM := (yX4_greatestAlike, cX4_greatestAlike, 9, (some .int), 3, 69)
def mX4_weightUp : jM := (yX4_weightUp, cX4_weightUp, 10, (some .long), 3, 69)
def mX4_wholeWeight : jM := (yX4_wholeWeight, cX4_wholeWeight, 1, (some .long), 0, 0)
def mX4_weight : jM := (yX4_weight, cX4_weight, 6, (some .long), 0, 0)
def mX4_commonDivisor : jM := (yX4_commonDivisor, cX4_commonDivisor, 11, (some .long), 0, 0)
def mX5_in : jM := (yX5_in, cX5_in, 6, (some .boolean), 0, 0)
def mX5_no : jM := (yX5_no, cX5_no, 1, (some .long), 0, 0)
def mX5_isTwo : jM := (yX5_isTwo, cX5_isTwo, 1, (some .boolean), 1, 25)
def mX5_isIn : jM := (yX5_isIn, cX5_isIn, 2, (some .boolean), 0, 0)
def mX5_ones : jM := (yX5_ones, cX5_ones, 3, (some .int), 0, 0)
def mX5_amount : jM := (yX5_amount, cX5_amount, 1, (some .int), 0, 0)
def mX5_part : jM := (yX5_part, cX5_part, 11, (some .long), 0, 0)
def mX5_finds : jM := (yX5_finds, cX5_finds, 2, (some .int), 0, 0)
def mX5_isSheet : jM := (yX5_isSheet, cX5_isSheet, 1, (some .boolean), 1, 25)
def mX5_sheet : jM := (yX5_sheet, cX5_sheet, 5, (some .int), 2, 45)
def mX5_lose : jM := (yX5_lose, cX5_lose, 2, (some .int), 2, 45)
def mX5_lacks : jM := (yX5_lacks, cX5_lacks, 4, (some .int), 1, 25)
def mX5_cut : jM := (yX5_cut, cX5_cut, 2, (some .int), 0, 0)
def mX5_lay : jM := (yX5_lay, cX5_lay, 6, (some .int), 2, 48)
def mX5_get : jM := (yX5_get, cX5_get, 4, (some .int), 2, 48)
def mX5_copy : jM := (yX5_copy, cX5_copy, 7, (some .int), 2, 45)
def mX5_type : jM := (yX5_type, cX5_type, 2, (some .int), 1, 25)
def mX5_wipe : jM := (yX5_wipe, cX5_wipe, 2, (some .int), 0, 0)
def mX5_undo : jM := (yX5_undo, cX5_undo, 1, (some .int), 0, 0)
def mX5_lawOf : jM := (yX5_lawOf, cX5_lawOf, 1, (some .int), 0, 0)
def mX5_readsBox : jM := (yX5_readsBox, cX5_readsBox, 4, (some .boolean), 1, 25)
def mX5_reads : jM := (yX5_reads, cX5_reads, 3, (some .int), 2, 48)
def mX5_fault : jM := (yX5_fault, cX5_fault, 1, (some .int), 3, 70)
def mX5_isBox : jM := (yX5_isBox, cX5_isBox, 2, (some .boolean), 1, 25)
def mX5_isAny : jM := (yX5_isAny, cX5_isAny, 1, (some .boolean), 1, 25)
def mX5_isStep : jM := (yX5_isStep, cX5_isStep, 1, (some .boolean), 1, 25)
def mX5_box : jM := (yX5_box, cX5_box, 3, (some .int), 3, 70)
def mX5_place : jM := (yX5_place, cX5_place, 2, (some .int), 2, 45)
def mX5_swap : jM := (yX5_swap, cX5_swap, 4, (some .int), 2, 45)
def mX5_lids : jM := (yX5_lids, cX5_lids, 3, (some .int), 1, 25)
def mX5_tell : jM := (yX5_tell, cX5_tell, 4, (some .int), 2, 45)
def mX5_back : jM := (yX5_back, cX5_back, 1, (some .int), 0, 0)
def mX5_read : jM := (yX5_read, cX5_read, 5, (some .int), 3, 68)
def mX5_plain : jM := (yX5_plain, cX5_plain, 2, none, 3, 70)
def mX5_isNear : jM := (yX5_isNear, cX5_isNear, 5, (some .boolean), 1, 21)
def mX5_opensNow : jM := (yX5_opensNow, cX5_opensNow, 4, (some .boolean), 2, 45)
def mX5_springAt : jM := (yX5_springAt, cX5_springAt, 3, (some .int), 0, 0)
def mX5_lives : jM := (yX5_lives, cX5_lives, 8, none, 3, 68)
def mX5_find : jM := (yX5_find, cX5_find, 1, none, 4, 95)
def mX5_step : jM := (yX5_step, cX5_step, 3, (some .int), 5, 115)
def mX5_spring : jM := (yX5_spring, cX5_spring, 3, (some .int), 5, 115)
def mX5_quietNow : jM := (yX5_quietNow, cX5_quietNow, 2, (some .int), 0, 0)
def mX5_quiet : jM := (yX5_quiet, cX5_quiet, 1, (some .int), 5, 115)
def mX5_loudestOf : jM := (yX5_loudestOf, cX5_loudestOf, 4, (some .int), 1, 22)
def mX5_loudest : jM := (yX5_loudest, cX5_loudest, 2, (some .int), 5, 115)
def mX5_firstOf : jM := (yX5_firstOf, cX5_firstOf, 3, (some .int), 1, 21)
def mX5_first : jM := (yX5_first, cX5_first, 2, (some .int), 5, 115)
def mX5_areTwo : jM := (yX5_areTwo, cX5_areTwo, 3, (some .boolean), 2, 46)
def mX5_togetherOf : jM := (yX5_togetherOf, cX5_togetherOf, 5, (some .int), 1, 21)
def mX5_together : jM := (yX5_together, cX5_together, 3, (some .int), 5, 115)
def mX5_haveIt : jM := (yX5_haveIt, cX5_haveIt, 6, (some .int), 0, 0)
def mX5_newsOf : jM := (yX5_newsOf, cX5_newsOf, 5, (some .int), 1, 25)
def mX5_news : jM := (yX5_news, cX5_news, 4, (some .int), 5, 115)
def mX5_hears : jM := (yX5_hears, cX5_hears, 3, (some .int), 5, 115)
def mX5_tells : jM := (yX5_tells, cX5_tells, 2, (some .int), 1, 22)
def mX5_hushOf : jM := (yX5_hushOf, cX5_hushOf, 4, (some .int), 4, 95)
def mX5_hush : jM := (yX5_hush, cX5_hush, 3, (some .int), 5, 118)
def mX5_unfolds : jM := (yX5_unfolds, cX5_unfolds, 6, none, 0, 0)
def mX5_opened : jM := (yX5_opened, cX5_opened, 4, (some .int), 1, 22)
def mX5_findShelf : jM := (yX5_findShelf, cX5_findShelf, 8, (some .int), 5, 115)
def mX5_shelfOf : jM := (yX5_shelfOf, cX5_shelfOf, 5, (some .int), 6, 142)
def mX5_shelf : jM := (yX5_shelf, cX5_shelf, 4, (some .int), 7, 166)
def mX5_lesserOf : jM := (yX5_lesserOf, cX5_lesserOf, 1, (some .int), 0, 0)
def mX5_heard : jM := (yX5_heard, cX5_heard, 3, (some .int), 2, 45)
def mX5_forget : jM := (yX5_forget, cX5_forget, 2, (some .int), 0, 0)
def mX5_isHeard : jM := (yX5_isHeard, cX5_isHeard, 3, (some .boolean), 1, 22)
def mX5_takes : jM := (yX5_takes, cX5_takes, 3, none, 0, 0)
def mX5_gives : jM := (yX5_gives, cX5_gives, 2, none, 4, 95)
def mX5_lawName : jM := (yX5_lawName, cX5_lawName, 1, (some .int), 0, 0)
def mX5_learnOf : jM := (yX5_learnOf, cX5_learnOf, 6, (some .int), 5, 116)
def mX5_learn : jM := (yX5_learn, cX5_learn, 3, (some .int), 6, 141)
def mX5_emptyNow : jM := (yX5_emptyNow, cX5_emptyNow, 3, (some .int), 5, 116)
def mX5_empty : jM := (yX5_empty, cX5_empty, 1, (some .int), 6, 138)
def mX5_turnOf : jM := (yX5_turnOf, cX5_turnOf, 10, (some .int), 5, 116)
def mX5_turn : jM := (yX5_turn, cX5_turn, 3, (some .int), 6, 145)
def mX5_looksOf : jM := (yX5_looksOf, cX5_looksOf, 14, (some .long), 5, 115)
def mX5_looks : jM := (yX5_looks, cX5_looks, 5, (some .long), 6, 148)
def mX5_nightOf : jM := (yX5_nightOf, cX5_nightOf, 6, (some .int), 5, 115)
def mX5_night : jM := (yX5_night, cX5_night, 4, (some .int), 6, 140)
def mX5_write : jM := (yX5_write, cX5_write, 4, (some .int), 5, 115)
def mX5_count : jM := (yX5_count, cX5_count, 4, (some .int), 5, 115)
def mX5_tellsBox : jM := (yX5_tellsBox, cX5_tellsBox, 7, (some .long), 6, 148)
def mX5_digest : jM := (yX5_digest, cX5_digest, 5, (some .long), 8, 189)
theorem inW0 : ∀ w ∈ u_ws RX0 TX0 7, w ∈ jW := by decide +kernel
theorem inW1 : ∀ w ∈ u_ws RX1 TX1 16, w ∈ jW := by decide +kernel
theorem inW2 : ∀ w ∈ u_ws RX2 TX2 4, w ∈ jW := by decide +kernel
theorem inW3 : ∀ w ∈ u_ws RX3 TX3 4, w ∈ jW := by decide +kernel
theorem inW4 : ∀ w ∈ u_ws RX4 TX4 16, w ∈ jW := by decide +kernel
theorem inW5 : ∀ w ∈ u_ws RX5 TX5 29, w ∈ jW := by decide +kernel
theorem tw_174 : Cond.fieldLink RX4 12 (TX4 0).1 (TX4 0).2.1 (TX4 0).2.2.1 ∈ jW := jW_of (List.mem_append_right _ (List.mem_of_getElem? (l := tables_1) (i := 174) (by decide +kernel))) rfl
theorem fl_X4_12 : jFL RX4 12 4 0 := ⟨RX4, TX4, 16, rfl, by decide, tw_174, inW4⟩
theorem tw_175 : Cond.fieldLink RX4 16 (TX4 1).1 (TX4 1).2.1 (TX4 1).2.2.1 ∈ jW := jW_of (List.mem_append_right _ (List.mem_of_getElem? (l := tables_1) (i := 175) (by decide +kernel))) rfl
theorem fl_X4_16 : jFL RX4 16 4 1 := ⟨RX4, TX4, 16, rfl, by decide, tw_175, inW4⟩
theorem tw_176 : Cond.fieldLink RX4 20 (TX4 2).1 (TX4 2).2.1 (TX4 2).2.2.1 ∈ jW := jW_of (List.mem_append_right _ (List.mem_of_getElem? (l := tables_1) (i := 176) (by decide +kernel))) rfl
theorem fl_X4_20 : jFL RX4 20 4 2 := ⟨RX4, TX4, 16, rfl, by decide, tw_176, inW4⟩
theorem tw_177 : Cond.fieldLink RX4 27 (TX4 3).1 (TX4 3).2.1 (TX4 3).2.2.1 ∈ jW := jW_of (List.mem_append_right _ (List.mem_of_getElem? (l := tables_1) (i := 177) (by decide +kernel))) rfl
theorem fl_X4_27 : jFL RX4 27 4 3 := ⟨RX4, TX4, 16, rfl, by decide, tw_177, inW4⟩
theorem tw_178 : Cond.fieldLink RX4 31 (TX4 4).1 (TX4 4).2.1 (TX4 4).2.2.1 ∈ jW := jW_of (List.mem_append_right _ (List.mem_of_getElem? (l := tables_1) (i := 178) (by decide +kernel))) rfl
theorem fl_X4_31 : jFL RX4 31 4 4 := ⟨RX4, TX4, 16, rfl, by decide, tw_178, inW4⟩
theorem tw_179 : Cond.fieldLink RX4 34 (TX4 5).1 (TX4 5).2.1 (TX4 5).2.2.1 ∈ jW := jW_of (List.mem_append_right _ (List.mem_of_getElem? (l := tables_1) (i := 179) (by decide +kernel))) rfl
theorem fl_X4_34 : jFL RX4 34 4 5 := ⟨RX4, TX4, 16, rfl, by decide, tw_179, inW4⟩
theorem tw_180 : Cond.fieldLink RX4 37 (TX4 6).1 (TX4 6).2.1 (TX4 6).2.2.1 ∈ jW := jW_of (List.mem_append_right _ (List.mem_of_getElem? (l := tables_1) (i := 180) (by decide +kernel))) rfl
theorem fl_X4_37 : jFL RX4 37 4 6 := ⟨RX4, TX4, 16, rfl, by decide, tw_180, inW4⟩
theorem tw_181 : Cond.fieldLink RX4 42 (TX4 7).1 (TX4 7).2.1 (TX4 7).2.2.1 ∈ jW := jW_of (List.mem_append_right _ (List.mem_of_getElem? (l := tables_1) (i := 181) (by decide +kernel))) rfl
theorem fl_X4_42 : jFL RX4 42 4 7 := ⟨RX4, TX4, 16, rfl, by decide, tw_181, inW4⟩
theorem tw_182 : Cond.fieldLink RX4 46 (TX4 8).1 (TX4 8).2.1 (TX4 8).2.2.1 ∈ jW := jW_of (List.mem_append_right _ (List.mem_of_getElem? (l := tables_1) (i := 182) (by decide +kernel))) rfl
theorem fl_X4_46 : jFL RX4 46 4 8 := ⟨RX4, TX4, 16, rfl, by decide, tw_182, inW4⟩
theorem tw_183 : Cond.fieldLink RX4 52 (TX4 9).1 (TX4 9).2.1 (TX4 9).2.2.1 ∈ jW := jW_of (List.mem_append_right _ (List.mem_of_getElem? (l := tables_1) (i := 183) (by decide +kernel))) rfl
theorem fl_X4_52 : jFL RX4 52 4 9 := ⟨RX4, TX4, 16, rfl, by decide, tw_183, inW4⟩
theorem tw_184 : Cond.fieldLink RX4 56 (TX4 10).1 (TX4 10).2.1 (TX4 10).2.2.1 ∈ jW := jW_of (List.mem_append_right _ (List.mem_of_getElem? (l := tables_1) (i := 184) (by decide +kernel))) rfl
theorem fl_X4_56 : jFL RX4 56 4 10 := ⟨RX4, TX4, 16, rfl, by decide, tw_184, inW4⟩
theorem tw_185 : Cond.fieldLink RX4 60 (TX4 11).1 (TX4 11).2.1 (TX4 11).2.2.1 ∈ jW := jW_of (List.mem_append_right _ (List.mem_of_getElem? (l := tables_1) (i := 185) (by decide +kernel))) rfl
theorem fl_X4_60 : jFL RX4 60 4 11 := ⟨RX4, TX4, 16, rfl, by decide, tw_185, inW4⟩
theorem tw_186 : Cond.fieldLink RX4 63 (TX4 12).1 (TX4 12).2.1 (TX4 12).2.2.1 ∈ jW := jW_of (List.mem_append_right _ (List.mem_of_getElem? (l := tables_1) (i := 186) (by decide +kernel))) rfl
theorem fl_X4_63 : jFL RX4 63 4 12 := ⟨RX4, TX4, 16, rfl, by decide, tw_186, inW4⟩
theorem tw_187 : Cond.fieldLink RX4 66 (TX4 13).1 (TX4 13).2.1 (TX4 13).2.2.1 ∈ jW := jW_of (List.mem_append_right _ (List.mem_of_getElem? (l := tables_1) (i := 187) (by decide +kernel))) rfl
theorem fl_X4_66 : jFL RX4 66 4 13 := ⟨RX4, TX4, 16, rfl, by decide, tw_187, inW4⟩
theorem tw_188 : Cond.fieldLink RX4 69 (TX4 14).1 (TX4 14).2.1 (TX4 14).2.2.1 ∈ jW := jW_of (List.mem_append_right _ (List.mem_of_getElem? (l := tables_1) (i := 188) (by decide +kernel))) rfl
theorem fl_X4_69 : jFL RX4 69 4 14 := ⟨RX4, TX4, 16, rfl, by decide, tw_188, inW4⟩
theorem tw_189 : Cond.fieldLink RX4 72 (TX4 15).1 (TX4 15).2.1 (TX4 15).2.2.1 ∈ jW := jW_of (List.mem_append_right _ (List.mem_of_getElem? (l := tables_1) (i := 189) (by decide +kernel))) rfl
theorem fl_X4_72 : jFL RX4 72 4 15 := ⟨RX4, TX4, 16, rfl, by decide, tw_189, inW4⟩
theorem tw_33 : Cond.fieldLink RX4 76 (TX0 1).1 (TX0 1).2.1 (TX0 1).2.2.1 ∈ jW := jW_of (List.mem_append_right _ (List.mem_of_getElem? (l := tables_1) (i := 33) (by decide +kernel))) rfl
theorem fl_X4_76 : jFL RX4 76 0 1 := ⟨RX0, TX0, 7, rfl, by decide, tw_33, inW0⟩
theorem tw_31 : Cond.fieldLink RX4 79 (TX0 0).1 (TX0 0).2.1 (TX0 0).2.2.1 ∈ jW := jW_of (List.mem_append_right _ (List.mem_of_getElem? (l := tables_1) (i := 31) (by decide +kernel))) rfl
theorem fl_X4_79 : jFL RX4 79 0 0 := ⟨RX0, TX0, 7, rfl, by decide, tw_31, inW0⟩
theorem tw_35 : Cond.fieldLink RX4 86 (TX0 2).1 (TX0 2).2.1 (TX0 2).2.2.1 ∈ jW := jW_of (List.mem_append_right _ (List.mem_of_getElem? (l := tables_1) (i := 35) (by decide +kernel))) rfl
theorem fl_X4_86 : jFL RX4 86 0 2 := ⟨RX0, TX0, 7, rfl, by decide, tw_35, inW0⟩
theorem tw_41 : Cond.fieldLink RX4 93 (TX0 4).1 (TX0 4).2.1 (TX0 4).2.2.1 ∈ jW := jW_of (List.mem_append_right _ (List.mem_of_getElem? (l := tables_1) (i := 41) (by decide +kernel))) rfl
theorem fl_X4_93 : jFL RX4 93 0 4 := ⟨RX0, TX0, 7, rfl, by decide, tw_41, inW0⟩
theorem tw_44 : Cond.fieldLink RX4 96 (TX0 5).1 (TX0 5).2.1 (TX0 5).2.2.1 ∈ jW := jW_of (List.mem_append_right _ (List.mem_of_getElem? (l := tables_1) (i := 44) (by decide +kernel))) rfl
theorem fl_X4_96 : jFL RX4 96 0 5 := ⟨RX0, TX0, 7, rfl, by decide, tw_44, inW0⟩
theorem tw_47 : Cond.fieldLink RX4 99 (TX0 6).1 (TX0 6).2.1 (TX0 6).2.2.1 ∈ jW := jW_of (List.mem_append_right _ (List.mem_of_getElem? (l := tables_1) (i := 47) (by decide +kernel))) rfl
theorem fl_X4_99 : jFL RX4 99 0 6 := ⟨RX0, TX0, 7, rfl, by decide, tw_47, inW0⟩
theorem tw_78 : Cond.fieldLink RX4 113 (TX3 3).1 (TX3 3).2.1 (TX3 3).2.2.1 ∈ jW := jW_of (List.mem_append_right _ (List.mem_of_getElem? (l := tables_1) (i := 78) (by decide +kernel))) rfl
theorem fl_X4_113 : jFL RX4 113 3 3 := ⟨RX3, TX3, 4, rfl, by decide, tw_78, inW3⟩
theorem tw_158 : Cond.fieldLink RX4 123 (TX2 0).1 (TX2 0).2.1 (TX2 0).2.2.1 ∈ jW := jW_of (List.mem_append_right _ (List.mem_of_getElem? (l := tables_1) (i := 158) (by decide +kernel))) rfl
theorem fl_X4_123 : jFL RX4 123 2 0 := ⟨RX2, TX2, 4, rfl, by decide, tw_158, inW2⟩
theorem tw_162 : Cond.fieldLink RX4 129 (TX2 2).1 (TX2 2).2.1 (TX2 2).2.2.1 ∈ jW := jW_of (List.mem_append_right _ (List.mem_of_getElem? (l := tables_1) (i := 162) (by decide +kernel))) rfl
theorem fl_X4_129 : jFL RX4 129 2 2 := ⟨RX2, TX2, 4, rfl, by decide, tw_162, inW2⟩
theorem tw_164 : Cond.fieldLink RX4 130 (TX2 3).1 (TX2 3).2.1 (TX2 3).2.2.1 ∈ jW := jW_of (List.mem_append_right _ (List.mem_of_getElem? (l := tables_1) (i := 164) (by decide +kernel))) rfl
theorem fl_X4_130 : jFL RX4 130 2 3 := ⟨RX2, TX2, 4, rfl, by decide, tw_164, inW2⟩
theorem tw_109 : Cond.fieldLink RX4 146 (TX1 7).1 (TX1 7).2.1 (TX1 7).2.2.1 ∈ jW := jW_of (List.mem_append_right _ (List.mem_of_getElem? (l := tables_1) (i := 109) (by decide +kernel))) rfl
theorem fl_X4_146 : jFL RX4 146 1 7 := ⟨RX1, TX1, 16, rfl, by decide, tw_109, inW1⟩
theorem tw_111 : Cond.fieldLink RX4 149 (TX1 8).1 (TX1 8).2.1 (TX1 8).2.2.1 ∈ jW := jW_of (List.mem_append_right _ (List.mem_of_getElem? (l := tables_1) (i := 111) (by decide +kernel))) rfl
theorem fl_X4_149 : jFL RX4 149 1 8 := ⟨RX1, TX1, 16, rfl, by decide, tw_111, inW1⟩
theorem tw_38 : Cond.fieldLink RX4 173 (TX0 3).1 (TX0 3).2.1 (TX0 3).2.2.1 ∈ jW := jW_of (List.mem_append_right _ (List.mem_of_getElem? (l := tables_1) (i := 38) (by decide +kernel))) rfl
theorem fl_X4_173 : jFL RX4 173 0 3 := ⟨RX0, TX0, 7, rfl, by decide, tw_38, inW0⟩
theorem tw_100 : Cond.fieldLink RX4 186 (TX1 1).1 (TX1 1).2.1 (TX1 1).2.2.1 ∈ jW := jW_of (List.mem_append_right _ (List.mem_of_getElem? (l := tables_1) (i := 100) (by decide +kernel))) rfl
theorem fl_X4_186 : jFL RX4 186 1 1 := ⟨RX1, TX1, 16, rfl, by decide, tw_100, inW1⟩
theorem tw_107 : Cond.fieldLink RX4 214 (TX1 6).1 (TX1 6).2.1 (TX1 6).2.2.1 ∈ jW := jW_of (List.mem_append_right _ (List.mem_of_getElem? (l := tables_1) (i := 107) (by decide +kernel))) rfl
theorem fl_X4_214 : jFL RX4 214 1 6 := ⟨RX1, TX1, 16, rfl, by decide, tw_107, inW1⟩
theorem tw_160 : Cond.fieldLink RX4 235 (TX2 1).1 (TX2 1).2.1 (TX2 1).2.2.1 ∈ jW := jW_of (List.mem_append_right _ (List.mem_of_getElem? (l := tables_1) (i := 160) (by decide +kernel))) rfl
theorem fl_X4_235 : jFL RX4 235 2 1 := ⟨RX2, TX2, 4, rfl, by decide, tw_160, inW2⟩
theorem tw_105 : Cond.fieldLink RX4 323 (TX1 5).1 (TX1 5).2.1 (TX1 5).2.2.1 ∈ jW := jW_of (List.mem_append_right _ (List.mem_of_getElem? (l := tables_1) (i := 105) (by decide +kernel))) rfl
theorem fl_X4_323 : jFL RX4 323 1 5 := ⟨RX1, TX1, 16, rfl, by decide, tw_105, inW1⟩
theorem tw_30 : Cond.fieldLink RX0 9 (TX0 0).1 (TX0 0).2.1 (TX0 0).2.2.1 ∈ jW := jW_of (List.mem_append_right _ (List.mem_of_getElem? (l := tables_1) (i := 30) (by decide +kernel))) rfl
theorem fl_X0_9 : jFL RX0 9 0 0 := ⟨RX0, TX0, 7, rfl, by decide, tw_30, inW0⟩
theorem tw_32 : Cond.fieldLink RX0 15 (TX0 1).1 (TX0 1).2.1 (TX0 1).2.2.1 ∈ jW := jW_of (List.mem_append_right _ (List.mem_of_getElem? (l := tables_1) (i := 32) (by decide +kernel))) rfl
theorem fl_X0_15 : jFL RX0 15 0 1 := ⟨RX0, TX0, 7, rfl, by decide, tw_32, inW0⟩
theorem tw_34 : Cond.fieldLink RX0 19 (TX0 2).1 (TX0 2).2.1 (TX0 2).2.2.1 ∈ jW := jW_of (List.mem_append_right _ (List.mem_of_getElem? (l := tables_1) (i := 34) (by decide +kernel))) rfl
theorem fl_X0_19 : jFL RX0 19 0 2 := ⟨RX0, TX0, 7, rfl, by decide, tw_34, inW0⟩
theorem tw_36 : Cond.fieldLink RX0 22 (TX0 3).1 (TX0 3).2.1 (TX0 3).2.2.1 ∈ jW := jW_of (List.mem_append_right _ (List.mem_of_getElem? (l := tables_1) (i := 36) (by decide +kernel))) rfl
theorem fl_X0_22 : jFL RX0 22 0 3 := ⟨RX0, TX0, 7, rfl, by decide, tw_36, inW0⟩
theorem tw_39 : Cond.fieldLink RX0 25 (TX0 4).1 (TX0 4).2.1 (TX0 4).2.2.1 ∈ jW := jW_of (List.mem_append_right _ (List.mem_of_getElem? (l := tables_1) (i := 39) (by decide +kernel))) rfl
theorem fl_X0_25 : jFL RX0 25 0 4 := ⟨RX0, TX0, 7, rfl, by decide, tw_39, inW0⟩
theorem tw_42 : Cond.fieldLink RX0 28 (TX0 5).1 (TX0 5).2.1 (TX0 5).2.2.1 ∈ jW := jW_of (List.mem_append_right _ (List.mem_of_getElem? (l := tables_1) (i := 42) (by decide +kernel))) rfl
theorem fl_X0_28 : jFL RX0 28 0 5 := ⟨RX0, TX0, 7, rfl, by decide, tw_42, inW0⟩
theorem tw_45 : Cond.fieldLink RX0 31 (TX0 6).1 (TX0 6).2.1 (TX0 6).2.2.1 ∈ jW := jW_of (List.mem_append_right _ (List.mem_of_getElem? (l := tables_1) (i := 45) (by decide +kernel))) rfl
theorem fl_X0_31 : jFL RX0 31 0 6 := ⟨RX0, TX0, 7, rfl, by decide, tw_45, inW0⟩
theorem tw_98 : Cond.fieldLink RX1 9 (TX1 0).1 (TX1 0).2.1 (TX1 0).2.2.1 ∈ jW := jW_of (List.mem_append_right _ (List.mem_of_getElem? (l := tables_1) (i := 98) (by decide +kernel))) rfl
theorem fl_X1_9 : jFL RX1 9 1 0 := ⟨RX1, TX1, 16, rfl, by decide, tw_98, inW1⟩
theorem tw_99 : Cond.fieldLink RX1 15 (TX1 1).1 (TX1 1).2.1 (TX1 1).2.2.1 ∈ jW := jW_of (List.mem_append_right _ (List.mem_of_getElem? (l := tables_1) (i := 99) (by decide +kernel))) rfl
theorem fl_X1_15 : jFL RX1 15 1 1 := ⟨RX1, TX1, 16, rfl, by decide, tw_99, inW1⟩
theorem tw_101 : Cond.fieldLink RX1 19 (TX1 2).1 (TX1 2).2.1 (TX1 2).2.2.1 ∈ jW := jW_of (List.mem_append_right _ (List.mem_of_getElem? (l := tables_1) (i := 101) (by decide +kernel))) rfl
theorem fl_X1_19 : jFL RX1 19 1 2 := ⟨RX1, TX1, 16, rfl, by decide, tw_101, inW1⟩
theorem tw_102 : Cond.fieldLink RX1 22 (TX1 3).1 (TX1 3).2.1 (TX1 3).2.2.1 ∈ jW := jW_of (List.mem_append_right _ (List.mem_of_getElem? (l := tables_1) (i := 102) (by decide +kernel))) rfl
theorem fl_X1_22 : jFL RX1 22 1 3 := ⟨RX1, TX1, 16, rfl, by decide, tw_102, inW1⟩
theorem tw_103 : Cond.fieldLink RX1 25 (TX1 4).1 (TX1 4).2.1 (TX1 4).2.2.1 ∈ jW := jW_of (List.mem_append_right _ (List.mem_of_getElem? (l := tables_1) (i := 103) (by decide +kernel))) rfl
theorem fl_X1_25 : jFL RX1 25 1 4 := ⟨RX1, TX1, 16, rfl, by decide, tw_103, inW1⟩
theorem tw_104 : Cond.fieldLink RX1 28 (TX1 5).1 (TX1 5).2.1 (TX1 5).2.2.1 ∈ jW := jW_of (List.mem_append_right _ (List.mem_of_getElem? (l := tables_1) (i := 104) (by decide +kernel))) rfl
theorem fl_X1_28 : jFL RX1 28 1 5 := ⟨RX1, TX1, 16, rfl, by decide, tw_104, inW1⟩
theorem tw_106 : Cond.fieldLink RX1 33 (TX1 6).1 (TX1 6).2.1 (TX1 6).2.2.1 ∈ jW := jW_of (List.mem_append_right _ (List.mem_of_getElem? (l := tables_1) (i := 106) (by decide +kernel))) rfl
theorem fl_X1_33 : jFL RX1 33 1 6 := ⟨RX1, TX1, 16, rfl, by decide, tw_106, inW1⟩
theorem tw_108 : Cond.fieldLink RX1 36 (TX1 7).1 (TX1 7).2.1 (TX1 7).2.2.1 ∈ jW := jW_of (List.mem_append_right _ (List.mem_of_getElem? (l := tables_1) (i := 108) (by decide +kernel))) rfl
theorem fl_X1_36 : jFL RX1 36 1 7 := ⟨RX1, TX1, 16, rfl, by decide, tw_108, inW1⟩
theorem tw_110 : Cond.fieldLink RX1 39 (TX1 8).1 (TX1 8).2.1 (TX1 8).2.2.1 ∈ jW := jW_of (List.mem_append_right _ (List.mem_of_getElem? (l := tables_1) (i := 110) (by decide +kernel))) rfl
theorem fl_X1_39 : jFL RX1 39 1 8 := ⟨RX1, TX1, 16, rfl, by decide, tw_110, inW1⟩
theorem tw_112 : Cond.fieldLink RX1 42 (TX1 9).1 (TX1 9).2.1 (TX1 9).2.2.1 ∈ jW := jW_of (List.mem_append_right _ (List.mem_of_getElem? (l := tables_1) (i := 112) (by decide +kernel))) rfl
theorem fl_X1_42 : jFL RX1 42 1 9 := ⟨RX1, TX1, 16, rfl, by decide, tw_112, inW1⟩
theorem tw_113 : Cond.fieldLink RX1 45 (TX1 10).1 (TX1 10).2.1 (TX1 10).2.2.1 ∈ jW := jW_of (List.mem_append_right _ (List.mem_of_getElem? (l := tables_1) (i := 113) (by decide +kernel))) rfl
theorem fl_X1_45 : jFL RX1 45 1 10 := ⟨RX1, TX1, 16, rfl, by decide, tw_113, inW1⟩
theorem tw_114 : Cond.fieldLink RX1 48 (TX1 11).1 (TX1 11).2.1 (TX1 11).2.2.1 ∈ jW := jW_of (List.mem_append_right _ (List.mem_of_getElem? (l := tables_1) (i := 114) (by decide +kernel))) rfl
theorem fl_X1_48 : jFL RX1 48 1 11 := ⟨RX1, TX1, 16, rfl, by decide, tw_114, inW1⟩
theorem tw_115 : Cond.fieldLink RX1 51 (TX1 12).1 (TX1 12).2.1 (TX1 12).2.2.1 ∈ jW := jW_of (List.mem_append_right _ (List.mem_of_getElem? (l := tables_1) (i := 115) (by decide +kernel))) rfl
theorem fl_X1_51 : jFL RX1 51 1 12 := ⟨RX1, TX1, 16, rfl, by decide, tw_115, inW1⟩
theorem tw_116 : Cond.fieldLink RX1 54 (TX1 13).1 (TX1 13).2.1 (TX1 13).2.2.1 ∈ jW := jW_of (List.mem_append_right _ (List.mem_of_getElem? (l := tables_1) (i := 116) (by decide +kernel))) rfl
theorem fl_X1_54 : jFL RX1 54 1 13 := ⟨RX1, TX1, 16, rfl, by decide, tw_116, inW1⟩
theorem tw_117 : Cond.fieldLink RX1 57 (TX1 14).1 (TX1 14).2.1 (TX1 14).2.2.1 ∈ jW := jW_of (List.mem_append_right _ (List.mem_of_getElem? (l := tables_1) (i := 117) (by decide +kernel))) rfl
theorem fl_X1_57 : jFL RX1 57 1 14 := ⟨RX1, TX1, 16, rfl, by decide, tw_117, inW1⟩
theorem tw_118 : Cond.fieldLink RX1 60 (TX1 15).1 (TX1 15).2.1 (TX1 15).2.2.1 ∈ jW := jW_of (List.mem_append_right _ (List.mem_of_getElem? (l := tables_1) (i := 118) (by decide +kernel))) rfl
theorem fl_X1_60 : jFL RX1 60 1 15 := ⟨RX1, TX1, 16, rfl, by decide, tw_118, inW1⟩
theorem tw_37 : Cond.fieldLink RX1 63 (TX0 3).1 (TX0 3).2.1 (TX0 3).2.2.1 ∈ jW := jW_of (List.mem_append_right _ (List.mem_of_getElem? (l := tables_1) (i := 37) (by decide +kernel))) rfl
theorem fl_X1_63 : jFL RX1 63 0 3 := ⟨RX0, TX0, 7, rfl, by decide, tw_37, inW0⟩
theorem tw_40 : Cond.fieldLink RX1 66 (TX0 4).1 (TX0 4).2.1 (TX0 4).2.2.1 ∈ jW := jW_of (List.mem_append_right _ (List.mem_of_getElem? (l := tables_1) (i := 40) (by decide +kernel))) rfl
theorem fl_X1_66 : jFL RX1 66 0 4 := ⟨RX0, TX0, 7, rfl, by decide, tw_40, inW0⟩
theorem tw_43 : Cond.fieldLink RX1 73 (TX0 5).1 (TX0 5).2.1 (TX0 5).2.2.1 ∈ jW := jW_of (List.mem_append_right _ (List.mem_of_getElem? (l := tables_1) (i := 43) (by decide +kernel))) rfl
theorem fl_X1_73 : jFL RX1 73 0 5 := ⟨RX0, TX0, 7, rfl, by decide, tw_43, inW0⟩
theorem tw_46 : Cond.fieldLink RX1 74 (TX0 6).1 (TX0 6).2.1 (TX0 6).2.2.1 ∈ jW := jW_of (List.mem_append_right _ (List.mem_of_getElem? (l := tables_1) (i := 46) (by decide +kernel))) rfl
theorem fl_X1_74 : jFL RX1 74 0 6 := ⟨RX0, TX0, 7, rfl, by decide, tw_46, inW0⟩
theorem tw_77 : Cond.fieldLink RX1 85 (TX3 3).1 (TX3 3).2.1 (TX3 3).2.2.1 ∈ jW := jW_of (List.mem_append_right _ (List.mem_of_getElem? (l := tables_1) (i := 77) (by decide +kernel))) rfl
theorem fl_X1_85 : jFL RX1 85 3 3 := ⟨RX3, TX3, 4, rfl, by decide, tw_77, inW3⟩
theorem tw_75 : Cond.fieldLink RX1 90 (TX3 2).1 (TX3 2).2.1 (TX3 2).2.2.1 ∈ jW := jW_of (List.mem_append_right _ (List.mem_of_getElem? (l := tables_1) (i := 75) (by decide +kernel))) rfl
theorem fl_X1_90 : jFL RX1 90 3 2 := ⟨RX3, TX3, 4, rfl, by decide, tw_75, inW3⟩
theorem tw_71 : Cond.fieldLink RX1 92 (TX3 0).1 (TX3 0).2.1 (TX3 0).2.2.1 ∈ jW := jW_of (List.mem_append_right _ (List.mem_of_getElem? (l := tables_1) (i := 71) (by decide +kernel))) rfl
theorem fl_X1_92 : jFL RX1 92 3 0 := ⟨RX3, TX3, 4, rfl, by decide, tw_71, inW3⟩
theorem tw_73 : Cond.fieldLink RX1 95 (TX3 1).1 (TX3 1).2.1 (TX3 1).2.2.1 ∈ jW := jW_of (List.mem_append_right _ (List.mem_of_getElem? (l := tables_1) (i := 73) (by decide +kernel))) rfl
theorem fl_X1_95 : jFL RX1 95 3 1 := ⟨RX3, TX3, 4, rfl, by decide, tw_73, inW3⟩
theorem tw_157 : Cond.fieldLink RX2 9 (TX2 0).1 (TX2 0).2.1 (TX2 0).2.2.1 ∈ jW := jW_of (List.mem_append_right _ (List.mem_of_getElem? (l := tables_1) (i := 157) (by decide +kernel))) rfl
theorem fl_X2_9 : jFL RX2 9 2 0 := ⟨RX2, TX2, 4, rfl, by decide, tw_157, inW2⟩
theorem tw_159 : Cond.fieldLink RX2 15 (TX2 1).1 (TX2 1).2.1 (TX2 1).2.2.1 ∈ jW := jW_of (List.mem_append_right _ (List.mem_of_getElem? (l := tables_1) (i := 159) (by decide +kernel))) rfl
theorem fl_X2_15 : jFL RX2 15 2 1 := ⟨RX2, TX2, 4, rfl, by decide, tw_159, inW2⟩
theorem tw_161 : Cond.fieldLink RX2 19 (TX2 2).1 (TX2 2).2.1 (TX2 2).2.2.1 ∈ jW := jW_of (List.mem_append_right _ (List.mem_of_getElem? (l := tables_1) (i := 161) (by decide +kernel))) rfl
theorem fl_X2_19 : jFL RX2 19 2 2 := ⟨RX2, TX2, 4, rfl, by decide, tw_161, inW2⟩
theorem tw_163 : Cond.fieldLink RX2 22 (TX2 3).1 (TX2 3).2.1 (TX2 3).2.2.1 ∈ jW := jW_of (List.mem_append_right _ (List.mem_of_getElem? (l := tables_1) (i := 163) (by decide +kernel))) rfl
theorem fl_X2_22 : jFL RX2 22 2 3 := ⟨RX2, TX2, 4, rfl, by decide, tw_163, inW2⟩
theorem tw_70 : Cond.fieldLink RX3 9 (TX3 0).1 (TX3 0).2.1 (TX3 0).2.2.1 ∈ jW := jW_of (List.mem_append_right _ (List.mem_of_getElem? (l := tables_1) (i := 70) (by decide +kernel))) rfl
theorem fl_X3_9 : jFL RX3 9 3 0 := ⟨RX3, TX3, 4, rfl, by decide, tw_70, inW3⟩
theorem tw_72 : Cond.fieldLink RX3 15 (TX3 1).1 (TX3 1).2.1 (TX3 1).2.2.1 ∈ jW := jW_of (List.mem_append_right _ (List.mem_of_getElem? (l := tables_1) (i := 72) (by decide +kernel))) rfl
theorem fl_X3_15 : jFL RX3 15 3 1 := ⟨RX3, TX3, 4, rfl, by decide, tw_72, inW3⟩
theorem tw_74 : Cond.fieldLink RX3 18 (TX3 2).1 (TX3 2).2.1 (TX3 2).2.2.1 ∈ jW := jW_of (List.mem_append_right _ (List.mem_of_getElem? (l := tables_1) (i := 74) (by decide +kernel))) rfl
theorem fl_X3_18 : jFL RX3 18 3 2 := ⟨RX3, TX3, 4, rfl, by decide, tw_74, inW3⟩
theorem tw_76 : Cond.fieldLink RX3 21 (TX3 3).1 (TX3 3).2.1 (TX3 3).2.2.1 ∈ jW := jW_of (List.mem_append_right _ (List.mem_of_getElem? (l := tables_1) (i := 76) (by decide +kernel))) rfl
theorem fl_X3_21 : jFL RX3 21 3 3 := ⟨RX3, TX3, 4, rfl, by decide, tw_76, inW3⟩
theorem tw_676 : Cond.fieldLink RX5 7 (TX5 0).1 (TX5 0).2.1 (TX5 0).2.2.1 ∈ jW := jW_of (List.mem_append_right _ (List.mem_of_getElem? (l := tables_1) (i := 676) (by decide +kernel))) rfl
theorem fl_X5_7 : jFL RX5 7 5 0 := ⟨RX5, TX5, 29, rfl, by decide, tw_676, inW5⟩
theorem tw_677 : Cond.fieldLink RX5 13 (TX5 1).1 (TX5 1).2.1 (TX5 1).2.2.1 ∈ jW := jW_of (List.mem_append_right _ (List.mem_of_getElem? (l := tables_1) (i := 677) (by decide +kernel))) rfl
theorem fl_X5_13 : jFL RX5 13 5 1 := ⟨RX5, TX5, 29, rfl, by decide, tw_677, inW5⟩
theorem tw_678 : Cond.fieldLink RX5 16 (TX5 2).1 (TX5 2).2.1 (TX5 2).2.2.1 ∈ jW := jW_of (List.mem_append_right _ (List.mem_of_getElem? (l := tables_1) (i := 678) (by decide +kernel))) rfl
theorem fl_X5_16 : jFL RX5 16 5 2 := ⟨RX5, TX5, 29, rfl, by decide, tw_678, inW5⟩
theorem tw_679 : Cond.fieldLink RX5 19 (TX5 3).1 (TX5 3).2.1 (TX5 3).2.2.1 ∈ jW := jW_of (List.mem_append_right _ (List.mem_of_getElem? (l := tables_1) (i := 679) (by decide +kernel))) rfl
theorem fl_X5_19 : jFL RX5 19 5 3 := ⟨RX5, TX5, 29, rfl, by decide, tw_679, inW5⟩
theorem tw_681 : Cond.fieldLink RX5 22 (TX5 5).1 (TX5 5).2.1 (TX5 5).2.2.1 ∈ jW := jW_of (List.mem_append_right _ (List.mem_of_getElem? (l := tables_1) (i := 681) (by decide +kernel))) rfl
theorem fl_X5_22 : jFL RX5 22 5 5 := ⟨RX5, TX5, 29, rfl, by decide, tw_681, inW5⟩
theorem tw_685 : Cond.fieldLink RX5 25 (TX5 9).1 (TX5 9).2.1 (TX5 9).2.2.1 ∈ jW := jW_of (List.mem_append_right _ (List.mem_of_getElem? (l := tables_1) (i := 685) (by decide +kernel))) rfl
theorem fl_X5_25 : jFL RX5 25 5 9 := ⟨RX5, TX5, 29, rfl, by decide, tw_685, inW5⟩
theorem tw_686 : Cond.fieldLink RX5 28 (TX5 10).1 (TX5 10).2.1 (TX5 10).2.2.1 ∈ jW := jW_of (List.mem_append_right _ (List.mem_of_getElem? (l := tables_1) (i := 686) (by decide +kernel))) rfl
theorem fl_X5_28 : jFL RX5 28 5 10 := ⟨RX5, TX5, 29, rfl, by decide, tw_686, inW5⟩
theorem tw_689 : Cond.fieldLink RX5 31 (TX5 13).1 (TX5 13).2.1 (TX5 13).2.2.1 ∈ jW := jW_of (List.mem_append_right _ (List.mem_of_getElem? (l := tables_1) (i := 689) (by decide +kernel))) rfl
theorem fl_X5_31 : jFL RX5 31 5 13 := ⟨RX5, TX5, 29, rfl, by decide, tw_689, inW5⟩
theorem tw_690 : Cond.fieldLink RX5 34 (TX5 14).1 (TX5 14).2.1 (TX5 14).2.2.1 ∈ jW := jW_of (List.mem_append_right _ (List.mem_of_getElem? (l := tables_1) (i := 690) (by decide +kernel))) rfl
theorem fl_X5_34 : jFL RX5 34 5 14 := ⟨RX5, TX5, 29, rfl, by decide, tw_690, inW5⟩
theorem tw_691 : Cond.fieldLink RX5 37 (TX5 15).1 (TX5 15).2.1 (TX5 15).2.2.1 ∈ jW := jW_of (List.mem_append_right _ (List.mem_of_getElem? (l := tables_1) (i := 691) (by decide +kernel))) rfl
theorem fl_X5_37 : jFL RX5 37 5 15 := ⟨RX5, TX5, 29, rfl, by decide, tw_691, inW5⟩
theorem tw_692 : Cond.fieldLink RX5 40 (TX5 16).1 (TX5 16).2.1 (TX5 16).2.2.1 ∈ jW := jW_of (List.mem_append_right _ (List.mem_of_getElem? (l := tables_1) (i := 692) (by decide +kernel))) rfl
theorem fl_X5_40 : jFL RX5 40 5 16 := ⟨RX5, TX5, 29, rfl, by decide, tw_692, inW5⟩
theorem tw_693 : Cond.fieldLink RX5 43 (TX5 17).1 (TX5 17).2.1 (TX5 17).2.2.1 ∈ jW := jW_of (List.mem_append_right _ (List.mem_of_getElem? (l := tables_1) (i := 693) (by decide +kernel))) rfl
theorem fl_X5_43 : jFL RX5 43 5 17 := ⟨RX5, TX5, 29, rfl, by decide, tw_693, inW5⟩
theorem tw_694 : Cond.fieldLink RX5 46 (TX5 18).1 (TX5 18).2.1 (TX5 18).2.2.1 ∈ jW := jW_of (List.mem_append_right _ (List.mem_of_getElem? (l := tables_1) (i := 694) (by decide +kernel))) rfl
theorem fl_X5_46 : jFL RX5 46 5 18 := ⟨RX5, TX5, 29, rfl, by decide, tw_694, inW5⟩
theorem tw_695 : Cond.fieldLink RX5 49 (TX5 19).1 (TX5 19).2.1 (TX5 19).2.2.1 ∈ jW := jW_of (List.mem_append_right _ (List.mem_of_getElem? (l := tables_1) (i := 695) (by decide +kernel))) rfl
theorem fl_X5_49 : jFL RX5 49 5 19 := ⟨RX5, TX5, 29, rfl, by decide, tw_695, inW5⟩
theorem tw_696 : Cond.fieldLink RX5 52 (TX5 20).1 (TX5 20).2.1 (TX5 20).2.2.1 ∈ jW := jW_of (List.mem_append_right _ (List.mem_of_getElem? (l := tables_1) (i := 696) (by decide +kernel))) rfl
theorem fl_X5_52 : jFL RX5 52 5 20 := ⟨RX5, TX5, 29, rfl, by decide, tw_696, inW5⟩
theorem tw_698 : Cond.fieldLink RX5 55 (TX5 22).1 (TX5 22).2.1 (TX5 22).2.2.1 ∈ jW := jW_of (List.mem_append_right _ (List.mem_of_getElem? (l := tables_1) (i := 698) (by decide +kernel))) rfl
theorem fl_X5_55 : jFL RX5 55 5 22 := ⟨RX5, TX5, 29, rfl, by decide, tw_698, inW5⟩
theorem tw_699 : Cond.fieldLink RX5 58 (TX5 23).1 (TX5 23).2.1 (TX5 23).2.2.1 ∈ jW := jW_of (List.mem_append_right _ (List.mem_of_getElem? (l := tables_1) (i := 699) (by decide +kernel))) rfl
theorem fl_X5_58 : jFL RX5 58 5 23 := ⟨RX5, TX5, 29, rfl, by decide, tw_699, inW5⟩
theorem tw_700 : Cond.fieldLink RX5 61 (TX5 24).1 (TX5 24).2.1 (TX5 24).2.2.1 ∈ jW := jW_of (List.mem_append_right _ (List.mem_of_getElem? (l := tables_1) (i := 700) (by decide +kernel))) rfl
theorem fl_X5_61 : jFL RX5 61 5 24 := ⟨RX5, TX5, 29, rfl, by decide, tw_700, inW5⟩
theorem tw_701 : Cond.fieldLink RX5 64 (TX5 25).1 (TX5 25).2.1 (TX5 25).2.2.1 ∈ jW := jW_of (List.mem_append_right _ (List.mem_of_getElem? (l := tables_1) (i := 701) (by decide +kernel))) rfl
theorem fl_X5_64 : jFL RX5 64 5 25 := ⟨RX5, TX5, 29, rfl, by decide, tw_701, inW5⟩
theorem tw_703 : Cond.fieldLink RX5 67 (TX5 27).1 (TX5 27).2.1 (TX5 27).2.2.1 ∈ jW := jW_of (List.mem_append_right _ (List.mem_of_getElem? (l := tables_1) (i := 703) (by decide +kernel))) rfl
theorem fl_X5_67 : jFL RX5 67 5 27 := ⟨RX5, TX5, 29, rfl, by decide, tw_703, inW5⟩
theorem tw_704 : Cond.fieldLink RX5 70 (TX5 28).1 (TX5 28).2.1 (TX5 28).2.2.1 ∈ jW := jW_of (List.mem_append_right _ (List.mem_of_getElem? (l := tables_1) (i := 704) (by decide +kernel))) rfl
theorem fl_X5_70 : jFL RX5 70 5 28 := ⟨RX5, TX5, 29, rfl, by decide, tw_704, inW5⟩
theorem tw_680 : Cond.fieldLink RX5 79 (TX5 4).1 (TX5 4).2.1 (TX5 4).2.2.1 ∈ jW := jW_of (List.mem_append_right _ (List.mem_of_getElem? (l := tables_1) (i := 680) (by decide +kernel))) rfl
theorem fl_X5_79 : jFL RX5 79 5 4 := ⟨RX5, TX5, 29, rfl, by decide, tw_680, inW5⟩
theorem tw_682 : Cond.fieldLink RX5 106 (TX5 6).1 (TX5 6).2.1 (TX5 6).2.2.1 ∈ jW := jW_of (List.mem_append_right _ (List.mem_of_getElem? (l := tables_1) (i := 682) (by decide +kernel))) rfl
theorem fl_X5_106 : jFL RX5 106 5 6 := ⟨RX5, TX5, 29, rfl, by decide, tw_682, inW5⟩
theorem tw_684 : Cond.fieldLink RX5 109 (TX5 8).1 (TX5 8).2.1 (TX5 8).2.2.1 ∈ jW := jW_of (List.mem_append_right _ (List.mem_of_getElem? (l := tables_1) (i := 684) (by decide +kernel))) rfl
theorem fl_X5_109 : jFL RX5 109 5 8 := ⟨RX5, TX5, 29, rfl, by decide, tw_684, inW5⟩
theorem tw_683 : Cond.fieldLink RX5 112 (TX5 7).1 (TX5 7).2.1 (TX5 7).2.2.1 ∈ jW := jW_of (List.mem_append_right _ (List.mem_of_getElem? (l := tables_1) (i := 683) (by decide +kernel))) rfl
theorem fl_X5_112 : jFL RX5 112 5 7 := ⟨RX5, TX5, 29, rfl, by decide, tw_683, inW5⟩
theorem tw_687 : Cond.fieldLink RX5 142 (TX5 11).1 (TX5 11).2.1 (TX5 11).2.2.1 ∈ jW := jW_of (List.mem_append_right _ (List.mem_of_getElem? (l := tables_1) (i := 687) (by decide +kernel))) rfl
theorem fl_X5_142 : jFL RX5 142 5 11 := ⟨RX5, TX5, 29, rfl, by decide, tw_687, inW5⟩
theorem tw_688 : Cond.fieldLink RX5 148 (TX5 12).1 (TX5 12).2.1 (TX5 12).2.2.1 ∈ jW := jW_of (List.mem_append_right _ (List.mem_of_getElem? (l := tables_1) (i := 688) (by decide +kernel))) rfl
theorem fl_X5_148 : jFL RX5 148 5 12 := ⟨RX5, TX5, 29, rfl, by decide, tw_688, inW5⟩
theorem tw_697 : Cond.fieldLink RX5 154 (TX5 21).1 (TX5 21).2.1 (TX5 21).2.2.1 ∈ jW := jW_of (List.mem_append_right _ (List.mem_of_getElem? (l := tables_1) (i := 697) (by decide +kernel))) rfl
theorem fl_X5_154 : jFL RX5 154 5 21 := ⟨RX5, TX5, 29, rfl, by decide, tw_697, inW5⟩
theorem tw_702 : Cond.fieldLink RX5 236 (TX5 26).1 (TX5 26).2.1 (TX5 26).2.2.1 ∈ jW := jW_of (List.mem_append_right _ (List.mem_of_getElem? (l := tables_1) (i := 702) (by decide +kernel))) rfl
theorem fl_X5_236 : jFL RX5 236 5 26 := ⟨RX5, TX5, 29, rfl, by decide, tw_702, inW5⟩
theorem ft_0_1 : jFT 0 1 .int := ⟨RX0, TX0, 7, tyX0, rfl, by decide, rfl, by decide +kernel, tyX0_ok, nmX0⟩
theorem ft_0_2 : jFT 0 2 .int := ⟨RX0, TX0, 7, tyX0, rfl, by decide, rfl, by decide +kernel, tyX0_ok, nmX0⟩
theorem ft_0_3 : jFT 0 3 .int := ⟨RX0, TX0, 7, tyX0, rfl, by decide, rfl, by decide +kernel, tyX0_ok, nmX0⟩
theorem ft_1_0 : jFT 1 0 .int := ⟨RX1, TX1, 16, tyX1, rfl, by decide, rfl, by decide +kernel, tyX1_ok, nmX1⟩
theorem ft_1_5 : jFT 1 5 .int := ⟨RX1, TX1, 16, tyX1, rfl, by decide, rfl, by decide +kernel, tyX1_ok, nmX1⟩
theorem ft_1_13 : jFT 1 13 .int := ⟨RX1, TX1, 16, tyX1, rfl, by decide, rfl, by decide +kernel, tyX1_ok, nmX1⟩
theorem ft_1_14 : jFT 1 14 .int := ⟨RX1, TX1, 16, tyX1, rfl, by decide, rfl, by decide +kernel, tyX1_ok, nmX1⟩
theorem ft_1_15 : jFT 1 15 .int := ⟨RX1, TX1, 16, tyX1, rfl, by decide, rfl, by decide +kernel, tyX1_ok, nmX1⟩
theorem ft_2_0 : jFT 2 0 .boolean := ⟨RX2, TX2, 4, tyX2, rfl, by decide, rfl, by decide +kernel, tyX2_ok, nmX2⟩
theorem ft_2_1 : jFT 2 1 .int := ⟨RX2, TX2, 4, tyX2, rfl, by decide, rfl, by decide +kernel, tyX2_ok, nmX2⟩
theorem ft_2_2 : jFT 2 2 .int := ⟨RX2, TX2, 4, tyX2, rfl, by decide, rfl, by decide +kernel, tyX2_ok, nmX2⟩
theorem ft_3_3 : jFT 3 3 .int := ⟨RX3, TX3, 4, tyX3, rfl, by decide, rfl, by decide +kernel, tyX3_ok, nmX3⟩
theorem ft_4_2 : jFT 4 2 .int := ⟨RX4, TX4, 16, tyX4, rfl, by decide, rfl, by decide +kernel, tyX4_ok, nmX4⟩
theorem ft_4_6 : jFT 4 6 .int := ⟨RX4, TX4, 16, tyX4, rfl, by decide, rfl, by decide +kernel, tyX4_ok, nmX4⟩
theorem ft_4_8 : jFT 4 8 .int := ⟨RX4, TX4, 16, tyX4, rfl, by decide, rfl, by decide +kernel, tyX4_ok, nmX4⟩
theorem ft_4_10 : jFT 4 10 .boolean := ⟨RX4, TX4, 16, tyX4, rfl, by decide, rfl, by decide +kernel, tyX4_ok, nmX4⟩
theorem ft_5_4 : jFT 5 4 .int := ⟨RX5, TX5, 29, tyX5, rfl, by decide, rfl, by decide +kernel, tyX5_ok, nmX5⟩
theorem ft_5_6 : jFT 5 6 .int := ⟨RX5, TX5, 29, tyX5, rfl, by decide, rfl, by decide +kernel, tyX5_ok, nmX5⟩
theorem ft_5_7 : jFT 5 7 .int := ⟨RX5, TX5, 29, tyX5, rfl, by decide, rfl, by decide +kernel, tyX5_ok, nmX5⟩
theorem ft_5_8 : jFT 5 8 .int := ⟨RX5, TX5, 29, tyX5, rfl, by decide, rfl, by decide +kernel, tyX5_ok, nmX5⟩
theorem ft_5_11 : jFT 5 11 .int := ⟨RX5, TX5, 29, tyX5, rfl, by decide, rfl, by decide +kernel, tyX5_ok, nmX5⟩
theorem ft_5_12 : jFT 5 12 .int := ⟨RX5, TX5, 29, tyX5, rfl, by decide, rfl, by decide +kernel, tyX5_ok, nmX5⟩
theorem ft_5_21 : jFT 5 21 .int := ⟨RX5, TX5, 29, tyX5, rfl, by decide, rfl, by decide +kernel, tyX5_ok, nmX5⟩
theorem ft_5_26 : jFT 5 26 .int := ⟨RX5, TX5, 29, tyX5, rfl, by decide, rfl, by decide +kernel, tyX5_ok, nmX5⟩
theorem tw_227 : Cond.methodLink RX4 82 yX4_lengthen ∈ jW := jW_of (List.mem_append_right _ (List.mem_of_getElem? (l := tables_1) (i := 227) (by decide +kernel))) rfl
theorem tw_1 : Cond.initialized RX4 ∈ jW := jW_of (List.mem_append_right _ (List.mem_of_getElem? (l := tables_1) (i := 1) (by decide +kernel))) rfl
theorem tw_230 : Cond.code yX4_lengthen cX4_lengthen 2 (some .int) ∈ jW := jW_of (List.mem_append_right _ (List.mem_of_getElem? (l := tables_1) (i := 230) (by decide +kernel))) rfl
theorem tw_229 : Cond.instanceMethod yX4_lengthen ∈ jW := jW_of (List.mem_append_right _ (List.mem_of_getElem? (l := tables_1) (i := 229) (by decide +kernel))) rfl
theorem ts_0 : Cond.selects RX4 yX4_lengthen yX4_lengthen ∈ jW := jW_of (List.mem_append_left _ (List.mem_of_getElem? (l := k2_sels lw_privs) (i := 0) (by decide +kernel))) rfl
theorem lk_X4_82 : jLv RX4 82 mX4_lengthen 1 := ⟨⟨tw_227, tw_1, tw_230, by decide +kernel⟩, tw_229, ts_0⟩
theorem tw_346 : Cond.methodLink RX4 89 yX4_isBox ∈ jW := jW_of (List.mem_append_right _ (List.mem_of_getElem? (l := tables_1) (i := 346) (by decide +kernel))) rfl
theorem tw_349 : Cond.code yX4_isBox cX4_isBox 2 (some .boolean) ∈ jW := jW_of (List.mem_append_right _ (List.mem_of_getElem? (l := tables_1) (i := 349) (by decide +kernel))) rfl
theorem tw_348 : Cond.instanceMethod yX4_isBox ∈ jW := jW_of (List.mem_append_right _ (List.mem_of_getElem? (l := tables_1) (i := 348) (by decide +kernel))) rfl
theorem ts_2 : Cond.selects RX4 yX4_isBox yX4_isBox ∈ jW := jW_of (List.mem_append_left _ (List.mem_of_getElem? (l := k2_sels lw_privs) (i := 2) (by decide +kernel))) rfl
theorem lk_X4_89 : jLv RX4 89 mX4_isBox 1 := ⟨⟨tw_346, tw_1, tw_349, by decide +kernel⟩, tw_348, ts_2⟩
theorem tw_354 : Cond.methodLink RX4 102 yX4_isNumber ∈ jW := jW_of (List.mem_append_right _ (List.mem_of_getElem? (l := tables_1) (i := 354) (by decide +kernel))) rfl
theorem tw_356 : Cond.code yX4_isNumber cX4_isNumber 1 (some .boolean) ∈ jW := jW_of (List.mem_append_right _ (List.mem_of_getElem? (l := tables_1) (i := 356) (by decide +kernel))) rfl
theorem tw_355 : Cond.static yX4_isNumber ∈ jW := jW_of (List.mem_append_right _ (List.mem_of_getElem? (l := tables_1) (i := 355) (by decide +kernel))) rfl
theorem lk_X4_102 : jLs RX4 102 mX4_isNumber 1 := ⟨⟨tw_354, tw_1, tw_356, by decide +kernel⟩, tw_355⟩
theorem tw_361 : Cond.methodLink RX4 105 yX4_exchange ∈ jW := jW_of (List.mem_append_right _ (List.mem_of_getElem? (l := tables_1) (i := 361) (by decide +kernel))) rfl
theorem tw_363 : Cond.code yX4_exchange cX4_exchange 4 none ∈ jW := jW_of (List.mem_append_right _ (List.mem_of_getElem? (l := tables_1) (i := 363) (by decide +kernel))) rfl
theorem tw_362 : Cond.static yX4_exchange ∈ jW := jW_of (List.mem_append_right _ (List.mem_of_getElem? (l := tables_1) (i := 362) (by decide +kernel))) rfl
theorem lk_X4_105 : jLs RX4 105 mX4_exchange 3 := ⟨⟨tw_361, tw_1, tw_363, by decide +kernel⟩, tw_362⟩
theorem tw_372 : Cond.methodLink RX4 109 yX3_mayBe ∈ jW := jW_of (List.mem_append_right _ (List.mem_of_getElem? (l := tables_1) (i := 372) (by decide +kernel))) rfl
theorem tw_3 : Cond.initialized RX3 ∈ jW := jW_of (List.mem_append_right _ (List.mem_of_getElem? (l := tables_1) (i := 3) (by decide +kernel))) rfl
theorem tw_374 : Cond.code yX3_mayBe cX3_mayBe 3 (some .boolean) ∈ jW := jW_of (List.mem_append_right _ (List.mem_of_getElem? (l := tables_1) (i := 374) (by decide +kernel))) rfl
theorem tw_373 : Cond.static yX3_mayBe ∈ jW := jW_of (List.mem_append_right _ (List.mem_of_getElem? (l := tables_1) (i := 373) (by decide +kernel))) rfl
theorem lk_X4_109 : jLs RX4 109 mX3_mayBe 3 := ⟨⟨tw_372, tw_3, tw_374, by decide +kernel⟩, tw_373⟩
theorem tw_379 : Cond.methodLink RX4 116 yX3_add ∈ jW := jW_of (List.mem_append_right _ (List.mem_of_getElem? (l := tables_1) (i := 379) (by decide +kernel))) rfl
theorem tw_382 : Cond.code yX3_add cX3_add 4 none ∈ jW := jW_of (List.mem_append_right _ (List.mem_of_getElem? (l := tables_1) (i := 382) (by decide +kernel))) rfl
theorem tw_380 : Cond.instanceMethod yX3_add ∈ jW := jW_of (List.mem_append_right _ (List.mem_of_getElem? (l := tables_1) (i := 380) (by decide +kernel))) rfl
theorem tw_381 : Cond.selects RX3 yX3_add yX3_add ∈ jW := jW_of (List.mem_append_right _ (List.mem_of_getElem? (l := tables_1) (i := 381) (by decide +kernel))) rfl
theorem lk_X4_116 : jLv RX4 116 mX3_add 3 := ⟨⟨tw_379, tw_3, tw_382, by decide +kernel⟩, tw_380, tw_381⟩
theorem tw_391 : Cond.methodLink RX4 120 yX4_isSheet ∈ jW := jW_of (List.mem_append_right _ (List.mem_of_getElem? (l := tables_1) (i := 391) (by decide +kernel))) rfl
theorem tw_393 : Cond.code yX4_isSheet cX4_isSheet 1 (some .boolean) ∈ jW := jW_of (List.mem_append_right _ (List.mem_of_getElem? (l := tables_1) (i := 393) (by decide +kernel))) rfl
theorem tw_392 : Cond.static yX4_isSheet ∈ jW := jW_of (List.mem_append_right _ (List.mem_of_getElem? (l := tables_1) (i := 392) (by decide +kernel))) rfl
theorem lk_X4_120 : jLs RX4 120 mX4_isSheet 1 := ⟨⟨tw_391, tw_1, tw_393, by decide +kernel⟩, tw_392⟩
theorem tw_394 : Cond.methodLink RX4 126 yX4_finding ∈ jW := jW_of (List.mem_append_right _ (List.mem_of_getElem? (l := tables_1) (i := 394) (by decide +kernel))) rfl
theorem tw_397 : Cond.code yX4_finding cX4_finding 2 (some .int) ∈ jW := jW_of (List.mem_append_right _ (List.mem_of_getElem? (l := tables_1) (i := 397) (by decide +kernel))) rfl
theorem tw_396 : Cond.instanceMethod yX4_finding ∈ jW := jW_of (List.mem_append_right _ (List.mem_of_getElem? (l := tables_1) (i := 396) (by decide +kernel))) rfl
theorem ts_3 : Cond.selects RX4 yX4_finding yX4_finding ∈ jW := jW_of (List.mem_append_left _ (List.mem_of_getElem? (l := k2_sels lw_privs) (i := 3) (by decide +kernel))) rfl
theorem lk_X4_126 : jLv RX4 126 mX4_finding 1 := ⟨⟨tw_394, tw_1, tw_397, by decide +kernel⟩, tw_396, ts_3⟩
theorem tw_398 : Cond.methodLink RX4 133 yX4_tell ∈ jW := jW_of (List.mem_append_right _ (List.mem_of_getElem? (l := tables_1) (i := 398) (by decide +kernel))) rfl
theorem tw_371 : Cond.code yX4_tell cX4_tell 4 (some .int) ∈ jW := jW_of (List.mem_append_right _ (List.mem_of_getElem? (l := tables_1) (i := 371) (by decide +kernel))) rfl
theorem tw_369 : Cond.instanceMethod yX4_tell ∈ jW := jW_of (List.mem_append_right _ (List.mem_of_getElem? (l := tables_1) (i := 369) (by decide +kernel))) rfl
theorem tw_370 : Cond.selects RX4 yX4_tell yX4_tell ∈ jW := jW_of (List.mem_append_right _ (List.mem_of_getElem? (l := tables_1) (i := 370) (by decide +kernel))) rfl
theorem lk_X4_133 : jLv RX4 133 mX4_tell 3 := ⟨⟨tw_398, tw_1, tw_371, by decide +kernel⟩, tw_369, tw_370⟩
theorem tw_403 : Cond.methodLink RX4 137 yX4_isStep ∈ jW := jW_of (List.mem_append_right _ (List.mem_of_getElem? (l := tables_1) (i := 403) (by decide +kernel))) rfl
theorem tw_377 : Cond.code yX4_isStep cX4_isStep 1 (some .boolean) ∈ jW := jW_of (List.mem_append_right _ (List.mem_of_getElem? (l := tables_1) (i := 377) (by decide +kernel))) rfl
theorem tw_376 : Cond.static yX4_isStep ∈ jW := jW_of (List.mem_append_right _ (List.mem_of_getElem? (l := tables_1) (i := 376) (by decide +kernel))) rfl
theorem lk_X4_137 : jLs RX4 137 mX4_isStep 1 := ⟨⟨tw_403, tw_1, tw_377, by decide +kernel⟩, tw_376⟩
theorem tw_404 : Cond.methodLink RX4 140 yX4_isEither ∈ jW := jW_of (List.mem_append_right _ (List.mem_of_getElem? (l := tables_1) (i := 404) (by decide +kernel))) rfl
theorem tw_406 : Cond.code yX4_isEither cX4_isEither 1 (some .boolean) ∈ jW := jW_of (List.mem_append_right _ (List.mem_of_getElem? (l := tables_1) (i := 406) (by decide +kernel))) rfl
theorem tw_405 : Cond.static yX4_isEither ∈ jW := jW_of (List.mem_append_right _ (List.mem_of_getElem? (l := tables_1) (i := 405) (by decide +kernel))) rfl
theorem lk_X4_140 : jLs RX4 140 mX4_isEither 1 := ⟨⟨tw_404, tw_1, tw_406, by decide +kernel⟩, tw_405⟩
theorem tw_407 : Cond.methodLink RX4 143 yX4_runAsTold ∈ jW := jW_of (List.mem_append_right _ (List.mem_of_getElem? (l := tables_1) (i := 407) (by decide +kernel))) rfl
theorem tw_410 : Cond.code yX4_runAsTold cX4_runAsTold 1 none ∈ jW := jW_of (List.mem_append_right _ (List.mem_of_getElem? (l := tables_1) (i := 410) (by decide +kernel))) rfl
theorem tw_409 : Cond.instanceMethod yX4_runAsTold ∈ jW := jW_of (List.mem_append_right _ (List.mem_of_getElem? (l := tables_1) (i := 409) (by decide +kernel))) rfl
theorem ts_4 : Cond.selects RX4 yX4_runAsTold yX4_runAsTold ∈ jW := jW_of (List.mem_append_left _ (List.mem_of_getElem? (l := k2_sels lw_privs) (i := 4) (by decide +kernel))) rfl
theorem lk_X4_143 : jLv RX4 143 mX4_runAsTold 0 := ⟨⟨tw_407, tw_1, tw_410, by decide +kernel⟩, tw_409, ts_4⟩
theorem tw_458 : Cond.methodLink RX4 152 yJ6_bitCount_0f7a4 ∈ jW := jW_of (List.mem_append_right _ (List.mem_of_getElem? (l := tables_1) (i := 458) (by decide +kernel))) rfl
theorem tw_15 : Cond.initialized RJ6 ∈ jW := jW_of (List.mem_append_right _ (List.mem_of_getElem? (l := tables_1) (i := 15) (by decide +kernel))) rfl
theorem tw_438 : Cond.code yJ6_bitCount_0f7a4 cJ6_bitCount_0f7a4 1 (some .int) ∈ jW := jW_of (List.mem_append_right _ (List.mem_of_getElem? (l := tables_1) (i := 438) (by decide +kernel))) rfl
theorem tw_437 : Cond.static yJ6_bitCount_0f7a4 ∈ jW := jW_of (List.mem_append_right _ (List.mem_of_getElem? (l := tables_1) (i := 437) (by decide +kernel))) rfl
theorem lk_X4_152 : jLs RX4 152 mJ6_bitCount_0f7a4 1 := ⟨⟨tw_458, tw_15, tw_438, by decide +kernel⟩, tw_437⟩
theorem tw_471 : Cond.methodLink RX4 157 yX4_spread ∈ jW := jW_of (List.mem_append_right _ (List.mem_of_getElem? (l := tables_1) (i := 471) (by decide +kernel))) rfl
theorem tw_473 : Cond.code yX4_spread cX4_spread 2 (some .int) ∈ jW := jW_of (List.mem_append_right _ (List.mem_of_getElem? (l := tables_1) (i := 473) (by decide +kernel))) rfl
theorem tw_472 : Cond.static yX4_spread ∈ jW := jW_of (List.mem_append_right _ (List.mem_of_getElem? (l := tables_1) (i := 472) (by decide +kernel))) rfl
theorem lk_X4_157 : jLs RX4 157 mX4_spread 2 := ⟨⟨tw_471, tw_1, tw_473, by decide +kernel⟩, tw_472⟩
theorem tw_411 : Cond.methodLink RX4 161 yX1_load ∈ jW := jW_of (List.mem_append_right _ (List.mem_of_getElem? (l := tables_1) (i := 411) (by decide +kernel))) rfl
theorem tw_4 : Cond.initialized RX1 ∈ jW := jW_of (List.mem_append_right _ (List.mem_of_getElem? (l := tables_1) (i := 4) (by decide +kernel))) rfl
theorem tw_414 : Cond.code yX1_load cX1_load 6 none ∈ jW := jW_of (List.mem_append_right _ (List.mem_of_getElem? (l := tables_1) (i := 414) (by decide +kernel))) rfl
theorem tw_412 : Cond.instanceMethod yX1_load ∈ jW := jW_of (List.mem_append_right _ (List.mem_of_getElem? (l := tables_1) (i := 412) (by decide +kernel))) rfl
theorem tw_413 : Cond.selects RX1 yX1_load yX1_load ∈ jW := jW_of (List.mem_append_right _ (List.mem_of_getElem? (l := tables_1) (i := 413) (by decide +kernel))) rfl
theorem lk_X4_161 : jLv RX4 161 mX1_load 4 := ⟨⟨tw_411, tw_4, tw_414, by decide +kernel⟩, tw_412, tw_413⟩
theorem tw_482 : Cond.methodLink RX4 165 yX0_allBits ∈ jW := jW_of (List.mem_append_right _ (List.mem_of_getElem? (l := tables_1) (i := 482) (by decide +kernel))) rfl
theorem tw_2 : Cond.initialized RX0 ∈ jW := jW_of (List.mem_append_right _ (List.mem_of_getElem? (l := tables_1) (i := 2) (by decide +kernel))) rfl
theorem tw_485 : Cond.code yX0_allBits cX0_allBits 1 (some .int) ∈ jW := jW_of (List.mem_append_right _ (List.mem_of_getElem? (l := tables_1) (i := 485) (by decide +kernel))) rfl
theorem tw_483 : Cond.instanceMethod yX0_allBits ∈ jW := jW_of (List.mem_append_right _ (List.mem_of_getElem? (l := tables_1) (i := 483) (by decide +kernel))) rfl
theorem tw_484 : Cond.selects RX0 yX0_allBits yX0_allBits ∈ jW := jW_of (List.mem_append_right _ (List.mem_of_getElem? (l := tables_1) (i := 484) (by decide +kernel))) rfl
theorem lk_X4_165 : jLv RX4 165 mX0_allBits 0 := ⟨⟨tw_482, tw_2, tw_485, by decide +kernel⟩, tw_483, tw_484⟩
theorem tw_486 : Cond.methodLink RX4 169 yX4_isHushed ∈ jW := jW_of (List.mem_append_right _ (List.mem_of_getElem? (l := tables_1) (i := 486) (by decide +kernel))) rfl
theorem tw_489 : Cond.code yX4_isHushed cX4_isHushed 3 (some .boolean) ∈ jW := jW_of (List.mem_append_right _ (List.mem_of_getElem? (l := tables_1) (i := 489) (by decide +kernel))) rfl
theorem tw_488 : Cond.instanceMethod yX4_isHushed ∈ jW := jW_of (List.mem_append_right _ (List.mem_of_getElem? (l := tables_1) (i := 488) (by decide +kernel))) rfl
theorem ts_7 : Cond.selects RX4 yX4_isHushed yX4_isHushed ∈ jW := jW_of (List.mem_append_left _ (List.mem_of_getElem? (l := k2_sels lw_privs) (i := 7) (by decide +kernel))) rfl
theorem lk_X4_169 : jLv RX4 169 mX4_isHushed 2 := ⟨⟨tw_486, tw_1, tw_489, by decide +kernel⟩, tw_488, ts_7⟩
theorem tw_494 : Cond.methodLink RX4 176 yX4_findShelf ∈ jW := jW_of (List.mem_append_right _ (List.mem_of_getElem? (l := tables_1) (i := 494) (by decide +kernel))) rfl
theorem tw_497 : Cond.code yX4_findShelf cX4_findShelf 7 (some .int) ∈ jW := jW_of (List.mem_append_right _ (List.mem_of_getElem? (l := tables_1) (i := 497) (by decide +kernel))) rfl
theorem tw_496 : Cond.instanceMethod yX4_findShelf ∈ jW := jW_of (List.mem_append_right _ (List.mem_of_getElem? (l := tables_1) (i := 496) (by decide +kernel))) rfl
theorem ts_8 : Cond.selects RX4 yX4_findShelf yX4_findShelf ∈ jW := jW_of (List.mem_append_left _ (List.mem_of_getElem? (l := k2_sels lw_privs) (i := 8) (by decide +kernel))) rfl
theorem lk_X4_176 : jLv RX4 176 mX4_findShelf 2 := ⟨⟨tw_494, tw_1, tw_497, by decide +kernel⟩, tw_496, ts_8⟩
theorem tw_520 : Cond.methodLink RX4 180 yX4_findFitting ∈ jW := jW_of (List.mem_append_right _ (List.mem_of_getElem? (l := tables_1) (i := 520) (by decide +kernel))) rfl
theorem tw_523 : Cond.code yX4_findFitting cX4_findFitting 5 (some .int) ∈ jW := jW_of (List.mem_append_right _ (List.mem_of_getElem? (l := tables_1) (i := 523) (by decide +kernel))) rfl
theorem tw_522 : Cond.instanceMethod yX4_findFitting ∈ jW := jW_of (List.mem_append_right _ (List.mem_of_getElem? (l := tables_1) (i := 522) (by decide +kernel))) rfl
theorem ts_10 : Cond.selects RX4 yX4_findFitting yX4_findFitting ∈ jW := jW_of (List.mem_append_left _ (List.mem_of_getElem? (l := k2_sels lw_privs) (i := 10) (by decide +kernel))) rfl
theorem lk_X4_180 : jLv RX4 180 mX4_findFitting 1 := ⟨⟨tw_520, tw_1, tw_523, by decide +kernel⟩, tw_522, ts_10⟩
theorem tw_524 : Cond.methodLink RX4 183 yX4_lastHeardStep ∈ jW := jW_of (List.mem_append_right _ (List.mem_of_getElem? (l := tables_1) (i := 524) (by decide +kernel))) rfl
theorem tw_527 : Cond.code yX4_lastHeardStep cX4_lastHeardStep 3 (some .int) ∈ jW := jW_of (List.mem_append_right _ (List.mem_of_getElem? (l := tables_1) (i := 527) (by decide +kernel))) rfl
theorem tw_526 : Cond.instanceMethod yX4_lastHeardStep ∈ jW := jW_of (List.mem_append_right _ (List.mem_of_getElem? (l := tables_1) (i := 526) (by decide +kernel))) rfl
theorem ts_11 : Cond.selects RX4 yX4_lastHeardStep yX4_lastHeardStep ∈ jW := jW_of (List.mem_append_left _ (List.mem_of_getElem? (l := k2_sels lw_privs) (i := 11) (by decide +kernel))) rfl
theorem lk_X4_183 : jLv RX4 183 mX4_lastHeardStep 0 := ⟨⟨tw_524, tw_1, tw_527, by decide +kernel⟩, tw_526, ts_11⟩
theorem tw_425 : Cond.methodLink RX4 187 yX1_run ∈ jW := jW_of (List.mem_append_right _ (List.mem_of_getElem? (l := tables_1) (i := 425) (by decide +kernel))) rfl
theorem tw_428 : Cond.code yX1_run cX1_run 3 none ∈ jW := jW_of (List.mem_append_right _ (List.mem_of_getElem? (l := tables_1) (i := 428) (by decide +kernel))) rfl
theorem tw_426 : Cond.instanceMethod yX1_run ∈ jW := jW_of (List.mem_append_right _ (List.mem_of_getElem? (l := tables_1) (i := 426) (by decide +kernel))) rfl
theorem tw_427 : Cond.selects RX1 yX1_run yX1_run ∈ jW := jW_of (List.mem_append_right _ (List.mem_of_getElem? (l := tables_1) (i := 427) (by decide +kernel))) rfl
theorem lk_X4_187 : jLv RX4 187 mX1_run 1 := ⟨⟨tw_425, tw_4, tw_428, by decide +kernel⟩, tw_426, tw_427⟩
theorem tw_533 : Cond.methodLink RX4 191 yX4_isAsHeard ∈ jW := jW_of (List.mem_append_right _ (List.mem_of_getElem? (l := tables_1) (i := 533) (by decide +kernel))) rfl
theorem tw_536 : Cond.code yX4_isAsHeard cX4_isAsHeard 2 (some .boolean) ∈ jW := jW_of (List.mem_append_right _ (List.mem_of_getElem? (l := tables_1) (i := 536) (by decide +kernel))) rfl
theorem tw_535 : Cond.instanceMethod yX4_isAsHeard ∈ jW := jW_of (List.mem_append_right _ (List.mem_of_getElem? (l := tables_1) (i := 535) (by decide +kernel))) rfl
theorem ts_12 : Cond.selects RX4 yX4_isAsHeard yX4_isAsHeard ∈ jW := jW_of (List.mem_append_left _ (List.mem_of_getElem? (l := k2_sels lw_privs) (i := 12) (by decide +kernel))) rfl
theorem lk_X4_191 : jLv RX4 191 mX4_isAsHeard 0 := ⟨⟨tw_533, tw_1, tw_536, by decide +kernel⟩, tw_535, ts_12⟩
theorem tw_545 : Cond.methodLink RX4 195 yX4_greatestAlike ∈ jW := jW_of (List.mem_append_right _ (List.mem_of_getElem? (l := tables_1) (i := 545) (by decide +kernel))) rfl
theorem tw_548 : Cond.code yX4_greatestAlike cX4_greatestAlike 9 (some .int) ∈ jW := jW_of (List.mem_append_right _ (List.mem_of_getElem? (l := tables_1) (i := 548) (by decide +kernel))) rfl
theorem tw_547 : Cond.instanceMethod yX4_greatestAlike ∈ jW := jW_of (List.mem_append_right _ (List.mem_of_getElem? (l := tables_1) (i := 547) (by decide +kernel))) rfl
theorem ts_13 : Cond.selects RX4 yX4_greatestAlike yX4_greatestAlike ∈ jW := jW_of (List.mem_append_left _ (List.mem_of_getElem? (l := k2_sels lw_privs) (i := 13) (by decide +kernel))) rfl
theorem lk_X4_195 : jLv RX4 195 mX4_greatestAlike 4 := ⟨⟨tw_545, tw_1, tw_548, by decide +kernel⟩, tw_547, ts_13⟩
theorem tw_555 : Cond.methodLink RX4 201 yX4_wholeWeight ∈ jW := jW_of (List.mem_append_right _ (List.mem_of_getElem? (l := tables_1) (i := 555) (by decide +kernel))) rfl
theorem tw_557 : Cond.code yX4_wholeWeight cX4_wholeWeight 1 (some .long) ∈ jW := jW_of (List.mem_append_right _ (List.mem_of_getElem? (l := tables_1) (i := 557) (by decide +kernel))) rfl
theorem tw_556 : Cond.static yX4_wholeWeight ∈ jW := jW_of (List.mem_append_right _ (List.mem_of_getElem? (l := tables_1) (i := 556) (by decide +kernel))) rfl
theorem lk_X4_201 : jLs RX4 201 mX4_wholeWeight 1 := ⟨⟨tw_555, tw_1, tw_557, by decide +kernel⟩, tw_556⟩
theorem tw_558 : Cond.methodLink RX4 205 yX4_weightUp ∈ jW := jW_of (List.mem_append_right _ (List.mem_of_getElem? (l := tables_1) (i := 558) (by decide +kernel))) rfl
theorem tw_561 : Cond.code yX4_weightUp cX4_weightUp 10 (some .long) ∈ jW := jW_of (List.mem_append_right _ (List.mem_of_getElem? (l := tables_1) (i := 561) (by decide +kernel))) rfl
theorem tw_560 : Cond.instanceMethod yX4_weightUp ∈ jW := jW_of (List.mem_append_right _ (List.mem_of_getElem? (l := tables_1) (i := 560) (by decide +kernel))) rfl
theorem ts_14 : Cond.selects RX4 yX4_weightUp yX4_weightUp ∈ jW := jW_of (List.mem_append_left _ (List.mem_of_getElem? (l := k2_sels lw_privs) (i := 14) (by decide +kernel))) rfl
theorem lk_X4_205 : jLv RX4 205 mX4_weightUp 3 := ⟨⟨tw_558, tw_1, tw_561, by decide +kernel⟩, tw_560, ts_14⟩
theorem tw_573 : Cond.methodLink RX4 209 yX4_commonDivisor ∈ jW := jW_of (List.mem_append_right _ (List.mem_of_getElem? (l := tables_1) (i := 573) (by decide +kernel))) rfl
theorem tw_575 : Cond.code yX4_commonDivisor cX4_commonDivisor 11 (some .long) ∈ jW := jW_of (List.mem_append_right _ (List.mem_of_getElem? (l := tables_1) (i := 575) (by decide +kernel))) rfl
theorem tw_574 : Cond.static yX4_commonDivisor ∈ jW := jW_of (List.mem_append_right _ (List.mem_of_getElem? (l := tables_1) (i := 574) (by decide +kernel))) rfl
theorem lk_X4_209 : jLs RX4 209 mX4_commonDivisor 2 := ⟨⟨tw_573, tw_1, tw_575, by decide +kernel⟩, tw_574⟩
theorem tw_499 : Cond.methodLink RX4 218 yX1_openings ∈ jW := jW_of (List.mem_append_right _ (List.mem_of_getElem? (l := tables_1) (i := 499) (by decide +kernel))) rfl
theorem tw_502 : Cond.code yX1_openings cX1_openings 4 (some .int) ∈ jW := jW_of (List.mem_append_right _ (List.mem_of_getElem? (l := tables_1) (i := 502) (by decide +kernel))) rfl
theorem tw_500 : Cond.instanceMethod yX1_openings ∈ jW := jW_of (List.mem_append_right _ (List.mem_of_getElem? (l := tables_1) (i := 500) (by decide +kernel))) rfl
theorem tw_501 : Cond.selects RX1 yX1_openings yX1_openings ∈ jW := jW_of (List.mem_append_right _ (List.mem_of_getElem? (l := tables_1) (i := 501) (by decide +kernel))) rfl
theorem lk_X4_218 : jLv RX4 218 mX1_openings 1 := ⟨⟨tw_499, tw_4, tw_502, by decide +kernel⟩, tw_500, tw_501⟩
theorem tw_585 : Cond.methodLink RX4 221 yX4_isForm ∈ jW := jW_of (List.mem_append_right _ (List.mem_of_getElem? (l := tables_1) (i := 585) (by decide +kernel))) rfl
theorem tw_587 : Cond.code yX4_isForm cX4_isForm 1 (some .boolean) ∈ jW := jW_of (List.mem_append_right _ (List.mem_of_getElem? (l := tables_1) (i := 587) (by decide +kernel))) rfl
theorem tw_586 : Cond.static yX4_isForm ∈ jW := jW_of (List.mem_append_right _ (List.mem_of_getElem? (l := tables_1) (i := 586) (by decide +kernel))) rfl
theorem lk_X4_221 : jLs RX4 221 mX4_isForm 1 := ⟨⟨tw_585, tw_1, tw_587, by decide +kernel⟩, tw_586⟩
theorem tw_588 : Cond.methodLink RX4 224 yX2_renew ∈ jW := jW_of (List.mem_append_right _ (List.mem_of_getElem? (l := tables_1) (i := 588) (by decide +kernel))) rfl
theorem tw_5 : Cond.initialized RX2 ∈ jW := jW_of (List.mem_append_right _ (List.mem_of_getElem? (l := tables_1) (i := 5) (by decide +kernel))) rfl
theorem tw_591 : Cond.code yX2_renew cX2_renew 3 none ∈ jW := jW_of (List.mem_append_right _ (List.mem_of_getElem? (l := tables_1) (i := 591) (by decide +kernel))) rfl
theorem tw_589 : Cond.instanceMethod yX2_renew ∈ jW := jW_of (List.mem_append_right _ (List.mem_of_getElem? (l := tables_1) (i := 589) (by decide +kernel))) rfl
theorem tw_590 : Cond.selects RX2 yX2_renew yX2_renew ∈ jW := jW_of (List.mem_append_right _ (List.mem_of_getElem? (l := tables_1) (i := 590) (by decide +kernel))) rfl
theorem lk_X4_224 : jLv RX4 224 mX2_renew 2 := ⟨⟨tw_588, tw_5, tw_591, by decide +kernel⟩, tw_589, tw_590⟩
theorem tw_601 : Cond.methodLink RX4 228 yX2_findingAt ∈ jW := jW_of (List.mem_append_right _ (List.mem_of_getElem? (l := tables_1) (i := 601) (by decide +kernel))) rfl
theorem tw_604 : Cond.code yX2_findingAt cX2_findingAt 3 (some .int) ∈ jW := jW_of (List.mem_append_right _ (List.mem_of_getElem? (l := tables_1) (i := 604) (by decide +kernel))) rfl
theorem tw_602 : Cond.instanceMethod yX2_findingAt ∈ jW := jW_of (List.mem_append_right _ (List.mem_of_getElem? (l := tables_1) (i := 602) (by decide +kernel))) rfl
theorem tw_603 : Cond.selects RX2 yX2_findingAt yX2_findingAt ∈ jW := jW_of (List.mem_append_right _ (List.mem_of_getElem? (l := tables_1) (i := 603) (by decide +kernel))) rfl
theorem lk_X4_228 : jLv RX4 228 mX2_findingAt 2 := ⟨⟨tw_601, tw_5, tw_604, by decide +kernel⟩, tw_602, tw_603⟩
theorem tw_609 : Cond.methodLink RX4 231 yX2_put ∈ jW := jW_of (List.mem_append_right _ (List.mem_of_getElem? (l := tables_1) (i := 609) (by decide +kernel))) rfl
theorem tw_612 : Cond.code yX2_put cX2_put 3 none ∈ jW := jW_of (List.mem_append_right _ (List.mem_of_getElem? (l := tables_1) (i := 612) (by decide +kernel))) rfl
theorem tw_610 : Cond.instanceMethod yX2_put ∈ jW := jW_of (List.mem_append_right _ (List.mem_of_getElem? (l := tables_1) (i := 610) (by decide +kernel))) rfl
theorem tw_611 : Cond.selects RX2 yX2_put yX2_put ∈ jW := jW_of (List.mem_append_right _ (List.mem_of_getElem? (l := tables_1) (i := 611) (by decide +kernel))) rfl
theorem lk_X4_231 : jLv RX4 231 mX2_put 2 := ⟨⟨tw_609, tw_5, tw_612, by decide +kernel⟩, tw_610, tw_611⟩
theorem tw_622 : Cond.methodLink RX4 238 yX2_has ∈ jW := jW_of (List.mem_append_right _ (List.mem_of_getElem? (l := tables_1) (i := 622) (by decide +kernel))) rfl
theorem tw_608 : Cond.code yX2_has cX2_has 3 (some .boolean) ∈ jW := jW_of (List.mem_append_right _ (List.mem_of_getElem? (l := tables_1) (i := 608) (by decide +kernel))) rfl
theorem tw_606 : Cond.instanceMethod yX2_has ∈ jW := jW_of (List.mem_append_right _ (List.mem_of_getElem? (l := tables_1) (i := 606) (by decide +kernel))) rfl
theorem tw_607 : Cond.selects RX2 yX2_has yX2_has ∈ jW := jW_of (List.mem_append_right _ (List.mem_of_getElem? (l := tables_1) (i := 607) (by decide +kernel))) rfl
theorem lk_X4_238 : jLv RX4 238 mX2_has 2 := ⟨⟨tw_622, tw_5, tw_608, by decide +kernel⟩, tw_606, tw_607⟩
theorem tw_503 : Cond.methodLink RX4 241 arraycopyName ∈ jW := jW_of (List.mem_append_right _ (List.mem_of_getElem? (l := tables_1) (i := 503) (by decide +kernel))) rfl
theorem tw_417 : Cond.native arraycopyName ∈ jW := jW_of (List.mem_append_right _ (List.mem_of_getElem? (l := tables_1) (i := 417) (by decide +kernel))) rfl
theorem tw_416 : Cond.static arraycopyName ∈ jW := jW_of (List.mem_append_right _ (List.mem_of_getElem? (l := tables_1) (i := 416) (by decide +kernel))) rfl
theorem tw_13 : Cond.initialized "java/lang/System" ∈ jW := jW_of (List.mem_append_right _ (List.mem_of_getElem? (l := tables_1) (i := 13) (by decide +kernel))) rfl
theorem lc_X4_241 : Cond.methodLink RX4 241 arraycopyName ∈ jW ∧ Cond.native arraycopyName ∈ jW ∧ Cond.static arraycopyName ∈ jW ∧ Cond.initialized "java/lang/System" ∈ jW := ⟨tw_503, tw_417, tw_416, tw_13⟩
theorem tw_631 : Cond.methodLink RX4 247 yX0_allSprings ∈ jW := jW_of (List.mem_append_right _ (List.mem_of_getElem? (l := tables_1) (i := 631) (by decide +kernel))) rfl
theorem tw_634 : Cond.code yX0_allSprings cX0_allSprings 3 (some .int) ∈ jW := jW_of (List.mem_append_right _ (List.mem_of_getElem? (l := tables_1) (i := 634) (by decide +kernel))) rfl
theorem tw_632 : Cond.instanceMethod yX0_allSprings ∈ jW := jW_of (List.mem_append_right _ (List.mem_of_getElem? (l := tables_1) (i := 632) (by decide +kernel))) rfl
theorem tw_633 : Cond.selects RX0 yX0_allSprings yX0_allSprings ∈ jW := jW_of (List.mem_append_right _ (List.mem_of_getElem? (l := tables_1) (i := 633) (by decide +kernel))) rfl
theorem lk_X4_247 : jLv RX4 247 mX0_allSprings 0 := ⟨⟨tw_631, tw_2, tw_634, by decide +kernel⟩, tw_632, tw_633⟩
theorem tw_635 : Cond.methodLink RX4 250 yX0_withLaw ∈ jW := jW_of (List.mem_append_right _ (List.mem_of_getElem? (l := tables_1) (i := 635) (by decide +kernel))) rfl
theorem tw_638 : Cond.code yX0_withLaw cX0_withLaw 4 (some .int) ∈ jW := jW_of (List.mem_append_right _ (List.mem_of_getElem? (l := tables_1) (i := 638) (by decide +kernel))) rfl
theorem tw_636 : Cond.instanceMethod yX0_withLaw ∈ jW := jW_of (List.mem_append_right _ (List.mem_of_getElem? (l := tables_1) (i := 636) (by decide +kernel))) rfl
theorem tw_637 : Cond.selects RX0 yX0_withLaw yX0_withLaw ∈ jW := jW_of (List.mem_append_right _ (List.mem_of_getElem? (l := tables_1) (i := 637) (by decide +kernel))) rfl
theorem lk_X4_250 : jLv RX4 250 mX0_withLaw 1 := ⟨⟨tw_635, tw_2, tw_638, by decide +kernel⟩, tw_636, tw_637⟩
theorem tw_645 : Cond.methodLink RX4 257 yX4_count ∈ jW := jW_of (List.mem_append_right _ (List.mem_of_getElem? (l := tables_1) (i := 645) (by decide +kernel))) rfl
theorem tw_630 : Cond.code yX4_count cX4_count 2 (some .int) ∈ jW := jW_of (List.mem_append_right _ (List.mem_of_getElem? (l := tables_1) (i := 630) (by decide +kernel))) rfl
theorem tw_628 : Cond.instanceMethod yX4_count ∈ jW := jW_of (List.mem_append_right _ (List.mem_of_getElem? (l := tables_1) (i := 628) (by decide +kernel))) rfl
theorem tw_629 : Cond.selects RX4 yX4_count yX4_count ∈ jW := jW_of (List.mem_append_right _ (List.mem_of_getElem? (l := tables_1) (i := 629) (by decide +kernel))) rfl
theorem lk_X4_257 : jLv RX4 257 mX4_count 1 := ⟨⟨tw_645, tw_1, tw_630, by decide +kernel⟩, tw_628, tw_629⟩
theorem tw_646 : Cond.methodLink RX4 259 yX4_fault ∈ jW := jW_of (List.mem_append_right _ (List.mem_of_getElem? (l := tables_1) (i := 646) (by decide +kernel))) rfl
theorem tw_341 : Cond.code yX4_fault cX4_fault 1 (some .int) ∈ jW := jW_of (List.mem_append_right _ (List.mem_of_getElem? (l := tables_1) (i := 341) (by decide +kernel))) rfl
theorem tw_339 : Cond.instanceMethod yX4_fault ∈ jW := jW_of (List.mem_append_right _ (List.mem_of_getElem? (l := tables_1) (i := 339) (by decide +kernel))) rfl
theorem tw_340 : Cond.selects RX4 yX4_fault yX4_fault ∈ jW := jW_of (List.mem_append_right _ (List.mem_of_getElem? (l := tables_1) (i := 340) (by decide +kernel))) rfl
theorem lk_X4_259 : jLv RX4 259 mX4_fault 0 := ⟨⟨tw_646, tw_1, tw_341, by decide +kernel⟩, tw_339, tw_340⟩
theorem tw_647 : Cond.methodLink RX4 261 yX4_place ∈ jW := jW_of (List.mem_append_right _ (List.mem_of_getElem? (l := tables_1) (i := 647) (by decide +kernel))) rfl
theorem tw_353 : Cond.code yX4_place cX4_place 2 (some .int) ∈ jW := jW_of (List.mem_append_right _ (List.mem_of_getElem? (l := tables_1) (i := 353) (by decide +kernel))) rfl
theorem tw_351 : Cond.instanceMethod yX4_place ∈ jW := jW_of (List.mem_append_right _ (List.mem_of_getElem? (l := tables_1) (i := 351) (by decide +kernel))) rfl
theorem tw_352 : Cond.selects RX4 yX4_place yX4_place ∈ jW := jW_of (List.mem_append_right _ (List.mem_of_getElem? (l := tables_1) (i := 352) (by decide +kernel))) rfl
theorem lk_X4_261 : jLv RX4 261 mX4_place 1 := ⟨⟨tw_647, tw_1, tw_353, by decide +kernel⟩, tw_351, tw_352⟩
theorem tw_648 : Cond.methodLink RX4 264 yX4_digestBox ∈ jW := jW_of (List.mem_append_right _ (List.mem_of_getElem? (l := tables_1) (i := 648) (by decide +kernel))) rfl
theorem tw_651 : Cond.code yX4_digestBox cX4_digestBox 7 (some .long) ∈ jW := jW_of (List.mem_append_right _ (List.mem_of_getElem? (l := tables_1) (i := 651) (by decide +kernel))) rfl
theorem tw_650 : Cond.instanceMethod yX4_digestBox ∈ jW := jW_of (List.mem_append_right _ (List.mem_of_getElem? (l := tables_1) (i := 650) (by decide +kernel))) rfl
theorem ts_15 : Cond.selects RX4 yX4_digestBox yX4_digestBox ∈ jW := jW_of (List.mem_append_left _ (List.mem_of_getElem? (l := k2_sels lw_privs) (i := 15) (by decide +kernel))) rfl
theorem lk_X4_264 : jLv RX4 264 mX4_digestBox 2 := ⟨⟨tw_648, tw_1, tw_651, by decide +kernel⟩, tw_650, ts_15⟩
theorem tw_661 : Cond.methodLink RX4 271 yX4_step ∈ jW := jW_of (List.mem_append_right _ (List.mem_of_getElem? (l := tables_1) (i := 661) (by decide +kernel))) rfl
theorem tw_402 : Cond.code yX4_step cX4_step 3 (some .int) ∈ jW := jW_of (List.mem_append_right _ (List.mem_of_getElem? (l := tables_1) (i := 402) (by decide +kernel))) rfl
theorem tw_400 : Cond.instanceMethod yX4_step ∈ jW := jW_of (List.mem_append_right _ (List.mem_of_getElem? (l := tables_1) (i := 400) (by decide +kernel))) rfl
theorem tw_401 : Cond.selects RX4 yX4_step yX4_step ∈ jW := jW_of (List.mem_append_right _ (List.mem_of_getElem? (l := tables_1) (i := 401) (by decide +kernel))) rfl
theorem lk_X4_271 : jLv RX4 271 mX4_step 2 := ⟨⟨tw_661, tw_1, tw_402, by decide +kernel⟩, tw_400, tw_401⟩
theorem tw_662 : Cond.methodLink RX4 274 yX4_quiet ∈ jW := jW_of (List.mem_append_right _ (List.mem_of_getElem? (l := tables_1) (i := 662) (by decide +kernel))) rfl
theorem tw_453 : Cond.code yX4_quiet cX4_quiet 2 (some .int) ∈ jW := jW_of (List.mem_append_right _ (List.mem_of_getElem? (l := tables_1) (i := 453) (by decide +kernel))) rfl
theorem tw_451 : Cond.instanceMethod yX4_quiet ∈ jW := jW_of (List.mem_append_right _ (List.mem_of_getElem? (l := tables_1) (i := 451) (by decide +kernel))) rfl
theorem tw_452 : Cond.selects RX4 yX4_quiet yX4_quiet ∈ jW := jW_of (List.mem_append_right _ (List.mem_of_getElem? (l := tables_1) (i := 452) (by decide +kernel))) rfl
theorem lk_X4_274 : jLv RX4 274 mX4_quiet 0 := ⟨⟨tw_662, tw_1, tw_453, by decide +kernel⟩, tw_451, tw_452⟩
theorem tw_663 : Cond.methodLink RX4 277 yX4_loudest ∈ jW := jW_of (List.mem_append_right _ (List.mem_of_getElem? (l := tables_1) (i := 663) (by decide +kernel))) rfl
theorem tw_457 : Cond.code yX4_loudest cX4_loudest 6 (some .int) ∈ jW := jW_of (List.mem_append_right _ (List.mem_of_getElem? (l := tables_1) (i := 457) (by decide +kernel))) rfl
theorem tw_455 : Cond.instanceMethod yX4_loudest ∈ jW := jW_of (List.mem_append_right _ (List.mem_of_getElem? (l := tables_1) (i := 455) (by decide +kernel))) rfl
theorem tw_456 : Cond.selects RX4 yX4_loudest yX4_loudest ∈ jW := jW_of (List.mem_append_right _ (List.mem_of_getElem? (l := tables_1) (i := 456) (by decide +kernel))) rfl
theorem lk_X4_277 : jLv RX4 277 mX4_loudest 1 := ⟨⟨tw_663, tw_1, tw_457, by decide +kernel⟩, tw_455, tw_456⟩
theorem tw_664 : Cond.methodLink RX4 280 yX4_news ∈ jW := jW_of (List.mem_append_right _ (List.mem_of_getElem? (l := tables_1) (i := 664) (by decide +kernel))) rfl
theorem tw_470 : Cond.code yX4_news cX4_news 6 (some .int) ∈ jW := jW_of (List.mem_append_right _ (List.mem_of_getElem? (l := tables_1) (i := 470) (by decide +kernel))) rfl
theorem tw_468 : Cond.instanceMethod yX4_news ∈ jW := jW_of (List.mem_append_right _ (List.mem_of_getElem? (l := tables_1) (i := 468) (by decide +kernel))) rfl
theorem tw_469 : Cond.selects RX4 yX4_news yX4_news ∈ jW := jW_of (List.mem_append_right _ (List.mem_of_getElem? (l := tables_1) (i := 469) (by decide +kernel))) rfl
theorem lk_X4_280 : jLv RX4 280 mX4_news 3 := ⟨⟨tw_664, tw_1, tw_470, by decide +kernel⟩, tw_468, tw_469⟩
theorem tw_665 : Cond.methodLink RX4 283 yX4_hush ∈ jW := jW_of (List.mem_append_right _ (List.mem_of_getElem? (l := tables_1) (i := 665) (by decide +kernel))) rfl
theorem tw_481 : Cond.code yX4_hush cX4_hush 6 (some .int) ∈ jW := jW_of (List.mem_append_right _ (List.mem_of_getElem? (l := tables_1) (i := 481) (by decide +kernel))) rfl
theorem tw_479 : Cond.instanceMethod yX4_hush ∈ jW := jW_of (List.mem_append_right _ (List.mem_of_getElem? (l := tables_1) (i := 479) (by decide +kernel))) rfl
theorem tw_480 : Cond.selects RX4 yX4_hush yX4_hush ∈ jW := jW_of (List.mem_append_right _ (List.mem_of_getElem? (l := tables_1) (i := 480) (by decide +kernel))) rfl
theorem lk_X4_283 : jLv RX4 283 mX4_hush 2 := ⟨⟨tw_665, tw_1, tw_481, by decide +kernel⟩, tw_479, tw_480⟩
theorem tw_666 : Cond.methodLink RX4 286 yX4_shelf ∈ jW := jW_of (List.mem_append_right _ (List.mem_of_getElem? (l := tables_1) (i := 666) (by decide +kernel))) rfl
theorem tw_493 : Cond.code yX4_shelf cX4_shelf 5 (some .int) ∈ jW := jW_of (List.mem_append_right _ (List.mem_of_getElem? (l := tables_1) (i := 493) (by decide +kernel))) rfl
theorem tw_491 : Cond.instanceMethod yX4_shelf ∈ jW := jW_of (List.mem_append_right _ (List.mem_of_getElem? (l := tables_1) (i := 491) (by decide +kernel))) rfl
theorem tw_492 : Cond.selects RX4 yX4_shelf yX4_shelf ∈ jW := jW_of (List.mem_append_right _ (List.mem_of_getElem? (l := tables_1) (i := 492) (by decide +kernel))) rfl
theorem lk_X4_286 : jLv RX4 286 mX4_shelf 3 := ⟨⟨tw_666, tw_1, tw_493, by decide +kernel⟩, tw_491, tw_492⟩
theorem tw_667 : Cond.methodLink RX4 289 yX4_empty ∈ jW := jW_of (List.mem_append_right _ (List.mem_of_getElem? (l := tables_1) (i := 667) (by decide +kernel))) rfl
theorem tw_540 : Cond.code yX4_empty cX4_empty 5 (some .int) ∈ jW := jW_of (List.mem_append_right _ (List.mem_of_getElem? (l := tables_1) (i := 540) (by decide +kernel))) rfl
theorem tw_538 : Cond.instanceMethod yX4_empty ∈ jW := jW_of (List.mem_append_right _ (List.mem_of_getElem? (l := tables_1) (i := 538) (by decide +kernel))) rfl
theorem tw_539 : Cond.selects RX4 yX4_empty yX4_empty ∈ jW := jW_of (List.mem_append_right _ (List.mem_of_getElem? (l := tables_1) (i := 539) (by decide +kernel))) rfl
theorem lk_X4_289 : jLv RX4 289 mX4_empty 0 := ⟨⟨tw_667, tw_1, tw_540, by decide +kernel⟩, tw_538, tw_539⟩
theorem tw_668 : Cond.methodLink RX4 292 yX4_turn ∈ jW := jW_of (List.mem_append_right _ (List.mem_of_getElem? (l := tables_1) (i := 668) (by decide +kernel))) rfl
theorem tw_544 : Cond.code yX4_turn cX4_turn 8 (some .int) ∈ jW := jW_of (List.mem_append_right _ (List.mem_of_getElem? (l := tables_1) (i := 544) (by decide +kernel))) rfl
theorem tw_542 : Cond.instanceMethod yX4_turn ∈ jW := jW_of (List.mem_append_right _ (List.mem_of_getElem? (l := tables_1) (i := 542) (by decide +kernel))) rfl
theorem tw_543 : Cond.selects RX4 yX4_turn yX4_turn ∈ jW := jW_of (List.mem_append_right _ (List.mem_of_getElem? (l := tables_1) (i := 543) (by decide +kernel))) rfl
theorem lk_X4_292 : jLv RX4 292 mX4_turn 2 := ⟨⟨tw_668, tw_1, tw_544, by decide +kernel⟩, tw_542, tw_543⟩
theorem tw_669 : Cond.methodLink RX4 295 yX4_night ∈ jW := jW_of (List.mem_append_right _ (List.mem_of_getElem? (l := tables_1) (i := 669) (by decide +kernel))) rfl
theorem tw_579 : Cond.code yX4_night cX4_night 6 (some .int) ∈ jW := jW_of (List.mem_append_right _ (List.mem_of_getElem? (l := tables_1) (i := 579) (by decide +kernel))) rfl
theorem tw_577 : Cond.instanceMethod yX4_night ∈ jW := jW_of (List.mem_append_right _ (List.mem_of_getElem? (l := tables_1) (i := 577) (by decide +kernel))) rfl
theorem tw_578 : Cond.selects RX4 yX4_night yX4_night ∈ jW := jW_of (List.mem_append_right _ (List.mem_of_getElem? (l := tables_1) (i := 578) (by decide +kernel))) rfl
theorem lk_X4_295 : jLv RX4 295 mX4_night 3 := ⟨⟨tw_669, tw_1, tw_579, by decide +kernel⟩, tw_577, tw_578⟩
theorem tw_652 : Cond.methodLink RX4 298 yX4_box ∈ jW := jW_of (List.mem_append_right _ (List.mem_of_getElem? (l := tables_1) (i := 652) (by decide +kernel))) rfl
theorem tw_345 : Cond.code yX4_box cX4_box 3 (some .int) ∈ jW := jW_of (List.mem_append_right _ (List.mem_of_getElem? (l := tables_1) (i := 345) (by decide +kernel))) rfl
theorem tw_343 : Cond.instanceMethod yX4_box ∈ jW := jW_of (List.mem_append_right _ (List.mem_of_getElem? (l := tables_1) (i := 343) (by decide +kernel))) rfl
theorem tw_344 : Cond.selects RX4 yX4_box yX4_box ∈ jW := jW_of (List.mem_append_right _ (List.mem_of_getElem? (l := tables_1) (i := 344) (by decide +kernel))) rfl
theorem lk_X4_298 : jLv RX4 298 mX4_box 2 := ⟨⟨tw_652, tw_1, tw_345, by decide +kernel⟩, tw_343, tw_344⟩
theorem tw_653 : Cond.methodLink RX4 301 yX4_first ∈ jW := jW_of (List.mem_append_right _ (List.mem_of_getElem? (l := tables_1) (i := 653) (by decide +kernel))) rfl
theorem tw_462 : Cond.code yX4_first cX4_first 3 (some .int) ∈ jW := jW_of (List.mem_append_right _ (List.mem_of_getElem? (l := tables_1) (i := 462) (by decide +kernel))) rfl
theorem tw_460 : Cond.instanceMethod yX4_first ∈ jW := jW_of (List.mem_append_right _ (List.mem_of_getElem? (l := tables_1) (i := 460) (by decide +kernel))) rfl
theorem tw_461 : Cond.selects RX4 yX4_first yX4_first ∈ jW := jW_of (List.mem_append_right _ (List.mem_of_getElem? (l := tables_1) (i := 461) (by decide +kernel))) rfl
theorem lk_X4_301 : jLv RX4 301 mX4_first 1 := ⟨⟨tw_653, tw_1, tw_462, by decide +kernel⟩, tw_460, tw_461⟩
theorem tw_654 : Cond.methodLink RX4 304 yX4_spring ∈ jW := jW_of (List.mem_append_right _ (List.mem_of_getElem? (l := tables_1) (i := 654) (by decide +kernel))) rfl
theorem tw_449 : Cond.code yX4_spring cX4_spring 5 (some .int) ∈ jW := jW_of (List.mem_append_right _ (List.mem_of_getElem? (l := tables_1) (i := 449) (by decide +kernel))) rfl
theorem tw_447 : Cond.instanceMethod yX4_spring ∈ jW := jW_of (List.mem_append_right _ (List.mem_of_getElem? (l := tables_1) (i := 447) (by decide +kernel))) rfl
theorem tw_448 : Cond.selects RX4 yX4_spring yX4_spring ∈ jW := jW_of (List.mem_append_right _ (List.mem_of_getElem? (l := tables_1) (i := 448) (by decide +kernel))) rfl
theorem lk_X4_304 : jLv RX4 304 mX4_spring 2 := ⟨⟨tw_654, tw_1, tw_449, by decide +kernel⟩, tw_447, tw_448⟩
theorem tw_655 : Cond.methodLink RX4 307 yX4_together ∈ jW := jW_of (List.mem_append_right _ (List.mem_of_getElem? (l := tables_1) (i := 655) (by decide +kernel))) rfl
theorem tw_466 : Cond.code yX4_together cX4_together 6 (some .int) ∈ jW := jW_of (List.mem_append_right _ (List.mem_of_getElem? (l := tables_1) (i := 466) (by decide +kernel))) rfl
theorem tw_464 : Cond.instanceMethod yX4_together ∈ jW := jW_of (List.mem_append_right _ (List.mem_of_getElem? (l := tables_1) (i := 464) (by decide +kernel))) rfl
theorem tw_465 : Cond.selects RX4 yX4_together yX4_together ∈ jW := jW_of (List.mem_append_right _ (List.mem_of_getElem? (l := tables_1) (i := 465) (by decide +kernel))) rfl
theorem lk_X4_307 : jLv RX4 307 mX4_together 2 := ⟨⟨tw_655, tw_1, tw_466, by decide +kernel⟩, tw_464, tw_465⟩
theorem tw_656 : Cond.methodLink RX4 310 yX4_hears ∈ jW := jW_of (List.mem_append_right _ (List.mem_of_getElem? (l := tables_1) (i := 656) (by decide +kernel))) rfl
theorem tw_477 : Cond.code yX4_hears cX4_hears 5 (some .int) ∈ jW := jW_of (List.mem_append_right _ (List.mem_of_getElem? (l := tables_1) (i := 477) (by decide +kernel))) rfl
theorem tw_475 : Cond.instanceMethod yX4_hears ∈ jW := jW_of (List.mem_append_right _ (List.mem_of_getElem? (l := tables_1) (i := 475) (by decide +kernel))) rfl
theorem tw_476 : Cond.selects RX4 yX4_hears yX4_hears ∈ jW := jW_of (List.mem_append_right _ (List.mem_of_getElem? (l := tables_1) (i := 476) (by decide +kernel))) rfl
theorem lk_X4_310 : jLv RX4 310 mX4_hears 2 := ⟨⟨tw_656, tw_1, tw_477, by decide +kernel⟩, tw_475, tw_476⟩
theorem tw_657 : Cond.methodLink RX4 313 yX4_learn ∈ jW := jW_of (List.mem_append_right _ (List.mem_of_getElem? (l := tables_1) (i := 657) (by decide +kernel))) rfl
theorem tw_519 : Cond.code yX4_learn cX4_learn 4 (some .int) ∈ jW := jW_of (List.mem_append_right _ (List.mem_of_getElem? (l := tables_1) (i := 519) (by decide +kernel))) rfl
theorem tw_517 : Cond.instanceMethod yX4_learn ∈ jW := jW_of (List.mem_append_right _ (List.mem_of_getElem? (l := tables_1) (i := 517) (by decide +kernel))) rfl
theorem tw_518 : Cond.selects RX4 yX4_learn yX4_learn ∈ jW := jW_of (List.mem_append_right _ (List.mem_of_getElem? (l := tables_1) (i := 518) (by decide +kernel))) rfl
theorem lk_X4_313 : jLv RX4 313 mX4_learn 2 := ⟨⟨tw_657, tw_1, tw_519, by decide +kernel⟩, tw_517, tw_518⟩
theorem tw_658 : Cond.methodLink RX4 316 yX4_looks ∈ jW := jW_of (List.mem_append_right _ (List.mem_of_getElem? (l := tables_1) (i := 658) (by decide +kernel))) rfl
theorem tw_553 : Cond.code yX4_looks cX4_looks 11 (some .long) ∈ jW := jW_of (List.mem_append_right _ (List.mem_of_getElem? (l := tables_1) (i := 553) (by decide +kernel))) rfl
theorem tw_551 : Cond.instanceMethod yX4_looks ∈ jW := jW_of (List.mem_append_right _ (List.mem_of_getElem? (l := tables_1) (i := 551) (by decide +kernel))) rfl
theorem tw_552 : Cond.selects RX4 yX4_looks yX4_looks ∈ jW := jW_of (List.mem_append_right _ (List.mem_of_getElem? (l := tables_1) (i := 552) (by decide +kernel))) rfl
theorem lk_X4_316 : jLv RX4 316 mX4_looks 4 := ⟨⟨tw_658, tw_1, tw_553, by decide +kernel⟩, tw_551, tw_552⟩
theorem tw_231 : Cond.methodLink RX4 320 yX0_parse ∈ jW := jW_of (List.mem_append_right _ (List.mem_of_getElem? (l := tables_1) (i := 231) (by decide +kernel))) rfl
theorem tw_234 : Cond.code yX0_parse cX0_parse 2 none ∈ jW := jW_of (List.mem_append_right _ (List.mem_of_getElem? (l := tables_1) (i := 234) (by decide +kernel))) rfl
theorem tw_232 : Cond.instanceMethod yX0_parse ∈ jW := jW_of (List.mem_append_right _ (List.mem_of_getElem? (l := tables_1) (i := 232) (by decide +kernel))) rfl
theorem tw_233 : Cond.selects RX0 yX0_parse yX0_parse ∈ jW := jW_of (List.mem_append_right _ (List.mem_of_getElem? (l := tables_1) (i := 233) (by decide +kernel))) rfl
theorem lk_X4_320 : jLv RX4 320 mX0_parse 0 := ⟨⟨tw_231, tw_2, tw_234, by decide +kernel⟩, tw_232, tw_233⟩
theorem tw_498 : Cond.methodLink RX4 326 yX1_putRow ∈ jW := jW_of (List.mem_append_right _ (List.mem_of_getElem? (l := tables_1) (i := 498) (by decide +kernel))) rfl
theorem tw_421 : Cond.code yX1_putRow cX1_putRow 3 none ∈ jW := jW_of (List.mem_append_right _ (List.mem_of_getElem? (l := tables_1) (i := 421) (by decide +kernel))) rfl
theorem tw_419 : Cond.instanceMethod yX1_putRow ∈ jW := jW_of (List.mem_append_right _ (List.mem_of_getElem? (l := tables_1) (i := 419) (by decide +kernel))) rfl
theorem tw_420 : Cond.selects RX1 yX1_putRow yX1_putRow ∈ jW := jW_of (List.mem_append_right _ (List.mem_of_getElem? (l := tables_1) (i := 420) (by decide +kernel))) rfl
theorem lk_X4_326 : jLv RX4 326 mX1_putRow 1 := ⟨⟨tw_498, tw_4, tw_421, by decide +kernel⟩, tw_419, tw_420⟩
theorem tw_504 : Cond.methodLink RX4 330 yX4_stepToNextRow ∈ jW := jW_of (List.mem_append_right _ (List.mem_of_getElem? (l := tables_1) (i := 504) (by decide +kernel))) rfl
theorem tw_507 : Cond.code yX4_stepToNextRow cX4_stepToNextRow 6 (some .boolean) ∈ jW := jW_of (List.mem_append_right _ (List.mem_of_getElem? (l := tables_1) (i := 507) (by decide +kernel))) rfl
theorem tw_506 : Cond.instanceMethod yX4_stepToNextRow ∈ jW := jW_of (List.mem_append_right _ (List.mem_of_getElem? (l := tables_1) (i := 506) (by decide +kernel))) rfl
theorem ts_9 : Cond.selects RX4 yX4_stepToNextRow yX4_stepToNextRow ∈ jW := jW_of (List.mem_append_left _ (List.mem_of_getElem? (l := k2_sels lw_privs) (i := 9) (by decide +kernel))) rfl
theorem lk_X4_330 : jLv RX4 330 mX4_stepToNextRow 1 := ⟨⟨tw_504, tw_1, tw_507, by decide +kernel⟩, tw_506, ts_9⟩
theorem tw_528 : Cond.methodLink RX4 333 yJ9_max_7cf53 ∈ jW := jW_of (List.mem_append_right _ (List.mem_of_getElem? (l := tables_1) (i := 528) (by decide +kernel))) rfl
theorem tw_9 : Cond.initialized RJ9 ∈ jW := jW_of (List.mem_append_right _ (List.mem_of_getElem? (l := tables_1) (i := 9) (by decide +kernel))) rfl
theorem tw_273 : Cond.code yJ9_max_7cf53 cJ9_max_7cf53 2 (some .int) ∈ jW := jW_of (List.mem_append_right _ (List.mem_of_getElem? (l := tables_1) (i := 273) (by decide +kernel))) rfl
theorem tw_272 : Cond.static yJ9_max_7cf53 ∈ jW := jW_of (List.mem_append_right _ (List.mem_of_getElem? (l := tables_1) (i := 272) (by decide +kernel))) rfl
theorem lk_X4_333 : jLs RX4 333 mJ9_max_7cf53 2 := ⟨⟨tw_528, tw_9, tw_273, by decide +kernel⟩, tw_272⟩
theorem tw_529 : Cond.methodLink RX4 338 yX1_putLaw ∈ jW := jW_of (List.mem_append_right _ (List.mem_of_getElem? (l := tables_1) (i := 529) (by decide +kernel))) rfl
theorem tw_532 : Cond.code yX1_putLaw cX1_putLaw 3 none ∈ jW := jW_of (List.mem_append_right _ (List.mem_of_getElem? (l := tables_1) (i := 532) (by decide +kernel))) rfl
theorem tw_530 : Cond.instanceMethod yX1_putLaw ∈ jW := jW_of (List.mem_append_right _ (List.mem_of_getElem? (l := tables_1) (i := 530) (by decide +kernel))) rfl
theorem tw_531 : Cond.selects RX1 yX1_putLaw yX1_putLaw ∈ jW := jW_of (List.mem_append_right _ (List.mem_of_getElem? (l := tables_1) (i := 531) (by decide +kernel))) rfl
theorem lk_X4_338 : jLv RX4 338 mX1_putLaw 2 := ⟨⟨tw_529, tw_4, tw_532, by decide +kernel⟩, tw_530, tw_531⟩
theorem tw_549 : Cond.methodLink RX4 341 yJ7_fill_53178 ∈ jW := jW_of (List.mem_append_right _ (List.mem_of_getElem? (l := tables_1) (i := 549) (by decide +kernel))) rfl
theorem tw_14 : Cond.initialized RJ7 ∈ jW := jW_of (List.mem_append_right _ (List.mem_of_getElem? (l := tables_1) (i := 14) (by decide +kernel))) rfl
theorem tw_424 : Cond.code yJ7_fill_53178 cJ7_fill_53178 4 none ∈ jW := jW_of (List.mem_append_right _ (List.mem_of_getElem? (l := tables_1) (i := 424) (by decide +kernel))) rfl
theorem tw_423 : Cond.static yJ7_fill_53178 ∈ jW := jW_of (List.mem_append_right _ (List.mem_of_getElem? (l := tables_1) (i := 423) (by decide +kernel))) rfl
theorem lk_X4_341 : jLs RX4 341 mJ7_fill_53178 2 := ⟨⟨tw_549, tw_14, tw_424, by decide +kernel⟩, tw_423⟩
theorem tw_562 : Cond.methodLink RX4 347 yX1_isUp ∈ jW := jW_of (List.mem_append_right _ (List.mem_of_getElem? (l := tables_1) (i := 562) (by decide +kernel))) rfl
theorem tw_565 : Cond.code yX1_isUp cX1_isUp 3 (some .boolean) ∈ jW := jW_of (List.mem_append_right _ (List.mem_of_getElem? (l := tables_1) (i := 565) (by decide +kernel))) rfl
theorem tw_563 : Cond.instanceMethod yX1_isUp ∈ jW := jW_of (List.mem_append_right _ (List.mem_of_getElem? (l := tables_1) (i := 563) (by decide +kernel))) rfl
theorem tw_564 : Cond.selects RX1 yX1_isUp yX1_isUp ∈ jW := jW_of (List.mem_append_right _ (List.mem_of_getElem? (l := tables_1) (i := 564) (by decide +kernel))) rfl
theorem lk_X4_347 : jLv RX4 347 mX1_isUp 2 := ⟨⟨tw_562, tw_4, tw_565, by decide +kernel⟩, tw_563, tw_564⟩
theorem tw_566 : Cond.methodLink RX4 350 yX4_weight ∈ jW := jW_of (List.mem_append_right _ (List.mem_of_getElem? (l := tables_1) (i := 566) (by decide +kernel))) rfl
theorem tw_568 : Cond.code yX4_weight cX4_weight 6 (some .long) ∈ jW := jW_of (List.mem_append_right _ (List.mem_of_getElem? (l := tables_1) (i := 568) (by decide +kernel))) rfl
theorem tw_567 : Cond.static yX4_weight ∈ jW := jW_of (List.mem_append_right _ (List.mem_of_getElem? (l := tables_1) (i := 567) (by decide +kernel))) rfl
theorem lk_X4_350 : jLs RX4 350 mX4_weight 3 := ⟨⟨tw_566, tw_1, tw_568, by decide +kernel⟩, tw_567⟩
theorem tw_569 : Cond.methodLink RX4 353 yX1_putLooks ∈ jW := jW_of (List.mem_append_right _ (List.mem_of_getElem? (l := tables_1) (i := 569) (by decide +kernel))) rfl
theorem tw_572 : Cond.code yX1_putLooks cX1_putLooks 6 none ∈ jW := jW_of (List.mem_append_right _ (List.mem_of_getElem? (l := tables_1) (i := 572) (by decide +kernel))) rfl
theorem tw_570 : Cond.instanceMethod yX1_putLooks ∈ jW := jW_of (List.mem_append_right _ (List.mem_of_getElem? (l := tables_1) (i := 570) (by decide +kernel))) rfl
theorem tw_571 : Cond.selects RX1 yX1_putLooks yX1_putLooks ∈ jW := jW_of (List.mem_append_right _ (List.mem_of_getElem? (l := tables_1) (i := 571) (by decide +kernel))) rfl
theorem lk_X4_353 : jLv RX4 353 mX1_putLooks 3 := ⟨⟨tw_569, tw_4, tw_572, by decide +kernel⟩, tw_570, tw_571⟩
theorem tw_235 : Cond.methodLink RX0 34 yX0_findFault ∈ jW := jW_of (List.mem_append_right _ (List.mem_of_getElem? (l := tables_1) (i := 235) (by decide +kernel))) rfl
theorem tw_238 : Cond.code yX0_findFault cX0_findFault 2 (some .int) ∈ jW := jW_of (List.mem_append_right _ (List.mem_of_getElem? (l := tables_1) (i := 238) (by decide +kernel))) rfl
theorem tw_237 : Cond.instanceMethod yX0_findFault ∈ jW := jW_of (List.mem_append_right _ (List.mem_of_getElem? (l := tables_1) (i := 237) (by decide +kernel))) rfl
theorem ts_1 : Cond.selects RX0 yX0_findFault yX0_findFault ∈ jW := jW_of (List.mem_append_left _ (List.mem_of_getElem? (l := k2_sels lw_privs) (i := 1) (by decide +kernel))) rfl
theorem lk_X0_34 : jLv RX0 34 mX0_findFault 0 := ⟨⟨tw_235, tw_2, tw_238, by decide +kernel⟩, tw_237, ts_1⟩
theorem tw_243 : Cond.methodLink RX0 40 yJ0_indexOf_0f7a4 ∈ jW := jW_of (List.mem_append_right _ (List.mem_of_getElem? (l := tables_1) (i := 243) (by decide +kernel))) rfl
theorem tw_7 : Cond.initialized RJ0 ∈ jW := jW_of (List.mem_append_right _ (List.mem_of_getElem? (l := tables_1) (i := 7) (by decide +kernel))) rfl
theorem tw_246 : Cond.code yJ0_indexOf_0f7a4 cJ0_indexOf_0f7a4 2 (some .int) ∈ jW := jW_of (List.mem_append_right _ (List.mem_of_getElem? (l := tables_1) (i := 246) (by decide +kernel))) rfl
theorem tw_244 : Cond.instanceMethod yJ0_indexOf_0f7a4 ∈ jW := jW_of (List.mem_append_right _ (List.mem_of_getElem? (l := tables_1) (i := 244) (by decide +kernel))) rfl
theorem tw_245 : Cond.selects RJ0 yJ0_indexOf_0f7a4 yJ0_indexOf_0f7a4 ∈ jW := jW_of (List.mem_append_right _ (List.mem_of_getElem? (l := tables_1) (i := 245) (by decide +kernel))) rfl
theorem lk_X0_40 : jLv RX0 40 mJ0_indexOf_0f7a4 1 := ⟨⟨tw_243, tw_7, tw_246, by decide +kernel⟩, tw_244, tw_245⟩
theorem tw_239 : Cond.methodLink RX0 46 yX0_isDue ∈ jW := jW_of (List.mem_append_right _ (List.mem_of_getElem? (l := tables_1) (i := 239) (by decide +kernel))) rfl
theorem tw_241 : Cond.code yX0_isDue cX0_isDue 2 (some .boolean) ∈ jW := jW_of (List.mem_append_right _ (List.mem_of_getElem? (l := tables_1) (i := 241) (by decide +kernel))) rfl
theorem tw_240 : Cond.static yX0_isDue ∈ jW := jW_of (List.mem_append_right _ (List.mem_of_getElem? (l := tables_1) (i := 240) (by decide +kernel))) rfl
theorem lk_X0_46 : jLs RX0 46 mX0_isDue 2 := ⟨⟨tw_239, tw_2, tw_241, by decide +kernel⟩, tw_240⟩
theorem tw_415 : Cond.methodLink RX1 67 arraycopyName ∈ jW := jW_of (List.mem_append_right _ (List.mem_of_getElem? (l := tables_1) (i := 415) (by decide +kernel))) rfl
theorem lc_X1_67 : Cond.methodLink RX1 67 arraycopyName ∈ jW ∧ Cond.native arraycopyName ∈ jW ∧ Cond.static arraycopyName ∈ jW ∧ Cond.initialized "java/lang/System" ∈ jW := ⟨tw_415, tw_417, tw_416, tw_13⟩
theorem tw_418 : Cond.methodLink RX1 75 yX1_putRow ∈ jW := jW_of (List.mem_append_right _ (List.mem_of_getElem? (l := tables_1) (i := 418) (by decide +kernel))) rfl
theorem lk_X1_75 : jLv RX1 75 mX1_putRow 1 := ⟨⟨tw_418, tw_4, tw_421, by decide +kernel⟩, tw_419, tw_420⟩
theorem tw_422 : Cond.methodLink RX1 79 yJ7_fill_53178 ∈ jW := jW_of (List.mem_append_right _ (List.mem_of_getElem? (l := tables_1) (i := 422) (by decide +kernel))) rfl
theorem lk_X1_79 : jLs RX1 79 mJ7_fill_53178 2 := ⟨⟨tw_422, tw_14, tw_424, by decide +kernel⟩, tw_423⟩
theorem tw_429 : Cond.methodLink RX1 98 yX1_placesAround ∈ jW := jW_of (List.mem_append_right _ (List.mem_of_getElem? (l := tables_1) (i := 429) (by decide +kernel))) rfl
theorem tw_431 : Cond.code yX1_placesAround cX1_placesAround 3 (some .int) ∈ jW := jW_of (List.mem_append_right _ (List.mem_of_getElem? (l := tables_1) (i := 431) (by decide +kernel))) rfl
theorem tw_430 : Cond.static yX1_placesAround ∈ jW := jW_of (List.mem_append_right _ (List.mem_of_getElem? (l := tables_1) (i := 430) (by decide +kernel))) rfl
theorem lk_X1_98 : jLs RX1 98 mX1_placesAround 2 := ⟨⟨tw_429, tw_4, tw_431, by decide +kernel⟩, tw_430⟩
theorem tw_432 : Cond.methodLink RX1 102 yX1_go ∈ jW := jW_of (List.mem_append_right _ (List.mem_of_getElem? (l := tables_1) (i := 432) (by decide +kernel))) rfl
theorem tw_435 : Cond.code yX1_go cX1_go 6 none ∈ jW := jW_of (List.mem_append_right _ (List.mem_of_getElem? (l := tables_1) (i := 435) (by decide +kernel))) rfl
theorem tw_434 : Cond.instanceMethod yX1_go ∈ jW := jW_of (List.mem_append_right _ (List.mem_of_getElem? (l := tables_1) (i := 434) (by decide +kernel))) rfl
theorem ts_5 : Cond.selects RX1 yX1_go yX1_go ∈ jW := jW_of (List.mem_append_left _ (List.mem_of_getElem? (l := k2_sels lw_privs) (i := 5) (by decide +kernel))) rfl
theorem lk_X1_102 : jLv RX1 102 mX1_go 1 := ⟨⟨tw_432, tw_4, tw_435, by decide +kernel⟩, tw_434, ts_5⟩
theorem tw_436 : Cond.methodLink RX1 106 yJ6_bitCount_0f7a4 ∈ jW := jW_of (List.mem_append_right _ (List.mem_of_getElem? (l := tables_1) (i := 436) (by decide +kernel))) rfl
theorem lk_X1_106 : jLs RX1 106 mJ6_bitCount_0f7a4 1 := ⟨⟨tw_436, tw_15, tw_438, by decide +kernel⟩, tw_437⟩
theorem tw_442 : Cond.methodLink RX1 112 yX1_opensByLaw ∈ jW := jW_of (List.mem_append_right _ (List.mem_of_getElem? (l := tables_1) (i := 442) (by decide +kernel))) rfl
theorem tw_445 : Cond.code yX1_opensByLaw cX1_opensByLaw 3 (some .boolean) ∈ jW := jW_of (List.mem_append_right _ (List.mem_of_getElem? (l := tables_1) (i := 445) (by decide +kernel))) rfl
theorem tw_444 : Cond.instanceMethod yX1_opensByLaw ∈ jW := jW_of (List.mem_append_right _ (List.mem_of_getElem? (l := tables_1) (i := 444) (by decide +kernel))) rfl
theorem ts_6 : Cond.selects RX1 yX1_opensByLaw yX1_opensByLaw ∈ jW := jW_of (List.mem_append_left _ (List.mem_of_getElem? (l := k2_sels lw_privs) (i := 6) (by decide +kernel))) rfl
theorem lk_X1_112 : jLv RX1 112 mX1_opensByLaw 2 := ⟨⟨tw_442, tw_4, tw_445, by decide +kernel⟩, tw_444, ts_6⟩
theorem tw_592 : Cond.methodLink RX2 26 yJ7_fill_53178 ∈ jW := jW_of (List.mem_append_right _ (List.mem_of_getElem? (l := tables_1) (i := 592) (by decide +kernel))) rfl
theorem lk_X2_26 : jLs RX2 26 mJ7_fill_53178 2 := ⟨⟨tw_592, tw_14, tw_424, by decide +kernel⟩, tw_423⟩
theorem tw_605 : Cond.methodLink RX2 32 yX2_has ∈ jW := jW_of (List.mem_append_right _ (List.mem_of_getElem? (l := tables_1) (i := 605) (by decide +kernel))) rfl
theorem lk_X2_32 : jLv RX2 32 mX2_has 2 := ⟨⟨tw_605, tw_5, tw_608, by decide +kernel⟩, tw_606, tw_607⟩
theorem ln_X3_25 : (Cond.initialized mX4_isStep.1.cls ∈ jW ∧ Cond.code mX4_isStep.1 mX4_isStep.2.1 mX4_isStep.2.2.1 mX4_isStep.2.2.2.1 ∈ jW ∧ (mX4_isStep.1.cls ≠ "java/lang/invoke/MethodHandle" ∧ mX4_isStep.1.cls ≠ "java/lang/invoke/VarHandle" ∧ (parseMethodDescriptor mX4_isStep.1.desc).map (fun d => d.parameters.length) = some 1)) ∧ Cond.static mX4_isStep.1 ∈ jW := ⟨⟨tw_1, tw_377, by decide +kernel⟩, tw_376⟩
theorem ln_X3_29 : (Cond.initialized mX4_isNumber.1.cls ∈ jW ∧ Cond.code mX4_isNumber.1 mX4_isNumber.2.1 mX4_isNumber.2.2.1 mX4_isNumber.2.2.2.1 ∈ jW ∧ (mX4_isNumber.1.cls ≠ "java/lang/invoke/MethodHandle" ∧ mX4_isNumber.1.cls ≠ "java/lang/invoke/VarHandle" ∧ (parseMethodDescriptor mX4_isNumber.1.desc).map (fun d => d.parameters.length) = some 1)) ∧ Cond.static mX4_isNumber.1 ∈ jW := ⟨⟨tw_1, tw_356, by decide +kernel⟩, tw_355⟩
theorem tw_772 : Cond.methodLink RX5 75 yX5_in ∈ jW := jW_of (List.mem_append_right _ (List.mem_of_getElem? (l := tables_1) (i := 772) (by decide +kernel))) rfl
theorem tw_6 : Cond.initialized RX5 ∈ jW := jW_of (List.mem_append_right _ (List.mem_of_getElem? (l := tables_1) (i := 6) (by decide +kernel))) rfl
theorem tw_774 : Cond.code yX5_in cX5_in 6 (some .boolean) ∈ jW := jW_of (List.mem_append_right _ (List.mem_of_getElem? (l := tables_1) (i := 774) (by decide +kernel))) rfl
theorem tw_773 : Cond.static yX5_in ∈ jW := jW_of (List.mem_append_right _ (List.mem_of_getElem? (l := tables_1) (i := 773) (by decide +kernel))) rfl
theorem lk_X5_75 : jLs RX5 75 mX5_in 3 := ⟨⟨tw_772, tw_6, tw_774, by decide +kernel⟩, tw_773⟩
theorem tw_768 : Cond.methodLink RX5 85 yX5_isSheet ∈ jW := jW_of (List.mem_append_right _ (List.mem_of_getElem? (l := tables_1) (i := 768) (by decide +kernel))) rfl
theorem tw_770 : Cond.code yX5_isSheet cX5_isSheet 1 (some .boolean) ∈ jW := jW_of (List.mem_append_right _ (List.mem_of_getElem? (l := tables_1) (i := 770) (by decide +kernel))) rfl
theorem tw_769 : Cond.static yX5_isSheet ∈ jW := jW_of (List.mem_append_right _ (List.mem_of_getElem? (l := tables_1) (i := 769) (by decide +kernel))) rfl
theorem lk_X5_85 : jLs RX5 85 mX5_isSheet 1 := ⟨⟨tw_768, tw_6, tw_770, by decide +kernel⟩, tw_769⟩
theorem tw_776 : Cond.methodLink RX5 91 yX5_finds ∈ jW := jW_of (List.mem_append_right _ (List.mem_of_getElem? (l := tables_1) (i := 776) (by decide +kernel))) rfl
theorem tw_779 : Cond.code yX5_finds cX5_finds 2 (some .int) ∈ jW := jW_of (List.mem_append_right _ (List.mem_of_getElem? (l := tables_1) (i := 779) (by decide +kernel))) rfl
theorem tw_778 : Cond.instanceMethod yX5_finds ∈ jW := jW_of (List.mem_append_right _ (List.mem_of_getElem? (l := tables_1) (i := 778) (by decide +kernel))) rfl
theorem ts_16 : Cond.selects RX5 yX5_finds yX5_finds ∈ jW := jW_of (List.mem_append_left _ (List.mem_of_getElem? (l := k2_sels lw_privs) (i := 16) (by decide +kernel))) rfl
theorem lk_X5_91 : jLv RX5 91 mX5_finds 1 := ⟨⟨tw_776, tw_6, tw_779, by decide +kernel⟩, tw_778, ts_16⟩
theorem tw_788 : Cond.methodLink RX5 95 yX5_lacks ∈ jW := jW_of (List.mem_append_right _ (List.mem_of_getElem? (l := tables_1) (i := 788) (by decide +kernel))) rfl
theorem tw_791 : Cond.code yX5_lacks cX5_lacks 4 (some .int) ∈ jW := jW_of (List.mem_append_right _ (List.mem_of_getElem? (l := tables_1) (i := 791) (by decide +kernel))) rfl
theorem tw_790 : Cond.instanceMethod yX5_lacks ∈ jW := jW_of (List.mem_append_right _ (List.mem_of_getElem? (l := tables_1) (i := 790) (by decide +kernel))) rfl
theorem ts_17 : Cond.selects RX5 yX5_lacks yX5_lacks ∈ jW := jW_of (List.mem_append_left _ (List.mem_of_getElem? (l := k2_sels lw_privs) (i := 17) (by decide +kernel))) rfl
theorem lk_X5_95 : jLv RX5 95 mX5_lacks 3 := ⟨⟨tw_788, tw_6, tw_791, by decide +kernel⟩, tw_790, ts_17⟩
theorem tw_792 : Cond.methodLink RX5 99 yX5_cut ∈ jW := jW_of (List.mem_append_right _ (List.mem_of_getElem? (l := tables_1) (i := 792) (by decide +kernel))) rfl
theorem tw_794 : Cond.code yX5_cut cX5_cut 2 (some .int) ∈ jW := jW_of (List.mem_append_right _ (List.mem_of_getElem? (l := tables_1) (i := 794) (by decide +kernel))) rfl
theorem tw_793 : Cond.static yX5_cut ∈ jW := jW_of (List.mem_append_right _ (List.mem_of_getElem? (l := tables_1) (i := 793) (by decide +kernel))) rfl
theorem lk_X5_99 : jLs RX5 99 mX5_cut 2 := ⟨⟨tw_792, tw_6, tw_794, by decide +kernel⟩, tw_793⟩
theorem tw_829 : Cond.methodLink RX5 115 yX5_lawOf ∈ jW := jW_of (List.mem_append_right _ (List.mem_of_getElem? (l := tables_1) (i := 829) (by decide +kernel))) rfl
theorem tw_831 : Cond.code yX5_lawOf cX5_lawOf 1 (some .int) ∈ jW := jW_of (List.mem_append_right _ (List.mem_of_getElem? (l := tables_1) (i := 831) (by decide +kernel))) rfl
theorem tw_830 : Cond.static yX5_lawOf ∈ jW := jW_of (List.mem_append_right _ (List.mem_of_getElem? (l := tables_1) (i := 830) (by decide +kernel))) rfl
theorem lk_X5_115 : jLs RX5 115 mX5_lawOf 1 := ⟨⟨tw_829, tw_6, tw_831, by decide +kernel⟩, tw_830⟩
theorem tw_825 : Cond.methodLink RX5 122 yX5_readsBox ∈ jW := jW_of (List.mem_append_right _ (List.mem_of_getElem? (l := tables_1) (i := 825) (by decide +kernel))) rfl
theorem tw_828 : Cond.code yX5_readsBox cX5_readsBox 4 (some .boolean) ∈ jW := jW_of (List.mem_append_right _ (List.mem_of_getElem? (l := tables_1) (i := 828) (by decide +kernel))) rfl
theorem tw_827 : Cond.instanceMethod yX5_readsBox ∈ jW := jW_of (List.mem_append_right _ (List.mem_of_getElem? (l := tables_1) (i := 827) (by decide +kernel))) rfl
theorem ts_19 : Cond.selects RX5 yX5_readsBox yX5_readsBox ∈ jW := jW_of (List.mem_append_left _ (List.mem_of_getElem? (l := k2_sels lw_privs) (i := 19) (by decide +kernel))) rfl
theorem lk_X5_122 : jLv RX5 122 mX5_readsBox 0 := ⟨⟨tw_825, tw_6, tw_828, by decide +kernel⟩, tw_827, ts_19⟩
theorem tw_821 : Cond.methodLink RX5 126 yX5_reads ∈ jW := jW_of (List.mem_append_right _ (List.mem_of_getElem? (l := tables_1) (i := 821) (by decide +kernel))) rfl
theorem tw_824 : Cond.code yX5_reads cX5_reads 3 (some .int) ∈ jW := jW_of (List.mem_append_right _ (List.mem_of_getElem? (l := tables_1) (i := 824) (by decide +kernel))) rfl
theorem tw_823 : Cond.instanceMethod yX5_reads ∈ jW := jW_of (List.mem_append_right _ (List.mem_of_getElem? (l := tables_1) (i := 823) (by decide +kernel))) rfl
theorem ts_18 : Cond.selects RX5 yX5_reads yX5_reads ∈ jW := jW_of (List.mem_append_left _ (List.mem_of_getElem? (l := k2_sels lw_privs) (i := 18) (by decide +kernel))) rfl
theorem lk_X5_126 : jLv RX5 126 mX5_reads 0 := ⟨⟨tw_821, tw_6, tw_824, by decide +kernel⟩, tw_823, ts_18⟩
theorem tw_838 : Cond.methodLink RX5 134 yX5_isBox ∈ jW := jW_of (List.mem_append_right _ (List.mem_of_getElem? (l := tables_1) (i := 838) (by decide +kernel))) rfl
theorem tw_841 : Cond.code yX5_isBox cX5_isBox 2 (some .boolean) ∈ jW := jW_of (List.mem_append_right _ (List.mem_of_getElem? (l := tables_1) (i := 841) (by decide +kernel))) rfl
theorem tw_840 : Cond.instanceMethod yX5_isBox ∈ jW := jW_of (List.mem_append_right _ (List.mem_of_getElem? (l := tables_1) (i := 840) (by decide +kernel))) rfl
theorem ts_20 : Cond.selects RX5 yX5_isBox yX5_isBox ∈ jW := jW_of (List.mem_append_left _ (List.mem_of_getElem? (l := k2_sels lw_privs) (i := 20) (by decide +kernel))) rfl
theorem lk_X5_134 : jLv RX5 134 mX5_isBox 1 := ⟨⟨tw_838, tw_6, tw_841, by decide +kernel⟩, tw_840, ts_20⟩
theorem tw_846 : Cond.methodLink RX5 137 yX5_isAny ∈ jW := jW_of (List.mem_append_right _ (List.mem_of_getElem? (l := tables_1) (i := 846) (by decide +kernel))) rfl
theorem tw_848 : Cond.code yX5_isAny cX5_isAny 1 (some .boolean) ∈ jW := jW_of (List.mem_append_right _ (List.mem_of_getElem? (l := tables_1) (i := 848) (by decide +kernel))) rfl
theorem tw_847 : Cond.static yX5_isAny ∈ jW := jW_of (List.mem_append_right _ (List.mem_of_getElem? (l := tables_1) (i := 847) (by decide +kernel))) rfl
theorem lk_X5_137 : jLs RX5 137 mX5_isAny 1 := ⟨⟨tw_846, tw_6, tw_848, by decide +kernel⟩, tw_847⟩
theorem tw_863 : Cond.methodLink RX5 145 yX5_isStep ∈ jW := jW_of (List.mem_append_right _ (List.mem_of_getElem? (l := tables_1) (i := 863) (by decide +kernel))) rfl
theorem tw_865 : Cond.code yX5_isStep cX5_isStep 1 (some .boolean) ∈ jW := jW_of (List.mem_append_right _ (List.mem_of_getElem? (l := tables_1) (i := 865) (by decide +kernel))) rfl
theorem tw_864 : Cond.static yX5_isStep ∈ jW := jW_of (List.mem_append_right _ (List.mem_of_getElem? (l := tables_1) (i := 864) (by decide +kernel))) rfl
theorem lk_X5_145 : jLs RX5 145 mX5_isStep 1 := ⟨⟨tw_863, tw_6, tw_865, by decide +kernel⟩, tw_864⟩
theorem tw_875 : Cond.methodLink RX5 151 yX5_tell ∈ jW := jW_of (List.mem_append_right _ (List.mem_of_getElem? (l := tables_1) (i := 875) (by decide +kernel))) rfl
theorem tw_862 : Cond.code yX5_tell cX5_tell 4 (some .int) ∈ jW := jW_of (List.mem_append_right _ (List.mem_of_getElem? (l := tables_1) (i := 862) (by decide +kernel))) rfl
theorem tw_860 : Cond.instanceMethod yX5_tell ∈ jW := jW_of (List.mem_append_right _ (List.mem_of_getElem? (l := tables_1) (i := 860) (by decide +kernel))) rfl
theorem tw_861 : Cond.selects RX5 yX5_tell yX5_tell ∈ jW := jW_of (List.mem_append_right _ (List.mem_of_getElem? (l := tables_1) (i := 861) (by decide +kernel))) rfl
theorem lk_X5_151 : jLv RX5 151 mX5_tell 3 := ⟨⟨tw_875, tw_6, tw_862, by decide +kernel⟩, tw_860, tw_861⟩
theorem tw_892 : Cond.methodLink RX5 157 yX5_isIn ∈ jW := jW_of (List.mem_append_right _ (List.mem_of_getElem? (l := tables_1) (i := 892) (by decide +kernel))) rfl
theorem tw_894 : Cond.code yX5_isIn cX5_isIn 2 (some .boolean) ∈ jW := jW_of (List.mem_append_right _ (List.mem_of_getElem? (l := tables_1) (i := 894) (by decide +kernel))) rfl
theorem tw_893 : Cond.static yX5_isIn ∈ jW := jW_of (List.mem_append_right _ (List.mem_of_getElem? (l := tables_1) (i := 893) (by decide +kernel))) rfl
theorem lk_X5_157 : jLs RX5 157 mX5_isIn 2 := ⟨⟨tw_892, tw_6, tw_894, by decide +kernel⟩, tw_893⟩
theorem tw_907 : Cond.methodLink RX5 161 yX5_amount ∈ jW := jW_of (List.mem_append_right _ (List.mem_of_getElem? (l := tables_1) (i := 907) (by decide +kernel))) rfl
theorem tw_909 : Cond.code yX5_amount cX5_amount 1 (some .int) ∈ jW := jW_of (List.mem_append_right _ (List.mem_of_getElem? (l := tables_1) (i := 909) (by decide +kernel))) rfl
theorem tw_908 : Cond.static yX5_amount ∈ jW := jW_of (List.mem_append_right _ (List.mem_of_getElem? (l := tables_1) (i := 908) (by decide +kernel))) rfl
theorem lk_X5_161 : jLs RX5 161 mX5_amount 1 := ⟨⟨tw_907, tw_6, tw_909, by decide +kernel⟩, tw_908⟩
theorem tw_903 : Cond.methodLink RX5 164 yX5_isNear ∈ jW := jW_of (List.mem_append_right _ (List.mem_of_getElem? (l := tables_1) (i := 903) (by decide +kernel))) rfl
theorem tw_906 : Cond.code yX5_isNear cX5_isNear 5 (some .boolean) ∈ jW := jW_of (List.mem_append_right _ (List.mem_of_getElem? (l := tables_1) (i := 906) (by decide +kernel))) rfl
theorem tw_905 : Cond.instanceMethod yX5_isNear ∈ jW := jW_of (List.mem_append_right _ (List.mem_of_getElem? (l := tables_1) (i := 905) (by decide +kernel))) rfl
theorem ts_26 : Cond.selects RX5 yX5_isNear yX5_isNear ∈ jW := jW_of (List.mem_append_left _ (List.mem_of_getElem? (l := k2_sels lw_privs) (i := 26) (by decide +kernel))) rfl
theorem lk_X5_164 : jLv RX5 164 mX5_isNear 2 := ⟨⟨tw_903, tw_6, tw_906, by decide +kernel⟩, tw_905, ts_26⟩
theorem tw_910 : Cond.methodLink RX5 167 yX5_ones ∈ jW := jW_of (List.mem_append_right _ (List.mem_of_getElem? (l := tables_1) (i := 910) (by decide +kernel))) rfl
theorem tw_912 : Cond.code yX5_ones cX5_ones 3 (some .int) ∈ jW := jW_of (List.mem_append_right _ (List.mem_of_getElem? (l := tables_1) (i := 912) (by decide +kernel))) rfl
theorem tw_911 : Cond.static yX5_ones ∈ jW := jW_of (List.mem_append_right _ (List.mem_of_getElem? (l := tables_1) (i := 911) (by decide +kernel))) rfl
theorem lk_X5_167 : jLs RX5 167 mX5_ones 1 := ⟨⟨tw_910, tw_6, tw_912, by decide +kernel⟩, tw_911⟩
theorem tw_895 : Cond.methodLink RX5 170 yX5_springAt ∈ jW := jW_of (List.mem_append_right _ (List.mem_of_getElem? (l := tables_1) (i := 895) (by decide +kernel))) rfl
theorem tw_898 : Cond.code yX5_springAt cX5_springAt 3 (some .int) ∈ jW := jW_of (List.mem_append_right _ (List.mem_of_getElem? (l := tables_1) (i := 898) (by decide +kernel))) rfl
theorem tw_897 : Cond.instanceMethod yX5_springAt ∈ jW := jW_of (List.mem_append_right _ (List.mem_of_getElem? (l := tables_1) (i := 897) (by decide +kernel))) rfl
theorem ts_24 : Cond.selects RX5 yX5_springAt yX5_springAt ∈ jW := jW_of (List.mem_append_left _ (List.mem_of_getElem? (l := k2_sels lw_privs) (i := 24) (by decide +kernel))) rfl
theorem lk_X5_170 : jLv RX5 170 mX5_springAt 2 := ⟨⟨tw_895, tw_6, tw_898, by decide +kernel⟩, tw_897, ts_24⟩
theorem tw_899 : Cond.methodLink RX5 173 yX5_opensNow ∈ jW := jW_of (List.mem_append_right _ (List.mem_of_getElem? (l := tables_1) (i := 899) (by decide +kernel))) rfl
theorem tw_902 : Cond.code yX5_opensNow cX5_opensNow 4 (some .boolean) ∈ jW := jW_of (List.mem_append_right _ (List.mem_of_getElem? (l := tables_1) (i := 902) (by decide +kernel))) rfl
theorem tw_901 : Cond.instanceMethod yX5_opensNow ∈ jW := jW_of (List.mem_append_right _ (List.mem_of_getElem? (l := tables_1) (i := 901) (by decide +kernel))) rfl
theorem ts_25 : Cond.selects RX5 yX5_opensNow yX5_opensNow ∈ jW := jW_of (List.mem_append_left _ (List.mem_of_getElem? (l := k2_sels lw_privs) (i := 25) (by decide +kernel))) rfl
theorem lk_X5_173 : jLv RX5 173 mX5_opensNow 2 := ⟨⟨tw_899, tw_6, tw_902, by decide +kernel⟩, tw_901, ts_25⟩
theorem tw_884 : Cond.methodLink RX5 176 yX5_plain ∈ jW := jW_of (List.mem_append_right _ (List.mem_of_getElem? (l := tables_1) (i := 884) (by decide +kernel))) rfl
theorem tw_887 : Cond.code yX5_plain cX5_plain 2 none ∈ jW := jW_of (List.mem_append_right _ (List.mem_of_getElem? (l := tables_1) (i := 887) (by decide +kernel))) rfl
theorem tw_886 : Cond.instanceMethod yX5_plain ∈ jW := jW_of (List.mem_append_right _ (List.mem_of_getElem? (l := tables_1) (i := 886) (by decide +kernel))) rfl
theorem ts_22 : Cond.selects RX5 yX5_plain yX5_plain ∈ jW := jW_of (List.mem_append_left _ (List.mem_of_getElem? (l := k2_sels lw_privs) (i := 22) (by decide +kernel))) rfl
theorem lk_X5_176 : jLv RX5 176 mX5_plain 0 := ⟨⟨tw_884, tw_6, tw_887, by decide +kernel⟩, tw_886, ts_22⟩
theorem tw_888 : Cond.methodLink RX5 179 yX5_lives ∈ jW := jW_of (List.mem_append_right _ (List.mem_of_getElem? (l := tables_1) (i := 888) (by decide +kernel))) rfl
theorem tw_891 : Cond.code yX5_lives cX5_lives 8 none ∈ jW := jW_of (List.mem_append_right _ (List.mem_of_getElem? (l := tables_1) (i := 891) (by decide +kernel))) rfl
theorem tw_890 : Cond.instanceMethod yX5_lives ∈ jW := jW_of (List.mem_append_right _ (List.mem_of_getElem? (l := tables_1) (i := 890) (by decide +kernel))) rfl
theorem ts_23 : Cond.selects RX5 yX5_lives yX5_lives ∈ jW := jW_of (List.mem_append_left _ (List.mem_of_getElem? (l := k2_sels lw_privs) (i := 23) (by decide +kernel))) rfl
theorem lk_X5_179 : jLv RX5 179 mX5_lives 1 := ⟨⟨tw_888, tw_6, tw_891, by decide +kernel⟩, tw_890, ts_23⟩
theorem tw_880 : Cond.methodLink RX5 183 yX5_find ∈ jW := jW_of (List.mem_append_right _ (List.mem_of_getElem? (l := tables_1) (i := 880) (by decide +kernel))) rfl
theorem tw_883 : Cond.code yX5_find cX5_find 1 none ∈ jW := jW_of (List.mem_append_right _ (List.mem_of_getElem? (l := tables_1) (i := 883) (by decide +kernel))) rfl
theorem tw_882 : Cond.instanceMethod yX5_find ∈ jW := jW_of (List.mem_append_right _ (List.mem_of_getElem? (l := tables_1) (i := 882) (by decide +kernel))) rfl
theorem ts_21 : Cond.selects RX5 yX5_find yX5_find ∈ jW := jW_of (List.mem_append_left _ (List.mem_of_getElem? (l := k2_sels lw_privs) (i := 21) (by decide +kernel))) rfl
theorem lk_X5_183 : jLv RX5 183 mX5_find 0 := ⟨⟨tw_880, tw_6, tw_883, by decide +kernel⟩, tw_882, ts_21⟩
theorem tw_913 : Cond.methodLink RX5 186 yX5_isTwo ∈ jW := jW_of (List.mem_append_right _ (List.mem_of_getElem? (l := tables_1) (i := 913) (by decide +kernel))) rfl
theorem tw_915 : Cond.code yX5_isTwo cX5_isTwo 1 (some .boolean) ∈ jW := jW_of (List.mem_append_right _ (List.mem_of_getElem? (l := tables_1) (i := 915) (by decide +kernel))) rfl
theorem tw_914 : Cond.static yX5_isTwo ∈ jW := jW_of (List.mem_append_right _ (List.mem_of_getElem? (l := tables_1) (i := 914) (by decide +kernel))) rfl
theorem lk_X5_186 : jLs RX5 186 mX5_isTwo 1 := ⟨⟨tw_913, tw_6, tw_915, by decide +kernel⟩, tw_914⟩
theorem tw_924 : Cond.methodLink RX5 189 yX5_quietNow ∈ jW := jW_of (List.mem_append_right _ (List.mem_of_getElem? (l := tables_1) (i := 924) (by decide +kernel))) rfl
theorem tw_927 : Cond.code yX5_quietNow cX5_quietNow 2 (some .int) ∈ jW := jW_of (List.mem_append_right _ (List.mem_of_getElem? (l := tables_1) (i := 927) (by decide +kernel))) rfl
theorem tw_926 : Cond.instanceMethod yX5_quietNow ∈ jW := jW_of (List.mem_append_right _ (List.mem_of_getElem? (l := tables_1) (i := 926) (by decide +kernel))) rfl
theorem ts_27 : Cond.selects RX5 yX5_quietNow yX5_quietNow ∈ jW := jW_of (List.mem_append_left _ (List.mem_of_getElem? (l := k2_sels lw_privs) (i := 27) (by decide +kernel))) rfl
theorem lk_X5_189 : jLv RX5 189 mX5_quietNow 0 := ⟨⟨tw_924, tw_6, tw_927, by decide +kernel⟩, tw_926, ts_27⟩
theorem tw_932 : Cond.methodLink RX5 192 yX5_loudestOf ∈ jW := jW_of (List.mem_append_right _ (List.mem_of_getElem? (l := tables_1) (i := 932) (by decide +kernel))) rfl
theorem tw_935 : Cond.code yX5_loudestOf cX5_loudestOf 4 (some .int) ∈ jW := jW_of (List.mem_append_right _ (List.mem_of_getElem? (l := tables_1) (i := 935) (by decide +kernel))) rfl
theorem tw_934 : Cond.instanceMethod yX5_loudestOf ∈ jW := jW_of (List.mem_append_right _ (List.mem_of_getElem? (l := tables_1) (i := 934) (by decide +kernel))) rfl
theorem ts_28 : Cond.selects RX5 yX5_loudestOf yX5_loudestOf ∈ jW := jW_of (List.mem_append_left _ (List.mem_of_getElem? (l := k2_sels lw_privs) (i := 28) (by decide +kernel))) rfl
theorem lk_X5_192 : jLv RX5 192 mX5_loudestOf 1 := ⟨⟨tw_932, tw_6, tw_935, by decide +kernel⟩, tw_934, ts_28⟩
theorem tw_940 : Cond.methodLink RX5 195 yX5_firstOf ∈ jW := jW_of (List.mem_append_right _ (List.mem_of_getElem? (l := tables_1) (i := 940) (by decide +kernel))) rfl
theorem tw_943 : Cond.code yX5_firstOf cX5_firstOf 3 (some .int) ∈ jW := jW_of (List.mem_append_right _ (List.mem_of_getElem? (l := tables_1) (i := 943) (by decide +kernel))) rfl
theorem tw_942 : Cond.instanceMethod yX5_firstOf ∈ jW := jW_of (List.mem_append_right _ (List.mem_of_getElem? (l := tables_1) (i := 942) (by decide +kernel))) rfl
theorem ts_29 : Cond.selects RX5 yX5_firstOf yX5_firstOf ∈ jW := jW_of (List.mem_append_left _ (List.mem_of_getElem? (l := k2_sels lw_privs) (i := 29) (by decide +kernel))) rfl
theorem lk_X5_195 : jLv RX5 195 mX5_firstOf 1 := ⟨⟨tw_940, tw_6, tw_943, by decide +kernel⟩, tw_942, ts_29⟩
theorem tw_948 : Cond.methodLink RX5 198 yX5_areTwo ∈ jW := jW_of (List.mem_append_right _ (List.mem_of_getElem? (l := tables_1) (i := 948) (by decide +kernel))) rfl
theorem tw_951 : Cond.code yX5_areTwo cX5_areTwo 3 (some .boolean) ∈ jW := jW_of (List.mem_append_right _ (List.mem_of_getElem? (l := tables_1) (i := 951) (by decide +kernel))) rfl
theorem tw_950 : Cond.instanceMethod yX5_areTwo ∈ jW := jW_of (List.mem_append_right _ (List.mem_of_getElem? (l := tables_1) (i := 950) (by decide +kernel))) rfl
theorem ts_30 : Cond.selects RX5 yX5_areTwo yX5_areTwo ∈ jW := jW_of (List.mem_append_left _ (List.mem_of_getElem? (l := k2_sels lw_privs) (i := 30) (by decide +kernel))) rfl
theorem lk_X5_198 : jLv RX5 198 mX5_areTwo 2 := ⟨⟨tw_948, tw_6, tw_951, by decide +kernel⟩, tw_950, ts_30⟩
theorem tw_952 : Cond.methodLink RX5 201 yX5_togetherOf ∈ jW := jW_of (List.mem_append_right _ (List.mem_of_getElem? (l := tables_1) (i := 952) (by decide +kernel))) rfl
theorem tw_955 : Cond.code yX5_togetherOf cX5_togetherOf 5 (some .int) ∈ jW := jW_of (List.mem_append_right _ (List.mem_of_getElem? (l := tables_1) (i := 955) (by decide +kernel))) rfl
theorem tw_954 : Cond.instanceMethod yX5_togetherOf ∈ jW := jW_of (List.mem_append_right _ (List.mem_of_getElem? (l := tables_1) (i := 954) (by decide +kernel))) rfl
theorem ts_31 : Cond.selects RX5 yX5_togetherOf yX5_togetherOf ∈ jW := jW_of (List.mem_append_left _ (List.mem_of_getElem? (l := k2_sels lw_privs) (i := 31) (by decide +kernel))) rfl
theorem lk_X5_201 : jLv RX5 201 mX5_togetherOf 2 := ⟨⟨tw_952, tw_6, tw_955, by decide +kernel⟩, tw_954, ts_31⟩
theorem tw_964 : Cond.methodLink RX5 204 yX5_haveIt ∈ jW := jW_of (List.mem_append_right _ (List.mem_of_getElem? (l := tables_1) (i := 964) (by decide +kernel))) rfl
theorem tw_967 : Cond.code yX5_haveIt cX5_haveIt 6 (some .int) ∈ jW := jW_of (List.mem_append_right _ (List.mem_of_getElem? (l := tables_1) (i := 967) (by decide +kernel))) rfl
theorem tw_966 : Cond.instanceMethod yX5_haveIt ∈ jW := jW_of (List.mem_append_right _ (List.mem_of_getElem? (l := tables_1) (i := 966) (by decide +kernel))) rfl
theorem ts_33 : Cond.selects RX5 yX5_haveIt yX5_haveIt ∈ jW := jW_of (List.mem_append_left _ (List.mem_of_getElem? (l := k2_sels lw_privs) (i := 33) (by decide +kernel))) rfl
theorem lk_X5_204 : jLv RX5 204 mX5_haveIt 3 := ⟨⟨tw_964, tw_6, tw_967, by decide +kernel⟩, tw_966, ts_33⟩
theorem tw_960 : Cond.methodLink RX5 207 yX5_newsOf ∈ jW := jW_of (List.mem_append_right _ (List.mem_of_getElem? (l := tables_1) (i := 960) (by decide +kernel))) rfl
theorem tw_963 : Cond.code yX5_newsOf cX5_newsOf 5 (some .int) ∈ jW := jW_of (List.mem_append_right _ (List.mem_of_getElem? (l := tables_1) (i := 963) (by decide +kernel))) rfl
theorem tw_962 : Cond.instanceMethod yX5_newsOf ∈ jW := jW_of (List.mem_append_right _ (List.mem_of_getElem? (l := tables_1) (i := 962) (by decide +kernel))) rfl
theorem ts_32 : Cond.selects RX5 yX5_newsOf yX5_newsOf ∈ jW := jW_of (List.mem_append_left _ (List.mem_of_getElem? (l := k2_sels lw_privs) (i := 32) (by decide +kernel))) rfl
theorem lk_X5_207 : jLv RX5 207 mX5_newsOf 3 := ⟨⟨tw_960, tw_6, tw_963, by decide +kernel⟩, tw_962, ts_32⟩
theorem tw_976 : Cond.methodLink RX5 210 yX5_hushOf ∈ jW := jW_of (List.mem_append_right _ (List.mem_of_getElem? (l := tables_1) (i := 976) (by decide +kernel))) rfl
theorem tw_979 : Cond.code yX5_hushOf cX5_hushOf 4 (some .int) ∈ jW := jW_of (List.mem_append_right _ (List.mem_of_getElem? (l := tables_1) (i := 979) (by decide +kernel))) rfl
theorem tw_978 : Cond.instanceMethod yX5_hushOf ∈ jW := jW_of (List.mem_append_right _ (List.mem_of_getElem? (l := tables_1) (i := 978) (by decide +kernel))) rfl
theorem ts_34 : Cond.selects RX5 yX5_hushOf yX5_hushOf ∈ jW := jW_of (List.mem_append_left _ (List.mem_of_getElem? (l := k2_sels lw_privs) (i := 34) (by decide +kernel))) rfl
theorem lk_X5_210 : jLv RX5 210 mX5_hushOf 1 := ⟨⟨tw_976, tw_6, tw_979, by decide +kernel⟩, tw_978, ts_34⟩
theorem tw_980 : Cond.methodLink RX5 213 yX5_tells ∈ jW := jW_of (List.mem_append_right _ (List.mem_of_getElem? (l := tables_1) (i := 980) (by decide +kernel))) rfl
theorem tw_982 : Cond.code yX5_tells cX5_tells 2 (some .int) ∈ jW := jW_of (List.mem_append_right _ (List.mem_of_getElem? (l := tables_1) (i := 982) (by decide +kernel))) rfl
theorem tw_981 : Cond.static yX5_tells ∈ jW := jW_of (List.mem_append_right _ (List.mem_of_getElem? (l := tables_1) (i := 981) (by decide +kernel))) rfl
theorem lk_X5_213 : jLs RX5 213 mX5_tells 2 := ⟨⟨tw_980, tw_6, tw_982, by decide +kernel⟩, tw_981⟩
theorem tw_999 : Cond.methodLink RX5 216 yX5_unfolds ∈ jW := jW_of (List.mem_append_right _ (List.mem_of_getElem? (l := tables_1) (i := 999) (by decide +kernel))) rfl
theorem tw_1002 : Cond.code yX5_unfolds cX5_unfolds 6 none ∈ jW := jW_of (List.mem_append_right _ (List.mem_of_getElem? (l := tables_1) (i := 1002) (by decide +kernel))) rfl
theorem tw_1001 : Cond.instanceMethod yX5_unfolds ∈ jW := jW_of (List.mem_append_right _ (List.mem_of_getElem? (l := tables_1) (i := 1001) (by decide +kernel))) rfl
theorem ts_37 : Cond.selects RX5 yX5_unfolds yX5_unfolds ∈ jW := jW_of (List.mem_append_left _ (List.mem_of_getElem? (l := k2_sels lw_privs) (i := 37) (by decide +kernel))) rfl
theorem lk_X5_216 : jLv RX5 216 mX5_unfolds 2 := ⟨⟨tw_999, tw_6, tw_1002, by decide +kernel⟩, tw_1001, ts_37⟩
theorem tw_1003 : Cond.methodLink RX5 220 yX5_opened ∈ jW := jW_of (List.mem_append_right _ (List.mem_of_getElem? (l := tables_1) (i := 1003) (by decide +kernel))) rfl
theorem tw_1006 : Cond.code yX5_opened cX5_opened 4 (some .int) ∈ jW := jW_of (List.mem_append_right _ (List.mem_of_getElem? (l := tables_1) (i := 1006) (by decide +kernel))) rfl
theorem tw_1005 : Cond.instanceMethod yX5_opened ∈ jW := jW_of (List.mem_append_right _ (List.mem_of_getElem? (l := tables_1) (i := 1005) (by decide +kernel))) rfl
theorem ts_38 : Cond.selects RX5 yX5_opened yX5_opened ∈ jW := jW_of (List.mem_append_left _ (List.mem_of_getElem? (l := k2_sels lw_privs) (i := 38) (by decide +kernel))) rfl
theorem lk_X5_220 : jLv RX5 220 mX5_opened 1 := ⟨⟨tw_1003, tw_6, tw_1006, by decide +kernel⟩, tw_1005, ts_38⟩
theorem tw_995 : Cond.methodLink RX5 223 yX5_findShelf ∈ jW := jW_of (List.mem_append_right _ (List.mem_of_getElem? (l := tables_1) (i := 995) (by decide +kernel))) rfl
theorem tw_998 : Cond.code yX5_findShelf cX5_findShelf 8 (some .int) ∈ jW := jW_of (List.mem_append_right _ (List.mem_of_getElem? (l := tables_1) (i := 998) (by decide +kernel))) rfl
theorem tw_997 : Cond.instanceMethod yX5_findShelf ∈ jW := jW_of (List.mem_append_right _ (List.mem_of_getElem? (l := tables_1) (i := 997) (by decide +kernel))) rfl
theorem ts_36 : Cond.selects RX5 yX5_findShelf yX5_findShelf ∈ jW := jW_of (List.mem_append_left _ (List.mem_of_getElem? (l := k2_sels lw_privs) (i := 36) (by decide +kernel))) rfl
theorem lk_X5_223 : jLv RX5 223 mX5_findShelf 2 := ⟨⟨tw_995, tw_6, tw_998, by decide +kernel⟩, tw_997, ts_36⟩
theorem tw_987 : Cond.methodLink RX5 226 yX5_lesserOf ∈ jW := jW_of (List.mem_append_right _ (List.mem_of_getElem? (l := tables_1) (i := 987) (by decide +kernel))) rfl
theorem tw_989 : Cond.code yX5_lesserOf cX5_lesserOf 1 (some .int) ∈ jW := jW_of (List.mem_append_right _ (List.mem_of_getElem? (l := tables_1) (i := 989) (by decide +kernel))) rfl
theorem tw_988 : Cond.static yX5_lesserOf ∈ jW := jW_of (List.mem_append_right _ (List.mem_of_getElem? (l := tables_1) (i := 988) (by decide +kernel))) rfl
theorem lk_X5_226 : jLs RX5 226 mX5_lesserOf 1 := ⟨⟨tw_987, tw_6, tw_989, by decide +kernel⟩, tw_988⟩
theorem tw_991 : Cond.methodLink RX5 231 yX5_shelfOf ∈ jW := jW_of (List.mem_append_right _ (List.mem_of_getElem? (l := tables_1) (i := 991) (by decide +kernel))) rfl
theorem tw_994 : Cond.code yX5_shelfOf cX5_shelfOf 5 (some .int) ∈ jW := jW_of (List.mem_append_right _ (List.mem_of_getElem? (l := tables_1) (i := 994) (by decide +kernel))) rfl
theorem tw_993 : Cond.instanceMethod yX5_shelfOf ∈ jW := jW_of (List.mem_append_right _ (List.mem_of_getElem? (l := tables_1) (i := 993) (by decide +kernel))) rfl
theorem ts_35 : Cond.selects RX5 yX5_shelfOf yX5_shelfOf ∈ jW := jW_of (List.mem_append_left _ (List.mem_of_getElem? (l := k2_sels lw_privs) (i := 35) (by decide +kernel))) rfl
theorem lk_X5_231 : jLv RX5 231 mX5_shelfOf 3 := ⟨⟨tw_991, tw_6, tw_994, by decide +kernel⟩, tw_993, ts_35⟩
theorem tw_1025 : Cond.methodLink RX5 239 yX5_takes ∈ jW := jW_of (List.mem_append_right _ (List.mem_of_getElem? (l := tables_1) (i := 1025) (by decide +kernel))) rfl
theorem tw_1028 : Cond.code yX5_takes cX5_takes 3 none ∈ jW := jW_of (List.mem_append_right _ (List.mem_of_getElem? (l := tables_1) (i := 1028) (by decide +kernel))) rfl
theorem tw_1027 : Cond.instanceMethod yX5_takes ∈ jW := jW_of (List.mem_append_right _ (List.mem_of_getElem? (l := tables_1) (i := 1027) (by decide +kernel))) rfl
theorem ts_40 : Cond.selects RX5 yX5_takes yX5_takes ∈ jW := jW_of (List.mem_append_left _ (List.mem_of_getElem? (l := k2_sels lw_privs) (i := 40) (by decide +kernel))) rfl
theorem lk_X5_239 : jLv RX5 239 mX5_takes 2 := ⟨⟨tw_1025, tw_6, tw_1028, by decide +kernel⟩, tw_1027, ts_40⟩
theorem tw_1029 : Cond.methodLink RX5 242 yX5_isHeard ∈ jW := jW_of (List.mem_append_right _ (List.mem_of_getElem? (l := tables_1) (i := 1029) (by decide +kernel))) rfl
theorem tw_1032 : Cond.code yX5_isHeard cX5_isHeard 3 (some .boolean) ∈ jW := jW_of (List.mem_append_right _ (List.mem_of_getElem? (l := tables_1) (i := 1032) (by decide +kernel))) rfl
theorem tw_1031 : Cond.instanceMethod yX5_isHeard ∈ jW := jW_of (List.mem_append_right _ (List.mem_of_getElem? (l := tables_1) (i := 1031) (by decide +kernel))) rfl
theorem ts_41 : Cond.selects RX5 yX5_isHeard yX5_isHeard ∈ jW := jW_of (List.mem_append_left _ (List.mem_of_getElem? (l := k2_sels lw_privs) (i := 41) (by decide +kernel))) rfl
theorem lk_X5_242 : jLv RX5 242 mX5_isHeard 0 := ⟨⟨tw_1029, tw_6, tw_1032, by decide +kernel⟩, tw_1031, ts_41⟩
theorem tw_1033 : Cond.methodLink RX5 245 yX5_lawName ∈ jW := jW_of (List.mem_append_right _ (List.mem_of_getElem? (l := tables_1) (i := 1033) (by decide +kernel))) rfl
theorem tw_1035 : Cond.code yX5_lawName cX5_lawName 1 (some .int) ∈ jW := jW_of (List.mem_append_right _ (List.mem_of_getElem? (l := tables_1) (i := 1035) (by decide +kernel))) rfl
theorem tw_1034 : Cond.static yX5_lawName ∈ jW := jW_of (List.mem_append_right _ (List.mem_of_getElem? (l := tables_1) (i := 1034) (by decide +kernel))) rfl
theorem lk_X5_245 : jLs RX5 245 mX5_lawName 1 := ⟨⟨tw_1033, tw_6, tw_1035, by decide +kernel⟩, tw_1034⟩
theorem tw_1036 : Cond.methodLink RX5 248 yX5_gives ∈ jW := jW_of (List.mem_append_right _ (List.mem_of_getElem? (l := tables_1) (i := 1036) (by decide +kernel))) rfl
theorem tw_1039 : Cond.code yX5_gives cX5_gives 2 none ∈ jW := jW_of (List.mem_append_right _ (List.mem_of_getElem? (l := tables_1) (i := 1039) (by decide +kernel))) rfl
theorem tw_1038 : Cond.instanceMethod yX5_gives ∈ jW := jW_of (List.mem_append_right _ (List.mem_of_getElem? (l := tables_1) (i := 1038) (by decide +kernel))) rfl
theorem ts_42 : Cond.selects RX5 yX5_gives yX5_gives ∈ jW := jW_of (List.mem_append_left _ (List.mem_of_getElem? (l := k2_sels lw_privs) (i := 42) (by decide +kernel))) rfl
theorem lk_X5_248 : jLv RX5 248 mX5_gives 1 := ⟨⟨tw_1036, tw_6, tw_1039, by decide +kernel⟩, tw_1038, ts_42⟩
theorem tw_1021 : Cond.methodLink RX5 253 yX5_learnOf ∈ jW := jW_of (List.mem_append_right _ (List.mem_of_getElem? (l := tables_1) (i := 1021) (by decide +kernel))) rfl
theorem tw_1024 : Cond.code yX5_learnOf cX5_learnOf 6 (some .int) ∈ jW := jW_of (List.mem_append_right _ (List.mem_of_getElem? (l := tables_1) (i := 1024) (by decide +kernel))) rfl
theorem tw_1023 : Cond.instanceMethod yX5_learnOf ∈ jW := jW_of (List.mem_append_right _ (List.mem_of_getElem? (l := tables_1) (i := 1023) (by decide +kernel))) rfl
theorem ts_39 : Cond.selects RX5 yX5_learnOf yX5_learnOf ∈ jW := jW_of (List.mem_append_left _ (List.mem_of_getElem? (l := k2_sels lw_privs) (i := 39) (by decide +kernel))) rfl
theorem lk_X5_253 : jLv RX5 253 mX5_learnOf 2 := ⟨⟨tw_1021, tw_6, tw_1024, by decide +kernel⟩, tw_1023, ts_39⟩
theorem tw_1044 : Cond.methodLink RX5 256 yX5_emptyNow ∈ jW := jW_of (List.mem_append_right _ (List.mem_of_getElem? (l := tables_1) (i := 1044) (by decide +kernel))) rfl
theorem tw_1047 : Cond.code yX5_emptyNow cX5_emptyNow 3 (some .int) ∈ jW := jW_of (List.mem_append_right _ (List.mem_of_getElem? (l := tables_1) (i := 1047) (by decide +kernel))) rfl
theorem tw_1046 : Cond.instanceMethod yX5_emptyNow ∈ jW := jW_of (List.mem_append_right _ (List.mem_of_getElem? (l := tables_1) (i := 1046) (by decide +kernel))) rfl
theorem ts_43 : Cond.selects RX5 yX5_emptyNow yX5_emptyNow ∈ jW := jW_of (List.mem_append_left _ (List.mem_of_getElem? (l := k2_sels lw_privs) (i := 43) (by decide +kernel))) rfl
theorem lk_X5_256 : jLv RX5 256 mX5_emptyNow 0 := ⟨⟨tw_1044, tw_6, tw_1047, by decide +kernel⟩, tw_1046, ts_43⟩
theorem tw_1052 : Cond.methodLink RX5 259 yX5_turnOf ∈ jW := jW_of (List.mem_append_right _ (List.mem_of_getElem? (l := tables_1) (i := 1052) (by decide +kernel))) rfl
theorem tw_1055 : Cond.code yX5_turnOf cX5_turnOf 10 (some .int) ∈ jW := jW_of (List.mem_append_right _ (List.mem_of_getElem? (l := tables_1) (i := 1055) (by decide +kernel))) rfl
theorem tw_1054 : Cond.instanceMethod yX5_turnOf ∈ jW := jW_of (List.mem_append_right _ (List.mem_of_getElem? (l := tables_1) (i := 1054) (by decide +kernel))) rfl
theorem ts_44 : Cond.selects RX5 yX5_turnOf yX5_turnOf ∈ jW := jW_of (List.mem_append_left _ (List.mem_of_getElem? (l := k2_sels lw_privs) (i := 44) (by decide +kernel))) rfl
theorem lk_X5_259 : jLv RX5 259 mX5_turnOf 2 := ⟨⟨tw_1052, tw_6, tw_1055, by decide +kernel⟩, tw_1054, ts_44⟩
theorem tw_1065 : Cond.methodLink RX5 264 yX5_part ∈ jW := jW_of (List.mem_append_right _ (List.mem_of_getElem? (l := tables_1) (i := 1065) (by decide +kernel))) rfl
theorem tw_1067 : Cond.code yX5_part cX5_part 11 (some .long) ∈ jW := jW_of (List.mem_append_right _ (List.mem_of_getElem? (l := tables_1) (i := 1067) (by decide +kernel))) rfl
theorem tw_1066 : Cond.static yX5_part ∈ jW := jW_of (List.mem_append_right _ (List.mem_of_getElem? (l := tables_1) (i := 1066) (by decide +kernel))) rfl
theorem lk_X5_264 : jLs RX5 264 mX5_part 3 := ⟨⟨tw_1065, tw_6, tw_1067, by decide +kernel⟩, tw_1066⟩
theorem tw_1061 : Cond.methodLink RX5 268 yX5_looksOf ∈ jW := jW_of (List.mem_append_right _ (List.mem_of_getElem? (l := tables_1) (i := 1061) (by decide +kernel))) rfl
theorem tw_1064 : Cond.code yX5_looksOf cX5_looksOf 14 (some .long) ∈ jW := jW_of (List.mem_append_right _ (List.mem_of_getElem? (l := tables_1) (i := 1064) (by decide +kernel))) rfl
theorem tw_1063 : Cond.instanceMethod yX5_looksOf ∈ jW := jW_of (List.mem_append_right _ (List.mem_of_getElem? (l := tables_1) (i := 1063) (by decide +kernel))) rfl
theorem ts_45 : Cond.selects RX5 yX5_looksOf yX5_looksOf ∈ jW := jW_of (List.mem_append_left _ (List.mem_of_getElem? (l := k2_sels lw_privs) (i := 45) (by decide +kernel))) rfl
theorem lk_X5_268 : jLv RX5 268 mX5_looksOf 4 := ⟨⟨tw_1061, tw_6, tw_1064, by decide +kernel⟩, tw_1063, ts_45⟩
theorem tw_1068 : Cond.methodLink RX5 272 yX5_no ∈ jW := jW_of (List.mem_append_right _ (List.mem_of_getElem? (l := tables_1) (i := 1068) (by decide +kernel))) rfl
theorem tw_1070 : Cond.code yX5_no cX5_no 1 (some .long) ∈ jW := jW_of (List.mem_append_right _ (List.mem_of_getElem? (l := tables_1) (i := 1070) (by decide +kernel))) rfl
theorem tw_1069 : Cond.static yX5_no ∈ jW := jW_of (List.mem_append_right _ (List.mem_of_getElem? (l := tables_1) (i := 1069) (by decide +kernel))) rfl
theorem lk_X5_272 : jLs RX5 272 mX5_no 1 := ⟨⟨tw_1068, tw_6, tw_1070, by decide +kernel⟩, tw_1069⟩
theorem tw_1076 : Cond.methodLink RX5 277 yX5_nightOf ∈ jW := jW_of (List.mem_append_right _ (List.mem_of_getElem? (l := tables_1) (i := 1076) (by decide +kernel))) rfl
theorem tw_1079 : Cond.code yX5_nightOf cX5_nightOf 6 (some .int) ∈ jW := jW_of (List.mem_append_right _ (List.mem_of_getElem? (l := tables_1) (i := 1079) (by decide +kernel))) rfl
theorem tw_1078 : Cond.instanceMethod yX5_nightOf ∈ jW := jW_of (List.mem_append_right _ (List.mem_of_getElem? (l := tables_1) (i := 1078) (by decide +kernel))) rfl
theorem ts_46 : Cond.selects RX5 yX5_nightOf yX5_nightOf ∈ jW := jW_of (List.mem_append_left _ (List.mem_of_getElem? (l := k2_sels lw_privs) (i := 46) (by decide +kernel))) rfl
theorem lk_X5_277 : jLv RX5 277 mX5_nightOf 3 := ⟨⟨tw_1076, tw_6, tw_1079, by decide +kernel⟩, tw_1078, ts_46⟩
theorem tw_1095 : Cond.methodLink RX5 284 yX5_count ∈ jW := jW_of (List.mem_append_right _ (List.mem_of_getElem? (l := tables_1) (i := 1095) (by decide +kernel))) rfl
theorem tw_1088 : Cond.code yX5_count cX5_count 4 (some .int) ∈ jW := jW_of (List.mem_append_right _ (List.mem_of_getElem? (l := tables_1) (i := 1088) (by decide +kernel))) rfl
theorem tw_1086 : Cond.instanceMethod yX5_count ∈ jW := jW_of (List.mem_append_right _ (List.mem_of_getElem? (l := tables_1) (i := 1086) (by decide +kernel))) rfl
theorem tw_1087 : Cond.selects RX5 yX5_count yX5_count ∈ jW := jW_of (List.mem_append_right _ (List.mem_of_getElem? (l := tables_1) (i := 1087) (by decide +kernel))) rfl
theorem lk_X5_284 : jLv RX5 284 mX5_count 1 := ⟨⟨tw_1095, tw_6, tw_1088, by decide +kernel⟩, tw_1086, tw_1087⟩
theorem tw_1096 : Cond.methodLink RX5 287 yX5_tellsBox ∈ jW := jW_of (List.mem_append_right _ (List.mem_of_getElem? (l := tables_1) (i := 1096) (by decide +kernel))) rfl
theorem tw_1099 : Cond.code yX5_tellsBox cX5_tellsBox 7 (some .long) ∈ jW := jW_of (List.mem_append_right _ (List.mem_of_getElem? (l := tables_1) (i := 1099) (by decide +kernel))) rfl
theorem tw_1098 : Cond.instanceMethod yX5_tellsBox ∈ jW := jW_of (List.mem_append_right _ (List.mem_of_getElem? (l := tables_1) (i := 1098) (by decide +kernel))) rfl
theorem ts_47 : Cond.selects RX5 yX5_tellsBox yX5_tellsBox ∈ jW := jW_of (List.mem_append_left _ (List.mem_of_getElem? (l := k2_sels lw_privs) (i := 47) (by decide +kernel))) rfl
theorem lk_X5_287 : jLv RX5 287 mX5_tellsBox 2 := ⟨⟨tw_1096, tw_6, tw_1099, by decide +kernel⟩, tw_1098, ts_47⟩
theorem tw_1100 : Cond.methodLink RX5 291 yX5_news ∈ jW := jW_of (List.mem_append_right _ (List.mem_of_getElem? (l := tables_1) (i := 1100) (by decide +kernel))) rfl
theorem tw_959 : Cond.code yX5_news cX5_news 4 (some .int) ∈ jW := jW_of (List.mem_append_right _ (List.mem_of_getElem? (l := tables_1) (i := 959) (by decide +kernel))) rfl
theorem tw_957 : Cond.instanceMethod yX5_news ∈ jW := jW_of (List.mem_append_right _ (List.mem_of_getElem? (l := tables_1) (i := 957) (by decide +kernel))) rfl
theorem tw_958 : Cond.selects RX5 yX5_news yX5_news ∈ jW := jW_of (List.mem_append_right _ (List.mem_of_getElem? (l := tables_1) (i := 958) (by decide +kernel))) rfl
theorem lk_X5_291 : jLv RX5 291 mX5_news 3 := ⟨⟨tw_1100, tw_6, tw_959, by decide +kernel⟩, tw_957, tw_958⟩
theorem tw_1101 : Cond.methodLink RX5 294 yX5_shelf ∈ jW := jW_of (List.mem_append_right _ (List.mem_of_getElem? (l := tables_1) (i := 1101) (by decide +kernel))) rfl
theorem tw_986 : Cond.code yX5_shelf cX5_shelf 4 (some .int) ∈ jW := jW_of (List.mem_append_right _ (List.mem_of_getElem? (l := tables_1) (i := 986) (by decide +kernel))) rfl
theorem tw_984 : Cond.instanceMethod yX5_shelf ∈ jW := jW_of (List.mem_append_right _ (List.mem_of_getElem? (l := tables_1) (i := 984) (by decide +kernel))) rfl
theorem tw_985 : Cond.selects RX5 yX5_shelf yX5_shelf ∈ jW := jW_of (List.mem_append_right _ (List.mem_of_getElem? (l := tables_1) (i := 985) (by decide +kernel))) rfl
theorem lk_X5_294 : jLv RX5 294 mX5_shelf 3 := ⟨⟨tw_1101, tw_6, tw_986, by decide +kernel⟩, tw_984, tw_985⟩
theorem tw_1102 : Cond.methodLink RX5 296 yX5_turn ∈ jW := jW_of (List.mem_append_right _ (List.mem_of_getElem? (l := tables_1) (i := 1102) (by decide +kernel))) rfl
theorem tw_1051 : Cond.code yX5_turn cX5_turn 3 (some .int) ∈ jW := jW_of (List.mem_append_right _ (List.mem_of_getElem? (l := tables_1) (i := 1051) (by decide +kernel))) rfl
theorem tw_1049 : Cond.instanceMethod yX5_turn ∈ jW := jW_of (List.mem_append_right _ (List.mem_of_getElem? (l := tables_1) (i := 1049) (by decide +kernel))) rfl
theorem tw_1050 : Cond.selects RX5 yX5_turn yX5_turn ∈ jW := jW_of (List.mem_append_right _ (List.mem_of_getElem? (l := tables_1) (i := 1050) (by decide +kernel))) rfl
theorem lk_X5_296 : jLv RX5 296 mX5_turn 2 := ⟨⟨tw_1102, tw_6, tw_1051, by decide +kernel⟩, tw_1049, tw_1050⟩
theorem tw_261 : Cond.methodLink RJ0 335 yJ0_coder_7d493 ∈ jW := jW_of (List.mem_append_right _ (List.mem_of_getElem? (l := tables_1) (i := 261) (by decide +kernel))) rfl
theorem tw_264 : Cond.code yJ0_coder_7d493 cJ0_coder_7d493 1 (some .byte) ∈ jW := jW_of (List.mem_append_right _ (List.mem_of_getElem? (l := tables_1) (i := 264) (by decide +kernel))) rfl
theorem tw_262 : Cond.instanceMethod yJ0_coder_7d493 ∈ jW := jW_of (List.mem_append_right _ (List.mem_of_getElem? (l := tables_1) (i := 262) (by decide +kernel))) rfl
theorem tw_263 : Cond.selects RJ0 yJ0_coder_7d493 yJ0_coder_7d493 ∈ jW := jW_of (List.mem_append_right _ (List.mem_of_getElem? (l := tables_1) (i := 263) (by decide +kernel))) rfl
theorem lk_J0_335 : jLv RJ0 335 mJ0_coder_7d493 0 := ⟨⟨tw_261, tw_7, tw_264, by decide +kernel⟩, tw_262, tw_263⟩
theorem tw_251 : Cond.methodLink RJ0 492 yJ0_isLatin1_aae02 ∈ jW := jW_of (List.mem_append_right _ (List.mem_of_getElem? (l := tables_1) (i := 251) (by decide +kernel))) rfl
theorem tw_254 : Cond.code yJ0_isLatin1_aae02 cJ0_isLatin1_aae02 1 (some .boolean) ∈ jW := jW_of (List.mem_append_right _ (List.mem_of_getElem? (l := tables_1) (i := 254) (by decide +kernel))) rfl
theorem tw_252 : Cond.instanceMethod yJ0_isLatin1_aae02 ∈ jW := jW_of (List.mem_append_right _ (List.mem_of_getElem? (l := tables_1) (i := 252) (by decide +kernel))) rfl
theorem tw_253 : Cond.selects RJ0 yJ0_isLatin1_aae02 yJ0_isLatin1_aae02 ∈ jW := jW_of (List.mem_append_right _ (List.mem_of_getElem? (l := tables_1) (i := 253) (by decide +kernel))) rfl
theorem lk_J0_492 : jLv RJ0 492 mJ0_isLatin1_aae02 0 := ⟨⟨tw_251, tw_7, tw_254, by decide +kernel⟩, tw_252, tw_253⟩
theorem tw_257 : Cond.methodLink RJ0 505 yJ0_length_8abf5 ∈ jW := jW_of (List.mem_append_right _ (List.mem_of_getElem? (l := tables_1) (i := 257) (by decide +kernel))) rfl
theorem tw_260 : Cond.code yJ0_length_8abf5 cJ0_length_8abf5 1 (some .int) ∈ jW := jW_of (List.mem_append_right _ (List.mem_of_getElem? (l := tables_1) (i := 260) (by decide +kernel))) rfl
theorem tw_258 : Cond.instanceMethod yJ0_length_8abf5 ∈ jW := jW_of (List.mem_append_right _ (List.mem_of_getElem? (l := tables_1) (i := 258) (by decide +kernel))) rfl
theorem tw_259 : Cond.selects RJ0 yJ0_length_8abf5 yJ0_length_8abf5 ∈ jW := jW_of (List.mem_append_right _ (List.mem_of_getElem? (l := tables_1) (i := 259) (by decide +kernel))) rfl
theorem lk_J0_505 : jLv RJ0 505 mJ0_length_8abf5 0 := ⟨⟨tw_257, tw_7, tw_260, by decide +kernel⟩, tw_258, tw_259⟩
theorem tw_247 : Cond.methodLink RJ0 633 yJ0_indexOf_7cf53 ∈ jW := jW_of (List.mem_append_right _ (List.mem_of_getElem? (l := tables_1) (i := 247) (by decide +kernel))) rfl
theorem tw_250 : Cond.code yJ0_indexOf_7cf53 cJ0_indexOf_7cf53 3 (some .int) ∈ jW := jW_of (List.mem_append_right _ (List.mem_of_getElem? (l := tables_1) (i := 250) (by decide +kernel))) rfl
theorem tw_248 : Cond.instanceMethod yJ0_indexOf_7cf53 ∈ jW := jW_of (List.mem_append_right _ (List.mem_of_getElem? (l := tables_1) (i := 248) (by decide +kernel))) rfl
theorem tw_249 : Cond.selects RJ0 yJ0_indexOf_7cf53 yJ0_indexOf_7cf53 ∈ jW := jW_of (List.mem_append_right _ (List.mem_of_getElem? (l := tables_1) (i := 249) (by decide +kernel))) rfl
theorem lk_J0_633 : jLv RJ0 633 mJ0_indexOf_7cf53 2 := ⟨⟨tw_247, tw_7, tw_250, by decide +kernel⟩, tw_248, tw_249⟩
theorem tw_265 : Cond.methodLink RJ0 637 yJ1_indexOf_4cfef ∈ jW := jW_of (List.mem_append_right _ (List.mem_of_getElem? (l := tables_1) (i := 265) (by decide +kernel))) rfl
theorem tw_8 : Cond.initialized RJ1 ∈ jW := jW_of (List.mem_append_right _ (List.mem_of_getElem? (l := tables_1) (i := 8) (by decide +kernel))) rfl
theorem tw_267 : Cond.code yJ1_indexOf_4cfef cJ1_indexOf_4cfef 4 (some .int) ∈ jW := jW_of (List.mem_append_right _ (List.mem_of_getElem? (l := tables_1) (i := 267) (by decide +kernel))) rfl
theorem tw_266 : Cond.static yJ1_indexOf_4cfef ∈ jW := jW_of (List.mem_append_right _ (List.mem_of_getElem? (l := tables_1) (i := 266) (by decide +kernel))) rfl
theorem lk_J0_637 : jLs RJ0 637 mJ1_indexOf_4cfef 4 := ⟨⟨tw_265, tw_8, tw_267, by decide +kernel⟩, tw_266⟩
theorem tw_280 : Cond.methodLink RJ0 640 yJ2_indexOf_4cfef ∈ jW := jW_of (List.mem_append_right _ (List.mem_of_getElem? (l := tables_1) (i := 280) (by decide +kernel))) rfl
theorem tw_10 : Cond.initialized RJ2 ∈ jW := jW_of (List.mem_append_right _ (List.mem_of_getElem? (l := tables_1) (i := 10) (by decide +kernel))) rfl
theorem tw_282 : Cond.code yJ2_indexOf_4cfef cJ2_indexOf_4cfef 4 (some .int) ∈ jW := jW_of (List.mem_append_right _ (List.mem_of_getElem? (l := tables_1) (i := 282) (by decide +kernel))) rfl
theorem tw_281 : Cond.static yJ2_indexOf_4cfef ∈ jW := jW_of (List.mem_append_right _ (List.mem_of_getElem? (l := tables_1) (i := 281) (by decide +kernel))) rfl
theorem lk_J0_640 : jLs RJ0 640 mJ2_indexOf_4cfef 4 := ⟨⟨tw_280, tw_10, tw_282, by decide +kernel⟩, tw_281⟩
theorem tw_300 : Cond.methodLink RJ0 1062 yJ3_checkFromToIndex_8c36e ∈ jW := jW_of (List.mem_append_right _ (List.mem_of_getElem? (l := tables_1) (i := 300) (by decide +kernel))) rfl
theorem tw_11 : Cond.initialized RJ3 ∈ jW := jW_of (List.mem_append_right _ (List.mem_of_getElem? (l := tables_1) (i := 11) (by decide +kernel))) rfl
theorem tw_302 : Cond.code yJ3_checkFromToIndex_8c36e cJ3_checkFromToIndex_8c36e 4 (some .int) ∈ jW := jW_of (List.mem_append_right _ (List.mem_of_getElem? (l := tables_1) (i := 302) (by decide +kernel))) rfl
theorem tw_301 : Cond.static yJ3_checkFromToIndex_8c36e ∈ jW := jW_of (List.mem_append_right _ (List.mem_of_getElem? (l := tables_1) (i := 301) (by decide +kernel))) rfl
theorem lk_J0_1062 : jLs RJ0 1062 mJ3_checkFromToIndex_8c36e 4 := ⟨⟨tw_300, tw_11, tw_302, by decide +kernel⟩, tw_301⟩
theorem tw_274 : Cond.methodLink RJ1 38 yJ9_min_7cf53 ∈ jW := jW_of (List.mem_append_right _ (List.mem_of_getElem? (l := tables_1) (i := 274) (by decide +kernel))) rfl
theorem tw_276 : Cond.code yJ9_min_7cf53 cJ9_min_7cf53 2 (some .int) ∈ jW := jW_of (List.mem_append_right _ (List.mem_of_getElem? (l := tables_1) (i := 276) (by decide +kernel))) rfl
theorem tw_275 : Cond.static yJ9_min_7cf53 ∈ jW := jW_of (List.mem_append_right _ (List.mem_of_getElem? (l := tables_1) (i := 275) (by decide +kernel))) rfl
theorem lk_J1_38 : jLs RJ1 38 mJ9_min_7cf53 2 := ⟨⟨tw_274, tw_9, tw_276, by decide +kernel⟩, tw_275⟩
theorem tw_268 : Cond.methodLink RJ1 88 yJ1_canEncode_9a6ad ∈ jW := jW_of (List.mem_append_right _ (List.mem_of_getElem? (l := tables_1) (i := 268) (by decide +kernel))) rfl
theorem tw_270 : Cond.code yJ1_canEncode_9a6ad cJ1_canEncode_9a6ad 1 (some .boolean) ∈ jW := jW_of (List.mem_append_right _ (List.mem_of_getElem? (l := tables_1) (i := 270) (by decide +kernel))) rfl
theorem tw_269 : Cond.static yJ1_canEncode_9a6ad ∈ jW := jW_of (List.mem_append_right _ (List.mem_of_getElem? (l := tables_1) (i := 269) (by decide +kernel))) rfl
theorem lk_J1_88 : jLs RJ1 88 mJ1_canEncode_9a6ad 1 := ⟨⟨tw_268, tw_8, tw_270, by decide +kernel⟩, tw_269⟩
theorem tw_271 : Cond.methodLink RJ1 92 yJ9_max_7cf53 ∈ jW := jW_of (List.mem_append_right _ (List.mem_of_getElem? (l := tables_1) (i := 271) (by decide +kernel))) rfl
theorem lk_J1_92 : jLs RJ1 92 mJ9_max_7cf53 2 := ⟨⟨tw_271, tw_9, tw_273, by decide +kernel⟩, tw_272⟩
theorem tw_277 : Cond.methodLink RJ1 95 yJ1_indexOfChar_4cfef ∈ jW := jW_of (List.mem_append_right _ (List.mem_of_getElem? (l := tables_1) (i := 277) (by decide +kernel))) rfl
theorem tw_279 : Cond.code yJ1_indexOfChar_4cfef cJ1_indexOfChar_4cfef 6 (some .int) ∈ jW := jW_of (List.mem_append_right _ (List.mem_of_getElem? (l := tables_1) (i := 279) (by decide +kernel))) rfl
theorem tw_278 : Cond.static yJ1_indexOfChar_4cfef ∈ jW := jW_of (List.mem_append_right _ (List.mem_of_getElem? (l := tables_1) (i := 278) (by decide +kernel))) rfl
theorem lk_J1_95 : jLs RJ1 95 mJ1_indexOfChar_4cfef 4 := ⟨⟨tw_277, tw_8, tw_279, by decide +kernel⟩, tw_278⟩
theorem tw_292 : Cond.methodLink RJ2 48 yJ2_length_9d52b ∈ jW := jW_of (List.mem_append_right _ (List.mem_of_getElem? (l := tables_1) (i := 292) (by decide +kernel))) rfl
theorem tw_294 : Cond.code yJ2_length_9d52b cJ2_length_9d52b 1 (some .int) ∈ jW := jW_of (List.mem_append_right _ (List.mem_of_getElem? (l := tables_1) (i := 294) (by decide +kernel))) rfl
theorem tw_293 : Cond.static yJ2_length_9d52b ∈ jW := jW_of (List.mem_append_right _ (List.mem_of_getElem? (l := tables_1) (i := 293) (by decide +kernel))) rfl
theorem lk_J2_48 : jLs RJ2 48 mJ2_length_9d52b 1 := ⟨⟨tw_292, tw_10, tw_294, by decide +kernel⟩, tw_293⟩
theorem tw_306 : Cond.methodLink RJ2 71 yJ2_getChar_3b067 ∈ jW := jW_of (List.mem_append_right _ (List.mem_of_getElem? (l := tables_1) (i := 306) (by decide +kernel))) rfl
theorem tw_308 : Cond.code yJ2_getChar_3b067 cJ2_getChar_3b067 2 (some .char) ∈ jW := jW_of (List.mem_append_right _ (List.mem_of_getElem? (l := tables_1) (i := 308) (by decide +kernel))) rfl
theorem tw_307 : Cond.static yJ2_getChar_3b067 ∈ jW := jW_of (List.mem_append_right _ (List.mem_of_getElem? (l := tables_1) (i := 307) (by decide +kernel))) rfl
theorem lk_J2_71 : jLs RJ2 71 mJ2_getChar_3b067 2 := ⟨⟨tw_306, tw_10, tw_308, by decide +kernel⟩, tw_307⟩
theorem tw_289 : Cond.methodLink RJ2 96 yJ2_checkBoundsBeginEnd_d044e ∈ jW := jW_of (List.mem_append_right _ (List.mem_of_getElem? (l := tables_1) (i := 289) (by decide +kernel))) rfl
theorem tw_291 : Cond.code yJ2_checkBoundsBeginEnd_d044e cJ2_checkBoundsBeginEnd_d044e 3 none ∈ jW := jW_of (List.mem_append_right _ (List.mem_of_getElem? (l := tables_1) (i := 291) (by decide +kernel))) rfl
theorem tw_290 : Cond.static yJ2_checkBoundsBeginEnd_d044e ∈ jW := jW_of (List.mem_append_right _ (List.mem_of_getElem? (l := tables_1) (i := 290) (by decide +kernel))) rfl
theorem lk_J2_96 : jLs RJ2 96 mJ2_checkBoundsBeginEnd_d044e 3 := ⟨⟨tw_289, tw_10, tw_291, by decide +kernel⟩, tw_290⟩
theorem tw_321 : Cond.methodLink RJ2 157 yJ11_highSurrogate_5068e ∈ jW := jW_of (List.mem_append_right _ (List.mem_of_getElem? (l := tables_1) (i := 321) (by decide +kernel))) rfl
theorem tw_12 : Cond.initialized RJ11 ∈ jW := jW_of (List.mem_append_right _ (List.mem_of_getElem? (l := tables_1) (i := 12) (by decide +kernel))) rfl
theorem tw_323 : Cond.code yJ11_highSurrogate_5068e cJ11_highSurrogate_5068e 1 (some .char) ∈ jW := jW_of (List.mem_append_right _ (List.mem_of_getElem? (l := tables_1) (i := 323) (by decide +kernel))) rfl
theorem tw_322 : Cond.static yJ11_highSurrogate_5068e ∈ jW := jW_of (List.mem_append_right _ (List.mem_of_getElem? (l := tables_1) (i := 322) (by decide +kernel))) rfl
theorem lk_J2_157 : jLs RJ2 157 mJ11_highSurrogate_5068e 1 := ⟨⟨tw_321, tw_12, tw_323, by decide +kernel⟩, tw_322⟩
theorem tw_325 : Cond.methodLink RJ2 161 yJ11_lowSurrogate_5068e ∈ jW := jW_of (List.mem_append_right _ (List.mem_of_getElem? (l := tables_1) (i := 325) (by decide +kernel))) rfl
theorem tw_327 : Cond.code yJ11_lowSurrogate_5068e cJ11_lowSurrogate_5068e 1 (some .char) ∈ jW := jW_of (List.mem_append_right _ (List.mem_of_getElem? (l := tables_1) (i := 327) (by decide +kernel))) rfl
theorem tw_326 : Cond.static yJ11_lowSurrogate_5068e ∈ jW := jW_of (List.mem_append_right _ (List.mem_of_getElem? (l := tables_1) (i := 326) (by decide +kernel))) rfl
theorem lk_J2_161 : jLs RJ2 161 mJ11_lowSurrogate_5068e 1 := ⟨⟨tw_325, tw_12, tw_327, by decide +kernel⟩, tw_326⟩
theorem tw_318 : Cond.methodLink RJ2 164 yJ11_isValidCodePoint_9a6ad ∈ jW := jW_of (List.mem_append_right _ (List.mem_of_getElem? (l := tables_1) (i := 318) (by decide +kernel))) rfl
theorem tw_320 : Cond.code yJ11_isValidCodePoint_9a6ad cJ11_isValidCodePoint_9a6ad 2 (some .boolean) ∈ jW := jW_of (List.mem_append_right _ (List.mem_of_getElem? (l := tables_1) (i := 320) (by decide +kernel))) rfl
theorem tw_319 : Cond.static yJ11_isValidCodePoint_9a6ad ∈ jW := jW_of (List.mem_append_right _ (List.mem_of_getElem? (l := tables_1) (i := 319) (by decide +kernel))) rfl
theorem lk_J2_164 : jLs RJ2 164 mJ11_isValidCodePoint_9a6ad 1 := ⟨⟨tw_318, tw_12, tw_320, by decide +kernel⟩, tw_319⟩
theorem tw_284 : Cond.methodLink RJ2 183 yJ9_min_7cf53 ∈ jW := jW_of (List.mem_append_right _ (List.mem_of_getElem? (l := tables_1) (i := 284) (by decide +kernel))) rfl
theorem lk_J2_183 : jLs RJ2 183 mJ9_min_7cf53 2 := ⟨⟨tw_284, tw_9, tw_276, by decide +kernel⟩, tw_275⟩
theorem tw_283 : Cond.methodLink RJ2 224 yJ9_max_7cf53 ∈ jW := jW_of (List.mem_append_right _ (List.mem_of_getElem? (l := tables_1) (i := 283) (by decide +kernel))) rfl
theorem lk_J2_224 : jLs RJ2 224 mJ9_max_7cf53 2 := ⟨⟨tw_283, tw_9, tw_273, by decide +kernel⟩, tw_272⟩
theorem tw_286 : Cond.methodLink RJ2 228 yJ2_indexOfChar_4cfef ∈ jW := jW_of (List.mem_append_right _ (List.mem_of_getElem? (l := tables_1) (i := 286) (by decide +kernel))) rfl
theorem tw_288 : Cond.code yJ2_indexOfChar_4cfef cJ2_indexOfChar_4cfef 4 (some .int) ∈ jW := jW_of (List.mem_append_right _ (List.mem_of_getElem? (l := tables_1) (i := 288) (by decide +kernel))) rfl
theorem tw_287 : Cond.static yJ2_indexOfChar_4cfef ∈ jW := jW_of (List.mem_append_right _ (List.mem_of_getElem? (l := tables_1) (i := 287) (by decide +kernel))) rfl
theorem lk_J2_228 : jLs RJ2 228 mJ2_indexOfChar_4cfef 4 := ⟨⟨tw_286, tw_10, tw_288, by decide +kernel⟩, tw_287⟩
theorem tw_315 : Cond.methodLink RJ2 232 yJ2_indexOfSupplementary_4cfef ∈ jW := jW_of (List.mem_append_right _ (List.mem_of_getElem? (l := tables_1) (i := 315) (by decide +kernel))) rfl
theorem tw_317 : Cond.code yJ2_indexOfSupplementary_4cfef cJ2_indexOfSupplementary_4cfef 7 (some .int) ∈ jW := jW_of (List.mem_append_right _ (List.mem_of_getElem? (l := tables_1) (i := 317) (by decide +kernel))) rfl
theorem tw_316 : Cond.static yJ2_indexOfSupplementary_4cfef ∈ jW := jW_of (List.mem_append_right _ (List.mem_of_getElem? (l := tables_1) (i := 316) (by decide +kernel))) rfl
theorem lk_J2_232 : jLs RJ2 232 mJ2_indexOfSupplementary_4cfef 4 := ⟨⟨tw_315, tw_10, tw_317, by decide +kernel⟩, tw_316⟩
theorem tw_295 : Cond.methodLink RJ2 241 yJ0_checkBoundsBeginEnd_23922 ∈ jW := jW_of (List.mem_append_right _ (List.mem_of_getElem? (l := tables_1) (i := 295) (by decide +kernel))) rfl
theorem tw_297 : Cond.code yJ0_checkBoundsBeginEnd_23922 cJ0_checkBoundsBeginEnd_23922 3 none ∈ jW := jW_of (List.mem_append_right _ (List.mem_of_getElem? (l := tables_1) (i := 297) (by decide +kernel))) rfl
theorem tw_296 : Cond.static yJ0_checkBoundsBeginEnd_23922 ∈ jW := jW_of (List.mem_append_right _ (List.mem_of_getElem? (l := tables_1) (i := 296) (by decide +kernel))) rfl
theorem lk_J2_241 : jLs RJ2 241 mJ0_checkBoundsBeginEnd_23922 3 := ⟨⟨tw_295, tw_7, tw_297, by decide +kernel⟩, tw_296⟩
theorem tw_303 : Cond.methodLink RJ2 244 yJ2_indexOfCharUnsafe_4cfef ∈ jW := jW_of (List.mem_append_right _ (List.mem_of_getElem? (l := tables_1) (i := 303) (by decide +kernel))) rfl
theorem tw_305 : Cond.code yJ2_indexOfCharUnsafe_4cfef cJ2_indexOfCharUnsafe_4cfef 5 (some .int) ∈ jW := jW_of (List.mem_append_right _ (List.mem_of_getElem? (l := tables_1) (i := 305) (by decide +kernel))) rfl
theorem tw_304 : Cond.static yJ2_indexOfCharUnsafe_4cfef ∈ jW := jW_of (List.mem_append_right _ (List.mem_of_getElem? (l := tables_1) (i := 304) (by decide +kernel))) rfl
theorem lk_J2_244 : jLs RJ2 244 mJ2_indexOfCharUnsafe_4cfef 4 := ⟨⟨tw_303, tw_10, tw_305, by decide +kernel⟩, tw_304⟩
theorem kc_X4_199 : Cond.constantLong RX4 199 (jL (-9223372036854775806)) ∈ jW := jW_of (List.mem_append_right _ (List.mem_of_getElem? (l := tables_1) (i := 554) (by decide +kernel))) rfl
theorem kc_X4_213 : Cond.constant RX4 213 (jI (1103515245)) ∈ jW := jW_of (List.mem_append_right _ (List.mem_of_getElem? (l := tables_1) (i := 580) (by decide +kernel))) rfl
theorem kc_X4_234 : Cond.constant RX4 234 (jI (-2147483648)) ∈ jW := jW_of (List.mem_append_right _ (List.mem_of_getElem? (l := tables_1) (i := 617) (by decide +kernel))) rfl
theorem kc_X4_253 : Cond.constantLong RX4 253 (jL (17)) ∈ jW := jW_of (List.mem_append_right _ (List.mem_of_getElem? (l := tables_1) (i := 643) (by decide +kernel))) rfl
theorem kc_X4_255 : Cond.constantLong RX4 255 (jL (31)) ∈ jW := jW_of (List.mem_append_right _ (List.mem_of_getElem? (l := tables_1) (i := 644) (by decide +kernel))) rfl
theorem kc_X5_73 : Cond.constantLong RX5 73 (jL (-9223372036854775808)) ∈ jW := jW_of (List.mem_append_right _ (List.mem_of_getElem? (l := tables_1) (i := 1071) (by decide +kernel))) rfl
theorem kc_X5_83 : Cond.constantLong RX5 83 (jL (3)) ∈ jW := jW_of (List.mem_append_right _ (List.mem_of_getElem? (l := tables_1) (i := 771) (by decide +kernel))) rfl
theorem kc_X5_89 : Cond.constantLong RX5 89 (jL (2)) ∈ jW := jW_of (List.mem_append_right _ (List.mem_of_getElem? (l := tables_1) (i := 775) (by decide +kernel))) rfl
theorem kc_X5_103 : Cond.constant RX5 103 (jI (-2147483648)) ∈ jW := jW_of (List.mem_append_right _ (List.mem_of_getElem? (l := tables_1) (i := 799) (by decide +kernel))) rfl
theorem kc_X5_104 : Cond.constantLong RX5 104 (jL (255)) ∈ jW := jW_of (List.mem_append_right _ (List.mem_of_getElem? (l := tables_1) (i := 808) (by decide +kernel))) rfl
theorem kc_X5_118 : Cond.constantLong RX5 118 (jL (49)) ∈ jW := jW_of (List.mem_append_right _ (List.mem_of_getElem? (l := tables_1) (i := 832) (by decide +kernel))) rfl
theorem kc_X5_120 : Cond.constantLong RX5 120 (jL (57)) ∈ jW := jW_of (List.mem_append_right _ (List.mem_of_getElem? (l := tables_1) (i := 833) (by decide +kernel))) rfl
theorem kc_X5_130 : Cond.constantLong RX5 130 (jL (8)) ∈ jW := jW_of (List.mem_append_right _ (List.mem_of_getElem? (l := tables_1) (i := 849) (by decide +kernel))) rfl
theorem kc_X5_132 : Cond.constantLong RX5 132 (jL (59)) ∈ jW := jW_of (List.mem_append_right _ (List.mem_of_getElem? (l := tables_1) (i := 866) (by decide +kernel))) rfl
theorem kc_X5_140 : Cond.constantLong RX5 140 (jL (511)) ∈ jW := jW_of (List.mem_append_right _ (List.mem_of_getElem? (l := tables_1) (i := 858) (by decide +kernel))) rfl
theorem kc_X5_229 : Cond.constantLong RX5 229 (jL (-1)) ∈ jW := jW_of (List.mem_append_right _ (List.mem_of_getElem? (l := tables_1) (i := 990) (by decide +kernel))) rfl
theorem kc_X5_234 : Cond.constantLong RX5 234 (jL (9)) ∈ jW := jW_of (List.mem_append_right _ (List.mem_of_getElem? (l := tables_1) (i := 1011) (by decide +kernel))) rfl
theorem kc_X5_251 : Cond.constantLong RX5 251 (jL (36)) ∈ jW := jW_of (List.mem_append_right _ (List.mem_of_getElem? (l := tables_1) (i := 1020) (by decide +kernel))) rfl
theorem kc_X5_262 : Cond.constantLong RX5 262 (jL (16)) ∈ jW := jW_of (List.mem_append_right _ (List.mem_of_getElem? (l := tables_1) (i := 1060) (by decide +kernel))) rfl
theorem kc_X5_276 : Cond.constant RX5 276 (jI (1103515245)) ∈ jW := jW_of (List.mem_append_right _ (List.mem_of_getElem? (l := tables_1) (i := 1080) (by decide +kernel))) rfl
theorem kc_X5_280 : Cond.constantLong RX5 280 (jL (31)) ∈ jW := jW_of (List.mem_append_right _ (List.mem_of_getElem? (l := tables_1) (i := 1094) (by decide +kernel))) rfl
theorem kc_X5_282 : Cond.constantLong RX5 282 (jL (17)) ∈ jW := jW_of (List.mem_append_right _ (List.mem_of_getElem? (l := tables_1) (i := 1093) (by decide +kernel))) rfl
theorem kc_J11_76 : Cond.constant RJ11 76 (jI (56320)) ∈ jW := jW_of (List.mem_append_right _ (List.mem_of_getElem? (l := tables_1) (i := 328) (by decide +kernel))) rfl
theorem kc_J11_110 : Cond.constant RJ11 110 (jI (55232)) ∈ jW := jW_of (List.mem_append_right _ (List.mem_of_getElem? (l := tables_1) (i := 324) (by decide +kernel))) rfl
theorem kc_J6_265 : Cond.constant RJ6 265 (jI (1431655765)) ∈ jW := jW_of (List.mem_append_right _ (List.mem_of_getElem? (l := tables_1) (i := 439) (by decide +kernel))) rfl
theorem kc_J6_266 : Cond.constant RJ6 266 (jI (858993459)) ∈ jW := jW_of (List.mem_append_right _ (List.mem_of_getElem? (l := tables_1) (i := 440) (by decide +kernel))) rfl
theorem kc_J6_267 : Cond.constant RJ6 267 (jI (252645135)) ∈ jW := jW_of (List.mem_append_right _ (List.mem_of_getElem? (l := tables_1) (i := 441) (by decide +kernel))) rfl
theorem kc_J2_227 : Cond.constant RJ2 227 (jI (65536)) ∈ jW := jW_of (List.mem_append_right _ (List.mem_of_getElem? (l := tables_1) (i := 285) (by decide +kernel))) rfl
theorem st_1_0 {a0 : Option Value} {v : Value} : jSt [a0] 0 v = [some v] := rfl
theorem st_2_1 {a0 a1 : Option Value} {v : Value} : jSt [a0, a1] 1 v = [a0, some v] := rfl
theorem st_3_1 {a0 a1 a2 : Option Value} {v : Value} : jSt [a0, a1, a2] 1 v = [a0, some v, a2] := rfl
theorem st_3_2 {a0 a1 a2 : Option Value} {v : Value} : jSt [a0, a1, a2] 2 v = [a0, a1, some v] := rfl
theorem st_4_1 {a0 a1 a2 a3 : Option Value} {v : Value} : jSt [a0, a1, a2, a3] 1 v = [a0, some v, a2, a3] := rfl
theorem st_4_2 {a0 a1 a2 a3 : Option Value} {v : Value} : jSt [a0, a1, a2, a3] 2 v = [a0, a1, some v, a3] := rfl
theorem st_4_3 {a0 a1 a2 a3 : Option Value} {v : Value} : jSt [a0, a1, a2, a3] 3 v = [a0, a1, a2, some v] := rfl
theorem st_5_1 {a0 a1 a2 a3 a4 : Option Value} {v : Value} : jSt [a0, a1, a2, a3, a4] 1 v = [a0, some v, a2, a3, a4] := rfl
theorem st_5_2 {a0 a1 a2 a3 a4 : Option Value} {v : Value} : jSt [a0, a1, a2, a3, a4] 2 v = [a0, a1, some v, a3, a4] := rfl
theorem st_5_3 {a0 a1 a2 a3 a4 : Option Value} {v : Value} : jSt [a0, a1, a2, a3, a4] 3 v = [a0, a1, a2, some v, a4] := rfl
theorem st_5_4 {a0 a1 a2 a3 a4 : Option Value} {v : Value} : jSt [a0, a1, a2, a3, a4] 4 v = [a0, a1, a2, a3, some v] := rfl
theorem st_6_2 {a0 a1 a2 a3 a4 a5 : Option Value} {v : Value} : jSt [a0, a1, a2, a3, a4, a5] 2 v = [a0, a1, some v, a3, a4, a5] := rfl
theorem st_6_3 {a0 a1 a2 a3 a4 a5 : Option Value} {v : Value} : jSt [a0, a1, a2, a3, a4, a5] 3 v = [a0, a1, a2, some v, a4, a5] := rfl
theorem st_6_4 {a0 a1 a2 a3 a4 a5 : Option Value} {v : Value} : jSt [a0, a1, a2, a3, a4, a5] 4 v = [a0, a1, a2, a3, some v, a5] := rfl
theorem st_6_5 {a0 a1 a2 a3 a4 a5 : Option Value} {v : Value} : jSt [a0, a1, a2, a3, a4, a5] 5 v = [a0, a1, a2, a3, a4, some v] := rfl
theorem st_7_3 {a0 a1 a2 a3 a4 a5 a6 : Option Value} {v : Value} : jSt [a0, a1, a2, a3, a4, a5, a6] 3 v = [a0, a1, a2, some v, a4, a5, a6] := rfl
theorem st_7_4 {a0 a1 a2 a3 a4 a5 a6 : Option Value} {v : Value} : jSt [a0, a1, a2, a3, a4, a5, a6] 4 v = [a0, a1, a2, a3, some v, a5, a6] := rfl
theorem st_7_5 {a0 a1 a2 a3 a4 a5 a6 : Option Value} {v : Value} : jSt [a0, a1, a2, a3, a4, a5, a6] 5 v = [a0, a1, a2, a3, a4, some v, a6] := rfl
theorem st_7_6 {a0 a1 a2 a3 a4 a5 a6 : Option Value} {v : Value} : jSt [a0, a1, a2, a3, a4, a5, a6] 6 v = [a0, a1, a2, a3, a4, a5, some v] := rfl
theorem st_8_2 {a0 a1 a2 a3 a4 a5 a6 a7 : Option Value} {v : Value} : jSt [a0, a1, a2, a3, a4, a5, a6, a7] 2 v = [a0, a1, some v, a3, a4, a5, a6, a7] := rfl
theorem st_8_3 {a0 a1 a2 a3 a4 a5 a6 a7 : Option Value} {v : Value} : jSt [a0, a1, a2, a3, a4, a5, a6, a7] 3 v = [a0, a1, a2, some v, a4, a5, a6, a7] := rfl
theorem st_8_4 {a0 a1 a2 a3 a4 a5 a6 a7 : Option Value} {v : Value} : jSt [a0, a1, a2, a3, a4, a5, a6, a7] 4 v = [a0, a1, a2, a3, some v, a5, a6, a7] := rfl
theorem st_8_5 {a0 a1 a2 a3 a4 a5 a6 a7 : Option Value} {v : Value} : jSt [a0, a1, a2, a3, a4, a5, a6, a7] 5 v = [a0, a1, a2, a3, a4, some v, a6, a7] := rfl
theorem st_8_6 {a0 a1 a2 a3 a4 a5 a6 a7 : Option Value} {v : Value} : jSt [a0, a1, a2, a3, a4, a5, a6, a7] 6 v = [a0, a1, a2, a3, a4, a5, some v, a7] := rfl
theorem st_8_7 {a0 a1 a2 a3 a4 a5 a6 a7 : Option Value} {v : Value} : jSt [a0, a1, a2, a3, a4, a5, a6, a7] 7 v = [a0, a1, a2, a3, a4, a5, a6, some v] := rfl
theorem st_9_5 {a0 a1 a2 a3 a4 a5 a6 a7 a8 : Option Value} {v : Value} : jSt [a0, a1, a2, a3, a4, a5, a6, a7, a8] 5 v = [a0, a1, a2, a3, a4, some v, a6, a7, a8] := rfl
theorem st_9_6 {a0 a1 a2 a3 a4 a5 a6 a7 a8 : Option Value} {v : Value} : jSt [a0, a1, a2, a3, a4, a5, a6, a7, a8] 6 v = [a0, a1, a2, a3, a4, a5, some v, a7, a8] := rfl
theorem st_9_7 {a0 a1 a2 a3 a4 a5 a6 a7 a8 : Option Value} {v : Value} : jSt [a0, a1, a2, a3, a4, a5, a6, a7, a8] 7 v = [a0, a1, a2, a3, a4, a5, a6, some v, a8] := rfl
theorem st_9_8 {a0 a1 a2 a3 a4 a5 a6 a7 a8 : Option Value} {v : Value} : jSt [a0, a1, a2, a3, a4, a5, a6, a7, a8] 8 v = [a0, a1, a2, a3, a4, a5, a6, a7, some v] := rfl
theorem st_10_3 {a0 a1 a2 a3 a4 a5 a6 a7 a8 a9 : Option Value} {v : Value} : jSt [a0, a1, a2, a3, a4, a5, a6, a7, a8, a9] 3 v = [a0, a1, a2, some v, a4, a5, a6, a7, a8, a9] := rfl
theorem st_10_4 {a0 a1 a2 a3 a4 a5 a6 a7 a8 a9 : Option Value} {v : Value} : jSt [a0, a1, a2, a3, a4, a5, a6, a7, a8, a9] 4 v = [a0, a1, a2, a3, some v, a5, a6, a7, a8, a9] := rfl
theorem st_10_5 {a0 a1 a2 a3 a4 a5 a6 a7 a8 a9 : Option Value} {v : Value} : jSt [a0, a1, a2, a3, a4, a5, a6, a7, a8, a9] 5 v = [a0, a1, a2, a3, a4, some v, a6, a7, a8, a9] := rfl
theorem st_10_6 {a0 a1 a2 a3 a4 a5 a6 a7 a8 a9 : Option Value} {v : Value} : jSt [a0, a1, a2, a3, a4, a5, a6, a7, a8, a9] 6 v = [a0, a1, a2, a3, a4, a5, some v, a7, a8, a9] := rfl
theorem st_10_7 {a0 a1 a2 a3 a4 a5 a6 a7 a8 a9 : Option Value} {v : Value} : jSt [a0, a1, a2, a3, a4, a5, a6, a7, a8, a9] 7 v = [a0, a1, a2, a3, a4, a5, a6, some v, a8, a9] := rfl
theorem st_10_8 {a0 a1 a2 a3 a4 a5 a6 a7 a8 a9 : Option Value} {v : Value} : jSt [a0, a1, a2, a3, a4, a5, a6, a7, a8, a9] 8 v = [a0, a1, a2, a3, a4, a5, a6, a7, some v, a9] := rfl
theorem st_10_9 {a0 a1 a2 a3 a4 a5 a6 a7 a8 a9 : Option Value} {v : Value} : jSt [a0, a1, a2, a3, a4, a5, a6, a7, a8, a9] 9 v = [a0, a1, a2, a3, a4, a5, a6, a7, a8, some v] := rfl
theorem st_11_8 {a0 a1 a2 a3 a4 a5 a6 a7 a8 a9 a10 : Option Value} {v : Value} : jSt [a0, a1, a2, a3, a4, a5, a6, a7, a8, a9, a10] 8 v = [a0, a1, a2, a3, a4, a5, a6, a7, some v, a9, a10] := rfl
theorem st_14_9 {a0 a1 a2 a3 a4 a5 a6 a7 a8 a9 a10 a11 a12 a13 : Option Value} {v : Value} : jSt [a0, a1, a2, a3, a4, a5, a6, a7, a8, a9, a10, a11, a12, a13] 9 v = [a0, a1, a2, a3, a4, a5, a6, a7, a8, some v, a10, a11, a12, a13] := rfl
theorem st_14_12 {a0 a1 a2 a3 a4 a5 a6 a7 a8 a9 a10 a11 a12 a13 : Option Value} {v : Value} : jSt [a0, a1, a2, a3, a4, a5, a6, a7, a8, a9, a10, a11, a12, a13] 12 v = [a0, a1, a2, a3, a4, a5, a6, a7, a8, a9, a10, a11, some v, a13] := rfl
theorem st_14_13 {a0 a1 a2 a3 a4 a5 a6 a7 a8 a9 a10 a11 a12 a13 : Option Value} {v : Value} : jSt [a0, a1, a2, a3, a4, a5, a6, a7, a8, a9, a10, a11, a12, a13] 13 v = [a0, a1, a2, a3, a4, a5, a6, a7, a8, a9, a10, a11, a12, some v] := rfl
theorem su_5_1 {a0 a1 a2 a3 a4 : Option Value} {v : Value} : jSt2 [a0, a1, a2, a3, a4] 1 v = [a0, some v, none, a3, a4] := rfl
theorem su_6_3 {a0 a1 a2 a3 a4 a5 : Option Value} {v : Value} : jSt2 [a0, a1, a2, a3, a4, a5] 3 v = [a0, a1, a2, some v, none, a5] := rfl
theorem su_7_1 {a0 a1 a2 a3 a4 a5 a6 : Option Value} {v : Value} : jSt2 [a0, a1, a2, a3, a4, a5, a6] 1 v = [a0, some v, none, a3, a4, a5, a6] := rfl
theorem su_7_4 {a0 a1 a2 a3 a4 a5 a6 : Option Value} {v : Value} : jSt2 [a0, a1, a2, a3, a4, a5, a6] 4 v = [a0, a1, a2, a3, some v, none, a6] := rfl
theorem su_10_4 {a0 a1 a2 a3 a4 a5 a6 a7 a8 a9 : Option Value} {v : Value} : jSt2 [a0, a1, a2, a3, a4, a5, a6, a7, a8, a9] 4 v = [a0, a1, a2, a3, some v, none, a6, a7, a8, a9] := rfl
theorem su_10_8 {a0 a1 a2 a3 a4 a5 a6 a7 a8 a9 : Option Value} {v : Value} : jSt2 [a0, a1, a2, a3, a4, a5, a6, a7, a8, a9] 8 v = [a0, a1, a2, a3, a4, a5, a6, a7, some v, none] := rfl
theorem su_11_4 {a0 a1 a2 a3 a4 a5 a6 a7 a8 a9 a10 : Option Value} {v : Value} : jSt2 [a0, a1, a2, a3, a4, a5, a6, a7, a8, a9, a10] 4 v = [a0, a1, a2, a3, some v, none, a6, a7, a8, a9, a10] := rfl
theorem su_11_5 {a0 a1 a2 a3 a4 a5 a6 a7 a8 a9 a10 : Option Value} {v : Value} : jSt2 [a0, a1, a2, a3, a4, a5, a6, a7, a8, a9, a10] 5 v = [a0, a1, a2, a3, a4, some v, none, a7, a8, a9, a10] := rfl
theorem su_11_6 {a0 a1 a2 a3 a4 a5 a6 a7 a8 a9 a10 : Option Value} {v : Value} : jSt2 [a0, a1, a2, a3, a4, a5, a6, a7, a8, a9, a10] 6 v = [a0, a1, a2, a3, a4, a5, some v, none, a8, a9, a10] := rfl
theorem su_11_7 {a0 a1 a2 a3 a4 a5 a6 a7 a8 a9 a10 : Option Value} {v : Value} : jSt2 [a0, a1, a2, a3, a4, a5, a6, a7, a8, a9, a10] 7 v = [a0, a1, a2, a3, a4, a5, a6, some v, none, a9, a10] := rfl
theorem su_11_9 {a0 a1 a2 a3 a4 a5 a6 a7 a8 a9 a10 : Option Value} {v : Value} : jSt2 [a0, a1, a2, a3, a4, a5, a6, a7, a8, a9, a10] 9 v = [a0, a1, a2, a3, a4, a5, a6, a7, a8, some v, none] := rfl
theorem su_14_5 {a0 a1 a2 a3 a4 a5 a6 a7 a8 a9 a10 a11 a12 a13 : Option Value} {v : Value} : jSt2 [a0, a1, a2, a3, a4, a5, a6, a7, a8, a9, a10, a11, a12, a13] 5 v = [a0, a1, a2, a3, a4, some v, none, a7, a8, a9, a10, a11, a12, a13] := rfl
theorem su_14_7 {a0 a1 a2 a3 a4 a5 a6 a7 a8 a9 a10 a11 a12 a13 : Option Value} {v : Value} : jSt2 [a0, a1, a2, a3, a4, a5, a6, a7, a8, a9, a10, a11, a12, a13] 7 v = [a0, a1, a2, a3, a4, a5, a6, some v, none, a9, a10, a11, a12, a13] := rfl
theorem su_14_10 {a0 a1 a2 a3 a4 a5 a6 a7 a8 a9 a10 a11 a12 a13 : Option Value} {v : Value} : jSt2 [a0, a1, a2, a3, a4, a5, a6, a7, a8, a9, a10, a11, a12, a13] 10 v = [a0, a1, a2, a3, a4, a5, a6, a7, a8, a9, some v, none, a12, a13] := rfl
theorem en_a_1 {E : jE} {x0 : Nat} : jEnt [jRF E x0] 1 = [some (jRF E x0)] := rfl
theorem en_a_2 {E : jE} {x0 : Nat} : jEnt [jRF E x0] 2 = [some (jRF E x0), none] := rfl
theorem en_a_3 {E : jE} {x0 : Nat} : jEnt [jRF E x0] 3 = [some (jRF E x0), none, none] := rfl
theorem en_a_4 {E : jE} {x0 : Nat} : jEnt [jRF E x0] 4 = [some (jRF E x0), none, none, none] := rfl
theorem en_a_5 {E : jE} {x0 : Nat} : jEnt [jRF E x0] 5 = [some (jRF E x0), none, none, none, none] := rfl
theorem en_a_7 {E : jE} {x0 : Nat} : jEnt [jRF E x0] 7 = [some (jRF E x0), none, none, none, none, none, none] := rfl
theorem en_aa_3 {E : jE} {x0 : Nat} {x1 : Nat} : jEnt [jRF E x0, jRF E x1] 3 = [some (jRF E x0), some (jRF E x1), none] := rfl
theorem en_aaaia_6 {E : jE} {x0 : Nat} {x1 : Nat} {x2 : Nat} {x3 : Int32} {x4 : Nat} : jEnt [jRF E x0, jRF E x1, jRF E x2, .int x3, jRF E x4] 6 = [some (jRF E x0), some (jRF E x1), some (jRF E x2), some (.int x3), some (jRF E x4), none] := rfl
theorem en_ai_2 {E : jE} {x0 : Nat} {x1 : Int32} : jEnt [jRF E x0, .int x1] 2 = [some (jRF E x0), some (.int x1)] := rfl
theorem en_ai_3 {E : jE} {x0 : Nat} {x1 : Int32} : jEnt [jRF E x0, .int x1] 3 = [some (jRF E x0), some (.int x1), none] := rfl
theorem en_ai_4 {E : jE} {x0 : Nat} {x1 : Int32} : jEnt [jRF E x0, .int x1] 4 = [some (jRF E x0), some (.int x1), none, none] := rfl
theorem en_ai_5 {E : jE} {x0 : Nat} {x1 : Int32} : jEnt [jRF E x0, .int x1] 5 = [some (jRF E x0), some (.int x1), none, none, none] := rfl
theorem en_ai_6 {E : jE} {x0 : Nat} {x1 : Int32} : jEnt [jRF E x0, .int x1] 6 = [some (jRF E x0), some (.int x1), none, none, none, none] := rfl
theorem en_ai_8 {E : jE} {x0 : Nat} {x1 : Int32} : jEnt [jRF E x0, .int x1] 8 = [some (jRF E x0), some (.int x1), none, none, none, none, none, none] := rfl
theorem en_aii_3 {E : jE} {x0 : Nat} {x1 : Int32} {x2 : Int32} : jEnt [jRF E x0, .int x1, .int x2] 3 = [some (jRF E x0), some (.int x1), some (.int x2)] := rfl
theorem en_aii_4 {E : jE} {x0 : Nat} {x1 : Int32} {x2 : Int32} : jEnt [jRF E x0, .int x1, .int x2] 4 = [some (jRF E x0), some (.int x1), some (.int x2), none] := rfl
theorem en_aii_5 {E : jE} {x0 : Nat} {x1 : Int32} {x2 : Int32} : jEnt [jRF E x0, .int x1, .int x2] 5 = [some (jRF E x0), some (.int x1), some (.int x2), none, none] := rfl
theorem en_aii_6 {E : jE} {x0 : Nat} {x1 : Int32} {x2 : Int32} : jEnt [jRF E x0, .int x1, .int x2] 6 = [some (jRF E x0), some (.int x1), some (.int x2), none, none, none] := rfl
theorem en_aii_7 {E : jE} {x0 : Nat} {x1 : Int32} {x2 : Int32} : jEnt [jRF E x0, .int x1, .int x2] 7 = [some (jRF E x0), some (.int x1), some (.int x2), none, none, none, none] := rfl
theorem en_aii_8 {E : jE} {x0 : Nat} {x1 : Int32} {x2 : Int32} : jEnt [jRF E x0, .int x1, .int x2] 8 = [some (jRF E x0), some (.int x1), some (.int x2), none, none, none, none, none] := rfl
theorem en_aii_10 {E : jE} {x0 : Nat} {x1 : Int32} {x2 : Int32} : jEnt [jRF E x0, .int x1, .int x2] 10 = [some (jRF E x0), some (.int x1), some (.int x2), none, none, none, none, none, none, none] := rfl
theorem en_aiii_4 {E : jE} {x0 : Nat} {x1 : Int32} {x2 : Int32} {x3 : Int32} : jEnt [jRF E x0, .int x1, .int x2, .int x3] 4 = [some (jRF E x0), some (.int x1), some (.int x2), some (.int x3)] := rfl
theorem en_aiii_5 {E : jE} {x0 : Nat} {x1 : Int32} {x2 : Int32} {x3 : Int32} : jEnt [jRF E x0, .int x1, .int x2, .int x3] 5 = [some (jRF E x0), some (.int x1), some (.int x2), some (.int x3), none] := rfl
theorem en_aiii_6 {E : jE} {x0 : Nat} {x1 : Int32} {x2 : Int32} {x3 : Int32} : jEnt [jRF E x0, .int x1, .int x2, .int x3] 6 = [some (jRF E x0), some (.int x1), some (.int x2), some (.int x3), none, none] := rfl
theorem en_aiii_7 {E : jE} {x0 : Nat} {x1 : Int32} {x2 : Int32} {x3 : Int32} : jEnt [jRF E x0, .int x1, .int x2, .int x3] 7 = [some (jRF E x0), some (.int x1), some (.int x2), some (.int x3), none, none, none] := rfl
theorem en_aiii_10 {E : jE} {x0 : Nat} {x1 : Int32} {x2 : Int32} {x3 : Int32} : jEnt [jRF E x0, .int x1, .int x2, .int x3] 10 = [some (jRF E x0), some (.int x1), some (.int x2), some (.int x3), none, none, none, none, none, none] := rfl
theorem en_aiiii_5 {E : jE} {x0 : Nat} {x1 : Int32} {x2 : Int32} {x3 : Int32} {x4 : Int32} : jEnt [jRF E x0, .int x1, .int x2, .int x3, .int x4] 5 = [some (jRF E x0), some (.int x1), some (.int x2), some (.int x3), some (.int x4)] := rfl
theorem en_aiiii_6 {E : jE} {x0 : Nat} {x1 : Int32} {x2 : Int32} {x3 : Int32} {x4 : Int32} : jEnt [jRF E x0, .int x1, .int x2, .int x3, .int x4] 6 = [some (jRF E x0), some (.int x1), some (.int x2), some (.int x3), some (.int x4), none] := rfl
theorem en_aiiii_9 {E : jE} {x0 : Nat} {x1 : Int32} {x2 : Int32} {x3 : Int32} {x4 : Int32} : jEnt [jRF E x0, .int x1, .int x2, .int x3, .int x4] 9 = [some (jRF E x0), some (.int x1), some (.int x2), some (.int x3), some (.int x4), none, none, none, none] := rfl
theorem en_aiiii_11 {E : jE} {x0 : Nat} {x1 : Int32} {x2 : Int32} {x3 : Int32} {x4 : Int32} : jEnt [jRF E x0, .int x1, .int x2, .int x3, .int x4] 11 = [some (jRF E x0), some (.int x1), some (.int x2), some (.int x3), some (.int x4), none, none, none, none, none, none] := rfl
theorem en_aiiii_14 {E : jE} {x0 : Nat} {x1 : Int32} {x2 : Int32} {x3 : Int32} {x4 : Int32} : jEnt [jRF E x0, .int x1, .int x2, .int x3, .int x4] 14 = [some (jRF E x0), some (.int x1), some (.int x2), some (.int x3), some (.int x4), none, none, none, none, none, none, none, none, none] := rfl
theorem en_aiiiii_7 {E : jE} {x0 : Nat} {x1 : Int32} {x2 : Int32} {x3 : Int32} {x4 : Int32} {x5 : Int32} : jEnt [jRF E x0, .int x1, .int x2, .int x3, .int x4, .int x5] 7 = [some (jRF E x0), some (.int x1), some (.int x2), some (.int x3), some (.int x4), some (.int x5), none] := rfl
theorem en_aiiiii_8 {E : jE} {x0 : Nat} {x1 : Int32} {x2 : Int32} {x3 : Int32} {x4 : Int32} {x5 : Int32} : jEnt [jRF E x0, .int x1, .int x2, .int x3, .int x4, .int x5] 8 = [some (jRF E x0), some (.int x1), some (.int x2), some (.int x3), some (.int x4), some (.int x5), none, none] := rfl
theorem en_ali_7 {E : jE} {x0 : Nat} {x1 : Int64} {x2 : Int32} : jEnt [jRF E x0, .long x1, .int x2] 7 = [some (jRF E x0), some (.long x1), none, some (.int x2), none, none, none] := rfl
theorem en_i_1 {E : jE} {x0 : Int32} : jEnt [.int x0] 1 = [some (.int x0)] := rfl
theorem en_i_2 {E : jE} {x0 : Int32} : jEnt [.int x0] 2 = [some (.int x0), none] := rfl
theorem en_i_3 {E : jE} {x0 : Int32} : jEnt [.int x0] 3 = [some (.int x0), none, none] := rfl
theorem en_ii_2 {E : jE} {x0 : Int32} {x1 : Int32} : jEnt [.int x0, .int x1] 2 = [some (.int x0), some (.int x1)] := rfl
theorem en_ii_3 {E : jE} {x0 : Int32} {x1 : Int32} : jEnt [.int x0, .int x1] 3 = [some (.int x0), some (.int x1), none] := rfl
theorem en_iia_3 {E : jE} {x0 : Int32} {x1 : Int32} {x2 : Nat} : jEnt [.int x0, .int x1, jRF E x2] 3 = [some (.int x0), some (.int x1), some (jRF E x2)] := rfl
theorem en_iii_3 {E : jE} {x0 : Int32} {x1 : Int32} {x2 : Int32} : jEnt [.int x0, .int x1, .int x2] 3 = [some (.int x0), some (.int x1), some (.int x2)] := rfl
theorem en_iii_6 {E : jE} {x0 : Int32} {x1 : Int32} {x2 : Int32} : jEnt [.int x0, .int x1, .int x2] 6 = [some (.int x0), some (.int x1), some (.int x2), none, none, none] := rfl
theorem en_iiia_4 {E : jE} {x0 : Int32} {x1 : Int32} {x2 : Int32} {x3 : Nat} : jEnt [.int x0, .int x1, .int x2, jRF E x3] 4 = [some (.int x0), some (.int x1), some (.int x2), some (jRF E x3)] := rfl
theorem en_ll_11 {E : jE} {x0 : Int64} {x1 : Int64} : jEnt [.long x0, .long x1] 11 = [some (.long x0), none, some (.long x1), none, none, none, none, none, none, none, none] := rfl
theorem en_lli_11 {E : jE} {x0 : Int64} {x1 : Int64} {x2 : Int32} : jEnt [.long x0, .long x1, .int x2] 11 = [some (.long x0), none, some (.long x1), none, some (.int x2), none, none, none, none, none, none] := rfl
theorem en_lll_6 {E : jE} {x0 : Int64} {x1 : Int64} {x2 : Int64} : jEnt [.long x0, .long x1, .long x2] 6 = [some (.long x0), none, some (.long x1), none, some (.long x2), none] := rfl
theorem jOk.ofe {E : jE} {me : jM} {vs : List Value} {H : jH} {Q : Option Value → jH → Prop} {lv : List (Option Value)} (hy : plainName me.1.cls = true) (hl : (lg_sl vs).length ≤ me.2.2.1) (he : jEnt vs me.2.2.1 = lv) (k : jWP E me Q 0 lv [] H) : jOk E me vs H Q := jOk.of hy hl (he ▸ k)
