/-! what every contract begins with -/
theorem mc_Su_write : mcM m_Su_write = 0 := rfl
theorem ms_Su_write : msM m_Su_write = 0 := rfl
theorem mc_Su_wipe : mcM m_Su_wipe = 0 := rfl
theorem ms_Su_wipe : msM m_Su_wipe = 0 := rfl
theorem mc_Su_fault : mcM m_Su_fault = 0 := rfl
theorem ms_Su_fault : msM m_Su_fault = 0 := rfl
theorem mc_Su_lay : mcM m_Su_lay = 0 := rfl
theorem ms_Su_lay : msM m_Su_lay = 0 := rfl
theorem mc_Su_road : mcM m_Su_road = 0 := rfl
theorem ms_Su_road : msM m_Su_road = 0 := rfl
theorem mc_Su_at : mcM m_Su_at = 0 := rfl
theorem ms_Su_at : msM m_Su_at = 0 := rfl
theorem mc_Su_cross : mcM m_Su_cross = 0 := rfl
theorem ms_Su_cross : msM m_Su_cross = 0 := rfl
theorem mc_Su_mend : mcM m_Su_mend = 0 := rfl
theorem ms_Su_mend : msM m_Su_mend = 0 := rfl
theorem mc_Su_shut : mcM m_Su_shut = 0 := rfl
theorem ms_Su_shut : msM m_Su_shut = 0 := rfl
theorem mc_Su_undo : mcM m_Su_undo = 0 := rfl
theorem ms_Su_undo : msM m_Su_undo = 0 := rfl
theorem mc_Su_journey : mcM m_Su_journey = 0 := rfl
theorem ms_Su_journey : msM m_Su_journey = 0 := rfl
theorem mc_Su_most : mcM m_Su_most = 0 := rfl
theorem ms_Su_most : msM m_Su_most = 0 := rfl
theorem mc_Su_round : mcM m_Su_round = 0 := rfl
theorem ms_Su_round : msM m_Su_round = 0 := rfl
theorem mc_Su_agree : mcM m_Su_agree = 0 := rfl
theorem ms_Su_agree : msM m_Su_agree = 0 := rfl
theorem mc_Su_height : mcM m_Su_height = 0 := rfl
theorem ms_Su_height : msM m_Su_height = 0 := rfl
theorem mc_Su_ring : mcM m_Su_ring = 0 := rfl
theorem ms_Su_ring : msM m_Su_ring = 0 := rfl
theorem mc_Su_fewest : mcM m_Su_fewest = 0 := rfl
theorem ms_Su_fewest : msM m_Su_fewest = 0 := rfl
theorem mc_Su_third : mcM m_Su_third = 0 := rfl
theorem ms_Su_third : msM m_Su_third = 0 := rfl
theorem mc_Su_tell : mcM m_Su_tell = 0 := rfl
theorem ms_Su_tell : msM m_Su_tell = 0 := rfl
theorem mc_Su_forget : mcM m_Su_forget = 0 := rfl
theorem ms_Su_forget : msM m_Su_forget = 0 := rfl
theorem mc_Su_wrong : mcM m_Su_wrong = 0 := rfl
theorem ms_Su_wrong : msM m_Su_wrong = 0 := rfl
theorem mc_Su_walk : mcM m_Su_walk = 0 := rfl
theorem ms_Su_walk : msM m_Su_walk = 0 := rfl
theorem mc_Su_byTurns : mcM m_Su_byTurns = 0 := rfl
theorem ms_Su_byTurns : msM m_Su_byTurns = 0 := rfl
theorem mc_Su_weather : mcM m_Su_weather = 0 := rfl
theorem ms_Su_weather : msM m_Su_weather = 0 := rfl
theorem mc_Su_year : mcM m_Su_year = 0 := rfl
theorem ms_Su_year : msM m_Su_year = 0 := rfl
theorem mc_Su_keep : mcM m_Su_keep = 0 := rfl
theorem ms_Su_keep : msM m_Su_keep = 0 := rfl
theorem mc_Su_back : mcM m_Su_back = 0 := rfl
theorem ms_Su_back : msM m_Su_back = 0 := rfl
theorem mc_Su_count : mcM m_Su_count = 0 := rfl
theorem ms_Su_count : msM m_Su_count = 0 := rfl
theorem mc_Su_layLetters : mcM m_Su_layLetters = 0 := rfl
theorem ms_Su_layLetters : msM m_Su_layLetters = 0 := rfl
theorem mc_Su_isEither : mcM m_Su_isEither = 0 := rfl
theorem ms_Su_isEither : msM m_Su_isEither = 0 := rfl
theorem mc_Su_isFigure : mcM m_Su_isFigure = 0 := rfl
theorem ms_Su_isFigure : msM m_Su_isFigure = 0 := rfl
theorem mc_Su_isSum : mcM m_Su_isSum = 0 := rfl
theorem ms_Su_isSum : msM m_Su_isSum = 0 := rfl
theorem mc_Cl_init : mcM m_Cl_init = 3 := rfl
theorem ms_Cl_init : msM m_Cl_init = 17 := rfl
theorem mc_Cl_findMost : mcM m_Cl_findMost = 0 := rfl
theorem ms_Cl_findMost : msM m_Cl_findMost = 0 := rfl
theorem mc_Cl_findRound : mcM m_Cl_findRound = 0 := rfl
theorem ms_Cl_findRound : msM m_Cl_findRound = 0 := rfl
theorem mc_Cl_gain : mcM m_Cl_gain = 0 := rfl
theorem ms_Cl_gain : msM m_Cl_gain = 0 := rfl
theorem mc_Cl_raise : mcM m_Cl_raise = 0 := rfl
theorem ms_Cl_raise : msM m_Cl_raise = 0 := rfl
theorem mc_Cl_fillRow : mcM m_Cl_fillRow = 0 := rfl
theorem ms_Cl_fillRow : msM m_Cl_fillRow = 0 := rfl
theorem mc_Cl_firstToHighest : mcM m_Cl_firstToHighest = 0 := rfl
theorem ms_Cl_firstToHighest : msM m_Cl_firstToHighest = 0 := rfl
theorem mc_Cl_highestHome : mcM m_Cl_highestHome = 0 := rfl
theorem ms_Cl_highestHome : msM m_Cl_highestHome = 0 := rfl
theorem mc_Cl_bestAtHome : mcM m_Cl_bestAtHome = 0 := rfl
theorem ms_Cl_bestAtHome : msM m_Cl_bestAtHome = 0 := rfl
theorem mc_Cl_begin : mcM m_Cl_begin = 0 := rfl
theorem ms_Cl_begin : msM m_Cl_begin = 0 := rfl
theorem mc_Cl_advance : mcM m_Cl_advance = 0 := rfl
theorem ms_Cl_advance : msM m_Cl_advance = 0 := rfl
theorem mc_Cl_carry : mcM m_Cl_carry = 0 := rfl
theorem ms_Cl_carry : msM m_Cl_carry = 0 := rfl
theorem mc_Co_init : mcM m_Co_init = 7 := rfl
theorem ms_Co_init : msM m_Co_init = 60 := rfl
theorem mc_Co_clear : mcM m_Co_clear = 0 := rfl
theorem ms_Co_clear : msM m_Co_clear = 0 := rfl
theorem mc_Co_copyFrom : mcM m_Co_copyFrom = 0 := rfl
theorem ms_Co_copyFrom : msM m_Co_copyFrom = 0 := rfl
theorem mc_Co_setPlaces : mcM m_Co_setPlaces = 0 := rfl
theorem ms_Co_setPlaces : msM m_Co_setPlaces = 0 := rfl
theorem mc_Co_addRoad : mcM m_Co_addRoad = 0 := rfl
theorem ms_Co_addRoad : msM m_Co_addRoad = 0 := rfl
theorem mc_Co_addStep : mcM m_Co_addStep = 0 := rfl
theorem ms_Co_addStep : msM m_Co_addStep = 0 := rfl
theorem mc_Co_places : mcM m_Co_places = 0 := rfl
theorem ms_Co_places : msM m_Co_places = 0 := rfl
theorem mc_Co_roads : mcM m_Co_roads = 0 := rfl
theorem ms_Co_roads : msM m_Co_roads = 0 := rfl
theorem mc_Co_steps : mcM m_Co_steps = 0 := rfl
theorem ms_Co_steps : msM m_Co_steps = 0 := rfl
theorem mc_Co_planned : mcM m_Co_planned = 0 := rfl
theorem ms_Co_planned : msM m_Co_planned = 0 := rfl
theorem mc_Co_kindOf : mcM m_Co_kindOf = 0 := rfl
theorem ms_Co_kindOf : msM m_Co_kindOf = 0 := rfl
theorem mc_Co_startOf : mcM m_Co_startOf = 0 := rfl
theorem ms_Co_startOf : msM m_Co_startOf = 0 := rfl
theorem mc_Co_endOf : mcM m_Co_endOf = 0 := rfl
theorem ms_Co_endOf : msM m_Co_endOf = 0 := rfl
theorem mc_Co_hasPlace : mcM m_Co_hasPlace = 0 := rfl
theorem ms_Co_hasPlace : msM m_Co_hasPlace = 0 := rfl
theorem mc_Co_hasRoad : mcM m_Co_hasRoad = 0 := rfl
theorem ms_Co_hasRoad : msM m_Co_hasRoad = 0 := rfl
theorem mc_Co_leadsOn : mcM m_Co_leadsOn = 0 := rfl
theorem ms_Co_leadsOn : msM m_Co_leadsOn = 0 := rfl
theorem mc_Co_canBeCrossed : mcM m_Co_canBeCrossed = 0 := rfl
theorem ms_Co_canBeCrossed : msM m_Co_canBeCrossed = 0 := rfl
theorem mc_Co_otherEnd : mcM m_Co_otherEnd = 0 := rfl
theorem ms_Co_otherEnd : msM m_Co_otherEnd = 0 := rfl
theorem mc_Co_figureFrom : mcM m_Co_figureFrom = 0 := rfl
theorem ms_Co_figureFrom : msM m_Co_figureFrom = 0 := rfl
theorem mc_Co_changeFrom : mcM m_Co_changeFrom = 0 := rfl
theorem ms_Co_changeFrom : msM m_Co_changeFrom = 0 := rfl
theorem mc_Co_sumBehind : mcM m_Co_sumBehind = 0 := rfl
theorem ms_Co_sumBehind : msM m_Co_sumBehind = 0 := rfl
theorem mc_Co_sumBy : mcM m_Co_sumBy = 0 := rfl
theorem ms_Co_sumBy : msM m_Co_sumBy = 0 := rfl
theorem mc_Co_bitsOfAll : mcM m_Co_bitsOfAll = 0 := rfl
theorem ms_Co_bitsOfAll : msM m_Co_bitsOfAll = 0 := rfl
theorem mc_Co_bitsNotShut : mcM m_Co_bitsNotShut = 0 := rfl
theorem ms_Co_bitsNotShut : msM m_Co_bitsNotShut = 0 := rfl
theorem mc_He_init : mcM m_He_init = 2 := rfl
theorem ms_He_init : msM m_He_init = 12 := rfl
theorem mc_He_agreeNow : mcM m_He_agreeNow = 0 := rfl
theorem ms_He_agreeNow : msM m_He_agreeNow = 0 := rfl
theorem mc_He_of : mcM m_He_of = 0 := rfl
theorem ms_He_of : msM m_He_of = 0 := rfl
theorem mc_He_hangTogether : mcM m_He_hangTogether = 0 := rfl
theorem ms_He_hangTogether : msM m_He_hangTogether = 0 := rfl
theorem mc_He_fewestToShut : mcM m_He_fewestToShut = 0 := rfl
theorem ms_He_fewestToShut : msM m_He_fewestToShut = 0 := rfl
theorem mc_He_unlikeWays : mcM m_He_unlikeWays = 0 := rfl
theorem ms_He_unlikeWays : msM m_He_unlikeWays = 0 := rfl
theorem mc_He_agreeBy : mcM m_He_agreeBy = 0 := rfl
theorem ms_He_agreeBy : msM m_He_agreeBy = 0 := rfl
theorem mc_He_spread : mcM m_He_spread = 0 := rfl
theorem ms_He_spread : msM m_He_spread = 0 := rfl
theorem mc_He_carry : mcM m_He_carry = 0 := rfl
theorem ms_He_carry : msM m_He_carry = 0 := rfl
theorem mc_He_suits : mcM m_He_suits = 0 := rfl
theorem ms_He_suits : msM m_He_suits = 0 := rfl
theorem mc_Le_init : mcM m_Le_init = 1 := rfl
theorem ms_Le_init : msM m_Le_init = 200 := rfl
theorem mc_Le_append : mcM m_Le_append = 0 := rfl
theorem ms_Le_append : msM m_Le_append = 0 := rfl
theorem mc_Le_clear : mcM m_Le_clear = 0 := rfl
theorem ms_Le_clear : msM m_Le_clear = 0 := rfl
theorem mc_Le_length : mcM m_Le_length = 0 := rfl
theorem ms_Le_length : msM m_Le_length = 0 := rfl
theorem mc_Le_has : mcM m_Le_has = 0 := rfl
theorem ms_Le_has : msM m_Le_has = 0 := rfl
theorem mc_Le_figureAt : mcM m_Le_figureAt = 0 := rfl
theorem ms_Le_figureAt : msM m_Le_figureAt = 0 := rfl
theorem mc_Pi_init : mcM m_Pi_init = 25 := rfl
theorem ms_Pi_init : msM m_Pi_init = 200 := rfl
theorem mc_Pi_size : mcM m_Pi_size = 0 := rfl
theorem ms_Pi_size : msM m_Pi_size = 0 := rfl
theorem mc_Pi_isFull : mcM m_Pi_isFull = 0 := rfl
theorem ms_Pi_isFull : msM m_Pi_isFull = 0 := rfl
theorem mc_Pi_clear : mcM m_Pi_clear = 0 := rfl
theorem ms_Pi_clear : msM m_Pi_clear = 0 := rfl
theorem mc_Pi_push : mcM m_Pi_push = 0 := rfl
theorem ms_Pi_push : msM m_Pi_push = 0 := rfl
theorem mc_Pi_popInto : mcM m_Pi_popInto = 0 := rfl
theorem ms_Pi_popInto : msM m_Pi_popInto = 0 := rfl
theorem mc_Pi_dropOldest : mcM m_Pi_dropOldest = 0 := rfl
theorem ms_Pi_dropOldest : msM m_Pi_dropOldest = 0 := rfl
theorem mc_Re_init : mcM m_Re_init = 9 := rfl
theorem ms_Re_init : msM m_Re_init = 73 := rfl
theorem mc_Re_firstFault : mcM m_Re_firstFault = 0 := rfl
theorem ms_Re_firstFault : msM m_Re_firstFault = 0 := rfl
theorem mc_Re_readItem : mcM m_Re_readItem = 0 := rfl
theorem ms_Re_readItem : msM m_Re_readItem = 0 := rfl
theorem mc_Re_readNumbers : mcM m_Re_readNumbers = 0 := rfl
theorem ms_Re_readNumbers : msM m_Re_readNumbers = 0 := rfl
theorem mc_Re_readNumber : mcM m_Re_readNumber = 0 := rfl
theorem ms_Re_readNumber : msM m_Re_readNumber = 0 := rfl
theorem mc_Re_tellPlaces : mcM m_Re_tellPlaces = 0 := rfl
theorem ms_Re_tellPlaces : msM m_Re_tellPlaces = 0 := rfl
theorem mc_Re_tellRoad : mcM m_Re_tellRoad = 0 := rfl
theorem ms_Re_tellRoad : msM m_Re_tellRoad = 0 := rfl
theorem mc_Re_tellStart : mcM m_Re_tellStart = 0 := rfl
theorem ms_Re_tellStart : msM m_Re_tellStart = 0 := rfl
theorem mc_Ri_init : mcM m_Ri_init = 4 := rfl
theorem ms_Ri_init : msM m_Ri_init = 24 := rfl
theorem mc_Ri_find : mcM m_Ri_find = 0 := rfl
theorem ms_Ri_find : msM m_Ri_find = 0 := rfl
theorem mc_Ri_findFrom : mcM m_Ri_findFrom = 0 := rfl
theorem ms_Ri_findFrom : msM m_Ri_findFrom = 0 := rfl
theorem mc_Ri_advance : mcM m_Ri_advance = 0 := rfl
theorem ms_Ri_advance : msM m_Ri_advance = 0 := rfl
theorem mc_Ri_carry : mcM m_Ri_carry = 0 := rfl
theorem ms_Ri_carry : msM m_Ri_carry = 0 := rfl
theorem mc_Ri_swapRows : mcM m_Ri_swapRows = 0 := rfl
theorem ms_Ri_swapRows : msM m_Ri_swapRows = 0 := rfl
theorem mc_St_init : mcM m_St_init = 2 := rfl
theorem ms_St_init : msM m_St_init = 18 := rfl
theorem mc_St_isShut : mcM m_St_isShut = 0 := rfl
theorem ms_St_isShut : msM m_St_isShut = 0 := rfl
theorem mc_St_turn : mcM m_St_turn = 0 := rfl
theorem ms_St_turn : msM m_St_turn = 0 := rfl
theorem mc_St_copyFrom : mcM m_St_copyFrom = 0 := rfl
theorem ms_St_copyFrom : msM m_St_copyFrom = 0 := rfl
theorem mc_To_init : mcM m_To_init = 10 := rfl
theorem ms_To_init : msM m_To_init = 200 := rfl
theorem mc_To_size : mcM m_To_size = 0 := rfl
theorem ms_To_size : msM m_To_size = 0 := rfl
theorem mc_To_clear : mcM m_To_clear = 0 := rfl
theorem ms_To_clear : msM m_To_clear = 0 := rfl
theorem mc_To_add : mcM m_To_add = 0 := rfl
theorem ms_To_add : msM m_To_add = 0 := rfl
theorem mc_To_wrongRoads : mcM m_To_wrongRoads = 0 := rfl
theorem ms_To_wrongRoads : msM m_To_wrongRoads = 0 := rfl
theorem mc_To_findWalk : mcM m_To_findWalk = 0 := rfl
theorem ms_To_findWalk : msM m_To_findWalk = 0 := rfl
theorem mc_To_unlikeSums : mcM m_To_unlikeSums = 0 := rfl
theorem ms_To_unlikeSums : msM m_To_unlikeSums = 0 := rfl
theorem mc_To_suppose : mcM m_To_suppose = 0 := rfl
theorem ms_To_suppose : msM m_To_suppose = 0 := rfl
theorem mc_To_sortByWays : mcM m_To_sortByWays = 0 := rfl
theorem ms_To_sortByWays : msM m_To_sortByWays = 0 := rfl
theorem mc_To_wayOver : mcM m_To_wayOver = 0 := rfl
theorem ms_To_wayOver : msM m_To_wayOver = 0 := rfl
theorem mc_To_hold : mcM m_To_hold = 0 := rfl
theorem ms_To_hold : msM m_To_hold = 0 := rfl
theorem mc_To_supposedSum : mcM m_To_supposedSum = 0 := rfl
theorem ms_To_supposedSum : msM m_To_supposedSum = 0 := rfl
theorem mc_Wa_init : mcM m_Wa_init = 0 := rfl
theorem ms_Wa_init : msM m_Wa_init = 0 := rfl
theorem mc_Wa_startNow : mcM m_Wa_startNow = 0 := rfl
theorem ms_Wa_startNow : msM m_Wa_startNow = 0 := rfl
theorem mc_Wa_goBy : mcM m_Wa_goBy = 0 := rfl
theorem ms_Wa_goBy : msM m_Wa_goBy = 0 := rfl
theorem mc_Wa_followPlan : mcM m_Wa_followPlan = 0 := rfl
theorem ms_Wa_followPlan : msM m_Wa_followPlan = 0 := rfl
theorem mc_Wa_followDraws : mcM m_Wa_followDraws = 0 := rfl
theorem ms_Wa_followDraws : msM m_Wa_followDraws = 0 := rfl
theorem mc_Wa_draw : mcM m_Wa_draw = 0 := rfl
theorem ms_Wa_draw : msM m_Wa_draw = 0 := rfl
theorem mc_We_init : mcM m_We_init = 1 := rfl
theorem ms_We_init : msM m_We_init = 10 := rfl
theorem mc_We_findChance : mcM m_We_findChance = 0 := rfl
theorem ms_We_findChance : msM m_We_findChance = 0 := rfl
theorem mc_We_countSets : mcM m_We_countSets = 0 := rfl
theorem ms_We_countSets : msM m_We_countSets = 0 := rfl
theorem mc_We_leads : mcM m_We_leads = 0 := rfl
theorem ms_We_leads : msM m_We_leads = 0 := rfl
theorem mc_We_power : mcM m_We_power = 0 := rfl
theorem ms_We_power : msM m_We_power = 0 := rfl
theorem mc_We_lowestTerms : mcM m_We_lowestTerms = 0 := rfl
theorem ms_We_lowestTerms : msM m_We_lowestTerms = 0 := rfl
theorem mc_Jd_bitCount : mcM m_Jd_bitCount = 0 := rfl
theorem ms_Jd_bitCount : msM m_Jd_bitCount = 0 := rfl
theorem mc_Jd_fill : mcM m_Jd_fill = 0 := rfl
theorem ms_Jd_fill : msM m_Jd_fill = 0 := rfl
theorem mc_Mo_init : mcM m_Mo_init = 19 := rfl
theorem ms_Mo_init : msM m_Mo_init = 7415 := rfl
theorem mc_Mo_in : mcM m_Mo_in = 0 := rfl
theorem ms_Mo_in : msM m_Mo_in = 0 := rfl
theorem mc_Mo_isTwo : mcM m_Mo_isTwo = 0 := rfl
theorem ms_Mo_isTwo : msM m_Mo_isTwo = 0 := rfl
theorem mc_Mo_has : mcM m_Mo_has = 0 := rfl
theorem ms_Mo_has : msM m_Mo_has = 0 := rfl
theorem mc_Mo_bits : mcM m_Mo_bits = 0 := rfl
theorem ms_Mo_bits : msM m_Mo_bits = 0 := rfl
theorem mc_Mo_write : mcM m_Mo_write = 0 := rfl
theorem ms_Mo_write : msM m_Mo_write = 0 := rfl
theorem mc_Mo_wipe : mcM m_Mo_wipe = 0 := rfl
theorem ms_Mo_wipe : msM m_Mo_wipe = 0 := rfl
theorem mc_Mo_clean : mcM m_Mo_clean = 0 := rfl
theorem ms_Mo_clean : msM m_Mo_clean = 0 := rfl
theorem mc_Mo_comes : mcM m_Mo_comes = 0 := rfl
theorem ms_Mo_comes : msM m_Mo_comes = 0 := rfl
theorem mc_Mo_here : mcM m_Mo_here = 0 := rfl
theorem ms_Mo_here : msM m_Mo_here = 0 := rfl
theorem mc_Mo_takes : mcM m_Mo_takes = 0 := rfl
theorem ms_Mo_takes : msM m_Mo_takes = 0 := rfl
theorem mc_Mo_takesPlaces : mcM m_Mo_takesPlaces = 0 := rfl
theorem ms_Mo_takesPlaces : msM m_Mo_takesPlaces = 0 := rfl
theorem mc_Mo_takesRoad : mcM m_Mo_takesRoad = 0 := rfl
theorem ms_Mo_takesRoad : msM m_Mo_takesRoad = 0 := rfl
theorem mc_Mo_takesStart : mcM m_Mo_takesStart = 0 := rfl
theorem ms_Mo_takesStart : msM m_Mo_takesStart = 0 := rfl
theorem mc_Mo_takesJourney : mcM m_Mo_takesJourney = 0 := rfl
theorem ms_Mo_takesJourney : msM m_Mo_takesJourney = 0 := rfl
theorem mc_Mo_takesItem : mcM m_Mo_takesItem = 0 := rfl
theorem ms_Mo_takesItem : msM m_Mo_takesItem = 0 := rfl
theorem mc_Mo_fault : mcM m_Mo_fault = 0 := rfl
theorem ms_Mo_fault : msM m_Mo_fault = 0 := rfl
theorem mc_Mo_begins : mcM m_Mo_begins = 0 := rfl
theorem ms_Mo_begins : msM m_Mo_begins = 0 := rfl
theorem mc_Mo_lay : mcM m_Mo_lay = 0 := rfl
theorem ms_Mo_lay : msM m_Mo_lay = 0 := rfl
theorem mc_Mo_isPlace : mcM m_Mo_isPlace = 0 := rfl
theorem ms_Mo_isPlace : msM m_Mo_isPlace = 0 := rfl
theorem mc_Mo_isRoad : mcM m_Mo_isRoad = 0 := rfl
theorem ms_Mo_isRoad : msM m_Mo_isRoad = 0 := rfl
theorem mc_Mo_isShut : mcM m_Mo_isShut = 0 := rfl
theorem ms_Mo_isShut : msM m_Mo_isShut = 0 := rfl
theorem mc_Mo_otherEnd : mcM m_Mo_otherEnd = 0 := rfl
theorem ms_Mo_otherEnd : msM m_Mo_otherEnd = 0 := rfl
theorem mc_Mo_crossed : mcM m_Mo_crossed = 0 := rfl
theorem ms_Mo_crossed : msM m_Mo_crossed = 0 := rfl
theorem mc_Mo_by : mcM m_Mo_by = 0 := rfl
theorem ms_Mo_by : msM m_Mo_by = 0 := rfl
theorem mc_Mo_byNow : mcM m_Mo_byNow = 0 := rfl
theorem ms_Mo_byNow : msM m_Mo_byNow = 0 := rfl
theorem mc_Mo_mayCross : mcM m_Mo_mayCross = 0 := rfl
theorem ms_Mo_mayCross : msM m_Mo_mayCross = 0 := rfl
theorem mc_Mo_road : mcM m_Mo_road = 0 := rfl
theorem ms_Mo_road : msM m_Mo_road = 0 := rfl
theorem mc_Mo_at : mcM m_Mo_at = 0 := rfl
theorem ms_Mo_at : msM m_Mo_at = 0 := rfl
theorem mc_Mo_copies : mcM m_Mo_copies = 0 := rfl
theorem ms_Mo_copies : msM m_Mo_copies = 0 := rfl
theorem mc_Mo_remember : mcM m_Mo_remember = 0 := rfl
theorem ms_Mo_remember : msM m_Mo_remember = 0 := rfl
theorem mc_Mo_cross : mcM m_Mo_cross = 0 := rfl
theorem ms_Mo_cross : msM m_Mo_cross = 0 := rfl
theorem mc_Mo_mend : mcM m_Mo_mend = 0 := rfl
theorem ms_Mo_mend : msM m_Mo_mend = 0 := rfl
theorem mc_Mo_shut : mcM m_Mo_shut = 0 := rfl
theorem ms_Mo_shut : msM m_Mo_shut = 0 := rfl
theorem mc_Mo_undo : mcM m_Mo_undo = 0 := rfl
theorem ms_Mo_undo : msM m_Mo_undo = 0 := rfl
theorem mc_Mo_goes : mcM m_Mo_goes = 0 := rfl
theorem ms_Mo_goes : msM m_Mo_goes = 0 := rfl
theorem mc_Mo_journey : mcM m_Mo_journey = 0 := rfl
theorem ms_Mo_journey : msM m_Mo_journey = 0 := rfl
theorem mc_Mo_most : mcM m_Mo_most = 0 := rfl
theorem ms_Mo_most : msM m_Mo_most = 0 := rfl
theorem mc_Mo_layRounds : mcM m_Mo_layRounds = 0 := rfl
theorem ms_Mo_layRounds : msM m_Mo_layRounds = 0 := rfl
theorem mc_Mo_round : mcM m_Mo_round = 0 := rfl
theorem ms_Mo_round : msM m_Mo_round = 0 := rfl
theorem mc_Mo_change : mcM m_Mo_change = 0 := rfl
theorem ms_Mo_change : msM m_Mo_change = 0 := rfl
theorem mc_Mo_layHeights : mcM m_Mo_layHeights = 0 := rfl
theorem ms_Mo_layHeights : msM m_Mo_layHeights = 0 := rfl
theorem mc_Mo_spread : mcM m_Mo_spread = 0 := rfl
theorem ms_Mo_spread : msM m_Mo_spread = 0 := rfl
theorem mc_Mo_agree : mcM m_Mo_agree = 0 := rfl
theorem ms_Mo_agree : msM m_Mo_agree = 0 := rfl
theorem mc_Mo_height : mcM m_Mo_height = 0 := rfl
theorem ms_Mo_height : msM m_Mo_height = 0 := rfl
theorem mc_Mo_ringFrom : mcM m_Mo_ringFrom = 0 := rfl
theorem ms_Mo_ringFrom : msM m_Mo_ringFrom = 0 := rfl
theorem mc_Mo_marksGo : mcM m_Mo_marksGo = 0 := rfl
theorem ms_Mo_marksGo : msM m_Mo_marksGo = 0 := rfl
theorem mc_Mo_ring : mcM m_Mo_ring = 0 := rfl
theorem ms_Mo_ring : msM m_Mo_ring = 0 := rfl
theorem mc_Mo_fewest : mcM m_Mo_fewest = 0 := rfl
theorem ms_Mo_fewest : msM m_Mo_fewest = 0 := rfl
theorem mc_Mo_third : mcM m_Mo_third = 0 := rfl
theorem ms_Mo_third : msM m_Mo_third = 0 := rfl
theorem mc_Mo_tell : mcM m_Mo_tell = 0 := rfl
theorem ms_Mo_tell : msM m_Mo_tell = 0 := rfl
theorem mc_Mo_forget : mcM m_Mo_forget = 0 := rfl
theorem ms_Mo_forget : msM m_Mo_forget = 0 := rfl
theorem mc_Mo_byOther : mcM m_Mo_byOther = 0 := rfl
theorem ms_Mo_byOther : msM m_Mo_byOther = 0 := rfl
theorem mc_Mo_fits : mcM m_Mo_fits = 0 := rfl
theorem ms_Mo_fits : msM m_Mo_fits = 0 := rfl
theorem mc_Mo_wrongs : mcM m_Mo_wrongs = 0 := rfl
theorem ms_Mo_wrongs : msM m_Mo_wrongs = 0 := rfl
theorem mc_Mo_wrong : mcM m_Mo_wrong = 0 := rfl
theorem ms_Mo_wrong : msM m_Mo_wrong = 0 := rfl
theorem mc_Mo_sumsBehind : mcM m_Mo_sumsBehind = 0 := rfl
theorem ms_Mo_sumsBehind : msM m_Mo_sumsBehind = 0 := rfl
theorem mc_Mo_walk : mcM m_Mo_walk = 0 := rfl
theorem ms_Mo_walk : msM m_Mo_walk = 0 := rfl
theorem mc_Mo_byTurns : mcM m_Mo_byTurns = 0 := rfl
theorem ms_Mo_byTurns : msM m_Mo_byTurns = 0 := rfl
theorem mc_Mo_leads : mcM m_Mo_leads = 0 := rfl
theorem ms_Mo_leads : msM m_Mo_leads = 0 := rfl
theorem mc_Mo_weather : mcM m_Mo_weather = 0 := rfl
theorem ms_Mo_weather : msM m_Mo_weather = 0 := rfl
theorem mc_Mo_year : mcM m_Mo_year = 0 := rfl
theorem ms_Mo_year : msM m_Mo_year = 0 := rfl
theorem mc_Mo_keep : mcM m_Mo_keep = 0 := rfl
theorem ms_Mo_keep : msM m_Mo_keep = 0 := rfl
theorem mc_Mo_back : mcM m_Mo_back = 0 := rfl
theorem ms_Mo_back : msM m_Mo_back = 0 := rfl
theorem mc_Mo_count : mcM m_Mo_count = 0 := rfl
theorem ms_Mo_count : msM m_Mo_count = 0 := rfl
theorem AM_of0 {S : Sys} {mi : MI} {as : List AV} {h : AH} {Q : Option AV → AH → Prop} (hc : mcM mi = 0) (hs : msM mi = 0) (hy : plainName mi.1.cls = true) (hlen : catS as ≤ mi.2.2.1) (w : AW S mi 0 0 0 (entL as mi.2.2.1) [] h Q) : AM S mi as h Q :=
  AM_of hy hlen (by rw [hc, hs]; exact w)
theorem gi_si (h : AH) (o k a b : Nat) (v : Int) : gi (si h o k v) a b = if a = o ∧ b = k then v else gi h a b := rfl
theorem gr_si (h : AH) (o k : Nat) (v : Int) : gr (si h o k v) = gr h := rfl
theorem gl_si (h : AH) (o k : Nat) (v : Int) : gl (si h o k v) = gl h := rfl
theorem cn_si (h : AH) (o k : Nat) (v : Int) : cn (si h o k v) = cn h := rfl
theorem gi_sr (h : AH) (o k : Nat) (v : Nat) : gi (sr h o k v) = gi h := rfl
theorem gr_sr (h : AH) (o k a b : Nat) (v : Nat) : gr (sr h o k v) a b = if a = o ∧ b = k then v else gr h a b := rfl
theorem gl_sr (h : AH) (o k : Nat) (v : Nat) : gl (sr h o k v) = gl h := rfl
theorem cn_sr (h : AH) (o k : Nat) (v : Nat) : cn (sr h o k v) = cn h := rfl
theorem gi_sl (h : AH) (o k : Nat) (v : Int) : gi (sl h o k v) = gi h := rfl
theorem gr_sl (h : AH) (o k : Nat) (v : Int) : gr (sl h o k v) = gr h := rfl
theorem gl_sl (h : AH) (o k a b : Nat) (v : Int) : gl (sl h o k v) a b = if a = o ∧ b = k then v else gl h a b := rfl
theorem cn_sl (h : AH) (o k : Nat) (v : Int) : cn (sl h o k v) = cn h := rfl
theorem gi_cpi (h : AH) (s sp d dp n a b : Nat) : gi (cpi h s sp d dp n) a b = if a = d ∧ dp ≤ b ∧ b < dp + n then gi h s (sp + (b - dp)) else gi h a b := rfl
theorem gr_cpi (h : AH) (s sp d dp n : Nat) : gr (cpi h s sp d dp n) = gr h := rfl
theorem gl_cpi (h : AH) (s sp d dp n : Nat) : gl (cpi h s sp d dp n) = gl h := rfl
theorem cn_cpi (h : AH) (s sp d dp n : Nat) : cn (cpi h s sp d dp n) = cn h := rfl
/-! the graph of objects: what no method changes -/
def GCl : List (Nat × Nat × Nat) := [(1, 0, 2), (1, 1, 4), (1, 2, 14), (1, 3, 22), (1, 4, 48), (1, 5, 56), (1, 6, 57), (1, 7, 61), (1, 8, 64), (1, 9, 69), (1, 10, 80), (2, 0, 3), (4, 0, 5), (4, 1, 13), (5, 0, 6), (5, 1, 9), (5, 2, 10), (5, 3, 11), (5, 4, 12), (6, 4, 7), (6, 5, 8), (14, 0, 15), (14, 1, 18), (14, 2, 19), (14, 3, 20), (14, 4, 21), (15, 4, 16), (15, 5, 17), (22, 0, 23), (48, 0, 49), (24, 4, 25), (24, 5, 26), (27, 4, 28), (27, 5, 29), (30, 4, 31), (30, 5, 32), (33, 4, 34), (33, 5, 35), (36, 4, 37), (36, 5, 38), (39, 4, 40), (39, 5, 41), (42, 4, 43), (42, 5, 44), (45, 4, 46), (45, 5, 47), (50, 4, 51), (50, 5, 52), (53, 4, 54), (53, 5, 55), (56, 0, 14), (57, 0, 14), (57, 1, 58), (61, 0, 14), (61, 1, 62), (61, 2, 63), (64, 0, 14), (69, 0, 14), (69, 1, 70), (69, 2, 71), (69, 3, 72), (69, 4, 73), (69, 5, 74), (69, 7, 75), (69, 8, 76), (69, 9, 77), (69, 10, 78), (69, 11, 79), (80, 0, 14), (80, 1, 81)]
def GMl : List (Nat × Nat × Nat) := [(1, 0, 2), (1, 1, 3), (1, 2, 4), (1, 3, 5), (1, 5, 6), (1, 7, 7), (1, 9, 8), (1, 13, 9), (1, 16, 10), (1, 17, 11), (1, 18, 12), (1, 19, 13), (1, 20, 14), (1, 21, 15), (1, 24, 16), (1, 25, 17), (1, 26, 18), (1, 27, 19), (1, 28, 20)]
def GC (h : AH) : Prop := cn h = 81 ∧ ∀ q ∈ GCl, gr h q.1 q.2.1 = q.2.2
def GM (h : AH) : Prop := cn h = 20 ∧ ∀ q ∈ GMl, gr h q.1 q.2.1 = q.2.2
theorem g_1_0 {h : AH} (hg : GC h) : gr h 1 0 = 2 := hg.2 (1, 0, 2) (by decide)
theorem g_1_1 {h : AH} (hg : GC h) : gr h 1 1 = 4 := hg.2 (1, 1, 4) (by decide)
theorem g_1_2 {h : AH} (hg : GC h) : gr h 1 2 = 14 := hg.2 (1, 2, 14) (by decide)
theorem g_1_3 {h : AH} (hg : GC h) : gr h 1 3 = 22 := hg.2 (1, 3, 22) (by decide)
theorem g_1_4 {h : AH} (hg : GC h) : gr h 1 4 = 48 := hg.2 (1, 4, 48) (by decide)
theorem g_1_5 {h : AH} (hg : GC h) : gr h 1 5 = 56 := hg.2 (1, 5, 56) (by decide)
theorem g_1_6 {h : AH} (hg : GC h) : gr h 1 6 = 57 := hg.2 (1, 6, 57) (by decide)
theorem g_1_7 {h : AH} (hg : GC h) : gr h 1 7 = 61 := hg.2 (1, 7, 61) (by decide)
theorem g_1_8 {h : AH} (hg : GC h) : gr h 1 8 = 64 := hg.2 (1, 8, 64) (by decide)
theorem g_1_9 {h : AH} (hg : GC h) : gr h 1 9 = 69 := hg.2 (1, 9, 69) (by decide)
theorem g_1_10 {h : AH} (hg : GC h) : gr h 1 10 = 80 := hg.2 (1, 10, 80) (by decide)
theorem g_2_0 {h : AH} (hg : GC h) : gr h 2 0 = 3 := hg.2 (2, 0, 3) (by decide)
theorem g_4_0 {h : AH} (hg : GC h) : gr h 4 0 = 5 := hg.2 (4, 0, 5) (by decide)
theorem g_4_1 {h : AH} (hg : GC h) : gr h 4 1 = 13 := hg.2 (4, 1, 13) (by decide)
theorem g_5_0 {h : AH} (hg : GC h) : gr h 5 0 = 6 := hg.2 (5, 0, 6) (by decide)
theorem g_5_1 {h : AH} (hg : GC h) : gr h 5 1 = 9 := hg.2 (5, 1, 9) (by decide)
theorem g_5_2 {h : AH} (hg : GC h) : gr h 5 2 = 10 := hg.2 (5, 2, 10) (by decide)
theorem g_5_3 {h : AH} (hg : GC h) : gr h 5 3 = 11 := hg.2 (5, 3, 11) (by decide)
theorem g_5_4 {h : AH} (hg : GC h) : gr h 5 4 = 12 := hg.2 (5, 4, 12) (by decide)
theorem g_6_4 {h : AH} (hg : GC h) : gr h 6 4 = 7 := hg.2 (6, 4, 7) (by decide)
theorem g_6_5 {h : AH} (hg : GC h) : gr h 6 5 = 8 := hg.2 (6, 5, 8) (by decide)
theorem g_14_0 {h : AH} (hg : GC h) : gr h 14 0 = 15 := hg.2 (14, 0, 15) (by decide)
theorem g_14_1 {h : AH} (hg : GC h) : gr h 14 1 = 18 := hg.2 (14, 1, 18) (by decide)
theorem g_14_2 {h : AH} (hg : GC h) : gr h 14 2 = 19 := hg.2 (14, 2, 19) (by decide)
theorem g_14_3 {h : AH} (hg : GC h) : gr h 14 3 = 20 := hg.2 (14, 3, 20) (by decide)
theorem g_14_4 {h : AH} (hg : GC h) : gr h 14 4 = 21 := hg.2 (14, 4, 21) (by decide)
theorem g_15_4 {h : AH} (hg : GC h) : gr h 15 4 = 16 := hg.2 (15, 4, 16) (by decide)
theorem g_15_5 {h : AH} (hg : GC h) : gr h 15 5 = 17 := hg.2 (15, 5, 17) (by decide)
theorem g_22_0 {h : AH} (hg : GC h) : gr h 22 0 = 23 := hg.2 (22, 0, 23) (by decide)
theorem g_48_0 {h : AH} (hg : GC h) : gr h 48 0 = 49 := hg.2 (48, 0, 49) (by decide)
theorem g_24_4 {h : AH} (hg : GC h) : gr h 24 4 = 25 := hg.2 (24, 4, 25) (by decide)
theorem g_24_5 {h : AH} (hg : GC h) : gr h 24 5 = 26 := hg.2 (24, 5, 26) (by decide)
theorem g_27_4 {h : AH} (hg : GC h) : gr h 27 4 = 28 := hg.2 (27, 4, 28) (by decide)
theorem g_27_5 {h : AH} (hg : GC h) : gr h 27 5 = 29 := hg.2 (27, 5, 29) (by decide)
theorem g_30_4 {h : AH} (hg : GC h) : gr h 30 4 = 31 := hg.2 (30, 4, 31) (by decide)
theorem g_30_5 {h : AH} (hg : GC h) : gr h 30 5 = 32 := hg.2 (30, 5, 32) (by decide)
theorem g_33_4 {h : AH} (hg : GC h) : gr h 33 4 = 34 := hg.2 (33, 4, 34) (by decide)
theorem g_33_5 {h : AH} (hg : GC h) : gr h 33 5 = 35 := hg.2 (33, 5, 35) (by decide)
theorem g_36_4 {h : AH} (hg : GC h) : gr h 36 4 = 37 := hg.2 (36, 4, 37) (by decide)
theorem g_36_5 {h : AH} (hg : GC h) : gr h 36 5 = 38 := hg.2 (36, 5, 38) (by decide)
theorem g_39_4 {h : AH} (hg : GC h) : gr h 39 4 = 40 := hg.2 (39, 4, 40) (by decide)
theorem g_39_5 {h : AH} (hg : GC h) : gr h 39 5 = 41 := hg.2 (39, 5, 41) (by decide)
theorem g_42_4 {h : AH} (hg : GC h) : gr h 42 4 = 43 := hg.2 (42, 4, 43) (by decide)
theorem g_42_5 {h : AH} (hg : GC h) : gr h 42 5 = 44 := hg.2 (42, 5, 44) (by decide)
theorem g_45_4 {h : AH} (hg : GC h) : gr h 45 4 = 46 := hg.2 (45, 4, 46) (by decide)
theorem g_45_5 {h : AH} (hg : GC h) : gr h 45 5 = 47 := hg.2 (45, 5, 47) (by decide)
theorem g_50_4 {h : AH} (hg : GC h) : gr h 50 4 = 51 := hg.2 (50, 4, 51) (by decide)
theorem g_50_5 {h : AH} (hg : GC h) : gr h 50 5 = 52 := hg.2 (50, 5, 52) (by decide)
theorem g_53_4 {h : AH} (hg : GC h) : gr h 53 4 = 54 := hg.2 (53, 4, 54) (by decide)
theorem g_53_5 {h : AH} (hg : GC h) : gr h 53 5 = 55 := hg.2 (53, 5, 55) (by decide)
theorem g_56_0 {h : AH} (hg : GC h) : gr h 56 0 = 14 := hg.2 (56, 0, 14) (by decide)
theorem g_57_0 {h : AH} (hg : GC h) : gr h 57 0 = 14 := hg.2 (57, 0, 14) (by decide)
theorem g_57_1 {h : AH} (hg : GC h) : gr h 57 1 = 58 := hg.2 (57, 1, 58) (by decide)
theorem g_61_0 {h : AH} (hg : GC h) : gr h 61 0 = 14 := hg.2 (61, 0, 14) (by decide)
theorem g_61_1 {h : AH} (hg : GC h) : gr h 61 1 = 62 := hg.2 (61, 1, 62) (by decide)
theorem g_61_2 {h : AH} (hg : GC h) : gr h 61 2 = 63 := hg.2 (61, 2, 63) (by decide)
theorem g_64_0 {h : AH} (hg : GC h) : gr h 64 0 = 14 := hg.2 (64, 0, 14) (by decide)
theorem g_69_0 {h : AH} (hg : GC h) : gr h 69 0 = 14 := hg.2 (69, 0, 14) (by decide)
theorem g_69_1 {h : AH} (hg : GC h) : gr h 69 1 = 70 := hg.2 (69, 1, 70) (by decide)
theorem g_69_2 {h : AH} (hg : GC h) : gr h 69 2 = 71 := hg.2 (69, 2, 71) (by decide)
theorem g_69_3 {h : AH} (hg : GC h) : gr h 69 3 = 72 := hg.2 (69, 3, 72) (by decide)
theorem g_69_4 {h : AH} (hg : GC h) : gr h 69 4 = 73 := hg.2 (69, 4, 73) (by decide)
theorem g_69_5 {h : AH} (hg : GC h) : gr h 69 5 = 74 := hg.2 (69, 5, 74) (by decide)
theorem g_69_7 {h : AH} (hg : GC h) : gr h 69 7 = 75 := hg.2 (69, 7, 75) (by decide)
theorem g_69_8 {h : AH} (hg : GC h) : gr h 69 8 = 76 := hg.2 (69, 8, 76) (by decide)
theorem g_69_9 {h : AH} (hg : GC h) : gr h 69 9 = 77 := hg.2 (69, 9, 77) (by decide)
theorem g_69_10 {h : AH} (hg : GC h) : gr h 69 10 = 78 := hg.2 (69, 10, 78) (by decide)
theorem g_69_11 {h : AH} (hg : GC h) : gr h 69 11 = 79 := hg.2 (69, 11, 79) (by decide)
theorem g_80_0 {h : AH} (hg : GC h) : gr h 80 0 = 14 := hg.2 (80, 0, 14) (by decide)
theorem g_80_1 {h : AH} (hg : GC h) : gr h 80 1 = 81 := hg.2 (80, 1, 81) (by decide)
theorem gm_0 {h : AH} (hg : GM h) : gr h 1 0 = 2 := hg.2 (1, 0, 2) (by decide)
theorem gm_1 {h : AH} (hg : GM h) : gr h 1 1 = 3 := hg.2 (1, 1, 3) (by decide)
theorem gm_2 {h : AH} (hg : GM h) : gr h 1 2 = 4 := hg.2 (1, 2, 4) (by decide)
theorem gm_3 {h : AH} (hg : GM h) : gr h 1 3 = 5 := hg.2 (1, 3, 5) (by decide)
theorem gm_5 {h : AH} (hg : GM h) : gr h 1 5 = 6 := hg.2 (1, 5, 6) (by decide)
theorem gm_7 {h : AH} (hg : GM h) : gr h 1 7 = 7 := hg.2 (1, 7, 7) (by decide)
theorem gm_9 {h : AH} (hg : GM h) : gr h 1 9 = 8 := hg.2 (1, 9, 8) (by decide)
theorem gm_13 {h : AH} (hg : GM h) : gr h 1 13 = 9 := hg.2 (1, 13, 9) (by decide)
theorem gm_16 {h : AH} (hg : GM h) : gr h 1 16 = 10 := hg.2 (1, 16, 10) (by decide)
theorem gm_17 {h : AH} (hg : GM h) : gr h 1 17 = 11 := hg.2 (1, 17, 11) (by decide)
theorem gm_18 {h : AH} (hg : GM h) : gr h 1 18 = 12 := hg.2 (1, 18, 12) (by decide)
theorem gm_19 {h : AH} (hg : GM h) : gr h 1 19 = 13 := hg.2 (1, 19, 13) (by decide)
theorem gm_20 {h : AH} (hg : GM h) : gr h 1 20 = 14 := hg.2 (1, 20, 14) (by decide)
theorem gm_21 {h : AH} (hg : GM h) : gr h 1 21 = 15 := hg.2 (1, 21, 15) (by decide)
theorem gm_24 {h : AH} (hg : GM h) : gr h 1 24 = 16 := hg.2 (1, 24, 16) (by decide)
theorem gm_25 {h : AH} (hg : GM h) : gr h 1 25 = 17 := hg.2 (1, 25, 17) (by decide)
theorem gm_26 {h : AH} (hg : GM h) : gr h 1 26 = 18 := hg.2 (1, 26, 18) (by decide)
theorem gm_27 {h : AH} (hg : GM h) : gr h 1 27 = 19 := hg.2 (1, 27, 19) (by decide)
theorem gm_28 {h : AH} (hg : GM h) : gr h 1 28 = 20 := hg.2 (1, 28, 20) (by decide)
set_option maxHeartbeats 4000000 in
/-- A CONTRACT out of a walk from the method's first block -/
theorem AM_ofF {S : Sys} {mi : MI} {as : List AV} {h : AH} {Q : Option AV → AH → Prop} (hy : plainFor mi.1 = true) (hlen : catS as ≤ mi.2.2.1) (w : AW S mi (mcM mi) (msM mi) 0 (entL as mi.2.2.1) [] h Q) : AM S mi as h Q := by
  intro l D cA ad sz hH has
  refine va_MetF (cc := mi.2.1) (maxL := mi.2.2.1) (ret := mi.2.2.2.1) hy rfl ?_
  intro p e s m args below meth c s₁ B hml hv
  obtain ⟨rfl, hsz, hP, hK, hD0, hNB⟩ := hv
  have hts := atoms_spec (ws := wsM mi) B.pre
  have hown : s.vm.findClass mi.1.cls = some m.cls := findClass_of_methodNamed B.named
  have hnm : meth.name = mi.1.name := (name_of_methodNamed B.named B.method).1
  subst hsz
  have hl := lv_entry (as.map (cv ad)) (n := mi.2.2.1) (by rw [sl_len]; exact hlen)
  rw [lg_entry_eq]
  have hLR : LR ad ((lg_sl (as.map (cv ad)) ++ List.replicate (mi.2.2.1 - (lg_sl (as.map (cv ad))).length) Slot.unset).toArray) mi.2.2.1 (entL as mi.2.2.1) :=
    ⟨hl.1, hl.2.1, fun i v hv => hl.2.2 _ (by have := entL_args (ad := ad) (j := 0) hv; simpa using this)⟩
  exact w p l e s m _ below meth c D cA (va_A (wld S cA ad h) s.heap.size) s.heap [] 0 0 ad ad (cn h) _ ⟨⟨B.exec, B.bytes, hml, B.returns, hts, hown, B.notSynchronized, hK, fun q hq => Or.inr hq, hnm, hNB⟩, ⟨hP, hD0.self, hH⟩, va_S.rf, ⟨by show 0 + mcM mi ≤ _; simp [mcM], by show 0 + msM mi ≤ _; simp [msM]⟩, ⟨fun _ _ => rfl, Nat.le_refl _⟩, hLR, entL_okLs has _, okS_nil⟩

theorem AM_ofF0 {S : Sys} {mi : MI} {as : List AV} {h : AH} {Q : Option AV → AH → Prop} (hc : mcM mi = 0) (hs : msM mi = 0) (hy : plainFor mi.1 = true) (hlen : catS as ≤ mi.2.2.1) (w : AW S mi 0 0 0 (entL as mi.2.2.1) [] h Q) : AM S mi as h Q :=
  AM_ofF hy hlen (by rw [hc, hs]; exact w)
