theorem wA_0 : (Cond.selects R_Bo y_Bo_isBehind y_Bo_isBehind) ∈ wsA := List.mem_filter.mpr ⟨List.mem_of_getElem? (i := 0) (by decide +kernel), rfl⟩
theorem wA_1 : (Cond.selects R_Wa y_Wa_shorten y_Wa_shorten) ∈ wsA := List.mem_filter.mpr ⟨List.mem_of_getElem? (i := 1) (by decide +kernel), rfl⟩
theorem wA_2 : (Cond.selects R_Ar y_Ar_arrive y_Ar_arrive) ∈ wsA := List.mem_filter.mpr ⟨List.mem_of_getElem? (i := 2) (by decide +kernel), rfl⟩
theorem wA_3 : (Cond.selects R_Sp y_Sp_endOf y_Sp_endOf) ∈ wsA := List.mem_filter.mpr ⟨List.mem_of_getElem? (i := 3) (by decide +kernel), rfl⟩
theorem wA_4 : (Cond.selects R_Sp y_Sp_spread y_Sp_spread) ∈ wsA := List.mem_filter.mpr ⟨List.mem_of_getElem? (i := 4) (by decide +kernel), rfl⟩
theorem wA_5 : (Cond.selects R_Ac y_Ac_addWalk y_Ac_addWalk) ∈ wsA := List.mem_filter.mpr ⟨List.mem_of_getElem? (i := 5) (by decide +kernel), rfl⟩
theorem wA_6 : (Cond.selects R_Ac y_Ac_put y_Ac_put) ∈ wsA := List.mem_filter.mpr ⟨List.mem_of_getElem? (i := 6) (by decide +kernel), rfl⟩
theorem wA_7 : (Cond.selects R_Ac y_Ac_addDeparture y_Ac_addDeparture) ∈ wsA := List.mem_filter.mpr ⟨List.mem_of_getElem? (i := 7) (by decide +kernel), rfl⟩
theorem wA_8 : (Cond.selects R_Ar y_Ar_endsByRide y_Ar_endsByRide) ∈ wsA := List.mem_filter.mpr ⟨List.mem_of_getElem? (i := 8) (by decide +kernel), rfl⟩
theorem wA_9 : (Cond.selects R_M y_M_isStop y_M_isStop) ∈ wsA := List.mem_filter.mpr ⟨List.mem_of_getElem? (i := 9) (by decide +kernel), rfl⟩
theorem wA_10 : (Cond.selects R_M y_M_areTwo y_M_areTwo) ∈ wsA := List.mem_filter.mpr ⟨List.mem_of_getElem? (i := 10) (by decide +kernel), rfl⟩
theorem wA_11 : (Cond.selects R_M y_M_isRide y_M_isRide) ∈ wsA := List.mem_filter.mpr ⟨List.mem_of_getElem? (i := 11) (by decide +kernel), rfl⟩
theorem wA_12 : (Cond.selects R_M y_M_isOn y_M_isOn) ∈ wsA := List.mem_filter.mpr ⟨List.mem_of_getElem? (i := 12) (by decide +kernel), rfl⟩
theorem wA_13 : (Cond.selects R_M y_M_isAsked y_M_isAsked) ∈ wsA := List.mem_filter.mpr ⟨List.mem_of_getElem? (i := 13) (by decide +kernel), rfl⟩
theorem wA_14 : (Cond.selects R_M y_M_found y_M_found) ∈ wsA := List.mem_filter.mpr ⟨List.mem_of_getElem? (i := 14) (by decide +kernel), rfl⟩
theorem wA_15 : (Cond.selects R_M y_M_find y_M_find) ∈ wsA := List.mem_filter.mpr ⟨List.mem_of_getElem? (i := 15) (by decide +kernel), rfl⟩
theorem wA_16 : (Cond.selects R_M y_M_begin y_M_begin) ∈ wsA := List.mem_filter.mpr ⟨List.mem_of_getElem? (i := 16) (by decide +kernel), rfl⟩
theorem wA_17 : (Cond.selects R_M y_M_goWalks y_M_goWalks) ∈ wsA := List.mem_filter.mpr ⟨List.mem_of_getElem? (i := 17) (by decide +kernel), rfl⟩
theorem wA_18 : (Cond.selects R_M y_M_arrival y_M_arrival) ∈ wsA := List.mem_filter.mpr ⟨List.mem_of_getElem? (i := 18) (by decide +kernel), rfl⟩
theorem wA_19 : (Cond.selects R_M y_M_goRides y_M_goRides) ∈ wsA := List.mem_filter.mpr ⟨List.mem_of_getElem? (i := 19) (by decide +kernel), rfl⟩
theorem wA_20 : (Cond.selects R_M y_M_mayTake y_M_mayTake) ∈ wsA := List.mem_filter.mpr ⟨List.mem_of_getElem? (i := 20) (by decide +kernel), rfl⟩
theorem wA_21 : (Cond.selects R_M y_M_goes y_M_goes) ∈ wsA := List.mem_filter.mpr ⟨List.mem_of_getElem? (i := 21) (by decide +kernel), rfl⟩
theorem wA_22 : (Cond.selects R_M y_M_leaves y_M_leaves) ∈ wsA := List.mem_filter.mpr ⟨List.mem_of_getElem? (i := 22) (by decide +kernel), rfl⟩
theorem wA_23 : (Cond.selects R_M y_M_arrives y_M_arrives) ∈ wsA := List.mem_filter.mpr ⟨List.mem_of_getElem? (i := 23) (by decide +kernel), rfl⟩
theorem wA_24 : (Cond.selects R_M y_M_isBy y_M_isBy) ∈ wsA := List.mem_filter.mpr ⟨List.mem_of_getElem? (i := 24) (by decide +kernel), rfl⟩
theorem wA_25 : (Cond.selects R_M y_M_isSpan y_M_isSpan) ∈ wsA := List.mem_filter.mpr ⟨List.mem_of_getElem? (i := 25) (by decide +kernel), rfl⟩
theorem wA_26 : (Cond.selects R_M y_M_walkBefore y_M_walkBefore) ∈ wsA := List.mem_filter.mpr ⟨List.mem_of_getElem? (i := 26) (by decide +kernel), rfl⟩
theorem wA_27 : (Cond.selects R_M y_M_put y_M_put) ∈ wsA := List.mem_filter.mpr ⟨List.mem_of_getElem? (i := 27) (by decide +kernel), rfl⟩
theorem wA_28 : (Cond.selects R_M y_M_departureBefore y_M_departureBefore) ∈ wsA := List.mem_filter.mpr ⟨List.mem_of_getElem? (i := 28) (by decide +kernel), rfl⟩
theorem wA_29 : (Cond.initialized R_L) ∈ wsA := List.mem_filter.mpr ⟨List.mem_of_getElem? (i := 29) (by decide +kernel), rfl⟩
theorem wA_30 : (Cond.initialized R_T) ∈ wsA := List.mem_filter.mpr ⟨List.mem_of_getElem? (i := 30) (by decide +kernel), rfl⟩
theorem wA_31 : (Cond.initialized R_Ne) ∈ wsA := List.mem_filter.mpr ⟨List.mem_of_getElem? (i := 31) (by decide +kernel), rfl⟩
theorem wA_32 : (Cond.initialized R_Ri) ∈ wsA := List.mem_filter.mpr ⟨List.mem_of_getElem? (i := 32) (by decide +kernel), rfl⟩
theorem wA_33 : (Cond.initialized R_Bo) ∈ wsA := List.mem_filter.mpr ⟨List.mem_of_getElem? (i := 33) (by decide +kernel), rfl⟩
theorem wA_34 : (Cond.initialized R_Wa) ∈ wsA := List.mem_filter.mpr ⟨List.mem_of_getElem? (i := 34) (by decide +kernel), rfl⟩
theorem wA_35 : (Cond.initialized R_J) ∈ wsA := List.mem_filter.mpr ⟨List.mem_of_getElem? (i := 35) (by decide +kernel), rfl⟩
theorem wA_36 : (Cond.initialized R_Ar) ∈ wsA := List.mem_filter.mpr ⟨List.mem_of_getElem? (i := 36) (by decide +kernel), rfl⟩
theorem wA_37 : (Cond.initialized R_Sp) ∈ wsA := List.mem_filter.mpr ⟨List.mem_of_getElem? (i := 37) (by decide +kernel), rfl⟩
theorem wA_38 : (Cond.initialized R_St) ∈ wsA := List.mem_filter.mpr ⟨List.mem_of_getElem? (i := 38) (by decide +kernel), rfl⟩
theorem wA_39 : (Cond.initialized R_Ac) ∈ wsA := List.mem_filter.mpr ⟨List.mem_of_getElem? (i := 39) (by decide +kernel), rfl⟩
theorem wA_40 : (Cond.initialized R_M) ∈ wsA := List.mem_filter.mpr ⟨List.mem_of_getElem? (i := 40) (by decide +kernel), rfl⟩
theorem wA_41 : (Cond.initialized "java/lang/Math") ∈ wsA := List.mem_filter.mpr ⟨List.mem_of_getElem? (i := 41) (by decide +kernel), rfl⟩
theorem wA_42 : (Cond.initialized "java/lang/System") ∈ wsA := List.mem_filter.mpr ⟨List.mem_of_getElem? (i := 42) (by decide +kernel), rfl⟩
theorem wA_43 : (Cond.classLink R_L 7 R_T) ∈ wsA := List.mem_filter.mpr ⟨List.mem_of_getElem? (i := 43) (by decide +kernel), rfl⟩
theorem wA_44 : (Cond.instantiable R_T 6) ∈ wsA := List.mem_filter.mpr ⟨List.mem_of_getElem? (i := 44) (by decide +kernel), rfl⟩
theorem wA_45 : (Cond.methodLink R_L 9 y_T_init) ∈ wsA := List.mem_filter.mpr ⟨List.mem_of_getElem? (i := 45) (by decide +kernel), rfl⟩
theorem wA_46 : (Cond.instanceMethod y_T_init) ∈ wsA := List.mem_filter.mpr ⟨List.mem_of_getElem? (i := 46) (by decide +kernel), rfl⟩
set_option maxRecDepth 20000 in
theorem wA_47 : (Cond.code y_T_init b_T_init 1 none) ∈ wsA := List.mem_filter.mpr ⟨List.mem_of_getElem? (i := 47) rfl, rfl⟩
theorem wA_48 : (Cond.methodLink R_T 3 objectInit) ∈ wsA := List.mem_filter.mpr ⟨List.mem_of_getElem? (i := 48) (by decide +kernel), rfl⟩
theorem wA_49 : (Cond.instanceMethod objectInit) ∈ wsA := List.mem_filter.mpr ⟨List.mem_of_getElem? (i := 49) (by decide +kernel), rfl⟩
set_option maxRecDepth 20000 in
theorem wA_50 : (Cond.code objectInit ⟨#[0xb1]⟩ 1 none) ∈ wsA := List.mem_filter.mpr ⟨List.mem_of_getElem? (i := 50) rfl, rfl⟩
theorem wA_51 : (Cond.classLink R_T 9 R_Ne) ∈ wsA := List.mem_filter.mpr ⟨List.mem_of_getElem? (i := 51) (by decide +kernel), rfl⟩
theorem wA_52 : (Cond.instantiable R_Ne 5) ∈ wsA := List.mem_filter.mpr ⟨List.mem_of_getElem? (i := 52) (by decide +kernel), rfl⟩
theorem wA_53 : (Cond.methodLink R_T 11 y_Ne_init) ∈ wsA := List.mem_filter.mpr ⟨List.mem_of_getElem? (i := 53) (by decide +kernel), rfl⟩
theorem wA_54 : (Cond.instanceMethod y_Ne_init) ∈ wsA := List.mem_filter.mpr ⟨List.mem_of_getElem? (i := 54) (by decide +kernel), rfl⟩
set_option maxRecDepth 20000 in
theorem wA_55 : (Cond.code y_Ne_init b_Ne_init 1 none) ∈ wsA := List.mem_filter.mpr ⟨List.mem_of_getElem? (i := 55) rfl, rfl⟩
theorem wA_56 : (Cond.methodLink R_Ne 3 objectInit) ∈ wsA := List.mem_filter.mpr ⟨List.mem_of_getElem? (i := 56) (by decide +kernel), rfl⟩
theorem wA_57 : (Cond.classLink R_Ne 19 R_Ri) ∈ wsA := List.mem_filter.mpr ⟨List.mem_of_getElem? (i := 57) (by decide +kernel), rfl⟩
theorem wA_58 : (Cond.instantiable R_Ri 7) ∈ wsA := List.mem_filter.mpr ⟨List.mem_of_getElem? (i := 58) (by decide +kernel), rfl⟩
theorem wA_59 : (Cond.methodLink R_Ne 21 y_Ri_init) ∈ wsA := List.mem_filter.mpr ⟨List.mem_of_getElem? (i := 59) (by decide +kernel), rfl⟩
theorem wA_60 : (Cond.instanceMethod y_Ri_init) ∈ wsA := List.mem_filter.mpr ⟨List.mem_of_getElem? (i := 60) (by decide +kernel), rfl⟩
set_option maxRecDepth 20000 in
theorem wA_61 : (Cond.code y_Ri_init b_Ri_init 1 none) ∈ wsA := List.mem_filter.mpr ⟨List.mem_of_getElem? (i := 61) rfl, rfl⟩
theorem wA_62 : (Cond.methodLink R_Ri 3 objectInit) ∈ wsA := List.mem_filter.mpr ⟨List.mem_of_getElem? (i := 62) (by decide +kernel), rfl⟩
theorem wA_63 : (Cond.fieldLink R_Ri 9 "TimedWays$Rides" "count" "I") ∈ wsA := List.mem_filter.mpr ⟨List.mem_of_getElem? (i := 63) (by decide +kernel), rfl⟩
theorem wA_64 : (Cond.fieldLink R_T 51 "TimedWays$Rides" "count" "I") ∈ wsA := List.mem_filter.mpr ⟨List.mem_of_getElem? (i := 64) (by decide +kernel), rfl⟩
theorem wA_65 : (Cond.fieldLink R_Ne 40 "TimedWays$Rides" "count" "I") ∈ wsA := List.mem_filter.mpr ⟨List.mem_of_getElem? (i := 65) (by decide +kernel), rfl⟩
theorem wA_66 : (Cond.fieldLink R_Ar 105 "TimedWays$Rides" "count" "I") ∈ wsA := List.mem_filter.mpr ⟨List.mem_of_getElem? (i := 66) (by decide +kernel), rfl⟩
theorem wA_67 : (Cond.fieldLink R_Ri 15 "TimedWays$Rides" "from" "[I") ∈ wsA := List.mem_filter.mpr ⟨List.mem_of_getElem? (i := 67) (by decide +kernel), rfl⟩
theorem wA_68 : (Cond.fieldLink R_Ac 80 "TimedWays$Rides" "from" "[I") ∈ wsA := List.mem_filter.mpr ⟨List.mem_of_getElem? (i := 68) (by decide +kernel), rfl⟩
theorem wA_69 : (Cond.fieldLink R_Sp 73 "TimedWays$Rides" "from" "[I") ∈ wsA := List.mem_filter.mpr ⟨List.mem_of_getElem? (i := 69) (by decide +kernel), rfl⟩
theorem wA_70 : (Cond.fieldLink R_Bo 39 "TimedWays$Rides" "from" "[I") ∈ wsA := List.mem_filter.mpr ⟨List.mem_of_getElem? (i := 70) (by decide +kernel), rfl⟩
theorem wA_71 : (Cond.fieldLink R_Ar 71 "TimedWays$Rides" "from" "[I") ∈ wsA := List.mem_filter.mpr ⟨List.mem_of_getElem? (i := 71) (by decide +kernel), rfl⟩
theorem wA_72 : (Cond.fieldLink R_T 192 "TimedWays$Rides" "from" "[I") ∈ wsA := List.mem_filter.mpr ⟨List.mem_of_getElem? (i := 72) (by decide +kernel), rfl⟩
theorem wA_73 : (Cond.fieldLink R_Ri 19 "TimedWays$Rides" "to" "[I") ∈ wsA := List.mem_filter.mpr ⟨List.mem_of_getElem? (i := 73) (by decide +kernel), rfl⟩
theorem wA_74 : (Cond.fieldLink R_Sp 82 "TimedWays$Rides" "to" "[I") ∈ wsA := List.mem_filter.mpr ⟨List.mem_of_getElem? (i := 74) (by decide +kernel), rfl⟩
theorem wA_75 : (Cond.fieldLink R_Ar 80 "TimedWays$Rides" "to" "[I") ∈ wsA := List.mem_filter.mpr ⟨List.mem_of_getElem? (i := 75) (by decide +kernel), rfl⟩
theorem wA_76 : (Cond.fieldLink R_T 195 "TimedWays$Rides" "to" "[I") ∈ wsA := List.mem_filter.mpr ⟨List.mem_of_getElem? (i := 76) (by decide +kernel), rfl⟩
theorem wA_77 : (Cond.fieldLink R_Ri 22 "TimedWays$Rides" "minute" "[I") ∈ wsA := List.mem_filter.mpr ⟨List.mem_of_getElem? (i := 77) (by decide +kernel), rfl⟩
theorem wA_78 : (Cond.fieldLink R_T 198 "TimedWays$Rides" "minute" "[I") ∈ wsA := List.mem_filter.mpr ⟨List.mem_of_getElem? (i := 78) (by decide +kernel), rfl⟩
theorem wA_79 : (Cond.fieldLink R_Ri 25 "TimedWays$Rides" "takes" "[I") ∈ wsA := List.mem_filter.mpr ⟨List.mem_of_getElem? (i := 79) (by decide +kernel), rfl⟩
theorem wA_80 : (Cond.fieldLink R_Ac 79 "TimedWays$Rides" "takes" "[I") ∈ wsA := List.mem_filter.mpr ⟨List.mem_of_getElem? (i := 80) (by decide +kernel), rfl⟩
theorem wA_81 : (Cond.fieldLink R_Sp 85 "TimedWays$Rides" "takes" "[I") ∈ wsA := List.mem_filter.mpr ⟨List.mem_of_getElem? (i := 81) (by decide +kernel), rfl⟩
theorem wA_82 : (Cond.fieldLink R_Ar 83 "TimedWays$Rides" "takes" "[I") ∈ wsA := List.mem_filter.mpr ⟨List.mem_of_getElem? (i := 82) (by decide +kernel), rfl⟩
theorem wA_83 : (Cond.fieldLink R_T 201 "TimedWays$Rides" "takes" "[I") ∈ wsA := List.mem_filter.mpr ⟨List.mem_of_getElem? (i := 83) (by decide +kernel), rfl⟩
theorem wA_84 : (Cond.fieldLink R_Ri 28 "TimedWays$Rides" "days" "[I") ∈ wsA := List.mem_filter.mpr ⟨List.mem_of_getElem? (i := 84) (by decide +kernel), rfl⟩
theorem wA_85 : (Cond.fieldLink R_T 204 "TimedWays$Rides" "days" "[I") ∈ wsA := List.mem_filter.mpr ⟨List.mem_of_getElem? (i := 85) (by decide +kernel), rfl⟩
theorem wA_86 : (Cond.fieldLink R_Ri 31 "TimedWays$Rides" "lateness" "[I") ∈ wsA := List.mem_filter.mpr ⟨List.mem_of_getElem? (i := 86) (by decide +kernel), rfl⟩
theorem wA_87 : (Cond.fieldLink R_T 111 "TimedWays$Rides" "lateness" "[I") ∈ wsA := List.mem_filter.mpr ⟨List.mem_of_getElem? (i := 87) (by decide +kernel), rfl⟩
theorem wA_88 : (Cond.fieldLink R_Bo 45 "TimedWays$Rides" "lateness" "[I") ∈ wsA := List.mem_filter.mpr ⟨List.mem_of_getElem? (i := 88) (by decide +kernel), rfl⟩
theorem wA_104 : (Cond.arrayClass .int) ∈ wsA := List.mem_filter.mpr ⟨List.mem_of_getElem? (i := 104) (by decide +kernel), rfl⟩
theorem wA_105 : (Cond.classLink R_Ne 26 R_Bo) ∈ wsA := List.mem_filter.mpr ⟨List.mem_of_getElem? (i := 105) (by decide +kernel), rfl⟩
theorem wA_106 : (Cond.instantiable R_Bo 3) ∈ wsA := List.mem_filter.mpr ⟨List.mem_of_getElem? (i := 106) (by decide +kernel), rfl⟩
theorem wA_107 : (Cond.methodLink R_Ne 28 y_Bo_init) ∈ wsA := List.mem_filter.mpr ⟨List.mem_of_getElem? (i := 107) (by decide +kernel), rfl⟩
theorem wA_108 : (Cond.instanceMethod y_Bo_init) ∈ wsA := List.mem_filter.mpr ⟨List.mem_of_getElem? (i := 108) (by decide +kernel), rfl⟩
set_option maxRecDepth 20000 in
theorem wA_109 : (Cond.code y_Bo_init b_Bo_init 1 none) ∈ wsA := List.mem_filter.mpr ⟨List.mem_of_getElem? (i := 109) rfl, rfl⟩
theorem wA_110 : (Cond.methodLink R_Bo 3 objectInit) ∈ wsA := List.mem_filter.mpr ⟨List.mem_of_getElem? (i := 110) (by decide +kernel), rfl⟩
theorem wA_111 : (Cond.fieldLink R_Bo 9 "TimedWays$Board" "count" "I") ∈ wsA := List.mem_filter.mpr ⟨List.mem_of_getElem? (i := 111) (by decide +kernel), rfl⟩
theorem wA_112 : (Cond.fieldLink R_Sp 31 "TimedWays$Board" "count" "I") ∈ wsA := List.mem_filter.mpr ⟨List.mem_of_getElem? (i := 112) (by decide +kernel), rfl⟩
theorem wA_113 : (Cond.fieldLink R_Ne 43 "TimedWays$Board" "count" "I") ∈ wsA := List.mem_filter.mpr ⟨List.mem_of_getElem? (i := 113) (by decide +kernel), rfl⟩
theorem wA_114 : (Cond.fieldLink R_Ar 54 "TimedWays$Board" "count" "I") ∈ wsA := List.mem_filter.mpr ⟨List.mem_of_getElem? (i := 114) (by decide +kernel), rfl⟩
theorem wA_115 : (Cond.fieldLink R_T 208 "TimedWays$Board" "count" "I") ∈ wsA := List.mem_filter.mpr ⟨List.mem_of_getElem? (i := 115) (by decide +kernel), rfl⟩
theorem wA_116 : (Cond.fieldLink R_Bo 15 "TimedWays$Board" "departures" "[I") ∈ wsA := List.mem_filter.mpr ⟨List.mem_of_getElem? (i := 116) (by decide +kernel), rfl⟩
theorem wA_117 : (Cond.fieldLink R_Bo 19 "TimedWays$Board" "leaves" "[I") ∈ wsA := List.mem_filter.mpr ⟨List.mem_of_getElem? (i := 117) (by decide +kernel), rfl⟩
theorem wA_118 : (Cond.fieldLink R_Sp 37 "TimedWays$Board" "leaves" "[I") ∈ wsA := List.mem_filter.mpr ⟨List.mem_of_getElem? (i := 118) (by decide +kernel), rfl⟩
theorem wA_119 : (Cond.fieldLink R_Ar 64 "TimedWays$Board" "leaves" "[I") ∈ wsA := List.mem_filter.mpr ⟨List.mem_of_getElem? (i := 119) (by decide +kernel), rfl⟩
theorem wA_127 : (Cond.classLink R_Ne 33 R_Wa) ∈ wsA := List.mem_filter.mpr ⟨List.mem_of_getElem? (i := 127) (by decide +kernel), rfl⟩
theorem wA_128 : (Cond.instantiable R_Wa 5) ∈ wsA := List.mem_filter.mpr ⟨List.mem_of_getElem? (i := 128) (by decide +kernel), rfl⟩
theorem wA_129 : (Cond.methodLink R_Ne 35 y_Wa_init) ∈ wsA := List.mem_filter.mpr ⟨List.mem_of_getElem? (i := 129) (by decide +kernel), rfl⟩
theorem wA_130 : (Cond.instanceMethod y_Wa_init) ∈ wsA := List.mem_filter.mpr ⟨List.mem_of_getElem? (i := 130) (by decide +kernel), rfl⟩
set_option maxRecDepth 20000 in
theorem wA_131 : (Cond.code y_Wa_init b_Wa_init 1 none) ∈ wsA := List.mem_filter.mpr ⟨List.mem_of_getElem? (i := 131) rfl, rfl⟩
theorem wA_132 : (Cond.methodLink R_Wa 3 objectInit) ∈ wsA := List.mem_filter.mpr ⟨List.mem_of_getElem? (i := 132) (by decide +kernel), rfl⟩
theorem wA_133 : (Cond.constant R_Wa 28 1000000) ∈ wsA := List.mem_filter.mpr ⟨List.mem_of_getElem? (i := 133) (by decide +kernel), rfl⟩
theorem wA_134 : (Cond.methodLink R_Wa 29 y_J_fill) ∈ wsA := List.mem_filter.mpr ⟨List.mem_of_getElem? (i := 134) (by decide +kernel), rfl⟩
theorem wA_135 : (Cond.static y_J_fill) ∈ wsA := List.mem_filter.mpr ⟨List.mem_of_getElem? (i := 135) (by decide +kernel), rfl⟩
set_option maxRecDepth 20000 in
theorem wA_136 : (Cond.code y_J_fill b_J_fill 4 none) ∈ wsA := List.mem_filter.mpr ⟨List.mem_of_getElem? (i := 136) rfl, rfl⟩
theorem wA_137 : (Cond.fieldLink R_Wa 9 "TimedWays$Walks" "count" "I") ∈ wsA := List.mem_filter.mpr ⟨List.mem_of_getElem? (i := 137) (by decide +kernel), rfl⟩
theorem wA_138 : (Cond.fieldLink R_T 99 "TimedWays$Walks" "count" "I") ∈ wsA := List.mem_filter.mpr ⟨List.mem_of_getElem? (i := 138) (by decide +kernel), rfl⟩
theorem wA_139 : (Cond.fieldLink R_Ar 98 "TimedWays$Walks" "count" "I") ∈ wsA := List.mem_filter.mpr ⟨List.mem_of_getElem? (i := 139) (by decide +kernel), rfl⟩
theorem wA_140 : (Cond.fieldLink R_Wa 15 "TimedWays$Walks" "from" "[I") ∈ wsA := List.mem_filter.mpr ⟨List.mem_of_getElem? (i := 140) (by decide +kernel), rfl⟩
theorem wA_141 : (Cond.fieldLink R_Ac 55 "TimedWays$Walks" "from" "[I") ∈ wsA := List.mem_filter.mpr ⟨List.mem_of_getElem? (i := 141) (by decide +kernel), rfl⟩
theorem wA_142 : (Cond.fieldLink R_Ar 99 "TimedWays$Walks" "from" "[I") ∈ wsA := List.mem_filter.mpr ⟨List.mem_of_getElem? (i := 142) (by decide +kernel), rfl⟩
theorem wA_143 : (Cond.fieldLink R_Wa 19 "TimedWays$Walks" "to" "[I") ∈ wsA := List.mem_filter.mpr ⟨List.mem_of_getElem? (i := 143) (by decide +kernel), rfl⟩
theorem wA_144 : (Cond.fieldLink R_Ar 104 "TimedWays$Walks" "to" "[I") ∈ wsA := List.mem_filter.mpr ⟨List.mem_of_getElem? (i := 144) (by decide +kernel), rfl⟩
theorem wA_145 : (Cond.fieldLink R_Wa 22 "TimedWays$Walks" "takes" "[I") ∈ wsA := List.mem_filter.mpr ⟨List.mem_of_getElem? (i := 145) (by decide +kernel), rfl⟩
theorem wA_146 : (Cond.fieldLink R_Ac 60 "TimedWays$Walks" "takes" "[I") ∈ wsA := List.mem_filter.mpr ⟨List.mem_of_getElem? (i := 146) (by decide +kernel), rfl⟩
theorem wA_147 : (Cond.fieldLink R_Ar 103 "TimedWays$Walks" "takes" "[I") ∈ wsA := List.mem_filter.mpr ⟨List.mem_of_getElem? (i := 147) (by decide +kernel), rfl⟩
theorem wA_148 : (Cond.fieldLink R_Wa 25 "TimedWays$Walks" "shortest" "[I") ∈ wsA := List.mem_filter.mpr ⟨List.mem_of_getElem? (i := 148) (by decide +kernel), rfl⟩
theorem wA_160 : (Cond.fieldLink R_Ne 9 "TimedWays$Network" "stopCount" "I") ∈ wsA := List.mem_filter.mpr ⟨List.mem_of_getElem? (i := 160) (by decide +kernel), rfl⟩
theorem wA_161 : (Cond.fieldLink R_T 66 "TimedWays$Network" "stopCount" "I") ∈ wsA := List.mem_filter.mpr ⟨List.mem_of_getElem? (i := 161) (by decide +kernel), rfl⟩
theorem wA_162 : (Cond.fieldLink R_Ar 92 "TimedWays$Network" "stopCount" "I") ∈ wsA := List.mem_filter.mpr ⟨List.mem_of_getElem? (i := 162) (by decide +kernel), rfl⟩
theorem wA_163 : (Cond.fieldLink R_Ne 15 "TimedWays$Network" "changes" "[I") ∈ wsA := List.mem_filter.mpr ⟨List.mem_of_getElem? (i := 163) (by decide +kernel), rfl⟩
theorem wA_164 : (Cond.fieldLink R_T 69 "TimedWays$Network" "changes" "[I") ∈ wsA := List.mem_filter.mpr ⟨List.mem_of_getElem? (i := 164) (by decide +kernel), rfl⟩
theorem wA_165 : (Cond.fieldLink R_Ar 89 "TimedWays$Network" "changes" "[I") ∈ wsA := List.mem_filter.mpr ⟨List.mem_of_getElem? (i := 165) (by decide +kernel), rfl⟩
theorem wA_166 : (Cond.fieldLink R_Ne 22 "TimedWays$Network" "rides" "LTimedWays$Rides;") ∈ wsA := List.mem_filter.mpr ⟨List.mem_of_getElem? (i := 166) (by decide +kernel), rfl⟩
theorem wA_167 : (Cond.fieldLink R_T 47 "TimedWays$Network" "rides" "LTimedWays$Rides;") ∈ wsA := List.mem_filter.mpr ⟨List.mem_of_getElem? (i := 167) (by decide +kernel), rfl⟩
theorem wA_168 : (Cond.fieldLink R_Ac 70 "TimedWays$Network" "rides" "LTimedWays$Rides;") ∈ wsA := List.mem_filter.mpr ⟨List.mem_of_getElem? (i := 168) (by decide +kernel), rfl⟩
theorem wA_169 : (Cond.fieldLink R_Sp 69 "TimedWays$Network" "rides" "LTimedWays$Rides;") ∈ wsA := List.mem_filter.mpr ⟨List.mem_of_getElem? (i := 169) (by decide +kernel), rfl⟩
theorem wA_170 : (Cond.fieldLink R_Ar 67 "TimedWays$Network" "rides" "LTimedWays$Rides;") ∈ wsA := List.mem_filter.mpr ⟨List.mem_of_getElem? (i := 170) (by decide +kernel), rfl⟩
theorem wA_171 : (Cond.fieldLink R_Ne 29 "TimedWays$Network" "board" "LTimedWays$Board;") ∈ wsA := List.mem_filter.mpr ⟨List.mem_of_getElem? (i := 171) (by decide +kernel), rfl⟩
theorem wA_172 : (Cond.fieldLink R_Sp 25 "TimedWays$Network" "board" "LTimedWays$Board;") ∈ wsA := List.mem_filter.mpr ⟨List.mem_of_getElem? (i := 172) (by decide +kernel), rfl⟩
theorem wA_173 : (Cond.fieldLink R_T 85 "TimedWays$Network" "board" "LTimedWays$Board;") ∈ wsA := List.mem_filter.mpr ⟨List.mem_of_getElem? (i := 173) (by decide +kernel), rfl⟩
theorem wA_174 : (Cond.fieldLink R_Ar 50 "TimedWays$Network" "board" "LTimedWays$Board;") ∈ wsA := List.mem_filter.mpr ⟨List.mem_of_getElem? (i := 174) (by decide +kernel), rfl⟩
theorem wA_175 : (Cond.fieldLink R_Ne 36 "TimedWays$Network" "walks" "LTimedWays$Walks;") ∈ wsA := List.mem_filter.mpr ⟨List.mem_of_getElem? (i := 175) (by decide +kernel), rfl⟩
theorem wA_176 : (Cond.fieldLink R_Sp 53 "TimedWays$Network" "walks" "LTimedWays$Walks;") ∈ wsA := List.mem_filter.mpr ⟨List.mem_of_getElem? (i := 176) (by decide +kernel), rfl⟩
theorem wA_177 : (Cond.fieldLink R_Ac 49 "TimedWays$Network" "walks" "LTimedWays$Walks;") ∈ wsA := List.mem_filter.mpr ⟨List.mem_of_getElem? (i := 177) (by decide +kernel), rfl⟩
theorem wA_178 : (Cond.fieldLink R_Ar 31 "TimedWays$Network" "walks" "LTimedWays$Walks;") ∈ wsA := List.mem_filter.mpr ⟨List.mem_of_getElem? (i := 178) (by decide +kernel), rfl⟩
theorem wA_179 : (Cond.fieldLink R_T 95 "TimedWays$Network" "walks" "LTimedWays$Walks;") ∈ wsA := List.mem_filter.mpr ⟨List.mem_of_getElem? (i := 179) (by decide +kernel), rfl⟩
theorem wA_191 : (Cond.classLink R_T 16 R_Ar) ∈ wsA := List.mem_filter.mpr ⟨List.mem_of_getElem? (i := 191) (by decide +kernel), rfl⟩
theorem wA_192 : (Cond.instantiable R_Ar 2) ∈ wsA := List.mem_filter.mpr ⟨List.mem_of_getElem? (i := 192) (by decide +kernel), rfl⟩
theorem wA_193 : (Cond.methodLink R_T 18 y_Ar_init) ∈ wsA := List.mem_filter.mpr ⟨List.mem_of_getElem? (i := 193) (by decide +kernel), rfl⟩
theorem wA_194 : (Cond.instanceMethod y_Ar_init) ∈ wsA := List.mem_filter.mpr ⟨List.mem_of_getElem? (i := 194) (by decide +kernel), rfl⟩
set_option maxRecDepth 20000 in
theorem wA_195 : (Cond.code y_Ar_init b_Ar_init 1 none) ∈ wsA := List.mem_filter.mpr ⟨List.mem_of_getElem? (i := 195) rfl, rfl⟩
theorem wA_196 : (Cond.methodLink R_Ar 3 objectInit) ∈ wsA := List.mem_filter.mpr ⟨List.mem_of_getElem? (i := 196) (by decide +kernel), rfl⟩
theorem wA_197 : (Cond.fieldLink R_Ar 9 "TimedWays$Arrivals" "byRide" "[I") ∈ wsA := List.mem_filter.mpr ⟨List.mem_of_getElem? (i := 197) (by decide +kernel), rfl⟩
theorem wA_198 : (Cond.fieldLink R_Ar 15 "TimedWays$Arrivals" "byWalk" "[I") ∈ wsA := List.mem_filter.mpr ⟨List.mem_of_getElem? (i := 198) (by decide +kernel), rfl⟩
theorem wA_204 : (Cond.classLink R_T 26 R_Sp) ∈ wsA := List.mem_filter.mpr ⟨List.mem_of_getElem? (i := 204) (by decide +kernel), rfl⟩
theorem wA_205 : (Cond.instantiable R_Sp 2) ∈ wsA := List.mem_filter.mpr ⟨List.mem_of_getElem? (i := 205) (by decide +kernel), rfl⟩
theorem wA_206 : (Cond.methodLink R_T 28 y_Sp_init) ∈ wsA := List.mem_filter.mpr ⟨List.mem_of_getElem? (i := 206) (by decide +kernel), rfl⟩
theorem wA_207 : (Cond.instanceMethod y_Sp_init) ∈ wsA := List.mem_filter.mpr ⟨List.mem_of_getElem? (i := 207) (by decide +kernel), rfl⟩
set_option maxRecDepth 20000 in
theorem wA_208 : (Cond.code y_Sp_init b_Sp_init 1 none) ∈ wsA := List.mem_filter.mpr ⟨List.mem_of_getElem? (i := 208) rfl, rfl⟩
theorem wA_209 : (Cond.methodLink R_Sp 3 objectInit) ∈ wsA := List.mem_filter.mpr ⟨List.mem_of_getElem? (i := 209) (by decide +kernel), rfl⟩
theorem wA_210 : (Cond.fieldLink R_Sp 9 "TimedWays$Span" "onward" "[I") ∈ wsA := List.mem_filter.mpr ⟨List.mem_of_getElem? (i := 210) (by decide +kernel), rfl⟩
theorem wA_211 : (Cond.fieldLink R_Sp 15 "TimedWays$Span" "ends" "[I") ∈ wsA := List.mem_filter.mpr ⟨List.mem_of_getElem? (i := 211) (by decide +kernel), rfl⟩
theorem wA_212 : (Cond.fieldLink R_St 22 "TimedWays$Span" "ends" "[I") ∈ wsA := List.mem_filter.mpr ⟨List.mem_of_getElem? (i := 212) (by decide +kernel), rfl⟩
theorem wA_218 : (Cond.classLink R_T 33 R_St) ∈ wsA := List.mem_filter.mpr ⟨List.mem_of_getElem? (i := 218) (by decide +kernel), rfl⟩
theorem wA_219 : (Cond.instantiable R_St 3) ∈ wsA := List.mem_filter.mpr ⟨List.mem_of_getElem? (i := 219) (by decide +kernel), rfl⟩
theorem wA_220 : (Cond.methodLink R_T 35 y_St_init) ∈ wsA := List.mem_filter.mpr ⟨List.mem_of_getElem? (i := 220) (by decide +kernel), rfl⟩
theorem wA_221 : (Cond.instanceMethod y_St_init) ∈ wsA := List.mem_filter.mpr ⟨List.mem_of_getElem? (i := 221) (by decide +kernel), rfl⟩
set_option maxRecDepth 20000 in
theorem wA_222 : (Cond.code y_St_init b_St_init 1 none) ∈ wsA := List.mem_filter.mpr ⟨List.mem_of_getElem? (i := 222) rfl, rfl⟩
theorem wA_223 : (Cond.methodLink R_St 3 objectInit) ∈ wsA := List.mem_filter.mpr ⟨List.mem_of_getElem? (i := 223) (by decide +kernel), rfl⟩
theorem wA_224 : (Cond.fieldLink R_St 9 "TimedWays$Steps" "count" "I") ∈ wsA := List.mem_filter.mpr ⟨List.mem_of_getElem? (i := 224) (by decide +kernel), rfl⟩
theorem wA_225 : (Cond.fieldLink R_T 60 "TimedWays$Steps" "count" "I") ∈ wsA := List.mem_filter.mpr ⟨List.mem_of_getElem? (i := 225) (by decide +kernel), rfl⟩
theorem wA_226 : (Cond.fieldLink R_St 15 "TimedWays$Steps" "times" "[I") ∈ wsA := List.mem_filter.mpr ⟨List.mem_of_getElem? (i := 226) (by decide +kernel), rfl⟩
theorem wA_227 : (Cond.fieldLink R_T 167 "TimedWays$Steps" "times" "[I") ∈ wsA := List.mem_filter.mpr ⟨List.mem_of_getElem? (i := 227) (by decide +kernel), rfl⟩
theorem wA_228 : (Cond.fieldLink R_St 19 "TimedWays$Steps" "ends" "[I") ∈ wsA := List.mem_filter.mpr ⟨List.mem_of_getElem? (i := 228) (by decide +kernel), rfl⟩
theorem wA_229 : (Cond.fieldLink R_T 170 "TimedWays$Steps" "ends" "[I") ∈ wsA := List.mem_filter.mpr ⟨List.mem_of_getElem? (i := 229) (by decide +kernel), rfl⟩
theorem wA_237 : (Cond.classLink R_T 40 R_Ac) ∈ wsA := List.mem_filter.mpr ⟨List.mem_of_getElem? (i := 237) (by decide +kernel), rfl⟩
theorem wA_238 : (Cond.instantiable R_Ac 5) ∈ wsA := List.mem_filter.mpr ⟨List.mem_of_getElem? (i := 238) (by decide +kernel), rfl⟩
theorem wA_239 : (Cond.methodLink R_T 42 y_Ac_init) ∈ wsA := List.mem_filter.mpr ⟨List.mem_of_getElem? (i := 239) (by decide +kernel), rfl⟩
theorem wA_240 : (Cond.instanceMethod y_Ac_init) ∈ wsA := List.mem_filter.mpr ⟨List.mem_of_getElem? (i := 240) (by decide +kernel), rfl⟩
set_option maxRecDepth 20000 in
theorem wA_241 : (Cond.code y_Ac_init b_Ac_init 1 none) ∈ wsA := List.mem_filter.mpr ⟨List.mem_of_getElem? (i := 241) rfl, rfl⟩
theorem wA_242 : (Cond.methodLink R_Ac 3 objectInit) ∈ wsA := List.mem_filter.mpr ⟨List.mem_of_getElem? (i := 242) (by decide +kernel), rfl⟩
theorem wA_243 : (Cond.fieldLink R_Ac 9 "TimedWays$Acts" "count" "I") ∈ wsA := List.mem_filter.mpr ⟨List.mem_of_getElem? (i := 243) (by decide +kernel), rfl⟩
theorem wA_244 : (Cond.fieldLink R_T 61 "TimedWays$Acts" "count" "I") ∈ wsA := List.mem_filter.mpr ⟨List.mem_of_getElem? (i := 244) (by decide +kernel), rfl⟩
theorem wA_245 : (Cond.fieldLink R_Ac 15 "TimedWays$Acts" "numbers" "[I") ∈ wsA := List.mem_filter.mpr ⟨List.mem_of_getElem? (i := 245) (by decide +kernel), rfl⟩
theorem wA_246 : (Cond.fieldLink R_T 181 "TimedWays$Acts" "numbers" "[I") ∈ wsA := List.mem_filter.mpr ⟨List.mem_of_getElem? (i := 246) (by decide +kernel), rfl⟩
theorem wA_247 : (Cond.fieldLink R_Ac 19 "TimedWays$Acts" "days" "[I") ∈ wsA := List.mem_filter.mpr ⟨List.mem_of_getElem? (i := 247) (by decide +kernel), rfl⟩
theorem wA_248 : (Cond.fieldLink R_T 178 "TimedWays$Acts" "days" "[I") ∈ wsA := List.mem_filter.mpr ⟨List.mem_of_getElem? (i := 248) (by decide +kernel), rfl⟩
theorem wA_249 : (Cond.fieldLink R_Ac 22 "TimedWays$Acts" "begins" "[I") ∈ wsA := List.mem_filter.mpr ⟨List.mem_of_getElem? (i := 249) (by decide +kernel), rfl⟩
theorem wA_250 : (Cond.fieldLink R_T 184 "TimedWays$Acts" "begins" "[I") ∈ wsA := List.mem_filter.mpr ⟨List.mem_of_getElem? (i := 250) (by decide +kernel), rfl⟩
theorem wA_251 : (Cond.fieldLink R_Ac 25 "TimedWays$Acts" "ends" "[I") ∈ wsA := List.mem_filter.mpr ⟨List.mem_of_getElem? (i := 251) (by decide +kernel), rfl⟩
theorem wA_252 : (Cond.fieldLink R_T 187 "TimedWays$Acts" "ends" "[I") ∈ wsA := List.mem_filter.mpr ⟨List.mem_of_getElem? (i := 252) (by decide +kernel), rfl⟩
theorem wA_264 : (Cond.fieldLink R_T 12 "TimedWays" "net" "LTimedWays$Network;") ∈ wsA := List.mem_filter.mpr ⟨List.mem_of_getElem? (i := 264) (by decide +kernel), rfl⟩
theorem wA_265 : (Cond.fieldLink R_T 19 "TimedWays" "arrivals" "LTimedWays$Arrivals;") ∈ wsA := List.mem_filter.mpr ⟨List.mem_of_getElem? (i := 265) (by decide +kernel), rfl⟩
theorem wA_266 : (Cond.fieldLink R_T 23 "TimedWays" "before" "LTimedWays$Arrivals;") ∈ wsA := List.mem_filter.mpr ⟨List.mem_of_getElem? (i := 266) (by decide +kernel), rfl⟩
theorem wA_267 : (Cond.fieldLink R_T 29 "TimedWays" "span" "LTimedWays$Span;") ∈ wsA := List.mem_filter.mpr ⟨List.mem_of_getElem? (i := 267) (by decide +kernel), rfl⟩
theorem wA_268 : (Cond.fieldLink R_T 36 "TimedWays" "steps" "LTimedWays$Steps;") ∈ wsA := List.mem_filter.mpr ⟨List.mem_of_getElem? (i := 268) (by decide +kernel), rfl⟩
theorem wA_269 : (Cond.fieldLink R_T 43 "TimedWays" "acts" "LTimedWays$Acts;") ∈ wsA := List.mem_filter.mpr ⟨List.mem_of_getElem? (i := 269) (by decide +kernel), rfl⟩
theorem wA_283 : (Cond.methodLink R_L 13 y_T_clear) ∈ wsA := List.mem_filter.mpr ⟨List.mem_of_getElem? (i := 283) (by decide +kernel), rfl⟩
theorem wA_284 : (Cond.instanceMethod y_T_clear) ∈ wsA := List.mem_filter.mpr ⟨List.mem_of_getElem? (i := 284) (by decide +kernel), rfl⟩
theorem wA_285 : (Cond.selects R_T y_T_clear y_T_clear) ∈ wsA := List.mem_filter.mpr ⟨List.mem_of_getElem? (i := 285) (by decide +kernel), rfl⟩
set_option maxRecDepth 20000 in
theorem wA_286 : (Cond.code y_T_clear b_T_clear 2 (some .int)) ∈ wsA := List.mem_filter.mpr ⟨List.mem_of_getElem? (i := 286) rfl, rfl⟩
theorem wA_287 : (Cond.methodLink R_T 57 y_Ne_empty) ∈ wsA := List.mem_filter.mpr ⟨List.mem_of_getElem? (i := 287) (by decide +kernel), rfl⟩
theorem wA_288 : (Cond.instanceMethod y_Ne_empty) ∈ wsA := List.mem_filter.mpr ⟨List.mem_of_getElem? (i := 288) (by decide +kernel), rfl⟩
theorem wA_289 : (Cond.selects R_Ne y_Ne_empty y_Ne_empty) ∈ wsA := List.mem_filter.mpr ⟨List.mem_of_getElem? (i := 289) (by decide +kernel), rfl⟩
set_option maxRecDepth 20000 in
theorem wA_290 : (Cond.code y_Ne_empty b_Ne_empty 1 none) ∈ wsA := List.mem_filter.mpr ⟨List.mem_of_getElem? (i := 290) rfl, rfl⟩
theorem wA_291 : (Cond.methodLink R_Ne 44 y_Wa_empty) ∈ wsA := List.mem_filter.mpr ⟨List.mem_of_getElem? (i := 291) (by decide +kernel), rfl⟩
theorem wA_292 : (Cond.instanceMethod y_Wa_empty) ∈ wsA := List.mem_filter.mpr ⟨List.mem_of_getElem? (i := 292) (by decide +kernel), rfl⟩
theorem wA_293 : (Cond.selects R_Wa y_Wa_empty y_Wa_empty) ∈ wsA := List.mem_filter.mpr ⟨List.mem_of_getElem? (i := 293) (by decide +kernel), rfl⟩
set_option maxRecDepth 20000 in
theorem wA_294 : (Cond.code y_Wa_empty b_Wa_empty 1 none) ∈ wsA := List.mem_filter.mpr ⟨List.mem_of_getElem? (i := 294) rfl, rfl⟩
theorem wA_295 : (Cond.methodLink R_L 18 y_T_stop) ∈ wsA := List.mem_filter.mpr ⟨List.mem_of_getElem? (i := 295) (by decide +kernel), rfl⟩
theorem wA_296 : (Cond.instanceMethod y_T_stop) ∈ wsA := List.mem_filter.mpr ⟨List.mem_of_getElem? (i := 296) (by decide +kernel), rfl⟩
theorem wA_297 : (Cond.selects R_T y_T_stop y_T_stop) ∈ wsA := List.mem_filter.mpr ⟨List.mem_of_getElem? (i := 297) (by decide +kernel), rfl⟩
set_option maxRecDepth 20000 in
theorem wA_298 : (Cond.code y_T_stop b_T_stop 2 (some .int)) ∈ wsA := List.mem_filter.mpr ⟨List.mem_of_getElem? (i := 298) rfl, rfl⟩
theorem wA_299 : (Cond.methodLink R_T 62 y_T_within) ∈ wsA := List.mem_filter.mpr ⟨List.mem_of_getElem? (i := 299) (by decide +kernel), rfl⟩
theorem wA_300 : (Cond.static y_T_within) ∈ wsA := List.mem_filter.mpr ⟨List.mem_of_getElem? (i := 300) (by decide +kernel), rfl⟩
set_option maxRecDepth 20000 in
theorem wA_301 : (Cond.code y_T_within b_T_within 3 (some .boolean)) ∈ wsA := List.mem_filter.mpr ⟨List.mem_of_getElem? (i := 301) rfl, rfl⟩
theorem wA_302 : (Cond.methodLink R_L 23 y_T_change) ∈ wsA := List.mem_filter.mpr ⟨List.mem_of_getElem? (i := 302) (by decide +kernel), rfl⟩
theorem wA_303 : (Cond.instanceMethod y_T_change) ∈ wsA := List.mem_filter.mpr ⟨List.mem_of_getElem? (i := 303) (by decide +kernel), rfl⟩
theorem wA_304 : (Cond.selects R_T y_T_change y_T_change) ∈ wsA := List.mem_filter.mpr ⟨List.mem_of_getElem? (i := 304) (by decide +kernel), rfl⟩
set_option maxRecDepth 20000 in
theorem wA_305 : (Cond.code y_T_change b_T_change 4 (some .int)) ∈ wsA := List.mem_filter.mpr ⟨List.mem_of_getElem? (i := 305) rfl, rfl⟩
theorem wA_306 : (Cond.methodLink R_T 73 y_Ne_hasStop) ∈ wsA := List.mem_filter.mpr ⟨List.mem_of_getElem? (i := 306) (by decide +kernel), rfl⟩
theorem wA_307 : (Cond.instanceMethod y_Ne_hasStop) ∈ wsA := List.mem_filter.mpr ⟨List.mem_of_getElem? (i := 307) (by decide +kernel), rfl⟩
theorem wA_308 : (Cond.selects R_Ne y_Ne_hasStop y_Ne_hasStop) ∈ wsA := List.mem_filter.mpr ⟨List.mem_of_getElem? (i := 308) (by decide +kernel), rfl⟩
set_option maxRecDepth 20000 in
theorem wA_309 : (Cond.code y_Ne_hasStop b_Ne_hasStop 2 (some .boolean)) ∈ wsA := List.mem_filter.mpr ⟨List.mem_of_getElem? (i := 309) rfl, rfl⟩
theorem wA_311 : (Cond.methodLink R_L 28 y_T_ride) ∈ wsA := List.mem_filter.mpr ⟨List.mem_of_getElem? (i := 311) (by decide +kernel), rfl⟩
theorem wA_312 : (Cond.instanceMethod y_T_ride) ∈ wsA := List.mem_filter.mpr ⟨List.mem_of_getElem? (i := 312) (by decide +kernel), rfl⟩
theorem wA_313 : (Cond.selects R_T y_T_ride y_T_ride) ∈ wsA := List.mem_filter.mpr ⟨List.mem_of_getElem? (i := 313) (by decide +kernel), rfl⟩
set_option maxRecDepth 20000 in
theorem wA_314 : (Cond.code y_T_ride b_T_ride 7 (some .int)) ∈ wsA := List.mem_filter.mpr ⟨List.mem_of_getElem? (i := 314) rfl, rfl⟩
theorem wA_315 : (Cond.methodLink R_T 77 y_Ne_hasStops) ∈ wsA := List.mem_filter.mpr ⟨List.mem_of_getElem? (i := 315) (by decide +kernel), rfl⟩
theorem wA_316 : (Cond.instanceMethod y_Ne_hasStops) ∈ wsA := List.mem_filter.mpr ⟨List.mem_of_getElem? (i := 316) (by decide +kernel), rfl⟩
theorem wA_317 : (Cond.selects R_Ne y_Ne_hasStops y_Ne_hasStops) ∈ wsA := List.mem_filter.mpr ⟨List.mem_of_getElem? (i := 317) (by decide +kernel), rfl⟩
set_option maxRecDepth 20000 in
theorem wA_318 : (Cond.code y_Ne_hasStops b_Ne_hasStops 3 (some .boolean)) ∈ wsA := List.mem_filter.mpr ⟨List.mem_of_getElem? (i := 318) rfl, rfl⟩
theorem wA_319 : (Cond.methodLink R_Ne 51 y_Ne_hasStop) ∈ wsA := List.mem_filter.mpr ⟨List.mem_of_getElem? (i := 319) (by decide +kernel), rfl⟩
theorem wA_320 : (Cond.methodLink R_T 81 y_Ri_add) ∈ wsA := List.mem_filter.mpr ⟨List.mem_of_getElem? (i := 320) (by decide +kernel), rfl⟩
theorem wA_321 : (Cond.instanceMethod y_Ri_add) ∈ wsA := List.mem_filter.mpr ⟨List.mem_of_getElem? (i := 321) (by decide +kernel), rfl⟩
theorem wA_322 : (Cond.selects R_Ri y_Ri_add y_Ri_add) ∈ wsA := List.mem_filter.mpr ⟨List.mem_of_getElem? (i := 322) (by decide +kernel), rfl⟩
set_option maxRecDepth 20000 in
theorem wA_323 : (Cond.code y_Ri_add b_Ri_add 8 (some .int)) ∈ wsA := List.mem_filter.mpr ⟨List.mem_of_getElem? (i := 323) rfl, rfl⟩
theorem wA_324 : (Cond.methodLink R_Ri 38 y_Ri_isOnDay) ∈ wsA := List.mem_filter.mpr ⟨List.mem_of_getElem? (i := 324) (by decide +kernel), rfl⟩
theorem wA_325 : (Cond.instanceMethod y_Ri_isOnDay) ∈ wsA := List.mem_filter.mpr ⟨List.mem_of_getElem? (i := 325) (by decide +kernel), rfl⟩
theorem wA_326 : (Cond.selects R_Ri y_Ri_isOnDay y_Ri_isOnDay) ∈ wsA := List.mem_filter.mpr ⟨List.mem_of_getElem? (i := 326) (by decide +kernel), rfl⟩
set_option maxRecDepth 20000 in
theorem wA_327 : (Cond.code y_Ri_isOnDay b_Ri_isOnDay 3 (some .boolean)) ∈ wsA := List.mem_filter.mpr ⟨List.mem_of_getElem? (i := 327) rfl, rfl⟩
theorem wA_328 : (Cond.methodLink R_T 89 y_Bo_putRide) ∈ wsA := List.mem_filter.mpr ⟨List.mem_of_getElem? (i := 328) (by decide +kernel), rfl⟩
theorem wA_329 : (Cond.instanceMethod y_Bo_putRide) ∈ wsA := List.mem_filter.mpr ⟨List.mem_of_getElem? (i := 329) (by decide +kernel), rfl⟩
theorem wA_330 : (Cond.selects R_Bo y_Bo_putRide y_Bo_putRide) ∈ wsA := List.mem_filter.mpr ⟨List.mem_of_getElem? (i := 330) (by decide +kernel), rfl⟩
set_option maxRecDepth 20000 in
theorem wA_331 : (Cond.code y_Bo_putRide b_Bo_putRide 4 none) ∈ wsA := List.mem_filter.mpr ⟨List.mem_of_getElem? (i := 331) rfl, rfl⟩
theorem wA_332 : (Cond.methodLink R_Bo 22 y_Bo_putIn) ∈ wsA := List.mem_filter.mpr ⟨List.mem_of_getElem? (i := 332) (by decide +kernel), rfl⟩
theorem wA_333 : (Cond.instanceMethod y_Bo_putIn) ∈ wsA := List.mem_filter.mpr ⟨List.mem_of_getElem? (i := 333) (by decide +kernel), rfl⟩
theorem wA_334 : (Cond.selects R_Bo y_Bo_putIn y_Bo_putIn) ∈ wsA := List.mem_filter.mpr ⟨List.mem_of_getElem? (i := 334) (by decide +kernel), rfl⟩
set_option maxRecDepth 20000 in
theorem wA_335 : (Cond.code y_Bo_putIn b_Bo_putIn 5 none) ∈ wsA := List.mem_filter.mpr ⟨List.mem_of_getElem? (i := 335) rfl, rfl⟩
theorem wA_336 : (Cond.methodLink R_Bo 26 y_Ri_goes) ∈ wsA := List.mem_filter.mpr ⟨List.mem_of_getElem? (i := 336) (by decide +kernel), rfl⟩
theorem wA_337 : (Cond.instanceMethod y_Ri_goes) ∈ wsA := List.mem_filter.mpr ⟨List.mem_of_getElem? (i := 337) (by decide +kernel), rfl⟩
theorem wA_338 : (Cond.selects R_Ri y_Ri_goes y_Ri_goes) ∈ wsA := List.mem_filter.mpr ⟨List.mem_of_getElem? (i := 338) (by decide +kernel), rfl⟩
set_option maxRecDepth 20000 in
theorem wA_339 : (Cond.code y_Ri_goes b_Ri_goes 2 (some .boolean)) ∈ wsA := List.mem_filter.mpr ⟨List.mem_of_getElem? (i := 339) rfl, rfl⟩
theorem wA_340 : (Cond.methodLink R_Bo 32 y_Ri_leaves) ∈ wsA := List.mem_filter.mpr ⟨List.mem_of_getElem? (i := 340) (by decide +kernel), rfl⟩
theorem wA_341 : (Cond.instanceMethod y_Ri_leaves) ∈ wsA := List.mem_filter.mpr ⟨List.mem_of_getElem? (i := 341) (by decide +kernel), rfl⟩
theorem wA_342 : (Cond.selects R_Ri y_Ri_leaves y_Ri_leaves) ∈ wsA := List.mem_filter.mpr ⟨List.mem_of_getElem? (i := 342) (by decide +kernel), rfl⟩
set_option maxRecDepth 20000 in
theorem wA_343 : (Cond.code y_Ri_leaves b_Ri_leaves 3 (some .int)) ∈ wsA := List.mem_filter.mpr ⟨List.mem_of_getElem? (i := 343) rfl, rfl⟩
theorem wA_344 : (Cond.methodLink R_Bo 35 y_Bo_isBehind) ∈ wsA := List.mem_filter.mpr ⟨List.mem_of_getElem? (i := 344) (by decide +kernel), rfl⟩
theorem wA_346 : (Cond.instanceMethod y_Bo_isBehind) ∈ wsA := List.mem_filter.mpr ⟨List.mem_of_getElem? (i := 346) (by decide +kernel), rfl⟩
set_option maxRecDepth 20000 in
theorem wA_347 : (Cond.code y_Bo_isBehind b_Bo_isBehind 4 (some .boolean)) ∈ wsA := List.mem_filter.mpr ⟨List.mem_of_getElem? (i := 347) rfl, rfl⟩
theorem wA_348 : (Cond.methodLink R_L 33 y_T_walk) ∈ wsA := List.mem_filter.mpr ⟨List.mem_of_getElem? (i := 348) (by decide +kernel), rfl⟩
theorem wA_349 : (Cond.instanceMethod y_T_walk) ∈ wsA := List.mem_filter.mpr ⟨List.mem_of_getElem? (i := 349) (by decide +kernel), rfl⟩
theorem wA_350 : (Cond.selects R_T y_T_walk y_T_walk) ∈ wsA := List.mem_filter.mpr ⟨List.mem_of_getElem? (i := 350) (by decide +kernel), rfl⟩
set_option maxRecDepth 20000 in
theorem wA_351 : (Cond.code y_T_walk b_T_walk 4 (some .int)) ∈ wsA := List.mem_filter.mpr ⟨List.mem_of_getElem? (i := 351) rfl, rfl⟩
theorem wA_352 : (Cond.methodLink R_T 102 y_Wa_add) ∈ wsA := List.mem_filter.mpr ⟨List.mem_of_getElem? (i := 352) (by decide +kernel), rfl⟩
theorem wA_353 : (Cond.instanceMethod y_Wa_add) ∈ wsA := List.mem_filter.mpr ⟨List.mem_of_getElem? (i := 353) (by decide +kernel), rfl⟩
theorem wA_354 : (Cond.selects R_Wa y_Wa_add y_Wa_add) ∈ wsA := List.mem_filter.mpr ⟨List.mem_of_getElem? (i := 354) (by decide +kernel), rfl⟩
set_option maxRecDepth 20000 in
theorem wA_355 : (Cond.code y_Wa_add b_Wa_add 4 (some .int)) ∈ wsA := List.mem_filter.mpr ⟨List.mem_of_getElem? (i := 355) rfl, rfl⟩
theorem wA_356 : (Cond.methodLink R_Wa 35 y_Wa_shorten) ∈ wsA := List.mem_filter.mpr ⟨List.mem_of_getElem? (i := 356) (by decide +kernel), rfl⟩
theorem wA_358 : (Cond.instanceMethod y_Wa_shorten) ∈ wsA := List.mem_filter.mpr ⟨List.mem_of_getElem? (i := 358) (by decide +kernel), rfl⟩
set_option maxRecDepth 20000 in
theorem wA_359 : (Cond.code y_Wa_shorten b_Wa_shorten 8 none) ∈ wsA := List.mem_filter.mpr ⟨List.mem_of_getElem? (i := 359) rfl, rfl⟩
theorem wA_360 : (Cond.methodLink R_Wa 39 y_Wa_anyNumber) ∈ wsA := List.mem_filter.mpr ⟨List.mem_of_getElem? (i := 360) (by decide +kernel), rfl⟩
theorem wA_361 : (Cond.instanceMethod y_Wa_anyNumber) ∈ wsA := List.mem_filter.mpr ⟨List.mem_of_getElem? (i := 361) (by decide +kernel), rfl⟩
theorem wA_362 : (Cond.selects R_Wa y_Wa_anyNumber y_Wa_anyNumber) ∈ wsA := List.mem_filter.mpr ⟨List.mem_of_getElem? (i := 362) (by decide +kernel), rfl⟩
set_option maxRecDepth 20000 in
theorem wA_363 : (Cond.code y_Wa_anyNumber b_Wa_anyNumber 3 (some .int)) ∈ wsA := List.mem_filter.mpr ⟨List.mem_of_getElem? (i := 363) rfl, rfl⟩
theorem wA_364 : (Cond.methodLink R_Wa 48 y_Wa_atLeastOne) ∈ wsA := List.mem_filter.mpr ⟨List.mem_of_getElem? (i := 364) (by decide +kernel), rfl⟩
theorem wA_365 : (Cond.instanceMethod y_Wa_atLeastOne) ∈ wsA := List.mem_filter.mpr ⟨List.mem_of_getElem? (i := 365) (by decide +kernel), rfl⟩
theorem wA_366 : (Cond.selects R_Wa y_Wa_atLeastOne y_Wa_atLeastOne) ∈ wsA := List.mem_filter.mpr ⟨List.mem_of_getElem? (i := 366) (by decide +kernel), rfl⟩
set_option maxRecDepth 20000 in
theorem wA_367 : (Cond.code y_Wa_atLeastOne b_Wa_atLeastOne 3 (some .int)) ∈ wsA := List.mem_filter.mpr ⟨List.mem_of_getElem? (i := 367) rfl, rfl⟩
theorem wA_368 : (Cond.methodLink R_Wa 43 Lib.Math.min.name) ∈ wsA := List.mem_filter.mpr ⟨List.mem_of_getElem? (i := 368) (by decide +kernel), rfl⟩
theorem wA_369 : (Cond.static Lib.Math.min.name) ∈ wsA := List.mem_filter.mpr ⟨List.mem_of_getElem? (i := 369) (by decide +kernel), rfl⟩
set_option maxRecDepth 20000 in
theorem wA_370 : (Cond.code Lib.Math.min.name Lib.Math.min.code 2 (some .int)) ∈ wsA := List.mem_filter.mpr ⟨List.mem_of_getElem? (i := 370) rfl, rfl⟩
theorem wA_371 : (Cond.methodLink R_L 38 y_T_late) ∈ wsA := List.mem_filter.mpr ⟨List.mem_of_getElem? (i := 371) (by decide +kernel), rfl⟩
theorem wA_372 : (Cond.instanceMethod y_T_late) ∈ wsA := List.mem_filter.mpr ⟨List.mem_of_getElem? (i := 372) (by decide +kernel), rfl⟩
theorem wA_373 : (Cond.selects R_T y_T_late y_T_late) ∈ wsA := List.mem_filter.mpr ⟨List.mem_of_getElem? (i := 373) (by decide +kernel), rfl⟩
set_option maxRecDepth 20000 in
theorem wA_374 : (Cond.code y_T_late b_T_late 6 (some .int)) ∈ wsA := List.mem_filter.mpr ⟨List.mem_of_getElem? (i := 374) rfl, rfl⟩
theorem wA_375 : (Cond.methodLink R_T 105 y_Ri_has) ∈ wsA := List.mem_filter.mpr ⟨List.mem_of_getElem? (i := 375) (by decide +kernel), rfl⟩
theorem wA_376 : (Cond.instanceMethod y_Ri_has) ∈ wsA := List.mem_filter.mpr ⟨List.mem_of_getElem? (i := 376) (by decide +kernel), rfl⟩
theorem wA_377 : (Cond.selects R_Ri y_Ri_has y_Ri_has) ∈ wsA := List.mem_filter.mpr ⟨List.mem_of_getElem? (i := 377) (by decide +kernel), rfl⟩
set_option maxRecDepth 20000 in
theorem wA_378 : (Cond.code y_Ri_has b_Ri_has 2 (some .boolean)) ∈ wsA := List.mem_filter.mpr ⟨List.mem_of_getElem? (i := 378) rfl, rfl⟩
theorem wA_380 : (Cond.methodLink R_T 108 y_Ri_isOnDay) ∈ wsA := List.mem_filter.mpr ⟨List.mem_of_getElem? (i := 380) (by decide +kernel), rfl⟩
theorem wA_381 : (Cond.methodLink R_T 114 y_Bo_takeOut) ∈ wsA := List.mem_filter.mpr ⟨List.mem_of_getElem? (i := 381) (by decide +kernel), rfl⟩
theorem wA_382 : (Cond.instanceMethod y_Bo_takeOut) ∈ wsA := List.mem_filter.mpr ⟨List.mem_of_getElem? (i := 382) (by decide +kernel), rfl⟩
theorem wA_383 : (Cond.selects R_Bo y_Bo_takeOut y_Bo_takeOut) ∈ wsA := List.mem_filter.mpr ⟨List.mem_of_getElem? (i := 383) (by decide +kernel), rfl⟩
set_option maxRecDepth 20000 in
theorem wA_384 : (Cond.code y_Bo_takeOut b_Bo_takeOut 4 none) ∈ wsA := List.mem_filter.mpr ⟨List.mem_of_getElem? (i := 384) rfl, rfl⟩
theorem wA_385 : (Cond.methodLink R_T 118 y_Bo_putIn) ∈ wsA := List.mem_filter.mpr ⟨List.mem_of_getElem? (i := 385) (by decide +kernel), rfl⟩
theorem wA_386 : (Cond.methodLink R_L 42 y_T_earliest) ∈ wsA := List.mem_filter.mpr ⟨List.mem_of_getElem? (i := 386) (by decide +kernel), rfl⟩
theorem wA_387 : (Cond.instanceMethod y_T_earliest) ∈ wsA := List.mem_filter.mpr ⟨List.mem_of_getElem? (i := 387) (by decide +kernel), rfl⟩
theorem wA_388 : (Cond.selects R_T y_T_earliest y_T_earliest) ∈ wsA := List.mem_filter.mpr ⟨List.mem_of_getElem? (i := 388) (by decide +kernel), rfl⟩
set_option maxRecDepth 20000 in
theorem wA_389 : (Cond.code y_T_earliest b_T_earliest 4 (some .int)) ∈ wsA := List.mem_filter.mpr ⟨List.mem_of_getElem? (i := 389) rfl, rfl⟩
theorem wA_390 : (Cond.methodLink R_T 121 y_T_isTime) ∈ wsA := List.mem_filter.mpr ⟨List.mem_of_getElem? (i := 390) (by decide +kernel), rfl⟩
theorem wA_391 : (Cond.static y_T_isTime) ∈ wsA := List.mem_filter.mpr ⟨List.mem_of_getElem? (i := 391) (by decide +kernel), rfl⟩
set_option maxRecDepth 20000 in
theorem wA_392 : (Cond.code y_T_isTime b_T_isTime 1 (some .boolean)) ∈ wsA := List.mem_filter.mpr ⟨List.mem_of_getElem? (i := 392) rfl, rfl⟩
theorem wA_393 : (Cond.methodLink R_T 124 y_Ar_find) ∈ wsA := List.mem_filter.mpr ⟨List.mem_of_getElem? (i := 393) (by decide +kernel), rfl⟩
theorem wA_394 : (Cond.instanceMethod y_Ar_find) ∈ wsA := List.mem_filter.mpr ⟨List.mem_of_getElem? (i := 394) (by decide +kernel), rfl⟩
theorem wA_395 : (Cond.selects R_Ar y_Ar_find y_Ar_find) ∈ wsA := List.mem_filter.mpr ⟨List.mem_of_getElem? (i := 395) (by decide +kernel), rfl⟩
set_option maxRecDepth 20000 in
theorem wA_396 : (Cond.code y_Ar_find b_Ar_find 4 none) ∈ wsA := List.mem_filter.mpr ⟨List.mem_of_getElem? (i := 396) rfl, rfl⟩
theorem wA_397 : (Cond.methodLink R_Ar 42 y_Ar_begin) ∈ wsA := List.mem_filter.mpr ⟨List.mem_of_getElem? (i := 397) (by decide +kernel), rfl⟩
theorem wA_398 : (Cond.instanceMethod y_Ar_begin) ∈ wsA := List.mem_filter.mpr ⟨List.mem_of_getElem? (i := 398) (by decide +kernel), rfl⟩
theorem wA_399 : (Cond.selects R_Ar y_Ar_begin y_Ar_begin) ∈ wsA := List.mem_filter.mpr ⟨List.mem_of_getElem? (i := 399) (by decide +kernel), rfl⟩
set_option maxRecDepth 20000 in
theorem wA_400 : (Cond.code y_Ar_begin b_Ar_begin 5 none) ∈ wsA := List.mem_filter.mpr ⟨List.mem_of_getElem? (i := 400) rfl, rfl⟩
theorem wA_401 : (Cond.constant R_Ar 30 1000000) ∈ wsA := List.mem_filter.mpr ⟨List.mem_of_getElem? (i := 401) (by decide +kernel), rfl⟩
theorem wA_402 : (Cond.methodLink R_Ar 37 y_Wa_anyNumber) ∈ wsA := List.mem_filter.mpr ⟨List.mem_of_getElem? (i := 402) (by decide +kernel), rfl⟩
theorem wA_403 : (Cond.methodLink R_Ar 18 Lib.Math.min.name) ∈ wsA := List.mem_filter.mpr ⟨List.mem_of_getElem? (i := 403) (by decide +kernel), rfl⟩
theorem wA_404 : (Cond.methodLink R_Ar 46 y_Ar_addOneDeparture) ∈ wsA := List.mem_filter.mpr ⟨List.mem_of_getElem? (i := 404) (by decide +kernel), rfl⟩
theorem wA_405 : (Cond.instanceMethod y_Ar_addOneDeparture) ∈ wsA := List.mem_filter.mpr ⟨List.mem_of_getElem? (i := 405) (by decide +kernel), rfl⟩
theorem wA_406 : (Cond.selects R_Ar y_Ar_addOneDeparture y_Ar_addOneDeparture) ∈ wsA := List.mem_filter.mpr ⟨List.mem_of_getElem? (i := 406) (by decide +kernel), rfl⟩
set_option maxRecDepth 20000 in
theorem wA_407 : (Cond.code y_Ar_addOneDeparture b_Ar_addOneDeparture 6 none) ∈ wsA := List.mem_filter.mpr ⟨List.mem_of_getElem? (i := 407) rfl, rfl⟩
theorem wA_408 : (Cond.methodLink R_Ar 60 y_Bo_rideAt) ∈ wsA := List.mem_filter.mpr ⟨List.mem_of_getElem? (i := 408) (by decide +kernel), rfl⟩
theorem wA_409 : (Cond.instanceMethod y_Bo_rideAt) ∈ wsA := List.mem_filter.mpr ⟨List.mem_of_getElem? (i := 409) (by decide +kernel), rfl⟩
theorem wA_410 : (Cond.selects R_Bo y_Bo_rideAt y_Bo_rideAt) ∈ wsA := List.mem_filter.mpr ⟨List.mem_of_getElem? (i := 410) (by decide +kernel), rfl⟩
set_option maxRecDepth 20000 in
theorem wA_411 : (Cond.code y_Bo_rideAt b_Bo_rideAt 2 (some .int)) ∈ wsA := List.mem_filter.mpr ⟨List.mem_of_getElem? (i := 411) rfl, rfl⟩
theorem wA_412 : (Cond.methodLink R_Ar 76 y_Ar_mayTake) ∈ wsA := List.mem_filter.mpr ⟨List.mem_of_getElem? (i := 412) (by decide +kernel), rfl⟩
theorem wA_413 : (Cond.instanceMethod y_Ar_mayTake) ∈ wsA := List.mem_filter.mpr ⟨List.mem_of_getElem? (i := 413) (by decide +kernel), rfl⟩
theorem wA_414 : (Cond.selects R_Ar y_Ar_mayTake y_Ar_mayTake) ∈ wsA := List.mem_filter.mpr ⟨List.mem_of_getElem? (i := 414) (by decide +kernel), rfl⟩
set_option maxRecDepth 20000 in
theorem wA_415 : (Cond.code y_Ar_mayTake b_Ar_mayTake 4 (some .boolean)) ∈ wsA := List.mem_filter.mpr ⟨List.mem_of_getElem? (i := 415) rfl, rfl⟩
theorem wA_416 : (Cond.methodLink R_Ar 86 y_Ar_arrive) ∈ wsA := List.mem_filter.mpr ⟨List.mem_of_getElem? (i := 416) (by decide +kernel), rfl⟩
theorem wA_418 : (Cond.instanceMethod y_Ar_arrive) ∈ wsA := List.mem_filter.mpr ⟨List.mem_of_getElem? (i := 418) (by decide +kernel), rfl⟩
set_option maxRecDepth 20000 in
theorem wA_419 : (Cond.code y_Ar_arrive b_Ar_arrive 5 none) ∈ wsA := List.mem_filter.mpr ⟨List.mem_of_getElem? (i := 419) rfl, rfl⟩
theorem wA_420 : (Cond.methodLink R_Ar 95 y_Wa_atLeastOne) ∈ wsA := List.mem_filter.mpr ⟨List.mem_of_getElem? (i := 420) (by decide +kernel), rfl⟩
theorem wA_421 : (Cond.methodLink R_T 128 y_Ar_first) ∈ wsA := List.mem_filter.mpr ⟨List.mem_of_getElem? (i := 421) (by decide +kernel), rfl⟩
theorem wA_422 : (Cond.instanceMethod y_Ar_first) ∈ wsA := List.mem_filter.mpr ⟨List.mem_of_getElem? (i := 422) (by decide +kernel), rfl⟩
theorem wA_423 : (Cond.selects R_Ar y_Ar_first y_Ar_first) ∈ wsA := List.mem_filter.mpr ⟨List.mem_of_getElem? (i := 423) (by decide +kernel), rfl⟩
set_option maxRecDepth 20000 in
theorem wA_424 : (Cond.code y_Ar_first b_Ar_first 2 (some .int)) ∈ wsA := List.mem_filter.mpr ⟨List.mem_of_getElem? (i := 424) rfl, rfl⟩
theorem wA_425 : (Cond.methodLink R_T 132 y_T_orNone) ∈ wsA := List.mem_filter.mpr ⟨List.mem_of_getElem? (i := 425) (by decide +kernel), rfl⟩
theorem wA_426 : (Cond.static y_T_orNone) ∈ wsA := List.mem_filter.mpr ⟨List.mem_of_getElem? (i := 426) (by decide +kernel), rfl⟩
set_option maxRecDepth 20000 in
theorem wA_427 : (Cond.code y_T_orNone b_T_orNone 1 (some .int)) ∈ wsA := List.mem_filter.mpr ⟨List.mem_of_getElem? (i := 427) rfl, rfl⟩
theorem wA_428 : (Cond.constant R_T 173 1000000) ∈ wsA := List.mem_filter.mpr ⟨List.mem_of_getElem? (i := 428) (by decide +kernel), rfl⟩
theorem wA_429 : (Cond.methodLink R_L 46 y_T_latest) ∈ wsA := List.mem_filter.mpr ⟨List.mem_of_getElem? (i := 429) (by decide +kernel), rfl⟩
theorem wA_430 : (Cond.instanceMethod y_T_latest) ∈ wsA := List.mem_filter.mpr ⟨List.mem_of_getElem? (i := 430) (by decide +kernel), rfl⟩
theorem wA_431 : (Cond.selects R_T y_T_latest y_T_latest) ∈ wsA := List.mem_filter.mpr ⟨List.mem_of_getElem? (i := 431) (by decide +kernel), rfl⟩
set_option maxRecDepth 20000 in
theorem wA_432 : (Cond.code y_T_latest b_T_latest 4 (some .int)) ∈ wsA := List.mem_filter.mpr ⟨List.mem_of_getElem? (i := 432) rfl, rfl⟩
theorem wA_433 : (Cond.methodLink R_T 135 y_T_isBy) ∈ wsA := List.mem_filter.mpr ⟨List.mem_of_getElem? (i := 433) (by decide +kernel), rfl⟩
theorem wA_434 : (Cond.static y_T_isBy) ∈ wsA := List.mem_filter.mpr ⟨List.mem_of_getElem? (i := 434) (by decide +kernel), rfl⟩
set_option maxRecDepth 20000 in
theorem wA_435 : (Cond.code y_T_isBy b_T_isBy 1 (some .boolean)) ∈ wsA := List.mem_filter.mpr ⟨List.mem_of_getElem? (i := 435) rfl, rfl⟩
theorem wA_436 : (Cond.methodLink R_T 138 y_Sp_latestBeginning) ∈ wsA := List.mem_filter.mpr ⟨List.mem_of_getElem? (i := 436) (by decide +kernel), rfl⟩
theorem wA_437 : (Cond.instanceMethod y_Sp_latestBeginning) ∈ wsA := List.mem_filter.mpr ⟨List.mem_of_getElem? (i := 437) (by decide +kernel), rfl⟩
theorem wA_438 : (Cond.selects R_Sp y_Sp_latestBeginning y_Sp_latestBeginning) ∈ wsA := List.mem_filter.mpr ⟨List.mem_of_getElem? (i := 438) (by decide +kernel), rfl⟩
set_option maxRecDepth 20000 in
theorem wA_439 : (Cond.code y_Sp_latestBeginning b_Sp_latestBeginning 7 (some .int)) ∈ wsA := List.mem_filter.mpr ⟨List.mem_of_getElem? (i := 439) rfl, rfl⟩
theorem wA_440 : (Cond.methodLink R_Sp 57 y_Wa_anyNumber) ∈ wsA := List.mem_filter.mpr ⟨List.mem_of_getElem? (i := 440) (by decide +kernel), rfl⟩
theorem wA_441 : (Cond.methodLink R_Sp 40 y_Sp_endOf) ∈ wsA := List.mem_filter.mpr ⟨List.mem_of_getElem? (i := 441) (by decide +kernel), rfl⟩
theorem wA_443 : (Cond.instanceMethod y_Sp_endOf) ∈ wsA := List.mem_filter.mpr ⟨List.mem_of_getElem? (i := 443) (by decide +kernel), rfl⟩
set_option maxRecDepth 20000 in
theorem wA_444 : (Cond.code y_Sp_endOf b_Sp_endOf 9 (some .int)) ∈ wsA := List.mem_filter.mpr ⟨List.mem_of_getElem? (i := 444) rfl, rfl⟩
theorem wA_445 : (Cond.methodLink R_Sp 78 y_Bo_rideAt) ∈ wsA := List.mem_filter.mpr ⟨List.mem_of_getElem? (i := 445) (by decide +kernel), rfl⟩
theorem wA_446 : (Cond.constant R_Sp 18 1000000) ∈ wsA := List.mem_filter.mpr ⟨List.mem_of_getElem? (i := 446) (by decide +kernel), rfl⟩
theorem wA_447 : (Cond.methodLink R_Sp 47 Lib.Math.min.name) ∈ wsA := List.mem_filter.mpr ⟨List.mem_of_getElem? (i := 447) (by decide +kernel), rfl⟩
theorem wA_448 : (Cond.methodLink R_Sp 88 y_Sp_mayFollow) ∈ wsA := List.mem_filter.mpr ⟨List.mem_of_getElem? (i := 448) (by decide +kernel), rfl⟩
theorem wA_449 : (Cond.static y_Sp_mayFollow) ∈ wsA := List.mem_filter.mpr ⟨List.mem_of_getElem? (i := 449) (by decide +kernel), rfl⟩
set_option maxRecDepth 20000 in
theorem wA_450 : (Cond.code y_Sp_mayFollow b_Sp_mayFollow 5 (some .boolean)) ∈ wsA := List.mem_filter.mpr ⟨List.mem_of_getElem? (i := 450) rfl, rfl⟩
theorem wA_451 : (Cond.methodLink R_Sp 92 y_Ne_gap) ∈ wsA := List.mem_filter.mpr ⟨List.mem_of_getElem? (i := 451) (by decide +kernel), rfl⟩
theorem wA_452 : (Cond.instanceMethod y_Ne_gap) ∈ wsA := List.mem_filter.mpr ⟨List.mem_of_getElem? (i := 452) (by decide +kernel), rfl⟩
theorem wA_453 : (Cond.selects R_Ne y_Ne_gap y_Ne_gap) ∈ wsA := List.mem_filter.mpr ⟨List.mem_of_getElem? (i := 453) (by decide +kernel), rfl⟩
set_option maxRecDepth 20000 in
theorem wA_454 : (Cond.code y_Ne_gap b_Ne_gap 4 (some .int)) ∈ wsA := List.mem_filter.mpr ⟨List.mem_of_getElem? (i := 454) rfl, rfl⟩
theorem wA_455 : (Cond.methodLink R_Ne 55 y_Wa_atLeastOne) ∈ wsA := List.mem_filter.mpr ⟨List.mem_of_getElem? (i := 455) (by decide +kernel), rfl⟩
theorem wA_456 : (Cond.methodLink R_Ne 59 Lib.Math.min.name) ∈ wsA := List.mem_filter.mpr ⟨List.mem_of_getElem? (i := 456) (by decide +kernel), rfl⟩
theorem wA_457 : (Cond.methodLink R_Sp 44 y_Sp_latestFor) ∈ wsA := List.mem_filter.mpr ⟨List.mem_of_getElem? (i := 457) (by decide +kernel), rfl⟩
theorem wA_458 : (Cond.static y_Sp_latestFor) ∈ wsA := List.mem_filter.mpr ⟨List.mem_of_getElem? (i := 458) (by decide +kernel), rfl⟩
set_option maxRecDepth 20000 in
theorem wA_459 : (Cond.code y_Sp_latestFor b_Sp_latestFor 4 (some .int)) ∈ wsA := List.mem_filter.mpr ⟨List.mem_of_getElem? (i := 459) rfl, rfl⟩
theorem wA_460 : (Cond.methodLink R_Sp 66 Lib.Math.max.name) ∈ wsA := List.mem_filter.mpr ⟨List.mem_of_getElem? (i := 460) (by decide +kernel), rfl⟩
theorem wA_461 : (Cond.static Lib.Math.max.name) ∈ wsA := List.mem_filter.mpr ⟨List.mem_of_getElem? (i := 461) (by decide +kernel), rfl⟩
set_option maxRecDepth 20000 in
theorem wA_462 : (Cond.code Lib.Math.max.name Lib.Math.max.code 2 (some .int)) ∈ wsA := List.mem_filter.mpr ⟨List.mem_of_getElem? (i := 462) rfl, rfl⟩
theorem wA_463 : (Cond.methodLink R_L 50 y_T_fewest) ∈ wsA := List.mem_filter.mpr ⟨List.mem_of_getElem? (i := 463) (by decide +kernel), rfl⟩
theorem wA_464 : (Cond.instanceMethod y_T_fewest) ∈ wsA := List.mem_filter.mpr ⟨List.mem_of_getElem? (i := 464) (by decide +kernel), rfl⟩
theorem wA_465 : (Cond.selects R_T y_T_fewest y_T_fewest) ∈ wsA := List.mem_filter.mpr ⟨List.mem_of_getElem? (i := 465) (by decide +kernel), rfl⟩
set_option maxRecDepth 20000 in
theorem wA_466 : (Cond.code y_T_fewest b_T_fewest 6 (some .int)) ∈ wsA := List.mem_filter.mpr ⟨List.mem_of_getElem? (i := 466) rfl, rfl⟩
theorem wA_467 : (Cond.methodLink R_T 142 y_Ar_begin) ∈ wsA := List.mem_filter.mpr ⟨List.mem_of_getElem? (i := 467) (by decide +kernel), rfl⟩
theorem wA_468 : (Cond.methodLink R_T 145 y_Ar_copy) ∈ wsA := List.mem_filter.mpr ⟨List.mem_of_getElem? (i := 468) (by decide +kernel), rfl⟩
theorem wA_469 : (Cond.instanceMethod y_Ar_copy) ∈ wsA := List.mem_filter.mpr ⟨List.mem_of_getElem? (i := 469) (by decide +kernel), rfl⟩
theorem wA_470 : (Cond.selects R_Ar y_Ar_copy y_Ar_copy) ∈ wsA := List.mem_filter.mpr ⟨List.mem_of_getElem? (i := 470) (by decide +kernel), rfl⟩
set_option maxRecDepth 20000 in
theorem wA_471 : (Cond.code y_Ar_copy b_Ar_copy 2 none) ∈ wsA := List.mem_filter.mpr ⟨List.mem_of_getElem? (i := 471) rfl, rfl⟩
theorem wA_472 : (Cond.methodLink R_Ar 24 arraycopyName) ∈ wsA := List.mem_filter.mpr ⟨List.mem_of_getElem? (i := 472) (by decide +kernel), rfl⟩
theorem wA_473 : (Cond.static arraycopyName) ∈ wsA := List.mem_filter.mpr ⟨List.mem_of_getElem? (i := 473) (by decide +kernel), rfl⟩
theorem wA_474 : (Cond.native arraycopyName) ∈ wsA := List.mem_filter.mpr ⟨List.mem_of_getElem? (i := 474) (by decide +kernel), rfl⟩
theorem wA_475 : (Cond.methodLink R_T 149 y_Ar_addOneDeparture) ∈ wsA := List.mem_filter.mpr ⟨List.mem_of_getElem? (i := 475) (by decide +kernel), rfl⟩
theorem wA_476 : (Cond.methodLink R_L 55 y_T_fastest) ∈ wsA := List.mem_filter.mpr ⟨List.mem_of_getElem? (i := 476) (by decide +kernel), rfl⟩
theorem wA_477 : (Cond.instanceMethod y_T_fastest) ∈ wsA := List.mem_filter.mpr ⟨List.mem_of_getElem? (i := 477) (by decide +kernel), rfl⟩
theorem wA_478 : (Cond.selects R_T y_T_fastest y_T_fastest) ∈ wsA := List.mem_filter.mpr ⟨List.mem_of_getElem? (i := 478) (by decide +kernel), rfl⟩
set_option maxRecDepth 20000 in
theorem wA_479 : (Cond.code y_T_fastest b_T_fastest 5 (some .int)) ∈ wsA := List.mem_filter.mpr ⟨List.mem_of_getElem? (i := 479) rfl, rfl⟩
theorem wA_480 : (Cond.methodLink R_T 153 y_T_isSpan) ∈ wsA := List.mem_filter.mpr ⟨List.mem_of_getElem? (i := 480) (by decide +kernel), rfl⟩
theorem wA_481 : (Cond.static y_T_isSpan) ∈ wsA := List.mem_filter.mpr ⟨List.mem_of_getElem? (i := 481) (by decide +kernel), rfl⟩
set_option maxRecDepth 20000 in
theorem wA_482 : (Cond.code y_T_isSpan b_T_isSpan 2 (some .boolean)) ∈ wsA := List.mem_filter.mpr ⟨List.mem_of_getElem? (i := 482) rfl, rfl⟩
theorem wA_483 : (Cond.methodLink R_T 156 y_Sp_find) ∈ wsA := List.mem_filter.mpr ⟨List.mem_of_getElem? (i := 483) (by decide +kernel), rfl⟩
theorem wA_484 : (Cond.instanceMethod y_Sp_find) ∈ wsA := List.mem_filter.mpr ⟨List.mem_of_getElem? (i := 484) (by decide +kernel), rfl⟩
theorem wA_485 : (Cond.selects R_Sp y_Sp_find y_Sp_find) ∈ wsA := List.mem_filter.mpr ⟨List.mem_of_getElem? (i := 485) (by decide +kernel), rfl⟩
set_option maxRecDepth 20000 in
theorem wA_486 : (Cond.code y_Sp_find b_Sp_find 8 none) ∈ wsA := List.mem_filter.mpr ⟨List.mem_of_getElem? (i := 486) rfl, rfl⟩
theorem wA_487 : (Cond.methodLink R_Sp 19 y_J_fill) ∈ wsA := List.mem_filter.mpr ⟨List.mem_of_getElem? (i := 487) (by decide +kernel), rfl⟩
theorem wA_488 : (Cond.methodLink R_Sp 62 y_Sp_spread) ∈ wsA := List.mem_filter.mpr ⟨List.mem_of_getElem? (i := 488) (by decide +kernel), rfl⟩
theorem wA_490 : (Cond.instanceMethod y_Sp_spread) ∈ wsA := List.mem_filter.mpr ⟨List.mem_of_getElem? (i := 490) (by decide +kernel), rfl⟩
set_option maxRecDepth 20000 in
theorem wA_491 : (Cond.code y_Sp_spread b_Sp_spread 6 none) ∈ wsA := List.mem_filter.mpr ⟨List.mem_of_getElem? (i := 491) rfl, rfl⟩
theorem wA_492 : (Cond.methodLink R_T 159 y_Sp_leastMinutes) ∈ wsA := List.mem_filter.mpr ⟨List.mem_of_getElem? (i := 492) (by decide +kernel), rfl⟩
theorem wA_493 : (Cond.instanceMethod y_Sp_leastMinutes) ∈ wsA := List.mem_filter.mpr ⟨List.mem_of_getElem? (i := 493) (by decide +kernel), rfl⟩
theorem wA_494 : (Cond.selects R_Sp y_Sp_leastMinutes y_Sp_leastMinutes) ∈ wsA := List.mem_filter.mpr ⟨List.mem_of_getElem? (i := 494) (by decide +kernel), rfl⟩
set_option maxRecDepth 20000 in
theorem wA_495 : (Cond.code y_Sp_leastMinutes b_Sp_leastMinutes 6 (some .int)) ∈ wsA := List.mem_filter.mpr ⟨List.mem_of_getElem? (i := 495) rfl, rfl⟩
theorem wA_496 : (Cond.methodLink R_L 59 y_T_profile) ∈ wsA := List.mem_filter.mpr ⟨List.mem_of_getElem? (i := 496) (by decide +kernel), rfl⟩
theorem wA_497 : (Cond.instanceMethod y_T_profile) ∈ wsA := List.mem_filter.mpr ⟨List.mem_of_getElem? (i := 497) (by decide +kernel), rfl⟩
theorem wA_498 : (Cond.selects R_T y_T_profile y_T_profile) ∈ wsA := List.mem_filter.mpr ⟨List.mem_of_getElem? (i := 498) (by decide +kernel), rfl⟩
set_option maxRecDepth 20000 in
theorem wA_499 : (Cond.code y_T_profile b_T_profile 5 (some .int)) ∈ wsA := List.mem_filter.mpr ⟨List.mem_of_getElem? (i := 499) rfl, rfl⟩
theorem wA_500 : (Cond.methodLink R_T 163 y_St_take) ∈ wsA := List.mem_filter.mpr ⟨List.mem_of_getElem? (i := 500) (by decide +kernel), rfl⟩
theorem wA_501 : (Cond.instanceMethod y_St_take) ∈ wsA := List.mem_filter.mpr ⟨List.mem_of_getElem? (i := 501) (by decide +kernel), rfl⟩
theorem wA_502 : (Cond.selects R_St y_St_take y_St_take) ∈ wsA := List.mem_filter.mpr ⟨List.mem_of_getElem? (i := 502) (by decide +kernel), rfl⟩
set_option maxRecDepth 20000 in
theorem wA_503 : (Cond.code y_St_take b_St_take 5 none) ∈ wsA := List.mem_filter.mpr ⟨List.mem_of_getElem? (i := 503) rfl, rfl⟩
theorem wA_504 : (Cond.methodLink R_L 63 y_T_step) ∈ wsA := List.mem_filter.mpr ⟨List.mem_of_getElem? (i := 504) (by decide +kernel), rfl⟩
theorem wA_505 : (Cond.instanceMethod y_T_step) ∈ wsA := List.mem_filter.mpr ⟨List.mem_of_getElem? (i := 505) (by decide +kernel), rfl⟩
theorem wA_506 : (Cond.selects R_T y_T_step y_T_step) ∈ wsA := List.mem_filter.mpr ⟨List.mem_of_getElem? (i := 506) (by decide +kernel), rfl⟩
set_option maxRecDepth 20000 in
theorem wA_507 : (Cond.code y_T_step b_T_step 3 (some .int)) ∈ wsA := List.mem_filter.mpr ⟨List.mem_of_getElem? (i := 507) rfl, rfl⟩
theorem wA_508 : (Cond.methodLink R_L 67 y_T_reach) ∈ wsA := List.mem_filter.mpr ⟨List.mem_of_getElem? (i := 508) (by decide +kernel), rfl⟩
theorem wA_509 : (Cond.instanceMethod y_T_reach) ∈ wsA := List.mem_filter.mpr ⟨List.mem_of_getElem? (i := 509) (by decide +kernel), rfl⟩
theorem wA_510 : (Cond.selects R_T y_T_reach y_T_reach) ∈ wsA := List.mem_filter.mpr ⟨List.mem_of_getElem? (i := 510) (by decide +kernel), rfl⟩
set_option maxRecDepth 20000 in
theorem wA_511 : (Cond.code y_T_reach b_T_reach 6 (some .int)) ∈ wsA := List.mem_filter.mpr ⟨List.mem_of_getElem? (i := 511) rfl, rfl⟩
theorem wA_512 : (Cond.methodLink R_L 71 y_T_way) ∈ wsA := List.mem_filter.mpr ⟨List.mem_of_getElem? (i := 512) (by decide +kernel), rfl⟩
theorem wA_513 : (Cond.instanceMethod y_T_way) ∈ wsA := List.mem_filter.mpr ⟨List.mem_of_getElem? (i := 513) (by decide +kernel), rfl⟩
theorem wA_514 : (Cond.selects R_T y_T_way y_T_way) ∈ wsA := List.mem_filter.mpr ⟨List.mem_of_getElem? (i := 514) (by decide +kernel), rfl⟩
set_option maxRecDepth 20000 in
theorem wA_515 : (Cond.code y_T_way b_T_way 4 (some .int)) ∈ wsA := List.mem_filter.mpr ⟨List.mem_of_getElem? (i := 515) rfl, rfl⟩
theorem wA_516 : (Cond.methodLink R_T 174 y_Ac_trace) ∈ wsA := List.mem_filter.mpr ⟨List.mem_of_getElem? (i := 516) (by decide +kernel), rfl⟩
theorem wA_517 : (Cond.instanceMethod y_Ac_trace) ∈ wsA := List.mem_filter.mpr ⟨List.mem_of_getElem? (i := 517) (by decide +kernel), rfl⟩
theorem wA_518 : (Cond.selects R_Ac y_Ac_trace y_Ac_trace) ∈ wsA := List.mem_filter.mpr ⟨List.mem_of_getElem? (i := 518) (by decide +kernel), rfl⟩
set_option maxRecDepth 20000 in
theorem wA_519 : (Cond.code y_Ac_trace b_Ac_trace 8 none) ∈ wsA := List.mem_filter.mpr ⟨List.mem_of_getElem? (i := 519) rfl, rfl⟩
theorem wA_520 : (Cond.methodLink R_Ac 28 y_Ar_first) ∈ wsA := List.mem_filter.mpr ⟨List.mem_of_getElem? (i := 520) (by decide +kernel), rfl⟩
theorem wA_521 : (Cond.methodLink R_Ac 34 y_Ar_isByWalk) ∈ wsA := List.mem_filter.mpr ⟨List.mem_of_getElem? (i := 521) (by decide +kernel), rfl⟩
theorem wA_522 : (Cond.instanceMethod y_Ar_isByWalk) ∈ wsA := List.mem_filter.mpr ⟨List.mem_of_getElem? (i := 522) (by decide +kernel), rfl⟩
theorem wA_523 : (Cond.selects R_Ar y_Ar_isByWalk y_Ar_isByWalk) ∈ wsA := List.mem_filter.mpr ⟨List.mem_of_getElem? (i := 523) (by decide +kernel), rfl⟩
set_option maxRecDepth 20000 in
theorem wA_524 : (Cond.code y_Ar_isByWalk b_Ar_isByWalk 3 (some .boolean)) ∈ wsA := List.mem_filter.mpr ⟨List.mem_of_getElem? (i := 524) rfl, rfl⟩
theorem wA_525 : (Cond.methodLink R_Ac 38 y_Ac_addWalk) ∈ wsA := List.mem_filter.mpr ⟨List.mem_of_getElem? (i := 525) (by decide +kernel), rfl⟩
theorem wA_527 : (Cond.instanceMethod y_Ac_addWalk) ∈ wsA := List.mem_filter.mpr ⟨List.mem_of_getElem? (i := 527) (by decide +kernel), rfl⟩
set_option maxRecDepth 20000 in
theorem wA_528 : (Cond.code y_Ac_addWalk b_Ac_addWalk 6 (some .int)) ∈ wsA := List.mem_filter.mpr ⟨List.mem_of_getElem? (i := 528) rfl, rfl⟩
theorem wA_529 : (Cond.methodLink R_Ac 45 y_Ar_lastWalk) ∈ wsA := List.mem_filter.mpr ⟨List.mem_of_getElem? (i := 529) (by decide +kernel), rfl⟩
theorem wA_530 : (Cond.instanceMethod y_Ar_lastWalk) ∈ wsA := List.mem_filter.mpr ⟨List.mem_of_getElem? (i := 530) (by decide +kernel), rfl⟩
theorem wA_531 : (Cond.selects R_Ar y_Ar_lastWalk y_Ar_lastWalk) ∈ wsA := List.mem_filter.mpr ⟨List.mem_of_getElem? (i := 531) (by decide +kernel), rfl⟩
set_option maxRecDepth 20000 in
theorem wA_532 : (Cond.code y_Ar_lastWalk b_Ar_lastWalk 5 (some .int)) ∈ wsA := List.mem_filter.mpr ⟨List.mem_of_getElem? (i := 532) rfl, rfl⟩
theorem wA_533 : (Cond.methodLink R_Ar 100 y_Ar_first) ∈ wsA := List.mem_filter.mpr ⟨List.mem_of_getElem? (i := 533) (by decide +kernel), rfl⟩
theorem wA_534 : (Cond.methodLink R_Ac 63 y_Ac_put) ∈ wsA := List.mem_filter.mpr ⟨List.mem_of_getElem? (i := 534) (by decide +kernel), rfl⟩
theorem wA_536 : (Cond.instanceMethod y_Ac_put) ∈ wsA := List.mem_filter.mpr ⟨List.mem_of_getElem? (i := 536) (by decide +kernel), rfl⟩
set_option maxRecDepth 20000 in
theorem wA_537 : (Cond.code y_Ac_put b_Ac_put 5 none) ∈ wsA := List.mem_filter.mpr ⟨List.mem_of_getElem? (i := 537) rfl, rfl⟩
theorem wA_538 : (Cond.methodLink R_Ac 42 y_Ac_addDeparture) ∈ wsA := List.mem_filter.mpr ⟨List.mem_of_getElem? (i := 538) (by decide +kernel), rfl⟩
theorem wA_540 : (Cond.instanceMethod y_Ac_addDeparture) ∈ wsA := List.mem_filter.mpr ⟨List.mem_of_getElem? (i := 540) (by decide +kernel), rfl⟩
set_option maxRecDepth 20000 in
theorem wA_541 : (Cond.code y_Ac_addDeparture b_Ac_addDeparture 6 (some .int)) ∈ wsA := List.mem_filter.mpr ⟨List.mem_of_getElem? (i := 541) rfl, rfl⟩
theorem wA_542 : (Cond.methodLink R_Ac 67 y_Ar_lastDeparture) ∈ wsA := List.mem_filter.mpr ⟨List.mem_of_getElem? (i := 542) (by decide +kernel), rfl⟩
theorem wA_543 : (Cond.instanceMethod y_Ar_lastDeparture) ∈ wsA := List.mem_filter.mpr ⟨List.mem_of_getElem? (i := 543) (by decide +kernel), rfl⟩
theorem wA_544 : (Cond.selects R_Ar y_Ar_lastDeparture y_Ar_lastDeparture) ∈ wsA := List.mem_filter.mpr ⟨List.mem_of_getElem? (i := 544) (by decide +kernel), rfl⟩
set_option maxRecDepth 20000 in
theorem wA_545 : (Cond.code y_Ar_lastDeparture b_Ar_lastDeparture 5 (some .int)) ∈ wsA := List.mem_filter.mpr ⟨List.mem_of_getElem? (i := 545) rfl, rfl⟩
theorem wA_546 : (Cond.methodLink R_Ar 106 y_Ar_endsByRide) ∈ wsA := List.mem_filter.mpr ⟨List.mem_of_getElem? (i := 546) (by decide +kernel), rfl⟩
theorem wA_548 : (Cond.instanceMethod y_Ar_endsByRide) ∈ wsA := List.mem_filter.mpr ⟨List.mem_of_getElem? (i := 548) (by decide +kernel), rfl⟩
set_option maxRecDepth 20000 in
theorem wA_549 : (Cond.code y_Ar_endsByRide b_Ar_endsByRide 6 (some .boolean)) ∈ wsA := List.mem_filter.mpr ⟨List.mem_of_getElem? (i := 549) rfl, rfl⟩
theorem wA_550 : (Cond.methodLink R_Ar 109 y_Ri_goes) ∈ wsA := List.mem_filter.mpr ⟨List.mem_of_getElem? (i := 550) (by decide +kernel), rfl⟩
theorem wA_551 : (Cond.methodLink R_Ar 113 y_Ri_leaves) ∈ wsA := List.mem_filter.mpr ⟨List.mem_of_getElem? (i := 551) (by decide +kernel), rfl⟩
theorem wA_552 : (Cond.methodLink R_Ac 74 y_Ri_leaves) ∈ wsA := List.mem_filter.mpr ⟨List.mem_of_getElem? (i := 552) (by decide +kernel), rfl⟩
theorem wA_553 : (Cond.methodLink R_L 75 y_T_act) ∈ wsA := List.mem_filter.mpr ⟨List.mem_of_getElem? (i := 553) (by decide +kernel), rfl⟩
theorem wA_554 : (Cond.instanceMethod y_T_act) ∈ wsA := List.mem_filter.mpr ⟨List.mem_of_getElem? (i := 554) (by decide +kernel), rfl⟩
theorem wA_555 : (Cond.selects R_T y_T_act y_T_act) ∈ wsA := List.mem_filter.mpr ⟨List.mem_of_getElem? (i := 555) (by decide +kernel), rfl⟩
set_option maxRecDepth 20000 in
theorem wA_556 : (Cond.code y_T_act b_T_act 4 (some .int)) ∈ wsA := List.mem_filter.mpr ⟨List.mem_of_getElem? (i := 556) rfl, rfl⟩
theorem wA_557 : (Cond.methodLink R_L 79 y_T_next) ∈ wsA := List.mem_filter.mpr ⟨List.mem_of_getElem? (i := 557) (by decide +kernel), rfl⟩
theorem wA_558 : (Cond.instanceMethod y_T_next) ∈ wsA := List.mem_filter.mpr ⟨List.mem_of_getElem? (i := 558) (by decide +kernel), rfl⟩
theorem wA_559 : (Cond.selects R_T y_T_next y_T_next) ∈ wsA := List.mem_filter.mpr ⟨List.mem_of_getElem? (i := 559) (by decide +kernel), rfl⟩
set_option maxRecDepth 20000 in
theorem wA_560 : (Cond.code y_T_next b_T_next 3 (some .int)) ∈ wsA := List.mem_filter.mpr ⟨List.mem_of_getElem? (i := 560) rfl, rfl⟩
theorem wA_561 : (Cond.methodLink R_T 188 y_Bo_firstFrom) ∈ wsA := List.mem_filter.mpr ⟨List.mem_of_getElem? (i := 561) (by decide +kernel), rfl⟩
theorem wA_562 : (Cond.instanceMethod y_Bo_firstFrom) ∈ wsA := List.mem_filter.mpr ⟨List.mem_of_getElem? (i := 562) (by decide +kernel), rfl⟩
theorem wA_563 : (Cond.selects R_Bo y_Bo_firstFrom y_Bo_firstFrom) ∈ wsA := List.mem_filter.mpr ⟨List.mem_of_getElem? (i := 563) (by decide +kernel), rfl⟩
set_option maxRecDepth 20000 in
theorem wA_564 : (Cond.code y_Bo_firstFrom b_Bo_firstFrom 5 (some .int)) ∈ wsA := List.mem_filter.mpr ⟨List.mem_of_getElem? (i := 564) rfl, rfl⟩
theorem wA_565 : (Cond.methodLink R_Bo 42 y_Bo_rideAt) ∈ wsA := List.mem_filter.mpr ⟨List.mem_of_getElem? (i := 565) (by decide +kernel), rfl⟩
theorem wA_566 : (Cond.methodLink R_L 83 y_T_told) ∈ wsA := List.mem_filter.mpr ⟨List.mem_of_getElem? (i := 566) (by decide +kernel), rfl⟩
theorem wA_567 : (Cond.instanceMethod y_T_told) ∈ wsA := List.mem_filter.mpr ⟨List.mem_of_getElem? (i := 567) (by decide +kernel), rfl⟩
theorem wA_568 : (Cond.selects R_T y_T_told y_T_told) ∈ wsA := List.mem_filter.mpr ⟨List.mem_of_getElem? (i := 568) (by decide +kernel), rfl⟩
set_option maxRecDepth 20000 in
theorem wA_569 : (Cond.code y_T_told b_T_told 3 (some .int)) ∈ wsA := List.mem_filter.mpr ⟨List.mem_of_getElem? (i := 569) rfl, rfl⟩
theorem wA_570 : (Cond.methodLink R_T 205 y_Ri_goingDays) ∈ wsA := List.mem_filter.mpr ⟨List.mem_of_getElem? (i := 570) (by decide +kernel), rfl⟩
theorem wA_571 : (Cond.instanceMethod y_Ri_goingDays) ∈ wsA := List.mem_filter.mpr ⟨List.mem_of_getElem? (i := 571) (by decide +kernel), rfl⟩
theorem wA_572 : (Cond.selects R_Ri y_Ri_goingDays y_Ri_goingDays) ∈ wsA := List.mem_filter.mpr ⟨List.mem_of_getElem? (i := 572) (by decide +kernel), rfl⟩
set_option maxRecDepth 20000 in
theorem wA_573 : (Cond.code y_Ri_goingDays b_Ri_goingDays 4 (some .int)) ∈ wsA := List.mem_filter.mpr ⟨List.mem_of_getElem? (i := 573) rfl, rfl⟩
theorem wA_574 : (Cond.methodLink R_Ri 42 y_Ri_goes) ∈ wsA := List.mem_filter.mpr ⟨List.mem_of_getElem? (i := 574) (by decide +kernel), rfl⟩
theorem wA_575 : (Cond.methodLink R_L 87 y_T_of) ∈ wsA := List.mem_filter.mpr ⟨List.mem_of_getElem? (i := 575) (by decide +kernel), rfl⟩
theorem wA_576 : (Cond.instanceMethod y_T_of) ∈ wsA := List.mem_filter.mpr ⟨List.mem_of_getElem? (i := 576) (by decide +kernel), rfl⟩
theorem wA_577 : (Cond.selects R_T y_T_of y_T_of) ∈ wsA := List.mem_filter.mpr ⟨List.mem_of_getElem? (i := 577) (by decide +kernel), rfl⟩
set_option maxRecDepth 20000 in
theorem wA_578 : (Cond.code y_T_of b_T_of 2 (some .int)) ∈ wsA := List.mem_filter.mpr ⟨List.mem_of_getElem? (i := 578) rfl, rfl⟩
theorem wA_579 : (Cond.methodLink R_T 209 y_Bo_countLate) ∈ wsA := List.mem_filter.mpr ⟨List.mem_of_getElem? (i := 579) (by decide +kernel), rfl⟩
theorem wA_580 : (Cond.instanceMethod y_Bo_countLate) ∈ wsA := List.mem_filter.mpr ⟨List.mem_of_getElem? (i := 580) (by decide +kernel), rfl⟩
theorem wA_581 : (Cond.selects R_Bo y_Bo_countLate y_Bo_countLate) ∈ wsA := List.mem_filter.mpr ⟨List.mem_of_getElem? (i := 581) (by decide +kernel), rfl⟩
set_option maxRecDepth 20000 in
theorem wA_582 : (Cond.code y_Bo_countLate b_Bo_countLate 4 (some .int)) ∈ wsA := List.mem_filter.mpr ⟨List.mem_of_getElem? (i := 582) rfl, rfl⟩
theorem wA_583 : (Cond.classLink R_L 10 R_M) ∈ wsA := List.mem_filter.mpr ⟨List.mem_of_getElem? (i := 583) (by decide +kernel), rfl⟩
theorem wA_584 : (Cond.instantiable R_M 22) ∈ wsA := List.mem_filter.mpr ⟨List.mem_of_getElem? (i := 584) (by decide +kernel), rfl⟩
theorem wA_585 : (Cond.methodLink R_L 12 y_M_init) ∈ wsA := List.mem_filter.mpr ⟨List.mem_of_getElem? (i := 585) (by decide +kernel), rfl⟩
theorem wA_586 : (Cond.instanceMethod y_M_init) ∈ wsA := List.mem_filter.mpr ⟨List.mem_of_getElem? (i := 586) (by decide +kernel), rfl⟩
set_option maxRecDepth 20000 in
theorem wA_587 : (Cond.code y_M_init b_M_init 1 none) ∈ wsA := List.mem_filter.mpr ⟨List.mem_of_getElem? (i := 587) rfl, rfl⟩
theorem wA_588 : (Cond.methodLink R_M 1 objectInit) ∈ wsA := List.mem_filter.mpr ⟨List.mem_of_getElem? (i := 588) (by decide +kernel), rfl⟩
theorem wA_589 : (Cond.fieldLink R_M 58 "TimedWaysModel" "stops" "I") ∈ wsA := List.mem_filter.mpr ⟨List.mem_of_getElem? (i := 589) (by decide +kernel), rfl⟩
theorem wA_590 : (Cond.fieldLink R_M 7 "TimedWaysModel" "change" "[I") ∈ wsA := List.mem_filter.mpr ⟨List.mem_of_getElem? (i := 590) (by decide +kernel), rfl⟩
theorem wA_591 : (Cond.fieldLink R_M 62 "TimedWaysModel" "rides" "I") ∈ wsA := List.mem_filter.mpr ⟨List.mem_of_getElem? (i := 591) (by decide +kernel), rfl⟩
theorem wA_592 : (Cond.fieldLink R_M 13 "TimedWaysModel" "rideFrom" "[I") ∈ wsA := List.mem_filter.mpr ⟨List.mem_of_getElem? (i := 592) (by decide +kernel), rfl⟩
theorem wA_593 : (Cond.fieldLink R_M 16 "TimedWaysModel" "rideTo" "[I") ∈ wsA := List.mem_filter.mpr ⟨List.mem_of_getElem? (i := 593) (by decide +kernel), rfl⟩
theorem wA_594 : (Cond.fieldLink R_M 19 "TimedWaysModel" "minute" "[I") ∈ wsA := List.mem_filter.mpr ⟨List.mem_of_getElem? (i := 594) (by decide +kernel), rfl⟩
theorem wA_595 : (Cond.fieldLink R_M 22 "TimedWaysModel" "takes" "[I") ∈ wsA := List.mem_filter.mpr ⟨List.mem_of_getElem? (i := 595) (by decide +kernel), rfl⟩
theorem wA_596 : (Cond.fieldLink R_M 25 "TimedWaysModel" "days" "[I") ∈ wsA := List.mem_filter.mpr ⟨List.mem_of_getElem? (i := 596) (by decide +kernel), rfl⟩
theorem wA_597 : (Cond.fieldLink R_M 28 "TimedWaysModel" "late" "[I") ∈ wsA := List.mem_filter.mpr ⟨List.mem_of_getElem? (i := 597) (by decide +kernel), rfl⟩
theorem wA_598 : (Cond.fieldLink R_M 65 "TimedWaysModel" "walks" "I") ∈ wsA := List.mem_filter.mpr ⟨List.mem_of_getElem? (i := 598) (by decide +kernel), rfl⟩
theorem wA_599 : (Cond.fieldLink R_M 31 "TimedWaysModel" "walkFrom" "[I") ∈ wsA := List.mem_filter.mpr ⟨List.mem_of_getElem? (i := 599) (by decide +kernel), rfl⟩
theorem wA_600 : (Cond.fieldLink R_M 34 "TimedWaysModel" "walkTo" "[I") ∈ wsA := List.mem_filter.mpr ⟨List.mem_of_getElem? (i := 600) (by decide +kernel), rfl⟩
theorem wA_601 : (Cond.fieldLink R_M 37 "TimedWaysModel" "walkTakes" "[I") ∈ wsA := List.mem_filter.mpr ⟨List.mem_of_getElem? (i := 601) (by decide +kernel), rfl⟩
theorem wA_602 : (Cond.fieldLink R_M 68 "TimedWaysModel" "steps" "I") ∈ wsA := List.mem_filter.mpr ⟨List.mem_of_getElem? (i := 602) (by decide +kernel), rfl⟩
theorem wA_603 : (Cond.fieldLink R_M 40 "TimedWaysModel" "stepTime" "[I") ∈ wsA := List.mem_filter.mpr ⟨List.mem_of_getElem? (i := 603) (by decide +kernel), rfl⟩
theorem wA_604 : (Cond.fieldLink R_M 43 "TimedWaysModel" "stepArrival" "[I") ∈ wsA := List.mem_filter.mpr ⟨List.mem_of_getElem? (i := 604) (by decide +kernel), rfl⟩
theorem wA_605 : (Cond.fieldLink R_M 71 "TimedWaysModel" "acts" "I") ∈ wsA := List.mem_filter.mpr ⟨List.mem_of_getElem? (i := 605) (by decide +kernel), rfl⟩
theorem wA_606 : (Cond.fieldLink R_M 46 "TimedWaysModel" "act" "[I") ∈ wsA := List.mem_filter.mpr ⟨List.mem_of_getElem? (i := 606) (by decide +kernel), rfl⟩
theorem wA_607 : (Cond.fieldLink R_M 49 "TimedWaysModel" "byRide" "[I") ∈ wsA := List.mem_filter.mpr ⟨List.mem_of_getElem? (i := 607) (by decide +kernel), rfl⟩
theorem wA_608 : (Cond.fieldLink R_M 52 "TimedWaysModel" "byWalk" "[I") ∈ wsA := List.mem_filter.mpr ⟨List.mem_of_getElem? (i := 608) (by decide +kernel), rfl⟩
theorem wA_609 : (Cond.fieldLink R_M 55 "TimedWaysModel" "nextRide" "[I") ∈ wsA := List.mem_filter.mpr ⟨List.mem_of_getElem? (i := 609) (by decide +kernel), rfl⟩
theorem wA_610 : (Cond.fieldLink R_M 104 "TimedWaysModel" "isLess" "Z") ∈ wsA := List.mem_filter.mpr ⟨List.mem_of_getElem? (i := 610) (by decide +kernel), rfl⟩
theorem wA_656 : (Cond.methodLink R_L 17 y_M_clear) ∈ wsA := List.mem_filter.mpr ⟨List.mem_of_getElem? (i := 656) (by decide +kernel), rfl⟩
theorem wA_657 : (Cond.instanceMethod y_M_clear) ∈ wsA := List.mem_filter.mpr ⟨List.mem_of_getElem? (i := 657) (by decide +kernel), rfl⟩
theorem wA_658 : (Cond.selects R_M y_M_clear y_M_clear) ∈ wsA := List.mem_filter.mpr ⟨List.mem_of_getElem? (i := 658) (by decide +kernel), rfl⟩
set_option maxRecDepth 20000 in
theorem wA_659 : (Cond.code y_M_clear b_M_clear 2 (some .int)) ∈ wsA := List.mem_filter.mpr ⟨List.mem_of_getElem? (i := 659) rfl, rfl⟩
theorem wA_660 : (Cond.methodLink R_L 22 y_M_stop) ∈ wsA := List.mem_filter.mpr ⟨List.mem_of_getElem? (i := 660) (by decide +kernel), rfl⟩
theorem wA_661 : (Cond.instanceMethod y_M_stop) ∈ wsA := List.mem_filter.mpr ⟨List.mem_of_getElem? (i := 661) (by decide +kernel), rfl⟩
theorem wA_662 : (Cond.selects R_M y_M_stop y_M_stop) ∈ wsA := List.mem_filter.mpr ⟨List.mem_of_getElem? (i := 662) (by decide +kernel), rfl⟩
set_option maxRecDepth 20000 in
theorem wA_663 : (Cond.code y_M_stop b_M_stop 2 (some .int)) ∈ wsA := List.mem_filter.mpr ⟨List.mem_of_getElem? (i := 663) rfl, rfl⟩
theorem wA_664 : (Cond.methodLink R_M 74 y_M_isIn) ∈ wsA := List.mem_filter.mpr ⟨List.mem_of_getElem? (i := 664) (by decide +kernel), rfl⟩
theorem wA_665 : (Cond.static y_M_isIn) ∈ wsA := List.mem_filter.mpr ⟨List.mem_of_getElem? (i := 665) (by decide +kernel), rfl⟩
set_option maxRecDepth 20000 in
theorem wA_666 : (Cond.code y_M_isIn b_M_isIn 3 (some .boolean)) ∈ wsA := List.mem_filter.mpr ⟨List.mem_of_getElem? (i := 666) rfl, rfl⟩
theorem wA_667 : (Cond.methodLink R_L 27 y_M_change) ∈ wsA := List.mem_filter.mpr ⟨List.mem_of_getElem? (i := 667) (by decide +kernel), rfl⟩
theorem wA_668 : (Cond.instanceMethod y_M_change) ∈ wsA := List.mem_filter.mpr ⟨List.mem_of_getElem? (i := 668) (by decide +kernel), rfl⟩
theorem wA_669 : (Cond.selects R_M y_M_change y_M_change) ∈ wsA := List.mem_filter.mpr ⟨List.mem_of_getElem? (i := 669) (by decide +kernel), rfl⟩
set_option maxRecDepth 20000 in
theorem wA_670 : (Cond.code y_M_change b_M_change 4 (some .int)) ∈ wsA := List.mem_filter.mpr ⟨List.mem_of_getElem? (i := 670) rfl, rfl⟩
theorem wA_671 : (Cond.methodLink R_M 78 y_M_isStop) ∈ wsA := List.mem_filter.mpr ⟨List.mem_of_getElem? (i := 671) (by decide +kernel), rfl⟩
theorem wA_673 : (Cond.instanceMethod y_M_isStop) ∈ wsA := List.mem_filter.mpr ⟨List.mem_of_getElem? (i := 673) (by decide +kernel), rfl⟩
set_option maxRecDepth 20000 in
theorem wA_674 : (Cond.code y_M_isStop b_M_isStop 2 (some .boolean)) ∈ wsA := List.mem_filter.mpr ⟨List.mem_of_getElem? (i := 674) rfl, rfl⟩
theorem wA_675 : (Cond.methodLink R_L 32 y_M_ride) ∈ wsA := List.mem_filter.mpr ⟨List.mem_of_getElem? (i := 675) (by decide +kernel), rfl⟩
theorem wA_676 : (Cond.instanceMethod y_M_ride) ∈ wsA := List.mem_filter.mpr ⟨List.mem_of_getElem? (i := 676) (by decide +kernel), rfl⟩
theorem wA_677 : (Cond.selects R_M y_M_ride y_M_ride) ∈ wsA := List.mem_filter.mpr ⟨List.mem_of_getElem? (i := 677) (by decide +kernel), rfl⟩
set_option maxRecDepth 20000 in
theorem wA_678 : (Cond.code y_M_ride b_M_ride 7 (some .int)) ∈ wsA := List.mem_filter.mpr ⟨List.mem_of_getElem? (i := 678) rfl, rfl⟩
theorem wA_679 : (Cond.methodLink R_M 82 y_M_areTwo) ∈ wsA := List.mem_filter.mpr ⟨List.mem_of_getElem? (i := 679) (by decide +kernel), rfl⟩
theorem wA_681 : (Cond.instanceMethod y_M_areTwo) ∈ wsA := List.mem_filter.mpr ⟨List.mem_of_getElem? (i := 681) (by decide +kernel), rfl⟩
set_option maxRecDepth 20000 in
theorem wA_682 : (Cond.code y_M_areTwo b_M_areTwo 3 (some .boolean)) ∈ wsA := List.mem_filter.mpr ⟨List.mem_of_getElem? (i := 682) rfl, rfl⟩
theorem wA_683 : (Cond.methodLink R_L 37 y_M_walk) ∈ wsA := List.mem_filter.mpr ⟨List.mem_of_getElem? (i := 683) (by decide +kernel), rfl⟩
theorem wA_684 : (Cond.instanceMethod y_M_walk) ∈ wsA := List.mem_filter.mpr ⟨List.mem_of_getElem? (i := 684) (by decide +kernel), rfl⟩
theorem wA_685 : (Cond.selects R_M y_M_walk y_M_walk) ∈ wsA := List.mem_filter.mpr ⟨List.mem_of_getElem? (i := 685) (by decide +kernel), rfl⟩
set_option maxRecDepth 20000 in
theorem wA_686 : (Cond.code y_M_walk b_M_walk 4 (some .int)) ∈ wsA := List.mem_filter.mpr ⟨List.mem_of_getElem? (i := 686) rfl, rfl⟩
theorem wA_687 : (Cond.methodLink R_L 41 y_M_late) ∈ wsA := List.mem_filter.mpr ⟨List.mem_of_getElem? (i := 687) (by decide +kernel), rfl⟩
theorem wA_688 : (Cond.instanceMethod y_M_late) ∈ wsA := List.mem_filter.mpr ⟨List.mem_of_getElem? (i := 688) (by decide +kernel), rfl⟩
theorem wA_689 : (Cond.selects R_M y_M_late y_M_late) ∈ wsA := List.mem_filter.mpr ⟨List.mem_of_getElem? (i := 689) (by decide +kernel), rfl⟩
set_option maxRecDepth 20000 in
theorem wA_690 : (Cond.code y_M_late b_M_late 5 (some .int)) ∈ wsA := List.mem_filter.mpr ⟨List.mem_of_getElem? (i := 690) rfl, rfl⟩
theorem wA_691 : (Cond.methodLink R_M 86 y_M_isRide) ∈ wsA := List.mem_filter.mpr ⟨List.mem_of_getElem? (i := 691) (by decide +kernel), rfl⟩
theorem wA_693 : (Cond.instanceMethod y_M_isRide) ∈ wsA := List.mem_filter.mpr ⟨List.mem_of_getElem? (i := 693) (by decide +kernel), rfl⟩
set_option maxRecDepth 20000 in
theorem wA_694 : (Cond.code y_M_isRide b_M_isRide 2 (some .boolean)) ∈ wsA := List.mem_filter.mpr ⟨List.mem_of_getElem? (i := 694) rfl, rfl⟩
theorem wA_695 : (Cond.methodLink R_M 89 y_M_isOn) ∈ wsA := List.mem_filter.mpr ⟨List.mem_of_getElem? (i := 695) (by decide +kernel), rfl⟩
theorem wA_697 : (Cond.instanceMethod y_M_isOn) ∈ wsA := List.mem_filter.mpr ⟨List.mem_of_getElem? (i := 697) (by decide +kernel), rfl⟩
set_option maxRecDepth 20000 in
theorem wA_698 : (Cond.code y_M_isOn b_M_isOn 3 (some .boolean)) ∈ wsA := List.mem_filter.mpr ⟨List.mem_of_getElem? (i := 698) rfl, rfl⟩
theorem wA_699 : (Cond.methodLink R_L 45 y_M_earliest) ∈ wsA := List.mem_filter.mpr ⟨List.mem_of_getElem? (i := 699) (by decide +kernel), rfl⟩
theorem wA_700 : (Cond.instanceMethod y_M_earliest) ∈ wsA := List.mem_filter.mpr ⟨List.mem_of_getElem? (i := 700) (by decide +kernel), rfl⟩
theorem wA_701 : (Cond.selects R_M y_M_earliest y_M_earliest) ∈ wsA := List.mem_filter.mpr ⟨List.mem_of_getElem? (i := 701) (by decide +kernel), rfl⟩
set_option maxRecDepth 20000 in
theorem wA_702 : (Cond.code y_M_earliest b_M_earliest 4 (some .int)) ∈ wsA := List.mem_filter.mpr ⟨List.mem_of_getElem? (i := 702) rfl, rfl⟩
theorem wA_703 : (Cond.methodLink R_M 127 y_M_isAsked) ∈ wsA := List.mem_filter.mpr ⟨List.mem_of_getElem? (i := 703) (by decide +kernel), rfl⟩
theorem wA_705 : (Cond.instanceMethod y_M_isAsked) ∈ wsA := List.mem_filter.mpr ⟨List.mem_of_getElem? (i := 705) (by decide +kernel), rfl⟩
set_option maxRecDepth 20000 in
theorem wA_706 : (Cond.code y_M_isAsked b_M_isAsked 4 (some .boolean)) ∈ wsA := List.mem_filter.mpr ⟨List.mem_of_getElem? (i := 706) rfl, rfl⟩
theorem wA_707 : (Cond.methodLink R_M 130 y_M_found) ∈ wsA := List.mem_filter.mpr ⟨List.mem_of_getElem? (i := 707) (by decide +kernel), rfl⟩
theorem wA_709 : (Cond.instanceMethod y_M_found) ∈ wsA := List.mem_filter.mpr ⟨List.mem_of_getElem? (i := 709) (by decide +kernel), rfl⟩
set_option maxRecDepth 20000 in
theorem wA_710 : (Cond.code y_M_found b_M_found 4 (some .int)) ∈ wsA := List.mem_filter.mpr ⟨List.mem_of_getElem? (i := 710) rfl, rfl⟩
theorem wA_711 : (Cond.methodLink R_M 124 y_M_find) ∈ wsA := List.mem_filter.mpr ⟨List.mem_of_getElem? (i := 711) (by decide +kernel), rfl⟩
theorem wA_713 : (Cond.instanceMethod y_M_find) ∈ wsA := List.mem_filter.mpr ⟨List.mem_of_getElem? (i := 713) (by decide +kernel), rfl⟩
set_option maxRecDepth 20000 in
theorem wA_714 : (Cond.code y_M_find b_M_find 3 none) ∈ wsA := List.mem_filter.mpr ⟨List.mem_of_getElem? (i := 714) rfl, rfl⟩
theorem wA_715 : (Cond.methodLink R_M 117 y_M_begin) ∈ wsA := List.mem_filter.mpr ⟨List.mem_of_getElem? (i := 715) (by decide +kernel), rfl⟩
theorem wA_717 : (Cond.instanceMethod y_M_begin) ∈ wsA := List.mem_filter.mpr ⟨List.mem_of_getElem? (i := 717) (by decide +kernel), rfl⟩
set_option maxRecDepth 20000 in
theorem wA_718 : (Cond.code y_M_begin b_M_begin 4 none) ∈ wsA := List.mem_filter.mpr ⟨List.mem_of_getElem? (i := 718) rfl, rfl⟩
theorem wA_719 : (Cond.constant R_M 99 1000000) ∈ wsA := List.mem_filter.mpr ⟨List.mem_of_getElem? (i := 719) (by decide +kernel), rfl⟩
theorem wA_720 : (Cond.methodLink R_M 114 y_M_goWalks) ∈ wsA := List.mem_filter.mpr ⟨List.mem_of_getElem? (i := 720) (by decide +kernel), rfl⟩
theorem wA_722 : (Cond.instanceMethod y_M_goWalks) ∈ wsA := List.mem_filter.mpr ⟨List.mem_of_getElem? (i := 722) (by decide +kernel), rfl⟩
set_option maxRecDepth 20000 in
theorem wA_723 : (Cond.code y_M_goWalks b_M_goWalks 4 none) ∈ wsA := List.mem_filter.mpr ⟨List.mem_of_getElem? (i := 723) rfl, rfl⟩
theorem wA_724 : (Cond.methodLink R_M 100 y_M_arrival) ∈ wsA := List.mem_filter.mpr ⟨List.mem_of_getElem? (i := 724) (by decide +kernel), rfl⟩
theorem wA_726 : (Cond.instanceMethod y_M_arrival) ∈ wsA := List.mem_filter.mpr ⟨List.mem_of_getElem? (i := 726) (by decide +kernel), rfl⟩
set_option maxRecDepth 20000 in
theorem wA_727 : (Cond.code y_M_arrival b_M_arrival 2 (some .int)) ∈ wsA := List.mem_filter.mpr ⟨List.mem_of_getElem? (i := 727) rfl, rfl⟩
theorem wA_728 : (Cond.methodLink R_M 121 y_M_goRides) ∈ wsA := List.mem_filter.mpr ⟨List.mem_of_getElem? (i := 728) (by decide +kernel), rfl⟩
theorem wA_730 : (Cond.instanceMethod y_M_goRides) ∈ wsA := List.mem_filter.mpr ⟨List.mem_of_getElem? (i := 730) (by decide +kernel), rfl⟩
set_option maxRecDepth 20000 in
theorem wA_731 : (Cond.code y_M_goRides b_M_goRides 3 none) ∈ wsA := List.mem_filter.mpr ⟨List.mem_of_getElem? (i := 731) rfl, rfl⟩
theorem wA_732 : (Cond.methodLink R_M 108 y_M_mayTake) ∈ wsA := List.mem_filter.mpr ⟨List.mem_of_getElem? (i := 732) (by decide +kernel), rfl⟩
theorem wA_734 : (Cond.instanceMethod y_M_mayTake) ∈ wsA := List.mem_filter.mpr ⟨List.mem_of_getElem? (i := 734) (by decide +kernel), rfl⟩
set_option maxRecDepth 20000 in
theorem wA_735 : (Cond.code y_M_mayTake b_M_mayTake 4 (some .boolean)) ∈ wsA := List.mem_filter.mpr ⟨List.mem_of_getElem? (i := 735) rfl, rfl⟩
theorem wA_736 : (Cond.methodLink R_M 96 y_M_goes) ∈ wsA := List.mem_filter.mpr ⟨List.mem_of_getElem? (i := 736) (by decide +kernel), rfl⟩
theorem wA_738 : (Cond.instanceMethod y_M_goes) ∈ wsA := List.mem_filter.mpr ⟨List.mem_of_getElem? (i := 738) (by decide +kernel), rfl⟩
set_option maxRecDepth 20000 in
theorem wA_739 : (Cond.code y_M_goes b_M_goes 3 (some .boolean)) ∈ wsA := List.mem_filter.mpr ⟨List.mem_of_getElem? (i := 739) rfl, rfl⟩
theorem wA_740 : (Cond.methodLink R_M 92 y_M_leaves) ∈ wsA := List.mem_filter.mpr ⟨List.mem_of_getElem? (i := 740) (by decide +kernel), rfl⟩
theorem wA_742 : (Cond.instanceMethod y_M_leaves) ∈ wsA := List.mem_filter.mpr ⟨List.mem_of_getElem? (i := 742) (by decide +kernel), rfl⟩
set_option maxRecDepth 20000 in
theorem wA_743 : (Cond.code y_M_leaves b_M_leaves 3 (some .int)) ∈ wsA := List.mem_filter.mpr ⟨List.mem_of_getElem? (i := 743) rfl, rfl⟩
theorem wA_744 : (Cond.methodLink R_M 111 y_M_arrives) ∈ wsA := List.mem_filter.mpr ⟨List.mem_of_getElem? (i := 744) (by decide +kernel), rfl⟩
theorem wA_746 : (Cond.instanceMethod y_M_arrives) ∈ wsA := List.mem_filter.mpr ⟨List.mem_of_getElem? (i := 746) (by decide +kernel), rfl⟩
set_option maxRecDepth 20000 in
theorem wA_747 : (Cond.code y_M_arrives b_M_arrives 3 (some .int)) ∈ wsA := List.mem_filter.mpr ⟨List.mem_of_getElem? (i := 747) rfl, rfl⟩
theorem wA_748 : (Cond.methodLink R_L 49 y_M_latest) ∈ wsA := List.mem_filter.mpr ⟨List.mem_of_getElem? (i := 748) (by decide +kernel), rfl⟩
theorem wA_749 : (Cond.instanceMethod y_M_latest) ∈ wsA := List.mem_filter.mpr ⟨List.mem_of_getElem? (i := 749) (by decide +kernel), rfl⟩
theorem wA_750 : (Cond.selects R_M y_M_latest y_M_latest) ∈ wsA := List.mem_filter.mpr ⟨List.mem_of_getElem? (i := 750) (by decide +kernel), rfl⟩
set_option maxRecDepth 20000 in
theorem wA_751 : (Cond.code y_M_latest b_M_latest 7 (some .int)) ∈ wsA := List.mem_filter.mpr ⟨List.mem_of_getElem? (i := 751) rfl, rfl⟩
theorem wA_752 : (Cond.methodLink R_M 134 y_M_isBy) ∈ wsA := List.mem_filter.mpr ⟨List.mem_of_getElem? (i := 752) (by decide +kernel), rfl⟩
theorem wA_754 : (Cond.instanceMethod y_M_isBy) ∈ wsA := List.mem_filter.mpr ⟨List.mem_of_getElem? (i := 754) (by decide +kernel), rfl⟩
set_option maxRecDepth 20000 in
theorem wA_755 : (Cond.code y_M_isBy b_M_isBy 5 (some .boolean)) ∈ wsA := List.mem_filter.mpr ⟨List.mem_of_getElem? (i := 755) rfl, rfl⟩
theorem wA_756 : (Cond.methodLink R_L 54 y_M_fewest) ∈ wsA := List.mem_filter.mpr ⟨List.mem_of_getElem? (i := 756) (by decide +kernel), rfl⟩
theorem wA_757 : (Cond.instanceMethod y_M_fewest) ∈ wsA := List.mem_filter.mpr ⟨List.mem_of_getElem? (i := 757) (by decide +kernel), rfl⟩
theorem wA_758 : (Cond.selects R_M y_M_fewest y_M_fewest) ∈ wsA := List.mem_filter.mpr ⟨List.mem_of_getElem? (i := 758) (by decide +kernel), rfl⟩
set_option maxRecDepth 20000 in
theorem wA_759 : (Cond.code y_M_fewest b_M_fewest 6 (some .int)) ∈ wsA := List.mem_filter.mpr ⟨List.mem_of_getElem? (i := 759) rfl, rfl⟩
theorem wA_760 : (Cond.methodLink R_L 58 y_M_fastest) ∈ wsA := List.mem_filter.mpr ⟨List.mem_of_getElem? (i := 760) (by decide +kernel), rfl⟩
theorem wA_761 : (Cond.instanceMethod y_M_fastest) ∈ wsA := List.mem_filter.mpr ⟨List.mem_of_getElem? (i := 761) (by decide +kernel), rfl⟩
theorem wA_762 : (Cond.selects R_M y_M_fastest y_M_fastest) ∈ wsA := List.mem_filter.mpr ⟨List.mem_of_getElem? (i := 762) (by decide +kernel), rfl⟩
set_option maxRecDepth 20000 in
theorem wA_763 : (Cond.code y_M_fastest b_M_fastest 8 (some .int)) ∈ wsA := List.mem_filter.mpr ⟨List.mem_of_getElem? (i := 763) rfl, rfl⟩
theorem wA_764 : (Cond.methodLink R_M 138 y_M_isSpan) ∈ wsA := List.mem_filter.mpr ⟨List.mem_of_getElem? (i := 764) (by decide +kernel), rfl⟩
theorem wA_766 : (Cond.instanceMethod y_M_isSpan) ∈ wsA := List.mem_filter.mpr ⟨List.mem_of_getElem? (i := 766) (by decide +kernel), rfl⟩
set_option maxRecDepth 20000 in
theorem wA_767 : (Cond.code y_M_isSpan b_M_isSpan 5 (some .boolean)) ∈ wsA := List.mem_filter.mpr ⟨List.mem_of_getElem? (i := 767) rfl, rfl⟩
theorem wA_768 : (Cond.methodLink R_L 62 y_M_profile) ∈ wsA := List.mem_filter.mpr ⟨List.mem_of_getElem? (i := 768) (by decide +kernel), rfl⟩
theorem wA_769 : (Cond.instanceMethod y_M_profile) ∈ wsA := List.mem_filter.mpr ⟨List.mem_of_getElem? (i := 769) (by decide +kernel), rfl⟩
theorem wA_770 : (Cond.selects R_M y_M_profile y_M_profile) ∈ wsA := List.mem_filter.mpr ⟨List.mem_of_getElem? (i := 770) (by decide +kernel), rfl⟩
set_option maxRecDepth 20000 in
theorem wA_771 : (Cond.code y_M_profile b_M_profile 7 (some .int)) ∈ wsA := List.mem_filter.mpr ⟨List.mem_of_getElem? (i := 771) rfl, rfl⟩
theorem wA_772 : (Cond.methodLink R_L 66 y_M_step) ∈ wsA := List.mem_filter.mpr ⟨List.mem_of_getElem? (i := 772) (by decide +kernel), rfl⟩
theorem wA_773 : (Cond.instanceMethod y_M_step) ∈ wsA := List.mem_filter.mpr ⟨List.mem_of_getElem? (i := 773) (by decide +kernel), rfl⟩
theorem wA_774 : (Cond.selects R_M y_M_step y_M_step) ∈ wsA := List.mem_filter.mpr ⟨List.mem_of_getElem? (i := 774) (by decide +kernel), rfl⟩
set_option maxRecDepth 20000 in
theorem wA_775 : (Cond.code y_M_step b_M_step 3 (some .int)) ∈ wsA := List.mem_filter.mpr ⟨List.mem_of_getElem? (i := 775) rfl, rfl⟩
theorem wA_776 : (Cond.methodLink R_L 70 y_M_reach) ∈ wsA := List.mem_filter.mpr ⟨List.mem_of_getElem? (i := 776) (by decide +kernel), rfl⟩
theorem wA_777 : (Cond.instanceMethod y_M_reach) ∈ wsA := List.mem_filter.mpr ⟨List.mem_of_getElem? (i := 777) (by decide +kernel), rfl⟩
theorem wA_778 : (Cond.selects R_M y_M_reach y_M_reach) ∈ wsA := List.mem_filter.mpr ⟨List.mem_of_getElem? (i := 778) (by decide +kernel), rfl⟩
set_option maxRecDepth 20000 in
theorem wA_779 : (Cond.code y_M_reach b_M_reach 6 (some .int)) ∈ wsA := List.mem_filter.mpr ⟨List.mem_of_getElem? (i := 779) rfl, rfl⟩
theorem wA_780 : (Cond.methodLink R_L 74 y_M_way) ∈ wsA := List.mem_filter.mpr ⟨List.mem_of_getElem? (i := 780) (by decide +kernel), rfl⟩
theorem wA_781 : (Cond.instanceMethod y_M_way) ∈ wsA := List.mem_filter.mpr ⟨List.mem_of_getElem? (i := 781) (by decide +kernel), rfl⟩
theorem wA_782 : (Cond.selects R_M y_M_way y_M_way) ∈ wsA := List.mem_filter.mpr ⟨List.mem_of_getElem? (i := 782) (by decide +kernel), rfl⟩
set_option maxRecDepth 20000 in
theorem wA_783 : (Cond.code y_M_way b_M_way 9 (some .int)) ∈ wsA := List.mem_filter.mpr ⟨List.mem_of_getElem? (i := 783) rfl, rfl⟩
theorem wA_784 : (Cond.methodLink R_M 141 y_M_walkBefore) ∈ wsA := List.mem_filter.mpr ⟨List.mem_of_getElem? (i := 784) (by decide +kernel), rfl⟩
theorem wA_786 : (Cond.instanceMethod y_M_walkBefore) ∈ wsA := List.mem_filter.mpr ⟨List.mem_of_getElem? (i := 786) (by decide +kernel), rfl⟩
set_option maxRecDepth 20000 in
theorem wA_787 : (Cond.code y_M_walkBefore b_M_walkBefore 3 (some .int)) ∈ wsA := List.mem_filter.mpr ⟨List.mem_of_getElem? (i := 787) rfl, rfl⟩
theorem wA_788 : (Cond.methodLink R_M 144 y_M_put) ∈ wsA := List.mem_filter.mpr ⟨List.mem_of_getElem? (i := 788) (by decide +kernel), rfl⟩
theorem wA_790 : (Cond.instanceMethod y_M_put) ∈ wsA := List.mem_filter.mpr ⟨List.mem_of_getElem? (i := 790) (by decide +kernel), rfl⟩
set_option maxRecDepth 20000 in
theorem wA_791 : (Cond.code y_M_put b_M_put 6 none) ∈ wsA := List.mem_filter.mpr ⟨List.mem_of_getElem? (i := 791) rfl, rfl⟩
theorem wA_792 : (Cond.methodLink R_M 148 y_M_departureBefore) ∈ wsA := List.mem_filter.mpr ⟨List.mem_of_getElem? (i := 792) (by decide +kernel), rfl⟩
theorem wA_794 : (Cond.instanceMethod y_M_departureBefore) ∈ wsA := List.mem_filter.mpr ⟨List.mem_of_getElem? (i := 794) (by decide +kernel), rfl⟩
set_option maxRecDepth 20000 in
theorem wA_795 : (Cond.code y_M_departureBefore b_M_departureBefore 3 (some .int)) ∈ wsA := List.mem_filter.mpr ⟨List.mem_of_getElem? (i := 795) rfl, rfl⟩
theorem wA_796 : (Cond.methodLink R_L 78 y_M_act) ∈ wsA := List.mem_filter.mpr ⟨List.mem_of_getElem? (i := 796) (by decide +kernel), rfl⟩
theorem wA_797 : (Cond.instanceMethod y_M_act) ∈ wsA := List.mem_filter.mpr ⟨List.mem_of_getElem? (i := 797) (by decide +kernel), rfl⟩
theorem wA_798 : (Cond.selects R_M y_M_act y_M_act) ∈ wsA := List.mem_filter.mpr ⟨List.mem_of_getElem? (i := 798) (by decide +kernel), rfl⟩
set_option maxRecDepth 20000 in
theorem wA_799 : (Cond.code y_M_act b_M_act 3 (some .int)) ∈ wsA := List.mem_filter.mpr ⟨List.mem_of_getElem? (i := 799) rfl, rfl⟩
theorem wA_800 : (Cond.methodLink R_L 82 y_M_next) ∈ wsA := List.mem_filter.mpr ⟨List.mem_of_getElem? (i := 800) (by decide +kernel), rfl⟩
theorem wA_801 : (Cond.instanceMethod y_M_next) ∈ wsA := List.mem_filter.mpr ⟨List.mem_of_getElem? (i := 801) (by decide +kernel), rfl⟩
theorem wA_802 : (Cond.selects R_M y_M_next y_M_next) ∈ wsA := List.mem_filter.mpr ⟨List.mem_of_getElem? (i := 802) (by decide +kernel), rfl⟩
set_option maxRecDepth 20000 in
theorem wA_803 : (Cond.code y_M_next b_M_next 8 (some .int)) ∈ wsA := List.mem_filter.mpr ⟨List.mem_of_getElem? (i := 803) rfl, rfl⟩
theorem wA_804 : (Cond.methodLink R_L 86 y_M_told) ∈ wsA := List.mem_filter.mpr ⟨List.mem_of_getElem? (i := 804) (by decide +kernel), rfl⟩
theorem wA_805 : (Cond.instanceMethod y_M_told) ∈ wsA := List.mem_filter.mpr ⟨List.mem_of_getElem? (i := 805) (by decide +kernel), rfl⟩
theorem wA_806 : (Cond.selects R_M y_M_told y_M_told) ∈ wsA := List.mem_filter.mpr ⟨List.mem_of_getElem? (i := 806) (by decide +kernel), rfl⟩
set_option maxRecDepth 20000 in
theorem wA_807 : (Cond.code y_M_told b_M_told 5 (some .int)) ∈ wsA := List.mem_filter.mpr ⟨List.mem_of_getElem? (i := 807) rfl, rfl⟩
theorem wA_808 : (Cond.methodLink R_L 90 y_M_of) ∈ wsA := List.mem_filter.mpr ⟨List.mem_of_getElem? (i := 808) (by decide +kernel), rfl⟩
theorem wA_809 : (Cond.instanceMethod y_M_of) ∈ wsA := List.mem_filter.mpr ⟨List.mem_of_getElem? (i := 809) (by decide +kernel), rfl⟩
theorem wA_810 : (Cond.selects R_M y_M_of y_M_of) ∈ wsA := List.mem_filter.mpr ⟨List.mem_of_getElem? (i := 810) (by decide +kernel), rfl⟩
set_option maxRecDepth 20000 in
theorem wA_811 : (Cond.code y_M_of b_M_of 5 (some .int)) ∈ wsA := List.mem_filter.mpr ⟨List.mem_of_getElem? (i := 811) rfl, rfl⟩
