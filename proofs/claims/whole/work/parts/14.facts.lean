/-! facts of the tables, one by one -/
theorem hc0 : cdo 0 = cX0_size := rfl
theorem hk0 : clo 0 = 0 := rfl
theorem hm0 : mxl 0 = 1 := rfl
theorem hr0 : rto 0 = (some .int) := rfl
theorem hs0 : sto 0 = false := rfl
theorem hn0 : npo 0 + 1 = 1 := rfl
theorem hc1 : cdo 1 = cX0_isFull := rfl
theorem hk1 : clo 1 = 0 := rfl
theorem hm1 : mxl 1 = 1 := rfl
theorem hr1 : rto 1 = (some .boolean) := rfl
theorem hs1 : sto 1 = false := rfl
theorem hn1 : npo 1 + 1 = 1 := rfl
theorem hc2 : cdo 2 = cX0_clear := rfl
theorem hk2 : clo 2 = 0 := rfl
theorem hm2 : mxl 2 = 1 := rfl
theorem hr2 : rto 2 = none := rfl
theorem hs2 : sto 2 = false := rfl
theorem hn2 : npo 2 + 1 = 1 := rfl
theorem hc3 : cdo 3 = cX0_add := rfl
theorem hk3 : clo 3 = 0 := rfl
theorem hm3 : mxl 3 = 7 := rfl
theorem hr3 : rto 3 = none := rfl
theorem hs3 : sto 3 = false := rfl
theorem hn3 : npo 3 + 1 = 7 := rfl
theorem hc4 : cdo 4 = cX0_copyFrom := rfl
theorem hk4 : clo 4 = 0 := rfl
theorem hm4 : mxl 4 = 2 := rfl
theorem hr4 : rto 4 = none := rfl
theorem hs4 : sto 4 = false := rfl
theorem hn4 : npo 4 + 1 = 2 := rfl
theorem hc5 : cdo 5 = cX0_permits := rfl
theorem hk5 : clo 5 = 0 := rfl
theorem hm5 : mxl 5 = 5 := rfl
theorem hr5 : rto 5 = (some .boolean) := rfl
theorem hs5 : sto 5 = false := rfl
theorem hn5 : npo 5 + 1 = 4 := rfl
theorem hc6 : cdo 6 = cX0_speedOn := rfl
theorem hk6 : clo 6 = 0 := rfl
theorem hm6 : mxl 6 = 5 := rfl
theorem hr6 : rto 6 = (some .int) := rfl
theorem hs6 : sto 6 = false := rfl
theorem hn6 : npo 6 + 1 = 4 := rfl
theorem hc7 : cdo 7 = cX0_isFor := rfl
theorem hk7 : clo 7 = 0 := rfl
theorem hm7 : mxl 7 = 5 := rfl
theorem hr7 : rto 7 = (some .boolean) := rfl
theorem hs7 : sto 7 = false := rfl
theorem hn7 : npo 7 + 1 = 5 := rfl
theorem hc8 : cdo 8 = cX0_nextChange := rfl
theorem hk8 : clo 8 = 0 := rfl
theorem hm8 : mxl 8 = 4 := rfl
theorem hr8 : rto 8 = (some .int) := rfl
theorem hs8 : sto 8 = false := rfl
theorem hn8 : npo 8 + 1 = 2 := rfl
theorem hc9 : cdo 9 = cX0_lastChange := rfl
theorem hk9 : clo 9 = 0 := rfl
theorem hm9 : mxl 9 = 3 := rfl
theorem hr9 : rto 9 = (some .int) := rfl
theorem hs9 : sto 9 = false := rfl
theorem hn9 : npo 9 + 1 = 1 := rfl
theorem hc10 : cdo 10 = cX1_size := rfl
theorem hk10 : clo 10 = 1 := rfl
theorem hm10 : mxl 10 = 1 := rfl
theorem hr10 : rto 10 = (some .int) := rfl
theorem hs10 : sto 10 = false := rfl
theorem hn10 : npo 10 + 1 = 1 := rfl
theorem hc11 : cdo 11 = cX1_today := rfl
theorem hk11 : clo 11 = 1 := rfl
theorem hm11 : mxl 11 = 1 := rfl
theorem hr11 : rto 11 = (some .int) := rfl
theorem hs11 : sto 11 = false := rfl
theorem hn11 : npo 11 + 1 = 1 := rfl
theorem hc12 : cdo 12 = cX1_goOn := rfl
theorem hk12 : clo 12 = 1 := rfl
theorem hm12 : mxl 12 = 2 := rfl
theorem hr12 : rto 12 = (some .int) := rfl
theorem hs12 : sto 12 = false := rfl
theorem hn12 : npo 12 + 1 = 2 := rfl
theorem hc13 : cdo 13 = cX1_add := rfl
theorem hk13 : clo 13 = 1 := rfl
theorem hm13 : mxl 13 = 4 := rfl
theorem hr13 : rto 13 = (some .int) := rfl
theorem hs13 : sto 13 = false := rfl
theorem hn13 : npo 13 + 1 = 4 := rfl
theorem hc14 : cdo 14 = cX1_takeBack := rfl
theorem hk14 : clo 14 = 1 := rfl
theorem hm14 : mxl 14 = 2 := rfl
theorem hr14 : rto 14 = (some .boolean) := rfl
theorem hs14 : sto 14 = false := rfl
theorem hn14 : npo 14 + 1 = 2 := rfl
theorem hc15 : cdo 15 = cX1_sum := rfl
theorem hk15 : clo 15 = 1 := rfl
theorem hm15 : mxl 15 = 7 := rfl
theorem hr15 : rto 15 = (some .int) := rfl
theorem hs15 : sto 15 = false := rfl
theorem hn15 : npo 15 + 1 = 5 := rfl
theorem hc16 : cdo 16 = cX1_known := rfl
theorem hk16 : clo 16 = 1 := rfl
theorem hm16 : mxl 16 = 5 := rfl
theorem hr16 : rto 16 = (some .int) := rfl
theorem hs16 : sto 16 = false := rfl
theorem hn16 : npo 16 + 1 = 4 := rfl
theorem hc17 : cdo 17 = cX1_isKnown := rfl
theorem hk17 : clo 17 = 1 := rfl
theorem hm17 : mxl 17 = 4 := rfl
theorem hr17 : rto 17 = (some .boolean) := rfl
theorem hs17 : sto 17 = false := rfl
theorem hn17 : npo 17 + 1 = 3 := rfl
theorem hc18 : cdo 18 = cX1_compare := rfl
theorem hk18 : clo 18 = 1 := rfl
theorem hm18 : mxl 18 = 10 := rfl
theorem hr18 : rto 18 = (some .int) := rfl
theorem hs18 : sto 18 = false := rfl
theorem hn18 : npo 18 + 1 = 4 := rfl
theorem hc19 : cdo 19 = cX2_sortOf := rfl
theorem hk19 : clo 19 = 2 := rfl
theorem hm19 : mxl 19 = 2 := rfl
theorem hr19 : rto 19 = (some .int) := rfl
theorem hs19 : sto 19 = false := rfl
theorem hn19 : npo 19 + 1 = 2 := rfl
theorem hc20 : cdo 20 = cX2_startOf := rfl
theorem hk20 : clo 20 = 2 := rfl
theorem hm20 : mxl 20 = 2 := rfl
theorem hr20 : rto 20 = (some .int) := rfl
theorem hs20 : sto 20 = false := rfl
theorem hn20 : npo 20 + 1 = 2 := rfl
theorem hc21 : cdo 21 = cX2_valueOf := rfl
theorem hk21 : clo 21 = 2 := rfl
theorem hm21 : mxl 21 = 2 := rfl
theorem hr21 : rto 21 = (some .int) := rfl
theorem hs21 : sto 21 = false := rfl
theorem hn21 : npo 21 + 1 = 2 := rfl
theorem hc22 : cdo 22 = cX2_cut := rfl
theorem hk22 : clo 22 = 2 := rfl
theorem hm22 : mxl 22 = 3 := rfl
theorem hr22 : rto 22 = none := rfl
theorem hs22 : sto 22 = false := rfl
theorem hn22 : npo 22 + 1 = 1 := rfl
theorem hc23 : cdo 23 = cX2_skipBlanks := rfl
theorem hk23 : clo 23 = 2 := rfl
theorem hm23 : mxl 23 = 1 := rfl
theorem hr23 : rto 23 = none := rfl
theorem hs23 : sto 23 = false := rfl
theorem hn23 : npo 23 + 1 = 1 := rfl
theorem hc24 : cdo 24 = cX2_read := rfl
theorem hk24 : clo 24 = 2 := rfl
theorem hm24 : mxl 24 = 2 := rfl
theorem hr24 : rto 24 = (some .int) := rfl
theorem hs24 : sto 24 = false := rfl
theorem hn24 : npo 24 + 1 = 1 := rfl
theorem hc25 : cdo 25 = cX2_readStreet := rfl
theorem hk25 : clo 25 = 2 := rfl
theorem hm25 : mxl 25 = 3 := rfl
theorem hr25 : rto 25 = (some .boolean) := rfl
theorem hs25 : sto 25 = false := rfl
theorem hn25 : npo 25 + 1 = 1 := rfl
theorem hc26 : cdo 26 = cX2_readNumber := rfl
theorem hk26 : clo 26 = 2 := rfl
theorem hm26 : mxl 26 = 2 := rfl
theorem hr26 : rto 26 = (some .int) := rfl
theorem hs26 : sto 26 = false := rfl
theorem hn26 : npo 26 + 1 = 1 := rfl
theorem hc27 : cdo 27 = cX2_readDigits := rfl
theorem hk27 : clo 27 = 2 := rfl
theorem hm27 : mxl 27 = 2 := rfl
theorem hr27 : rto 27 = (some .int) := rfl
theorem hs27 : sto 27 = false := rfl
theorem hn27 : npo 27 + 1 = 2 := rfl
theorem hc28 : cdo 28 = cX2_skipLetters := rfl
theorem hk28 : clo 28 = 2 := rfl
theorem hm28 : mxl 28 = 1 := rfl
theorem hr28 : rto 28 = none := rfl
theorem hs28 : sto 28 = false := rfl
theorem hn28 : npo 28 + 1 = 1 := rfl
theorem hc29 : cdo 29 = cX2_wordSort := rfl
theorem hk29 : clo 29 = 2 := rfl
theorem hm29 : mxl 29 = 1 := rfl
theorem hr29 : rto 29 = (some .int) := rfl
theorem hs29 : sto 29 = false := rfl
theorem hn29 : npo 29 + 1 = 1 := rfl
theorem hc30 : cdo 30 = cX2_isWord := rfl
theorem hk30 : clo 30 = 2 := rfl
theorem hm30 : mxl 30 = 3 := rfl
theorem hr30 : rto 30 = (some .boolean) := rfl
theorem hs30 : sto 30 = false := rfl
theorem hn30 : npo 30 + 1 = 2 := rfl
theorem hc31 : cdo 31 = cX2_isBlank := rfl
theorem hk31 : clo 31 = 2 := rfl
theorem hm31 : mxl 31 = 1 := rfl
theorem hr31 : rto 31 = (some .boolean) := rfl
theorem hs31 : sto 31 = true := rfl
theorem hn31 : npo 31 = 1 := rfl
theorem hc32 : cdo 32 = cX2_isLetter := rfl
theorem hk32 : clo 32 = 2 := rfl
theorem hm32 : mxl 32 = 1 := rfl
theorem hr32 : rto 32 = (some .boolean) := rfl
theorem hs32 : sto 32 = true := rfl
theorem hn32 : npo 32 = 1 := rfl
theorem hc33 : cdo 33 = cX2_isDigit := rfl
theorem hk33 : clo 33 = 2 := rfl
theorem hm33 : mxl 33 = 1 := rfl
theorem hr33 : rto 33 = (some .boolean) := rfl
theorem hs33 : sto 33 = true := rfl
theorem hn33 : npo 33 = 1 := rfl
theorem hc34 : cdo 34 = cX3_draft := rfl
theorem hk34 : clo 34 = 3 := rfl
theorem hm34 : mxl 34 = 1 := rfl
theorem hr34 : rto 34 = (some (.object "CrossDawn$Book")) := rfl
theorem hs34 : sto 34 = false := rfl
theorem hn34 : npo 34 + 1 = 1 := rfl
theorem hc35 : cdo 35 = cX3_faultKind := rfl
theorem hk35 : clo 35 = 3 := rfl
theorem hm35 : mxl 35 = 1 := rfl
theorem hr35 : rto 35 = (some .int) := rfl
theorem hs35 : sto 35 = false := rfl
theorem hn35 : npo 35 + 1 = 1 := rfl
theorem hc36 : cdo 36 = cX3_faultPlace := rfl
theorem hk36 : clo 36 = 3 := rfl
theorem hm36 : mxl 36 = 1 := rfl
theorem hr36 : rto 36 = (some .int) := rfl
theorem hs36 : sto 36 = false := rfl
theorem hn36 : npo 36 + 1 = 1 := rfl
theorem hc37 : cdo 37 = cX3_parse := rfl
theorem hk37 : clo 37 = 3 := rfl
theorem hm37 : mxl 37 = 3 := rfl
theorem hr37 : rto 37 = (some .boolean) := rfl
theorem hs37 : sto 37 = false := rfl
theorem hn37 : npo 37 + 1 = 1 := rfl
theorem hc38 : cdo 38 = cX3_faultHere := rfl
theorem hk38 : clo 38 = 3 := rfl
theorem hm38 : mxl 38 = 1 := rfl
theorem hr38 : rto 38 = (some .int) := rfl
theorem hs38 : sto 38 = false := rfl
theorem hn38 : npo 38 + 1 = 1 := rfl
theorem hc39 : cdo 39 = cX3_sortHere := rfl
theorem hk39 : clo 39 = 3 := rfl
theorem hm39 : mxl 39 = 1 := rfl
theorem hr39 : rto 39 = (some .int) := rfl
theorem hs39 : sto 39 = false := rfl
theorem hn39 : npo 39 + 1 = 1 := rfl
theorem hc40 : cdo 40 = cX3_readAct := rfl
theorem hk40 : clo 40 = 3 := rfl
theorem hm40 : mxl 40 = 4 := rfl
theorem hr40 : rto 40 = (some .boolean) := rfl
theorem hs40 : sto 40 = false := rfl
theorem hn40 : npo 40 + 1 = 1 := rfl
theorem hc41 : cdo 41 = cX3_readLimitHead := rfl
theorem hk41 : clo 41 = 3 := rfl
theorem hm41 : mxl 41 = 1 := rfl
theorem hr41 : rto 41 = (some .boolean) := rfl
theorem hs41 : sto 41 = false := rfl
theorem hn41 : npo 41 + 1 = 1 := rfl
theorem hc42 : cdo 42 = cX3_readKind := rfl
theorem hk42 : clo 42 = 3 := rfl
theorem hm42 : mxl 42 = 2 := rfl
theorem hr42 : rto 42 = (some .boolean) := rfl
theorem hs42 : sto 42 = false := rfl
theorem hn42 : npo 42 + 1 = 1 := rfl
theorem hc43 : cdo 43 = cX3_readStreet := rfl
theorem hk43 : clo 43 = 3 := rfl
theorem hm43 : mxl 43 = 1 := rfl
theorem hr43 : rto 43 = (some .boolean) := rfl
theorem hs43 : sto 43 = false := rfl
theorem hn43 : npo 43 + 1 = 1 := rfl
theorem hc44 : cdo 44 = cX3_readSpan := rfl
theorem hk44 : clo 44 = 3 := rfl
theorem hm44 : mxl 44 = 1 := rfl
theorem hr44 : rto 44 = (some .boolean) := rfl
theorem hs44 : sto 44 = false := rfl
theorem hn44 : npo 44 + 1 = 1 := rfl
theorem hc45 : cdo 45 = cX3_readNumber := rfl
theorem hk45 : clo 45 = 3 := rfl
theorem hm45 : mxl 45 = 3 := rfl
theorem hr45 : rto 45 = (some .boolean) := rfl
theorem hs45 : sto 45 = false := rfl
theorem hn45 : npo 45 + 1 = 3 := rfl
theorem hc46 : cdo 46 = cX3_readOver := rfl
theorem hk46 : clo 46 = 3 := rfl
theorem hm46 : mxl 46 = 2 := rfl
theorem hr46 : rto 46 = (some .boolean) := rfl
theorem hs46 : sto 46 = false := rfl
theorem hn46 : npo 46 + 1 = 2 := rfl
theorem hc47 : cdo 47 = cX4_signCount := rfl
theorem hk47 : clo 47 = 4 := rfl
theorem hm47 : mxl 47 = 1 := rfl
theorem hr47 : rto 47 = (some .int) := rfl
theorem hs47 : sto 47 = false := rfl
theorem hn47 : npo 47 + 1 = 1 := rfl
theorem hc48 : cdo 48 = cX4_crewCount := rfl
theorem hk48 : clo 48 = 4 := rfl
theorem hm48 : mxl 48 = 1 := rfl
theorem hr48 : rto 48 = (some .int) := rfl
theorem hs48 : sto 48 = false := rfl
theorem hn48 : npo 48 + 1 = 1 := rfl
theorem hc49 : cdo 49 = cX4_hasSign := rfl
theorem hk49 : clo 49 = 4 := rfl
theorem hm49 : mxl 49 = 2 := rfl
theorem hr49 : rto 49 = (some .boolean) := rfl
theorem hs49 : sto 49 = false := rfl
theorem hn49 : npo 49 + 1 = 2 := rfl
theorem hc50 : cdo 50 = cX4_crewOf := rfl
theorem hk50 : clo 50 = 4 := rfl
theorem hm50 : mxl 50 = 2 := rfl
theorem hr50 : rto 50 = (some .int) := rfl
theorem hs50 : sto 50 = false := rfl
theorem hn50 : npo 50 + 1 = 2 := rfl
theorem hc51 : cdo 51 = cX4_countAhead := rfl
theorem hk51 : clo 51 = 4 := rfl
theorem hm51 : mxl 51 = 2 := rfl
theorem hr51 : rto 51 = (some .int) := rfl
theorem hs51 : sto 51 = false := rfl
theorem hn51 : npo 51 + 1 = 2 := rfl
theorem hc52 : cdo 52 = cX4_minuteTurned := rfl
theorem hk52 : clo 52 = 4 := rfl
theorem hm52 : mxl 52 = 2 := rfl
theorem hr52 : rto 52 = (some .int) := rfl
theorem hs52 : sto 52 = false := rfl
theorem hn52 : npo 52 + 1 = 2 := rfl
theorem hc53 : cdo 53 = cX4_forget := rfl
theorem hk53 : clo 53 = 4 := rfl
theorem hm53 : mxl 53 = 1 := rfl
theorem hr53 : rto 53 = none := rfl
theorem hs53 : sto 53 = false := rfl
theorem hn53 : npo 53 + 1 = 1 := rfl
theorem hc54 : cdo 54 = cX4_addSign := rfl
theorem hk54 : clo 54 = 4 := rfl
theorem hm54 : mxl 54 = 3 := rfl
theorem hr54 : rto 54 = (some .int) := rfl
theorem hs54 : sto 54 = false := rfl
theorem hn54 : npo 54 + 1 = 3 := rfl
theorem hc55 : cdo 55 = cX4_addCrew := rfl
theorem hk55 : clo 55 = 4 := rfl
theorem hm55 : mxl 55 = 2 := rfl
theorem hr55 : rto 55 = (some .int) := rfl
theorem hs55 : sto 55 = false := rfl
theorem hn55 : npo 55 + 1 = 2 := rfl
theorem hc56 : cdo 56 = cX4_leastMinutes := rfl
theorem hk56 : clo 56 = 4 := rfl
theorem hm56 : mxl 56 = 2 := rfl
theorem hr56 : rto 56 = (some .int) := rfl
theorem hs56 : sto 56 = false := rfl
theorem hn56 : npo 56 + 1 = 1 := rfl
theorem hc57 : cdo 57 = cX4_fillNeeds := rfl
theorem hk57 : clo 57 = 4 := rfl
theorem hm57 : mxl 57 = 3 := rfl
theorem hr57 : rto 57 = none := rfl
theorem hs57 : sto 57 = false := rfl
theorem hn57 : npo 57 + 1 = 1 := rfl
theorem hc58 : cdo 58 = cX4_needBySigns := rfl
theorem hk58 : clo 58 = 4 := rfl
theorem hm58 : mxl 58 = 5 := rfl
theorem hr58 : rto 58 = (some .int) := rfl
theorem hs58 : sto 58 = false := rfl
theorem hn58 : npo 58 + 1 = 3 := rfl
theorem hc59 : cdo 59 = cX4_needIfFirst := rfl
theorem hk59 : clo 59 = 4 := rfl
theorem hm59 : mxl 59 = 4 := rfl
theorem hr59 : rto 59 = (some .int) := rfl
theorem hs59 : sto 59 = false := rfl
theorem hn59 : npo 59 + 1 = 4 := rfl
theorem hc60 : cdo 60 = cX4_step := rfl
theorem hk60 : clo 60 = 4 := rfl
theorem hm60 : mxl 60 = 3 := rfl
theorem hr60 : rto 60 = (some .int) := rfl
theorem hs60 : sto 60 = false := rfl
theorem hn60 : npo 60 + 1 = 3 := rfl
theorem hc61 : cdo 61 = cX4_need := rfl
theorem hk61 : clo 61 = 4 := rfl
theorem hm61 : mxl 61 = 3 := rfl
theorem hr61 : rto 61 = (some .int) := rfl
theorem hs61 : sto 61 = false := rfl
theorem hn61 : npo 61 + 1 = 3 := rfl
theorem hc62 : cdo 62 = cX4_holds := rfl
theorem hk62 : clo 62 = 4 := rfl
theorem hm62 : mxl 62 = 2 := rfl
theorem hr62 : rto 62 = (some .boolean) := rfl
theorem hs62 : sto 62 = true := rfl
theorem hn62 : npo 62 = 2 := rfl
theorem hc63 : cdo 63 = cX4_shareOut := rfl
theorem hk63 : clo 63 = 4 := rfl
theorem hm63 : mxl 63 = 5 := rfl
theorem hr63 : rto 63 = none := rfl
theorem hs63 : sto 63 = false := rfl
theorem hn63 : npo 63 + 1 = 1 := rfl
theorem hc64 : cdo 64 = cX4_weighTrial := rfl
theorem hk64 : clo 64 = 4 := rfl
theorem hm64 : mxl 64 = 3 := rfl
theorem hr64 : rto 64 = (some .int) := rfl
theorem hs64 : sto 64 = false := rfl
theorem hn64 : npo 64 + 1 = 1 := rfl
theorem hc65 : cdo 65 = cX4_nextTrial := rfl
theorem hk65 : clo 65 = 4 := rfl
theorem hm65 : mxl 65 = 2 := rfl
theorem hr65 : rto 65 = none := rfl
theorem hs65 : sto 65 = false := rfl
theorem hn65 : npo 65 + 1 = 1 := rfl
theorem hc66 : cdo 66 = cX4_layOrder := rfl
theorem hk66 : clo 66 = 4 := rfl
theorem hm66 : mxl 66 = 7 := rfl
theorem hr66 : rto 66 = none := rfl
theorem hs66 : sto 66 = false := rfl
theorem hn66 : npo 66 + 1 = 2 := rfl
theorem hc67 : cdo 67 = cX4_firstOfBest := rfl
theorem hk67 : clo 67 = 4 := rfl
theorem hm67 : mxl 67 = 5 := rfl
theorem hr67 : rto 67 = (some .int) := rfl
theorem hs67 : sto 67 = false := rfl
theorem hn67 : npo 67 + 1 = 3 := rfl
theorem hc68 : cdo 68 = cX5_minutes := rfl
theorem hk68 : clo 68 = 5 := rfl
theorem hm68 : mxl 68 = 1 := rfl
theorem hr68 : rto 68 = (some .int) := rfl
theorem hs68 : sto 68 = false := rfl
theorem hn68 : npo 68 + 1 = 1 := rfl
theorem hc69 : cdo 69 = cX5_streetCount := rfl
theorem hk69 : clo 69 = 5 := rfl
theorem hm69 : mxl 69 = 1 := rfl
theorem hr69 : rto 69 = (some .int) := rfl
theorem hs69 : sto 69 = false := rfl
theorem hn69 : npo 69 + 1 = 1 := rfl
theorem hc70 : cdo 70 = cX5_forget := rfl
theorem hk70 : clo 70 = 5 := rfl
theorem hm70 : mxl 70 = 1 := rfl
theorem hr70 : rto 70 = none := rfl
theorem hs70 : sto 70 = false := rfl
theorem hn70 : npo 70 + 1 = 1 := rfl
theorem hc71 : cdo 71 = cX5_seek := rfl
theorem hk71 : clo 71 = 5 := rfl
theorem hm71 : mxl 71 = 5 := rfl
theorem hr71 : rto 71 = none := rfl
theorem hs71 : sto 71 = false := rfl
theorem hn71 : npo 71 + 1 = 5 := rfl
theorem hc72 : cdo 72 = cX5_isKnown := rfl
theorem hk72 : clo 72 = 5 := rfl
theorem hm72 : mxl 72 = 5 := rfl
theorem hr72 : rto 72 = (some .boolean) := rfl
theorem hs72 : sto 72 = false := rfl
theorem hn72 : npo 72 + 1 = 5 := rfl
theorem hc73 : cdo 73 = cX5_search := rfl
theorem hk73 : clo 73 = 5 := rfl
theorem hm73 : mxl 73 = 3 := rfl
theorem hr73 : rto 73 = none := rfl
theorem hs73 : sto 73 = false := rfl
theorem hn73 : npo 73 + 1 = 1 := rfl
theorem hc74 : cdo 74 = cX5_setOut := rfl
theorem hk74 : clo 74 = 5 := rfl
theorem hm74 : mxl 74 = 3 := rfl
theorem hr74 : rto 74 = none := rfl
theorem hs74 : sto 74 = false := rfl
theorem hn74 : npo 74 + 1 = 1 := rfl
theorem hc75 : cdo 75 = cX5_enter := rfl
theorem hk75 : clo 75 = 5 := rfl
theorem hm75 : mxl 75 = 7 := rfl
theorem hr75 : rto 75 = none := rfl
theorem hs75 : sto 75 = false := rfl
theorem hn75 : npo 75 + 1 = 5 := rfl
theorem hc76 : cdo 76 = cX5_goOn := rfl
theorem hk76 : clo 76 = 5 := rfl
theorem hm76 : mxl 76 = 7 := rfl
theorem hr76 : rto 76 = none := rfl
theorem hs76 : sto 76 = false := rfl
theorem hn76 : npo 76 + 1 = 3 := rfl
theorem hc77 : cdo 77 = cX5_arrive := rfl
theorem hk77 : clo 77 = 5 := rfl
theorem hm77 : mxl 77 = 3 := rfl
theorem hr77 : rto 77 = none := rfl
theorem hs77 : sto 77 = false := rfl
theorem hn77 : npo 77 + 1 = 3 := rfl
theorem hc78 : cdo 78 = cX5_leave := rfl
theorem hk78 : clo 78 = 5 := rfl
theorem hm78 : mxl 78 = 12 := rfl
theorem hr78 : rto 78 = none := rfl
theorem hs78 : sto 78 = false := rfl
theorem hn78 : npo 78 + 1 = 4 := rfl
theorem hc79 : cdo 79 = cX6_length := rfl
theorem hk79 : clo 79 = 6 := rfl
theorem hm79 : mxl 79 = 1 := rfl
theorem hr79 : rto 79 = (some .int) := rfl
theorem hs79 : sto 79 = false := rfl
theorem hn79 : npo 79 + 1 = 1 := rfl
theorem hc80 : cdo 80 = cX6_hasRoomFor := rfl
theorem hk80 : clo 80 = 6 := rfl
theorem hm80 : mxl 80 = 2 := rfl
theorem hr80 : rto 80 = (some .boolean) := rfl
theorem hs80 : sto 80 = false := rfl
theorem hn80 : npo 80 + 1 = 2 := rfl
theorem hc81 : cdo 81 = cX6_put := rfl
theorem hk81 : clo 81 = 6 := rfl
theorem hm81 : mxl 81 = 3 := rfl
theorem hr81 : rto 81 = none := rfl
theorem hs81 : sto 81 = false := rfl
theorem hn81 : npo 81 + 1 = 2 := rfl
theorem hc82 : cdo 82 = cX6_cutTo := rfl
theorem hk82 : clo 82 = 6 := rfl
theorem hm82 : mxl 82 = 2 := rfl
theorem hr82 : rto 82 = none := rfl
theorem hs82 : sto 82 = false := rfl
theorem hn82 : npo 82 + 1 = 2 := rfl
theorem hc83 : cdo 83 = cX6_at := rfl
theorem hk83 : clo 83 = 6 := rfl
theorem hm83 : mxl 83 = 2 := rfl
theorem hr83 : rto 83 = (some .int) := rfl
theorem hs83 : sto 83 = false := rfl
theorem hn83 : npo 83 + 1 = 2 := rfl
theorem hc84 : cdo 84 = cX7_minutesOn := rfl
theorem hk84 : clo 84 = 7 := rfl
theorem hm84 : mxl 84 = 2 := rfl
theorem hr84 : rto 84 = (some .int) := rfl
theorem hs84 : sto 84 = false := rfl
theorem hn84 : npo 84 + 1 = 2 := rfl
theorem hc85 : cdo 85 = cX7_begin := rfl
theorem hk85 : clo 85 = 7 := rfl
theorem hm85 : mxl 85 = 1 := rfl
theorem hr85 : rto 85 = none := rfl
theorem hs85 : sto 85 = false := rfl
theorem hn85 : npo 85 + 1 = 1 := rfl
theorem hc86 : cdo 86 = cX7_moveTo := rfl
theorem hk86 : clo 86 = 7 := rfl
theorem hm86 : mxl 86 = 7 := rfl
theorem hr86 : rto 86 = none := rfl
theorem hs86 : sto 86 = false := rfl
theorem hn86 : npo 86 + 1 = 3 := rfl
theorem hc87 : cdo 87 = cX8_crossingCount := rfl
theorem hk87 : clo 87 = 8 := rfl
theorem hm87 : mxl 87 = 1 := rfl
theorem hr87 : rto 87 = (some .int) := rfl
theorem hs87 : sto 87 = false := rfl
theorem hn87 : npo 87 + 1 = 1 := rfl
theorem hc88 : cdo 88 = cX8_streetCount := rfl
theorem hk88 : clo 88 = 8 := rfl
theorem hm88 : mxl 88 = 1 := rfl
theorem hr88 : rto 88 = (some .int) := rfl
theorem hs88 : sto 88 = false := rfl
theorem hn88 : npo 88 + 1 = 1 := rfl
theorem hc89 : cdo 89 = cX8_hourMinute := rfl
theorem hk89 : clo 89 = 8 := rfl
theorem hm89 : mxl 89 = 1 := rfl
theorem hr89 : rto 89 = (some .int) := rfl
theorem hs89 : sto 89 = false := rfl
theorem hn89 : npo 89 + 1 = 1 := rfl
theorem hc90 : cdo 90 = cX8_hasCrossing := rfl
theorem hk90 : clo 90 = 8 := rfl
theorem hm90 : mxl 90 = 2 := rfl
theorem hr90 : rto 90 = (some .boolean) := rfl
theorem hs90 : sto 90 = false := rfl
theorem hn90 : npo 90 + 1 = 2 := rfl
theorem hc91 : cdo 91 = cX8_hasStreet := rfl
theorem hk91 : clo 91 = 8 := rfl
theorem hm91 : mxl 91 = 2 := rfl
theorem hr91 : rto 91 = (some .boolean) := rfl
theorem hs91 : sto 91 = false := rfl
theorem hn91 : npo 91 + 1 = 2 := rfl
theorem hc92 : cdo 92 = cX8_setHour := rfl
theorem hk92 : clo 92 = 8 := rfl
theorem hm92 : mxl 92 = 2 := rfl
theorem hr92 : rto 92 = none := rfl
theorem hs92 : sto 92 = false := rfl
theorem hn92 : npo 92 + 1 = 2 := rfl
theorem hc93 : cdo 93 = cX8_setCorners := rfl
theorem hk93 : clo 93 = 8 := rfl
theorem hm93 : mxl 93 = 3 := rfl
theorem hr93 : rto 93 = none := rfl
theorem hs93 : sto 93 = false := rfl
theorem hn93 : npo 93 + 1 = 3 := rfl
theorem hc94 : cdo 94 = cX8_addCrossing := rfl
theorem hk94 : clo 94 = 8 := rfl
theorem hm94 : mxl 94 = 1 := rfl
theorem hr94 : rto 94 = (some .int) := rfl
theorem hs94 : sto 94 = false := rfl
theorem hn94 : npo 94 + 1 = 1 := rfl
theorem hc95 : cdo 95 = cX8_addStreet := rfl
theorem hk95 : clo 95 = 8 := rfl
theorem hm95 : mxl 95 = 6 := rfl
theorem hr95 : rto 95 = (some .int) := rfl
theorem hs95 : sto 95 = false := rfl
theorem hn95 : npo 95 + 1 = 5 := rfl
theorem hc96 : cdo 96 = cX8_layAround := rfl
theorem hk96 : clo 96 = 8 := rfl
theorem hm96 : mxl 96 = 4 := rfl
theorem hr96 : rto 96 = (some .int) := rfl
theorem hs96 : sto 96 = false := rfl
theorem hn96 : npo 96 + 1 = 3 := rfl
theorem hc97 : cdo 97 = cX8_shortenFootWays := rfl
theorem hk97 : clo 97 = 8 := rfl
theorem hm97 : mxl 97 = 11 := rfl
theorem hr97 : rto 97 = none := rfl
theorem hs97 : sto 97 = false := rfl
theorem hn97 : npo 97 + 1 = 4 := rfl
theorem hc98 : cdo 98 = cX8_footMinutes := rfl
theorem hk98 : clo 98 = 8 := rfl
theorem hm98 : mxl 98 = 3 := rfl
theorem hr98 : rto 98 = (some .int) := rfl
theorem hs98 : sto 98 = false := rfl
theorem hn98 : npo 98 + 1 = 3 := rfl
theorem hc99 : cdo 99 = cX8_touches := rfl
theorem hk99 : clo 99 = 8 := rfl
theorem hm99 : mxl 99 = 3 := rfl
theorem hr99 : rto 99 = (some .boolean) := rfl
theorem hs99 : sto 99 = false := rfl
theorem hn99 : npo 99 + 1 = 3 := rfl
theorem hc100 : cdo 100 = cX8_degree := rfl
theorem hk100 : clo 100 = 8 := rfl
theorem hm100 : mxl 100 = 2 := rfl
theorem hr100 : rto 100 = (some .int) := rfl
theorem hs100 : sto 100 = false := rfl
theorem hn100 : npo 100 + 1 = 2 := rfl
theorem hc101 : cdo 101 = cX8_laneAround := rfl
theorem hk101 : clo 101 = 8 := rfl
theorem hm101 : mxl 101 = 3 := rfl
theorem hr101 : rto 101 = (some .int) := rfl
theorem hs101 : sto 101 = false := rfl
theorem hn101 : npo 101 + 1 = 3 := rfl
theorem hc102 : cdo 102 = cX8_lengthOf := rfl
theorem hk102 : clo 102 = 8 := rfl
theorem hm102 : mxl 102 = 2 := rfl
theorem hr102 : rto 102 = (some .int) := rfl
theorem hs102 : sto 102 = false := rfl
theorem hn102 : npo 102 + 1 = 2 := rfl
theorem hc103 : cdo 103 = cX8_laneEnd := rfl
theorem hk103 : clo 103 = 8 := rfl
theorem hm103 : mxl 103 = 2 := rfl
theorem hr103 : rto 103 = (some .int) := rfl
theorem hs103 : sto 103 = false := rfl
theorem hn103 : npo 103 + 1 = 2 := rfl
theorem hc104 : cdo 104 = cX8_isOpen := rfl
theorem hk104 : clo 104 = 8 := rfl
theorem hm104 : mxl 104 = 4 := rfl
theorem hr104 : rto 104 = (some .boolean) := rfl
theorem hs104 : sto 104 = false := rfl
theorem hn104 : npo 104 + 1 = 3 := rfl
theorem hc105 : cdo 105 = cX8_isOnRight := rfl
theorem hk105 : clo 105 = 8 := rfl
theorem hm105 : mxl 105 = 2 := rfl
theorem hr105 : rto 105 = (some .boolean) := rfl
theorem hs105 : sto 105 = false := rfl
theorem hn105 : npo 105 + 1 = 2 := rfl
theorem hc106 : cdo 106 = cX8_nearStep := rfl
theorem hk106 : clo 106 = 8 := rfl
theorem hm106 : mxl 106 = 3 := rfl
theorem hr106 : rto 106 = (some .int) := rfl
theorem hs106 : sto 106 = false := rfl
theorem hn106 : npo 106 + 1 = 3 := rfl
theorem hc107 : cdo 107 = cX8_isNear := rfl
theorem hk107 : clo 107 = 8 := rfl
theorem hm107 : mxl 107 = 6 := rfl
theorem hr107 : rto 107 = (some .boolean) := rfl
theorem hs107 : sto 107 = false := rfl
theorem hn107 : npo 107 + 1 = 5 := rfl
theorem hc108 : cdo 108 = cX8_placeAt := rfl
theorem hk108 : clo 108 = 8 := rfl
theorem hm108 : mxl 108 = 3 := rfl
theorem hr108 : rto 108 = (some .int) := rfl
theorem hs108 : sto 108 = false := rfl
theorem hn108 : npo 108 + 1 = 3 := rfl
theorem hc109 : cdo 109 = cX8_turnMinutes := rfl
theorem hk109 : clo 109 = 8 := rfl
theorem hm109 : mxl 109 = 2 := rfl
theorem hr109 : rto 109 = (some .int) := rfl
theorem hs109 : sto 109 = false := rfl
theorem hn109 : npo 109 + 1 = 2 := rfl
theorem hc110 : cdo 110 = cX9_crossing := rfl
theorem hk110 : clo 110 = 9 := rfl
theorem hm110 : mxl 110 = 1 := rfl
theorem hr110 : rto 110 = (some .int) := rfl
theorem hs110 : sto 110 = false := rfl
theorem hn110 : npo 110 + 1 = 1 := rfl
theorem hc111 : cdo 111 = cX9_street := rfl
theorem hk111 : clo 111 = 9 := rfl
theorem hm111 : mxl 111 = 6 := rfl
theorem hr111 : rto 111 = (some .int) := rfl
theorem hs111 : sto 111 = false := rfl
theorem hn111 : npo 111 + 1 = 5 := rfl
theorem hc112 : cdo 112 = cX9_hour := rfl
theorem hk112 : clo 112 = 9 := rfl
theorem hm112 : mxl 112 = 2 := rfl
theorem hr112 : rto 112 = (some .boolean) := rfl
theorem hs112 : sto 112 = false := rfl
theorem hn112 : npo 112 + 1 = 2 := rfl
theorem hc113 : cdo 113 = cX9_corners := rfl
theorem hk113 : clo 113 = 9 := rfl
theorem hm113 : mxl 113 = 3 := rfl
theorem hr113 : rto 113 = (some .boolean) := rfl
theorem hs113 : sto 113 = false := rfl
theorem hn113 : npo 113 + 1 = 3 := rfl
theorem hc114 : cdo 114 = cX9_turn := rfl
theorem hk114 : clo 114 = 9 := rfl
theorem hm114 : mxl 114 = 5 := rfl
theorem hr114 : rto 114 = (some .int) := rfl
theorem hs114 : sto 114 = false := rfl
theorem hn114 : npo 114 + 1 = 5 := rfl
theorem hc115 : cdo 115 = cX9_feed := rfl
theorem hk115 : clo 115 = 9 := rfl
theorem hm115 : mxl 115 = 6 := rfl
theorem hr115 : rto 115 = (some .int) := rfl
theorem hs115 : sto 115 = false := rfl
theorem hn115 : npo 115 + 1 = 6 := rfl
theorem hc116 : cdo 116 = cX9_end := rfl
theorem hk116 : clo 116 = 9 := rfl
theorem hm116 : mxl 116 = 2 := rfl
theorem hr116 : rto 116 = (some .int) := rfl
theorem hs116 : sto 116 = false := rfl
theorem hn116 : npo 116 + 1 = 2 := rfl
theorem hc117 : cdo 117 = cX9_acts := rfl
theorem hk117 : clo 117 = 9 := rfl
theorem hm117 : mxl 117 = 2 := rfl
theorem hr117 : rto 117 = (some .int) := rfl
theorem hs117 : sto 117 = false := rfl
theorem hn117 : npo 117 + 1 = 1 := rfl
theorem hc118 : cdo 118 = cX9_fault := rfl
theorem hk118 : clo 118 = 9 := rfl
theorem hm118 : mxl 118 = 2 := rfl
theorem hr118 : rto 118 = (some .int) := rfl
theorem hs118 : sto 118 = false := rfl
theorem hn118 : npo 118 + 1 = 2 := rfl
theorem hc119 : cdo 119 = cX9_may := rfl
theorem hk119 : clo 119 = 9 := rfl
theorem hm119 : mxl 119 = 4 := rfl
theorem hr119 : rto 119 = (some .int) := rfl
theorem hs119 : sto 119 = false := rfl
theorem hn119 : npo 119 + 1 = 4 := rfl
theorem hc120 : cdo 120 = cX9_speed := rfl
theorem hk120 : clo 120 = 9 := rfl
theorem hm120 : mxl 120 = 4 := rfl
theorem hr120 : rto 120 = (some .int) := rfl
theorem hs120 : sto 120 = false := rfl
theorem hn120 : npo 120 + 1 = 4 := rfl
theorem hc121 : cdo 121 = cX9_fastest := rfl
theorem hk121 : clo 121 = 9 := rfl
theorem hm121 : mxl 121 = 5 := rfl
theorem hr121 : rto 121 = (some .int) := rfl
theorem hs121 : sto 121 = false := rfl
theorem hn121 : npo 121 + 1 = 5 := rfl
theorem hc122 : cdo 122 = cX9_streets := rfl
theorem hk122 : clo 122 = 9 := rfl
theorem hm122 : mxl 122 = 5 := rfl
theorem hr122 : rto 122 = (some .int) := rfl
theorem hs122 : sto 122 = false := rfl
theorem hn122 : npo 122 + 1 = 5 := rfl
theorem hc123 : cdo 123 = cX9_sign := rfl
theorem hk123 : clo 123 = 9 := rfl
theorem hm123 : mxl 123 = 3 := rfl
theorem hr123 : rto 123 = (some .int) := rfl
theorem hs123 : sto 123 = false := rfl
theorem hn123 : npo 123 + 1 = 3 := rfl
theorem hc124 : cdo 124 = cX9_crew := rfl
theorem hk124 : clo 124 = 9 := rfl
theorem hm124 : mxl 124 = 2 := rfl
theorem hr124 : rto 124 = (some .int) := rfl
theorem hs124 : sto 124 = false := rfl
theorem hn124 : npo 124 + 1 = 2 := rfl
theorem hc125 : cdo 125 = cX9_walk := rfl
theorem hk125 : clo 125 = 9 := rfl
theorem hm125 : mxl 125 = 4 := rfl
theorem hr125 : rto 125 = (some .int) := rfl
theorem hs125 : sto 125 = false := rfl
theorem hn125 : npo 125 + 1 = 3 := rfl
theorem hc126 : cdo 126 = cX9_done := rfl
theorem hk126 : clo 126 = 9 := rfl
theorem hm126 : mxl 126 = 1 := rfl
theorem hr126 : rto 126 = (some .int) := rfl
theorem hs126 : sto 126 = false := rfl
theorem hn126 : npo 126 + 1 = 1 := rfl
theorem hc127 : cdo 127 = cX9_order := rfl
theorem hk127 : clo 127 = 9 := rfl
theorem hm127 : mxl 127 = 3 := rfl
theorem hr127 : rto 127 = (some .int) := rfl
theorem hs127 : sto 127 = false := rfl
theorem hn127 : npo 127 + 1 = 3 := rfl
theorem hc128 : cdo 128 = cX9_later := rfl
theorem hk128 : clo 128 = 9 := rfl
theorem hm128 : mxl 128 = 2 := rfl
theorem hr128 : rto 128 = (some .int) := rfl
theorem hs128 : sto 128 = false := rfl
theorem hn128 : npo 128 + 1 = 2 := rfl
theorem hc129 : cdo 129 = cX9_tell := rfl
theorem hk129 : clo 129 = 9 := rfl
theorem hm129 : mxl 129 = 4 := rfl
theorem hr129 : rto 129 = (some .int) := rfl
theorem hs129 : sto 129 = false := rfl
theorem hn129 : npo 129 + 1 = 4 := rfl
theorem hc130 : cdo 130 = cX9_untell := rfl
theorem hk130 : clo 130 = 9 := rfl
theorem hm130 : mxl 130 = 2 := rfl
theorem hr130 : rto 130 = (some .boolean) := rfl
theorem hs130 : sto 130 = false := rfl
theorem hn130 : npo 130 + 1 = 2 := rfl
theorem hc131 : cdo 131 = cX9_harms := rfl
theorem hk131 : clo 131 = 9 := rfl
theorem hm131 : mxl 131 = 5 := rfl
theorem hr131 : rto 131 = (some .int) := rfl
theorem hs131 : sto 131 = false := rfl
theorem hn131 : npo 131 + 1 = 5 := rfl
theorem hc132 : cdo 132 = cX9_differ := rfl
theorem hk132 : clo 132 = 9 := rfl
theorem hm132 : mxl 132 = 4 := rfl
theorem hr132 : rto 132 = (some .int) := rfl
theorem hs132 : sto 132 = false := rfl
theorem hn132 : npo 132 + 1 = 4 := rfl
theorem hc133 : cdo 133 = cX9_about := rfl
theorem hk133 : clo 133 = 9 := rfl
theorem hm133 : mxl 133 = 2 := rfl
theorem hr133 : rto 133 = (some .int) := rfl
theorem hs133 : sto 133 = false := rfl
theorem hn133 : npo 133 + 1 = 2 := rfl
theorem hc134 : cdo 134 = cX9_isQuestion := rfl
theorem hk134 : clo 134 = 9 := rfl
theorem hm134 : mxl 134 = 5 := rfl
theorem hr134 : rto 134 = (some .boolean) := rfl
theorem hs134 : sto 134 = false := rfl
theorem hn134 : npo 134 + 1 = 5 := rfl
theorem hc135 : cdo 135 = cX9_isKind := rfl
theorem hk135 : clo 135 = 9 := rfl
theorem hm135 : mxl 135 = 1 := rfl
theorem hr135 : rto 135 = (some .boolean) := rfl
theorem hs135 : sto 135 = true := rfl
theorem hn135 : npo 135 = 1 := rfl
theorem hc136 : cdo 136 = cX9_isMinute := rfl
theorem hk136 : clo 136 = 9 := rfl
theorem hm136 : mxl 136 = 1 := rfl
theorem hr136 : rto 136 = (some .boolean) := rfl
theorem hs136 : sto 136 = true := rfl
theorem hn136 : npo 136 = 1 := rfl
theorem hc137 : cdo 137 = cX9_isWeek := rfl
theorem hk137 : clo 137 = 9 := rfl
theorem hm137 : mxl 137 = 1 := rfl
theorem hr137 : rto 137 = (some .boolean) := rfl
theorem hs137 : sto 137 = true := rfl
theorem hn137 : npo 137 = 1 := rfl
theorem hc138 : cdo 138 = cX9_isWithin := rfl
theorem hk138 : clo 138 = 9 := rfl
theorem hm138 : mxl 138 = 3 := rfl
theorem hr138 : rto 138 = (some .boolean) := rfl
theorem hs138 : sto 138 = true := rfl
theorem hn138 : npo 138 = 3 := rfl
theorem hc139 : cdo 139 = cX10_isCrossing := rfl
theorem hk139 : clo 139 = 10 := rfl
theorem hm139 : mxl 139 = 2 := rfl
theorem hr139 : rto 139 = (some .boolean) := rfl
theorem hs139 : sto 139 = false := rfl
theorem hn139 : npo 139 + 1 = 2 := rfl
theorem hc140 : cdo 140 = cX10_isStreet := rfl
theorem hk140 : clo 140 = 10 := rfl
theorem hm140 : mxl 140 = 2 := rfl
theorem hr140 : rto 140 = (some .boolean) := rfl
theorem hs140 : sto 140 = false := rfl
theorem hn140 : npo 140 + 1 = 2 := rfl
theorem hc141 : cdo 141 = cX10_crossing := rfl
theorem hk141 : clo 141 = 10 := rfl
theorem hm141 : mxl 141 = 1 := rfl
theorem hr141 : rto 141 = (some .int) := rfl
theorem hs141 : sto 141 = false := rfl
theorem hn141 : npo 141 + 1 = 1 := rfl
theorem hc142 : cdo 142 = cX10_street := rfl
theorem hk142 : clo 142 = 10 := rfl
theorem hm142 : mxl 142 = 5 := rfl
theorem hr142 : rto 142 = (some .int) := rfl
theorem hs142 : sto 142 = false := rfl
theorem hn142 : npo 142 + 1 = 5 := rfl
theorem hc143 : cdo 143 = cX10_hour := rfl
theorem hk143 : clo 143 = 10 := rfl
theorem hm143 : mxl 143 = 2 := rfl
theorem hr143 : rto 143 = (some .boolean) := rfl
theorem hs143 : sto 143 = false := rfl
theorem hn143 : npo 143 + 1 = 2 := rfl
theorem hc144 : cdo 144 = cX10_corners := rfl
theorem hk144 : clo 144 = 10 := rfl
theorem hm144 : mxl 144 = 3 := rfl
theorem hr144 : rto 144 = (some .boolean) := rfl
theorem hs144 : sto 144 = false := rfl
theorem hn144 : npo 144 + 1 = 3 := rfl
theorem hc145 : cdo 145 = cX10_within := rfl
theorem hk145 : clo 145 = 10 := rfl
theorem hm145 : mxl 145 = 1 := rfl
theorem hr145 : rto 145 = (some .int) := rfl
theorem hs145 : sto 145 = true := rfl
theorem hn145 : npo 145 = 1 := rfl
theorem hc146 : cdo 146 = cX10_isLeft := rfl
theorem hk146 : clo 146 = 10 := rfl
theorem hm146 : mxl 146 = 2 := rfl
theorem hr146 : rto 146 = (some .boolean) := rfl
theorem hs146 : sto 146 = false := rfl
theorem hn146 : npo 146 + 1 = 2 := rfl
theorem hc147 : cdo 147 = cX10_lies := rfl
theorem hk147 : clo 147 = 10 := rfl
theorem hm147 : mxl 147 = 3 := rfl
theorem hr147 : rto 147 = (some .boolean) := rfl
theorem hs147 : sto 147 = false := rfl
theorem hn147 : npo 147 + 1 = 3 := rfl
theorem hc148 : cdo 148 = cX10_rank := rfl
theorem hk148 : clo 148 = 10 := rfl
theorem hm148 : mxl 148 = 5 := rfl
theorem hr148 : rto 148 = (some .int) := rfl
theorem hs148 : sto 148 = false := rfl
theorem hn148 : npo 148 + 1 = 3 := rfl
theorem hc149 : cdo 149 = cX10_turnTakes := rfl
theorem hk149 : clo 149 = 10 := rfl
theorem hm149 : mxl 149 = 7 := rfl
theorem hr149 : rto 149 = (some .int) := rfl
theorem hs149 : sto 149 = false := rfl
theorem hn149 : npo 149 + 1 = 5 := rfl
theorem hc150 : cdo 150 = cX10_turn := rfl
theorem hk150 : clo 150 = 10 := rfl
theorem hm150 : mxl 150 = 5 := rfl
theorem hr150 : rto 150 = (some .int) := rfl
theorem hs150 : sto 150 = false := rfl
theorem hn150 : npo 150 + 1 = 5 := rfl
theorem hc151 : cdo 151 = cX10_byteAt := rfl
theorem hk151 : clo 151 = 10 := rfl
theorem hm151 : mxl 151 = 2 := rfl
theorem hr151 : rto 151 = (some .int) := rfl
theorem hs151 : sto 151 = false := rfl
theorem hn151 : npo 151 + 1 = 2 := rfl
theorem hc152 : cdo 152 = cX10_isLetter := rfl
theorem hk152 : clo 152 = 10 := rfl
theorem hm152 : mxl 152 = 1 := rfl
theorem hr152 : rto 152 = (some .boolean) := rfl
theorem hs152 : sto 152 = true := rfl
theorem hn152 : npo 152 = 1 := rfl
theorem hc153 : cdo 153 = cX10_isDigit := rfl
theorem hk153 : clo 153 = 10 := rfl
theorem hm153 : mxl 153 = 1 := rfl
theorem hr153 : rto 153 = (some .boolean) := rfl
theorem hs153 : sto 153 = true := rfl
theorem hn153 : npo 153 = 1 := rfl
theorem hc154 : cdo 154 = cX10_fails := rfl
theorem hk154 : clo 154 = 10 := rfl
theorem hm154 : mxl 154 = 3 := rfl
theorem hr154 : rto 154 = none := rfl
theorem hs154 : sto 154 = false := rfl
theorem hn154 : npo 154 + 1 = 3 := rfl
theorem hc155 : cdo 155 = cX10_isGood := rfl
theorem hk155 : clo 155 = 10 := rfl
theorem hm155 : mxl 155 = 1 := rfl
theorem hr155 : rto 155 = (some .boolean) := rfl
theorem hs155 : sto 155 = false := rfl
theorem hn155 : npo 155 + 1 = 1 := rfl
theorem hc156 : cdo 156 = cX10_streetAt := rfl
theorem hk156 : clo 156 = 10 := rfl
theorem hm156 : mxl 156 = 4 := rfl
theorem hr156 : rto 156 = (some .int) := rfl
theorem hs156 : sto 156 = false := rfl
theorem hn156 : npo 156 + 1 = 2 := rfl
theorem hc157 : cdo 157 = cX10_next := rfl
theorem hk157 : clo 157 = 10 := rfl
theorem hm157 : mxl 157 = 3 := rfl
theorem hr157 : rto 157 = none := rfl
theorem hs157 : sto 157 = false := rfl
theorem hn157 : npo 157 + 1 = 1 := rfl
theorem hc158 : cdo 158 = cX10_isWord := rfl
theorem hk158 : clo 158 = 10 := rfl
theorem hm158 : mxl 158 = 3 := rfl
theorem hr158 : rto 158 = (some .boolean) := rfl
theorem hs158 : sto 158 = false := rfl
theorem hn158 : npo 158 + 1 = 2 := rfl
theorem hc159 : cdo 159 = cX10_wrong := rfl
theorem hk159 : clo 159 = 10 := rfl
theorem hm159 : mxl 159 = 1 := rfl
theorem hr159 : rto 159 = none := rfl
theorem hs159 : sto 159 = false := rfl
theorem hn159 : npo 159 + 1 = 1 := rfl
theorem hc160 : cdo 160 = cX10_must := rfl
theorem hk160 : clo 160 = 10 := rfl
theorem hm160 : mxl 160 = 2 := rfl
theorem hr160 : rto 160 = none := rfl
theorem hs160 : sto 160 = false := rfl
theorem hn160 : npo 160 + 1 = 2 := rfl
theorem hc161 : cdo 161 = cX10_kindHere := rfl
theorem hk161 : clo 161 = 10 := rfl
theorem hm161 : mxl 161 = 1 := rfl
theorem hr161 : rto 161 = (some .int) := rfl
theorem hs161 : sto 161 = false := rfl
theorem hn161 : npo 161 + 1 = 1 := rfl
theorem hc162 : cdo 162 = cX10_acts := rfl
theorem hk162 : clo 162 = 10 := rfl
theorem hm162 : mxl 162 = 2 := rfl
theorem hr162 : rto 162 = (some .int) := rfl
theorem hs162 : sto 162 = false := rfl
theorem hn162 : npo 162 + 1 = 1 := rfl
theorem hc163 : cdo 163 = cX10_numeral := rfl
theorem hk163 : clo 163 = 10 := rfl
theorem hm163 : mxl 163 = 4 := rfl
theorem hr163 : rto 163 = (some .int) := rfl
theorem hs163 : sto 163 = false := rfl
theorem hn163 : npo 163 + 1 = 3 := rfl
theorem hc164 : cdo 164 = cX10_readAct := rfl
theorem hk164 : clo 164 = 10 := rfl
theorem hm164 : mxl 164 = 3 := rfl
theorem hr164 : rto 164 = none := rfl
theorem hs164 : sto 164 = false := rfl
theorem hn164 : npo 164 + 1 = 1 := rfl
theorem hc165 : cdo 165 = cX10_fault := rfl
theorem hk165 : clo 165 = 10 := rfl
theorem hm165 : mxl 165 = 2 := rfl
theorem hr165 : rto 165 = (some .int) := rfl
theorem hs165 : sto 165 = false := rfl
theorem hn165 : npo 165 + 1 = 2 := rfl
theorem hc166 : cdo 166 = cX10_isFor := rfl
theorem hk166 : clo 166 = 10 := rfl
theorem hm166 : mxl 166 = 5 := rfl
theorem hr166 : rto 166 = (some .boolean) := rfl
theorem hs166 : sto 166 = false := rfl
theorem hn166 : npo 166 + 1 = 5 := rfl
theorem hc167 : cdo 167 = cX10_mayDrive := rfl
theorem hk167 : clo 167 = 10 := rfl
theorem hm167 : mxl 167 = 6 := rfl
theorem hr167 : rto 167 = (some .boolean) := rfl
theorem hs167 : sto 167 = false := rfl
theorem hn167 : npo 167 + 1 = 4 := rfl
theorem hc168 : cdo 168 = cX10_speedOf := rfl
theorem hk168 : clo 168 = 10 := rfl
theorem hm168 : mxl 168 = 6 := rfl
theorem hr168 : rto 168 = (some .int) := rfl
theorem hs168 : sto 168 = false := rfl
theorem hn168 : npo 168 + 1 = 4 := rfl
theorem hc169 : cdo 169 = cX10_isKind := rfl
theorem hk169 : clo 169 = 10 := rfl
theorem hm169 : mxl 169 = 1 := rfl
theorem hr169 : rto 169 = (some .boolean) := rfl
theorem hs169 : sto 169 = true := rfl
theorem hn169 : npo 169 = 1 := rfl
theorem hc170 : cdo 170 = cX10_isMinute := rfl
theorem hk170 : clo 170 = 10 := rfl
theorem hm170 : mxl 170 = 1 := rfl
theorem hr170 : rto 170 = (some .boolean) := rfl
theorem hs170 : sto 170 = true := rfl
theorem hn170 : npo 170 = 1 := rfl
theorem hc171 : cdo 171 = cX10_may := rfl
theorem hk171 : clo 171 = 10 := rfl
theorem hm171 : mxl 171 = 4 := rfl
theorem hr171 : rto 171 = (some .int) := rfl
theorem hs171 : sto 171 = false := rfl
theorem hn171 : npo 171 + 1 = 4 := rfl
theorem hc172 : cdo 172 = cX10_speed := rfl
theorem hk172 : clo 172 = 10 := rfl
theorem hm172 : mxl 172 = 4 := rfl
theorem hr172 : rto 172 = (some .int) := rfl
theorem hs172 : sto 172 = false := rfl
theorem hn172 : npo 172 + 1 = 4 := rfl
theorem hc173 : cdo 173 = cX10_spot := rfl
theorem hk173 : clo 173 = 10 := rfl
theorem hm173 : mxl 173 = 3 := rfl
theorem hr173 : rto 173 = (some .int) := rfl
theorem hs173 : sto 173 = true := rfl
theorem hn173 : npo 173 = 3 := rfl
theorem hc174 : cdo 174 = cX10_enters := rfl
theorem hk174 : clo 174 = 10 := rfl
theorem hm174 : mxl 174 = 10 := rfl
theorem hr174 : rto 174 = none := rfl
theorem hs174 : sto 174 = false := rfl
theorem hn174 : npo 174 + 1 = 5 := rfl
theorem hc175 : cdo 175 = cX10_drive := rfl
theorem hk175 : clo 175 = 10 := rfl
theorem hm175 : mxl 175 = 9 := rfl
theorem hr175 : rto 175 = (some .int) := rfl
theorem hs175 : sto 175 = false := rfl
theorem hn175 : npo 175 + 1 = 5 := rfl
theorem hc176 : cdo 176 = cX10_goesOn := rfl
theorem hk176 : clo 176 = 10 := rfl
theorem hm176 : mxl 176 = 6 := rfl
theorem hr176 : rto 176 = none := rfl
theorem hs176 : sto 176 = false := rfl
theorem hn176 : npo 176 + 1 = 5 := rfl
theorem hc177 : cdo 177 = cX10_fastest := rfl
theorem hk177 : clo 177 = 10 := rfl
theorem hm177 : mxl 177 = 5 := rfl
theorem hr177 : rto 177 = (some .int) := rfl
theorem hs177 : sto 177 = false := rfl
theorem hn177 : npo 177 + 1 = 5 := rfl
theorem hc178 : cdo 178 = cX10_streets := rfl
theorem hk178 : clo 178 = 10 := rfl
theorem hm178 : mxl 178 = 6 := rfl
theorem hr178 : rto 178 = (some .int) := rfl
theorem hs178 : sto 178 = false := rfl
theorem hn178 : npo 178 + 1 = 5 := rfl
theorem hc179 : cdo 179 = cX10_measure := rfl
theorem hk179 : clo 179 = 10 := rfl
theorem hm179 : mxl 179 = 5 := rfl
theorem hr179 : rto 179 = none := rfl
theorem hs179 : sto 179 = false := rfl
theorem hn179 : npo 179 + 1 = 1 := rfl
theorem hc180 : cdo 180 = cX10_walk := rfl
theorem hk180 : clo 180 = 10 := rfl
theorem hm180 : mxl 180 = 3 := rfl
theorem hr180 : rto 180 = (some .int) := rfl
theorem hs180 : sto 180 = false := rfl
theorem hn180 : npo 180 + 1 = 3 := rfl
theorem hc181 : cdo 181 = cX10_sign := rfl
theorem hk181 : clo 181 = 10 := rfl
theorem hm181 : mxl 181 = 3 := rfl
theorem hr181 : rto 181 = (some .int) := rfl
theorem hs181 : sto 181 = false := rfl
theorem hn181 : npo 181 + 1 = 3 := rfl
theorem hc182 : cdo 182 = cX10_crew := rfl
theorem hk182 : clo 182 = 10 := rfl
theorem hm182 : mxl 182 = 2 := rfl
theorem hr182 : rto 182 = (some .int) := rfl
theorem hs182 : sto 182 = false := rfl
theorem hn182 : npo 182 + 1 = 2 := rfl
theorem hc183 : cdo 183 = cX10_spotOf := rfl
theorem hk183 : clo 183 = 10 := rfl
theorem hm183 : mxl 183 = 2 := rfl
theorem hr183 : rto 183 = (some .int) := rfl
theorem hs183 : sto 183 = true := rfl
theorem hn183 : npo 183 = 2 := rfl
theorem hc184 : cdo 184 = cX10_reckon := rfl
theorem hk184 : clo 184 = 10 := rfl
theorem hm184 : mxl 184 = 6 := rfl
theorem hr184 : rto 184 = none := rfl
theorem hs184 : sto 184 = false := rfl
theorem hn184 : npo 184 + 1 = 1 := rfl
theorem hc185 : cdo 185 = cX10_setOf := rfl
theorem hk185 : clo 185 = 10 := rfl
theorem hm185 : mxl 185 = 4 := rfl
theorem hr185 : rto 185 = (some .int) := rfl
theorem hs185 : sto 185 = false := rfl
theorem hn185 : npo 185 + 1 = 2 := rfl
theorem hc186 : cdo 186 = cX10_part := rfl
theorem hk186 : clo 186 = 10 := rfl
theorem hm186 : mxl 186 = 6 := rfl
theorem hr186 : rto 186 = (some .int) := rfl
theorem hs186 : sto 186 = false := rfl
theorem hn186 : npo 186 + 1 = 1 := rfl
theorem hc187 : cdo 187 = cX10_done := rfl
theorem hk187 : clo 187 = 10 := rfl
theorem hm187 : mxl 187 = 2 := rfl
theorem hr187 : rto 187 = (some .int) := rfl
theorem hs187 : sto 187 = false := rfl
theorem hn187 : npo 187 + 1 = 1 := rfl
theorem hc188 : cdo 188 = cX10_order := rfl
theorem hk188 : clo 188 = 10 := rfl
theorem hm188 : mxl 188 = 4 := rfl
theorem hr188 : rto 188 = (some .int) := rfl
theorem hs188 : sto 188 = false := rfl
theorem hn188 : npo 188 + 1 = 3 := rfl
theorem hc189 : cdo 189 = cX10_lay := rfl
theorem hk189 : clo 189 = 10 := rfl
theorem hm189 : mxl 189 = 7 := rfl
theorem hr189 : rto 189 = none := rfl
theorem hs189 : sto 189 = false := rfl
theorem hn189 : npo 189 + 1 = 2 := rfl
theorem hc190 : cdo 190 = cX10_later := rfl
theorem hk190 : clo 190 = 10 := rfl
theorem hm190 : mxl 190 = 2 := rfl
theorem hr190 : rto 190 = (some .int) := rfl
theorem hs190 : sto 190 = false := rfl
theorem hn190 : npo 190 + 1 = 2 := rfl
theorem hc191 : cdo 191 = cX10_isWeek := rfl
theorem hk191 : clo 191 = 10 := rfl
theorem hm191 : mxl 191 = 1 := rfl
theorem hr191 : rto 191 = (some .boolean) := rfl
theorem hs191 : sto 191 = true := rfl
theorem hn191 : npo 191 = 1 := rfl
theorem hc192 : cdo 192 = cX10_tell := rfl
theorem hk192 : clo 192 = 10 := rfl
theorem hm192 : mxl 192 = 4 := rfl
theorem hr192 : rto 192 = (some .int) := rfl
theorem hs192 : sto 192 = false := rfl
theorem hn192 : npo 192 + 1 = 4 := rfl
theorem hc193 : cdo 193 = cX10_untell := rfl
theorem hk193 : clo 193 = 10 := rfl
theorem hm193 : mxl 193 = 2 := rfl
theorem hr193 : rto 193 = (some .boolean) := rfl
theorem hs193 : sto 193 = false := rfl
theorem hn193 : npo 193 + 1 = 2 := rfl
theorem hc194 : cdo 194 = cX10_of := rfl
theorem hk194 : clo 194 = 10 := rfl
theorem hm194 : mxl 194 = 6 := rfl
theorem hr194 : rto 194 = (some .int) := rfl
theorem hs194 : sto 194 = false := rfl
theorem hn194 : npo 194 + 1 = 4 := rfl
theorem hc195 : cdo 195 = cX10_harms := rfl
theorem hk195 : clo 195 = 10 := rfl
theorem hm195 : mxl 195 = 7 := rfl
theorem hr195 : rto 195 = (some .int) := rfl
theorem hs195 : sto 195 = false := rfl
theorem hn195 : npo 195 + 1 = 5 := rfl
theorem hc196 : cdo 196 = cX10_differ := rfl
theorem hk196 : clo 196 = 10 := rfl
theorem hm196 : mxl 196 = 8 := rfl
theorem hr196 : rto 196 = (some .int) := rfl
theorem hs196 : sto 196 = false := rfl
theorem hn196 : npo 196 + 1 = 4 := rfl
theorem hc197 : cdo 197 = cX10_about := rfl
theorem hk197 : clo 197 = 10 := rfl
theorem hm197 : mxl 197 = 2 := rfl
theorem hr197 : rto 197 = (some .int) := rfl
theorem hs197 : sto 197 = false := rfl
theorem hn197 : npo 197 + 1 = 2 := rfl
theorem hc198 : cdo 198 = cX10_feed := rfl
theorem hk198 : clo 198 = 10 := rfl
theorem hm198 : mxl 198 = 8 := rfl
theorem hr198 : rto 198 = (some .int) := rfl
theorem hs198 : sto 198 = false := rfl
theorem hn198 : npo 198 + 1 = 6 := rfl
theorem hc199 : cdo 199 = cX10_end := rfl
theorem hk199 : clo 199 = 10 := rfl
theorem hm199 : mxl 199 = 2 := rfl
theorem hr199 : rto 199 = (some .int) := rfl
theorem hs199 : sto 199 = false := rfl
theorem hn199 : npo 199 + 1 = 2 := rfl
theorem hc200 : cdo 200 = cJ0_length_8abf5 := rfl
theorem hk200 : clo 200 = 11 := rfl
theorem hm200 : mxl 200 = 1 := rfl
theorem hr200 : rto 200 = (some .int) := rfl
theorem hs200 : sto 200 = false := rfl
theorem hn200 : npo 200 + 1 = 1 := rfl
theorem hc201 : cdo 201 = cJ0_charAt_5068e := rfl
theorem hk201 : clo 201 = 11 := rfl
theorem hm201 : mxl 201 = 2 := rfl
theorem hr201 : rto 201 = (some .char) := rfl
theorem hs201 : sto 201 = false := rfl
theorem hn201 : npo 201 + 1 = 2 := rfl
theorem hc202 : cdo 202 = cJ0_coder_7d493 := rfl
theorem hk202 : clo 202 = 11 := rfl
theorem hm202 : mxl 202 = 1 := rfl
theorem hr202 : rto 202 = (some .byte) := rfl
theorem hs202 : sto 202 = false := rfl
theorem hn202 : npo 202 + 1 = 1 := rfl
theorem hc203 : cdo 203 = cJ0_isLatin1_aae02 := rfl
theorem hk203 : clo 203 = 11 := rfl
theorem hm203 : mxl 203 = 1 := rfl
theorem hr203 : rto 203 = (some .boolean) := rfl
theorem hs203 : sto 203 = false := rfl
theorem hn203 : npo 203 + 1 = 1 := rfl
theorem hc204 : cdo 204 = cJ0_checkIndex_df160 := rfl
theorem hk204 : clo 204 = 11 := rfl
theorem hm204 : mxl 204 = 2 := rfl
theorem hr204 : rto 204 = none := rfl
theorem hs204 : sto 204 = true := rfl
theorem hn204 : npo 204 = 2 := rfl
theorem hc205 : cdo 205 = cJ1_charAt_3b067 := rfl
theorem hk205 : clo 205 = 12 := rfl
theorem hm205 : mxl 205 = 2 := rfl
theorem hr205 : rto 205 = (some .char) := rfl
theorem hs205 : sto 205 = true := rfl
theorem hn205 : npo 205 = 2 := rfl
theorem hc206 : cdo 206 = cJ7_fill_53178 := rfl
theorem hk206 : clo 206 = 14 := rfl
theorem hm206 : mxl 206 = 4 := rfl
theorem hr206 : rto 206 = none := rfl
theorem hs206 : sto 206 = true := rfl
theorem hn206 : npo 206 = 2 := rfl
theorem hc207 : cdo 207 = cJ3_checkIndex_8e157 := rfl
theorem hk207 : clo 207 = 15 := rfl
theorem hm207 : mxl 207 = 3 := rfl
theorem hr207 : rto 207 = (some .int) := rfl
theorem hs207 : sto 207 = true := rfl
theorem hn207 : npo 207 = 3 := rfl
theorem hc208 : cdo 208 = cL_law := rfl
theorem hk208 : clo 208 = 16 := rfl
theorem hm208 : mxl 208 = 4 := rfl
theorem hr208 : rto 208 = (some .boolean) := rfl
theorem hs208 : sto 208 = true := rfl
theorem hn208 : npo 208 = 1 := rfl
theorem fk0_11 : lkp flkL 0 11 = some (0, 0) := rfl
theorem fk0_15 : lkp flkL 0 15 = some (0, 1) := rfl
theorem fk0_18 : lkp flkL 0 18 = some (0, 2) := rfl
theorem fk0_21 : lkp flkL 0 21 = some (0, 3) := rfl
theorem fk0_24 : lkp flkL 0 24 = some (0, 4) := rfl
theorem fk0_27 : lkp flkL 0 27 = some (0, 5) := rfl
theorem fk0_30 : lkp flkL 0 30 = some (0, 6) := rfl
theorem fk1_11 : lkp flkL 1 11 = some (1, 0) := rfl
theorem fk1_15 : lkp flkL 1 15 = some (1, 1) := rfl
theorem fk1_18 : lkp flkL 1 18 = some (1, 2) := rfl
theorem fk1_21 : lkp flkL 1 21 = some (1, 3) := rfl
theorem fk1_24 : lkp flkL 1 24 = some (1, 4) := rfl
theorem fk1_27 : lkp flkL 1 27 = some (1, 5) := rfl
theorem fk1_31 : lkp flkL 1 31 = some (1, 6) := rfl
theorem fk2_13 : lkp flkL 2 13 = some (2, 1) := rfl
theorem fk2_17 : lkp flkL 2 17 = some (2, 2) := rfl
theorem fk2_20 : lkp flkL 2 20 = some (2, 3) := rfl
theorem fk2_23 : lkp flkL 2 23 = some (2, 4) := rfl
theorem fk2_27 : lkp flkL 2 27 = some (2, 5) := rfl
theorem fk2_30 : lkp flkL 2 30 = some (2, 6) := rfl
theorem fk2_33 : lkp flkL 2 33 = some (2, 0) := rfl
theorem fk3_12 : lkp flkL 3 12 = some (3, 1) := rfl
theorem fk3_18 : lkp flkL 3 18 = some (3, 2) := rfl
theorem fk3_22 : lkp flkL 3 22 = some (3, 3) := rfl
theorem fk3_25 : lkp flkL 3 25 = some (3, 4) := rfl
theorem fk3_28 : lkp flkL 3 28 = some (3, 5) := rfl
theorem fk3_31 : lkp flkL 3 31 = some (3, 6) := rfl
theorem fk3_37 : lkp flkL 3 37 = some (3, 7) := rfl
theorem fk3_40 : lkp flkL 3 40 = some (3, 8) := rfl
theorem fk3_43 : lkp flkL 3 43 = some (3, 9) := rfl
theorem fk3_46 : lkp flkL 3 46 = some (3, 10) := rfl
theorem fk3_49 : lkp flkL 3 49 = some (3, 11) := rfl
theorem fk3_55 : lkp flkL 3 55 = some (3, 0) := rfl
theorem fk4_11 : lkp flkL 4 11 = some (4, 1) := rfl
theorem fk4_15 : lkp flkL 4 15 = some (4, 2) := rfl
theorem fk4_18 : lkp flkL 4 18 = some (4, 3) := rfl
theorem fk4_23 : lkp flkL 4 23 = some (4, 4) := rfl
theorem fk4_26 : lkp flkL 4 26 = some (4, 5) := rfl
theorem fk4_29 : lkp flkL 4 29 = some (4, 6) := rfl
theorem fk4_32 : lkp flkL 4 32 = some (4, 7) := rfl
theorem fk4_35 : lkp flkL 4 35 = some (4, 8) := rfl
theorem fk4_38 : lkp flkL 4 38 = some (4, 9) := rfl
theorem fk4_41 : lkp flkL 4 41 = some (4, 10) := rfl
theorem fk4_45 : lkp flkL 4 45 = some (4, 11) := rfl
theorem fk4_48 : lkp flkL 4 48 = some (4, 12) := rfl
theorem fk4_52 : lkp flkL 4 52 = some (4, 13) := rfl
theorem fk4_55 : lkp flkL 4 55 = some (4, 0) := rfl
theorem fk5_13 : lkp flkL 5 13 = some (5, 4) := rfl
theorem fk5_17 : lkp flkL 5 17 = some (5, 5) := rfl
theorem fk5_21 : lkp flkL 5 21 = some (5, 6) := rfl
theorem fk5_24 : lkp flkL 5 24 = some (5, 7) := rfl
theorem fk5_28 : lkp flkL 5 28 = some (5, 8) := rfl
theorem fk5_31 : lkp flkL 5 31 = some (5, 9) := rfl
theorem fk5_34 : lkp flkL 5 34 = some (5, 10) := rfl
theorem fk5_37 : lkp flkL 5 37 = some (5, 11) := rfl
theorem fk5_40 : lkp flkL 5 40 = some (5, 12) := rfl
theorem fk5_43 : lkp flkL 5 43 = some (5, 13) := rfl
theorem fk5_46 : lkp flkL 5 46 = some (5, 0) := rfl
theorem fk5_50 : lkp flkL 5 50 = some (5, 1) := rfl
theorem fk5_59 : lkp flkL 5 59 = some (5, 2) := rfl
theorem fk5_63 : lkp flkL 5 63 = some (5, 3) := rfl
theorem fk6_11 : lkp flkL 6 11 = some (6, 0) := rfl
theorem fk6_15 : lkp flkL 6 15 = some (6, 1) := rfl
theorem fk7_11 : lkp flkL 7 11 = some (7, 2) := rfl
theorem fk7_17 : lkp flkL 7 17 = some (7, 3) := rfl
theorem fk7_21 : lkp flkL 7 21 = some (7, 0) := rfl
theorem fk7_25 : lkp flkL 7 25 = some (7, 1) := rfl
theorem fk8_11 : lkp flkL 8 11 = some (8, 0) := rfl
theorem fk8_15 : lkp flkL 8 15 = some (8, 1) := rfl
theorem fk8_18 : lkp flkL 8 18 = some (8, 2) := rfl
theorem fk8_21 : lkp flkL 8 21 = some (8, 3) := rfl
theorem fk8_25 : lkp flkL 8 25 = some (8, 4) := rfl
theorem fk8_28 : lkp flkL 8 28 = some (8, 5) := rfl
theorem fk8_31 : lkp flkL 8 31 = some (8, 6) := rfl
theorem fk8_34 : lkp flkL 8 34 = some (8, 7) := rfl
theorem fk8_37 : lkp flkL 8 37 = some (8, 8) := rfl
theorem fk8_40 : lkp flkL 8 40 = some (8, 9) := rfl
theorem fk8_44 : lkp flkL 8 44 = some (8, 10) := rfl
theorem fk8_47 : lkp flkL 8 47 = some (8, 11) := rfl
theorem fk8_50 : lkp flkL 8 50 = some (8, 12) := rfl
theorem fk8_53 : lkp flkL 8 53 = some (8, 13) := rfl
theorem fk9_10 : lkp flkL 9 10 = some (9, 0) := rfl
theorem fk9_19 : lkp flkL 9 19 = some (9, 1) := rfl
theorem fk9_26 : lkp flkL 9 26 = some (9, 2) := rfl
theorem fk9_35 : lkp flkL 9 35 = some (9, 3) := rfl
theorem fk9_44 : lkp flkL 9 44 = some (9, 4) := rfl
theorem fk9_53 : lkp flkL 9 53 = some (9, 5) := rfl
theorem fk9_60 : lkp flkL 9 60 = some (9, 6) := rfl
theorem fk10_7 : lkp flkL 10 7 = some (10, 0) := rfl
theorem fk10_13 : lkp flkL 10 13 = some (10, 1) := rfl
theorem fk10_16 : lkp flkL 10 16 = some (10, 2) := rfl
theorem fk10_19 : lkp flkL 10 19 = some (10, 3) := rfl
theorem fk10_23 : lkp flkL 10 23 = some (10, 6) := rfl
theorem fk10_27 : lkp flkL 10 27 = some (10, 8) := rfl
theorem fk10_30 : lkp flkL 10 30 = some (10, 9) := rfl
theorem fk10_34 : lkp flkL 10 34 = some (10, 10) := rfl
theorem fk10_37 : lkp flkL 10 37 = some (10, 14) := rfl
theorem fk10_40 : lkp flkL 10 40 = some (10, 20) := rfl
theorem fk10_43 : lkp flkL 10 43 = some (10, 21) := rfl
theorem fk10_46 : lkp flkL 10 46 = some (10, 22) := rfl
theorem fk10_49 : lkp flkL 10 49 = some (10, 23) := rfl
theorem fk10_52 : lkp flkL 10 52 = some (10, 24) := rfl
theorem fk10_55 : lkp flkL 10 55 = some (10, 25) := rfl
theorem fk10_59 : lkp flkL 10 59 = some (10, 28) := rfl
theorem fk10_62 : lkp flkL 10 62 = some (10, 32) := rfl
theorem fk10_65 : lkp flkL 10 65 = some (10, 33) := rfl
theorem fk10_68 : lkp flkL 10 68 = some (10, 34) := rfl
theorem fk10_71 : lkp flkL 10 71 = some (10, 35) := rfl
theorem fk10_74 : lkp flkL 10 74 = some (10, 36) := rfl
theorem fk10_77 : lkp flkL 10 77 = some (10, 37) := rfl
theorem fk10_80 : lkp flkL 10 80 = some (10, 38) := rfl
theorem fk10_83 : lkp flkL 10 83 = some (10, 39) := rfl
theorem fk10_86 : lkp flkL 10 86 = some (10, 40) := rfl
theorem fk10_89 : lkp flkL 10 89 = some (10, 43) := rfl
theorem fk10_92 : lkp flkL 10 92 = some (10, 44) := rfl
theorem fk10_95 : lkp flkL 10 95 = some (10, 45) := rfl
theorem fk10_98 : lkp flkL 10 98 = some (10, 46) := rfl
theorem fk10_101 : lkp flkL 10 101 = some (10, 47) := rfl
theorem fk10_104 : lkp flkL 10 104 = some (10, 4) := rfl
theorem fk10_107 : lkp flkL 10 107 = some (10, 5) := rfl
theorem fk10_114 : lkp flkL 10 114 = some (10, 7) := rfl
theorem fk10_139 : lkp flkL 10 139 = some (10, 12) := rfl
theorem fk10_142 : lkp flkL 10 142 = some (10, 13) := rfl
theorem fk10_154 : lkp flkL 10 154 = some (10, 16) := rfl
theorem fk10_157 : lkp flkL 10 157 = some (10, 15) := rfl
theorem fk10_160 : lkp flkL 10 160 = some (10, 17) := rfl
theorem fk10_166 : lkp flkL 10 166 = some (10, 18) := rfl
theorem fk10_169 : lkp flkL 10 169 = some (10, 19) := rfl
theorem fk10_201 : lkp flkL 10 201 = some (10, 11) := rfl
theorem fk10_204 : lkp flkL 10 204 = some (10, 26) := rfl
theorem fk10_207 : lkp flkL 10 207 = some (10, 27) := rfl
theorem fk10_254 : lkp flkL 10 254 = some (10, 29) := rfl
theorem fk10_257 : lkp flkL 10 257 = some (10, 30) := rfl
theorem fk10_268 : lkp flkL 10 268 = some (10, 31) := rfl
theorem fk10_283 : lkp flkL 10 283 = some (10, 41) := rfl
theorem fk10_286 : lkp flkL 10 286 = some (10, 42) := rfl
theorem fk10_305 : lkp flkL 10 305 = some (10, 49) := rfl
theorem fk10_312 : lkp flkL 10 312 = some (10, 48) := rfl
theorem lk0_34 : lkp mlkL 0 34 = some 1 := rfl
theorem lk0_38 : lkp mlkL 0 38 = some 902 := rfl
theorem lk0_46 : lkp mlkL 0 46 = some 7 := rfl
theorem lk0_53 : lkp mlkL 0 53 = some 900 := rfl
theorem lk0_59 : lkp mlkL 0 59 = some 901 := rfl
theorem lk1_35 : lkp mlkL 1 35 = some 16 := rfl
theorem lk1_39 : lkp mlkL 1 39 = some 901 := rfl
theorem lk1_45 : lkp mlkL 1 45 = some 17 := rfl
theorem lk1_49 : lkp mlkL 1 49 = some 15 := rfl
theorem lk2_37 : lkp mlkL 2 37 = some 23 := rfl
theorem lk2_40 : lkp mlkL 2 40 = some 24 := rfl
theorem lk2_44 : lkp mlkL 2 44 = some 79 := rfl
theorem lk2_47 : lkp mlkL 2 47 = some 83 := rfl
theorem lk2_51 : lkp mlkL 2 51 = some 31 := rfl
theorem lk2_55 : lkp mlkL 2 55 = some 25 := rfl
theorem lk2_59 : lkp mlkL 2 59 = some 32 := rfl
theorem lk2_62 : lkp mlkL 2 62 = some 28 := rfl
theorem lk2_65 : lkp mlkL 2 65 = some 29 := rfl
theorem lk2_68 : lkp mlkL 2 68 = some 33 := rfl
theorem lk2_71 : lkp mlkL 2 71 = some 26 := rfl
theorem lk2_74 : lkp mlkL 2 74 = some 27 := rfl
theorem lk2_81 : lkp mlkL 2 81 = some 30 := rfl
theorem lk2_105 : lkp mlkL 2 105 = some 200 := rfl
theorem lk2_108 : lkp mlkL 2 108 = some 201 := rfl
theorem lk3_59 : lkp mlkL 3 59 = some 22 := rfl
theorem lk3_62 : lkp mlkL 3 62 = some 2 := rfl
theorem lk3_65 : lkp mlkL 3 65 = some 39 := rfl
theorem lk3_69 : lkp mlkL 3 69 = some 40 := rfl
theorem lk3_73 : lkp mlkL 3 73 = some 38 := rfl
theorem lk3_76 : lkp mlkL 3 76 = some 20 := rfl
theorem lk3_80 : lkp mlkL 3 80 = some 19 := rfl
theorem lk3_83 : lkp mlkL 3 83 = some 1 := rfl
theorem lk3_86 : lkp mlkL 3 86 = some 41 := rfl
theorem lk3_89 : lkp mlkL 3 89 = some 42 := rfl
theorem lk3_92 : lkp mlkL 3 92 = some 43 := rfl
theorem lk3_95 : lkp mlkL 3 95 = some 44 := rfl
theorem lk3_98 : lkp mlkL 3 98 = some 46 := rfl
theorem lk3_102 : lkp mlkL 3 102 = some 3 := rfl
theorem lk3_106 : lkp mlkL 3 106 = some 45 := rfl
theorem lk3_110 : lkp mlkL 3 110 = some 21 := rfl
theorem lk4_59 : lkp mlkL 4 59 = some 53 := rfl
theorem lk4_62 : lkp mlkL 4 62 = some 57 := rfl
theorem lk4_65 : lkp mlkL 4 65 = some 63 := rfl
theorem lk4_68 : lkp mlkL 4 68 = some 66 := rfl
theorem lk4_72 : lkp mlkL 4 72 = some 87 := rfl
theorem lk4_76 : lkp mlkL 4 76 = some 58 := rfl
theorem lk4_81 : lkp mlkL 4 81 = some 62 := rfl
theorem lk4_85 : lkp mlkL 4 85 = some 59 := rfl
theorem lk4_89 : lkp mlkL 4 89 = some 900 := rfl
theorem lk4_94 : lkp mlkL 4 94 = some 60 := rfl
theorem lk4_97 : lkp mlkL 4 97 = some 61 := rfl
theorem lk4_100 : lkp mlkL 4 100 = some 98 := rfl
theorem lk4_103 : lkp mlkL 4 103 = some 206 := rfl
theorem lk4_109 : lkp mlkL 4 109 = some 64 := rfl
theorem lk4_112 : lkp mlkL 4 112 = some 902 := rfl
theorem lk4_118 : lkp mlkL 4 118 = some 65 := rfl
theorem lk4_121 : lkp mlkL 4 121 = some 901 := rfl
theorem lk4_124 : lkp mlkL 4 124 = some 67 := rfl
theorem lk5_66 : lkp mlkL 5 66 = some 72 := rfl
theorem lk5_70 : lkp mlkL 5 70 = some 98 := rfl
theorem lk5_75 : lkp mlkL 5 75 = some 73 := rfl
theorem lk5_78 : lkp mlkL 5 78 = some 74 := rfl
theorem lk5_81 : lkp mlkL 5 81 = some 89 := rfl
theorem lk5_85 : lkp mlkL 5 85 = some 9 := rfl
theorem lk5_90 : lkp mlkL 5 90 = some 901 := rfl
theorem lk5_95 : lkp mlkL 5 95 = some 76 := rfl
theorem lk5_99 : lkp mlkL 5 99 = some 206 := rfl
theorem lk5_105 : lkp mlkL 5 105 = some 85 := rfl
theorem lk5_108 : lkp mlkL 5 108 = some 86 := rfl
theorem lk5_112 : lkp mlkL 5 112 = some 100 := rfl
theorem lk5_116 : lkp mlkL 5 116 = some 101 := rfl
theorem lk5_119 : lkp mlkL 5 119 = some 84 := rfl
theorem lk5_122 : lkp mlkL 5 122 = some 75 := rfl
theorem lk5_126 : lkp mlkL 5 126 = some 900 := rfl
theorem lk5_129 : lkp mlkL 5 129 = some 109 := rfl
theorem lk5_133 : lkp mlkL 5 133 = some 88 := rfl
theorem lk5_135 : lkp mlkL 5 135 = some 103 := rfl
theorem lk5_138 : lkp mlkL 5 138 = some 77 := rfl
theorem lk5_141 : lkp mlkL 5 141 = some 78 := rfl
theorem lk5_145 : lkp mlkL 5 145 = some 106 := rfl
theorem lk5_148 : lkp mlkL 5 148 = some 108 := rfl
theorem lk7_29 : lkp mlkL 7 29 = some 900 := rfl
theorem lk7_35 : lkp mlkL 7 35 = some 88 := rfl
theorem lk7_39 : lkp mlkL 7 39 = some 6 := rfl
theorem lk7_45 : lkp mlkL 7 45 = some 104 := rfl
theorem lk7_49 : lkp mlkL 7 49 = some 5 := rfl
theorem lk7_53 : lkp mlkL 7 53 = some 102 := rfl
theorem lk7_57 : lkp mlkL 7 57 = some 8 := rfl
theorem lk7_60 : lkp mlkL 7 60 = some 89 := rfl
theorem lk8_57 : lkp mlkL 8 57 = some 206 := rfl
theorem lk8_63 : lkp mlkL 8 63 = some 90 := rfl
theorem lk8_67 : lkp mlkL 8 67 = some 96 := rfl
theorem lk8_71 : lkp mlkL 8 71 = some 97 := rfl
theorem lk8_75 : lkp mlkL 8 75 = some 98 := rfl
theorem lk8_78 : lkp mlkL 8 78 = some 900 := rfl
theorem lk8_83 : lkp mlkL 8 83 = some 91 := rfl
theorem lk8_86 : lkp mlkL 8 86 = some 105 := rfl
theorem lk8_89 : lkp mlkL 8 89 = some 108 := rfl
theorem lk8_92 : lkp mlkL 8 92 = some 106 := rfl
theorem lk9_64 : lkp mlkL 9 64 = some 94 := rfl
theorem lk9_68 : lkp mlkL 9 68 = some 95 := rfl
theorem lk9_72 : lkp mlkL 9 72 = some 70 := rfl
theorem lk9_75 : lkp mlkL 9 75 = some 53 := rfl
theorem lk9_76 : lkp mlkL 9 76 = some 136 := rfl
theorem lk9_80 : lkp mlkL 9 80 = some 92 := rfl
theorem lk9_84 : lkp mlkL 9 84 = some 138 := rfl
theorem lk9_88 : lkp mlkL 9 88 = some 93 := rfl
theorem lk9_92 : lkp mlkL 9 92 = some 99 := rfl
theorem lk9_96 : lkp mlkL 9 96 = some 107 := rfl
theorem lk9_100 : lkp mlkL 9 100 = some 109 := rfl
theorem lk9_104 : lkp mlkL 9 104 = some 80 := rfl
theorem lk9_107 : lkp mlkL 9 107 = some 81 := rfl
theorem lk9_110 : lkp mlkL 9 110 = some 79 := rfl
theorem lk9_113 : lkp mlkL 9 113 = some 82 := rfl
theorem lk9_116 : lkp mlkL 9 116 = some 37 := rfl
theorem lk9_120 : lkp mlkL 9 120 = some 34 := rfl
theorem lk9_124 : lkp mlkL 9 124 = some 4 := rfl
theorem lk9_128 : lkp mlkL 9 128 = some 0 := rfl
theorem lk9_131 : lkp mlkL 9 131 = some 35 := rfl
theorem lk9_134 : lkp mlkL 9 134 = some 36 := rfl
theorem lk9_137 : lkp mlkL 9 137 = some 135 := rfl
theorem lk9_140 : lkp mlkL 9 140 = some 91 := rfl
theorem lk9_143 : lkp mlkL 9 143 = some 5 := rfl
theorem lk9_146 : lkp mlkL 9 146 = some 6 := rfl
theorem lk9_150 : lkp mlkL 9 150 = some 134 := rfl
theorem lk9_153 : lkp mlkL 9 153 = some 71 := rfl
theorem lk9_157 : lkp mlkL 9 157 = some 68 := rfl
theorem lk9_160 : lkp mlkL 9 160 = some 69 := rfl
theorem lk9_163 : lkp mlkL 9 163 = some 90 := rfl
theorem lk9_166 : lkp mlkL 9 166 = some 54 := rfl
theorem lk9_170 : lkp mlkL 9 170 = some 55 := rfl
theorem lk9_174 : lkp mlkL 9 174 = some 98 := rfl
theorem lk9_178 : lkp mlkL 9 178 = some 56 := rfl
theorem lk9_181 : lkp mlkL 9 181 = some 49 := rfl
theorem lk9_184 : lkp mlkL 9 184 = some 50 := rfl
theorem lk9_187 : lkp mlkL 9 187 = some 51 := rfl
theorem lk9_190 : lkp mlkL 9 190 = some 52 := rfl
theorem lk9_193 : lkp mlkL 9 193 = some 12 := rfl
theorem lk9_196 : lkp mlkL 9 196 = some 137 := rfl
theorem lk9_199 : lkp mlkL 9 199 = some 13 := rfl
theorem lk9_202 : lkp mlkL 9 202 = some 14 := rfl
theorem lk9_205 : lkp mlkL 9 205 = some 15 := rfl
theorem lk9_209 : lkp mlkL 9 209 = some 18 := rfl
theorem lk9_212 : lkp mlkL 9 212 = some 87 := rfl
theorem lk9_215 : lkp mlkL 9 215 = some 88 := rfl
theorem lk9_216 : lkp mlkL 9 216 = some 89 := rfl
theorem lk9_219 : lkp mlkL 9 219 = some 47 := rfl
theorem lk9_222 : lkp mlkL 9 222 = some 48 := rfl
theorem lk9_225 : lkp mlkL 9 225 = some 11 := rfl
theorem lk9_228 : lkp mlkL 9 228 = some 10 := rfl
theorem lk10_110 : lkp mlkL 10 110 = some 139 := rfl
theorem lk10_117 : lkp mlkL 10 117 = some 145 := rfl
theorem lk10_121 : lkp mlkL 10 121 = some 147 := rfl
theorem lk10_125 : lkp mlkL 10 125 = some 148 := rfl
theorem lk10_129 : lkp mlkL 10 129 = some 146 := rfl
theorem lk10_132 : lkp mlkL 10 132 = some 140 := rfl
theorem lk10_135 : lkp mlkL 10 135 = some 149 := rfl
theorem lk10_145 : lkp mlkL 10 145 = some 151 := rfl
theorem lk10_148 : lkp mlkL 10 148 = some 153 := rfl
theorem lk10_151 : lkp mlkL 10 151 = some 152 := rfl
theorem lk10_163 : lkp mlkL 10 163 = some 156 := rfl
theorem lk10_173 : lkp mlkL 10 173 = some 154 := rfl
theorem lk10_177 : lkp mlkL 10 177 = some 155 := rfl
theorem lk10_181 : lkp mlkL 10 181 = some 157 := rfl
theorem lk10_184 : lkp mlkL 10 184 = some 159 := rfl
theorem lk10_189 : lkp mlkL 10 189 = some 158 := rfl
theorem lk10_210 : lkp mlkL 10 210 = some 164 := rfl
theorem lk10_219 : lkp mlkL 10 219 = some 163 := rfl
theorem lk10_222 : lkp mlkL 10 222 = some 161 := rfl
theorem lk10_226 : lkp mlkL 10 226 = some 160 := rfl
theorem lk10_236 : lkp mlkL 10 236 = some 166 := rfl
theorem lk10_240 : lkp mlkL 10 240 = some 169 := rfl
theorem lk10_243 : lkp mlkL 10 243 = some 170 := rfl
theorem lk10_246 : lkp mlkL 10 246 = some 167 := rfl
theorem lk10_250 : lkp mlkL 10 250 = some 168 := rfl
theorem lk10_260 : lkp mlkL 10 260 = some 173 := rfl
theorem lk10_263 : lkp mlkL 10 263 = some 174 := rfl
theorem lk10_271 : lkp mlkL 10 271 = some 176 := rfl
theorem lk10_274 : lkp mlkL 10 274 = some 175 := rfl
theorem lk10_277 : lkp mlkL 10 277 = some 177 := rfl
theorem lk10_280 : lkp mlkL 10 280 = some 179 := rfl
theorem lk10_289 : lkp mlkL 10 289 = some 183 := rfl
theorem lk10_292 : lkp mlkL 10 292 = some 184 := rfl
theorem lk10_295 : lkp mlkL 10 295 = some 185 := rfl
theorem lk10_298 : lkp mlkL 10 298 = some 186 := rfl
theorem lk10_301 : lkp mlkL 10 301 = some 189 := rfl
theorem lk10_309 : lkp mlkL 10 309 = some 191 := rfl
theorem lk10_315 : lkp mlkL 10 315 = some 194 := rfl
theorem lk10_318 : lkp mlkL 10 318 = some 195 := rfl
theorem lk11_335 : lkp mlkL 11 335 = some 202 := rfl
theorem lk11_492 : lkp mlkL 11 492 = some 203 := rfl
theorem lk11_495 : lkp mlkL 11 495 = some 205 := rfl
theorem lk11_1059 : lkp mlkL 11 1059 = some 207 := rfl
theorem lk12_9 : lkp mlkL 12 9 = some 204 := rfl
theorem lk13_414 : lkp mlkL 13 414 = some 204 := rfl
theorem lk16_13 : lkp mlkL 16 13 = some 110 := rfl
theorem lk16_17 : lkp mlkL 16 17 = some 141 := rfl
theorem lk16_18 : lkp mlkL 16 18 = some 111 := rfl
theorem lk16_22 : lkp mlkL 16 22 = some 142 := rfl
theorem lk16_23 : lkp mlkL 16 23 = some 112 := rfl
theorem lk16_27 : lkp mlkL 16 27 = some 143 := rfl
theorem lk16_28 : lkp mlkL 16 28 = some 113 := rfl
theorem lk16_32 : lkp mlkL 16 32 = some 144 := rfl
theorem lk16_33 : lkp mlkL 16 33 = some 114 := rfl
theorem lk16_37 : lkp mlkL 16 37 = some 150 := rfl
theorem lk16_38 : lkp mlkL 16 38 = some 115 := rfl
theorem lk16_42 : lkp mlkL 16 42 = some 198 := rfl
theorem lk16_43 : lkp mlkL 16 43 = some 116 := rfl
theorem lk16_47 : lkp mlkL 16 47 = some 199 := rfl
theorem lk16_48 : lkp mlkL 16 48 = some 117 := rfl
theorem lk16_51 : lkp mlkL 16 51 = some 162 := rfl
theorem lk16_52 : lkp mlkL 16 52 = some 118 := rfl
theorem lk16_55 : lkp mlkL 16 55 = some 165 := rfl
theorem lk16_56 : lkp mlkL 16 56 = some 119 := rfl
theorem lk16_60 : lkp mlkL 16 60 = some 171 := rfl
theorem lk16_61 : lkp mlkL 16 61 = some 120 := rfl
theorem lk16_64 : lkp mlkL 16 64 = some 172 := rfl
theorem lk16_65 : lkp mlkL 16 65 = some 121 := rfl
theorem lk16_68 : lkp mlkL 16 68 = some 177 := rfl
theorem lk16_69 : lkp mlkL 16 69 = some 122 := rfl
theorem lk16_72 : lkp mlkL 16 72 = some 178 := rfl
theorem lk16_73 : lkp mlkL 16 73 = some 123 := rfl
theorem lk16_77 : lkp mlkL 16 77 = some 181 := rfl
theorem lk16_78 : lkp mlkL 16 78 = some 124 := rfl
theorem lk16_81 : lkp mlkL 16 81 = some 182 := rfl
theorem lk16_82 : lkp mlkL 16 82 = some 125 := rfl
theorem lk16_85 : lkp mlkL 16 85 = some 180 := rfl
theorem lk16_86 : lkp mlkL 16 86 = some 126 := rfl
theorem lk16_89 : lkp mlkL 16 89 = some 187 := rfl
theorem lk16_90 : lkp mlkL 16 90 = some 127 := rfl
theorem lk16_93 : lkp mlkL 16 93 = some 188 := rfl
theorem lk16_94 : lkp mlkL 16 94 = some 128 := rfl
theorem lk16_97 : lkp mlkL 16 97 = some 190 := rfl
theorem lk16_98 : lkp mlkL 16 98 = some 129 := rfl
theorem lk16_101 : lkp mlkL 16 101 = some 192 := rfl
theorem lk16_102 : lkp mlkL 16 102 = some 130 := rfl
theorem lk16_105 : lkp mlkL 16 105 = some 193 := rfl
theorem lk16_106 : lkp mlkL 16 106 = some 131 := rfl
theorem lk16_109 : lkp mlkL 16 109 = some 195 := rfl
theorem lk16_110 : lkp mlkL 16 110 = some 132 := rfl
theorem lk16_113 : lkp mlkL 16 113 = some 196 := rfl
theorem lk16_114 : lkp mlkL 16 114 = some 133 := rfl
theorem lk16_117 : lkp mlkL 16 117 = some 197 := rfl
theorem os0 : oshp 0 = some (9, [3, 13, 15, 22, 34, 40, 50]) := rfl
theorem rc0 : rcls 0 = some 9 := rfl
theorem os1 : oshp 1 = some (8, [4, 5, 6, 7, 8, 9, 10, 11, 12, 0, 0, 0, 0, 0]) := rfl
theorem rc1 : rcls 1 = some 8 := rfl
theorem ib2 {i : Int} : inb 0 2 i ↔ (0 ≤ i ∧ i < 16) := inb_of rfl
theorem ib3 {i : Int} : inb 0 3 i ↔ (0 ≤ i ∧ i < 16) := inb_of rfl
theorem ib4 {i : Int} : inb 0 4 i ↔ (0 ≤ i ∧ i < 16) := inb_of rfl
theorem ib5 {i : Int} : inb 1 5 i ↔ (0 ≤ i ∧ i < 16) := inb_of rfl
theorem ib6 {i : Int} : inb 0 6 i ↔ (0 ≤ i ∧ i < 16) := inb_of rfl
theorem ib7 {i : Int} : inb 0 7 i ↔ (0 ≤ i ∧ i < 16) := inb_of rfl
theorem ib8 {i : Int} : inb 0 8 i ↔ (0 ≤ i ∧ i < 8) := inb_of rfl
theorem ib9 {i : Int} : inb 0 9 i ↔ (0 ≤ i ∧ i < 128) := inb_of rfl
theorem ib10 {i : Int} : inb 0 10 i ↔ (0 ≤ i ∧ i < 64) := inb_of rfl
theorem os11 : oshp 11 = some (6, [14, 0]) := rfl
theorem rc11 : rcls 11 = some 6 := rfl
theorem ib12 {i : Int} : inb 0 12 i ↔ (0 ≤ i ∧ i < 800) := inb_of rfl
theorem os13 : oshp 13 = some (0, [16, 17, 18, 19, 20, 21, 0]) := rfl
theorem rc13 : rcls 13 = some 0 := rfl
theorem ib14 {i : Int} : inb 0 14 i ↔ (0 ≤ i ∧ i < 20) := inb_of rfl
theorem ib15 {i : Int} : inb 0 15 i ↔ (0 ≤ i ∧ i < 20) := inb_of rfl
theorem ib16 {i : Int} : inb 0 16 i ↔ (0 ≤ i ∧ i < 20) := inb_of rfl
theorem ib17 {i : Int} : inb 0 17 i ↔ (0 ≤ i ∧ i < 20) := inb_of rfl
theorem ib18 {i : Int} : inb 0 18 i ↔ (0 ≤ i ∧ i < 20) := inb_of rfl
theorem ib19 {i : Int} : inb 0 19 i ↔ (0 ≤ i ∧ i < 20) := inb_of rfl
theorem os20 : oshp 20 = some (3, [23, 27, 0, 0, 0, 0, 0, 0, 0, 0, 0, 0]) := rfl
theorem rc20 : rcls 20 = some 3 := rfl
theorem os21 : oshp 21 = some (2, [13, 24, 25, 26, 0, 0, 0]) := rfl
theorem rc21 : rcls 21 = some 2 := rfl
theorem ib22 {i : Int} : inb 0 22 i ↔ (0 ≤ i ∧ i < 801) := inb_of rfl
theorem ib23 {i : Int} : inb 0 23 i ↔ (0 ≤ i ∧ i < 801) := inb_of rfl
theorem ib24 {i : Int} : inb 0 24 i ↔ (0 ≤ i ∧ i < 801) := inb_of rfl
theorem os25 : oshp 25 = some (0, [28, 29, 30, 31, 32, 33, 0]) := rfl
theorem rc25 : rcls 25 = some 0 := rfl
theorem ib26 {i : Int} : inb 0 26 i ↔ (0 ≤ i ∧ i < 20) := inb_of rfl
theorem ib27 {i : Int} : inb 0 27 i ↔ (0 ≤ i ∧ i < 20) := inb_of rfl
theorem ib28 {i : Int} : inb 0 28 i ↔ (0 ≤ i ∧ i < 20) := inb_of rfl
theorem ib29 {i : Int} : inb 0 29 i ↔ (0 ≤ i ∧ i < 20) := inb_of rfl
theorem ib30 {i : Int} : inb 0 30 i ↔ (0 ≤ i ∧ i < 20) := inb_of rfl
theorem ib31 {i : Int} : inb 0 31 i ↔ (0 ≤ i ∧ i < 20) := inb_of rfl
theorem os32 : oshp 32 = some (5, [3, 15, 36, 38, 35, 0, 0, 0, 0, 0, 0, 0, 0, 0]) := rfl
theorem rc32 : rcls 32 = some 5 := rfl
theorem ib33 {i : Int} : inb 0 33 i ↔ (0 ≤ i ∧ i < 19520) := inb_of rfl
theorem os34 : oshp 34 = some (7, [3, 15, 37, 0]) := rfl
theorem rc34 : rcls 34 = some 7 := rfl
theorem ib35 {i : Int} : inb 0 35 i ↔ (0 ≤ i ∧ i < 32) := inb_of rfl
theorem os36 : oshp 36 = some (7, [3, 15, 39, 0]) := rfl
theorem rc36 : rcls 36 = some 7 := rfl
theorem ib37 {i : Int} : inb 0 37 i ↔ (0 ≤ i ∧ i < 32) := inb_of rfl
theorem os38 : oshp 38 = some (4, [3, 41, 42, 43, 44, 45, 46, 47, 48, 49, 0, 0, 0, 0]) := rfl
theorem rc38 : rcls 38 = some 4 := rfl
theorem ib39 {i : Int} : inb 0 39 i ↔ (0 ≤ i ∧ i < 8) := inb_of rfl
theorem ib40 {i : Int} : inb 0 40 i ↔ (0 ≤ i ∧ i < 8) := inb_of rfl
theorem ib41 {i : Int} : inb 0 41 i ↔ (0 ≤ i ∧ i < 3) := inb_of rfl
theorem ib42 {i : Int} : inb 0 42 i ↔ (0 ≤ i ∧ i < 2048) := inb_of rfl
theorem ib43 {i : Int} : inb 0 43 i ↔ (0 ≤ i ∧ i < 8) := inb_of rfl
theorem ib44 {i : Int} : inb 0 44 i ↔ (0 ≤ i ∧ i < 3) := inb_of rfl
theorem ib45 {i : Int} : inb 0 45 i ↔ (0 ≤ i ∧ i < 8) := inb_of rfl
theorem ib46 {i : Int} : inb 0 46 i ↔ (0 ≤ i ∧ i < 8) := inb_of rfl
theorem ib47 {i : Int} : inb 0 47 i ↔ (0 ≤ i ∧ i < 8) := inb_of rfl
theorem os48 : oshp 48 = some (1, [51, 52, 53, 54, 55, 0, 0]) := rfl
theorem rc48 : rcls 48 = some 1 := rfl
theorem ib49 {i : Int} : inb 0 49 i ↔ (0 ≤ i ∧ i < 60) := inb_of rfl
theorem ib50 {i : Int} : inb 0 50 i ↔ (0 ≤ i ∧ i < 60) := inb_of rfl
theorem ib51 {i : Int} : inb 0 51 i ↔ (0 ≤ i ∧ i < 60) := inb_of rfl
theorem ib52 {i : Int} : inb 0 52 i ↔ (0 ≤ i ∧ i < 60) := inb_of rfl
theorem ib53 {i : Int} : inb 0 53 i ↔ (0 ≤ i ∧ i < 60) := inb_of rfl
theorem os54 : oshp 54 = some (10, [57, 58, 59, 60, 0, 0, 0, 0, 0, 61, 62, 0, 0, 0, 0, 0, 0, 0, 0, 1, 63, 64, 65, 66, 67, 68, 0, 0, 69, 0, 0, 0, 70, 71, 72, 73, 74, 75, 76, 77, 78, 0, 0, 79, 80, 81, 82, 83, 0, 0]) := rfl
theorem rc54 : rcls 54 = some 10 := rfl
theorem ib55 {i : Int} : inb 0 55 i ↔ (0 ≤ i ∧ i < 16) := inb_of rfl
theorem ib56 {i : Int} : inb 0 56 i ↔ (0 ≤ i ∧ i < 16) := inb_of rfl
theorem ib57 {i : Int} : inb 0 57 i ↔ (0 ≤ i ∧ i < 16) := inb_of rfl
theorem ib58 {i : Int} : inb 1 58 i ↔ (0 ≤ i ∧ i < 16) := inb_of rfl
theorem ib59 {i : Int} : inb 2 59 i ↔ (0 ≤ i ∧ i < 820) := inb_of rfl
theorem ib60 {i : Int} : inb 2 60 i ↔ (0 ≤ i ∧ i < 800) := inb_of rfl
theorem ib61 {i : Int} : inb 0 61 i ↔ (0 ≤ i ∧ i < 2) := inb_of rfl
theorem ib62 {i : Int} : inb 0 62 i ↔ (0 ≤ i ∧ i < 40) := inb_of rfl
theorem ib63 {i : Int} : inb 0 63 i ↔ (0 ≤ i ∧ i < 40) := inb_of rfl
theorem ib64 {i : Int} : inb 0 64 i ↔ (0 ≤ i ∧ i < 40) := inb_of rfl
theorem ib65 {i : Int} : inb 0 65 i ↔ (0 ≤ i ∧ i < 40) := inb_of rfl
theorem ib66 {i : Int} : inb 0 66 i ↔ (0 ≤ i ∧ i < 40) := inb_of rfl
theorem ib67 {i : Int} : inb 0 67 i ↔ (0 ≤ i ∧ i < 96032) := inb_of rfl
theorem ib68 {i : Int} : inb 0 68 i ↔ (0 ≤ i ∧ i < 64) := inb_of rfl
theorem ib69 {i : Int} : inb 0 69 i ↔ (0 ≤ i ∧ i < 8) := inb_of rfl
theorem ib70 {i : Int} : inb 0 70 i ↔ (0 ≤ i ∧ i < 8) := inb_of rfl
theorem ib71 {i : Int} : inb 0 71 i ↔ (0 ≤ i ∧ i < 3) := inb_of rfl
theorem ib72 {i : Int} : inb 0 72 i ↔ (0 ≤ i ∧ i < 2048) := inb_of rfl
theorem ib73 {i : Int} : inb 0 73 i ↔ (0 ≤ i ∧ i < 8) := inb_of rfl
theorem ib74 {i : Int} : inb 0 74 i ↔ (0 ≤ i ∧ i < 8) := inb_of rfl
theorem ib75 {i : Int} : inb 0 75 i ↔ (0 ≤ i ∧ i < 8) := inb_of rfl
theorem ib76 {i : Int} : inb 0 76 i ↔ (0 ≤ i ∧ i < 8) := inb_of rfl
theorem ib77 {i : Int} : inb 0 77 i ↔ (0 ≤ i ∧ i < 60) := inb_of rfl
theorem ib78 {i : Int} : inb 0 78 i ↔ (0 ≤ i ∧ i < 60) := inb_of rfl
theorem ib79 {i : Int} : inb 0 79 i ↔ (0 ≤ i ∧ i < 60) := inb_of rfl
theorem ib80 {i : Int} : inb 0 80 i ↔ (0 ≤ i ∧ i < 60) := inb_of rfl
theorem ib81 {i : Int} : inb 0 81 i ↔ (0 ≤ i ∧ i < 60) := inb_of rfl
theorem rm3_1 : roomC 3 1 = true := rfl
theorem rm5_7 : roomC 5 7 = true := rfl
theorem rm6_7 : roomC 6 7 = true := rfl
theorem rm15_16 : roomC 15 16 = true := rfl
theorem rm16_17 : roomC 16 17 = true := rfl
theorem rm18_16 : roomC 18 16 = true := rfl
theorem rm18_15 : roomC 18 15 = true := rfl
theorem rm22_23 : roomC 22 23 = true := rfl
theorem rm22_24 : roomC 22 24 = true := rfl
theorem rm23_79 : roomC 23 79 = true := rfl
theorem rm23_83 : roomC 23 83 = true := rfl
theorem rm23_31 : roomC 23 31 = true := rfl
theorem rm24_83 : roomC 24 83 = true := rfl
theorem rm24_25 : roomC 24 25 = true := rfl
theorem rm24_32 : roomC 24 32 = true := rfl
theorem rm24_28 : roomC 24 28 = true := rfl
theorem rm24_29 : roomC 24 29 = true := rfl
theorem rm24_33 : roomC 24 33 = true := rfl
theorem rm24_26 : roomC 24 26 = true := rfl
theorem rm25_27 : roomC 25 27 = true := rfl
theorem rm25_83 : roomC 25 83 = true := rfl
theorem rm25_32 : roomC 25 32 = true := rfl
theorem rm26_27 : roomC 26 27 = true := rfl
theorem rm26_83 : roomC 26 83 = true := rfl
theorem rm26_32 : roomC 26 32 = true := rfl
theorem rm27_79 : roomC 27 79 = true := rfl
theorem rm27_83 : roomC 27 83 = true := rfl
theorem rm27_33 : roomC 27 33 = true := rfl
theorem rm28_79 : roomC 28 79 = true := rfl
theorem rm28_83 : roomC 28 83 = true := rfl
theorem rm28_32 : roomC 28 32 = true := rfl
theorem rm29_30 : roomC 29 30 = true := rfl
theorem rm30_200 : roomC 30 200 = true := rfl
theorem rm30_83 : roomC 30 83 = true := rfl
theorem rm30_201 : roomC 30 201 = true := rfl
theorem rm37_22 : roomC 37 22 = true := rfl
theorem rm37_2 : roomC 37 2 = true := rfl
theorem rm37_39 : roomC 37 39 = true := rfl
theorem rm37_40 : roomC 37 40 = true := rfl
theorem rm37_38 : roomC 37 38 = true := rfl
theorem rm37_20 : roomC 37 20 = true := rfl
theorem rm38_39 : roomC 38 39 = true := rfl
theorem rm39_19 : roomC 39 19 = true := rfl
theorem rm40_39 : roomC 40 39 = true := rfl
theorem rm40_1 : roomC 40 1 = true := rfl
theorem rm40_41 : roomC 40 41 = true := rfl
theorem rm40_42 : roomC 40 42 = true := rfl
theorem rm40_43 : roomC 40 43 = true := rfl
theorem rm40_44 : roomC 40 44 = true := rfl
theorem rm40_46 : roomC 40 46 = true := rfl
theorem rm40_3 : roomC 40 3 = true := rfl
theorem rm41_45 : roomC 41 45 = true := rfl
theorem rm41_42 : roomC 41 42 = true := rfl
theorem rm42_39 : roomC 42 39 = true := rfl
theorem rm43_46 : roomC 43 46 = true := rfl
theorem rm43_21 : roomC 43 21 = true := rfl
theorem rm44_46 : roomC 44 46 = true := rfl
theorem rm44_45 : roomC 44 45 = true := rfl
theorem rm45_39 : roomC 45 39 = true := rfl
theorem rm45_21 : roomC 45 21 = true := rfl
theorem rm46_39 : roomC 46 39 = true := rfl
theorem rm54_53 : roomC 54 53 = true := rfl
theorem rm55_53 : roomC 55 53 = true := rfl
theorem rm56_57 : roomC 56 57 = true := rfl
theorem rm56_63 : roomC 56 63 = true := rfl
theorem rm56_66 : roomC 56 66 = true := rfl
theorem rm57_87 : roomC 57 87 = true := rfl
theorem rm57_58 : roomC 57 58 = true := rfl
theorem rm58_62 : roomC 58 62 = true := rfl
theorem rm58_59 : roomC 58 59 = true := rfl
theorem rm59_60 : roomC 59 60 = true := rfl
theorem rm59_61 : roomC 59 61 = true := rfl
theorem rm60_98 : roomC 60 98 = true := rfl
theorem rm63_206 : roomC 63 206 = true := rfl
theorem rm63_64 : roomC 63 64 = true := rfl
theorem rm63_65 : roomC 63 65 = true := rfl
theorem rm64_206 : roomC 64 206 = true := rfl
theorem rm64_61 : roomC 64 61 = true := rfl
theorem rm66_67 : roomC 66 67 = true := rfl
theorem rm66_60 : roomC 66 60 = true := rfl
theorem rm67_61 : roomC 67 61 = true := rfl
theorem rm67_62 : roomC 67 62 = true := rfl
theorem rm67_59 : roomC 67 59 = true := rfl
theorem rm71_72 : roomC 71 72 = true := rfl
theorem rm71_98 : roomC 71 98 = true := rfl
theorem rm71_73 : roomC 71 73 = true := rfl
theorem rm73_74 : roomC 73 74 = true := rfl
theorem rm73_89 : roomC 73 89 = true := rfl
theorem rm73_9 : roomC 73 9 = true := rfl
theorem rm73_76 : roomC 73 76 = true := rfl
theorem rm74_206 : roomC 74 206 = true := rfl
theorem rm74_85 : roomC 74 85 = true := rfl
theorem rm74_86 : roomC 74 86 = true := rfl
theorem rm74_100 : roomC 74 100 = true := rfl
theorem rm74_101 : roomC 74 101 = true := rfl
theorem rm74_84 : roomC 74 84 = true := rfl
theorem rm74_75 : roomC 74 75 = true := rfl
theorem rm76_109 : roomC 76 109 = true := rfl
theorem rm76_86 : roomC 76 86 = true := rfl
theorem rm76_88 : roomC 76 88 = true := rfl
theorem rm76_103 : roomC 76 103 = true := rfl
theorem rm76_77 : roomC 76 77 = true := rfl
theorem rm76_78 : roomC 76 78 = true := rfl
theorem rm78_103 : roomC 78 103 = true := rfl
theorem rm78_100 : roomC 78 100 = true := rfl
theorem rm78_106 : roomC 78 106 = true := rfl
theorem rm78_108 : roomC 78 108 = true := rfl
theorem rm78_101 : roomC 78 101 = true := rfl
theorem rm78_84 : roomC 78 84 = true := rfl
theorem rm78_109 : roomC 78 109 = true := rfl
theorem rm78_75 : roomC 78 75 = true := rfl
theorem rm86_88 : roomC 86 88 = true := rfl
theorem rm86_6 : roomC 86 6 = true := rfl
theorem rm86_104 : roomC 86 104 = true := rfl
theorem rm86_5 : roomC 86 5 = true := rfl
theorem rm86_102 : roomC 86 102 = true := rfl
theorem rm86_8 : roomC 86 8 = true := rfl
theorem rm86_89 : roomC 86 89 = true := rfl
theorem rm95_90 : roomC 95 90 = true := rfl
theorem rm95_96 : roomC 95 96 = true := rfl
theorem rm95_97 : roomC 95 97 = true := rfl
theorem rm97_98 : roomC 97 98 = true := rfl
theorem rm99_91 : roomC 99 91 = true := rfl
theorem rm104_105 : roomC 104 105 = true := rfl
theorem rm106_105 : roomC 106 105 = true := rfl
theorem rm107_108 : roomC 107 108 = true := rfl
theorem rm107_106 : roomC 107 106 = true := rfl
theorem rm110_94 : roomC 110 94 = true := rfl
theorem rm111_95 : roomC 111 95 = true := rfl
theorem rm111_70 : roomC 111 70 = true := rfl
theorem rm111_53 : roomC 111 53 = true := rfl
theorem rm112_136 : roomC 112 136 = true := rfl
theorem rm112_92 : roomC 112 92 = true := rfl
theorem rm112_70 : roomC 112 70 = true := rfl
theorem rm113_138 : roomC 113 138 = true := rfl
theorem rm113_93 : roomC 113 93 = true := rfl
theorem rm113_70 : roomC 113 70 = true := rfl
theorem rm114_99 : roomC 114 99 = true := rfl
theorem rm114_107 : roomC 114 107 = true := rfl
theorem rm114_109 : roomC 114 109 = true := rfl
theorem rm115_80 : roomC 115 80 = true := rfl
theorem rm115_81 : roomC 115 81 = true := rfl
theorem rm115_79 : roomC 115 79 = true := rfl
theorem rm116_79 : roomC 116 79 = true := rfl
theorem rm116_82 : roomC 116 82 = true := rfl
theorem rm117_37 : roomC 117 37 = true := rfl
theorem rm117_82 : roomC 117 82 = true := rfl
theorem rm117_34 : roomC 117 34 = true := rfl
theorem rm117_4 : roomC 117 4 = true := rfl
theorem rm117_70 : roomC 117 70 = true := rfl
theorem rm117_0 : roomC 117 0 = true := rfl
theorem rm118_35 : roomC 118 35 = true := rfl
theorem rm118_36 : roomC 118 36 = true := rfl
theorem rm119_135 : roomC 119 135 = true := rfl
theorem rm119_91 : roomC 119 91 = true := rfl
theorem rm119_136 : roomC 119 136 = true := rfl
theorem rm119_5 : roomC 119 5 = true := rfl
theorem rm120_135 : roomC 120 135 = true := rfl
theorem rm120_91 : roomC 120 91 = true := rfl
theorem rm120_136 : roomC 120 136 = true := rfl
theorem rm120_6 : roomC 120 6 = true := rfl
theorem rm121_134 : roomC 121 134 = true := rfl
theorem rm121_71 : roomC 121 71 = true := rfl
theorem rm121_68 : roomC 121 68 = true := rfl
theorem rm122_134 : roomC 122 134 = true := rfl
theorem rm122_71 : roomC 122 71 = true := rfl
theorem rm122_69 : roomC 122 69 = true := rfl
theorem rm123_90 : roomC 123 90 = true := rfl
theorem rm123_138 : roomC 123 138 = true := rfl
theorem rm123_54 : roomC 123 54 = true := rfl
theorem rm124_90 : roomC 124 90 = true := rfl
theorem rm124_55 : roomC 124 55 = true := rfl
theorem rm125_90 : roomC 125 90 = true := rfl
theorem rm125_98 : roomC 125 98 = true := rfl
theorem rm126_56 : roomC 126 56 = true := rfl
theorem rm127_49 : roomC 127 49 = true := rfl
theorem rm127_56 : roomC 127 56 = true := rfl
theorem rm127_50 : roomC 127 50 = true := rfl
theorem rm127_51 : roomC 127 51 = true := rfl
theorem rm127_52 : roomC 127 52 = true := rfl
theorem rm128_138 : roomC 128 138 = true := rfl
theorem rm128_12 : roomC 128 12 = true := rfl
theorem rm129_135 : roomC 129 135 = true := rfl
theorem rm129_137 : roomC 129 137 = true := rfl
theorem rm129_138 : roomC 129 138 = true := rfl
theorem rm129_13 : roomC 129 13 = true := rfl
theorem rm130_14 : roomC 130 14 = true := rfl
theorem rm131_135 : roomC 131 135 = true := rfl
theorem rm131_137 : roomC 131 137 = true := rfl
theorem rm131_15 : roomC 131 15 = true := rfl
theorem rm132_135 : roomC 132 135 = true := rfl
theorem rm132_138 : roomC 132 138 = true := rfl
theorem rm132_18 : roomC 132 18 = true := rfl
theorem rm133_87 : roomC 133 87 = true := rfl
theorem rm133_88 : roomC 133 88 = true := rfl
theorem rm133_89 : roomC 133 89 = true := rfl
theorem rm133_0 : roomC 133 0 = true := rfl
theorem rm133_47 : roomC 133 47 = true := rfl
theorem rm133_48 : roomC 133 48 = true := rfl
theorem rm133_11 : roomC 133 11 = true := rfl
theorem rm133_10 : roomC 133 10 = true := rfl
theorem rm133_79 : roomC 133 79 = true := rfl
theorem rm134_135 : roomC 134 135 = true := rfl
theorem rm134_90 : roomC 134 90 = true := rfl
theorem rm134_136 : roomC 134 136 = true := rfl
theorem rm135_138 : roomC 135 138 = true := rfl
theorem rm136_138 : roomC 136 138 = true := rfl
theorem rm137_138 : roomC 137 138 = true := rfl
theorem rm142_139 : roomC 142 139 = true := rfl
theorem rm146_145 : roomC 146 145 = true := rfl
theorem rm148_147 : roomC 148 147 = true := rfl
theorem rm149_148 : roomC 149 148 = true := rfl
theorem rm149_146 : roomC 149 146 = true := rfl
theorem rm150_139 : roomC 150 139 = true := rfl
theorem rm150_140 : roomC 150 140 = true := rfl
theorem rm150_147 : roomC 150 147 = true := rfl
theorem rm150_149 : roomC 150 149 = true := rfl
theorem rm156_151 : roomC 156 151 = true := rfl
theorem rm156_153 : roomC 156 153 = true := rfl
theorem rm156_152 : roomC 156 152 = true := rfl
theorem rm157_151 : roomC 157 151 = true := rfl
theorem rm157_156 : roomC 157 156 = true := rfl
theorem rm157_152 : roomC 157 152 = true := rfl
theorem rm157_153 : roomC 157 153 = true := rfl
theorem rm159_154 : roomC 159 154 = true := rfl
theorem rm160_155 : roomC 160 155 = true := rfl
theorem rm160_157 : roomC 160 157 = true := rfl
theorem rm160_159 : roomC 160 159 = true := rfl
theorem rm161_158 : roomC 161 158 = true := rfl
theorem rm162_157 : roomC 162 157 = true := rfl
theorem rm162_155 : roomC 162 155 = true := rfl
theorem rm162_164 : roomC 162 164 = true := rfl
theorem rm163_155 : roomC 163 155 = true := rfl
theorem rm163_159 : roomC 163 159 = true := rfl
theorem rm163_154 : roomC 163 154 = true := rfl
theorem rm163_157 : roomC 163 157 = true := rfl
theorem rm164_158 : roomC 164 158 = true := rfl
theorem rm164_159 : roomC 164 159 = true := rfl
theorem rm164_155 : roomC 164 155 = true := rfl
theorem rm164_157 : roomC 164 157 = true := rfl
theorem rm164_163 : roomC 164 163 = true := rfl
theorem rm164_161 : roomC 164 161 = true := rfl
theorem rm164_160 : roomC 164 160 = true := rfl
theorem rm164_154 : roomC 164 154 = true := rfl
theorem rm167_166 : roomC 167 166 = true := rfl
theorem rm168_166 : roomC 168 166 = true := rfl
theorem rm171_169 : roomC 171 169 = true := rfl
theorem rm171_140 : roomC 171 140 = true := rfl
theorem rm171_170 : roomC 171 170 = true := rfl
theorem rm171_167 : roomC 171 167 = true := rfl
theorem rm172_169 : roomC 172 169 = true := rfl
theorem rm172_140 : roomC 172 140 = true := rfl
theorem rm172_170 : roomC 172 170 = true := rfl
theorem rm172_168 : roomC 172 168 = true := rfl
theorem rm174_147 : roomC 174 147 = true := rfl
theorem rm174_145 : roomC 174 145 = true := rfl
theorem rm174_146 : roomC 174 146 = true := rfl
theorem rm174_167 : roomC 174 167 = true := rfl
theorem rm174_168 : roomC 174 168 = true := rfl
theorem rm174_173 : roomC 174 173 = true := rfl
theorem rm175_174 : roomC 175 174 = true := rfl
theorem rm175_173 : roomC 175 173 = true := rfl
theorem rm175_176 : roomC 175 176 = true := rfl
theorem rm176_147 : roomC 176 147 = true := rfl
theorem rm176_149 : roomC 176 149 = true := rfl
theorem rm176_174 : roomC 176 174 = true := rfl
theorem rm177_169 : roomC 177 169 = true := rfl
theorem rm177_139 : roomC 177 139 = true := rfl
theorem rm177_170 : roomC 177 170 = true := rfl
theorem rm177_175 : roomC 177 175 = true := rfl
theorem rm178_177 : roomC 178 177 = true := rfl
theorem rm180_139 : roomC 180 139 = true := rfl
theorem rm180_179 : roomC 180 179 = true := rfl
theorem rm181_139 : roomC 181 139 = true := rfl
theorem rm182_139 : roomC 182 139 = true := rfl
theorem rm184_179 : roomC 184 179 = true := rfl
theorem rm184_183 : roomC 184 183 = true := rfl
theorem rm186_184 : roomC 186 184 = true := rfl
theorem rm186_185 : roomC 186 185 = true := rfl
theorem rm186_183 : roomC 186 183 = true := rfl
theorem rm187_186 : roomC 187 186 = true := rfl
theorem rm188_186 : roomC 188 186 = true := rfl
theorem rm188_189 : roomC 188 189 = true := rfl
theorem rm189_185 : roomC 189 185 = true := rfl
theorem rm189_183 : roomC 189 183 = true := rfl
theorem rm192_169 : roomC 192 169 = true := rfl
theorem rm192_191 : roomC 192 191 = true := rfl
theorem rm195_169 : roomC 195 169 = true := rfl
theorem rm195_191 : roomC 195 191 = true := rfl
theorem rm195_194 : roomC 195 194 = true := rfl
theorem rm196_169 : roomC 196 169 = true := rfl
theorem rm196_194 : roomC 196 194 = true := rfl
theorem rm196_195 : roomC 196 195 = true := rfl
theorem rm200_202 : roomC 200 202 = true := rfl
theorem rm201_203 : roomC 201 203 = true := rfl
theorem rm201_205 : roomC 201 205 = true := rfl
theorem rm204_207 : roomC 204 207 = true := rfl
theorem rm205_204 : roomC 205 204 = true := rfl
theorem rm208_110 : roomC 208 110 = true := rfl
theorem rm208_141 : roomC 208 141 = true := rfl
theorem rm208_111 : roomC 208 111 = true := rfl
theorem rm208_142 : roomC 208 142 = true := rfl
theorem rm208_112 : roomC 208 112 = true := rfl
theorem rm208_143 : roomC 208 143 = true := rfl
theorem rm208_113 : roomC 208 113 = true := rfl
theorem rm208_144 : roomC 208 144 = true := rfl
theorem rm208_114 : roomC 208 114 = true := rfl
theorem rm208_150 : roomC 208 150 = true := rfl
theorem rm208_115 : roomC 208 115 = true := rfl
theorem rm208_198 : roomC 208 198 = true := rfl
theorem rm208_116 : roomC 208 116 = true := rfl
theorem rm208_199 : roomC 208 199 = true := rfl
theorem rm208_117 : roomC 208 117 = true := rfl
theorem rm208_162 : roomC 208 162 = true := rfl
theorem rm208_118 : roomC 208 118 = true := rfl
theorem rm208_165 : roomC 208 165 = true := rfl
theorem rm208_119 : roomC 208 119 = true := rfl
theorem rm208_171 : roomC 208 171 = true := rfl
theorem rm208_120 : roomC 208 120 = true := rfl
theorem rm208_172 : roomC 208 172 = true := rfl
theorem rm208_121 : roomC 208 121 = true := rfl
theorem rm208_177 : roomC 208 177 = true := rfl
theorem rm208_122 : roomC 208 122 = true := rfl
theorem rm208_178 : roomC 208 178 = true := rfl
theorem rm208_123 : roomC 208 123 = true := rfl
theorem rm208_181 : roomC 208 181 = true := rfl
theorem rm208_124 : roomC 208 124 = true := rfl
theorem rm208_182 : roomC 208 182 = true := rfl
theorem rm208_125 : roomC 208 125 = true := rfl
theorem rm208_180 : roomC 208 180 = true := rfl
theorem rm208_126 : roomC 208 126 = true := rfl
theorem rm208_187 : roomC 208 187 = true := rfl
theorem rm208_127 : roomC 208 127 = true := rfl
theorem rm208_188 : roomC 208 188 = true := rfl
theorem rm208_128 : roomC 208 128 = true := rfl
theorem rm208_190 : roomC 208 190 = true := rfl
theorem rm208_129 : roomC 208 129 = true := rfl
theorem rm208_192 : roomC 208 192 = true := rfl
theorem rm208_130 : roomC 208 130 = true := rfl
theorem rm208_193 : roomC 208 193 = true := rfl
theorem rm208_131 : roomC 208 131 = true := rfl
theorem rm208_195 : roomC 208 195 = true := rfl
theorem rm208_132 : roomC 208 132 = true := rfl
theorem rm208_196 : roomC 208 196 = true := rfl
theorem rm208_133 : roomC 208 133 = true := rfl
theorem rm208_197 : roomC 208 197 = true := rfl
theorem okp_i {x : Int} : okp (some (vi x)) = true := rfl
theorem okp_r {x : Nat} : okp (some (vr x)) = true := rfl
theorem okp_n : okp none = true := rfl
theorem catS_nil : catS [] = 0 := rfl
theorem catS_cons {v : AV} {st : List AV} : catS (v :: st) = catV v + catS st := by simp [catS]
theorem catV_i {x : Int} : catV (vi x) = 1 := rfl
theorem catV_r {x : Nat} : catV (vr x) = 1 := rfl
theorem catV_l {x : Int} : catV (vl x) = 2 := rfl
