def mX0_init : gM := (yX0_init, cX0_init, 2, none, { frames := 2, cells := 65, slots := 304, locals := 40 }, [])
theorem zX0_init : gZ mX0_init 0 := ⟨gW_of 147 (by decide +kernel) (by decide +kernel), wd_47, by decide +kernel, by decide +kernel, by decide +kernel⟩
def mX0_clear : gM := (yX0_clear, cX0_clear, 1, none, { frames := 0, cells := 0, slots := 0, locals := 0 }, [])
theorem zX0_clear : gZ mX0_clear 0 := ⟨gW_of 776 (by decide +kernel) (by decide +kernel), wd_47, by decide +kernel, by decide +kernel, by decide +kernel⟩
def mX0_keep : gM := (yX0_keep, cX0_keep, 2, none, { frames := 1, cells := 0, slots := 0, locals := 22 }, [])
theorem zX0_keep : gZ mX0_keep 1 := ⟨gW_of 720 (by decide +kernel) (by decide +kernel), wd_47, by decide +kernel, by decide +kernel, by decide +kernel⟩
def mX0_takeBack : gM := (yX0_takeBack, cX0_takeBack, 2, none, { frames := 1, cells := 0, slots := 0, locals := 22 }, [])
theorem zX0_takeBack : gZ mX0_takeBack 1 := ⟨gW_of 755 (by decide +kernel) (by decide +kernel), wd_47, by decide +kernel, by decide +kernel, by decide +kernel⟩
def mX1_init : gM := (yX1_init, cX1_init, 1, none, { frames := 1, cells := 2, slots := 170, locals := 20 }, [])
theorem zX1_init : gZ mX1_init 0 := ⟨gW_of 179 (by decide +kernel) (by decide +kernel), wd_49, by decide +kernel, by decide +kernel, by decide +kernel⟩
def mX1_countGroups : gM := (yX1_countGroups, cX1_countGroups, 6, (some .int), { frames := 2, cells := 0, slots := 0, locals := 51 }, [])
theorem zX1_countGroups : gZ mX1_countGroups 2 := ⟨gW_of 1194 (by decide +kernel) (by decide +kernel), wd_49, by decide +kernel, by decide +kernel, by decide +kernel⟩
def mX1_removeGroup : gM := (yX1_removeGroup, cX1_removeGroup, 8, none, { frames := 1, cells := 0, slots := 0, locals := 24 }, [])
theorem zX1_removeGroup : gZ mX1_removeGroup 4 := ⟨gW_of 1198 (by decide +kernel) (by decide +kernel), wd_49, by decide +kernel, by decide +kernel, by decide +kernel⟩
def mX1_gather : gM := (yX1_gather, cX1_gather, 5, none, { frames := 0, cells := 0, slots := 0, locals := 0 }, [])
theorem zX1_gather : gZ mX1_gather 4 := ⟨gW_of 1202 (by decide +kernel) (by decide +kernel), wd_49, by decide +kernel, by decide +kernel, by decide +kernel⟩
def mX2_init : gM := (yX2_init, cX2_init, 1, none, { frames := 1, cells := 1, slots := 256, locals := 20 }, [])
theorem zX2_init : gZ mX2_init 0 := ⟨gW_of 167 (by decide +kernel) (by decide +kernel), wd_48, by decide +kernel, by decide +kernel, by decide +kernel⟩
def mX3_init : gM := (yX3_init, cX3_init, 5, none, { frames := 1, cells := 0, slots := 0, locals := 20 }, [])
theorem zX3_init : gZ mX3_init 4 := ⟨gW_of 855 (by decide +kernel) (by decide +kernel), wd_59, by decide +kernel, by decide +kernel, by decide +kernel⟩
def mX3_readText : gM := (yX3_readText, cX3_readText, 2, none, { frames := 9, cells := 0, slots := 0, locals := 193 }, [])
theorem zX3_readText : gZ mX3_readText 0 := ⟨gW_of 905 (by decide +kernel) (by decide +kernel), wd_59, by decide +kernel, by decide +kernel, by decide +kernel⟩
def mX3_readHead : gM := (yX3_readHead, cX3_readHead, 4, none, { frames := 8, cells := 0, slots := 0, locals := 170 }, [])
theorem zX3_readHead : gZ mX3_readHead 0 := ⟨gW_of 928 (by decide +kernel) (by decide +kernel), wd_59, by decide +kernel, by decide +kernel, by decide +kernel⟩
def mX3_readLine : gM := (yX3_readLine, cX3_readLine, 1, none, { frames := 8, cells := 0, slots := 0, locals := 173 }, [])
theorem zX3_readLine : gZ mX3_readLine 0 := ⟨gW_of 1009 (by decide +kernel) (by decide +kernel), wd_59, by decide +kernel, by decide +kernel, by decide +kernel⟩
def mX3_readTrain : gM := (yX3_readTrain, cX3_readTrain, 5, none, { frames := 7, cells := 0, slots := 0, locals := 149 }, [])
theorem zX3_readTrain : gZ mX3_readTrain 0 := ⟨gW_of 1014 (by decide +kernel) (by decide +kernel), wd_59, by decide +kernel, by decide +kernel, by decide +kernel⟩
def mX3_readDrift : gM := (yX3_readDrift, cX3_readDrift, 4, none, { frames := 4, cells := 0, slots := 0, locals := 90 }, [])
theorem zX3_readDrift : gZ mX3_readDrift 0 := ⟨gW_of 1033 (by decide +kernel) (by decide +kernel), wd_59, by decide +kernel, by decide +kernel, by decide +kernel⟩
def mX3_readSlit : gM := (yX3_readSlit, cX3_readSlit, 5, none, { frames := 3, cells := 0, slots := 0, locals := 68 }, [])
theorem zX3_readSlit : gZ mX3_readSlit 0 := ⟨gW_of 1046 (by decide +kernel) (by decide +kernel), wd_59, by decide +kernel, by decide +kernel, by decide +kernel⟩
def mX3_readOff : gM := (yX3_readOff, cX3_readOff, 2, none, { frames := 4, cells := 0, slots := 0, locals := 89 }, [])
theorem zX3_readOff : gZ mX3_readOff 0 := ⟨gW_of 1051 (by decide +kernel) (by decide +kernel), wd_59, by decide +kernel, by decide +kernel, by decide +kernel⟩
def mX3_readMirror : gM := (yX3_readMirror, cX3_readMirror, 3, none, { frames := 7, cells := 0, slots := 0, locals := 149 }, [])
theorem zX3_readMirror : gZ mX3_readMirror 0 := ⟨gW_of 1056 (by decide +kernel) (by decide +kernel), wd_59, by decide +kernel, by decide +kernel, by decide +kernel⟩
def mX3_readCut : gM := (yX3_readCut, cX3_readCut, 4, none, { frames := 4, cells := 0, slots := 0, locals := 89 }, [])
theorem zX3_readCut : gZ mX3_readCut 0 := ⟨gW_of 1069 (by decide +kernel) (by decide +kernel), wd_59, by decide +kernel, by decide +kernel, by decide +kernel⟩
def mX3_readShape : gM := (yX3_readShape, cX3_readShape, 3, none, { frames := 7, cells := 0, slots := 0, locals := 149 }, [])
theorem zX3_readShape : gZ mX3_readShape 0 := ⟨gW_of 1078 (by decide +kernel) (by decide +kernel), wd_59, by decide +kernel, by decide +kernel, by decide +kernel⟩
def mX3_readShoal : gM := (yX3_readShoal, cX3_readShoal, 2, none, { frames := 4, cells := 0, slots := 0, locals := 89 }, [])
theorem zX3_readShoal : gZ mX3_readShoal 0 := ⟨gW_of 1085 (by decide +kernel) (by decide +kernel), wd_59, by decide +kernel, by decide +kernel, by decide +kernel⟩
def mX3_readGauge : gM := (yX3_readGauge, cX3_readGauge, 1, none, { frames := 4, cells := 0, slots := 0, locals := 89 }, [])
theorem zX3_readGauge : gZ mX3_readGauge 0 := ⟨gW_of 1090 (by decide +kernel) (by decide +kernel), wd_59, by decide +kernel, by decide +kernel, by decide +kernel⟩
def mX3_startCounted : gM := (yX3_startCounted, cX3_startCounted, 3, (some .boolean), { frames := 2, cells := 0, slots := 0, locals := 45 }, [])
theorem zX3_startCounted : gZ mX3_startCounted 2 := ⟨gW_of 1018 (by decide +kernel) (by decide +kernel), wd_59, by decide +kernel, by decide +kernel, by decide +kernel⟩
def mX3_readColumn : gM := (yX3_readColumn, cX3_readColumn, 2, (some .int), { frames := 3, cells := 0, slots := 0, locals := 68 }, [])
theorem zX3_readColumn : gZ mX3_readColumn 1 := ⟨gW_of 1022 (by decide +kernel) (by decide +kernel), wd_59, by decide +kernel, by decide +kernel, by decide +kernel⟩
def mX3_readRow : gM := (yX3_readRow, cX3_readRow, 2, (some .int), { frames := 3, cells := 0, slots := 0, locals := 68 }, [])
theorem zX3_readRow : gZ mX3_readRow 1 := ⟨gW_of 1026 (by decide +kernel) (by decide +kernel), wd_59, by decide +kernel, by decide +kernel, by decide +kernel⟩
def mX3_readSource : gM := (yX3_readSource, cX3_readSource, 2, (some .int), { frames := 3, cells := 0, slots := 0, locals := 68 }, [])
theorem zX3_readSource : gZ mX3_readSource 1 := ⟨gW_of 1037 (by decide +kernel) (by decide +kernel), wd_59, by decide +kernel, by decide +kernel, by decide +kernel⟩
def mX3_readSide : gM := (yX3_readSide, cX3_readSide, 2, (some .int), { frames := 6, cells := 0, slots := 0, locals := 128 }, [])
theorem zX3_readSide : gZ mX3_readSide 0 := ⟨gW_of 1060 (by decide +kernel) (by decide +kernel), wd_59, by decide +kernel, by decide +kernel, by decide +kernel⟩
def mX3_readSigned : gM := (yX3_readSigned, cX3_readSigned, 3, (some .int), { frames := 3, cells := 0, slots := 0, locals := 68 }, [])
theorem zX3_readSigned : gZ mX3_readSigned 0 := ⟨gW_of 1041 (by decide +kernel) (by decide +kernel), wd_59, by decide +kernel, by decide +kernel, by decide +kernel⟩
def mX3_readNumber : gM := (yX3_readNumber, cX3_readNumber, 4, (some .int), { frames := 2, cells := 0, slots := 0, locals := 45 }, [])
theorem zX3_readNumber : gZ mX3_readNumber 2 := ⟨gW_of 998 (by decide +kernel) (by decide +kernel), wd_59, by decide +kernel, by decide +kernel, by decide +kernel⟩
def mX3_readWord : gM := (yX3_readWord, cX3_readWord, 2, none, { frames := 7, cells := 0, slots := 0, locals := 149 }, [])
theorem zX3_readWord : gZ mX3_readWord 1 := ⟨gW_of 933 (by decide +kernel) (by decide +kernel), wd_59, by decide +kernel, by decide +kernel, by decide +kernel⟩
def mX3_takeWord : gM := (yX3_takeWord, cX3_takeWord, 2, (some .boolean), { frames := 6, cells := 0, slots := 0, locals := 128 }, [])
theorem zX3_takeWord : gZ mX3_takeWord 1 := ⟨gW_of 937 (by decide +kernel) (by decide +kernel), wd_59, by decide +kernel, by decide +kernel, by decide +kernel⟩
def mX3_takeSemicolon : gM := (yX3_takeSemicolon, cX3_takeSemicolon, 1, (some .boolean), { frames := 2, cells := 0, slots := 0, locals := 45 }, [])
theorem zX3_takeSemicolon : gZ mX3_takeSemicolon 0 := ⟨gW_of 1005 (by decide +kernel) (by decide +kernel), wd_59, by decide +kernel, by decide +kernel, by decide +kernel⟩
def mX3_isWord : gM := (yX3_isWord, cX3_isWord, 3, (some .boolean), { frames := 5, cells := 0, slots := 0, locals := 106 }, [])
theorem zX3_isWord : gZ mX3_isWord 1 := ⟨gW_of 941 (by decide +kernel) (by decide +kernel), wd_59, by decide +kernel, by decide +kernel, by decide +kernel⟩
def mX3_fail : gM := (yX3_fail, cX3_fail, 2, none, { frames := 0, cells := 0, slots := 0, locals := 0 }, [])
theorem zX3_fail : gZ mX3_fail 1 := ⟨gW_of 993 (by decide +kernel) (by decide +kernel), wd_59, by decide +kernel, by decide +kernel, by decide +kernel⟩
def mX3_nextToken : gM := (yX3_nextToken, cX3_nextToken, 3, none, { frames := 1, cells := 0, slots := 0, locals := 23 }, [])
theorem zX3_nextToken : gZ mX3_nextToken 0 := ⟨gW_of 913 (by decide +kernel) (by decide +kernel), wd_59, by decide +kernel, by decide +kernel, by decide +kernel⟩
def mX3_countRun : gM := (yX3_countRun, cX3_countRun, 4, (some .int), { frames := 0, cells := 0, slots := 0, locals := 0 }, [])
theorem zX3_countRun : gZ mX3_countRun 2 := ⟨gW_of 917 (by decide +kernel) (by decide +kernel), wd_59, by decide +kernel, by decide +kernel, by decide +kernel⟩
def mX3_numberAtStart : gM := (yX3_numberAtStart, cX3_numberAtStart, 3, (some .int), { frames := 0, cells := 0, slots := 0, locals := 0 }, [])
theorem zX3_numberAtStart : gZ mX3_numberAtStart 0 := ⟨gW_of 921 (by decide +kernel) (by decide +kernel), wd_59, by decide +kernel, by decide +kernel, by decide +kernel⟩
def mX3_kindOfSign : gM := (yX3_kindOfSign, cX3_kindOfSign, 1, (some .int), { frames := 0, cells := 0, slots := 0, locals := 0 }, [])
theorem zX3_kindOfSign : gZ mX3_kindOfSign 1 := ⟨gW_of 924 (by decide +kernel) (by decide +kernel), wd_59, by decide +kernel, by decide +kernel, by decide +kernel⟩
def mX4_init : gM := (yX4_init, cX4_init, 3, none, { frames := 1, cells := 1, slots := 640, locals := 22 }, [])
theorem zX4_init : gZ mX4_init 0 := ⟨gW_of 196 (by decide +kernel) (by decide +kernel), wd_50, by decide +kernel, by decide +kernel, by decide +kernel⟩
def mX4_between : gM := (yX4_between, cX4_between, 3, (some .int), { frames := 1, cells := 0, slots := 0, locals := 24 }, [])
theorem zX4_between : gZ mX4_between 2 := ⟨gW_of 593 (by decide +kernel) (by decide +kernel), wd_50, by decide +kernel, by decide +kernel, by decide +kernel⟩
def mX4_root : gM := (yX4_root, cX4_root, 3, (some .int), { frames := 0, cells := 0, slots := 0, locals := 0 }, [])
theorem zX4_root : gZ mX4_root 1 := ⟨gW_of 200 (by decide +kernel) (by decide +kernel), wd_50, by decide +kernel, by decide +kernel, by decide +kernel⟩
def mX5_init : gM := (yX5_init, cX5_init, 1, none, { frames := 1, cells := 0, slots := 0, locals := 20 }, [])
theorem zX5_init : gZ mX5_init 0 := ⟨gW_of 272 (by decide +kernel) (by decide +kernel), wd_53, by decide +kernel, by decide +kernel, by decide +kernel⟩
def mX5_holds : gM := (yX5_holds, cX5_holds, 3, (some .boolean), { frames := 0, cells := 0, slots := 0, locals := 0 }, [])
theorem zX5_holds : gZ mX5_holds 2 := ⟨gW_of 651 (by decide +kernel) (by decide +kernel), wd_53, by decide +kernel, by decide +kernel, by decide +kernel⟩
def mX6_init : gM := (yX6_init, cX6_init, 1, none, { frames := 1, cells := 7, slots := 28, locals := 20 }, [])
theorem zX6_init : gZ mX6_init 0 := ⟨gW_of 85 (by decide +kernel) (by decide +kernel), wd_46, by decide +kernel, by decide +kernel, by decide +kernel⟩
def mX6_copyFrom : gM := (yX6_copyFrom, cX6_copyFrom, 3, none, { frames := 0, cells := 0, slots := 0, locals := 0 }, [])
theorem zX6_copyFrom : gZ mX6_copyFrom 1 := ⟨gW_of 691 (by decide +kernel) (by decide +kernel), wd_46, by decide +kernel, by decide +kernel, by decide +kernel⟩
def mX6_hasOpen : gM := (yX6_hasOpen, cX6_hasOpen, 2, (some .boolean), { frames := 0, cells := 0, slots := 0, locals := 0 }, [])
theorem zX6_hasOpen : gZ mX6_hasOpen 1 := ⟨gW_of 507 (by decide +kernel) (by decide +kernel), wd_46, by decide +kernel, by decide +kernel, by decide +kernel⟩
def mX6_turn : gM := (yX6_turn, cX6_turn, 2, none, { frames := 0, cells := 0, slots := 0, locals := 0 }, [])
theorem zX6_turn : gZ mX6_turn 1 := ⟨gW_of 708 (by decide +kernel) (by decide +kernel), wd_46, by decide +kernel, by decide +kernel, by decide +kernel⟩
def mX7_init : gM := (yX7_init, cX7_init, 3, none, { frames := 2, cells := 20, slots := 126, locals := 40 }, [])
theorem zX7_init : gZ mX7_init 1 := ⟨gW_of 210 (by decide +kernel) (by decide +kernel), wd_51, by decide +kernel, by decide +kernel, by decide +kernel⟩
def mX7_clear : gM := (yX7_clear, cX7_clear, 2, none, { frames := 0, cells := 0, slots := 0, locals := 0 }, [])
theorem zX7_clear : gZ mX7_clear 0 := ⟨gW_of 909 (by decide +kernel) (by decide +kernel), wd_51, by decide +kernel, by decide +kernel, by decide +kernel⟩
def mX7_cells : gM := (yX7_cells, cX7_cells, 1, (some .int), { frames := 0, cells := 0, slots := 0, locals := 0 }, [])
theorem zX7_cells : gZ mX7_cells 0 := ⟨gW_of 1158 (by decide +kernel) (by decide +kernel), wd_51, by decide +kernel, by decide +kernel, by decide +kernel⟩
def mX7_cellNumber : gM := (yX7_cellNumber, cX7_cellNumber, 3, (some .int), { frames := 0, cells := 0, slots := 0, locals := 0 }, [])
theorem zX7_cellNumber : gZ mX7_cellNumber 2 := ⟨gW_of 741 (by decide +kernel) (by decide +kernel), wd_51, by decide +kernel, by decide +kernel, by decide +kernel⟩
def mX7_columnOf : gM := (yX7_columnOf, cX7_columnOf, 5, (some .int), { frames := 1, cells := 0, slots := 0, locals := 24 }, [])
theorem zX7_columnOf : gZ mX7_columnOf 3 := ⟨gW_of 539 (by decide +kernel) (by decide +kernel), wd_51, by decide +kernel, by decide +kernel, by decide +kernel⟩
def mX7_rowOf : gM := (yX7_rowOf, cX7_rowOf, 5, (some .int), { frames := 1, cells := 0, slots := 0, locals := 24 }, [])
theorem zX7_rowOf : gZ mX7_rowOf 3 := ⟨gW_of 549 (by decide +kernel) (by decide +kernel), wd_51, by decide +kernel, by decide +kernel, by decide +kernel⟩
def mX7_cellOf : gM := (yX7_cellOf, cX7_cellOf, 3, (some .int), { frames := 2, cells := 0, slots := 0, locals := 48 }, [])
theorem zX7_cellOf : gZ mX7_cellOf 2 := ⟨gW_of 737 (by decide +kernel) (by decide +kernel), wd_51, by decide +kernel, by decide +kernel, by decide +kernel⟩
def mX7_isShadowed : gM := (yX7_isShadowed, cX7_isShadowed, 3, (some .boolean), { frames := 0, cells := 0, slots := 0, locals := 0 }, [])
theorem zX7_isShadowed : gZ mX7_isShadowed 2 := ⟨gW_of 585 (by decide +kernel) (by decide +kernel), wd_51, by decide +kernel, by decide +kernel, by decide +kernel⟩
def mX7_isBlocked : gM := (yX7_isBlocked, cX7_isBlocked, 4, (some .boolean), { frames := 1, cells := 0, slots := 0, locals := 21 }, [])
theorem zX7_isBlocked : gZ mX7_isBlocked 3 := ⟨gW_of 578 (by decide +kernel) (by decide +kernel), wd_51, by decide +kernel, by decide +kernel, by decide +kernel⟩
def mX7_lengthThrough : gM := (yX7_lengthThrough, cX7_lengthThrough, 6, (some .int), { frames := 2, cells := 0, slots := 0, locals := 46 }, [])
theorem zX7_lengthThrough : gZ mX7_lengthThrough 5 := ⟨gW_of 589 (by decide +kernel) (by decide +kernel), wd_51, by decide +kernel, by decide +kernel, by decide +kernel⟩
def mX7_shortestLength : gM := (yX7_shortestLength, cX7_shortestLength, 10, (some .int), { frames := 3, cells := 0, slots := 0, locals := 71 }, [])
theorem zX7_shortestLength : gZ mX7_shortestLength 4 := ⟨gW_of 1114 (by decide +kernel) (by decide +kernel), wd_51, by decide +kernel, by decide +kernel, by decide +kernel⟩
def mX7_firstArrival : gM := (yX7_firstArrival, cX7_firstArrival, 6, (some .int), { frames := 4, cells := 0, slots := 0, locals := 100 }, [])
theorem zX7_firstArrival : gZ mX7_firstArrival 4 := ⟨gW_of 1127 (by decide +kernel) (by decide +kernel), wd_51, by decide +kernel, by decide +kernel, by decide +kernel⟩
def mX7_imageColumn : gM := (yX7_imageColumn, cX7_imageColumn, 3, (some .int), { frames := 0, cells := 0, slots := 0, locals := 0 }, [])
theorem zX7_imageColumn : gZ mX7_imageColumn 2 := ⟨gW_of 634 (by decide +kernel) (by decide +kernel), wd_51, by decide +kernel, by decide +kernel, by decide +kernel⟩
def mX7_imageRow : gM := (yX7_imageRow, cX7_imageRow, 3, (some .int), { frames := 0, cells := 0, slots := 0, locals := 0 }, [])
theorem zX7_imageRow : gZ mX7_imageRow 2 := ⟨gW_of 638 (by decide +kernel) (by decide +kernel), wd_51, by decide +kernel, by decide +kernel, by decide +kernel⟩
def mX7_partOf : gM := (yX7_partOf, cX7_partOf, 16, (some .int), { frames := 3, cells := 0, slots := 0, locals := 73 }, [])
theorem zX7_partOf : gZ mX7_partOf 5 := ⟨gW_of 574 (by decide +kernel) (by decide +kernel), wd_51, by decide +kernel, by decide +kernel, by decide +kernel⟩
def mX7_waveOf : gM := (yX7_waveOf, cX7_waveOf, 7, (some .int), { frames := 4, cells := 0, slots := 0, locals := 108 }, [])
theorem zX7_waveOf : gZ mX7_waveOf 4 := ⟨gW_of 646 (by decide +kernel) (by decide +kernel), wd_51, by decide +kernel, by decide +kernel, by decide +kernel⟩
def mX7_staysCalm : gM := (yX7_staysCalm, cX7_staysCalm, 7, (some .boolean), { frames := 5, cells := 0, slots := 0, locals := 134 }, [])
theorem zX7_staysCalm : gZ mX7_staysCalm 5 := ⟨gW_of 673 (by decide +kernel) (by decide +kernel), wd_51, by decide +kernel, by decide +kernel, by decide +kernel⟩
def mX7_energyOf : gM := (yX7_energyOf, cX7_energyOf, 10, (some .long), { frames := 5, cells := 0, slots := 0, locals := 134 }, [])
theorem zX7_energyOf : gZ mX7_energyOf 4 := ⟨gW_of 683 (by decide +kernel) (by decide +kernel), wd_51, by decide +kernel, by decide +kernel, by decide +kernel⟩
def mX8_init : gM := (yX8_init, cX8_init, 1, none, { frames := 1, cells := 2, slots := 12, locals := 20 }, [])
theorem zX8_init : gZ mX8_init 0 := ⟨gW_of 219 (by decide +kernel) (by decide +kernel), wd_52, by decide +kernel, by decide +kernel, by decide +kernel⟩
def mX8_addCut : gM := (yX8_addCut, cX8_addCut, 3, none, { frames := 0, cells := 0, slots := 0, locals := 0 }, [])
theorem zX8_addCut : gZ mX8_addCut 2 := ⟨gW_of 1073 (by decide +kernel) (by decide +kernel), wd_52, by decide +kernel, by decide +kernel, by decide +kernel⟩
def mX8_emitted : gM := (yX8_emitted, cX8_emitted, 4, (some .int), { frames := 1, cells := 0, slots := 0, locals := 24 }, [])
theorem zX8_emitted : gZ mX8_emitted 2 := ⟨gW_of 608 (by decide +kernel) (by decide +kernel), wd_52, by decide +kernel, by decide +kernel, by decide +kernel⟩
def mX8_delayOf : gM := (yX8_delayOf, cX8_delayOf, 2, (some .int), { frames := 0, cells := 0, slots := 0, locals := 0 }, [])
theorem zX8_delayOf : gZ mX8_delayOf 1 := ⟨gW_of 604 (by decide +kernel) (by decide +kernel), wd_52, by decide +kernel, by decide +kernel, by decide +kernel⟩
def mX8_angleOf : gM := (yX8_angleOf, cX8_angleOf, 5, (some .int), { frames := 1, cells := 0, slots := 0, locals := 22 }, [])
theorem zX8_angleOf : gZ mX8_angleOf 3 := ⟨gW_of 613 (by decide +kernel) (by decide +kernel), wd_52, by decide +kernel, by decide +kernel, by decide +kernel⟩
def mX8_valueOf : gM := (yX8_valueOf, cX8_valueOf, 2, (some .int), { frames := 1, cells := 0, slots := 0, locals := 23 }, [])
theorem zX8_valueOf : gZ mX8_valueOf 1 := ⟨gW_of 620 (by decide +kernel) (by decide +kernel), wd_52, by decide +kernel, by decide +kernel, by decide +kernel⟩
def mX8_brings : gM := (yX8_brings, cX8_brings, 7, (some .int), { frames := 2, cells := 0, slots := 0, locals := 47 }, [])
theorem zX8_brings : gZ mX8_brings 5 := ⟨gW_of 600 (by decide +kernel) (by decide +kernel), wd_52, by decide +kernel, by decide +kernel, by decide +kernel⟩
def mX8_sineOf : gM := (yX8_sineOf, cX8_sineOf, 4, (some .int), { frames := 0, cells := 0, slots := 0, locals := 0 }, [])
theorem zX8_sineOf : gZ mX8_sineOf 1 := ⟨gW_of 623 (by decide +kernel) (by decide +kernel), wd_52, by decide +kernel, by decide +kernel, by decide +kernel⟩
def mX9_init : gM := (yX9_init, cX9_init, 3, none, { frames := 3, cells := 152, slots := 2929, locals := 62 }, [])
theorem zX9_init : gZ mX9_init 0 := ⟨gW_of 77 (by decide +kernel) (by decide +kernel), wd_45, by decide +kernel, by decide +kernel, by decide +kernel⟩
def mX9_append : gM := (yX9_append, cX9_append, 6, (some .int), { frames := 1, cells := 0, slots := 0, locals := 22 }, [])
theorem zX9_append : gZ mX9_append 5 := ⟨gW_of 803 (by decide +kernel) (by decide +kernel), wd_45, by decide +kernel, by decide +kernel, by decide +kernel⟩
def mX9_load : gM := (yX9_load, cX9_load, 5, (some .int), { frames := 10, cells := 1, slots := 14, locals := 214 }, [])
theorem zX9_load : gZ mX9_load 1 := ⟨gW_of 849 (by decide +kernel) (by decide +kernel), wd_45, by decide +kernel, by decide +kernel, by decide +kernel⟩
def mX9_time : gM := (yX9_time, cX9_time, 1, (some .int), { frames := 0, cells := 0, slots := 0, locals := 0 }, [])
theorem zX9_time : gZ mX9_time 0 := ⟨gW_of 408 (by decide +kernel) (by decide +kernel), wd_45, by decide +kernel, by decide +kernel, by decide +kernel⟩
def mX9_openRows : gM := (yX9_openRows, cX9_openRows, 1, (some .int), { frames := 1, cells := 0, slots := 0, locals := 20 }, [])
theorem zX9_openRows : gZ mX9_openRows 0 := ⟨gW_of 1249 (by decide +kernel) (by decide +kernel), wd_45, by decide +kernel, by decide +kernel, by decide +kernel⟩
def mX9_isOpen : gM := (yX9_isOpen, cX9_isOpen, 2, (some .boolean), { frames := 1, cells := 0, slots := 0, locals := 21 }, [])
theorem zX9_isOpen : gZ mX9_isOpen 1 := ⟨gW_of 412 (by decide +kernel) (by decide +kernel), wd_45, by decide +kernel, by decide +kernel, by decide +kernel⟩
def mX9_sourceAt : gM := (yX9_sourceAt, cX9_sourceAt, 4, (some .int), { frames := 2, cells := 0, slots := 0, locals := 48 }, [])
theorem zX9_sourceAt : gZ mX9_sourceAt 3 := ⟨gW_of 511 (by decide +kernel) (by decide +kernel), wd_45, by decide +kernel, by decide +kernel, by decide +kernel⟩
def mX9_property : gM := (yX9_property, cX9_property, 3, (some .int), { frames := 1, cells := 0, slots := 0, locals := 22 }, [])
theorem zX9_property : gZ mX9_property 2 := ⟨gW_of 553 (by decide +kernel) (by decide +kernel), wd_45, by decide +kernel, by decide +kernel, by decide +kernel⟩
def mX9_isOn : gM := (yX9_isOn, cX9_isOn, 2, (some .boolean), { frames := 1, cells := 0, slots := 0, locals := 21 }, [])
theorem zX9_isOn : gZ mX9_isOn 1 := ⟨gW_of 557 (by decide +kernel) (by decide +kernel), wd_45, by decide +kernel, by decide +kernel, by decide +kernel⟩
def mX9_distance : gM := (yX9_distance, cX9_distance, 3, (some .int), { frames := 2, cells := 0, slots := 0, locals := 46 }, [])
theorem zX9_distance : gZ mX9_distance 2 := ⟨gW_of 1105 (by decide +kernel) (by decide +kernel), wd_45, by decide +kernel, by decide +kernel, by decide +kernel⟩
def mX9_isBehind : gM := (yX9_isBehind, cX9_isBehind, 4, (some .boolean), { frames := 2, cells := 0, slots := 0, locals := 48 }, [])
theorem zX9_isBehind : gZ mX9_isBehind 3 := ⟨gW_of 1118 (by decide +kernel) (by decide +kernel), wd_45, by decide +kernel, by decide +kernel, by decide +kernel⟩
def mX9_path : gM := (yX9_path, cX9_path, 7, (some .int), { frames := 3, cells := 0, slots := 0, locals := 71 }, [])
theorem zX9_path : gZ mX9_path 4 := ⟨gW_of 1138 (by decide +kernel) (by decide +kernel), wd_45, by decide +kernel, by decide +kernel, by decide +kernel⟩
def mX9_shortest : gM := (yX9_shortest, cX9_shortest, 4, (some .int), { frames := 4, cells := 0, slots := 0, locals := 100 }, [])
theorem zX9_shortest : gZ mX9_shortest 3 := ⟨gW_of 1110 (by decide +kernel) (by decide +kernel), wd_45, by decide +kernel, by decide +kernel, by decide +kernel⟩
def mX9_phase : gM := (yX9_phase, cX9_phase, 5, (some .int), { frames := 4, cells := 0, slots := 0, locals := 100 }, [])
theorem zX9_phase : gZ mX9_phase 3 := ⟨gW_of 1133 (by decide +kernel) (by decide +kernel), wd_45, by decide +kernel, by decide +kernel, by decide +kernel⟩
def mX9_arrival : gM := (yX9_arrival, cX9_arrival, 4, (some .int), { frames := 5, cells := 0, slots := 0, locals := 125 }, [])
theorem zX9_arrival : gZ mX9_arrival 3 := ⟨gW_of 1123 (by decide +kernel) (by decide +kernel), wd_45, by decide +kernel, by decide +kernel, by decide +kernel⟩
def mX9_part : gM := (yX9_part, cX9_part, 4, (some .int), { frames := 4, cells := 0, slots := 0, locals := 108 }, [])
theorem zX9_part : gZ mX9_part 3 := ⟨gW_of 561 (by decide +kernel) (by decide +kernel), wd_45, by decide +kernel, by decide +kernel, by decide +kernel⟩
def mX9_wave : gM := (yX9_wave, cX9_wave, 3, (some .int), { frames := 5, cells := 0, slots := 0, locals := 134 }, [])
theorem zX9_wave : gZ mX9_wave 2 := ⟨gW_of 642 (by decide +kernel) (by decide +kernel), wd_45, by decide +kernel, by decide +kernel, by decide +kernel⟩
def mX9_waveAt : gM := (yX9_waveAt, cX9_waveAt, 4, (some .int), { frames := 5, cells := 0, slots := 0, locals := 134 }, [])
theorem zX9_waveAt : gZ mX9_waveAt 3 := ⟨gW_of 655 (by decide +kernel) (by decide +kernel), wd_45, by decide +kernel, by decide +kernel, by decide +kernel⟩
def mX9_gaugeAt : gM := (yX9_gaugeAt, cX9_gaugeAt, 3, (some .int), { frames := 1, cells := 0, slots := 0, locals := 22 }, [])
theorem zX9_gaugeAt : gZ mX9_gaugeAt 2 := ⟨gW_of 1221 (by decide +kernel) (by decide +kernel), wd_45, by decide +kernel, by decide +kernel, by decide +kernel⟩
def mX9_peak : gM := (yX9_peak, cX9_peak, 5, (some .int), { frames := 6, cells := 0, slots := 0, locals := 159 }, [])
theorem zX9_peak : gZ mX9_peak 2 := ⟨gW_of 1206 (by decide +kernel) (by decide +kernel), wd_45, by decide +kernel, by decide +kernel, by decide +kernel⟩
def mX9_crossings : gM := (yX9_crossings, cX9_crossings, 7, (some .int), { frames := 6, cells := 0, slots := 0, locals := 159 }, [])
theorem zX9_crossings : gZ mX9_crossings 2 := ⟨gW_of 1225 (by decide +kernel) (by decide +kernel), wd_45, by decide +kernel, by decide +kernel, by decide +kernel⟩
def mX9_rhythm : gM := (yX9_rhythm, cX9_rhythm, 9, (some .int), { frames := 6, cells := 0, slots := 0, locals := 159 }, [])
theorem zX9_rhythm : gZ mX9_rhythm 2 := ⟨gW_of 1229 (by decide +kernel) (by decide +kernel), wd_45, by decide +kernel, by decide +kernel, by decide +kernel⟩
def mX9_isNode : gM := (yX9_isNode, cX9_isNode, 5, (some .boolean), { frames := 6, cells := 0, slots := 0, locals := 160 }, [])
theorem zX9_isNode : gZ mX9_isNode 4 := ⟨gW_of 1146 (by decide +kernel) (by decide +kernel), wd_45, by decide +kernel, by decide +kernel, by decide +kernel⟩
def mX9_nodes : gM := (yX9_nodes, cX9_nodes, 3, (some .int), { frames := 7, cells := 0, slots := 0, locals := 186 }, [])
theorem zX9_nodes : gZ mX9_nodes 2 := ⟨gW_of 659 (by decide +kernel) (by decide +kernel), wd_45, by decide +kernel, by decide +kernel, by decide +kernel⟩
def mX9_nodeGroups : gM := (yX9_nodeGroups, cX9_nodeGroups, 4, (some .int), { frames := 7, cells := 0, slots := 0, locals := 186 }, [])
theorem zX9_nodeGroups : gZ mX9_nodeGroups 2 := ⟨gW_of 1186 (by decide +kernel) (by decide +kernel), wd_45, by decide +kernel, by decide +kernel, by decide +kernel⟩
def mX9_energy : gM := (yX9_energy, cX9_energy, 4, (some .long), { frames := 6, cells := 0, slots := 0, locals := 163 }, [])
theorem zX9_energy : gZ mX9_energy 3 := ⟨gW_of 679 (by decide +kernel) (by decide +kernel), wd_45, by decide +kernel, by decide +kernel, by decide +kernel⟩
def mX9_rowEnergy : gM := (yX9_rowEnergy, cX9_rowEnergy, 6, (some .long), { frames := 6, cells := 0, slots := 0, locals := 163 }, [])
theorem zX9_rowEnergy : gZ mX9_rowEnergy 2 := ⟨gW_of 1174 (by decide +kernel) (by decide +kernel), wd_45, by decide +kernel, by decide +kernel, by decide +kernel⟩
def mX9_allEnergy : gM := (yX9_allEnergy, cX9_allEnergy, 5, (some .long), { frames := 7, cells := 0, slots := 0, locals := 185 }, [])
theorem zX9_allEnergy : gZ mX9_allEnergy 1 := ⟨gW_of 1178 (by decide +kernel) (by decide +kernel), wd_45, by decide +kernel, by decide +kernel, by decide +kernel⟩
def mX9_strongest : gM := (yX9_strongest, cX9_strongest, 5, (some .int), { frames := 7, cells := 0, slots := 0, locals := 185 }, [])
theorem zX9_strongest : gZ mX9_strongest 2 := ⟨gW_of 1237 (by decide +kernel) (by decide +kernel), wd_45, by decide +kernel, by decide +kernel, by decide +kernel⟩
def mX9_marks : gM := (yX9_marks, cX9_marks, 7, (some .int), { frames := 7, cells := 0, slots := 0, locals := 185 }, [])
theorem zX9_marks : gZ mX9_marks 2 := ⟨gW_of 1182 (by decide +kernel) (by decide +kernel), wd_45, by decide +kernel, by decide +kernel, by decide +kernel⟩
def mX9_isMark : gM := (yX9_isMark, cX9_isMark, 5, (some .boolean), { frames := 7, cells := 0, slots := 0, locals := 185 }, [])
theorem zX9_isMark : gZ mX9_isMark 4 := ⟨gW_of 1150 (by decide +kernel) (by decide +kernel), wd_45, by decide +kernel, by decide +kernel, by decide +kernel⟩
def mX9_nodesIfOff : gM := (yX9_nodesIfOff, cX9_nodesIfOff, 4, (some .int), { frames := 7, cells := 0, slots := 0, locals := 186 }, [])
theorem zX9_nodesIfOff : gZ mX9_nodesIfOff 3 := ⟨gW_of 687 (by decide +kernel) (by decide +kernel), wd_45, by decide +kernel, by decide +kernel, by decide +kernel⟩
def mX9_bestPhase : gM := (yX9_bestPhase, cX9_bestPhase, 11, (some .int), { frames := 6, cells := 0, slots := 0, locals := 163 }, [])
theorem zX9_bestPhase : gZ mX9_bestPhase 4 := ⟨gW_of 695 (by decide +kernel) (by decide +kernel), wd_45, by decide +kernel, by decide +kernel, by decide +kernel⟩
def mX9_energyIfTurned : gM := (yX9_energyIfTurned, cX9_energyIfTurned, 5, (some .long), { frames := 7, cells := 0, slots := 0, locals := 187 }, [])
theorem zX9_energyIfTurned : gZ mX9_energyIfTurned 4 := ⟨gW_of 699 (by decide +kernel) (by decide +kernel), wd_45, by decide +kernel, by decide +kernel, by decide +kernel⟩
def mX9_bestRow : gM := (yX9_bestRow, cX9_bestRow, 10, (some .int), { frames := 7, cells := 0, slots := 0, locals := 187 }, [])
theorem zX9_bestRow : gZ mX9_bestRow 3 := ⟨gW_of 712 (by decide +kernel) (by decide +kernel), wd_45, by decide +kernel, by decide +kernel, by decide +kernel⟩
def mX9_advance : gM := (yX9_advance, cX9_advance, 2, (some .int), { frames := 2, cells := 0, slots := 0, locals := 43 }, [])
theorem zX9_advance : gZ mX9_advance 1 := ⟨gW_of 716 (by decide +kernel) (by decide +kernel), wd_45, by decide +kernel, by decide +kernel, by decide +kernel⟩
def mX9_setOn : gM := (yX9_setOn, cX9_setOn, 4, (some .boolean), { frames := 2, cells := 0, slots := 0, locals := 43 }, [])
theorem zX9_setOn : gZ mX9_setOn 2 := ⟨gW_of 725 (by decide +kernel) (by decide +kernel), wd_45, by decide +kernel, by decide +kernel, by decide +kernel⟩
def mX9_setPhase : gM := (yX9_setPhase, cX9_setPhase, 4, (some .int), { frames := 2, cells := 0, slots := 0, locals := 43 }, [])
theorem zX9_setPhase : gZ mX9_setPhase 2 := ⟨gW_of 1098 (by decide +kernel) (by decide +kernel), wd_45, by decide +kernel, by decide +kernel, by decide +kernel⟩
def mX9_setAmp : gM := (yX9_setAmp, cX9_setAmp, 4, (some .int), { frames := 2, cells := 0, slots := 0, locals := 43 }, [])
theorem zX9_setAmp : gZ mX9_setAmp 2 := ⟨gW_of 729 (by decide +kernel) (by decide +kernel), wd_45, by decide +kernel, by decide +kernel, by decide +kernel⟩
def mX9_moveSource : gM := (yX9_moveSource, cX9_moveSource, 4, (some .int), { frames := 3, cells := 0, slots := 0, locals := 70 }, [])
theorem zX9_moveSource : gZ mX9_moveSource 3 := ⟨gW_of 733 (by decide +kernel) (by decide +kernel), wd_45, by decide +kernel, by decide +kernel, by decide +kernel⟩
def mX9_turnRow : gM := (yX9_turnRow, cX9_turnRow, 2, (some .boolean), { frames := 2, cells := 0, slots := 0, locals := 43 }, [])
theorem zX9_turnRow : gZ mX9_turnRow 1 := ⟨gW_of 745 (by decide +kernel) (by decide +kernel), wd_45, by decide +kernel, by decide +kernel, by decide +kernel⟩
def mX9_undo : gM := (yX9_undo, cX9_undo, 1, (some .int), { frames := 2, cells := 0, slots := 0, locals := 43 }, [])
theorem zX9_undo : gZ mX9_undo 0 := ⟨gW_of 750 (by decide +kernel) (by decide +kernel), wd_45, by decide +kernel, by decide +kernel, by decide +kernel⟩
def mX9_undoable : gM := (yX9_undoable, cX9_undoable, 1, (some .int), { frames := 0, cells := 0, slots := 0, locals := 0 }, [])
theorem zX9_undoable : gZ mX9_undoable 0 := ⟨gW_of 759 (by decide +kernel) (by decide +kernel), wd_45, by decide +kernel, by decide +kernel, by decide +kernel⟩
def mX9_save : gM := (yX9_save, cX9_save, 2, (some .int), { frames := 1, cells := 0, slots := 0, locals := 22 }, [])
theorem zX9_save : gZ mX9_save 1 := ⟨gW_of 763 (by decide +kernel) (by decide +kernel), wd_45, by decide +kernel, by decide +kernel, by decide +kernel⟩
def mX9_restore : gM := (yX9_restore, cX9_restore, 2, (some .int), { frames := 1, cells := 0, slots := 0, locals := 22 }, [])
theorem zX9_restore : gZ mX9_restore 1 := ⟨gW_of 771 (by decide +kernel) (by decide +kernel), wd_45, by decide +kernel, by decide +kernel, by decide +kernel⟩
def mX9_needTank : gM := (yX9_needTank, cX9_needTank, 1, none, { frames := 0, cells := 0, slots := 0, locals := 0 }, [])
theorem zX9_needTank : gZ mX9_needTank 0 := ⟨gW_of 416 (by decide +kernel) (by decide +kernel), wd_45, by decide +kernel, by decide +kernel, by decide +kernel⟩
def mX9_needSource : gM := (yX9_needSource, cX9_needSource, 2, none, { frames := 0, cells := 0, slots := 0, locals := 0 }, [])
theorem zX9_needSource : gZ mX9_needSource 1 := ⟨gW_of 515 (by decide +kernel) (by decide +kernel), wd_45, by decide +kernel, by decide +kernel, by decide +kernel⟩
def mX9_needGauge : gM := (yX9_needGauge, cX9_needGauge, 2, none, { frames := 0, cells := 0, slots := 0, locals := 0 }, [])
theorem zX9_needGauge : gZ mX9_needGauge 1 := ⟨gW_of 1210 (by decide +kernel) (by decide +kernel), wd_45, by decide +kernel, by decide +kernel, by decide +kernel⟩
def mX9_needColumn : gM := (yX9_needColumn, cX9_needColumn, 2, none, { frames := 0, cells := 0, slots := 0, locals := 0 }, [])
theorem zX9_needColumn : gZ mX9_needColumn 1 := ⟨gW_of 569 (by decide +kernel) (by decide +kernel), wd_45, by decide +kernel, by decide +kernel, by decide +kernel⟩
def mX9_needRow : gM := (yX9_needRow, cX9_needRow, 2, none, { frames := 0, cells := 0, slots := 0, locals := 0 }, [])
theorem zX9_needRow : gZ mX9_needRow 1 := ⟨gW_of 487 (by decide +kernel) (by decide +kernel), wd_45, by decide +kernel, by decide +kernel, by decide +kernel⟩
def mX9_needCell : gM := (yX9_needCell, cX9_needCell, 3, none, { frames := 1, cells := 0, slots := 0, locals := 21 }, [])
theorem zX9_needCell : gZ mX9_needCell 2 := ⟨gW_of 565 (by decide +kernel) (by decide +kernel), wd_45, by decide +kernel, by decide +kernel, by decide +kernel⟩
def mX9_needSlot : gM := (yX9_needSlot, cX9_needSlot, 1, none, { frames := 0, cells := 0, slots := 0, locals := 0 }, [])
theorem zX9_needSlot : gZ mX9_needSlot 1 := ⟨gW_of 766 (by decide +kernel) (by decide +kernel), wd_45, by decide +kernel, by decide +kernel, by decide +kernel⟩
def mX9_needTimes : gM := (yX9_needTimes, cX9_needTimes, 1, none, { frames := 1, cells := 0, slots := 0, locals := 22 }, [])
theorem zX9_needTimes : gZ mX9_needTimes 1 := ⟨gW_of 662 (by decide +kernel) (by decide +kernel), wd_45, by decide +kernel, by decide +kernel, by decide +kernel⟩
def mX9_needTolerance : gM := (yX9_needTolerance, cX9_needTolerance, 1, none, { frames := 1, cells := 0, slots := 0, locals := 22 }, [])
theorem zX9_needTolerance : gZ mX9_needTolerance 1 := ⟨gW_of 665 (by decide +kernel) (by decide +kernel), wd_45, by decide +kernel, by decide +kernel, by decide +kernel⟩
def mX9_needRange : gM := (yX9_needRange, cX9_needRange, 3, none, { frames := 0, cells := 0, slots := 0, locals := 0 }, [])
theorem zX9_needRange : gZ mX9_needRange 3 := ⟨gW_of 519 (by decide +kernel) (by decide +kernel), wd_45, by decide +kernel, by decide +kernel, by decide +kernel⟩
def mX9_putBytes : gM := (yX9_putBytes, cX9_putBytes, 3, none, { frames := 0, cells := 0, slots := 0, locals := 0 }, [])
theorem zX9_putBytes : gZ mX9_putBytes 1 := ⟨gW_of 807 (by decide +kernel) (by decide +kernel), wd_45, by decide +kernel, by decide +kernel, by decide +kernel⟩
def mX9_fillSeries : gM := (yX9_fillSeries, cX9_fillSeries, 6, none, { frames := 5, cells := 0, slots := 0, locals := 134 }, [])
theorem zX9_fillSeries : gZ mX9_fillSeries 2 := ⟨gW_of 1215 (by decide +kernel) (by decide +kernel), wd_45, by decide +kernel, by decide +kernel, by decide +kernel⟩
def mX9_laggedSum : gM := (yX9_laggedSum, cX9_laggedSum, 6, (some .long), { frames := 0, cells := 0, slots := 0, locals := 0 }, [])
theorem zX9_laggedSum : gZ mX9_laggedSum 2 := ⟨gW_of 1233 (by decide +kernel) (by decide +kernel), wd_45, by decide +kernel, by decide +kernel, by decide +kernel⟩
def mX9_calmColumns : gM := (yX9_calmColumns, cX9_calmColumns, 7, (some .int), { frames := 6, cells := 0, slots := 0, locals := 160 }, [])
theorem zX9_calmColumns : gZ mX9_calmColumns 4 := ⟨gW_of 1190 (by decide +kernel) (by decide +kernel), wd_45, by decide +kernel, by decide +kernel, by decide +kernel⟩
def mX9_countCalm : gM := (yX9_countCalm, cX9_countCalm, 7, (some .int), { frames := 6, cells := 0, slots := 0, locals := 160 }, [])
theorem zX9_countCalm : gZ mX9_countCalm 3 := ⟨gW_of 669 (by decide +kernel) (by decide +kernel), wd_45, by decide +kernel, by decide +kernel, by decide +kernel⟩
def mX9_fillEnergies : gM := (yX9_fillEnergies, cX9_fillEnergies, 3, none, { frames := 6, cells := 0, slots := 0, locals := 163 }, [])
theorem zX9_fillEnergies : gZ mX9_fillEnergies 1 := ⟨gW_of 1154 (by decide +kernel) (by decide +kernel), wd_45, by decide +kernel, by decide +kernel, by decide +kernel⟩
def mX9_greatestEnergy : gM := (yX9_greatestEnergy, cX9_greatestEnergy, 4, (some .long), { frames := 1, cells := 0, slots := 0, locals := 24 }, [])
theorem zX9_greatestEnergy : gZ mX9_greatestEnergy 0 := ⟨gW_of 1163 (by decide +kernel) (by decide +kernel), wd_45, by decide +kernel, by decide +kernel, by decide +kernel⟩
def mX9_countBefore : gM := (yX9_countBefore, cX9_countBefore, 5, (some .int), { frames := 1, cells := 0, slots := 0, locals := 20 }, [])
theorem zX9_countBefore : gZ mX9_countBefore 1 := ⟨gW_of 1242 (by decide +kernel) (by decide +kernel), wd_45, by decide +kernel, by decide +kernel, by decide +kernel⟩
def mX9_hasShare : gM := (yX9_hasShare, cX9_hasShare, 5, (some .boolean), { frames := 0, cells := 0, slots := 0, locals := 0 }, [])
theorem zX9_hasShare : gZ mX9_hasShare 3 := ⟨gW_of 1169 (by decide +kernel) (by decide +kernel), wd_45, by decide +kernel, by decide +kernel, by decide +kernel⟩
def mX9_turnedEnergy : gM := (yX9_turnedEnergy, cX9_turnedEnergy, 5, (some .long), { frames := 6, cells := 0, slots := 0, locals := 163 }, [])
theorem zX9_turnedEnergy : gZ mX9_turnedEnergy 4 := ⟨gW_of 703 (by decide +kernel) (by decide +kernel), wd_45, by decide +kernel, by decide +kernel, by decide +kernel⟩
def mJ6_numberOfLeadingZeros_0f7a4 : gM := (yJ6_numberOfLeadingZeros_0f7a4, cJ6_numberOfLeadingZeros_0f7a4, 2, (some .int), { frames := 0, cells := 0, slots := 0, locals := 0 }, [])
theorem zJ6_numberOfLeadingZeros_0f7a4 : gZ mJ6_numberOfLeadingZeros_0f7a4 1 := ⟨gW_of 1324 (by decide +kernel) (by decide +kernel), wd_67, by decide +kernel, by decide +kernel, by decide +kernel⟩
def mJ6_numberOfTrailingZeros_0f7a4 : gM := (yJ6_numberOfTrailingZeros_0f7a4, cJ6_numberOfTrailingZeros_0f7a4, 2, (some .int), { frames := 0, cells := 0, slots := 0, locals := 0 }, [])
theorem zJ6_numberOfTrailingZeros_0f7a4 : gZ mJ6_numberOfTrailingZeros_0f7a4 1 := ⟨gW_of 1333 (by decide +kernel) (by decide +kernel), wd_67, by decide +kernel, by decide +kernel, by decide +kernel⟩
def mJ6_bitCount_0f7a4 : gM := (yJ6_bitCount_0f7a4, cJ6_bitCount_0f7a4, 1, (some .int), { frames := 0, cells := 0, slots := 0, locals := 0 }, [])
theorem zJ6_bitCount_0f7a4 : gZ mJ6_bitCount_0f7a4 1 := ⟨gW_of 627 (by decide +kernel) (by decide +kernel), wd_67, by decide +kernel, by decide +kernel, by decide +kernel⟩
def mJ13_numberOfLeadingZeros_95d88 : gM := (yJ13_numberOfLeadingZeros_95d88, cJ13_numberOfLeadingZeros_95d88, 3, (some .int), { frames := 1, cells := 0, slots := 0, locals := 21 }, [])
theorem zJ13_numberOfLeadingZeros_95d88 : gZ mJ13_numberOfLeadingZeros_95d88 1 := ⟨gW_of 1321 (by decide +kernel) (by decide +kernel), wd_72, by decide +kernel, by decide +kernel, by decide +kernel⟩
def mJ13_numberOfTrailingZeros_95d88 : gM := (yJ13_numberOfTrailingZeros_95d88, cJ13_numberOfTrailingZeros_95d88, 3, (some .int), { frames := 1, cells := 0, slots := 0, locals := 21 }, [])
theorem zJ13_numberOfTrailingZeros_95d88 : gZ mJ13_numberOfTrailingZeros_95d88 1 := ⟨gW_of 1330 (by decide +kernel) (by decide +kernel), wd_72, by decide +kernel, by decide +kernel, by decide +kernel⟩
def mJ9_floorMod_7cf53 : gM := (yJ9_floorMod_7cf53, cJ9_floorMod_7cf53, 3, (some .int), { frames := 0, cells := 0, slots := 0, locals := 0 }, [])
theorem zJ9_floorMod_7cf53 : gZ mJ9_floorMod_7cf53 2 := ⟨gW_of 616 (by decide +kernel) (by decide +kernel), wd_54, by decide +kernel, by decide +kernel, by decide +kernel⟩
def mJ9_abs_0f7a4 : gM := (yJ9_abs_0f7a4, cJ9_abs_0f7a4, 1, (some .int), { frames := 0, cells := 0, slots := 0, locals := 0 }, [])
theorem zJ9_abs_0f7a4 : gZ mJ9_abs_0f7a4 1 := ⟨gW_of 596 (by decide +kernel) (by decide +kernel), wd_54, by decide +kernel, by decide +kernel, by decide +kernel⟩
def mJ9_max_7cf53 : gM := (yJ9_max_7cf53, cJ9_max_7cf53, 2, (some .int), { frames := 0, cells := 0, slots := 0, locals := 0 }, [])
theorem zJ9_max_7cf53 : gZ mJ9_max_7cf53 2 := ⟨gW_of 545 (by decide +kernel) (by decide +kernel), wd_54, by decide +kernel, by decide +kernel, by decide +kernel⟩
def mJ9_max_f86c9 : gM := (yJ9_max_f86c9, cJ9_max_f86c9, 4, (some .long), { frames := 0, cells := 0, slots := 0, locals := 0 }, [])
theorem zJ9_max_f86c9 : gZ mJ9_max_f86c9 2 := ⟨gW_of 1166 (by decide +kernel) (by decide +kernel), wd_54, by decide +kernel, by decide +kernel, by decide +kernel⟩
def mJ9_min_7cf53 : gM := (yJ9_min_7cf53, cJ9_min_7cf53, 2, (some .int), { frames := 0, cells := 0, slots := 0, locals := 0 }, [])
theorem zJ9_min_7cf53 : gZ mJ9_min_7cf53 2 := ⟨gW_of 542 (by decide +kernel) (by decide +kernel), wd_54, by decide +kernel, by decide +kernel, by decide +kernel⟩
def mJ0_length_8abf5 : gM := (yJ0_length_8abf5, cJ0_length_8abf5, 1, (some .int), { frames := 1, cells := 0, slots := 0, locals := 20 }, [])
theorem zJ0_length_8abf5 : gZ mJ0_length_8abf5 0 := ⟨gW_of 945 (by decide +kernel) (by decide +kernel), wd_60, by decide +kernel, by decide +kernel, by decide +kernel⟩
def mJ0_charAt_5068e : gM := (yJ0_charAt_5068e, cJ0_charAt_5068e, 2, (some .char), { frames := 4, cells := 0, slots := 0, locals := 85 }, [])
theorem zJ0_charAt_5068e : gZ mJ0_charAt_5068e 1 := ⟨gW_of 955 (by decide +kernel) (by decide +kernel), wd_60, by decide +kernel, by decide +kernel, by decide +kernel⟩
def mJ0_coder_7d493 : gM := (yJ0_coder_7d493, cJ0_coder_7d493, 1, (some .byte), { frames := 0, cells := 0, slots := 0, locals := 0 }, [])
theorem zJ0_coder_7d493 : gZ mJ0_coder_7d493 0 := ⟨gW_of 949 (by decide +kernel) (by decide +kernel), wd_60, by decide +kernel, by decide +kernel, by decide +kernel⟩
def mJ0_isLatin1_aae02 : gM := (yJ0_isLatin1_aae02, cJ0_isLatin1_aae02, 1, (some .boolean), { frames := 0, cells := 0, slots := 0, locals := 0 }, [])
theorem zJ0_isLatin1_aae02 : gZ mJ0_isLatin1_aae02 0 := ⟨gW_of 959 (by decide +kernel) (by decide +kernel), wd_60, by decide +kernel, by decide +kernel, by decide +kernel⟩
def mJ0_checkIndex_df160 : gM := (yJ0_checkIndex_df160, cJ0_checkIndex_df160, 2, none, { frames := 1, cells := 0, slots := 0, locals := 22 }, [])
theorem zJ0_checkIndex_df160 : gZ mJ0_checkIndex_df160 2 := ⟨gW_of 965 (by decide +kernel) (by decide +kernel), wd_60, by decide +kernel, by decide +kernel, by decide +kernel⟩
def mJ1_charAt_3b067 : gM := (yJ1_charAt_3b067, cJ1_charAt_3b067, 2, (some .char), { frames := 2, cells := 0, slots := 0, locals := 43 }, [])
theorem zJ1_charAt_3b067 : gZ mJ1_charAt_3b067 2 := ⟨gW_of 962 (by decide +kernel) (by decide +kernel), wd_61, by decide +kernel, by decide +kernel, by decide +kernel⟩
def mJ2_getChar_3b067 : gM := (yJ2_getChar_3b067, cJ2_getChar_3b067, 2, (some .char), { frames := 1, cells := 0, slots := 0, locals := 20 }, [])
theorem zJ2_getChar_3b067 : gZ mJ2_getChar_3b067 2 := ⟨gW_of 983 (by decide +kernel) (by decide +kernel), wd_63, by decide +kernel, by decide +kernel, by decide +kernel⟩
def mJ2_length_9d52b : gM := (yJ2_length_9d52b, cJ2_length_9d52b, 1, (some .int), { frames := 0, cells := 0, slots := 0, locals := 0 }, [])
theorem zJ2_length_9d52b : gZ mJ2_length_9d52b 1 := ⟨gW_of 979 (by decide +kernel) (by decide +kernel), wd_63, by decide +kernel, by decide +kernel, by decide +kernel⟩
def mJ2_charAt_3b067 : gM := (yJ2_charAt_3b067, cJ2_charAt_3b067, 2, (some .char), { frames := 3, cells := 0, slots := 0, locals := 64 }, [])
theorem zJ2_charAt_3b067 : gZ mJ2_charAt_3b067 2 := ⟨gW_of 973 (by decide +kernel) (by decide +kernel), wd_63, by decide +kernel, by decide +kernel, by decide +kernel⟩
def mJ2_checkIndex_2214a : gM := (yJ2_checkIndex_2214a, cJ2_checkIndex_2214a, 2, none, { frames := 2, cells := 0, slots := 0, locals := 43 }, [])
theorem zJ2_checkIndex_2214a : gZ mJ2_checkIndex_2214a 2 := ⟨gW_of 976 (by decide +kernel) (by decide +kernel), wd_63, by decide +kernel, by decide +kernel, by decide +kernel⟩
def mJ7_equals_331f6 : gM := (yJ7_equals_331f6, cJ7_equals_331f6, 3, (some .boolean), { frames := 5, cells := 0, slots := 0, locals := 128 }, [])
theorem zJ7_equals_331f6 : gZ mJ7_equals_331f6 2 := ⟨gW_of 1252 (by decide +kernel) (by decide +kernel), wd_68, by decide +kernel, by decide +kernel, by decide +kernel⟩
def mJx9a822_getLongUnaligned_f02c6 : gM := (yJx9a822_getLongUnaligned_f02c6, cJx9a822_getLongUnaligned_f02c6, 4, (some .long), { frames := 1, cells := 0, slots := 0, locals := 25 }, [])
theorem zJx9a822_getLongUnaligned_f02c6 : gZ mJx9a822_getLongUnaligned_f02c6 2 := ⟨gW_of 1268 (by decide +kernel) (by decide +kernel), wd_70, by decide +kernel, by decide +kernel, by decide +kernel⟩
def mJx9a822_getIntUnaligned_25a47 : gM := (yJx9a822_getIntUnaligned_25a47, cJx9a822_getIntUnaligned_25a47, 4, (some .int), { frames := 2, cells := 0, slots := 0, locals := 44 }, [])
theorem zJx9a822_getIntUnaligned_25a47 : gZ mJx9a822_getIntUnaligned_25a47 2 := ⟨gW_of 1339 (by decide +kernel) (by decide +kernel), wd_70, by decide +kernel, by decide +kernel, by decide +kernel⟩
def mJx9a822_pickPos_7cf53 : gM := (yJx9a822_pickPos_7cf53, cJx9a822_pickPos_7cf53, 2, (some .int), { frames := 0, cells := 0, slots := 0, locals := 0 }, [])
theorem zJx9a822_pickPos_7cf53 : gZ mJx9a822_pickPos_7cf53 2 := ⟨gW_of 1289 (by decide +kernel) (by decide +kernel), wd_70, by decide +kernel, by decide +kernel, by decide +kernel⟩
def mJx9a822_makeLong_0477f : gM := (yJx9a822_makeLong_0477f, cJx9a822_makeLong_0477f, 8, (some .long), { frames := 1, cells := 0, slots := 0, locals := 21 }, [])
theorem zJx9a822_makeLong_0477f : gZ mJx9a822_makeLong_0477f 8 := ⟨gW_of 1312 (by decide +kernel) (by decide +kernel), wd_70, by decide +kernel, by decide +kernel, by decide +kernel⟩
def mJx9a822_makeLong_4b46d : gM := (yJx9a822_makeLong_4b46d, cJx9a822_makeLong_4b46d, 4, (some .long), { frames := 1, cells := 0, slots := 0, locals := 21 }, [])
theorem zJx9a822_makeLong_4b46d : gZ mJx9a822_makeLong_4b46d 4 := ⟨gW_of 1300 (by decide +kernel) (by decide +kernel), wd_70, by decide +kernel, by decide +kernel, by decide +kernel⟩
def mJx9a822_makeLong_a216e : gM := (yJx9a822_makeLong_a216e, cJx9a822_makeLong_a216e, 2, (some .long), { frames := 1, cells := 0, slots := 0, locals := 21 }, [])
theorem zJx9a822_makeLong_a216e : gZ mJx9a822_makeLong_a216e 2 := ⟨gW_of 1282 (by decide +kernel) (by decide +kernel), wd_70, by decide +kernel, by decide +kernel, by decide +kernel⟩
def mJx9a822_makeInt_4e28c : gM := (yJx9a822_makeInt_4e28c, cJx9a822_makeInt_4e28c, 2, (some .int), { frames := 1, cells := 0, slots := 0, locals := 21 }, [])
theorem zJx9a822_makeInt_4e28c : gZ mJx9a822_makeInt_4e28c 2 := ⟨gW_of 1342 (by decide +kernel) (by decide +kernel), wd_70, by decide +kernel, by decide +kernel, by decide +kernel⟩
def mJx9a822_makeInt_86272 : gM := (yJx9a822_makeInt_86272, cJx9a822_makeInt_86272, 4, (some .int), { frames := 1, cells := 0, slots := 0, locals := 21 }, [])
theorem zJx9a822_makeInt_86272 : gZ mJx9a822_makeInt_86272 4 := ⟨gW_of 1349 (by decide +kernel) (by decide +kernel), wd_70, by decide +kernel, by decide +kernel, by decide +kernel⟩
def mJx9a822_toUnsignedInt_4d018 : gM := (yJx9a822_toUnsignedInt_4d018, cJx9a822_toUnsignedInt_4d018, 1, (some .int), { frames := 0, cells := 0, slots := 0, locals := 0 }, [])
theorem zJx9a822_toUnsignedInt_4d018 : gZ mJx9a822_toUnsignedInt_4d018 1 := ⟨gW_of 1352 (by decide +kernel) (by decide +kernel), wd_70, by decide +kernel, by decide +kernel, by decide +kernel⟩
def mJx9a822_toUnsignedInt_f1ed4 : gM := (yJx9a822_toUnsignedInt_f1ed4, cJx9a822_toUnsignedInt_f1ed4, 1, (some .int), { frames := 0, cells := 0, slots := 0, locals := 0 }, [])
theorem zJx9a822_toUnsignedInt_f1ed4 : gZ mJx9a822_toUnsignedInt_f1ed4 1 := ⟨gW_of 1345 (by decide +kernel) (by decide +kernel), wd_70, by decide +kernel, by decide +kernel, by decide +kernel⟩
def mJx9a822_toUnsignedLong_c5be9 : gM := (yJx9a822_toUnsignedLong_c5be9, cJx9a822_toUnsignedLong_c5be9, 1, (some .long), { frames := 0, cells := 0, slots := 0, locals := 0 }, [])
theorem zJx9a822_toUnsignedLong_c5be9 : gZ mJx9a822_toUnsignedLong_c5be9 1 := ⟨gW_of 1315 (by decide +kernel) (by decide +kernel), wd_70, by decide +kernel, by decide +kernel, by decide +kernel⟩
def mJx9a822_toUnsignedLong_51cfc : gM := (yJx9a822_toUnsignedLong_51cfc, cJx9a822_toUnsignedLong_51cfc, 1, (some .long), { frames := 0, cells := 0, slots := 0, locals := 0 }, [])
theorem zJx9a822_toUnsignedLong_51cfc : gZ mJx9a822_toUnsignedLong_51cfc 1 := ⟨gW_of 1303 (by decide +kernel) (by decide +kernel), wd_70, by decide +kernel, by decide +kernel, by decide +kernel⟩
def mJx9a822_toUnsignedLong_3e8ac : gM := (yJx9a822_toUnsignedLong_3e8ac, cJx9a822_toUnsignedLong_3e8ac, 1, (some .long), { frames := 0, cells := 0, slots := 0, locals := 0 }, [])
theorem zJx9a822_toUnsignedLong_3e8ac : gZ mJx9a822_toUnsignedLong_3e8ac 1 := ⟨gW_of 1285 (by decide +kernel) (by decide +kernel), wd_70, by decide +kernel, by decide +kernel, by decide +kernel⟩
def mJ8_vectorizedMismatch_456ae : gM := (yJ8_vectorizedMismatch_456ae, cJ8_vectorizedMismatch_456ae, 19, (some .int), { frames := 3, cells := 0, slots := 0, locals := 67 }, [])
theorem zJ8_vectorizedMismatch_456ae : gZ mJ8_vectorizedMismatch_456ae 6 := ⟨gW_of 1262 (by decide +kernel) (by decide +kernel), wd_69, by decide +kernel, by decide +kernel, by decide +kernel⟩
def mJ8_mismatch_974f6 : gM := (yJ8_mismatch_974f6, cJ8_mismatch_974f6, 4, (some .int), { frames := 4, cells := 0, slots := 0, locals := 105 }, [])
theorem zJ8_mismatch_974f6 : gZ mJ8_mismatch_974f6 3 := ⟨gW_of 1255 (by decide +kernel) (by decide +kernel), wd_69, by decide +kernel, by decide +kernel, by decide +kernel⟩
def mJ3_checkIndex_8e157 : gM := (yJ3_checkIndex_8e157, cJ3_checkIndex_8e157, 3, (some .int), { frames := 0, cells := 0, slots := 0, locals := 0 }, [])
theorem zJ3_checkIndex_8e157 : gZ mJ3_checkIndex_8e157 3 := ⟨gW_of 970 (by decide +kernel) (by decide +kernel), wd_62, by decide +kernel, by decide +kernel, by decide +kernel⟩
def mL_put : gM := (yL_put, cL_put, 4, none, { frames := 3, cells := 0, slots := 0, locals := 69 }, [])
theorem zL_put : gZ mL_put 3 := ⟨gW_of 796 (by decide +kernel) (by decide +kernel), wd_44, by decide +kernel, by decide +kernel, by decide +kernel⟩
def mL_flush : gM := (yL_flush, cL_flush, 3, none, { frames := 2, cells := 0, slots := 0, locals := 47 }, [])
theorem zL_flush : gZ mL_flush 2 := ⟨gW_of 799 (by decide +kernel) (by decide +kernel), wd_44, by decide +kernel, by decide +kernel, by decide +kernel⟩
def mL_say : gM := (yL_say, cL_say, 5, none, { frames := 4, cells := 0, slots := 0, locals := 92 }, [])
theorem zL_say : gZ mL_say 3 := ⟨gW_of 792 (by decide +kernel) (by decide +kernel), wd_44, by decide +kernel, by decide +kernel, by decide +kernel⟩
def mL_said : gM := (yL_said, cL_said, 3, (some .int), { frames := 4, cells := 0, slots := 0, locals := 92 }, [])
theorem zL_said : gZ mL_said 2 := ⟨gW_of 845 (by decide +kernel) (by decide +kernel), wd_44, by decide +kernel, by decide +kernel, by decide +kernel⟩
def mL_number : gM := (yL_number, cL_number, 5, none, { frames := 4, cells := 0, slots := 0, locals := 92 }, [])
theorem zL_number : gZ mL_number 3 := ⟨gW_of 814 (by decide +kernel) (by decide +kernel), wd_44, by decide +kernel, by decide +kernel, by decide +kernel⟩
def mL_cell : gM := (yL_cell, cL_cell, 2, (some .int), { frames := 0, cells := 0, slots := 0, locals := 0 }, [])
theorem zL_cell : gZ mL_cell 2 := ⟨gW_of 779 (by decide +kernel) (by decide +kernel), wd_44, by decide +kernel, by decide +kernel, by decide +kernel⟩
def mL_drawn : gM := (yL_drawn, cL_drawn, 5, (some (.array .int)), { frames := 2, cells := 1, slots := 90, locals := 45 }, [])
theorem zL_drawn : gZ mL_drawn 1 := ⟨gW_of 782 (by decide +kernel) (by decide +kernel), wd_44, by decide +kernel, by decide +kernel, by decide +kernel⟩
def mL_furnished : gM := (yL_furnished, cL_furnished, 5, (some (.array .int)), { frames := 1, cells := 0, slots := 0, locals := 21 }, [])
theorem zL_furnished : gZ mL_furnished 2 := ⟨gW_of 785 (by decide +kernel) (by decide +kernel), wd_44, by decide +kernel, by decide +kernel, by decide +kernel⟩
def mL_part : gM := (yL_part, cL_part, 3, none, { frames := 5, cells := 0, slots := 0, locals := 116 }, [])
theorem zL_part : gZ mL_part 3 := ⟨gW_of 811 (by decide +kernel) (by decide +kernel), wd_44, by decide +kernel, by decide +kernel, by decide +kernel⟩
def mL_says : gM := (yL_says, cL_says, 4, (some .int), { frames := 11, cells := 1, slots := 14, locals := 238 }, [])
theorem zL_says : gZ mL_says 3 := ⟨gW_of 788 (by decide +kernel) (by decide +kernel), wd_44, by decide +kernel, by decide +kernel, by decide +kernel⟩
def mL_furniture : gM := (yL_furniture, cL_furniture, 5, none, { frames := 6, cells := 0, slots := 0, locals := 138 }, [])
theorem zL_furniture : gZ mL_furniture 3 := ⟨gW_of 834 (by decide +kernel) (by decide +kernel), wd_44, by decide +kernel, by decide +kernel, by decide +kernel⟩
def mL_train : gM := (yL_train, cL_train, 6, none, { frames := 6, cells := 0, slots := 0, locals := 138 }, [])
theorem zL_train : gZ mL_train 4 := ⟨gW_of 823 (by decide +kernel) (by decide +kernel), wd_44, by decide +kernel, by decide +kernel, by decide +kernel⟩
def mL_shoaled : gM := (yL_shoaled, cL_shoaled, 6, (some .int), { frames := 0, cells := 0, slots := 0, locals := 0 }, [])
theorem zL_shoaled : gZ mL_shoaled 4 := ⟨gW_of 1142 (by decide +kernel) (by decide +kernel), wd_44, by decide +kernel, by decide +kernel, by decide +kernel⟩
def mL_isBest : gM := (yL_isBest, cL_isBest, 12, (some .boolean), { frames := 7, cells := 0, slots := 0, locals := 186 }, [])
theorem zL_isBest : gZ mL_isBest 6 := ⟨gW_of 1094 (by decide +kernel) (by decide +kernel), wd_44, by decide +kernel, by decide +kernel, by decide +kernel⟩
def mL_isRight : gM := (yL_isRight, cL_isRight, 19, (some .boolean), { frames := 8, cells := 0, slots := 0, locals := 211 }, [])
def mL_seen : gM := (yL_seen, cL_seen, 5, (some (.array .long)), { frames := 8, cells := 1, slots := 80, locals := 209 }, [])
