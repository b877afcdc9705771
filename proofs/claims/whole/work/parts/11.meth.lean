def mX0_init : gM := (yX0_init, cX0_init, 2, none, { frames := 2, cells := 65, slots := 304, locals := 40 }, [])
theorem zX0_init : gZ mX0_init 0 := ⟨gW_of 216 (by decide +kernel) (by decide +kernel), wd_119, by decide +kernel, by decide +kernel, by decide +kernel⟩
def mX0_clear : gM := (yX0_clear, cX0_clear, 1, none, { frames := 0, cells := 0, slots := 0, locals := 0 }, [])
theorem zX0_clear : gZ mX0_clear 0 := ⟨gW_of 860 (by decide +kernel) (by decide +kernel), wd_119, by decide +kernel, by decide +kernel, by decide +kernel⟩
def mX0_keep : gM := (yX0_keep, cX0_keep, 2, none, { frames := 1, cells := 0, slots := 0, locals := 22 }, [])
theorem zX0_keep : gZ mX0_keep 1 := ⟨gW_of 1434 (by decide +kernel) (by decide +kernel), wd_119, by decide +kernel, by decide +kernel, by decide +kernel⟩
def mX0_takeBack : gM := (yX0_takeBack, cX0_takeBack, 2, none, { frames := 1, cells := 0, slots := 0, locals := 22 }, [])
theorem zX0_takeBack : gZ mX0_takeBack 1 := ⟨gW_of 1495 (by decide +kernel) (by decide +kernel), wd_119, by decide +kernel, by decide +kernel, by decide +kernel⟩
def mX1_init : gM := (yX1_init, cX1_init, 1, none, { frames := 1, cells := 2, slots := 170, locals := 20 }, [])
theorem zX1_init : gZ mX1_init 0 := ⟨gW_of 251 (by decide +kernel) (by decide +kernel), wd_121, by decide +kernel, by decide +kernel, by decide +kernel⟩
def mX1_countGroups : gM := (yX1_countGroups, cX1_countGroups, 6, (some .int), { frames := 2, cells := 0, slots := 0, locals := 51 }, [])
theorem zX1_countGroups : gZ mX1_countGroups 2 := ⟨gW_of 1243 (by decide +kernel) (by decide +kernel), wd_121, by decide +kernel, by decide +kernel, by decide +kernel⟩
def mX1_removeGroup : gM := (yX1_removeGroup, cX1_removeGroup, 8, none, { frames := 1, cells := 0, slots := 0, locals := 24 }, [])
theorem zX1_removeGroup : gZ mX1_removeGroup 4 := ⟨gW_of 1247 (by decide +kernel) (by decide +kernel), wd_121, by decide +kernel, by decide +kernel, by decide +kernel⟩
def mX1_gather : gM := (yX1_gather, cX1_gather, 5, none, { frames := 0, cells := 0, slots := 0, locals := 0 }, [])
theorem zX1_gather : gZ mX1_gather 4 := ⟨gW_of 1251 (by decide +kernel) (by decide +kernel), wd_121, by decide +kernel, by decide +kernel, by decide +kernel⟩
def mX2_init : gM := (yX2_init, cX2_init, 1, none, { frames := 1, cells := 1, slots := 256, locals := 20 }, [])
theorem zX2_init : gZ mX2_init 0 := ⟨gW_of 236 (by decide +kernel) (by decide +kernel), wd_120, by decide +kernel, by decide +kernel, by decide +kernel⟩
def mX2_put : gM := (yX2_put, cX2_put, 2, none, { frames := 0, cells := 0, slots := 0, locals := 0 }, [])
theorem zX2_put : gZ mX2_put 1 := ⟨gW_of 1357 (by decide +kernel) (by decide +kernel), wd_120, by decide +kernel, by decide +kernel, by decide +kernel⟩
def mX2_putNumber : gM := (yX2_putNumber, cX2_putNumber, 5, none, { frames := 1, cells := 0, slots := 0, locals := 24 }, [])
theorem zX2_putNumber : gZ mX2_putNumber 1 := ⟨gW_of 1361 (by decide +kernel) (by decide +kernel), wd_120, by decide +kernel, by decide +kernel, by decide +kernel⟩
def mX3_init : gM := (yX3_init, cX3_init, 5, none, { frames := 1, cells := 0, slots := 0, locals := 20 }, [])
theorem zX3_init : gZ mX3_init 4 := ⟨gW_of 601 (by decide +kernel) (by decide +kernel), wd_131, by decide +kernel, by decide +kernel, by decide +kernel⟩
def mX3_readText : gM := (yX3_readText, cX3_readText, 2, none, { frames := 9, cells := 0, slots := 0, locals := 193 }, [])
theorem zX3_readText : gZ mX3_readText 0 := ⟨gW_of 651 (by decide +kernel) (by decide +kernel), wd_131, by decide +kernel, by decide +kernel, by decide +kernel⟩
def mX3_readHead : gM := (yX3_readHead, cX3_readHead, 4, none, { frames := 8, cells := 0, slots := 0, locals := 170 }, [])
theorem zX3_readHead : gZ mX3_readHead 0 := ⟨gW_of 674 (by decide +kernel) (by decide +kernel), wd_131, by decide +kernel, by decide +kernel, by decide +kernel⟩
def mX3_readLine : gM := (yX3_readLine, cX3_readLine, 1, none, { frames := 8, cells := 0, slots := 0, locals := 173 }, [])
theorem zX3_readLine : gZ mX3_readLine 0 := ⟨gW_of 755 (by decide +kernel) (by decide +kernel), wd_131, by decide +kernel, by decide +kernel, by decide +kernel⟩
def mX3_readTrain : gM := (yX3_readTrain, cX3_readTrain, 5, none, { frames := 7, cells := 0, slots := 0, locals := 149 }, [])
theorem zX3_readTrain : gZ mX3_readTrain 0 := ⟨gW_of 760 (by decide +kernel) (by decide +kernel), wd_131, by decide +kernel, by decide +kernel, by decide +kernel⟩
def mX3_readDrift : gM := (yX3_readDrift, cX3_readDrift, 4, none, { frames := 4, cells := 0, slots := 0, locals := 90 }, [])
theorem zX3_readDrift : gZ mX3_readDrift 0 := ⟨gW_of 779 (by decide +kernel) (by decide +kernel), wd_131, by decide +kernel, by decide +kernel, by decide +kernel⟩
def mX3_readSlit : gM := (yX3_readSlit, cX3_readSlit, 5, none, { frames := 3, cells := 0, slots := 0, locals := 68 }, [])
theorem zX3_readSlit : gZ mX3_readSlit 0 := ⟨gW_of 792 (by decide +kernel) (by decide +kernel), wd_131, by decide +kernel, by decide +kernel, by decide +kernel⟩
def mX3_readOff : gM := (yX3_readOff, cX3_readOff, 2, none, { frames := 4, cells := 0, slots := 0, locals := 89 }, [])
theorem zX3_readOff : gZ mX3_readOff 0 := ⟨gW_of 797 (by decide +kernel) (by decide +kernel), wd_131, by decide +kernel, by decide +kernel, by decide +kernel⟩
def mX3_readMirror : gM := (yX3_readMirror, cX3_readMirror, 3, none, { frames := 7, cells := 0, slots := 0, locals := 149 }, [])
theorem zX3_readMirror : gZ mX3_readMirror 0 := ⟨gW_of 802 (by decide +kernel) (by decide +kernel), wd_131, by decide +kernel, by decide +kernel, by decide +kernel⟩
def mX3_readCut : gM := (yX3_readCut, cX3_readCut, 4, none, { frames := 4, cells := 0, slots := 0, locals := 89 }, [])
theorem zX3_readCut : gZ mX3_readCut 0 := ⟨gW_of 815 (by decide +kernel) (by decide +kernel), wd_131, by decide +kernel, by decide +kernel, by decide +kernel⟩
def mX3_readShape : gM := (yX3_readShape, cX3_readShape, 3, none, { frames := 7, cells := 0, slots := 0, locals := 149 }, [])
theorem zX3_readShape : gZ mX3_readShape 0 := ⟨gW_of 824 (by decide +kernel) (by decide +kernel), wd_131, by decide +kernel, by decide +kernel, by decide +kernel⟩
def mX3_readShoal : gM := (yX3_readShoal, cX3_readShoal, 2, none, { frames := 4, cells := 0, slots := 0, locals := 89 }, [])
theorem zX3_readShoal : gZ mX3_readShoal 0 := ⟨gW_of 831 (by decide +kernel) (by decide +kernel), wd_131, by decide +kernel, by decide +kernel, by decide +kernel⟩
def mX3_readGauge : gM := (yX3_readGauge, cX3_readGauge, 1, none, { frames := 4, cells := 0, slots := 0, locals := 89 }, [])
theorem zX3_readGauge : gZ mX3_readGauge 0 := ⟨gW_of 836 (by decide +kernel) (by decide +kernel), wd_131, by decide +kernel, by decide +kernel, by decide +kernel⟩
def mX3_startCounted : gM := (yX3_startCounted, cX3_startCounted, 3, (some .boolean), { frames := 2, cells := 0, slots := 0, locals := 45 }, [])
theorem zX3_startCounted : gZ mX3_startCounted 2 := ⟨gW_of 764 (by decide +kernel) (by decide +kernel), wd_131, by decide +kernel, by decide +kernel, by decide +kernel⟩
def mX3_readColumn : gM := (yX3_readColumn, cX3_readColumn, 2, (some .int), { frames := 3, cells := 0, slots := 0, locals := 68 }, [])
theorem zX3_readColumn : gZ mX3_readColumn 1 := ⟨gW_of 768 (by decide +kernel) (by decide +kernel), wd_131, by decide +kernel, by decide +kernel, by decide +kernel⟩
def mX3_readRow : gM := (yX3_readRow, cX3_readRow, 2, (some .int), { frames := 3, cells := 0, slots := 0, locals := 68 }, [])
theorem zX3_readRow : gZ mX3_readRow 1 := ⟨gW_of 772 (by decide +kernel) (by decide +kernel), wd_131, by decide +kernel, by decide +kernel, by decide +kernel⟩
def mX3_readSource : gM := (yX3_readSource, cX3_readSource, 2, (some .int), { frames := 3, cells := 0, slots := 0, locals := 68 }, [])
theorem zX3_readSource : gZ mX3_readSource 1 := ⟨gW_of 783 (by decide +kernel) (by decide +kernel), wd_131, by decide +kernel, by decide +kernel, by decide +kernel⟩
def mX3_readSide : gM := (yX3_readSide, cX3_readSide, 2, (some .int), { frames := 6, cells := 0, slots := 0, locals := 128 }, [])
theorem zX3_readSide : gZ mX3_readSide 0 := ⟨gW_of 806 (by decide +kernel) (by decide +kernel), wd_131, by decide +kernel, by decide +kernel, by decide +kernel⟩
def mX3_readSigned : gM := (yX3_readSigned, cX3_readSigned, 3, (some .int), { frames := 3, cells := 0, slots := 0, locals := 68 }, [])
theorem zX3_readSigned : gZ mX3_readSigned 0 := ⟨gW_of 787 (by decide +kernel) (by decide +kernel), wd_131, by decide +kernel, by decide +kernel, by decide +kernel⟩
def mX3_readNumber : gM := (yX3_readNumber, cX3_readNumber, 4, (some .int), { frames := 2, cells := 0, slots := 0, locals := 45 }, [])
theorem zX3_readNumber : gZ mX3_readNumber 2 := ⟨gW_of 744 (by decide +kernel) (by decide +kernel), wd_131, by decide +kernel, by decide +kernel, by decide +kernel⟩
def mX3_readWord : gM := (yX3_readWord, cX3_readWord, 2, none, { frames := 7, cells := 0, slots := 0, locals := 149 }, [])
theorem zX3_readWord : gZ mX3_readWord 1 := ⟨gW_of 679 (by decide +kernel) (by decide +kernel), wd_131, by decide +kernel, by decide +kernel, by decide +kernel⟩
def mX3_takeWord : gM := (yX3_takeWord, cX3_takeWord, 2, (some .boolean), { frames := 6, cells := 0, slots := 0, locals := 128 }, [])
theorem zX3_takeWord : gZ mX3_takeWord 1 := ⟨gW_of 683 (by decide +kernel) (by decide +kernel), wd_131, by decide +kernel, by decide +kernel, by decide +kernel⟩
def mX3_takeSemicolon : gM := (yX3_takeSemicolon, cX3_takeSemicolon, 1, (some .boolean), { frames := 2, cells := 0, slots := 0, locals := 45 }, [])
theorem zX3_takeSemicolon : gZ mX3_takeSemicolon 0 := ⟨gW_of 751 (by decide +kernel) (by decide +kernel), wd_131, by decide +kernel, by decide +kernel, by decide +kernel⟩
def mX3_isWord : gM := (yX3_isWord, cX3_isWord, 3, (some .boolean), { frames := 5, cells := 0, slots := 0, locals := 106 }, [])
theorem zX3_isWord : gZ mX3_isWord 1 := ⟨gW_of 687 (by decide +kernel) (by decide +kernel), wd_131, by decide +kernel, by decide +kernel, by decide +kernel⟩
def mX3_fail : gM := (yX3_fail, cX3_fail, 2, none, { frames := 0, cells := 0, slots := 0, locals := 0 }, [])
theorem zX3_fail : gZ mX3_fail 1 := ⟨gW_of 739 (by decide +kernel) (by decide +kernel), wd_131, by decide +kernel, by decide +kernel, by decide +kernel⟩
def mX3_nextToken : gM := (yX3_nextToken, cX3_nextToken, 3, none, { frames := 1, cells := 0, slots := 0, locals := 23 }, [])
theorem zX3_nextToken : gZ mX3_nextToken 0 := ⟨gW_of 659 (by decide +kernel) (by decide +kernel), wd_131, by decide +kernel, by decide +kernel, by decide +kernel⟩
def mX3_countRun : gM := (yX3_countRun, cX3_countRun, 4, (some .int), { frames := 0, cells := 0, slots := 0, locals := 0 }, [])
theorem zX3_countRun : gZ mX3_countRun 2 := ⟨gW_of 663 (by decide +kernel) (by decide +kernel), wd_131, by decide +kernel, by decide +kernel, by decide +kernel⟩
def mX3_numberAtStart : gM := (yX3_numberAtStart, cX3_numberAtStart, 3, (some .int), { frames := 0, cells := 0, slots := 0, locals := 0 }, [])
theorem zX3_numberAtStart : gZ mX3_numberAtStart 0 := ⟨gW_of 667 (by decide +kernel) (by decide +kernel), wd_131, by decide +kernel, by decide +kernel, by decide +kernel⟩
def mX3_kindOfSign : gM := (yX3_kindOfSign, cX3_kindOfSign, 1, (some .int), { frames := 0, cells := 0, slots := 0, locals := 0 }, [])
theorem zX3_kindOfSign : gZ mX3_kindOfSign 1 := ⟨gW_of 670 (by decide +kernel) (by decide +kernel), wd_131, by decide +kernel, by decide +kernel, by decide +kernel⟩
def mX4_init : gM := (yX4_init, cX4_init, 3, none, { frames := 1, cells := 1, slots := 640, locals := 22 }, [])
theorem zX4_init : gZ mX4_init 0 := ⟨gW_of 268 (by decide +kernel) (by decide +kernel), wd_122, by decide +kernel, by decide +kernel, by decide +kernel⟩
def mX4_between : gM := (yX4_between, cX4_between, 3, (some .int), { frames := 1, cells := 0, slots := 0, locals := 24 }, [])
theorem zX4_between : gZ mX4_between 2 := ⟨gW_of 989 (by decide +kernel) (by decide +kernel), wd_122, by decide +kernel, by decide +kernel, by decide +kernel⟩
def mX4_root : gM := (yX4_root, cX4_root, 3, (some .int), { frames := 0, cells := 0, slots := 0, locals := 0 }, [])
theorem zX4_root : gZ mX4_root 1 := ⟨gW_of 272 (by decide +kernel) (by decide +kernel), wd_122, by decide +kernel, by decide +kernel, by decide +kernel⟩
def mX5_init : gM := (yX5_init, cX5_init, 1, none, { frames := 1, cells := 0, slots := 0, locals := 20 }, [])
theorem zX5_init : gZ mX5_init 0 := ⟨gW_of 344 (by decide +kernel) (by decide +kernel), wd_125, by decide +kernel, by decide +kernel, by decide +kernel⟩
def mX5_holds : gM := (yX5_holds, cX5_holds, 3, (some .boolean), { frames := 0, cells := 0, slots := 0, locals := 0 }, [])
theorem zX5_holds : gZ mX5_holds 2 := ⟨gW_of 1134 (by decide +kernel) (by decide +kernel), wd_125, by decide +kernel, by decide +kernel, by decide +kernel⟩
def mX6_init : gM := (yX6_init, cX6_init, 1, none, { frames := 1, cells := 7, slots := 28, locals := 20 }, [])
theorem zX6_init : gZ mX6_init 0 := ⟨gW_of 152 (by decide +kernel) (by decide +kernel), wd_118, by decide +kernel, by decide +kernel, by decide +kernel⟩
def mX6_copyFrom : gM := (yX6_copyFrom, cX6_copyFrom, 3, none, { frames := 0, cells := 0, slots := 0, locals := 0 }, [])
theorem zX6_copyFrom : gZ mX6_copyFrom 1 := ⟨gW_of 856 (by decide +kernel) (by decide +kernel), wd_118, by decide +kernel, by decide +kernel, by decide +kernel⟩
def mX6_hasOpen : gM := (yX6_hasOpen, cX6_hasOpen, 2, (some .boolean), { frames := 0, cells := 0, slots := 0, locals := 0 }, [])
theorem zX6_hasOpen : gZ mX6_hasOpen 1 := ⟨gW_of 911 (by decide +kernel) (by decide +kernel), wd_118, by decide +kernel, by decide +kernel, by decide +kernel⟩
def mX6_turn : gM := (yX6_turn, cX6_turn, 2, none, { frames := 0, cells := 0, slots := 0, locals := 0 }, [])
theorem zX6_turn : gZ mX6_turn 1 := ⟨gW_of 1416 (by decide +kernel) (by decide +kernel), wd_118, by decide +kernel, by decide +kernel, by decide +kernel⟩
def mX7_init : gM := (yX7_init, cX7_init, 3, none, { frames := 2, cells := 20, slots := 126, locals := 40 }, [])
theorem zX7_init : gZ mX7_init 1 := ⟨gW_of 282 (by decide +kernel) (by decide +kernel), wd_123, by decide +kernel, by decide +kernel, by decide +kernel⟩
def mX7_clear : gM := (yX7_clear, cX7_clear, 2, none, { frames := 0, cells := 0, slots := 0, locals := 0 }, [])
theorem zX7_clear : gZ mX7_clear 0 := ⟨gW_of 655 (by decide +kernel) (by decide +kernel), wd_123, by decide +kernel, by decide +kernel, by decide +kernel⟩
def mX7_cells : gM := (yX7_cells, cX7_cells, 1, (some .int), { frames := 0, cells := 0, slots := 0, locals := 0 }, [])
theorem zX7_cells : gZ mX7_cells 0 := ⟨gW_of 1284 (by decide +kernel) (by decide +kernel), wd_123, by decide +kernel, by decide +kernel, by decide +kernel⟩
def mX7_cellNumber : gM := (yX7_cellNumber, cX7_cellNumber, 3, (some .int), { frames := 0, cells := 0, slots := 0, locals := 0 }, [])
theorem zX7_cellNumber : gZ mX7_cellNumber 2 := ⟨gW_of 1325 (by decide +kernel) (by decide +kernel), wd_123, by decide +kernel, by decide +kernel, by decide +kernel⟩
def mX7_columnOf : gM := (yX7_columnOf, cX7_columnOf, 5, (some .int), { frames := 1, cells := 0, slots := 0, locals := 24 }, [])
theorem zX7_columnOf : gZ mX7_columnOf 3 := ⟨gW_of 931 (by decide +kernel) (by decide +kernel), wd_123, by decide +kernel, by decide +kernel, by decide +kernel⟩
def mX7_rowOf : gM := (yX7_rowOf, cX7_rowOf, 5, (some .int), { frames := 1, cells := 0, slots := 0, locals := 24 }, [])
theorem zX7_rowOf : gZ mX7_rowOf 3 := ⟨gW_of 941 (by decide +kernel) (by decide +kernel), wd_123, by decide +kernel, by decide +kernel, by decide +kernel⟩
def mX7_cellOf : gM := (yX7_cellOf, cX7_cellOf, 3, (some .int), { frames := 2, cells := 0, slots := 0, locals := 48 }, [])
theorem zX7_cellOf : gZ mX7_cellOf 2 := ⟨gW_of 1467 (by decide +kernel) (by decide +kernel), wd_123, by decide +kernel, by decide +kernel, by decide +kernel⟩
def mX7_isShadowed : gM := (yX7_isShadowed, cX7_isShadowed, 3, (some .boolean), { frames := 0, cells := 0, slots := 0, locals := 0 }, [])
theorem zX7_isShadowed : gZ mX7_isShadowed 2 := ⟨gW_of 1012 (by decide +kernel) (by decide +kernel), wd_123, by decide +kernel, by decide +kernel, by decide +kernel⟩
def mX7_isBlocked : gM := (yX7_isBlocked, cX7_isBlocked, 4, (some .boolean), { frames := 1, cells := 0, slots := 0, locals := 21 }, [])
theorem zX7_isBlocked : gZ mX7_isBlocked 3 := ⟨gW_of 1039 (by decide +kernel) (by decide +kernel), wd_123, by decide +kernel, by decide +kernel, by decide +kernel⟩
def mX7_lengthThrough : gM := (yX7_lengthThrough, cX7_lengthThrough, 6, (some .int), { frames := 2, cells := 0, slots := 0, locals := 46 }, [])
theorem zX7_lengthThrough : gZ mX7_lengthThrough 5 := ⟨gW_of 1023 (by decide +kernel) (by decide +kernel), wd_123, by decide +kernel, by decide +kernel, by decide +kernel⟩
def mX7_shortestLength : gM := (yX7_shortestLength, cX7_shortestLength, 10, (some .int), { frames := 3, cells := 0, slots := 0, locals := 71 }, [])
theorem zX7_shortestLength : gZ mX7_shortestLength 4 := ⟨gW_of 1035 (by decide +kernel) (by decide +kernel), wd_123, by decide +kernel, by decide +kernel, by decide +kernel⟩
def mX7_firstArrival : gM := (yX7_firstArrival, cX7_firstArrival, 6, (some .int), { frames := 4, cells := 0, slots := 0, locals := 100 }, [])
theorem zX7_firstArrival : gZ mX7_firstArrival 4 := ⟨gW_of 1069 (by decide +kernel) (by decide +kernel), wd_123, by decide +kernel, by decide +kernel, by decide +kernel⟩
def mX7_imageColumn : gM := (yX7_imageColumn, cX7_imageColumn, 3, (some .int), { frames := 0, cells := 0, slots := 0, locals := 0 }, [])
theorem zX7_imageColumn : gZ mX7_imageColumn 2 := ⟨gW_of 1114 (by decide +kernel) (by decide +kernel), wd_123, by decide +kernel, by decide +kernel, by decide +kernel⟩
def mX7_imageRow : gM := (yX7_imageRow, cX7_imageRow, 3, (some .int), { frames := 0, cells := 0, slots := 0, locals := 0 }, [])
theorem zX7_imageRow : gZ mX7_imageRow 2 := ⟨gW_of 1118 (by decide +kernel) (by decide +kernel), wd_123, by decide +kernel, by decide +kernel, by decide +kernel⟩
def mX7_partOf : gM := (yX7_partOf, cX7_partOf, 16, (some .int), { frames := 3, cells := 0, slots := 0, locals := 73 }, [])
theorem zX7_partOf : gZ mX7_partOf 5 := ⟨gW_of 1092 (by decide +kernel) (by decide +kernel), wd_123, by decide +kernel, by decide +kernel, by decide +kernel⟩
def mX7_waveOf : gM := (yX7_waveOf, cX7_waveOf, 7, (some .int), { frames := 4, cells := 0, slots := 0, locals := 108 }, [])
theorem zX7_waveOf : gZ mX7_waveOf 4 := ⟨gW_of 1129 (by decide +kernel) (by decide +kernel), wd_123, by decide +kernel, by decide +kernel, by decide +kernel⟩
def mX7_staysCalm : gM := (yX7_staysCalm, cX7_staysCalm, 7, (some .boolean), { frames := 5, cells := 0, slots := 0, locals := 134 }, [])
theorem zX7_staysCalm : gZ mX7_staysCalm 5 := ⟨gW_of 1208 (by decide +kernel) (by decide +kernel), wd_123, by decide +kernel, by decide +kernel, by decide +kernel⟩
def mX7_energyOf : gM := (yX7_energyOf, cX7_energyOf, 10, (some .long), { frames := 5, cells := 0, slots := 0, locals := 134 }, [])
theorem zX7_energyOf : gZ mX7_energyOf 4 := ⟨gW_of 1262 (by decide +kernel) (by decide +kernel), wd_123, by decide +kernel, by decide +kernel, by decide +kernel⟩
def mX8_init : gM := (yX8_init, cX8_init, 1, none, { frames := 1, cells := 2, slots := 12, locals := 20 }, [])
theorem zX8_init : gZ mX8_init 0 := ⟨gW_of 291 (by decide +kernel) (by decide +kernel), wd_124, by decide +kernel, by decide +kernel, by decide +kernel⟩
def mX8_addCut : gM := (yX8_addCut, cX8_addCut, 3, none, { frames := 0, cells := 0, slots := 0, locals := 0 }, [])
theorem zX8_addCut : gZ mX8_addCut 2 := ⟨gW_of 819 (by decide +kernel) (by decide +kernel), wd_124, by decide +kernel, by decide +kernel, by decide +kernel⟩
def mX8_emitted : gM := (yX8_emitted, cX8_emitted, 4, (some .int), { frames := 1, cells := 0, slots := 0, locals := 24 }, [])
theorem zX8_emitted : gZ mX8_emitted 2 := ⟨gW_of 966 (by decide +kernel) (by decide +kernel), wd_124, by decide +kernel, by decide +kernel, by decide +kernel⟩
def mX8_delayOf : gM := (yX8_delayOf, cX8_delayOf, 2, (some .int), { frames := 0, cells := 0, slots := 0, locals := 0 }, [])
theorem zX8_delayOf : gZ mX8_delayOf 1 := ⟨gW_of 1074 (by decide +kernel) (by decide +kernel), wd_124, by decide +kernel, by decide +kernel, by decide +kernel⟩
def mX8_angleOf : gM := (yX8_angleOf, cX8_angleOf, 5, (some .int), { frames := 1, cells := 0, slots := 0, locals := 22 }, [])
theorem zX8_angleOf : gZ mX8_angleOf 3 := ⟨gW_of 1055 (by decide +kernel) (by decide +kernel), wd_124, by decide +kernel, by decide +kernel, by decide +kernel⟩
def mX8_valueOf : gM := (yX8_valueOf, cX8_valueOf, 2, (some .int), { frames := 1, cells := 0, slots := 0, locals := 23 }, [])
theorem zX8_valueOf : gZ mX8_valueOf 1 := ⟨gW_of 1103 (by decide +kernel) (by decide +kernel), wd_124, by decide +kernel, by decide +kernel, by decide +kernel⟩
def mX8_brings : gM := (yX8_brings, cX8_brings, 7, (some .int), { frames := 2, cells := 0, slots := 0, locals := 47 }, [])
theorem zX8_brings : gZ mX8_brings 5 := ⟨gW_of 1096 (by decide +kernel) (by decide +kernel), wd_124, by decide +kernel, by decide +kernel, by decide +kernel⟩
def mX8_sineOf : gM := (yX8_sineOf, cX8_sineOf, 4, (some .int), { frames := 0, cells := 0, slots := 0, locals := 0 }, [])
theorem zX8_sineOf : gZ mX8_sineOf 1 := ⟨gW_of 977 (by decide +kernel) (by decide +kernel), wd_124, by decide +kernel, by decide +kernel, by decide +kernel⟩
def mX9_init : gM := (yX9_init, cX9_init, 3, none, { frames := 3, cells := 152, slots := 2929, locals := 62 }, [])
theorem zX9_init : gZ mX9_init 0 := ⟨gW_of 144 (by decide +kernel) (by decide +kernel), wd_117, by decide +kernel, by decide +kernel, by decide +kernel⟩
def mX9_append : gM := (yX9_append, cX9_append, 6, (some .int), { frames := 1, cells := 0, slots := 0, locals := 22 }, [])
theorem zX9_append : gZ mX9_append 5 := ⟨gW_of 480 (by decide +kernel) (by decide +kernel), wd_117, by decide +kernel, by decide +kernel, by decide +kernel⟩
def mX9_load : gM := (yX9_load, cX9_load, 5, (some .int), { frames := 10, cells := 3, slots := 26, locals := 214 }, [])
theorem zX9_load : gZ mX9_load 1 := ⟨gW_of 529 (by decide +kernel) (by decide +kernel), wd_117, by decide +kernel, by decide +kernel, by decide +kernel⟩
def mX9_parseError : gM := (yX9_parseError, cX9_parseError, 1, (some .int), { frames := 0, cells := 0, slots := 0, locals := 0 }, [])
theorem zX9_parseError : gZ mX9_parseError 0 := ⟨gW_of 488 (by decide +kernel) (by decide +kernel), wd_117, by decide +kernel, by decide +kernel, by decide +kernel⟩
def mX9_errorPosition : gM := (yX9_errorPosition, cX9_errorPosition, 1, (some .int), { frames := 0, cells := 0, slots := 0, locals := 0 }, [])
theorem zX9_errorPosition : gZ mX9_errorPosition 0 := ⟨gW_of 492 (by decide +kernel) (by decide +kernel), wd_117, by decide +kernel, by decide +kernel, by decide +kernel⟩
def mX9_buffered : gM := (yX9_buffered, cX9_buffered, 1, (some .int), { frames := 0, cells := 0, slots := 0, locals := 0 }, [])
theorem zX9_buffered : gZ mX9_buffered 0 := ⟨gW_of 496 (by decide +kernel) (by decide +kernel), wd_117, by decide +kernel, by decide +kernel, by decide +kernel⟩
def mX9_time : gM := (yX9_time, cX9_time, 1, (some .int), { frames := 0, cells := 0, slots := 0, locals := 0 }, [])
theorem zX9_time : gZ mX9_time 0 := ⟨gW_of 500 (by decide +kernel) (by decide +kernel), wd_117, by decide +kernel, by decide +kernel, by decide +kernel⟩
def mX9_width : gM := (yX9_width, cX9_width, 1, (some .int), { frames := 0, cells := 0, slots := 0, locals := 0 }, [])
theorem zX9_width : gZ mX9_width 0 := ⟨gW_of 504 (by decide +kernel) (by decide +kernel), wd_117, by decide +kernel, by decide +kernel, by decide +kernel⟩
def mX9_height : gM := (yX9_height, cX9_height, 1, (some .int), { frames := 0, cells := 0, slots := 0, locals := 0 }, [])
theorem zX9_height : gZ mX9_height 0 := ⟨gW_of 508 (by decide +kernel) (by decide +kernel), wd_117, by decide +kernel, by decide +kernel, by decide +kernel⟩
def mX9_wall : gM := (yX9_wall, cX9_wall, 1, (some .int), { frames := 9, cells := 1, slots := 6, locals := 123 }, [])
theorem zX9_wall : gZ mX9_wall 0 := ⟨gW_of 868 (by decide +kernel) (by decide +kernel), wd_117, by decide +kernel, by decide +kernel, by decide +kernel⟩
def mX9_openRows : gM := (yX9_openRows, cX9_openRows, 1, (some .int), { frames := 9, cells := 1, slots := 6, locals := 123 }, [])
theorem zX9_openRows : gZ mX9_openRows 0 := ⟨gW_of 895 (by decide +kernel) (by decide +kernel), wd_117, by decide +kernel, by decide +kernel, by decide +kernel⟩
def mX9_isOpen : gM := (yX9_isOpen, cX9_isOpen, 2, (some .boolean), { frames := 9, cells := 2, slots := 12, locals := 124 }, [])
theorem zX9_isOpen : gZ mX9_isOpen 1 := ⟨gW_of 902 (by decide +kernel) (by decide +kernel), wd_117, by decide +kernel, by decide +kernel, by decide +kernel⟩
def mX9_sources : gM := (yX9_sources, cX9_sources, 1, (some .int), { frames := 0, cells := 0, slots := 0, locals := 0 }, [])
theorem zX9_sources : gZ mX9_sources 0 := ⟨gW_of 512 (by decide +kernel) (by decide +kernel), wd_117, by decide +kernel, by decide +kernel, by decide +kernel⟩
def mX9_sourceAt : gM := (yX9_sourceAt, cX9_sourceAt, 4, (some .int), { frames := 9, cells := 4, slots := 24, locals := 125 }, [])
theorem zX9_sourceAt : gZ mX9_sourceAt 3 := ⟨gW_of 918 (by decide +kernel) (by decide +kernel), wd_117, by decide +kernel, by decide +kernel, by decide +kernel⟩
def mX9_property : gM := (yX9_property, cX9_property, 3, (some .int), { frames := 9, cells := 3, slots := 18, locals := 125 }, [])
theorem zX9_property : gZ mX9_property 2 := ⟨gW_of 948 (by decide +kernel) (by decide +kernel), wd_117, by decide +kernel, by decide +kernel, by decide +kernel⟩
def mX9_isOn : gM := (yX9_isOn, cX9_isOn, 2, (some .boolean), { frames := 9, cells := 2, slots := 12, locals := 124 }, [])
theorem zX9_isOn : gZ mX9_isOn 1 := ⟨gW_of 955 (by decide +kernel) (by decide +kernel), wd_117, by decide +kernel, by decide +kernel, by decide +kernel⟩
def mX9_amplitude : gM := (yX9_amplitude, cX9_amplitude, 3, (some .int), { frames := 9, cells := 3, slots := 18, locals := 125 }, [])
theorem zX9_amplitude : gZ mX9_amplitude 2 := ⟨gW_of 962 (by decide +kernel) (by decide +kernel), wd_117, by decide +kernel, by decide +kernel, by decide +kernel⟩
def mX9_sine : gM := (yX9_sine, cX9_sine, 2, (some .int), { frames := 9, cells := 1, slots := 6, locals := 125 }, [])
theorem zX9_sine : gZ mX9_sine 1 := ⟨gW_of 974 (by decide +kernel) (by decide +kernel), wd_117, by decide +kernel, by decide +kernel, by decide +kernel⟩
def mX9_distance : gM := (yX9_distance, cX9_distance, 3, (some .int), { frames := 9, cells := 2, slots := 12, locals := 125 }, [])
theorem zX9_distance : gZ mX9_distance 2 := ⟨gW_of 985 (by decide +kernel) (by decide +kernel), wd_117, by decide +kernel, by decide +kernel, by decide +kernel⟩
def mX9_isBehind : gM := (yX9_isBehind, cX9_isBehind, 4, (some .boolean), { frames := 10, cells := 4, slots := 24, locals := 146 }, [])
theorem zX9_isBehind : gZ mX9_isBehind 3 := ⟨gW_of 999 (by decide +kernel) (by decide +kernel), wd_117, by decide +kernel, by decide +kernel, by decide +kernel⟩
def mX9_path : gM := (yX9_path, cX9_path, 7, (some .int), { frames := 10, cells := 5, slots := 30, locals := 146 }, [])
theorem zX9_path : gZ mX9_path 4 := ⟨gW_of 1019 (by decide +kernel) (by decide +kernel), wd_117, by decide +kernel, by decide +kernel, by decide +kernel⟩
def mX9_shortest : gM := (yX9_shortest, cX9_shortest, 4, (some .int), { frames := 10, cells := 4, slots := 24, locals := 146 }, [])
theorem zX9_shortest : gZ mX9_shortest 3 := ⟨gW_of 1031 (by decide +kernel) (by decide +kernel), wd_117, by decide +kernel, by decide +kernel, by decide +kernel⟩
def mX9_phase : gM := (yX9_phase, cX9_phase, 5, (some .int), { frames := 10, cells := 4, slots := 24, locals := 146 }, [])
theorem zX9_phase : gZ mX9_phase 3 := ⟨gW_of 1051 (by decide +kernel) (by decide +kernel), wd_117, by decide +kernel, by decide +kernel, by decide +kernel⟩
def mX9_arrival : gM := (yX9_arrival, cX9_arrival, 4, (some .int), { frames := 10, cells := 4, slots := 24, locals := 146 }, [])
theorem zX9_arrival : gZ mX9_arrival 3 := ⟨gW_of 1065 (by decide +kernel) (by decide +kernel), wd_117, by decide +kernel, by decide +kernel, by decide +kernel⟩
def mX9_reached : gM := (yX9_reached, cX9_reached, 6, (some .int), { frames := 9, cells := 2, slots := 12, locals := 125 }, [])
theorem zX9_reached : gZ mX9_reached 1 := ⟨gW_of 1081 (by decide +kernel) (by decide +kernel), wd_117, by decide +kernel, by decide +kernel, by decide +kernel⟩
def mX9_part : gM := (yX9_part, cX9_part, 4, (some .int), { frames := 10, cells := 4, slots := 24, locals := 146 }, [])
theorem zX9_part : gZ mX9_part 3 := ⟨gW_of 1088 (by decide +kernel) (by decide +kernel), wd_117, by decide +kernel, by decide +kernel, by decide +kernel⟩
def mX9_wave : gM := (yX9_wave, cX9_wave, 3, (some .int), { frames := 10, cells := 3, slots := 18, locals := 146 }, [])
theorem zX9_wave : gZ mX9_wave 2 := ⟨gW_of 1125 (by decide +kernel) (by decide +kernel), wd_117, by decide +kernel, by decide +kernel, by decide +kernel⟩
def mX9_waveAt : gM := (yX9_waveAt, cX9_waveAt, 4, (some .int), { frames := 10, cells := 4, slots := 24, locals := 146 }, [])
theorem zX9_waveAt : gZ mX9_waveAt 3 := ⟨gW_of 1141 (by decide +kernel) (by decide +kernel), wd_117, by decide +kernel, by decide +kernel, by decide +kernel⟩
def mX9_quietIn : gM := (yX9_quietIn, cX9_quietIn, 6, (some .int), { frames := 10, cells := 5, slots := 30, locals := 146 }, [])
theorem zX9_quietIn : gZ mX9_quietIn 4 := ⟨gW_of 1148 (by decide +kernel) (by decide +kernel), wd_117, by decide +kernel, by decide +kernel, by decide +kernel⟩
def mX9_gauges : gM := (yX9_gauges, cX9_gauges, 1, (some .int), { frames := 0, cells := 0, slots := 0, locals := 0 }, [])
theorem zX9_gauges : gZ mX9_gauges 0 := ⟨gW_of 516 (by decide +kernel) (by decide +kernel), wd_117, by decide +kernel, by decide +kernel, by decide +kernel⟩
def mX9_gaugeAt : gM := (yX9_gaugeAt, cX9_gaugeAt, 3, (some .int), { frames := 9, cells := 3, slots := 18, locals := 125 }, [])
theorem zX9_gaugeAt : gZ mX9_gaugeAt 2 := ⟨gW_of 1159 (by decide +kernel) (by decide +kernel), wd_117, by decide +kernel, by decide +kernel, by decide +kernel⟩
def mX9_peak : gM := (yX9_peak, cX9_peak, 5, (some .int), { frames := 10, cells := 3, slots := 18, locals := 159 }, [])
theorem zX9_peak : gZ mX9_peak 2 := ⟨gW_of 1171 (by decide +kernel) (by decide +kernel), wd_117, by decide +kernel, by decide +kernel, by decide +kernel⟩
def mX9_crossings : gM := (yX9_crossings, cX9_crossings, 7, (some .int), { frames := 10, cells := 3, slots := 18, locals := 159 }, [])
theorem zX9_crossings : gZ mX9_crossings 2 := ⟨gW_of 1186 (by decide +kernel) (by decide +kernel), wd_117, by decide +kernel, by decide +kernel, by decide +kernel⟩
def mX9_rhythm : gM := (yX9_rhythm, cX9_rhythm, 9, (some .int), { frames := 10, cells := 3, slots := 18, locals := 159 }, [])
theorem zX9_rhythm : gZ mX9_rhythm 2 := ⟨gW_of 1193 (by decide +kernel) (by decide +kernel), wd_117, by decide +kernel, by decide +kernel, by decide +kernel⟩
def mX9_isNode : gM := (yX9_isNode, cX9_isNode, 5, (some .boolean), { frames := 10, cells := 5, slots := 30, locals := 160 }, [])
theorem zX9_isNode : gZ mX9_isNode 4 := ⟨gW_of 1204 (by decide +kernel) (by decide +kernel), wd_117, by decide +kernel, by decide +kernel, by decide +kernel⟩
def mX9_nodes : gM := (yX9_nodes, cX9_nodes, 3, (some .int), { frames := 10, cells := 3, slots := 18, locals := 186 }, [])
theorem zX9_nodes : gZ mX9_nodes 2 := ⟨gW_of 1217 (by decide +kernel) (by decide +kernel), wd_117, by decide +kernel, by decide +kernel, by decide +kernel⟩
def mX9_nodeRows : gM := (yX9_nodeRows, cX9_nodeRows, 4, (some .int), { frames := 10, cells := 4, slots := 24, locals := 186 }, [])
theorem zX9_nodeRows : gZ mX9_nodeRows 3 := ⟨gW_of 1228 (by decide +kernel) (by decide +kernel), wd_117, by decide +kernel, by decide +kernel, by decide +kernel⟩
def mX9_nodeGroups : gM := (yX9_nodeGroups, cX9_nodeGroups, 4, (some .int), { frames := 10, cells := 3, slots := 18, locals := 186 }, [])
theorem zX9_nodeGroups : gZ mX9_nodeGroups 2 := ⟨gW_of 1239 (by decide +kernel) (by decide +kernel), wd_117, by decide +kernel, by decide +kernel, by decide +kernel⟩
def mX9_energy : gM := (yX9_energy, cX9_energy, 4, (some .long), { frames := 10, cells := 4, slots := 24, locals := 163 }, [])
theorem zX9_energy : gZ mX9_energy 3 := ⟨gW_of 1258 (by decide +kernel) (by decide +kernel), wd_117, by decide +kernel, by decide +kernel, by decide +kernel⟩
def mX9_rowEnergy : gM := (yX9_rowEnergy, cX9_rowEnergy, 6, (some .long), { frames := 10, cells := 3, slots := 18, locals := 163 }, [])
theorem zX9_rowEnergy : gZ mX9_rowEnergy 2 := ⟨gW_of 1269 (by decide +kernel) (by decide +kernel), wd_117, by decide +kernel, by decide +kernel, by decide +kernel⟩
def mX9_allEnergy : gM := (yX9_allEnergy, cX9_allEnergy, 5, (some .long), { frames := 10, cells := 2, slots := 12, locals := 185 }, [])
theorem zX9_allEnergy : gZ mX9_allEnergy 1 := ⟨gW_of 1276 (by decide +kernel) (by decide +kernel), wd_117, by decide +kernel, by decide +kernel, by decide +kernel⟩
def mX9_strongest : gM := (yX9_strongest, cX9_strongest, 5, (some .int), { frames := 10, cells := 3, slots := 18, locals := 185 }, [])
theorem zX9_strongest : gZ mX9_strongest 2 := ⟨gW_of 1291 (by decide +kernel) (by decide +kernel), wd_117, by decide +kernel, by decide +kernel, by decide +kernel⟩
def mX9_marks : gM := (yX9_marks, cX9_marks, 7, (some .int), { frames := 10, cells := 3, slots := 18, locals := 185 }, [])
theorem zX9_marks : gZ mX9_marks 2 := ⟨gW_of 1303 (by decide +kernel) (by decide +kernel), wd_117, by decide +kernel, by decide +kernel, by decide +kernel⟩
def mX9_isMark : gM := (yX9_isMark, cX9_isMark, 5, (some .boolean), { frames := 10, cells := 5, slots := 30, locals := 185 }, [])
theorem zX9_isMark : gZ mX9_isMark 4 := ⟨gW_of 1321 (by decide +kernel) (by decide +kernel), wd_117, by decide +kernel, by decide +kernel, by decide +kernel⟩
def mX9_fringes : gM := (yX9_fringes, cX9_fringes, 7, (some .int), { frames := 10, cells := 3, slots := 18, locals := 186 }, [])
theorem zX9_fringes : gZ mX9_fringes 2 := ⟨gW_of 1332 (by decide +kernel) (by decide +kernel), wd_117, by decide +kernel, by decide +kernel, by decide +kernel⟩
def mX9_visibility : gM := (yX9_visibility, cX9_visibility, 8, (some .float), { frames := 10, cells := 3, slots := 18, locals := 186 }, [])
theorem zX9_visibility : gZ mX9_visibility 2 := ⟨gW_of 1343 (by decide +kernel) (by decide +kernel), wd_117, by decide +kernel, by decide +kernel, by decide +kernel⟩
def mX9_writeRow : gM := (yX9_writeRow, cX9_writeRow, 3, (some .int), { frames := 9, cells := 2, slots := 12, locals := 134 }, [])
theorem zX9_writeRow : gZ mX9_writeRow 1 := ⟨gW_of 1353 (by decide +kernel) (by decide +kernel), wd_117, by decide +kernel, by decide +kernel, by decide +kernel⟩
def mX9_writeMap : gM := (yX9_writeMap, cX9_writeMap, 5, (some .int), { frames := 10, cells := 2, slots := 12, locals := 185 }, [])
theorem zX9_writeMap : gZ mX9_writeMap 1 := ⟨gW_of 1370 (by decide +kernel) (by decide +kernel), wd_117, by decide +kernel, by decide +kernel, by decide +kernel⟩
def mX9_textByte : gM := (yX9_textByte, cX9_textByte, 2, (some .int), { frames := 8, cells := 1, slots := 6, locals := 103 }, [])
theorem zX9_textByte : gZ mX9_textByte 1 := ⟨gW_of 1378 (by decide +kernel) (by decide +kernel), wd_117, by decide +kernel, by decide +kernel, by decide +kernel⟩
def mX9_nodesIfOff : gM := (yX9_nodesIfOff, cX9_nodesIfOff, 4, (some .int), { frames := 10, cells := 4, slots := 24, locals := 186 }, [])
theorem zX9_nodesIfOff : gZ mX9_nodesIfOff 3 := ⟨gW_of 1386 (by decide +kernel) (by decide +kernel), wd_117, by decide +kernel, by decide +kernel, by decide +kernel⟩
def mX9_bestPhase : gM := (yX9_bestPhase, cX9_bestPhase, 11, (some .int), { frames := 10, cells := 5, slots := 30, locals := 163 }, [])
theorem zX9_bestPhase : gZ mX9_bestPhase 4 := ⟨gW_of 1393 (by decide +kernel) (by decide +kernel), wd_117, by decide +kernel, by decide +kernel, by decide +kernel⟩
def mX9_bestPlace : gM := (yX9_bestPlace, cX9_bestPlace, 11, (some .int), { frames := 10, cells := 5, slots := 30, locals := 163 }, [])
theorem zX9_bestPlace : gZ mX9_bestPlace 4 := ⟨gW_of 1400 (by decide +kernel) (by decide +kernel), wd_117, by decide +kernel, by decide +kernel, by decide +kernel⟩
def mX9_energyIfTurned : gM := (yX9_energyIfTurned, cX9_energyIfTurned, 5, (some .long), { frames := 10, cells := 5, slots := 30, locals := 187 }, [])
theorem zX9_energyIfTurned : gZ mX9_energyIfTurned 4 := ⟨gW_of 1407 (by decide +kernel) (by decide +kernel), wd_117, by decide +kernel, by decide +kernel, by decide +kernel⟩
def mX9_bestRow : gM := (yX9_bestRow, cX9_bestRow, 10, (some .int), { frames := 10, cells := 4, slots := 24, locals := 187 }, [])
theorem zX9_bestRow : gZ mX9_bestRow 3 := ⟨gW_of 1423 (by decide +kernel) (by decide +kernel), wd_117, by decide +kernel, by decide +kernel, by decide +kernel⟩
def mX9_advance : gM := (yX9_advance, cX9_advance, 2, (some .int), { frames := 9, cells := 3, slots := 18, locals := 125 }, [])
theorem zX9_advance : gZ mX9_advance 1 := ⟨gW_of 1430 (by decide +kernel) (by decide +kernel), wd_117, by decide +kernel, by decide +kernel, by decide +kernel⟩
def mX9_setOn : gM := (yX9_setOn, cX9_setOn, 4, (some .boolean), { frames := 9, cells := 2, slots := 12, locals := 124 }, [])
theorem zX9_setOn : gZ mX9_setOn 2 := ⟨gW_of 1442 (by decide +kernel) (by decide +kernel), wd_117, by decide +kernel, by decide +kernel, by decide +kernel⟩
def mX9_setPhase : gM := (yX9_setPhase, cX9_setPhase, 4, (some .int), { frames := 9, cells := 3, slots := 18, locals := 125 }, [])
theorem zX9_setPhase : gZ mX9_setPhase 2 := ⟨gW_of 1449 (by decide +kernel) (by decide +kernel), wd_117, by decide +kernel, by decide +kernel, by decide +kernel⟩
def mX9_setAmp : gM := (yX9_setAmp, cX9_setAmp, 4, (some .int), { frames := 9, cells := 3, slots := 18, locals := 125 }, [])
theorem zX9_setAmp : gZ mX9_setAmp 2 := ⟨gW_of 1456 (by decide +kernel) (by decide +kernel), wd_117, by decide +kernel, by decide +kernel, by decide +kernel⟩
def mX9_moveSource : gM := (yX9_moveSource, cX9_moveSource, 4, (some .int), { frames := 10, cells := 4, slots := 24, locals := 146 }, [])
theorem zX9_moveSource : gZ mX9_moveSource 3 := ⟨gW_of 1463 (by decide +kernel) (by decide +kernel), wd_117, by decide +kernel, by decide +kernel, by decide +kernel⟩
def mX9_setDrift : gM := (yX9_setDrift, cX9_setDrift, 4, (some .int), { frames := 9, cells := 4, slots := 24, locals := 125 }, [])
theorem zX9_setDrift : gZ mX9_setDrift 3 := ⟨gW_of 1475 (by decide +kernel) (by decide +kernel), wd_117, by decide +kernel, by decide +kernel, by decide +kernel⟩
def mX9_turnRow : gM := (yX9_turnRow, cX9_turnRow, 2, (some .boolean), { frames := 9, cells := 3, slots := 18, locals := 124 }, [])
theorem zX9_turnRow : gZ mX9_turnRow 1 := ⟨gW_of 1482 (by decide +kernel) (by decide +kernel), wd_117, by decide +kernel, by decide +kernel, by decide +kernel⟩
def mX9_undo : gM := (yX9_undo, cX9_undo, 1, (some .int), { frames := 8, cells := 1, slots := 6, locals := 103 }, [])
theorem zX9_undo : gZ mX9_undo 0 := ⟨gW_of 1490 (by decide +kernel) (by decide +kernel), wd_117, by decide +kernel, by decide +kernel, by decide +kernel⟩
def mX9_undoable : gM := (yX9_undoable, cX9_undoable, 1, (some .int), { frames := 0, cells := 0, slots := 0, locals := 0 }, [])
theorem zX9_undoable : gZ mX9_undoable 0 := ⟨gW_of 520 (by decide +kernel) (by decide +kernel), wd_117, by decide +kernel, by decide +kernel, by decide +kernel⟩
def mX9_save : gM := (yX9_save, cX9_save, 2, (some .int), { frames := 9, cells := 2, slots := 12, locals := 123 }, [])
theorem zX9_save : gZ mX9_save 1 := ⟨gW_of 1502 (by decide +kernel) (by decide +kernel), wd_117, by decide +kernel, by decide +kernel, by decide +kernel⟩
def mX9_restore : gM := (yX9_restore, cX9_restore, 2, (some .int), { frames := 9, cells := 2, slots := 12, locals := 123 }, [])
theorem zX9_restore : gZ mX9_restore 1 := ⟨gW_of 1513 (by decide +kernel) (by decide +kernel), wd_117, by decide +kernel, by decide +kernel, by decide +kernel⟩
def mX9_needTank : gM := (yX9_needTank, cX9_needTank, 1, none, { frames := 8, cells := 1, slots := 6, locals := 103 }, [])
theorem zX9_needTank : gZ mX9_needTank 0 := ⟨gW_of 872 (by decide +kernel) (by decide +kernel), wd_117, by decide +kernel, by decide +kernel, by decide +kernel⟩
def mX9_needSource : gM := (yX9_needSource, cX9_needSource, 2, none, { frames := 8, cells := 1, slots := 6, locals := 103 }, [])
theorem zX9_needSource : gZ mX9_needSource 1 := ⟨gW_of 922 (by decide +kernel) (by decide +kernel), wd_117, by decide +kernel, by decide +kernel, by decide +kernel⟩
def mX9_needGauge : gM := (yX9_needGauge, cX9_needGauge, 2, none, { frames := 8, cells := 1, slots := 6, locals := 103 }, [])
theorem zX9_needGauge : gZ mX9_needGauge 1 := ⟨gW_of 1163 (by decide +kernel) (by decide +kernel), wd_117, by decide +kernel, by decide +kernel, by decide +kernel⟩
def mX9_needColumn : gM := (yX9_needColumn, cX9_needColumn, 2, none, { frames := 8, cells := 1, slots := 6, locals := 103 }, [])
theorem zX9_needColumn : gZ mX9_needColumn 1 := ⟨gW_of 1007 (by decide +kernel) (by decide +kernel), wd_117, by decide +kernel, by decide +kernel, by decide +kernel⟩
def mX9_needRow : gM := (yX9_needRow, cX9_needRow, 2, none, { frames := 8, cells := 1, slots := 6, locals := 103 }, [])
theorem zX9_needRow : gZ mX9_needRow 1 := ⟨gW_of 906 (by decide +kernel) (by decide +kernel), wd_117, by decide +kernel, by decide +kernel, by decide +kernel⟩
def mX9_needCell : gM := (yX9_needCell, cX9_needCell, 3, none, { frames := 9, cells := 2, slots := 12, locals := 124 }, [])
theorem zX9_needCell : gZ mX9_needCell 2 := ⟨gW_of 1003 (by decide +kernel) (by decide +kernel), wd_117, by decide +kernel, by decide +kernel, by decide +kernel⟩
def mX9_needSlot : gM := (yX9_needSlot, cX9_needSlot, 1, none, { frames := 8, cells := 1, slots := 6, locals := 103 }, [])
theorem zX9_needSlot : gZ mX9_needSlot 1 := ⟨gW_of 1505 (by decide +kernel) (by decide +kernel), wd_117, by decide +kernel, by decide +kernel, by decide +kernel⟩
def mX9_needTimes : gM := (yX9_needTimes, cX9_needTimes, 1, none, { frames := 9, cells := 1, slots := 6, locals := 125 }, [])
theorem zX9_needTimes : gZ mX9_needTimes 1 := ⟨gW_of 1174 (by decide +kernel) (by decide +kernel), wd_117, by decide +kernel, by decide +kernel, by decide +kernel⟩
def mX9_needTolerance : gM := (yX9_needTolerance, cX9_needTolerance, 1, none, { frames := 9, cells := 1, slots := 6, locals := 125 }, [])
theorem zX9_needTolerance : gZ mX9_needTolerance 1 := ⟨gW_of 1151 (by decide +kernel) (by decide +kernel), wd_117, by decide +kernel, by decide +kernel, by decide +kernel⟩
def mX9_needRange : gM := (yX9_needRange, cX9_needRange, 3, none, { frames := 8, cells := 1, slots := 6, locals := 103 }, [])
theorem zX9_needRange : gZ mX9_needRange 3 := ⟨gW_of 926 (by decide +kernel) (by decide +kernel), wd_117, by decide +kernel, by decide +kernel, by decide +kernel⟩
def mX9_putBytes : gM := (yX9_putBytes, cX9_putBytes, 3, none, { frames := 0, cells := 0, slots := 0, locals := 0 }, [])
theorem zX9_putBytes : gZ mX9_putBytes 1 := ⟨gW_of 484 (by decide +kernel) (by decide +kernel), wd_117, by decide +kernel, by decide +kernel, by decide +kernel⟩
def mX9_fillSeries : gM := (yX9_fillSeries, cX9_fillSeries, 6, none, { frames := 5, cells := 0, slots := 0, locals := 134 }, [])
theorem zX9_fillSeries : gZ mX9_fillSeries 2 := ⟨gW_of 1178 (by decide +kernel) (by decide +kernel), wd_117, by decide +kernel, by decide +kernel, by decide +kernel⟩
def mX9_laggedSum : gM := (yX9_laggedSum, cX9_laggedSum, 6, (some .long), { frames := 0, cells := 0, slots := 0, locals := 0 }, [])
theorem zX9_laggedSum : gZ mX9_laggedSum 2 := ⟨gW_of 1197 (by decide +kernel) (by decide +kernel), wd_117, by decide +kernel, by decide +kernel, by decide +kernel⟩
def mX9_calmColumns : gM := (yX9_calmColumns, cX9_calmColumns, 7, (some .int), { frames := 6, cells := 0, slots := 0, locals := 160 }, [])
theorem zX9_calmColumns : gZ mX9_calmColumns 4 := ⟨gW_of 1232 (by decide +kernel) (by decide +kernel), wd_117, by decide +kernel, by decide +kernel, by decide +kernel⟩
def mX9_countCalm : gM := (yX9_countCalm, cX9_countCalm, 7, (some .int), { frames := 6, cells := 0, slots := 0, locals := 160 }, [])
theorem zX9_countCalm : gZ mX9_countCalm 3 := ⟨gW_of 1221 (by decide +kernel) (by decide +kernel), wd_117, by decide +kernel, by decide +kernel, by decide +kernel⟩
def mX9_fillEnergies : gM := (yX9_fillEnergies, cX9_fillEnergies, 3, none, { frames := 6, cells := 0, slots := 0, locals := 163 }, [])
theorem zX9_fillEnergies : gZ mX9_fillEnergies 1 := ⟨gW_of 1280 (by decide +kernel) (by decide +kernel), wd_117, by decide +kernel, by decide +kernel, by decide +kernel⟩
def mX9_fillColumnEnergies : gM := (yX9_fillColumnEnergies, cX9_fillColumnEnergies, 4, none, { frames := 6, cells := 0, slots := 0, locals := 163 }, [])
theorem zX9_fillColumnEnergies : gZ mX9_fillColumnEnergies 2 := ⟨gW_of 1336 (by decide +kernel) (by decide +kernel), wd_117, by decide +kernel, by decide +kernel, by decide +kernel⟩
def mX9_greatestEnergy : gM := (yX9_greatestEnergy, cX9_greatestEnergy, 4, (some .long), { frames := 1, cells := 0, slots := 0, locals := 24 }, [])
theorem zX9_greatestEnergy : gZ mX9_greatestEnergy 0 := ⟨gW_of 1307 (by decide +kernel) (by decide +kernel), wd_117, by decide +kernel, by decide +kernel, by decide +kernel⟩
def mX9_countBefore : gM := (yX9_countBefore, cX9_countBefore, 5, (some .int), { frames := 1, cells := 0, slots := 0, locals := 20 }, [])
theorem zX9_countBefore : gZ mX9_countBefore 1 := ⟨gW_of 1296 (by decide +kernel) (by decide +kernel), wd_117, by decide +kernel, by decide +kernel, by decide +kernel⟩
def mX9_hasShare : gM := (yX9_hasShare, cX9_hasShare, 5, (some .boolean), { frames := 0, cells := 0, slots := 0, locals := 0 }, [])
theorem zX9_hasShare : gZ mX9_hasShare 3 := ⟨gW_of 1313 (by decide +kernel) (by decide +kernel), wd_117, by decide +kernel, by decide +kernel, by decide +kernel⟩
def mX9_turnedEnergy : gM := (yX9_turnedEnergy, cX9_turnedEnergy, 5, (some .long), { frames := 6, cells := 0, slots := 0, locals := 163 }, [])
theorem zX9_turnedEnergy : gZ mX9_turnedEnergy 4 := ⟨gW_of 1411 (by decide +kernel) (by decide +kernel), wd_117, by decide +kernel, by decide +kernel, by decide +kernel⟩
def mX10_init : gM := (yX10_init, cX10_init, 1, none, { frames := 1, cells := 16, slots := 2852, locals := 20 }, [])
theorem zX10_init : gZ mX10_init 0 := ⟨gW_of 1519 (by decide +kernel) (by decide +kernel), wd_126, by decide +kernel, by decide +kernel, by decide +kernel⟩
def mX10_thrown : gM := (yX10_thrown, cX10_thrown, 1, (some .int), { frames := 0, cells := 0, slots := 0, locals := 0 }, [])
theorem zX10_thrown : gZ mX10_thrown 0 := ⟨gW_of 1624 (by decide +kernel) (by decide +kernel), wd_126, by decide +kernel, by decide +kernel, by decide +kernel⟩
def mX10_in : gM := (yX10_in, cX10_in, 3, (some .boolean), { frames := 0, cells := 0, slots := 0, locals := 0 }, [])
theorem zX10_in : gZ mX10_in 3 := ⟨gW_of 1651 (by decide +kernel) (by decide +kernel), wd_126, by decide +kernel, by decide +kernel, by decide +kernel⟩
def mX10_throwsAt : gM := (yX10_throwsAt, cX10_throwsAt, 2, (some .int), { frames := 0, cells := 0, slots := 0, locals := 0 }, [])
theorem zX10_throwsAt : gZ mX10_throwsAt 1 := ⟨gW_of 1655 (by decide +kernel) (by decide +kernel), wd_126, by decide +kernel, by decide +kernel, by decide +kernel⟩
def mX10_four : gM := (yX10_four, cX10_four, 3, none, { frames := 0, cells := 0, slots := 0, locals := 0 }, [])
theorem zX10_four : gZ mX10_four 1 := ⟨gW_of 1632 (by decide +kernel) (by decide +kernel), wd_126, by decide +kernel, by decide +kernel, by decide +kernel⟩
def mX10_append : gM := (yX10_append, cX10_append, 6, (some .int), { frames := 1, cells := 0, slots := 0, locals := 22 }, [])
theorem zX10_append : gZ mX10_append 5 := ⟨gW_of 1628 (by decide +kernel) (by decide +kernel), wd_126, by decide +kernel, by decide +kernel, by decide +kernel⟩
def mX10_buffered : gM := (yX10_buffered, cX10_buffered, 1, (some .int), { frames := 0, cells := 0, slots := 0, locals := 0 }, [])
theorem zX10_buffered : gZ mX10_buffered 0 := ⟨gW_of 1636 (by decide +kernel) (by decide +kernel), wd_126, by decide +kernel, by decide +kernel, by decide +kernel⟩
def mX10_parseError : gM := (yX10_parseError, cX10_parseError, 1, (some .int), { frames := 0, cells := 0, slots := 0, locals := 0 }, [])
theorem zX10_parseError : gZ mX10_parseError 0 := ⟨gW_of 1640 (by decide +kernel) (by decide +kernel), wd_126, by decide +kernel, by decide +kernel, by decide +kernel⟩
def mX10_errorPosition : gM := (yX10_errorPosition, cX10_errorPosition, 1, (some .int), { frames := 0, cells := 0, slots := 0, locals := 0 }, [])
theorem zX10_errorPosition : gZ mX10_errorPosition 0 := ⟨gW_of 1644 (by decide +kernel) (by decide +kernel), wd_126, by decide +kernel, by decide +kernel, by decide +kernel⟩
def mX10_byteAt : gM := (yX10_byteAt, cX10_byteAt, 2, (some .int), { frames := 0, cells := 0, slots := 0, locals := 0 }, [])
theorem zX10_byteAt : gZ mX10_byteAt 1 := ⟨gW_of 1667 (by decide +kernel) (by decide +kernel), wd_126, by decide +kernel, by decide +kernel, by decide +kernel⟩
def mX10_faults : gM := (yX10_faults, cX10_faults, 2, none, { frames := 0, cells := 0, slots := 0, locals := 0 }, [])
theorem zX10_faults : gZ mX10_faults 1 := ⟨gW_of 1693 (by decide +kernel) (by decide +kernel), wd_126, by decide +kernel, by decide +kernel, by decide +kernel⟩
def mX10_isSign : gM := (yX10_isSign, cX10_isSign, 1, (some .boolean), { frames := 0, cells := 0, slots := 0, locals := 0 }, [])
theorem zX10_isSign : gZ mX10_isSign 1 := ⟨gW_of 1670 (by decide +kernel) (by decide +kernel), wd_126, by decide +kernel, by decide +kernel, by decide +kernel⟩
def mX10_nextToken : gM := (yX10_nextToken, cX10_nextToken, 1, none, { frames := 1, cells := 0, slots := 0, locals := 22 }, [])
theorem zX10_nextToken : gZ mX10_nextToken 0 := ⟨gW_of 1663 (by decide +kernel) (by decide +kernel), wd_126, by decide +kernel, by decide +kernel, by decide +kernel⟩
def mX10_isSignHere : gM := (yX10_isSignHere, cX10_isSignHere, 2, (some .boolean), { frames := 0, cells := 0, slots := 0, locals := 0 }, [])
theorem zX10_isSignHere : gZ mX10_isSignHere 1 := ⟨gW_of 1713 (by decide +kernel) (by decide +kernel), wd_126, by decide +kernel, by decide +kernel, by decide +kernel⟩
def mX10_isWord : gM := (yX10_isWord, cX10_isWord, 3, (some .boolean), { frames := 5, cells := 0, slots := 0, locals := 106 }, [])
theorem zX10_isWord : gZ mX10_isWord 1 := ⟨gW_of 1687 (by decide +kernel) (by decide +kernel), wd_126, by decide +kernel, by decide +kernel, by decide +kernel⟩
def mX10_takes : gM := (yX10_takes, cX10_takes, 3, (some .boolean), { frames := 6, cells := 0, slots := 0, locals := 128 }, [])
theorem zX10_takes : gZ mX10_takes 1 := ⟨gW_of 1683 (by decide +kernel) (by decide +kernel), wd_126, by decide +kernel, by decide +kernel, by decide +kernel⟩
def mX10_keyword : gM := (yX10_keyword, cX10_keyword, 2, none, { frames := 7, cells := 0, slots := 0, locals := 150 }, [])
theorem zX10_keyword : gZ mX10_keyword 1 := ⟨gW_of 1679 (by decide +kernel) (by decide +kernel), wd_126, by decide +kernel, by decide +kernel, by decide +kernel⟩
def mX10_look : gM := (yX10_look, cX10_look, 3, (some .int), { frames := 1, cells := 0, slots := 0, locals := 22 }, [])
theorem zX10_look : gZ mX10_look 2 := ⟨gW_of 1706 (by decide +kernel) (by decide +kernel), wd_126, by decide +kernel, by decide +kernel, by decide +kernel⟩
def mX10_number : gM := (yX10_number, cX10_number, 4, (some .int), { frames := 2, cells := 0, slots := 0, locals := 44 }, [])
theorem zX10_number : gZ mX10_number 2 := ⟨gW_of 1702 (by decide +kernel) (by decide +kernel), wd_126, by decide +kernel, by decide +kernel, by decide +kernel⟩
def mX10_gauge : gM := (yX10_gauge, cX10_gauge, 4, (some .int), { frames := 8, cells := 0, slots := 0, locals := 171 }, [])
theorem zX10_gauge : gZ mX10_gauge 3 := ⟨gW_of 1698 (by decide +kernel) (by decide +kernel), wd_126, by decide +kernel, by decide +kernel, by decide +kernel⟩
def mX10_signed : gM := (yX10_signed, cX10_signed, 4, (some .int), { frames := 3, cells := 0, slots := 0, locals := 67 }, [])
theorem zX10_signed : gZ mX10_signed 2 := ⟨gW_of 1741 (by decide +kernel) (by decide +kernel), wd_126, by decide +kernel, by decide +kernel, by decide +kernel⟩
def mX10_readFirst : gM := (yX10_readFirst, cX10_readFirst, 1, none, { frames := 9, cells := 0, slots := 0, locals := 194 }, [])
theorem zX10_readFirst : gZ mX10_readFirst 0 := ⟨gW_of 1674 (by decide +kernel) (by decide +kernel), wd_126, by decide +kernel, by decide +kernel, by decide +kernel⟩
def mX10_readTrain : gM := (yX10_readTrain, cX10_readTrain, 2, none, { frames := 8, cells := 0, slots := 0, locals := 171 }, [])
theorem zX10_readTrain : gZ mX10_readTrain 0 := ⟨gW_of 1722 (by decide +kernel) (by decide +kernel), wd_126, by decide +kernel, by decide +kernel, by decide +kernel⟩
def mX10_readSort : gM := (yX10_readSort, cX10_readSort, 2, none, { frames := 7, cells := 0, slots := 0, locals := 150 }, [])
theorem zX10_readSort : gZ mX10_readSort 1 := ⟨gW_of 1726 (by decide +kernel) (by decide +kernel), wd_126, by decide +kernel, by decide +kernel, by decide +kernel⟩
def mX10_readOnce : gM := (yX10_readOnce, cX10_readOnce, 3, (some .int), { frames := 2, cells := 0, slots := 0, locals := 44 }, [])
theorem zX10_readOnce : gZ mX10_readOnce 1 := ⟨gW_of 1737 (by decide +kernel) (by decide +kernel), wd_126, by decide +kernel, by decide +kernel, by decide +kernel⟩
def mX10_readDrift : gM := (yX10_readDrift, cX10_readDrift, 4, none, { frames := 4, cells := 0, slots := 0, locals := 90 }, [])
theorem zX10_readDrift : gZ mX10_readDrift 0 := ⟨gW_of 1733 (by decide +kernel) (by decide +kernel), wd_126, by decide +kernel, by decide +kernel, by decide +kernel⟩
def mX10_readOff : gM := (yX10_readOff, cX10_readOff, 2, none, { frames := 3, cells := 0, slots := 0, locals := 66 }, [])
theorem zX10_readOff : gZ mX10_readOff 0 := ⟨gW_of 1751 (by decide +kernel) (by decide +kernel), wd_126, by decide +kernel, by decide +kernel, by decide +kernel⟩
def mX10_readMirror : gM := (yX10_readMirror, cX10_readMirror, 3, none, { frames := 6, cells := 0, slots := 0, locals := 128 }, [])
theorem zX10_readMirror : gZ mX10_readMirror 0 := ⟨gW_of 1756 (by decide +kernel) (by decide +kernel), wd_126, by decide +kernel, by decide +kernel, by decide +kernel⟩
def mX10_readCut : gM := (yX10_readCut, cX10_readCut, 2, none, { frames := 3, cells := 0, slots := 0, locals := 67 }, [])
theorem zX10_readCut : gZ mX10_readCut 0 := ⟨gW_of 1765 (by decide +kernel) (by decide +kernel), wd_126, by decide +kernel, by decide +kernel, by decide +kernel⟩
def mX10_readShape : gM := (yX10_readShape, cX10_readShape, 3, none, { frames := 7, cells := 0, slots := 0, locals := 150 }, [])
theorem zX10_readShape : gZ mX10_readShape 0 := ⟨gW_of 1770 (by decide +kernel) (by decide +kernel), wd_126, by decide +kernel, by decide +kernel, by decide +kernel⟩
def mX10_readShoal : gM := (yX10_readShoal, cX10_readShoal, 2, none, { frames := 3, cells := 0, slots := 0, locals := 67 }, [])
theorem zX10_readShoal : gZ mX10_readShoal 0 := ⟨gW_of 1777 (by decide +kernel) (by decide +kernel), wd_126, by decide +kernel, by decide +kernel, by decide +kernel⟩
def mX10_readGauge : gM := (yX10_readGauge, cX10_readGauge, 2, none, { frames := 3, cells := 0, slots := 0, locals := 67 }, [])
theorem zX10_readGauge : gZ mX10_readGauge 0 := ⟨gW_of 1782 (by decide +kernel) (by decide +kernel), wd_126, by decide +kernel, by decide +kernel, by decide +kernel⟩
def mX10_readSlit : gM := (yX10_readSlit, cX10_readSlit, 5, none, { frames := 3, cells := 0, slots := 0, locals := 67 }, [])
theorem zX10_readSlit : gZ mX10_readSlit 0 := ⟨gW_of 1746 (by decide +kernel) (by decide +kernel), wd_126, by decide +kernel, by decide +kernel, by decide +kernel⟩
def mX10_readLine : gM := (yX10_readLine, cX10_readLine, 1, none, { frames := 9, cells := 0, slots := 0, locals := 192 }, [])
theorem zX10_readLine : gZ mX10_readLine 0 := ⟨gW_of 1717 (by decide +kernel) (by decide +kernel), wd_126, by decide +kernel, by decide +kernel, by decide +kernel⟩
def mX10_readText : gM := (yX10_readText, cX10_readText, 2, none, { frames := 10, cells := 0, slots := 0, locals := 214 }, [])
theorem zX10_readText : gZ mX10_readText 0 := ⟨gW_of 1659 (by decide +kernel) (by decide +kernel), wd_126, by decide +kernel, by decide +kernel, by decide +kernel⟩
def mX10_load : gM := (yX10_load, cX10_load, 3, (some .int), { frames := 11, cells := 0, slots := 0, locals := 235 }, [])
theorem zX10_load : gZ mX10_load 1 := ⟨gW_of 1648 (by decide +kernel) (by decide +kernel), wd_126, by decide +kernel, by decide +kernel, by decide +kernel⟩
def mX10_copy : gM := (yX10_copy, cX10_copy, 5, none, { frames := 0, cells := 0, slots := 0, locals := 0 }, [])
theorem zX10_copy : gZ mX10_copy 4 := ⟨gW_of 1785 (by decide +kernel) (by decide +kernel), wd_126, by decide +kernel, by decide +kernel, by decide +kernel⟩
def mX10_remember : gM := (yX10_remember, cX10_remember, 2, none, { frames := 1, cells := 0, slots := 0, locals := 24 }, [])
theorem zX10_remember : gZ mX10_remember 0 := ⟨gW_of 2183 (by decide +kernel) (by decide +kernel), wd_126, by decide +kernel, by decide +kernel, by decide +kernel⟩
def mX10_root : gM := (yX10_root, cX10_root, 3, (some .int), { frames := 0, cells := 0, slots := 0, locals := 0 }, [])
theorem zX10_root : gZ mX10_root 1 := ⟨gW_of 1893 (by decide +kernel) (by decide +kernel), wd_126, by decide +kernel, by decide +kernel, by decide +kernel⟩
def mX10_far : gM := (yX10_far, cX10_far, 4, (some .int), { frames := 1, cells := 0, slots := 0, locals := 24 }, [])
theorem zX10_far : gZ mX10_far 2 := ⟨gW_of 1890 (by decide +kernel) (by decide +kernel), wd_126, by decide +kernel, by decide +kernel, by decide +kernel⟩
def mX10_columnOf : gM := (yX10_columnOf, cX10_columnOf, 4, (some .int), { frames := 1, cells := 0, slots := 0, locals := 24 }, [])
theorem zX10_columnOf : gZ mX10_columnOf 3 := ⟨gW_of 1848 (by decide +kernel) (by decide +kernel), wd_126, by decide +kernel, by decide +kernel, by decide +kernel⟩
def mX10_rowOf : gM := (yX10_rowOf, cX10_rowOf, 4, (some .int), { frames := 1, cells := 0, slots := 0, locals := 24 }, [])
theorem zX10_rowOf : gZ mX10_rowOf 3 := ⟨gW_of 1854 (by decide +kernel) (by decide +kernel), wd_126, by decide +kernel, by decide +kernel, by decide +kernel⟩
def mX10_hasWall : gM := (yX10_hasWall, cX10_hasWall, 1, (some .boolean), { frames := 0, cells := 0, slots := 0, locals := 0 }, [])
theorem zX10_hasWall : gZ mX10_hasWall 0 := ⟨gW_of 1914 (by decide +kernel) (by decide +kernel), wd_126, by decide +kernel, by decide +kernel, by decide +kernel⟩
def mX10_isOpenIn : gM := (yX10_isOpenIn, cX10_isOpenIn, 3, (some .boolean), { frames := 0, cells := 0, slots := 0, locals := 0 }, [])
theorem zX10_isOpenIn : gZ mX10_isOpenIn 2 := ⟨gW_of 1825 (by decide +kernel) (by decide +kernel), wd_126, by decide +kernel, by decide +kernel, by decide +kernel⟩
def mX10_isCut : gM := (yX10_isCut, cX10_isCut, 3, (some .boolean), { frames := 1, cells := 0, slots := 0, locals := 20 }, [])
theorem zX10_isCut : gZ mX10_isCut 2 := ⟨gW_of 1910 (by decide +kernel) (by decide +kernel), wd_126, by decide +kernel, by decide +kernel, by decide +kernel⟩
def mX10_isShut : gM := (yX10_isShut, cX10_isShut, 4, (some .boolean), { frames := 1, cells := 0, slots := 0, locals := 22 }, [])
theorem zX10_isShut : gZ mX10_isShut 3 := ⟨gW_of 1934 (by decide +kernel) (by decide +kernel), wd_126, by decide +kernel, by decide +kernel, by decide +kernel⟩
def mX10_through : gM := (yX10_through, cX10_through, 6, (some .int), { frames := 2, cells := 0, slots := 0, locals := 47 }, [])
theorem zX10_through : gZ mX10_through 5 := ⟨gW_of 1922 (by decide +kernel) (by decide +kernel), wd_126, by decide +kernel, by decide +kernel, by decide +kernel⟩
def mX10_shortestIn : gM := (yX10_shortestIn, cX10_shortestIn, 11, (some .int), { frames := 3, cells := 0, slots := 0, locals := 72 }, [])
theorem zX10_shortestIn : gZ mX10_shortestIn 5 := ⟨gW_of 1930 (by decide +kernel) (by decide +kernel), wd_126, by decide +kernel, by decide +kernel, by decide +kernel⟩
def mX10_isCutOff : gM := (yX10_isCutOff, cX10_isCutOff, 5, (some .boolean), { frames := 1, cells := 0, slots := 0, locals := 22 }, [])
theorem zX10_isCutOff : gZ mX10_isCutOff 2 := ⟨gW_of 1874 (by decide +kernel) (by decide +kernel), wd_126, by decide +kernel, by decide +kernel, by decide +kernel⟩
def mX10_emits : gM := (yX10_emits, cX10_emits, 6, (some .int), { frames := 2, cells := 0, slots := 0, locals := 46 }, [])
theorem zX10_emits : gZ mX10_emits 3 := ⟨gW_of 1870 (by decide +kernel) (by decide +kernel), wd_126, by decide +kernel, by decide +kernel, by decide +kernel⟩
def mX10_sineOf : gM := (yX10_sineOf, cX10_sineOf, 3, (some .int), { frames := 0, cells := 0, slots := 0, locals := 0 }, [])
theorem zX10_sineOf : gZ mX10_sineOf 1 := ⟨gW_of 1881 (by decide +kernel) (by decide +kernel), wd_126, by decide +kernel, by decide +kernel, by decide +kernel⟩
def mX10_valueAt : gM := (yX10_valueAt, cX10_valueAt, 3, (some .int), { frames := 1, cells := 0, slots := 0, locals := 22 }, [])
theorem zX10_valueAt : gZ mX10_valueAt 2 := ⟨gW_of 2005 (by decide +kernel) (by decide +kernel), wd_126, by decide +kernel, by decide +kernel, by decide +kernel⟩
def mX10_angleOf : gM := (yX10_angleOf, cX10_angleOf, 6, (some .int), { frames := 0, cells := 0, slots := 0, locals := 0 }, [])
theorem zX10_angleOf : gZ mX10_angleOf 4 := ⟨gW_of 1942 (by decide +kernel) (by decide +kernel), wd_126, by decide +kernel, by decide +kernel, by decide +kernel⟩
def mX10_delayOf : gM := (yX10_delayOf, cX10_delayOf, 3, (some .int), { frames := 0, cells := 0, slots := 0, locals := 0 }, [])
theorem zX10_delayOf : gZ mX10_delayOf 2 := ⟨gW_of 1954 (by decide +kernel) (by decide +kernel), wd_126, by decide +kernel, by decide +kernel, by decide +kernel⟩
def mX10_brought : gM := (yX10_brought, cX10_brought, 6, (some .int), { frames := 3, cells := 0, slots := 0, locals := 71 }, [])
theorem zX10_brought : gZ mX10_brought 4 := ⟨gW_of 2001 (by decide +kernel) (by decide +kernel), wd_126, by decide +kernel, by decide +kernel, by decide +kernel⟩
def mX10_broughtBy : gM := (yX10_broughtBy, cX10_broughtBy, 10, (some .int), { frames := 4, cells := 0, slots := 0, locals := 96 }, [])
theorem zX10_broughtBy : gZ mX10_broughtBy 6 := ⟨gW_of 1997 (by decide +kernel) (by decide +kernel), wd_126, by decide +kernel, by decide +kernel, by decide +kernel⟩
def mX10_ones : gM := (yX10_ones, cX10_ones, 3, (some .int), { frames := 0, cells := 0, slots := 0, locals := 0 }, [])
theorem zX10_ones : gZ mX10_ones 1 := ⟨gW_of 2008 (by decide +kernel) (by decide +kernel), wd_126, by decide +kernel, by decide +kernel, by decide +kernel⟩
def mX10_partIn : gM := (yX10_partIn, cX10_partIn, 10, (some .int), { frames := 5, cells := 0, slots := 0, locals := 125 }, [])
theorem zX10_partIn : gZ mX10_partIn 5 := ⟨gW_of 1993 (by decide +kernel) (by decide +kernel), wd_126, by decide +kernel, by decide +kernel, by decide +kernel⟩
def mX10_waveIn : gM := (yX10_waveIn, cX10_waveIn, 8, (some .int), { frames := 6, cells := 0, slots := 0, locals := 154 }, [])
theorem zX10_waveIn : gZ mX10_waveIn 4 := ⟨gW_of 1989 (by decide +kernel) (by decide +kernel), wd_126, by decide +kernel, by decide +kernel, by decide +kernel⟩
def mX10_isNodeIn : gM := (yX10_isNodeIn, cX10_isNodeIn, 7, (some .boolean), { frames := 7, cells := 0, slots := 0, locals := 181 }, [])
theorem zX10_isNodeIn : gZ mX10_isNodeIn 5 := ⟨gW_of 2043 (by decide +kernel) (by decide +kernel), wd_126, by decide +kernel, by decide +kernel, by decide +kernel⟩
def mX10_energyIn : gM := (yX10_energyIn, cX10_energyIn, 10, (some .long), { frames := 7, cells := 0, slots := 0, locals := 181 }, [])
theorem zX10_energyIn : gZ mX10_energyIn 4 := ⟨gW_of 2075 (by decide +kernel) (by decide +kernel), wd_126, by decide +kernel, by decide +kernel, by decide +kernel⟩
def mX10_mayAsk : gM := (yX10_mayAsk, cX10_mayAsk, 2, (some .boolean), { frames := 0, cells := 0, slots := 0, locals := 0 }, [])
theorem zX10_mayAsk : gZ mX10_mayAsk 1 := ⟨gW_of 1809 (by decide +kernel) (by decide +kernel), wd_126, by decide +kernel, by decide +kernel, by decide +kernel⟩
def mX10_mayAskFor : gM := (yX10_mayAskFor, cX10_mayAskFor, 3, (some .boolean), { frames := 0, cells := 0, slots := 0, locals := 0 }, [])
theorem zX10_mayAskFor : gZ mX10_mayAskFor 2 := ⟨gW_of 1844 (by decide +kernel) (by decide +kernel), wd_126, by decide +kernel, by decide +kernel, by decide +kernel⟩
def mX10_told : gM := (yX10_told, cX10_told, 2, (some .int), { frames := 0, cells := 0, slots := 0, locals := 0 }, [])
theorem zX10_told : gZ mX10_told 1 := ⟨gW_of 1793 (by decide +kernel) (by decide +kernel), wd_126, by decide +kernel, by decide +kernel, by decide +kernel⟩
def mX10_isColumn : gM := (yX10_isColumn, cX10_isColumn, 2, (some .boolean), { frames := 1, cells := 0, slots := 0, locals := 22 }, [])
theorem zX10_isColumn : gZ mX10_isColumn 1 := ⟨gW_of 1906 (by decide +kernel) (by decide +kernel), wd_126, by decide +kernel, by decide +kernel, by decide +kernel⟩
def mX10_isRow : gM := (yX10_isRow, cX10_isRow, 2, (some .boolean), { frames := 1, cells := 0, slots := 0, locals := 22 }, [])
theorem zX10_isRow : gZ mX10_isRow 1 := ⟨gW_of 1821 (by decide +kernel) (by decide +kernel), wd_126, by decide +kernel, by decide +kernel, by decide +kernel⟩
def mX10_isCell : gM := (yX10_isCell, cX10_isCell, 3, (some .boolean), { frames := 2, cells := 0, slots := 0, locals := 43 }, [])
theorem zX10_isCell : gZ mX10_isCell 2 := ⟨gW_of 1902 (by decide +kernel) (by decide +kernel), wd_126, by decide +kernel, by decide +kernel, by decide +kernel⟩
def mX10_isSource : gM := (yX10_isSource, cX10_isSource, 2, (some .boolean), { frames := 1, cells := 0, slots := 0, locals := 22 }, [])
theorem zX10_isSource : gZ mX10_isSource 1 := ⟨gW_of 1837 (by decide +kernel) (by decide +kernel), wd_126, by decide +kernel, by decide +kernel, by decide +kernel⟩
def mX10_isTime : gM := (yX10_isTime, cX10_isTime, 1, (some .boolean), { frames := 1, cells := 0, slots := 0, locals := 22 }, [])
theorem zX10_isTime : gZ mX10_isTime 1 := ⟨gW_of 1840 (by decide +kernel) (by decide +kernel), wd_126, by decide +kernel, by decide +kernel, by decide +kernel⟩
def mX10_isRun : gM := (yX10_isRun, cX10_isRun, 1, (some .boolean), { frames := 1, cells := 0, slots := 0, locals := 22 }, [])
theorem zX10_isRun : gZ mX10_isRun 1 := ⟨gW_of 1981 (by decide +kernel) (by decide +kernel), wd_126, by decide +kernel, by decide +kernel, by decide +kernel⟩
def mX10_isTolerance : gM := (yX10_isTolerance, cX10_isTolerance, 1, (some .boolean), { frames := 1, cells := 0, slots := 0, locals := 22 }, [])
theorem zX10_isTolerance : gZ mX10_isTolerance 1 := ⟨gW_of 2035 (by decide +kernel) (by decide +kernel), wd_126, by decide +kernel, by decide +kernel, by decide +kernel⟩
def mX10_isShare : gM := (yX10_isShare, cX10_isShare, 1, (some .boolean), { frames := 1, cells := 0, slots := 0, locals := 22 }, [])
theorem zX10_isShare : gZ mX10_isShare 1 := ⟨gW_of 2099 (by decide +kernel) (by decide +kernel), wd_126, by decide +kernel, by decide +kernel, by decide +kernel⟩
def mX10_time : gM := (yX10_time, cX10_time, 1, (some .int), { frames := 1, cells := 0, slots := 0, locals := 21 }, [])
theorem zX10_time : gZ mX10_time 0 := ⟨gW_of 1789 (by decide +kernel) (by decide +kernel), wd_126, by decide +kernel, by decide +kernel, by decide +kernel⟩
def mX10_width : gM := (yX10_width, cX10_width, 1, (some .int), { frames := 1, cells := 0, slots := 0, locals := 21 }, [])
theorem zX10_width : gZ mX10_width 0 := ⟨gW_of 1797 (by decide +kernel) (by decide +kernel), wd_126, by decide +kernel, by decide +kernel, by decide +kernel⟩
def mX10_height : gM := (yX10_height, cX10_height, 1, (some .int), { frames := 1, cells := 0, slots := 0, locals := 21 }, [])
theorem zX10_height : gZ mX10_height 0 := ⟨gW_of 1801 (by decide +kernel) (by decide +kernel), wd_126, by decide +kernel, by decide +kernel, by decide +kernel⟩
def mX10_wall : gM := (yX10_wall, cX10_wall, 1, (some .int), { frames := 1, cells := 0, slots := 0, locals := 21 }, [])
theorem zX10_wall : gZ mX10_wall 0 := ⟨gW_of 1805 (by decide +kernel) (by decide +kernel), wd_126, by decide +kernel, by decide +kernel, by decide +kernel⟩
def mX10_openRows : gM := (yX10_openRows, cX10_openRows, 1, (some .int), { frames := 1, cells := 0, slots := 0, locals := 21 }, [])
theorem zX10_openRows : gZ mX10_openRows 0 := ⟨gW_of 1813 (by decide +kernel) (by decide +kernel), wd_126, by decide +kernel, by decide +kernel, by decide +kernel⟩
def mX10_isOpen : gM := (yX10_isOpen, cX10_isOpen, 2, (some .boolean), { frames := 2, cells := 0, slots := 0, locals := 43 }, [])
theorem zX10_isOpen : gZ mX10_isOpen 1 := ⟨gW_of 1817 (by decide +kernel) (by decide +kernel), wd_126, by decide +kernel, by decide +kernel, by decide +kernel⟩
def mX10_sources : gM := (yX10_sources, cX10_sources, 1, (some .int), { frames := 1, cells := 0, slots := 0, locals := 21 }, [])
theorem zX10_sources : gZ mX10_sources 0 := ⟨gW_of 1829 (by decide +kernel) (by decide +kernel), wd_126, by decide +kernel, by decide +kernel, by decide +kernel⟩
def mX10_sourceAt : gM := (yX10_sourceAt, cX10_sourceAt, 4, (some .int), { frames := 2, cells := 0, slots := 0, locals := 47 }, [])
theorem zX10_sourceAt : gZ mX10_sourceAt 3 := ⟨gW_of 1833 (by decide +kernel) (by decide +kernel), wd_126, by decide +kernel, by decide +kernel, by decide +kernel⟩
def mX10_property : gM := (yX10_property, cX10_property, 3, (some .int), { frames := 2, cells := 0, slots := 0, locals := 43 }, [])
theorem zX10_property : gZ mX10_property 2 := ⟨gW_of 1858 (by decide +kernel) (by decide +kernel), wd_126, by decide +kernel, by decide +kernel, by decide +kernel⟩
def mX10_isOn : gM := (yX10_isOn, cX10_isOn, 2, (some .boolean), { frames := 2, cells := 0, slots := 0, locals := 43 }, [])
theorem zX10_isOn : gZ mX10_isOn 1 := ⟨gW_of 1862 (by decide +kernel) (by decide +kernel), wd_126, by decide +kernel, by decide +kernel, by decide +kernel⟩
def mX10_amplitude : gM := (yX10_amplitude, cX10_amplitude, 3, (some .int), { frames := 3, cells := 0, slots := 0, locals := 71 }, [])
theorem zX10_amplitude : gZ mX10_amplitude 2 := ⟨gW_of 1866 (by decide +kernel) (by decide +kernel), wd_126, by decide +kernel, by decide +kernel, by decide +kernel⟩
def mX10_sine : gM := (yX10_sine, cX10_sine, 2, (some .int), { frames := 1, cells := 0, slots := 0, locals := 22 }, [])
theorem zX10_sine : gZ mX10_sine 1 := ⟨gW_of 1878 (by decide +kernel) (by decide +kernel), wd_126, by decide +kernel, by decide +kernel, by decide +kernel⟩
def mX10_distance : gM := (yX10_distance, cX10_distance, 3, (some .int), { frames := 2, cells := 0, slots := 0, locals := 47 }, [])
theorem zX10_distance : gZ mX10_distance 2 := ⟨gW_of 1886 (by decide +kernel) (by decide +kernel), wd_126, by decide +kernel, by decide +kernel, by decide +kernel⟩
def mX10_isBehind : gM := (yX10_isBehind, cX10_isBehind, 4, (some .boolean), { frames := 3, cells := 0, slots := 0, locals := 65 }, [])
theorem zX10_isBehind : gZ mX10_isBehind 3 := ⟨gW_of 1898 (by decide +kernel) (by decide +kernel), wd_126, by decide +kernel, by decide +kernel, by decide +kernel⟩
def mX10_path : gM := (yX10_path, cX10_path, 5, (some .int), { frames := 3, cells := 0, slots := 0, locals := 72 }, [])
theorem zX10_path : gZ mX10_path 4 := ⟨gW_of 1918 (by decide +kernel) (by decide +kernel), wd_126, by decide +kernel, by decide +kernel, by decide +kernel⟩
def mX10_shortest : gM := (yX10_shortest, cX10_shortest, 4, (some .int), { frames := 4, cells := 0, slots := 0, locals := 102 }, [])
theorem zX10_shortest : gZ mX10_shortest 3 := ⟨gW_of 1926 (by decide +kernel) (by decide +kernel), wd_126, by decide +kernel, by decide +kernel, by decide +kernel⟩
def mX10_phase : gM := (yX10_phase, cX10_phase, 5, (some .int), { frames := 4, cells := 0, slots := 0, locals := 102 }, [])
theorem zX10_phase : gZ mX10_phase 3 := ⟨gW_of 1938 (by decide +kernel) (by decide +kernel), wd_126, by decide +kernel, by decide +kernel, by decide +kernel⟩
def mX10_arrivalOf : gM := (yX10_arrivalOf, cX10_arrivalOf, 5, (some .int), { frames := 4, cells := 0, slots := 0, locals := 102 }, [])
theorem zX10_arrivalOf : gZ mX10_arrivalOf 3 := ⟨gW_of 1950 (by decide +kernel) (by decide +kernel), wd_126, by decide +kernel, by decide +kernel, by decide +kernel⟩
def mX10_arrival : gM := (yX10_arrival, cX10_arrival, 4, (some .int), { frames := 5, cells := 0, slots := 0, locals := 126 }, [])
theorem zX10_arrival : gZ mX10_arrival 3 := ⟨gW_of 1946 (by decide +kernel) (by decide +kernel), wd_126, by decide +kernel, by decide +kernel, by decide +kernel⟩
def mX10_reached : gM := (yX10_reached, cX10_reached, 4, (some .int), { frames := 5, cells := 0, slots := 0, locals := 126 }, [])
theorem zX10_reached : gZ mX10_reached 1 := ⟨gW_of 1958 (by decide +kernel) (by decide +kernel), wd_126, by decide +kernel, by decide +kernel, by decide +kernel⟩
def mX10_isGauge : gM := (yX10_isGauge, cX10_isGauge, 2, (some .boolean), { frames := 1, cells := 0, slots := 0, locals := 22 }, [])
theorem zX10_isGauge : gZ mX10_isGauge 1 := ⟨gW_of 1974 (by decide +kernel) (by decide +kernel), wd_126, by decide +kernel, by decide +kernel, by decide +kernel⟩
def mX10_gaugeWave : gM := (yX10_gaugeWave, cX10_gaugeWave, 3, (some .int), { frames := 7, cells := 0, slots := 0, locals := 181 }, [])
theorem zX10_gaugeWave : gZ mX10_gaugeWave 2 := ⟨gW_of 1985 (by decide +kernel) (by decide +kernel), wd_126, by decide +kernel, by decide +kernel, by decide +kernel⟩
def mX10_gauges : gM := (yX10_gauges, cX10_gauges, 1, (some .int), { frames := 1, cells := 0, slots := 0, locals := 21 }, [])
theorem zX10_gauges : gZ mX10_gauges 0 := ⟨gW_of 1966 (by decide +kernel) (by decide +kernel), wd_126, by decide +kernel, by decide +kernel, by decide +kernel⟩
def mX10_gaugeAt : gM := (yX10_gaugeAt, cX10_gaugeAt, 3, (some .int), { frames := 2, cells := 0, slots := 0, locals := 43 }, [])
theorem zX10_gaugeAt : gZ mX10_gaugeAt 2 := ⟨gW_of 1970 (by decide +kernel) (by decide +kernel), wd_126, by decide +kernel, by decide +kernel, by decide +kernel⟩
def mX10_peak : gM := (yX10_peak, cX10_peak, 5, (some .int), { frames := 8, cells := 0, slots := 0, locals := 203 }, [])
theorem zX10_peak : gZ mX10_peak 2 := ⟨gW_of 1978 (by decide +kernel) (by decide +kernel), wd_126, by decide +kernel, by decide +kernel, by decide +kernel⟩
def mX10_crossings : gM := (yX10_crossings, cX10_crossings, 7, (some .int), { frames := 8, cells := 0, slots := 0, locals := 203 }, [])
theorem zX10_crossings : gZ mX10_crossings 2 := ⟨gW_of 2012 (by decide +kernel) (by decide +kernel), wd_126, by decide +kernel, by decide +kernel, by decide +kernel⟩
def mX10_rhythm : gM := (yX10_rhythm, cX10_rhythm, 10, (some .int), { frames := 8, cells := 0, slots := 0, locals := 203 }, [])
theorem zX10_rhythm : gZ mX10_rhythm 2 := ⟨gW_of 2016 (by decide +kernel) (by decide +kernel), wd_126, by decide +kernel, by decide +kernel, by decide +kernel⟩
def mX10_part : gM := (yX10_part, cX10_part, 4, (some .int), { frames := 6, cells := 0, slots := 0, locals := 154 }, [])
theorem zX10_part : gZ mX10_part 3 := ⟨gW_of 2020 (by decide +kernel) (by decide +kernel), wd_126, by decide +kernel, by decide +kernel, by decide +kernel⟩
def mX10_wave : gM := (yX10_wave, cX10_wave, 3, (some .int), { frames := 7, cells := 0, slots := 0, locals := 181 }, [])
theorem zX10_wave : gZ mX10_wave 2 := ⟨gW_of 2024 (by decide +kernel) (by decide +kernel), wd_126, by decide +kernel, by decide +kernel, by decide +kernel⟩
def mX10_waveAt : gM := (yX10_waveAt, cX10_waveAt, 4, (some .int), { frames := 7, cells := 0, slots := 0, locals := 181 }, [])
theorem zX10_waveAt : gZ mX10_waveAt 3 := ⟨gW_of 2028 (by decide +kernel) (by decide +kernel), wd_126, by decide +kernel, by decide +kernel, by decide +kernel⟩
def mX10_quietIn : gM := (yX10_quietIn, cX10_quietIn, 6, (some .int), { frames := 7, cells := 0, slots := 0, locals := 181 }, [])
theorem zX10_quietIn : gZ mX10_quietIn 4 := ⟨gW_of 2032 (by decide +kernel) (by decide +kernel), wd_126, by decide +kernel, by decide +kernel, by decide +kernel⟩
def mX10_laysNodes : gM := (yX10_laysNodes, cX10_laysNodes, 7, (some .int), { frames := 8, cells := 0, slots := 0, locals := 207 }, [])
theorem zX10_laysNodes : gZ mX10_laysNodes 3 := ⟨gW_of 2051 (by decide +kernel) (by decide +kernel), wd_126, by decide +kernel, by decide +kernel, by decide +kernel⟩
def mX10_isNode : gM := (yX10_isNode, cX10_isNode, 5, (some .boolean), { frames := 8, cells := 0, slots := 0, locals := 207 }, [])
theorem zX10_isNode : gZ mX10_isNode 4 := ⟨gW_of 2039 (by decide +kernel) (by decide +kernel), wd_126, by decide +kernel, by decide +kernel, by decide +kernel⟩
def mX10_nodes : gM := (yX10_nodes, cX10_nodes, 3, (some .int), { frames := 9, cells := 0, slots := 0, locals := 233 }, [])
theorem zX10_nodes : gZ mX10_nodes 2 := ⟨gW_of 2047 (by decide +kernel) (by decide +kernel), wd_126, by decide +kernel, by decide +kernel, by decide +kernel⟩
def mX10_nodeRows : gM := (yX10_nodeRows, cX10_nodeRows, 6, (some .int), { frames := 8, cells := 0, slots := 0, locals := 207 }, [])
theorem zX10_nodeRows : gZ mX10_nodeRows 3 := ⟨gW_of 2055 (by decide +kernel) (by decide +kernel), wd_126, by decide +kernel, by decide +kernel, by decide +kernel⟩
def mX10_crossesOne : gM := (yX10_crossesOne, cX10_crossesOne, 3, none, { frames := 3, cells := 0, slots := 0, locals := 65 }, [])
theorem zX10_crossesOne : gZ mX10_crossesOne 2 := ⟨gW_of 2067 (by decide +kernel) (by decide +kernel), wd_126, by decide +kernel, by decide +kernel, by decide +kernel⟩
def mX10_crosses : gM := (yX10_crosses, cX10_crosses, 6, none, { frames := 4, cells := 0, slots := 0, locals := 87 }, [])
theorem zX10_crosses : gZ mX10_crosses 2 := ⟨gW_of 2063 (by decide +kernel) (by decide +kernel), wd_126, by decide +kernel, by decide +kernel, by decide +kernel⟩
def mX10_nodeGroups : gM := (yX10_nodeGroups, cX10_nodeGroups, 7, (some .int), { frames := 9, cells := 0, slots := 0, locals := 233 }, [])
theorem zX10_nodeGroups : gZ mX10_nodeGroups 2 := ⟨gW_of 2059 (by decide +kernel) (by decide +kernel), wd_126, by decide +kernel, by decide +kernel, by decide +kernel⟩
def mX10_cellCount : gM := (yX10_cellCount, cX10_cellCount, 1, (some .int), { frames := 0, cells := 0, slots := 0, locals := 0 }, [])
theorem zX10_cellCount : gZ mX10_cellCount 0 := ⟨gW_of 1962 (by decide +kernel) (by decide +kernel), wd_126, by decide +kernel, by decide +kernel, by decide +kernel⟩
def mX10_laysEnergies : gM := (yX10_laysEnergies, cX10_laysEnergies, 5, (some .long), { frames := 8, cells := 0, slots := 0, locals := 210 }, [])
theorem zX10_laysEnergies : gZ mX10_laysEnergies 1 := ⟨gW_of 2087 (by decide +kernel) (by decide +kernel), wd_126, by decide +kernel, by decide +kernel, by decide +kernel⟩
def mX10_energy : gM := (yX10_energy, cX10_energy, 4, (some .long), { frames := 8, cells := 0, slots := 0, locals := 210 }, [])
theorem zX10_energy : gZ mX10_energy 3 := ⟨gW_of 2071 (by decide +kernel) (by decide +kernel), wd_126, by decide +kernel, by decide +kernel, by decide +kernel⟩
def mX10_rowEnergy : gM := (yX10_rowEnergy, cX10_rowEnergy, 6, (some .long), { frames := 8, cells := 0, slots := 0, locals := 210 }, [])
theorem zX10_rowEnergy : gZ mX10_rowEnergy 2 := ⟨gW_of 2079 (by decide +kernel) (by decide +kernel), wd_126, by decide +kernel, by decide +kernel, by decide +kernel⟩
def mX10_allEnergy : gM := (yX10_allEnergy, cX10_allEnergy, 7, (some .long), { frames := 9, cells := 0, slots := 0, locals := 234 }, [])
theorem zX10_allEnergy : gZ mX10_allEnergy 1 := ⟨gW_of 2083 (by decide +kernel) (by decide +kernel), wd_126, by decide +kernel, by decide +kernel, by decide +kernel⟩
def mX10_strongest : gM := (yX10_strongest, cX10_strongest, 8, (some .int), { frames := 9, cells := 0, slots := 0, locals := 234 }, [])
theorem zX10_strongest : gZ mX10_strongest 2 := ⟨gW_of 2092 (by decide +kernel) (by decide +kernel), wd_126, by decide +kernel, by decide +kernel, by decide +kernel⟩
def mX10_isMarked : gM := (yX10_isMarked, cX10_isMarked, 6, (some .boolean), { frames := 0, cells := 0, slots := 0, locals := 0 }, [])
theorem zX10_isMarked : gZ mX10_isMarked 3 := ⟨gW_of 2103 (by decide +kernel) (by decide +kernel), wd_126, by decide +kernel, by decide +kernel, by decide +kernel⟩
def mX10_marks : gM := (yX10_marks, cX10_marks, 7, (some .int), { frames := 9, cells := 0, slots := 0, locals := 234 }, [])
theorem zX10_marks : gZ mX10_marks 2 := ⟨gW_of 2096 (by decide +kernel) (by decide +kernel), wd_126, by decide +kernel, by decide +kernel, by decide +kernel⟩
def mX10_isMark : gM := (yX10_isMark, cX10_isMark, 7, (some .boolean), { frames := 9, cells := 0, slots := 0, locals := 234 }, [])
theorem zX10_isMark : gZ mX10_isMark 4 := ⟨gW_of 2108 (by decide +kernel) (by decide +kernel), wd_126, by decide +kernel, by decide +kernel, by decide +kernel⟩
def mX10_laysColumn : gM := (yX10_laysColumn, cX10_laysColumn, 4, none, { frames := 8, cells := 0, slots := 0, locals := 210 }, [])
theorem zX10_laysColumn : gZ mX10_laysColumn 2 := ⟨gW_of 2116 (by decide +kernel) (by decide +kernel), wd_126, by decide +kernel, by decide +kernel, by decide +kernel⟩
def mX10_fringes : gM := (yX10_fringes, cX10_fringes, 5, (some .int), { frames := 9, cells := 0, slots := 0, locals := 233 }, [])
theorem zX10_fringes : gZ mX10_fringes 2 := ⟨gW_of 2112 (by decide +kernel) (by decide +kernel), wd_126, by decide +kernel, by decide +kernel, by decide +kernel⟩
def mX10_visibility : gM := (yX10_visibility, cX10_visibility, 8, (some .float), { frames := 9, cells := 0, slots := 0, locals := 233 }, [])
theorem zX10_visibility : gZ mX10_visibility 2 := ⟨gW_of 2120 (by decide +kernel) (by decide +kernel), wd_126, by decide +kernel, by decide +kernel, by decide +kernel⟩
def mX10_writesByte : gM := (yX10_writesByte, cX10_writesByte, 2, none, { frames := 0, cells := 0, slots := 0, locals := 0 }, [])
theorem zX10_writesByte : gZ mX10_writesByte 1 := ⟨gW_of 2129 (by decide +kernel) (by decide +kernel), wd_126, by decide +kernel, by decide +kernel, by decide +kernel⟩
def mX10_writesNumber : gM := (yX10_writesNumber, cX10_writesNumber, 4, none, { frames := 1, cells := 0, slots := 0, locals := 24 }, [])
theorem zX10_writesNumber : gZ mX10_writesNumber 1 := ⟨gW_of 2133 (by decide +kernel) (by decide +kernel), wd_126, by decide +kernel, by decide +kernel, by decide +kernel⟩
def mX10_writeRow : gM := (yX10_writeRow, cX10_writeRow, 3, (some .int), { frames := 7, cells := 0, slots := 0, locals := 181 }, [])
theorem zX10_writeRow : gZ mX10_writeRow 1 := ⟨gW_of 2125 (by decide +kernel) (by decide +kernel), wd_126, by decide +kernel, by decide +kernel, by decide +kernel⟩
def mX10_writeMap : gM := (yX10_writeMap, cX10_writeMap, 5, (some .int), { frames := 9, cells := 0, slots := 0, locals := 234 }, [])
theorem zX10_writeMap : gZ mX10_writeMap 1 := ⟨gW_of 2137 (by decide +kernel) (by decide +kernel), wd_126, by decide +kernel, by decide +kernel, by decide +kernel⟩
def mX10_textByte : gM := (yX10_textByte, cX10_textByte, 2, (some .int), { frames := 1, cells := 0, slots := 0, locals := 22 }, [])
theorem zX10_textByte : gZ mX10_textByte 1 := ⟨gW_of 2142 (by decide +kernel) (by decide +kernel), wd_126, by decide +kernel, by decide +kernel, by decide +kernel⟩
def mX10_tries : gM := (yX10_tries, cX10_tries, 3, none, { frames := 1, cells := 0, slots := 0, locals := 24 }, [])
theorem zX10_tries : gZ mX10_tries 2 := ⟨gW_of 2150 (by decide +kernel) (by decide +kernel), wd_126, by decide +kernel, by decide +kernel, by decide +kernel⟩
def mX10_nodesIfOff : gM := (yX10_nodesIfOff, cX10_nodesIfOff, 4, (some .int), { frames := 9, cells := 0, slots := 0, locals := 233 }, [])
theorem zX10_nodesIfOff : gZ mX10_nodesIfOff 3 := ⟨gW_of 2146 (by decide +kernel) (by decide +kernel), wd_126, by decide +kernel, by decide +kernel, by decide +kernel⟩
def mX10_bestPhase : gM := (yX10_bestPhase, cX10_bestPhase, 11, (some .int), { frames := 8, cells := 0, slots := 0, locals := 210 }, [])
theorem zX10_bestPhase : gZ mX10_bestPhase 4 := ⟨gW_of 2154 (by decide +kernel) (by decide +kernel), wd_126, by decide +kernel, by decide +kernel, by decide +kernel⟩
def mX10_bestPlace : gM := (yX10_bestPlace, cX10_bestPlace, 11, (some .int), { frames := 8, cells := 0, slots := 0, locals := 210 }, [])
theorem zX10_bestPlace : gZ mX10_bestPlace 4 := ⟨gW_of 2158 (by decide +kernel) (by decide +kernel), wd_126, by decide +kernel, by decide +kernel, by decide +kernel⟩
def mX10_turnedEnergy : gM := (yX10_turnedEnergy, cX10_turnedEnergy, 5, (some .long), { frames := 8, cells := 0, slots := 0, locals := 210 }, [])
theorem zX10_turnedEnergy : gZ mX10_turnedEnergy 4 := ⟨gW_of 2166 (by decide +kernel) (by decide +kernel), wd_126, by decide +kernel, by decide +kernel, by decide +kernel⟩
def mX10_energyIfTurned : gM := (yX10_energyIfTurned, cX10_energyIfTurned, 5, (some .long), { frames := 9, cells := 0, slots := 0, locals := 234 }, [])
theorem zX10_energyIfTurned : gZ mX10_energyIfTurned 4 := ⟨gW_of 2162 (by decide +kernel) (by decide +kernel), wd_126, by decide +kernel, by decide +kernel, by decide +kernel⟩
def mX10_bestRow : gM := (yX10_bestRow, cX10_bestRow, 10, (some .int), { frames := 9, cells := 0, slots := 0, locals := 234 }, [])
theorem zX10_bestRow : gZ mX10_bestRow 3 := ⟨gW_of 2171 (by decide +kernel) (by decide +kernel), wd_126, by decide +kernel, by decide +kernel, by decide +kernel⟩
def mX10_sets : gM := (yX10_sets, cX10_sets, 4, (some .int), { frames := 2, cells := 0, slots := 0, locals := 45 }, [])
theorem zX10_sets : gZ mX10_sets 2 := ⟨gW_of 2179 (by decide +kernel) (by decide +kernel), wd_126, by decide +kernel, by decide +kernel, by decide +kernel⟩
def mX10_advance : gM := (yX10_advance, cX10_advance, 2, (some .int), { frames := 3, cells := 0, slots := 0, locals := 68 }, [])
theorem zX10_advance : gZ mX10_advance 1 := ⟨gW_of 2175 (by decide +kernel) (by decide +kernel), wd_126, by decide +kernel, by decide +kernel, by decide +kernel⟩
def mX10_setOn : gM := (yX10_setOn, cX10_setOn, 3, (some .boolean), { frames := 3, cells := 0, slots := 0, locals := 68 }, [])
theorem zX10_setOn : gZ mX10_setOn 2 := ⟨gW_of 2187 (by decide +kernel) (by decide +kernel), wd_126, by decide +kernel, by decide +kernel, by decide +kernel⟩
def mX10_setPhase : gM := (yX10_setPhase, cX10_setPhase, 3, (some .int), { frames := 3, cells := 0, slots := 0, locals := 68 }, [])
theorem zX10_setPhase : gZ mX10_setPhase 2 := ⟨gW_of 2191 (by decide +kernel) (by decide +kernel), wd_126, by decide +kernel, by decide +kernel, by decide +kernel⟩
def mX10_setAmp : gM := (yX10_setAmp, cX10_setAmp, 3, (some .int), { frames := 3, cells := 0, slots := 0, locals := 68 }, [])
theorem zX10_setAmp : gZ mX10_setAmp 2 := ⟨gW_of 2195 (by decide +kernel) (by decide +kernel), wd_126, by decide +kernel, by decide +kernel, by decide +kernel⟩
def mX10_setsTwo : gM := (yX10_setsTwo, cX10_setsTwo, 6, (some .int), { frames := 3, cells := 0, slots := 0, locals := 68 }, [])
theorem zX10_setsTwo : gZ mX10_setsTwo 4 := ⟨gW_of 2203 (by decide +kernel) (by decide +kernel), wd_126, by decide +kernel, by decide +kernel, by decide +kernel⟩
def mX10_moveSource : gM := (yX10_moveSource, cX10_moveSource, 4, (some .int), { frames := 4, cells := 0, slots := 0, locals := 93 }, [])
theorem zX10_moveSource : gZ mX10_moveSource 3 := ⟨gW_of 2199 (by decide +kernel) (by decide +kernel), wd_126, by decide +kernel, by decide +kernel, by decide +kernel⟩
def mX10_setDrift : gM := (yX10_setDrift, cX10_setDrift, 4, (some .int), { frames := 4, cells := 0, slots := 0, locals := 93 }, [])
theorem zX10_setDrift : gZ mX10_setDrift 3 := ⟨gW_of 2207 (by decide +kernel) (by decide +kernel), wd_126, by decide +kernel, by decide +kernel, by decide +kernel⟩
def mX10_turnRow : gM := (yX10_turnRow, cX10_turnRow, 3, (some .boolean), { frames := 3, cells := 0, slots := 0, locals := 68 }, [])
theorem zX10_turnRow : gZ mX10_turnRow 1 := ⟨gW_of 2211 (by decide +kernel) (by decide +kernel), wd_126, by decide +kernel, by decide +kernel, by decide +kernel⟩
def mX10_undo : gM := (yX10_undo, cX10_undo, 1, (some .int), { frames := 1, cells := 0, slots := 0, locals := 24 }, [])
theorem zX10_undo : gZ mX10_undo 0 := ⟨gW_of 2215 (by decide +kernel) (by decide +kernel), wd_126, by decide +kernel, by decide +kernel, by decide +kernel⟩
def mX10_undoable : gM := (yX10_undoable, cX10_undoable, 1, (some .int), { frames := 0, cells := 0, slots := 0, locals := 0 }, [])
theorem zX10_undoable : gZ mX10_undoable 0 := ⟨gW_of 2219 (by decide +kernel) (by decide +kernel), wd_126, by decide +kernel, by decide +kernel, by decide +kernel⟩
def mX10_save : gM := (yX10_save, cX10_save, 2, (some .int), { frames := 1, cells := 0, slots := 0, locals := 24 }, [])
theorem zX10_save : gZ mX10_save 1 := ⟨gW_of 2223 (by decide +kernel) (by decide +kernel), wd_126, by decide +kernel, by decide +kernel, by decide +kernel⟩
def mX10_restore : gM := (yX10_restore, cX10_restore, 2, (some .int), { frames := 1, cells := 0, slots := 0, locals := 24 }, [])
theorem zX10_restore : gZ mX10_restore 1 := ⟨gW_of 2227 (by decide +kernel) (by decide +kernel), wd_126, by decide +kernel, by decide +kernel, by decide +kernel⟩
def mJ6_bitCount_0f7a4 : gM := (yJ6_bitCount_0f7a4, cJ6_bitCount_0f7a4, 1, (some .int), { frames := 0, cells := 0, slots := 0, locals := 0 }, [])
theorem zJ6_bitCount_0f7a4 : gZ mJ6_bitCount_0f7a4 1 := ⟨gW_of 1107 (by decide +kernel) (by decide +kernel), wd_139, by decide +kernel, by decide +kernel, by decide +kernel⟩
def mJ9_floorMod_7cf53 : gM := (yJ9_floorMod_7cf53, cJ9_floorMod_7cf53, 3, (some .int), { frames := 0, cells := 0, slots := 0, locals := 0 }, [])
theorem zJ9_floorMod_7cf53 : gZ mJ9_floorMod_7cf53 2 := ⟨gW_of 1058 (by decide +kernel) (by decide +kernel), wd_138, by decide +kernel, by decide +kernel, by decide +kernel⟩
def mJ9_abs_0f7a4 : gM := (yJ9_abs_0f7a4, cJ9_abs_0f7a4, 1, (some .int), { frames := 0, cells := 0, slots := 0, locals := 0 }, [])
theorem zJ9_abs_0f7a4 : gZ mJ9_abs_0f7a4 1 := ⟨gW_of 992 (by decide +kernel) (by decide +kernel), wd_138, by decide +kernel, by decide +kernel, by decide +kernel⟩
def mJ9_max_7cf53 : gM := (yJ9_max_7cf53, cJ9_max_7cf53, 2, (some .int), { frames := 0, cells := 0, slots := 0, locals := 0 }, [])
theorem zJ9_max_7cf53 : gZ mJ9_max_7cf53 2 := ⟨gW_of 937 (by decide +kernel) (by decide +kernel), wd_138, by decide +kernel, by decide +kernel, by decide +kernel⟩
def mJ9_max_f86c9 : gM := (yJ9_max_f86c9, cJ9_max_f86c9, 4, (some .long), { frames := 0, cells := 0, slots := 0, locals := 0 }, [])
theorem zJ9_max_f86c9 : gZ mJ9_max_f86c9 2 := ⟨gW_of 1310 (by decide +kernel) (by decide +kernel), wd_138, by decide +kernel, by decide +kernel, by decide +kernel⟩
def mJ9_min_7cf53 : gM := (yJ9_min_7cf53, cJ9_min_7cf53, 2, (some .int), { frames := 0, cells := 0, slots := 0, locals := 0 }, [])
theorem zJ9_min_7cf53 : gZ mJ9_min_7cf53 2 := ⟨gW_of 934 (by decide +kernel) (by decide +kernel), wd_138, by decide +kernel, by decide +kernel, by decide +kernel⟩
def mJ9_min_f86c9 : gM := (yJ9_min_f86c9, cJ9_min_f86c9, 4, (some .long), { frames := 0, cells := 0, slots := 0, locals := 0 }, [])
theorem zJ9_min_f86c9 : gZ mJ9_min_f86c9 2 := ⟨gW_of 1346 (by decide +kernel) (by decide +kernel), wd_138, by decide +kernel, by decide +kernel, by decide +kernel⟩
def mJ0_length_8abf5 : gM := (yJ0_length_8abf5, cJ0_length_8abf5, 1, (some .int), { frames := 1, cells := 0, slots := 0, locals := 20 }, [])
theorem zJ0_length_8abf5 : gZ mJ0_length_8abf5 0 := ⟨gW_of 691 (by decide +kernel) (by decide +kernel), wd_132, by decide +kernel, by decide +kernel, by decide +kernel⟩
def mJ0_charAt_5068e : gM := (yJ0_charAt_5068e, cJ0_charAt_5068e, 2, (some .char), { frames := 4, cells := 0, slots := 0, locals := 85 }, [])
theorem zJ0_charAt_5068e : gZ mJ0_charAt_5068e 1 := ⟨gW_of 701 (by decide +kernel) (by decide +kernel), wd_132, by decide +kernel, by decide +kernel, by decide +kernel⟩
def mJ0_coder_7d493 : gM := (yJ0_coder_7d493, cJ0_coder_7d493, 1, (some .byte), { frames := 0, cells := 0, slots := 0, locals := 0 }, [])
theorem zJ0_coder_7d493 : gZ mJ0_coder_7d493 0 := ⟨gW_of 695 (by decide +kernel) (by decide +kernel), wd_132, by decide +kernel, by decide +kernel, by decide +kernel⟩
def mJ0_isLatin1_aae02 : gM := (yJ0_isLatin1_aae02, cJ0_isLatin1_aae02, 1, (some .boolean), { frames := 0, cells := 0, slots := 0, locals := 0 }, [])
theorem zJ0_isLatin1_aae02 : gZ mJ0_isLatin1_aae02 0 := ⟨gW_of 705 (by decide +kernel) (by decide +kernel), wd_132, by decide +kernel, by decide +kernel, by decide +kernel⟩
def mJ0_checkIndex_df160 : gM := (yJ0_checkIndex_df160, cJ0_checkIndex_df160, 2, none, { frames := 1, cells := 0, slots := 0, locals := 22 }, [])
theorem zJ0_checkIndex_df160 : gZ mJ0_checkIndex_df160 2 := ⟨gW_of 711 (by decide +kernel) (by decide +kernel), wd_132, by decide +kernel, by decide +kernel, by decide +kernel⟩
def mJ1_charAt_3b067 : gM := (yJ1_charAt_3b067, cJ1_charAt_3b067, 2, (some .char), { frames := 2, cells := 0, slots := 0, locals := 43 }, [])
theorem zJ1_charAt_3b067 : gZ mJ1_charAt_3b067 2 := ⟨gW_of 708 (by decide +kernel) (by decide +kernel), wd_133, by decide +kernel, by decide +kernel, by decide +kernel⟩
def mJ2_getChar_3b067 : gM := (yJ2_getChar_3b067, cJ2_getChar_3b067, 2, (some .char), { frames := 1, cells := 0, slots := 0, locals := 20 }, [])
theorem zJ2_getChar_3b067 : gZ mJ2_getChar_3b067 2 := ⟨gW_of 729 (by decide +kernel) (by decide +kernel), wd_135, by decide +kernel, by decide +kernel, by decide +kernel⟩
def mJ2_length_9d52b : gM := (yJ2_length_9d52b, cJ2_length_9d52b, 1, (some .int), { frames := 0, cells := 0, slots := 0, locals := 0 }, [])
theorem zJ2_length_9d52b : gZ mJ2_length_9d52b 1 := ⟨gW_of 725 (by decide +kernel) (by decide +kernel), wd_135, by decide +kernel, by decide +kernel, by decide +kernel⟩
def mJ2_charAt_3b067 : gM := (yJ2_charAt_3b067, cJ2_charAt_3b067, 2, (some .char), { frames := 3, cells := 0, slots := 0, locals := 64 }, [])
theorem zJ2_charAt_3b067 : gZ mJ2_charAt_3b067 2 := ⟨gW_of 719 (by decide +kernel) (by decide +kernel), wd_135, by decide +kernel, by decide +kernel, by decide +kernel⟩
def mJ2_checkIndex_2214a : gM := (yJ2_checkIndex_2214a, cJ2_checkIndex_2214a, 2, none, { frames := 2, cells := 0, slots := 0, locals := 43 }, [])
theorem zJ2_checkIndex_2214a : gZ mJ2_checkIndex_2214a 2 := ⟨gW_of 722 (by decide +kernel) (by decide +kernel), wd_135, by decide +kernel, by decide +kernel, by decide +kernel⟩
def mJ3_checkIndex_8e157 : gM := (yJ3_checkIndex_8e157, cJ3_checkIndex_8e157, 3, (some .int), { frames := 0, cells := 0, slots := 0, locals := 0 }, [])
theorem zJ3_checkIndex_8e157 : gZ mJ3_checkIndex_8e157 3 := ⟨gW_of 716 (by decide +kernel) (by decide +kernel), wd_134, by decide +kernel, by decide +kernel, by decide +kernel⟩
def mL_load : gM := (yL_load, cL_load, 4, (some .int), { frames := 11, cells := 3, slots := 26, locals := 238 }, [(0, 9, 12, 13), (0, 9, 15, 15)])
theorem zL_load : gZ mL_load 3 := ⟨gW_of 523 (by decide +kernel) (by decide +kernel), wd_116, by decide +kernel, by decide +kernel, by decide +kernel⟩
def mL_wall : gM := (yL_wall, cL_wall, 3, (some .int), { frames := 10, cells := 1, slots := 6, locals := 143 }, [(0, 8, 11, 21)])
theorem zL_wall : gZ mL_wall 2 := ⟨gW_of 863 (by decide +kernel) (by decide +kernel), wd_116, by decide +kernel, by decide +kernel, by decide +kernel⟩
def mL_openRows : gM := (yL_openRows, cL_openRows, 3, (some .int), { frames := 10, cells := 1, slots := 6, locals := 143 }, [(0, 8, 11, 21)])
theorem zL_openRows : gZ mL_openRows 2 := ⟨gW_of 891 (by decide +kernel) (by decide +kernel), wd_116, by decide +kernel, by decide +kernel, by decide +kernel⟩
def mL_isOpen : gM := (yL_isOpen, cL_isOpen, 4, (some .int), { frames := 10, cells := 2, slots := 12, locals := 145 }, [(0, 16, 19, 21), (0, 16, 22, 13)])
theorem zL_isOpen : gZ mL_isOpen 3 := ⟨gW_of 898 (by decide +kernel) (by decide +kernel), wd_116, by decide +kernel, by decide +kernel, by decide +kernel⟩
def mL_sourceAt : gM := (yL_sourceAt, cL_sourceAt, 6, (some .int), { frames := 10, cells := 4, slots := 24, locals := 148 }, [(0, 12, 15, 21), (0, 12, 19, 13), (0, 12, 23, 15)])
theorem zL_sourceAt : gZ mL_sourceAt 5 := ⟨gW_of 914 (by decide +kernel) (by decide +kernel), wd_116, by decide +kernel, by decide +kernel, by decide +kernel⟩
def mL_property : gM := (yL_property, cL_property, 5, (some .int), { frames := 10, cells := 3, slots := 18, locals := 147 }, [(0, 10, 13, 21), (0, 10, 17, 13), (0, 10, 21, 15)])
theorem zL_property : gZ mL_property 4 := ⟨gW_of 944 (by decide +kernel) (by decide +kernel), wd_116, by decide +kernel, by decide +kernel, by decide +kernel⟩
def mL_isOn : gM := (yL_isOn, cL_isOn, 4, (some .int), { frames := 10, cells := 2, slots := 12, locals := 145 }, [(0, 16, 19, 21), (0, 16, 22, 13)])
theorem zL_isOn : gZ mL_isOn 3 := ⟨gW_of 951 (by decide +kernel) (by decide +kernel), wd_116, by decide +kernel, by decide +kernel, by decide +kernel⟩
def mL_amplitude : gM := (yL_amplitude, cL_amplitude, 5, (some .int), { frames := 10, cells := 3, slots := 18, locals := 147 }, [(0, 10, 13, 21), (0, 10, 17, 13), (0, 10, 21, 15)])
theorem zL_amplitude : gZ mL_amplitude 4 := ⟨gW_of 958 (by decide +kernel) (by decide +kernel), wd_116, by decide +kernel, by decide +kernel, by decide +kernel⟩
def mL_sine : gM := (yL_sine, cL_sine, 4, (some .int), { frames := 10, cells := 1, slots := 6, locals := 146 }, [(0, 9, 12, 15)])
theorem zL_sine : gZ mL_sine 3 := ⟨gW_of 970 (by decide +kernel) (by decide +kernel), wd_116, by decide +kernel, by decide +kernel, by decide +kernel⟩
def mL_distance : gM := (yL_distance, cL_distance, 5, (some .int), { frames := 10, cells := 2, slots := 12, locals := 147 }, [(0, 10, 13, 15)])
theorem zL_distance : gZ mL_distance 4 := ⟨gW_of 981 (by decide +kernel) (by decide +kernel), wd_116, by decide +kernel, by decide +kernel, by decide +kernel⟩
def mL_isBehind : gM := (yL_isBehind, cL_isBehind, 6, (some .int), { frames := 11, cells := 4, slots := 24, locals := 169 }, [(0, 19, 22, 21), (0, 19, 26, 13)])
theorem zL_isBehind : gZ mL_isBehind 5 := ⟨gW_of 995 (by decide +kernel) (by decide +kernel), wd_116, by decide +kernel, by decide +kernel, by decide +kernel⟩
def mL_path : gM := (yL_path, cL_path, 7, (some .int), { frames := 11, cells := 5, slots := 30, locals := 172 }, [(0, 14, 17, 21), (0, 14, 21, 13)])
theorem zL_path : gZ mL_path 6 := ⟨gW_of 1015 (by decide +kernel) (by decide +kernel), wd_116, by decide +kernel, by decide +kernel, by decide +kernel⟩
def mL_shortest : gM := (yL_shortest, cL_shortest, 6, (some .int), { frames := 11, cells := 4, slots := 24, locals := 169 }, [(0, 12, 15, 21), (0, 12, 19, 13)])
theorem zL_shortest : gZ mL_shortest 5 := ⟨gW_of 1027 (by decide +kernel) (by decide +kernel), wd_116, by decide +kernel, by decide +kernel, by decide +kernel⟩
def mL_phase : gM := (yL_phase, cL_phase, 6, (some .int), { frames := 11, cells := 4, slots := 24, locals := 170 }, [(0, 12, 15, 21), (0, 12, 19, 13)])
theorem zL_phase : gZ mL_phase 5 := ⟨gW_of 1047 (by decide +kernel) (by decide +kernel), wd_116, by decide +kernel, by decide +kernel, by decide +kernel⟩
def mL_arrival : gM := (yL_arrival, cL_arrival, 6, (some .int), { frames := 11, cells := 4, slots := 24, locals := 169 }, [(0, 12, 15, 21), (0, 12, 19, 13)])
theorem zL_arrival : gZ mL_arrival 5 := ⟨gW_of 1061 (by decide +kernel) (by decide +kernel), wd_116, by decide +kernel, by decide +kernel, by decide +kernel⟩
def mL_reached : gM := (yL_reached, cL_reached, 4, (some .int), { frames := 10, cells := 2, slots := 12, locals := 150 }, [(0, 9, 12, 21), (0, 9, 15, 13)])
theorem zL_reached : gZ mL_reached 3 := ⟨gW_of 1077 (by decide +kernel) (by decide +kernel), wd_116, by decide +kernel, by decide +kernel, by decide +kernel⟩
def mL_part : gM := (yL_part, cL_part, 6, (some .int), { frames := 11, cells := 4, slots := 24, locals := 169 }, [(0, 12, 15, 21), (0, 12, 19, 13)])
theorem zL_part : gZ mL_part 5 := ⟨gW_of 1084 (by decide +kernel) (by decide +kernel), wd_116, by decide +kernel, by decide +kernel, by decide +kernel⟩
def mL_wave : gM := (yL_wave, cL_wave, 5, (some .int), { frames := 11, cells := 3, slots := 18, locals := 168 }, [(0, 10, 13, 21), (0, 10, 17, 13)])
theorem zL_wave : gZ mL_wave 4 := ⟨gW_of 1121 (by decide +kernel) (by decide +kernel), wd_116, by decide +kernel, by decide +kernel, by decide +kernel⟩
def mL_waveAt : gM := (yL_waveAt, cL_waveAt, 6, (some .int), { frames := 11, cells := 4, slots := 24, locals := 169 }, [(0, 12, 15, 21), (0, 12, 19, 13), (0, 12, 23, 15)])
theorem zL_waveAt : gZ mL_waveAt 5 := ⟨gW_of 1137 (by decide +kernel) (by decide +kernel), wd_116, by decide +kernel, by decide +kernel, by decide +kernel⟩
def mL_quietIn : gM := (yL_quietIn, cL_quietIn, 7, (some .int), { frames := 11, cells := 5, slots := 30, locals := 171 }, [(0, 14, 17, 21), (0, 14, 21, 13), (0, 14, 25, 15)])
theorem zL_quietIn : gZ mL_quietIn 6 := ⟨gW_of 1144 (by decide +kernel) (by decide +kernel), wd_116, by decide +kernel, by decide +kernel, by decide +kernel⟩
def mL_gaugeAt : gM := (yL_gaugeAt, cL_gaugeAt, 5, (some .int), { frames := 10, cells := 3, slots := 18, locals := 147 }, [(0, 10, 13, 21), (0, 10, 17, 13), (0, 10, 21, 15)])
theorem zL_gaugeAt : gZ mL_gaugeAt 4 := ⟨gW_of 1155 (by decide +kernel) (by decide +kernel), wd_116, by decide +kernel, by decide +kernel, by decide +kernel⟩
def mL_peak : gM := (yL_peak, cL_peak, 5, (some .int), { frames := 11, cells := 3, slots := 18, locals := 183 }, [(0, 10, 13, 21), (0, 10, 17, 13), (0, 10, 21, 15)])
theorem zL_peak : gZ mL_peak 4 := ⟨gW_of 1167 (by decide +kernel) (by decide +kernel), wd_116, by decide +kernel, by decide +kernel, by decide +kernel⟩
def mL_crossings : gM := (yL_crossings, cL_crossings, 5, (some .int), { frames := 11, cells := 3, slots := 18, locals := 185 }, [(0, 10, 13, 21), (0, 10, 17, 13), (0, 10, 21, 15)])
theorem zL_crossings : gZ mL_crossings 4 := ⟨gW_of 1182 (by decide +kernel) (by decide +kernel), wd_116, by decide +kernel, by decide +kernel, by decide +kernel⟩
def mL_rhythm : gM := (yL_rhythm, cL_rhythm, 5, (some .int), { frames := 11, cells := 3, slots := 18, locals := 187 }, [(0, 10, 13, 21), (0, 10, 17, 13), (0, 10, 21, 15)])
theorem zL_rhythm : gZ mL_rhythm 4 := ⟨gW_of 1189 (by decide +kernel) (by decide +kernel), wd_116, by decide +kernel, by decide +kernel, by decide +kernel⟩
def mL_isNode : gM := (yL_isNode, cL_isNode, 7, (some .int), { frames := 11, cells := 5, slots := 30, locals := 184 }, [(0, 21, 24, 21), (0, 21, 28, 13), (0, 21, 32, 15)])
theorem zL_isNode : gZ mL_isNode 6 := ⟨gW_of 1200 (by decide +kernel) (by decide +kernel), wd_116, by decide +kernel, by decide +kernel, by decide +kernel⟩
def mL_nodes : gM := (yL_nodes, cL_nodes, 5, (some .int), { frames := 11, cells := 3, slots := 18, locals := 208 }, [(0, 10, 13, 21), (0, 10, 17, 15)])
theorem zL_nodes : gZ mL_nodes 4 := ⟨gW_of 1213 (by decide +kernel) (by decide +kernel), wd_116, by decide +kernel, by decide +kernel, by decide +kernel⟩
def mL_nodeRows : gM := (yL_nodeRows, cL_nodeRows, 6, (some .int), { frames := 11, cells := 4, slots := 24, locals := 209 }, [(0, 12, 15, 21), (0, 12, 19, 13), (0, 12, 23, 15)])
theorem zL_nodeRows : gZ mL_nodeRows 5 := ⟨gW_of 1224 (by decide +kernel) (by decide +kernel), wd_116, by decide +kernel, by decide +kernel, by decide +kernel⟩
def mL_nodeGroups : gM := (yL_nodeGroups, cL_nodeGroups, 5, (some .int), { frames := 11, cells := 3, slots := 18, locals := 209 }, [(0, 10, 13, 21), (0, 10, 17, 15)])
theorem zL_nodeGroups : gZ mL_nodeGroups 4 := ⟨gW_of 1235 (by decide +kernel) (by decide +kernel), wd_116, by decide +kernel, by decide +kernel, by decide +kernel⟩
def mL_energy : gM := (yL_energy, cL_energy, 6, (some .int), { frames := 11, cells := 4, slots := 24, locals := 186 }, [(0, 11, 14, 21), (0, 11, 18, 13), (0, 11, 22, 15)])
theorem zL_energy : gZ mL_energy 5 := ⟨gW_of 1254 (by decide +kernel) (by decide +kernel), wd_116, by decide +kernel, by decide +kernel, by decide +kernel⟩
def mL_rowEnergy : gM := (yL_rowEnergy, cL_rowEnergy, 5, (some .int), { frames := 11, cells := 3, slots := 18, locals := 188 }, [(0, 9, 12, 21), (0, 9, 16, 13), (0, 9, 20, 15)])
theorem zL_rowEnergy : gZ mL_rowEnergy 4 := ⟨gW_of 1265 (by decide +kernel) (by decide +kernel), wd_116, by decide +kernel, by decide +kernel, by decide +kernel⟩
def mL_allEnergy : gM := (yL_allEnergy, cL_allEnergy, 4, (some .int), { frames := 11, cells := 2, slots := 12, locals := 209 }, [(0, 8, 11, 21), (0, 8, 14, 15)])
theorem zL_allEnergy : gZ mL_allEnergy 3 := ⟨gW_of 1272 (by decide +kernel) (by decide +kernel), wd_116, by decide +kernel, by decide +kernel, by decide +kernel⟩
def mL_strongest : gM := (yL_strongest, cL_strongest, 5, (some .int), { frames := 11, cells := 3, slots := 18, locals := 209 }, [(0, 10, 13, 21), (0, 10, 17, 13), (0, 10, 21, 15)])
theorem zL_strongest : gZ mL_strongest 4 := ⟨gW_of 1287 (by decide +kernel) (by decide +kernel), wd_116, by decide +kernel, by decide +kernel, by decide +kernel⟩
def mL_marks : gM := (yL_marks, cL_marks, 5, (some .int), { frames := 11, cells := 3, slots := 18, locals := 211 }, [(0, 10, 13, 21), (0, 10, 17, 15)])
theorem zL_marks : gZ mL_marks 4 := ⟨gW_of 1299 (by decide +kernel) (by decide +kernel), wd_116, by decide +kernel, by decide +kernel, by decide +kernel⟩
def mL_isMark : gM := (yL_isMark, cL_isMark, 7, (some .int), { frames := 11, cells := 5, slots := 30, locals := 209 }, [(0, 21, 24, 21), (0, 21, 28, 13), (0, 21, 32, 15)])
theorem zL_isMark : gZ mL_isMark 6 := ⟨gW_of 1317 (by decide +kernel) (by decide +kernel), wd_116, by decide +kernel, by decide +kernel, by decide +kernel⟩
def mL_fringes : gM := (yL_fringes, cL_fringes, 5, (some .int), { frames := 11, cells := 3, slots := 18, locals := 212 }, [(0, 10, 13, 21), (0, 10, 17, 13), (0, 10, 21, 15)])
theorem zL_fringes : gZ mL_fringes 4 := ⟨gW_of 1328 (by decide +kernel) (by decide +kernel), wd_116, by decide +kernel, by decide +kernel, by decide +kernel⟩
def mL_visibility : gM := (yL_visibility, cL_visibility, 5, (some .int), { frames := 11, cells := 3, slots := 18, locals := 213 }, [(0, 10, 13, 21), (0, 10, 17, 13), (0, 10, 21, 15)])
theorem zL_visibility : gZ mL_visibility 4 := ⟨gW_of 1339 (by decide +kernel) (by decide +kernel), wd_116, by decide +kernel, by decide +kernel, by decide +kernel⟩
def mL_writeRow : gM := (yL_writeRow, cL_writeRow, 4, (some .int), { frames := 10, cells := 2, slots := 12, locals := 156 }, [(0, 9, 12, 21), (0, 9, 15, 13)])
theorem zL_writeRow : gZ mL_writeRow 3 := ⟨gW_of 1349 (by decide +kernel) (by decide +kernel), wd_116, by decide +kernel, by decide +kernel, by decide +kernel⟩
def mL_writeMap : gM := (yL_writeMap, cL_writeMap, 4, (some .int), { frames := 11, cells := 2, slots := 12, locals := 209 }, [(0, 9, 12, 21), (0, 9, 15, 15)])
theorem zL_writeMap : gZ mL_writeMap 3 := ⟨gW_of 1366 (by decide +kernel) (by decide +kernel), wd_116, by decide +kernel, by decide +kernel, by decide +kernel⟩
def mL_textByte : gM := (yL_textByte, cL_textByte, 4, (some .int), { frames := 9, cells := 1, slots := 6, locals := 124 }, [(0, 9, 12, 13)])
theorem zL_textByte : gZ mL_textByte 3 := ⟨gW_of 1374 (by decide +kernel) (by decide +kernel), wd_116, by decide +kernel, by decide +kernel, by decide +kernel⟩
def mL_nodesIfOff : gM := (yL_nodesIfOff, cL_nodesIfOff, 6, (some .int), { frames := 11, cells := 4, slots := 24, locals := 209 }, [(0, 12, 15, 21), (0, 12, 19, 13), (0, 12, 23, 15)])
theorem zL_nodesIfOff : gZ mL_nodesIfOff 5 := ⟨gW_of 1382 (by decide +kernel) (by decide +kernel), wd_116, by decide +kernel, by decide +kernel, by decide +kernel⟩
def mL_bestPhase : gM := (yL_bestPhase, cL_bestPhase, 7, (some .int), { frames := 11, cells := 5, slots := 30, locals := 193 }, [(0, 14, 17, 21), (0, 14, 21, 13), (0, 14, 25, 15)])
theorem zL_bestPhase : gZ mL_bestPhase 6 := ⟨gW_of 1389 (by decide +kernel) (by decide +kernel), wd_116, by decide +kernel, by decide +kernel, by decide +kernel⟩
def mL_bestPlace : gM := (yL_bestPlace, cL_bestPlace, 7, (some .int), { frames := 11, cells := 5, slots := 30, locals := 193 }, [(0, 14, 17, 21), (0, 14, 21, 13), (0, 14, 25, 15)])
theorem zL_bestPlace : gZ mL_bestPlace 6 := ⟨gW_of 1396 (by decide +kernel) (by decide +kernel), wd_116, by decide +kernel, by decide +kernel, by decide +kernel⟩
def mL_energyIfTurned : gM := (yL_energyIfTurned, cL_energyIfTurned, 7, (some .int), { frames := 11, cells := 5, slots := 30, locals := 211 }, [(0, 13, 16, 21), (0, 13, 20, 13), (0, 13, 24, 15)])
theorem zL_energyIfTurned : gZ mL_energyIfTurned 6 := ⟨gW_of 1403 (by decide +kernel) (by decide +kernel), wd_116, by decide +kernel, by decide +kernel, by decide +kernel⟩
def mL_bestRow : gM := (yL_bestRow, cL_bestRow, 6, (some .int), { frames := 11, cells := 4, slots := 24, locals := 216 }, [(0, 12, 15, 21), (0, 12, 19, 13), (0, 12, 23, 15)])
theorem zL_bestRow : gZ mL_bestRow 5 := ⟨gW_of 1419 (by decide +kernel) (by decide +kernel), wd_116, by decide +kernel, by decide +kernel, by decide +kernel⟩
def mL_advance : gM := (yL_advance, cL_advance, 4, (some .int), { frames := 10, cells := 3, slots := 18, locals := 146 }, [(0, 9, 12, 21), (0, 9, 15, 15)])
theorem zL_advance : gZ mL_advance 3 := ⟨gW_of 1426 (by decide +kernel) (by decide +kernel), wd_116, by decide +kernel, by decide +kernel, by decide +kernel⟩
def mL_setOn : gM := (yL_setOn, cL_setOn, 5, (some .int), { frames := 10, cells := 2, slots := 12, locals := 147 }, [(0, 17, 20, 21), (0, 17, 24, 13)])
theorem zL_setOn : gZ mL_setOn 4 := ⟨gW_of 1438 (by decide +kernel) (by decide +kernel), wd_116, by decide +kernel, by decide +kernel, by decide +kernel⟩
def mL_setPhase : gM := (yL_setPhase, cL_setPhase, 5, (some .int), { frames := 10, cells := 3, slots := 18, locals := 148 }, [(0, 10, 13, 21), (0, 10, 17, 13), (0, 10, 21, 15)])
theorem zL_setPhase : gZ mL_setPhase 4 := ⟨gW_of 1445 (by decide +kernel) (by decide +kernel), wd_116, by decide +kernel, by decide +kernel, by decide +kernel⟩
def mL_setAmp : gM := (yL_setAmp, cL_setAmp, 5, (some .int), { frames := 10, cells := 3, slots := 18, locals := 148 }, [(0, 10, 13, 21), (0, 10, 17, 13), (0, 10, 21, 15)])
theorem zL_setAmp : gZ mL_setAmp 4 := ⟨gW_of 1452 (by decide +kernel) (by decide +kernel), wd_116, by decide +kernel, by decide +kernel, by decide +kernel⟩
def mL_moveSource : gM := (yL_moveSource, cL_moveSource, 6, (some .int), { frames := 11, cells := 4, slots := 24, locals := 169 }, [(0, 12, 15, 21), (0, 12, 19, 13)])
theorem zL_moveSource : gZ mL_moveSource 5 := ⟨gW_of 1459 (by decide +kernel) (by decide +kernel), wd_116, by decide +kernel, by decide +kernel, by decide +kernel⟩
def mL_setDrift : gM := (yL_setDrift, cL_setDrift, 6, (some .int), { frames := 10, cells := 4, slots := 24, locals := 148 }, [(0, 12, 15, 21), (0, 12, 19, 13), (0, 12, 23, 15)])
theorem zL_setDrift : gZ mL_setDrift 5 := ⟨gW_of 1471 (by decide +kernel) (by decide +kernel), wd_116, by decide +kernel, by decide +kernel, by decide +kernel⟩
def mL_turnRow : gM := (yL_turnRow, cL_turnRow, 4, (some .int), { frames := 10, cells := 3, slots := 18, locals := 145 }, [(0, 16, 19, 21), (0, 16, 22, 13)])
theorem zL_turnRow : gZ mL_turnRow 3 := ⟨gW_of 1478 (by decide +kernel) (by decide +kernel), wd_116, by decide +kernel, by decide +kernel, by decide +kernel⟩
def mL_undo : gM := (yL_undo, cL_undo, 3, (some .int), { frames := 9, cells := 1, slots := 6, locals := 123 }, [(0, 8, 11, 21)])
theorem zL_undo : gZ mL_undo 2 := ⟨gW_of 1486 (by decide +kernel) (by decide +kernel), wd_116, by decide +kernel, by decide +kernel, by decide +kernel⟩
def mL_save : gM := (yL_save, cL_save, 4, (some .int), { frames := 10, cells := 2, slots := 12, locals := 144 }, [(0, 9, 12, 21), (0, 9, 15, 13)])
theorem zL_save : gZ mL_save 3 := ⟨gW_of 1498 (by decide +kernel) (by decide +kernel), wd_116, by decide +kernel, by decide +kernel, by decide +kernel⟩
def mL_restore : gM := (yL_restore, cL_restore, 4, (some .int), { frames := 10, cells := 2, slots := 12, locals := 144 }, [(0, 9, 12, 13), (0, 9, 15, 21)])
theorem zL_restore : gZ mL_restore 3 := ⟨gW_of 1509 (by decide +kernel) (by decide +kernel), wd_116, by decide +kernel, by decide +kernel, by decide +kernel⟩
