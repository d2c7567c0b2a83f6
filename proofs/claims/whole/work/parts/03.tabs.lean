-- written by gen.py: the methods: name, code, locals, what it returns, parameters, places of its words
abbrev MRow : Type := MethodName × ByteArray × Nat × Option FieldType × Nat × Nat × Nat
def mt0 : MRow := (⟨"", "", ""⟩, ⟨#[]⟩, 0, none, 0, 0, 0)
def MT0 : List MRow := [(yJ0_charAt_5068e, cJ0_charAt_5068e, 2, some (FieldType.char), 1, 627, 101),
  (yJ0_checkIndex_df160, cJ0_checkIndex_df160, 2, none, 2, 637, 101),
  (yJ0_coder_7d493, cJ0_coder_7d493, 1, some (FieldType.byte), 0, 621, 101),
  (yJ0_isLatin1_aae02, cJ0_isLatin1_aae02, 1, some (FieldType.boolean), 0, 631, 101),
  (yJ0_length_8abf5, cJ0_length_8abf5, 1, some (FieldType.int), 0, 617, 101),
  (yJ1_charAt_3b067, cJ1_charAt_3b067, 2, some (FieldType.char), 2, 634, 102),
  (yJ3_checkIndex_8e157, cJ3_checkIndex_8e157, 3, some (FieldType.int), 3, 642, 103),
  (yJ7_copyOf_59c91, cJ7_copyOf_59c91, 3, some ((FieldType.array FieldType.int)), 2, 728, 98),
  (yJ7_fill_031fb, cJ7_fill_031fb, 4, none, 2, 799, 98),
  (yJ7_fill_53178, cJ7_fill_53178, 4, none, 2, 445, 98),
  (yX0_init, cX0_init, 1, none, 0, 119, 91),
  (yX0_clear, cX0_clear, 3, none, 2, 442, 91),
  (yX0_copy, cX0_copy, 2, none, 1, 1025, 91),
  (yX0_inside, cX0_inside, 2, some (FieldType.boolean), 1, 461, 91),
  (yX0_isGrass, cX0_isGrass, 2, some (FieldType.boolean), 1, 488, 91),
  (yX0_canBeGoneOver, cX0_canBeGoneOver, 2, some (FieldType.boolean), 1, 858, 91),
  (yX0_grassCount, cX0_grassCount, 3, some (FieldType.int), 0, 887, 91),
  (yX0_isTent, cX0_isTent, 2, some (FieldType.boolean), 1, 526, 91),
  (yX0_tentAt, cX0_tentAt, 3, some (FieldType.int), 1, 469, 91),
  (yX0_manAt, cX0_manAt, 3, some (FieldType.int), 1, 473, 91),
  (yX0_taken, cX0_taken, 2, some (FieldType.boolean), 1, 465, 91),
  (yX0_freeForMan, cX0_freeForMan, 2, some (FieldType.boolean), 1, 501, 91),
  (yX0_couldStand, cX0_couldStand, 6, some (FieldType.boolean), 3, 484, 91),
  (yX0_pitch, cX0_pitch, 5, some (FieldType.int), 3, 493, 91),
  (yX0_bodies, cX0_bodies, 1, some (FieldType.int), 0, 807, 91),
  (yX0_yardOfBody, cX0_yardOfBody, 2, some (FieldType.int), 1, 811, 91),
  (yX0_areKin, cX0_areKin, 3, some (FieldType.boolean), 2, 788, 91),
  (yX0_waterBeside, cX0_waterBeside, 5, some (FieldType.int), 1, 823, 91),
  (yX0_draw, cX0_draw, 2, some (FieldType.int), 1, 772, 91),
  (yX1_init, cX1_init, 3, none, 2, 313, 95),
  (yX1_noon, cX1_noon, 5, some (FieldType.int), 1, 760, 95),
  (yX1_wishOf, cX1_wishOf, 6, some (FieldType.int), 2, 764, 95),
  (yX1_whimOf, cX1_whimOf, 6, some (FieldType.int), 1, 768, 95),
  (yX1_newEvening, cX1_newEvening, 4, some (FieldType.int), 0, 756, 95),
  (yX1_allAlike, cX1_allAlike, 2, some (FieldType.boolean), 0, 840, 95),
  (yX1_sameEvening, cX1_sameEvening, 2, none, 0, 752, 95),
  (yX2_init, cX2_init, 3, none, 2, 279, 94),
  (yX2_farOf, cX2_farOf, 2, some (FieldType.int), 1, 848, 94),
  (yX2_payOf, cX2_payOf, 2, some (FieldType.int), 1, 836, 94),
  (yX2_payFor, cX2_payFor, 9, some (FieldType.int), 4, 819, 94)]
def MT1 : List MRow := [(yX2_allPays, cX2_allPays, 3, some (FieldType.int), 0, 958, 94),
  (yX2_familyPays, cX2_familyPays, 4, some (FieldType.int), 1, 993, 94),
  (yX2_findBest, cX2_findBest, 13, some (FieldType.int), 2, 779, 94),
  (yX2_measureKin, cX2_measureKin, 3, none, 1, 784, 94),
  (yX2_measureAt, cX2_measureAt, 8, none, 2, 792, 94),
  (yX3_init, cX3_init, 4, none, 3, 125, 92),
  (yX3_amount, cX3_amount, 11, some (FieldType.int), 1, 827, 92),
  (yX3_judged, cX3_judged, 7, some (FieldType.long), 4, 831, 92),
  (yX4_init, cX4_init, 3, none, 2, 892, 106),
  (yX4_tryAll, cX4_tryAll, 5, none, 1, 920, 106),
  (yX4_prepare, cX4_prepare, 2, none, 0, 924, 106),
  (yX4_judge, cX4_judge, 9, none, 3, 930, 106),
  (yX4_noteRow, cX4_noteRow, 5, none, 4, 941, 106),
  (yX4_bestBy, cX4_bestBy, 6, some (FieldType.int), 2, 945, 106),
  (yX4_payAt, cX4_payAt, 11, some (FieldType.int), 3, 934, 106),
  (yX5_init, cX5_init, 1, none, 0, 551, 99),
  (yX5_read, cX5_read, 5, some ((FieldType.object "FarFromAnybody$Law")), 2, 592, 99),
  (yX5_split, cX5_split, 6, none, 2, 599, 99),
  (yX5_isLetter, cX5_isLetter, 1, some (FieldType.boolean), 1, 602, 99),
  (yX5_isDigit, cX5_isDigit, 1, some (FieldType.boolean), 1, 680, 99),
  (yX5_addToken, cX5_addToken, 4, none, 3, 672, 99),
  (yX5_addNumber, cX5_addNumber, 6, none, 3, 684, 99),
  (yX5_addWord, cX5_addWord, 5, none, 3, 606, 99),
  (yX5_factOf, cX5_factOf, 3, some (FieldType.int), 3, 609, 99),
  (yX5_isWord, cX5_isWord, 5, some (FieldType.boolean), 4, 613, 99),
  (yX5_refuse, cX5_refuse, 2, some (FieldType.boolean), 1, 688, 99),
  (yX5_goOn, cX5_goOn, 1, none, 0, 696, 99),
  (yX5_addStep, cX5_addStep, 3, none, 2, 708, 99),
  (yX5_readSign, cX5_readSign, 2, some (FieldType.boolean), 1, 692, 99),
  (yX5_readEither, cX5_readEither, 3, some (FieldType.boolean), 1, 716, 99),
  (yX5_readBoth, cX5_readBoth, 3, some (FieldType.boolean), 1, 720, 99),
  (yX5_readClaim, cX5_readClaim, 5, some (FieldType.boolean), 1, 724, 99),
  (yX5_readAmount, cX5_readAmount, 4, some (FieldType.boolean), 0, 700, 99),
  (yX5_readUnit, cX5_readUnit, 2, some (FieldType.boolean), 1, 704, 99),
  (yX5_readPart, cX5_readPart, 1, some (FieldType.boolean), 0, 712, 99),
  (yX6_init, cX6_init, 4, none, 3, 336, 96),
  (yX6_settle, cX6_settle, 2, none, 0, 873, 96),
  (yX6_circleUpTo, cX6_circleUpTo, 5, some (FieldType.int), 1, 879, 96),
  (yX6_findSaving, cX6_findSaving, 4, none, 0, 954, 96),
  (yX6_stillFine, cX6_stillFine, 5, some (FieldType.int), 0, 968, 96)]
def MT2 : List MRow := [(yX6_findSending, cX6_findSending, 5, none, 1, 988, 96),
  (yX6_gainWithout, cX6_gainWithout, 6, some (FieldType.int), 2, 980, 96),
  (yX6_recallNight, cX6_recallNight, 4, none, 0, 1009, 96),
  (yX6_noteGoing, cX6_noteGoing, 3, none, 2, 1017, 96),
  (yX6_fitsTold, cX6_fitsTold, 3, some (FieldType.boolean), 0, 1013, 96),
  (yX7_init, cX7_init, 3, none, 2, 252, 93),
  (yX7_forget, cX7_forget, 1, none, 0, 453, 93),
  (yX7_from, cX7_from, 12, some ((FieldType.array FieldType.byte)), 1, 796, 93),
  (yX8_init, cX8_init, 1, none, 0, 111, 90),
  (yX8_state, cX8_state, 3, some (FieldType.int), 1, 434, 90),
  (yX8_plain, cX8_plain, 3, some (FieldType.boolean), 2, 438, 90),
  (yX8_yard, cX8_yard, 3, some (FieldType.boolean), 2, 457, 90),
  (yX8_tent, cX8_tent, 4, some (FieldType.int), 3, 477, 90),
  (yX8_man, cX8_man, 2, some (FieldType.int), 1, 497, 90),
  (yX8_stranger, cX8_stranger, 2, some (FieldType.boolean), 1, 505, 90),
  (yX8_set, cX8_set, 4, some (FieldType.boolean), 3, 510, 90),
  (yX8_feed, cX8_feed, 6, some (FieldType.int), 5, 534, 90),
  (yX8_end, cX8_end, 2, some (FieldType.boolean), 1, 542, 90),
  (yX8_text, cX8_text, 2, some (FieldType.int), 0, 546, 90),
  (yX8_fault, cX8_fault, 2, some (FieldType.int), 1, 744, 90),
  (yX8_evenings, cX8_evenings, 6, some (FieldType.int), 1, 748, 90),
  (yX8_of, cX8_of, 3, some (FieldType.int), 2, 844, 90),
  (yX8_way, cX8_way, 3, some (FieldType.int), 2, 854, 90),
  (yX8_at, cX8_at, 3, some (FieldType.int), 2, 863, 90),
  (yX8_rest, cX8_rest, 2, some (FieldType.int), 1, 869, 90),
  (yX8_placings, cX8_placings, 3, some (FieldType.int), 2, 883, 90),
  (yX8_saves, cX8_saves, 2, some (FieldType.int), 1, 950, 90),
  (yX8_line, cX8_line, 1, some (FieldType.int), 0, 964, 90),
  (yX8_rid, cX8_rid, 3, some (FieldType.int), 2, 975, 90),
  (yX8_send, cX8_send, 3, some (FieldType.int), 2, 984, 90),
  (yX8_broken, cX8_broken, 2, some (FieldType.int), 1, 997, 90),
  (yX8_told, cX8_told, 3, some (FieldType.boolean), 2, 1001, 90),
  (yX8_night, cX8_night, 2, some (FieldType.int), 1, 1005, 90),
  (yX8_image, cX8_image, 2, some (FieldType.boolean), 1, 1021, 90),
  (yX8_look, cX8_look, 2, some (FieldType.int), 1, 1030, 90),
  (yX8_lookAtTold, cX8_lookAtTold, 2, some (FieldType.int), 1, 1034, 90),
  (yX8_forgetWays, cX8_forgetWays, 1, none, 0, 449, 90),
  (yX8_tapeNumber, cX8_tapeNumber, 3, none, 1, 538, 90),
  (yX8_isMode, cX8_isMode, 1, some (FieldType.boolean), 1, 480, 90),
  (yX8_setFine, cX8_setFine, 2, some (FieldType.boolean), 1, 514, 90)]
def MT3 : List MRow := [(yX8_setAtOnce, cX8_setAtOnce, 2, some (FieldType.boolean), 1, 518, 90),
  (yX8_setMode, cX8_setMode, 3, some (FieldType.boolean), 2, 522, 90),
  (yX8_putTent, cX8_putTent, 3, some (FieldType.boolean), 2, 530, 90),
  (yX9_init, cX9_init, 1, none, 0, 1039, 97),
  (yX9_begins, cX9_begins, 5, none, 2, 1044, 97),
  (yX9_isIn, cX9_isIn, 3, some (FieldType.boolean), 3, 1164, 97),
  (yX9_least, cX9_least, 2, some (FieldType.int), 2, 1401, 97),
  (yX9_isPlace, cX9_isPlace, 3, some (FieldType.boolean), 2, 1176, 97),
  (yX9_isYard, cX9_isYard, 2, some (FieldType.boolean), 1, 1172, 97),
  (yX9_isGrass, cX9_isGrass, 2, some (FieldType.boolean), 1, 1200, 97),
  (yX9_isTent, cX9_isTent, 2, some (FieldType.boolean), 1, 1224, 97),
  (yX9_own, cX9_own, 3, some (FieldType.int), 2, 1184, 97),
  (yX9_gives, cX9_gives, 4, none, 3, 1204, 97),
  (yX9_state, cX9_state, 3, some (FieldType.int), 1, 1157, 97),
  (yX9_draw, cX9_draw, 2, some (FieldType.int), 1, 1364, 97),
  (yX9_plain, cX9_plain, 3, some (FieldType.boolean), 2, 1161, 97),
  (yX9_tentAt, cX9_tentAt, 3, some (FieldType.int), 1, 1180, 97),
  (yX9_manAt, cX9_manAt, 3, some (FieldType.int), 1, 1188, 97),
  (yX9_yard, cX9_yard, 3, some (FieldType.boolean), 2, 1168, 97),
  (yX9_couldBe, cX9_couldBe, 5, some (FieldType.boolean), 3, 1196, 97),
  (yX9_tent, cX9_tent, 5, some (FieldType.int), 3, 1192, 97),
  (yX9_isFree, cX9_isFree, 2, some (FieldType.boolean), 1, 1212, 97),
  (yX9_man, cX9_man, 2, some (FieldType.int), 1, 1208, 97),
  (yX9_stranger, cX9_stranger, 2, some (FieldType.boolean), 1, 1216, 97),
  (yX9_couldStand, cX9_couldStand, 3, some (FieldType.boolean), 2, 1228, 97),
  (yX9_set, cX9_set, 4, some (FieldType.boolean), 3, 1220, 97),
  (yX9_feed, cX9_feed, 8, some (FieldType.int), 5, 1232, 97),
  (yX9_end, cX9_end, 2, some (FieldType.boolean), 1, 1236, 97),
  (yX9_see, cX9_see, 2, some (FieldType.int), 1, 1248, 97),
  (yX9_isLetter, cX9_isLetter, 1, some (FieldType.boolean), 1, 1251, 97),
  (yX9_isDigit, cX9_isDigit, 1, some (FieldType.boolean), 1, 1281, 97),
  (yX9_is, cX9_is, 4, some (FieldType.boolean), 1, 1260, 97),
  (yX9_nameWord, cX9_nameWord, 1, some (FieldType.int), 0, 1270, 97),
  (yX9_word, cX9_word, 1, some (FieldType.int), 0, 1255, 97),
  (yX9_next0, cX9_next0, 3, none, 0, 1244, 97),
  (yX9_bad, cX9_bad, 2, some (FieldType.boolean), 1, 1289, 97),
  (yX9_need, cX9_need, 2, some (FieldType.boolean), 1, 1325, 97),
  (yX9_lay, cX9_lay, 3, none, 2, 1305, 97),
  (yX9_opens, cX9_opens, 1, some (FieldType.boolean), 0, 1321, 97),
  (yX9_sumUp, cX9_sumUp, 2, some (FieldType.boolean), 0, 1293, 97)]
def MT4 : List MRow := [(yX9_product, cX9_product, 3, some (FieldType.boolean), 0, 1297, 97),
  (yX9_unit, cX9_unit, 2, some (FieldType.boolean), 0, 1301, 97),
  (yX9_any, cX9_any, 1, some (FieldType.boolean), 0, 1309, 97),
  (yX9_every, cX9_every, 1, some (FieldType.boolean), 0, 1313, 97),
  (yX9_oneTest, cX9_oneTest, 2, some (FieldType.boolean), 0, 1317, 97),
  (yX9_aLine, cX9_aLine, 1, some (FieldType.boolean), 0, 1285, 97),
  (yX9_text, cX9_text, 3, some (FieldType.int), 0, 1240, 97),
  (yX9_fault, cX9_fault, 2, some (FieldType.int), 1, 1329, 97),
  (yX9_both, cX9_both, 3, some (FieldType.int), 3, 1420, 97),
  (yX9_comesTo, cX9_comesTo, 7, some (FieldType.int), 2, 1417, 97),
  (yX9_beside, cX9_beside, 4, some (FieldType.int), 2, 1348, 97),
  (yX9_isDry, cX9_isDry, 2, some (FieldType.boolean), 1, 1337, 97),
  (yX9_laysWays, cX9_laysWays, 7, none, 1, 1345, 97),
  (yX9_wayOf, cX9_wayOf, 4, some (FieldType.int), 2, 1341, 97),
  (yX9_way, cX9_way, 3, some (FieldType.int), 2, 1333, 97),
  (yX9_areKin, cX9_areKin, 3, some (FieldType.boolean), 2, 1386, 97),
  (yX9_nearer, cX9_nearer, 5, some (FieldType.int), 3, 1398, 97),
  (yX9_farAlone, cX9_farAlone, 5, some (FieldType.int), 1, 1394, 97),
  (yX9_farOf, cX9_farOf, 4, some (FieldType.int), 1, 1390, 97),
  (yX9_kinOf, cX9_kinOf, 4, some (FieldType.int), 1, 1382, 97),
  (yX9_isNear, cX9_isNear, 3, some (FieldType.int), 2, 1409, 97),
  (yX9_nearOf, cX9_nearOf, 5, some (FieldType.int), 1, 1405, 97),
  (yX9_lawful, cX9_lawful, 8, some (FieldType.int), 4, 1413, 97),
  (yX9_payOf, cX9_payOf, 3, some (FieldType.int), 1, 1378, 97),
  (yX9_payAt, cX9_payAt, 5, some (FieldType.int), 2, 1374, 97),
  (yX9_where, cX9_where, 6, some (FieldType.int), 1, 1370, 97),
  (yX9_bestBeside, cX9_bestBeside, 7, some (FieldType.int), 1, 1424, 97),
  (yX9_chosen, cX9_chosen, 6, some (FieldType.int), 2, 1360, 97),
  (yX9_noon, cX9_noon, 5, some (FieldType.int), 1, 1356, 97),
  (yX9_evenings, cX9_evenings, 6, some (FieldType.int), 1, 1352, 97),
  (yX9_of, cX9_of, 3, some (FieldType.int), 2, 1428, 97),
  (yX9_at, cX9_at, 3, some (FieldType.int), 2, 1432, 97),
  (yX9_isRow, cX9_isRow, 3, some (FieldType.boolean), 1, 1440, 97),
  (yX9_rest, cX9_rest, 6, some (FieldType.int), 1, 1436, 97),
  (yX9_paid, cX9_paid, 6, some (FieldType.int), 2, 1456, 97),
  (yX9_isAtRest, cX9_isAtRest, 6, some (FieldType.boolean), 1, 1460, 97),
  (yX9_judges, cX9_judges, 4, none, 0, 1452, 97),
  (yX9_places, cX9_places, 4, none, 2, 1448, 97),
  (yX9_placings, cX9_placings, 3, some (FieldType.int), 2, 1444, 97),
  (yX9_allPays, cX9_allPays, 3, some (FieldType.int), 0, 1468, 97)]
def MT5 : List MRow := [(yX9_saves, cX9_saves, 7, some (FieldType.int), 1, 1464, 97),
  (yX9_line, cX9_line, 6, some (FieldType.int), 0, 1472, 97),
  (yX9_rid, cX9_rid, 5, some (FieldType.int), 2, 1476, 97),
  (yX9_pays, cX9_pays, 4, some (FieldType.int), 1, 1485, 97),
  (yX9_send, cX9_send, 8, some (FieldType.int), 2, 1481, 97),
  (yX9_breaks, cX9_breaks, 4, none, 2, 1493, 97),
  (yX9_broken, cX9_broken, 4, some (FieldType.int), 1, 1489, 97),
  (yX9_told, cX9_told, 3, some (FieldType.boolean), 2, 1497, 97),
  (yX9_goWith, cX9_goWith, 2, some (FieldType.boolean), 0, 1505, 97),
  (yX9_night, cX9_night, 9, some (FieldType.int), 1, 1501, 97),
  (yX9_image, cX9_image, 3, some (FieldType.boolean), 1, 1509, 97),
  (yX9_look, cX9_look, 2, some (FieldType.int), 1, 1513, 97),
  (⟨RL, "law", "([I)Z"⟩, code, 4, some .boolean, 1, 0, 0)]
def MT : List MRow := MT0 ++ (MT1 ++ (MT2 ++ (MT3 ++ (MT4 ++ (MT5)))))
abbrev mRow (i : Nat) : MRow := MT.getD i mt0
def mY (i : Nat) : MethodName := (mRow i).1
def mC (i : Nat) : ByteArray := (mRow i).2.1
def mL (i : Nat) : Nat := (mRow i).2.2.1
def mR (i : Nat) : Option FieldType := (mRow i).2.2.2.1
def mN (i : Nat) : Nat := (mRow i).2.2.2.2.1
abbrev m_J0_charAt_5068e : Nat := 0
abbrev m_J0_checkIndex_df160 : Nat := 1
abbrev m_J0_coder_7d493 : Nat := 2
abbrev m_J0_isLatin1_aae02 : Nat := 3
abbrev m_J0_length_8abf5 : Nat := 4
abbrev m_J1_charAt_3b067 : Nat := 5
abbrev m_J3_checkIndex_8e157 : Nat := 6
abbrev m_J7_copyOf_59c91 : Nat := 7
abbrev m_J7_fill_031fb : Nat := 8
abbrev m_J7_fill_53178 : Nat := 9
abbrev m_X0_init : Nat := 10
abbrev m_X0_clear : Nat := 11
abbrev m_X0_copy : Nat := 12
abbrev m_X0_inside : Nat := 13
abbrev m_X0_isGrass : Nat := 14
abbrev m_X0_canBeGoneOver : Nat := 15
abbrev m_X0_grassCount : Nat := 16
abbrev m_X0_isTent : Nat := 17
abbrev m_X0_tentAt : Nat := 18
abbrev m_X0_manAt : Nat := 19
abbrev m_X0_taken : Nat := 20
abbrev m_X0_freeForMan : Nat := 21
abbrev m_X0_couldStand : Nat := 22
abbrev m_X0_pitch : Nat := 23
abbrev m_X0_bodies : Nat := 24
abbrev m_X0_yardOfBody : Nat := 25
abbrev m_X0_areKin : Nat := 26
abbrev m_X0_waterBeside : Nat := 27
abbrev m_X0_draw : Nat := 28
abbrev m_X1_init : Nat := 29
abbrev m_X1_noon : Nat := 30
abbrev m_X1_wishOf : Nat := 31
abbrev m_X1_whimOf : Nat := 32
abbrev m_X1_newEvening : Nat := 33
abbrev m_X1_allAlike : Nat := 34
abbrev m_X1_sameEvening : Nat := 35
abbrev m_X2_init : Nat := 36
abbrev m_X2_farOf : Nat := 37
abbrev m_X2_payOf : Nat := 38
abbrev m_X2_payFor : Nat := 39
abbrev m_X2_allPays : Nat := 40
abbrev m_X2_familyPays : Nat := 41
abbrev m_X2_findBest : Nat := 42
abbrev m_X2_measureKin : Nat := 43
abbrev m_X2_measureAt : Nat := 44
abbrev m_X3_init : Nat := 45
abbrev m_X3_amount : Nat := 46
abbrev m_X3_judged : Nat := 47
abbrev m_X4_init : Nat := 48
abbrev m_X4_tryAll : Nat := 49
abbrev m_X4_prepare : Nat := 50
abbrev m_X4_judge : Nat := 51
abbrev m_X4_noteRow : Nat := 52
abbrev m_X4_bestBy : Nat := 53
abbrev m_X4_payAt : Nat := 54
abbrev m_X5_init : Nat := 55
abbrev m_X5_read : Nat := 56
abbrev m_X5_split : Nat := 57
abbrev m_X5_isLetter : Nat := 58
abbrev m_X5_isDigit : Nat := 59
abbrev m_X5_addToken : Nat := 60
abbrev m_X5_addNumber : Nat := 61
abbrev m_X5_addWord : Nat := 62
abbrev m_X5_factOf : Nat := 63
abbrev m_X5_isWord : Nat := 64
abbrev m_X5_refuse : Nat := 65
abbrev m_X5_goOn : Nat := 66
abbrev m_X5_addStep : Nat := 67
abbrev m_X5_readSign : Nat := 68
abbrev m_X5_readEither : Nat := 69
abbrev m_X5_readBoth : Nat := 70
abbrev m_X5_readClaim : Nat := 71
abbrev m_X5_readAmount : Nat := 72
abbrev m_X5_readUnit : Nat := 73
abbrev m_X5_readPart : Nat := 74
abbrev m_X6_init : Nat := 75
abbrev m_X6_settle : Nat := 76
abbrev m_X6_circleUpTo : Nat := 77
abbrev m_X6_findSaving : Nat := 78
abbrev m_X6_stillFine : Nat := 79
abbrev m_X6_findSending : Nat := 80
abbrev m_X6_gainWithout : Nat := 81
abbrev m_X6_recallNight : Nat := 82
abbrev m_X6_noteGoing : Nat := 83
abbrev m_X6_fitsTold : Nat := 84
abbrev m_X7_init : Nat := 85
abbrev m_X7_forget : Nat := 86
abbrev m_X7_from : Nat := 87
abbrev m_X8_init : Nat := 88
abbrev m_X8_state : Nat := 89
abbrev m_X8_plain : Nat := 90
abbrev m_X8_yard : Nat := 91
abbrev m_X8_tent : Nat := 92
abbrev m_X8_man : Nat := 93
abbrev m_X8_stranger : Nat := 94
abbrev m_X8_set : Nat := 95
abbrev m_X8_feed : Nat := 96
abbrev m_X8_end : Nat := 97
abbrev m_X8_text : Nat := 98
abbrev m_X8_fault : Nat := 99
abbrev m_X8_evenings : Nat := 100
abbrev m_X8_of : Nat := 101
abbrev m_X8_way : Nat := 102
abbrev m_X8_at : Nat := 103
abbrev m_X8_rest : Nat := 104
abbrev m_X8_placings : Nat := 105
abbrev m_X8_saves : Nat := 106
abbrev m_X8_line : Nat := 107
abbrev m_X8_rid : Nat := 108
abbrev m_X8_send : Nat := 109
abbrev m_X8_broken : Nat := 110
abbrev m_X8_told : Nat := 111
abbrev m_X8_night : Nat := 112
abbrev m_X8_image : Nat := 113
abbrev m_X8_look : Nat := 114
abbrev m_X8_lookAtTold : Nat := 115
abbrev m_X8_forgetWays : Nat := 116
abbrev m_X8_tapeNumber : Nat := 117
abbrev m_X8_isMode : Nat := 118
abbrev m_X8_setFine : Nat := 119
abbrev m_X8_setAtOnce : Nat := 120
abbrev m_X8_setMode : Nat := 121
abbrev m_X8_putTent : Nat := 122
abbrev m_X9_init : Nat := 123
abbrev m_X9_begins : Nat := 124
abbrev m_X9_isIn : Nat := 125
abbrev m_X9_least : Nat := 126
abbrev m_X9_isPlace : Nat := 127
abbrev m_X9_isYard : Nat := 128
abbrev m_X9_isGrass : Nat := 129
abbrev m_X9_isTent : Nat := 130
abbrev m_X9_own : Nat := 131
abbrev m_X9_gives : Nat := 132
abbrev m_X9_state : Nat := 133
abbrev m_X9_draw : Nat := 134
abbrev m_X9_plain : Nat := 135
abbrev m_X9_tentAt : Nat := 136
abbrev m_X9_manAt : Nat := 137
abbrev m_X9_yard : Nat := 138
abbrev m_X9_couldBe : Nat := 139
abbrev m_X9_tent : Nat := 140
abbrev m_X9_isFree : Nat := 141
abbrev m_X9_man : Nat := 142
abbrev m_X9_stranger : Nat := 143
abbrev m_X9_couldStand : Nat := 144
abbrev m_X9_set : Nat := 145
abbrev m_X9_feed : Nat := 146
abbrev m_X9_end : Nat := 147
abbrev m_X9_see : Nat := 148
abbrev m_X9_isLetter : Nat := 149
abbrev m_X9_isDigit : Nat := 150
abbrev m_X9_is : Nat := 151
abbrev m_X9_nameWord : Nat := 152
abbrev m_X9_word : Nat := 153
abbrev m_X9_next0 : Nat := 154
abbrev m_X9_bad : Nat := 155
abbrev m_X9_need : Nat := 156
abbrev m_X9_lay : Nat := 157
abbrev m_X9_opens : Nat := 158
abbrev m_X9_sumUp : Nat := 159
abbrev m_X9_product : Nat := 160
abbrev m_X9_unit : Nat := 161
abbrev m_X9_any : Nat := 162
abbrev m_X9_every : Nat := 163
abbrev m_X9_oneTest : Nat := 164
abbrev m_X9_aLine : Nat := 165
abbrev m_X9_text : Nat := 166
abbrev m_X9_fault : Nat := 167
abbrev m_X9_both : Nat := 168
abbrev m_X9_comesTo : Nat := 169
abbrev m_X9_beside : Nat := 170
abbrev m_X9_isDry : Nat := 171
abbrev m_X9_laysWays : Nat := 172
abbrev m_X9_wayOf : Nat := 173
abbrev m_X9_way : Nat := 174
abbrev m_X9_areKin : Nat := 175
abbrev m_X9_nearer : Nat := 176
abbrev m_X9_farAlone : Nat := 177
abbrev m_X9_farOf : Nat := 178
abbrev m_X9_kinOf : Nat := 179
abbrev m_X9_isNear : Nat := 180
abbrev m_X9_nearOf : Nat := 181
abbrev m_X9_lawful : Nat := 182
abbrev m_X9_payOf : Nat := 183
abbrev m_X9_payAt : Nat := 184
abbrev m_X9_where : Nat := 185
abbrev m_X9_bestBeside : Nat := 186
abbrev m_X9_chosen : Nat := 187
abbrev m_X9_noon : Nat := 188
abbrev m_X9_evenings : Nat := 189
abbrev m_X9_of : Nat := 190
abbrev m_X9_at : Nat := 191
abbrev m_X9_isRow : Nat := 192
abbrev m_X9_rest : Nat := 193
abbrev m_X9_paid : Nat := 194
abbrev m_X9_isAtRest : Nat := 195
abbrev m_X9_judges : Nat := 196
abbrev m_X9_places : Nat := 197
abbrev m_X9_placings : Nat := 198
abbrev m_X9_allPays : Nat := 199
abbrev m_X9_saves : Nat := 200
abbrev m_X9_line : Nat := 201
abbrev m_X9_rid : Nat := 202
abbrev m_X9_pays : Nat := 203
abbrev m_X9_send : Nat := 204
abbrev m_X9_breaks : Nat := 205
abbrev m_X9_broken : Nat := 206
abbrev m_X9_told : Nat := 207
abbrev m_X9_goWith : Nat := 208
abbrev m_X9_night : Nat := 209
abbrev m_X9_image : Nat := 210
abbrev m_X9_look : Nat := 211
abbrev m_L_law : Nat := 212
def stN : Nat → String × String × String := fun k => match k with
  | 0 => ("FarFromAnybody$Ways", "BESIDE_X", "[I")
  | 1 => ("FarFromAnybody$Ways", "BESIDE_Y", "[I")
  | 2 => ("java/lang/String", "COMPACT_STRINGS", "Z")
  | _ => ("jdk/internal/util/Preconditions", "SIOOBE_FORMATTER", "Ljava/util/function/BiFunction;")
def stxt : List String := ["and", "edge", "evening", "far", "kin", "near", "not", "or", "pay", "water", "when", "x", "y"]
