/-! TABLES, by program: the methods; what an own class's constant pool places mean -/
abbrev MM : Type := Nat × (MethodName × (ByteArray × (Nat × (Option FieldType × (List (Nat × Nat × Nat × Nat) × (Nat × (Nat × (Nat × Bool))))))))
def k_Orders_init : Nat := 0
def k_Orders_length : Nat := 1
def k_Orders_clear : Nat := 2
def k_Orders_readableLength : Nat := 3
def k_Orders_readOrder : Nat := 4
def k_Orders_letterAt : Nat := 5
def k_Orders_codeAt : Nat := 6
def k_Orders_readDeed : Nat := 7
def k_Orders_deedBeginningWith : Nat := 8
def k_Orders_wordOf : Nat := 9
def k_Orders_add : Nat := 10
def k_Orders_areOrders : Nat := 11
def k_Orders_one : Nat := 12
def k_Orders_other : Nat := 13
def k_Orders_deed : Nat := 14
def k_Plan_init : Nat := 15
def k_Plan_copyFrom : Nat := 16
def k_Plan_isWalked : Nat := 17
def k_Plan_widthBetween : Nat := 18
def k_Plan_squareAt : Nat := 19
def k_Plan_box : Nat := 20
def k_Plan_changeSquare : Nat := 21
def k_Plan_squaresThatAre : Nat := 22
def k_Plan_walkedPairs : Nat := 23
def k_Plan_chambers : Nat := 24
def k_Plan_hasChamber : Nat := 25
def k_Plan_doors : Nat := 26
def k_Plan_doorSides : Nat := 27
def k_Plan_chamberSides : Nat := 28
def k_Plan_facingPairs : Nat := 29
def k_Plan_facingDoorsOf : Nat := 30
def k_Plan_isDoor : Nat := 31
def k_Plan_isFaced : Nat := 32
def k_Plan_far : Nat := 33
def k_Plan_doorsOf : Nat := 34
def k_Plan_walksFrom : Nat := 35
def k_Plan_flip : Nat := 36
def k_Plan_lowestChamber : Nat := 37
def k_Plan_giveUp : Nat := 38
def k_Plan_coverBox : Nat := 39
def k_Plan_changeWidth : Nat := 40
def k_Plan_lowestFreeNumber : Nat := 41
def k_Plan_hasSpaceFor : Nat := 42
def k_Plan_addChamber : Nat := 43
def k_Plan_changeFar : Nat := 44
def k_Saved_init : Nat := 45
def k_Saved_push : Nat := 46
def k_Saved_planAt : Nat := 47
def k_Saved_size : Nat := 48
def k_Saved_popInto : Nat := 49
def k_Ways_init : Nat := 50
def k_Ways_digForAll : Nat := 51
def k_Ways_digCheapest : Nat := 52
def k_Ways_find : Nat := 53
def k_Ways_measure : Nat := 54
def k_Ways_rockIn : Nat := 55
def k_Ways_rockOn : Nat := 56
def k_Ways_lookAt : Nat := 57
def k_Ways_startWhereLooked : Nat := 58
def k_Ways_canStand : Nat := 59
def k_Ways_isAtChamber : Nat := 60
def k_Ways_reach : Nat := 61
def k_Ways_spread : Nat := 62
def k_Ways_takeFromQueue : Nat := 63
def k_Ways_bestFirstPlace : Nat := 64
def k_Ways_lengthFrom : Nat := 65
def k_Ways_follow : Nat := 66
def k_Ways_nextPlace : Nat := 67
def k_Ways_digFound : Nat := 68
def k_Ways_needFound : Nat := 69
def k_Ways_needPlace : Nat := 70
def k_Ways_changeSquares : Nat := 71
def k_Ways_fillUnneeded : Nat := 72
def k_Ways_closedPairs : Nat := 73
def k_Ways_missingCost : Nat := 74
def k_Ways_closedFrom : Nat := 75
def k_Ways_foundPlaces : Nat := 76
def k_Ways_foundPlace : Nat := 77
def k_Cp_init : Nat := 78
def k_Cp_carveAll : Nat := 79
def k_Cp_copyRow : Nat := 80
def k_Cp_at : Nat := 81
def k_Cp_put : Nat := 82
def k_Cp_clearMarks : Nat := 83
def k_Cp_fillUp : Nat := 84
def k_Cp_clearBuffer : Nat := 85
def k_Cp_firstError : Nat := 86
def k_Cp_allCost : Nat := 87
def k_Cp_openShare : Nat := 88
def k_Cp_digest : Nat := 89
def k_Cp_count : Nat := 90
def k_Cp_mix : Nat := 91
def k_Cp_mixSquares : Nat := 92
def k_Cp_mixChambers : Nat := 93
def k_Cp_chamber : Nat := 94
def k_Cp_requireChamber : Nat := 95
def k_Cp_mixWays : Nat := 96
def k_Cp_way : Nat := 97
def k_Cp_requireTwoChambers : Nat := 98
def k_Cp_ifDug : Nat := 99
def k_Cp_requireSquare : Nat := 100
def k_Cp_ifGiven : Nat := 101
def k_Cp_bitsOfShare : Nat := 102
def k_Cp_mixBuffer : Nat := 103
def k_Cp_room : Nat := 104
def k_Cp_give : Nat := 105
def k_Cp_walk : Nat := 106
def k_Cp_dig : Nat := 107
def k_Cp_carve : Nat := 108
def k_Cp_set : Nat := 109
def k_Cp_append : Nat := 110
def k_Cp_run : Nat := 111
def k_Cp_doOrder : Nat := 112
def k_Cp_undo : Nat := 113
def k_Cp_square : Nat := 114
def k_Model_init : Nat := 115
def k_Model_thrown : Nat := 116
def k_Model_undo : Nat := 117
def k_Model_fails : Nat := 118
def k_Model_copies : Nat := 119
def k_Model_room : Nat := 120
def k_Model_in : Nat := 121
def k_Model_free : Nat := 122
def k_Model_isThere : Nat := 123
def k_Model_of : Nat := 124
def k_Model_canBe : Nat := 125
def k_Model_what : Nat := 126
def k_Model_isSquare : Nat := 127
def k_Model_saves : Nat := 128
def k_Model_give : Nat := 129
def k_Model_gives : Nat := 130
def k_Model_walk : Nat := 131
def k_Model_may : Nat := 132
def k_Model_walking : Nat := 133
def k_Model_walks : Nat := 134
def k_Model_dig : Nat := 135
def k_Model_toggles : Nat := 136
def k_Model_carve : Nat := 137
def k_Model_isWay : Nat := 138
def k_Model_laysRests : Nat := 139
def k_Model_isPlace : Nat := 140
def k_Model_isAtRoom : Nat := 141
def k_Model_isBeside : Nat := 142
def k_Model_nearest : Nat := 143
def k_Model_next : Nat := 144
def k_Model_rock : Nat := 145
def k_Model_follower : Nat := 146
def k_Model_digs : Nat := 147
def k_Model_carveAll : Nat := 148
def k_Model_digsNext : Nat := 149
def k_Model_fillUp : Nat := 150
def k_Model_isOpen : Nat := 151
def k_Model_set : Nat := 152
def k_Model_append : Nat := 153
def k_Model_clearBuffer : Nat := 154
def k_Model_firstError : Nat := 155
def k_Model_isText : Nat := 156
def k_Model_isOrder : Nat := 157
def k_Model_isLetter : Nat := 158
def k_Model_stops : Nat := 159
def k_Model_isSign : Nat := 160
def k_Model_isAt : Nat := 161
def k_Model_isWord : Nat := 162
def k_Model_run : Nat := 163
def k_Model_does : Nat := 164
def k_Model_square : Nat := 165
def k_Model_sides : Nat := 166
def k_Model_chamber : Nat := 167
def k_Model_ofRoom : Nat := 168
def k_Model_doors : Nat := 169
def k_Model_faces : Nat := 170
def k_Model_walked : Nat := 171
def k_Model_way : Nat := 172
def k_Model_ofWay : Nat := 173
def k_Model_count : Nat := 174
def k_Model_counted : Nat := 175
def k_Model_rooms : Nat := 176
def k_Model_squares : Nat := 177
def k_Model_allDoors : Nat := 178
def k_Model_pairs : Nat := 179
def k_Model_ifDug : Nat := 180
def k_Model_byDigging : Nat := 181
def k_Model_tries : Nat := 182
def k_Model_ifGiven : Nat := 183
def k_Model_without : Nat := 184
def k_Model_allCost : Nat := 185
def k_Model_forAll : Nat := 186
def k_Model_openShare : Nat := 187
def k_Model_share : Nat := 188
def k_Model_digest : Nat := 189
def k_Law_room : Nat := 190
def k_Law_give : Nat := 191
def k_Law_walk : Nat := 192
def k_Law_dig : Nat := 193
def k_Law_carve : Nat := 194
def k_Law_set : Nat := 195
def k_Law_append : Nat := 196
def k_Law_run : Nat := 197
def k_Law_undo : Nat := 198
def k_Law_square : Nat := 199
def k_Law_chamber : Nat := 200
def k_Law_way : Nat := 201
def k_Law_count : Nat := 202
def k_Law_ifDug : Nat := 203
def k_Law_ifGiven : Nat := 204
def k_Arrays_fill : Nat := 205
def k_String_length : Nat := 206
def k_String_coder : Nat := 207
def k_String_charAt : Nat := 208
def k_String_isLatin1 : Nat := 209
def k_String_checkIndex : Nat := 210
def k_Latin1_charAt : Nat := 211
def k_Precond_checkIndex : Nat := 212
def k_Double_doubleToLongBits : Nat := 213
def k_Double_isNaN : Nat := 214
def k_Law_law : Nat := 215
def am_nM : Nat := 215
def am_M0 : List MM := [
  (0, (({ cls := "CorridorPlan$Orders", name := "<init>", desc := "()V" } : MethodName), (prog_2_method_1_code, (1, (none, ([], (1, (20, (0, false))))))))),
  (0, (({ cls := "CorridorPlan$Orders", name := "length", desc := "()I" } : MethodName), (prog_2_method_2_code, (1, ((some FieldType.int), ([], (0, (0, (0, false))))))))),
  (0, (({ cls := "CorridorPlan$Orders", name := "clear", desc := "()V" } : MethodName), (prog_2_method_5_code, (1, (none, ([], (0, (0, (0, false))))))))),
  (0, (({ cls := "CorridorPlan$Orders", name := "readableLength", desc := "()I" } : MethodName), (prog_2_method_9_code, (3, ((some FieldType.int), ([], (6, (129, (0, false))))))))),
  (0, (({ cls := "CorridorPlan$Orders", name := "readOrder", desc := "(I)I" } : MethodName), (prog_2_method_11_code, (2, ((some FieldType.int), ([], (5, (108, (1, false))))))))),
  (0, (({ cls := "CorridorPlan$Orders", name := "letterAt", desc := "(I)I" } : MethodName), (prog_2_method_12_code, (3, ((some FieldType.int), ([], (2, (42, (1, false))))))))),
  (0, (({ cls := "CorridorPlan$Orders", name := "codeAt", desc := "(I)I" } : MethodName), (prog_2_method_3_code, (2, ((some FieldType.int), ([], (1, (21, (1, false))))))))),
  (0, (({ cls := "CorridorPlan$Orders", name := "readDeed", desc := "(I)I" } : MethodName), (prog_2_method_13_code, (4, ((some FieldType.int), ([], (4, (85, (1, false))))))))),
  (0, (({ cls := "CorridorPlan$Orders", name := "deedBeginningWith", desc := "(I)I" } : MethodName), (prog_2_method_14_code, (1, ((some FieldType.int), ([], (0, (0, (1, true))))))))),
  (0, (({ cls := "CorridorPlan$Orders", name := "wordOf", desc := "(I)Ljava/lang/String;" } : MethodName), (prog_2_method_15_code, (1, ((some (FieldType.object "java/lang/String")), ([], (0, (0, (1, true))))))))),
  (0, (({ cls := "CorridorPlan$Orders", name := "add", desc := "(I)V" } : MethodName), (prog_2_method_4_code, (2, (none, ([], (1, (22, (1, false))))))))),
  (0, (({ cls := "CorridorPlan$Orders", name := "areOrders", desc := "()Z" } : MethodName), (prog_2_method_10_code, (1, ((some FieldType.boolean), ([], (7, (151, (0, false))))))))),
  (0, (({ cls := "CorridorPlan$Orders", name := "one", desc := "()I" } : MethodName), (prog_2_method_6_code, (1, ((some FieldType.int), ([], (0, (0, (0, false))))))))),
  (0, (({ cls := "CorridorPlan$Orders", name := "other", desc := "()I" } : MethodName), (prog_2_method_7_code, (1, ((some FieldType.int), ([], (0, (0, (0, false))))))))),
  (0, (({ cls := "CorridorPlan$Orders", name := "deed", desc := "()I" } : MethodName), (prog_2_method_8_code, (1, ((some FieldType.int), ([], (0, (0, (0, false))))))))),
  (1, (({ cls := "CorridorPlan$Plan", name := "<init>", desc := "()V" } : MethodName), (prog_3_method_1_code, (1, (none, ([], (1, (23, (0, false))))))))),
  (1, (({ cls := "CorridorPlan$Plan", name := "copyFrom", desc := "(LCorridorPlan$Plan;)V" } : MethodName), (prog_3_method_2_code, (2, (none, ([], (1, (22, (1, false))))))))),
  (1, (({ cls := "CorridorPlan$Plan", name := "isWalked", desc := "(II)Z" } : MethodName), (prog_3_method_20_code, (3, ((some FieldType.boolean), ([], (2, (43, (2, false))))))))),
  (1, (({ cls := "CorridorPlan$Plan", name := "widthBetween", desc := "(II)I" } : MethodName), (prog_3_method_18_code, (3, ((some FieldType.int), ([], (1, (21, (2, false))))))))),
  (1, (({ cls := "CorridorPlan$Plan", name := "squareAt", desc := "(II)I" } : MethodName), (prog_3_method_5_code, (4, ((some FieldType.int), ([], (0, (0, (2, false))))))))),
  (1, (({ cls := "CorridorPlan$Plan", name := "box", desc := "(II)I" } : MethodName), (prog_3_method_9_code, (4, ((some FieldType.int), ([], (0, (0, (2, false))))))))),
  (1, (({ cls := "CorridorPlan$Plan", name := "changeSquare", desc := "(III)V" } : MethodName), (prog_3_method_6_code, (4, (none, ([], (1, (22, (3, false))))))))),
  (1, (({ cls := "CorridorPlan$Plan", name := "squaresThatAre", desc := "(I)I" } : MethodName), (prog_3_method_8_code, (4, ((some FieldType.int), ([], (0, (0, (1, false))))))))),
  (1, (({ cls := "CorridorPlan$Plan", name := "walkedPairs", desc := "()I" } : MethodName), (prog_3_method_22_code, (4, ((some FieldType.int), ([], (3, (65, (0, false))))))))),
  (1, (({ cls := "CorridorPlan$Plan", name := "chambers", desc := "()I" } : MethodName), (prog_3_method_11_code, (3, ((some FieldType.int), ([], (2, (44, (0, false))))))))),
  (1, (({ cls := "CorridorPlan$Plan", name := "hasChamber", desc := "(I)Z" } : MethodName), (prog_3_method_10_code, (2, ((some FieldType.boolean), ([], (1, (23, (1, false))))))))),
  (1, (({ cls := "CorridorPlan$Plan", name := "doors", desc := "()I" } : MethodName), (prog_3_method_25_code, (4, ((some FieldType.int), ([], (3, (69, (0, false))))))))),
  (1, (({ cls := "CorridorPlan$Plan", name := "doorSides", desc := "(II)I" } : MethodName), (prog_3_method_24_code, (3, ((some FieldType.int), ([], (2, (47, (2, false))))))))),
  (1, (({ cls := "CorridorPlan$Plan", name := "chamberSides", desc := "(II)I" } : MethodName), (prog_3_method_23_code, (5, ((some FieldType.int), ([], (1, (23, (2, false))))))))),
  (1, (({ cls := "CorridorPlan$Plan", name := "facingPairs", desc := "()I" } : MethodName), (prog_3_method_30_code, (3, ((some FieldType.int), ([], (3, (76, (0, false))))))))),
  (1, (({ cls := "CorridorPlan$Plan", name := "facingDoorsOf", desc := "(I)I" } : MethodName), (prog_3_method_28_code, (6, ((some FieldType.int), ([], (2, (51, (1, false))))))))),
  (1, (({ cls := "CorridorPlan$Plan", name := "isDoor", desc := "(IIII)Z" } : MethodName), (prog_3_method_26_code, (5, ((some FieldType.boolean), ([], (1, (23, (4, false))))))))),
  (1, (({ cls := "CorridorPlan$Plan", name := "isFaced", desc := "(IIII)Z" } : MethodName), (prog_3_method_29_code, (9, ((some FieldType.boolean), ([], (1, (23, (4, false))))))))),
  (1, (({ cls := "CorridorPlan$Plan", name := "far", desc := "()I" } : MethodName), (prog_3_method_3_code, (1, ((some FieldType.int), ([], (0, (0, (0, false))))))))),
  (1, (({ cls := "CorridorPlan$Plan", name := "doorsOf", desc := "(I)I" } : MethodName), (prog_3_method_27_code, (6, ((some FieldType.int), ([], (2, (47, (1, false))))))))),
  (1, (({ cls := "CorridorPlan$Plan", name := "walksFrom", desc := "(I)I" } : MethodName), (prog_3_method_21_code, (4, ((some FieldType.int), ([], (3, (65, (1, false))))))))),
  (1, (({ cls := "CorridorPlan$Plan", name := "flip", desc := "(II)V" } : MethodName), (prog_3_method_7_code, (3, (none, ([], (2, (45, (2, false))))))))),
  (1, (({ cls := "CorridorPlan$Plan", name := "lowestChamber", desc := "()I" } : MethodName), (prog_3_method_12_code, (2, ((some FieldType.int), ([], (2, (44, (0, false))))))))),
  (1, (({ cls := "CorridorPlan$Plan", name := "giveUp", desc := "(I)I" } : MethodName), (prog_3_method_16_code, (4, ((some FieldType.int), ([], (3, (73, (1, false))))))))),
  (1, (({ cls := "CorridorPlan$Plan", name := "coverBox", desc := "(II)V" } : MethodName), (prog_3_method_17_code, (9, (none, ([], (2, (45, (2, false)))))))))]
def am_M1 : List MM := [
  (1, (({ cls := "CorridorPlan$Plan", name := "changeWidth", desc := "(III)V" } : MethodName), (prog_3_method_19_code, (4, (none, ([], (1, (22, (3, false))))))))),
  (1, (({ cls := "CorridorPlan$Plan", name := "lowestFreeNumber", desc := "()I" } : MethodName), (prog_3_method_13_code, (2, ((some FieldType.int), ([], (2, (44, (0, false))))))))),
  (1, (({ cls := "CorridorPlan$Plan", name := "hasSpaceFor", desc := "(IIII)Z" } : MethodName), (prog_3_method_14_code, (7, ((some FieldType.boolean), ([], (2, (47, (4, false))))))))),
  (1, (({ cls := "CorridorPlan$Plan", name := "addChamber", desc := "(IIIII)V" } : MethodName), (prog_3_method_15_code, (6, (none, ([], (3, (73, (5, false))))))))),
  (1, (({ cls := "CorridorPlan$Plan", name := "changeFar", desc := "(I)V" } : MethodName), (prog_3_method_4_code, (2, (none, ([], (0, (0, (1, false))))))))),
  (2, (({ cls := "CorridorPlan$Saved", name := "<init>", desc := "()V" } : MethodName), (prog_4_method_1_code, (2, (none, ([], (2, (43, (0, false))))))))),
  (2, (({ cls := "CorridorPlan$Saved", name := "push", desc := "(LCorridorPlan$Plan;)V" } : MethodName), (prog_4_method_4_code, (3, (none, ([], (2, (43, (1, false))))))))),
  (2, (({ cls := "CorridorPlan$Saved", name := "planAt", desc := "(I)LCorridorPlan$Plan;" } : MethodName), (prog_4_method_3_code, (2, ((some (FieldType.object "CorridorPlan$Plan")), ([], (0, (0, (1, false))))))))),
  (2, (({ cls := "CorridorPlan$Saved", name := "size", desc := "()I" } : MethodName), (prog_4_method_2_code, (1, ((some FieldType.int), ([], (0, (0, (0, false))))))))),
  (2, (({ cls := "CorridorPlan$Saved", name := "popInto", desc := "(LCorridorPlan$Plan;)V" } : MethodName), (prog_4_method_5_code, (4, (none, ([], (2, (43, (1, false))))))))),
  (3, (({ cls := "CorridorPlan$Ways", name := "<init>", desc := "()V" } : MethodName), (prog_5_method_1_code, (1, (none, ([], (1, (20, (0, false))))))))),
  (3, (({ cls := "CorridorPlan$Ways", name := "digForAll", desc := "(LCorridorPlan$Plan;)I" } : MethodName), (prog_5_method_20_code, (3, ((some FieldType.int), ([], (5, (126, (1, false))))))))),
  (3, (({ cls := "CorridorPlan$Ways", name := "digCheapest", desc := "(LCorridorPlan$Plan;)Z" } : MethodName), (prog_5_method_21_code, (8, ((some FieldType.boolean), ([], (4, (99, (1, false))))))))),
  (3, (({ cls := "CorridorPlan$Ways", name := "find", desc := "(LCorridorPlan$Plan;II)I" } : MethodName), (prog_5_method_2_code, (5, ((some FieldType.int), ([], (3, (75, (3, false))))))))),
  (3, (({ cls := "CorridorPlan$Ways", name := "measure", desc := "(LCorridorPlan$Plan;)V" } : MethodName), (prog_5_method_5_code, (5, (none, ([], (2, (51, (1, false))))))))),
  (3, (({ cls := "CorridorPlan$Ways", name := "rockIn", desc := "(LCorridorPlan$Plan;IIII)I" } : MethodName), (prog_5_method_6_code, (9, ((some FieldType.int), ([], (1, (23, (5, true))))))))),
  (3, (({ cls := "CorridorPlan$Ways", name := "rockOn", desc := "(I)I" } : MethodName), (prog_5_method_7_code, (4, ((some FieldType.int), ([], (1, (21, (1, false))))))))),
  (3, (({ cls := "CorridorPlan$Ways", name := "lookAt", desc := "(LCorridorPlan$Plan;I)V" } : MethodName), (prog_5_method_9_code, (3, (none, ([], (1, (23, (2, false))))))))),
  (3, (({ cls := "CorridorPlan$Ways", name := "startWhereLooked", desc := "()V" } : MethodName), (prog_5_method_11_code, (2, (none, ([], (2, (44, (0, false))))))))),
  (3, (({ cls := "CorridorPlan$Ways", name := "canStand", desc := "(I)Z" } : MethodName), (prog_5_method_8_code, (2, ((some FieldType.boolean), ([], (0, (0, (1, false))))))))),
  (3, (({ cls := "CorridorPlan$Ways", name := "isAtChamber", desc := "(I)Z" } : MethodName), (prog_5_method_10_code, (4, ((some FieldType.boolean), ([], (0, (0, (1, false))))))))),
  (3, (({ cls := "CorridorPlan$Ways", name := "reach", desc := "(II)V" } : MethodName), (prog_5_method_13_code, (3, (none, ([], (1, (22, (2, false))))))))),
  (3, (({ cls := "CorridorPlan$Ways", name := "spread", desc := "()V" } : MethodName), (prog_5_method_12_code, (6, (none, ([], (2, (44, (0, false))))))))),
  (3, (({ cls := "CorridorPlan$Ways", name := "takeFromQueue", desc := "()I" } : MethodName), (prog_5_method_14_code, (2, ((some FieldType.int), ([], (1, (21, (0, false))))))))),
  (3, (({ cls := "CorridorPlan$Ways", name := "bestFirstPlace", desc := "()I" } : MethodName), (prog_5_method_16_code, (4, ((some FieldType.int), ([], (2, (42, (0, false))))))))),
  (3, (({ cls := "CorridorPlan$Ways", name := "lengthFrom", desc := "(I)I" } : MethodName), (prog_5_method_15_code, (2, ((some FieldType.int), ([], (1, (21, (1, false))))))))),
  (3, (({ cls := "CorridorPlan$Ways", name := "follow", desc := "(I)V" } : MethodName), (prog_5_method_17_code, (3, (none, ([], (2, (49, (1, false))))))))),
  (3, (({ cls := "CorridorPlan$Ways", name := "nextPlace", desc := "(I)I" } : MethodName), (prog_5_method_18_code, (9, ((some FieldType.int), ([], (1, (21, (1, false))))))))),
  (3, (({ cls := "CorridorPlan$Ways", name := "digFound", desc := "(LCorridorPlan$Plan;)I" } : MethodName), (prog_5_method_19_code, (2, ((some FieldType.int), ([], (3, (73, (1, false))))))))),
  (3, (({ cls := "CorridorPlan$Ways", name := "needFound", desc := "()V" } : MethodName), (prog_5_method_23_code, (2, (none, ([], (1, (24, (0, false))))))))),
  (3, (({ cls := "CorridorPlan$Ways", name := "needPlace", desc := "(I)V" } : MethodName), (prog_5_method_24_code, (5, (none, ([], (0, (0, (1, false))))))))),
  (3, (({ cls := "CorridorPlan$Ways", name := "changeSquares", desc := "(LCorridorPlan$Plan;ZII)I" } : MethodName), (prog_5_method_25_code, (9, ((some FieldType.int), ([], (2, (45, (4, false))))))))),
  (3, (({ cls := "CorridorPlan$Ways", name := "fillUnneeded", desc := "(LCorridorPlan$Plan;)I" } : MethodName), (prog_5_method_22_code, (4, ((some FieldType.int), ([], (4, (99, (1, false))))))))),
  (3, (({ cls := "CorridorPlan$Ways", name := "closedPairs", desc := "(LCorridorPlan$Plan;)I" } : MethodName), (prog_5_method_27_code, (5, ((some FieldType.int), ([], (4, (99, (1, false))))))))),
  (3, (({ cls := "CorridorPlan$Ways", name := "missingCost", desc := "(LCorridorPlan$Plan;)I" } : MethodName), (prog_5_method_28_code, (5, ((some FieldType.int), ([], (4, (99, (1, false))))))))),
  (3, (({ cls := "CorridorPlan$Ways", name := "closedFrom", desc := "(LCorridorPlan$Plan;I)I" } : MethodName), (prog_5_method_26_code, (5, ((some FieldType.int), ([], (4, (99, (2, false))))))))),
  (3, (({ cls := "CorridorPlan$Ways", name := "foundPlaces", desc := "()I" } : MethodName), (prog_5_method_3_code, (1, ((some FieldType.int), ([], (0, (0, (0, false))))))))),
  (3, (({ cls := "CorridorPlan$Ways", name := "foundPlace", desc := "(I)I" } : MethodName), (prog_5_method_4_code, (2, ((some FieldType.int), ([], (1, (21, (1, false))))))))),
  (4, (({ cls := "CorridorPlan", name := "<init>", desc := "()V" } : MethodName), (prog_1_method_1_code, (1, (none, ([], (3, (64, (0, false))))))))),
  (4, (({ cls := "CorridorPlan", name := "carveAll", desc := "()I" } : MethodName), (prog_1_method_7_code, (1, ((some FieldType.int), ([], (6, (148, (0, false)))))))))]
def am_M2 : List MM := [
  (4, (({ cls := "CorridorPlan", name := "copyRow", desc := "([I[I)V" } : MethodName), (prog_1_method_37_code, (3, (none, ([], (0, (0, (2, true))))))))),
  (4, (({ cls := "CorridorPlan", name := "at", desc := "([II)I" } : MethodName), (prog_1_method_34_code, (2, ((some FieldType.int), ([], (0, (0, (2, true))))))))),
  (4, (({ cls := "CorridorPlan", name := "put", desc := "([III)V" } : MethodName), (prog_1_method_35_code, (3, (none, ([], (0, (0, (3, true))))))))),
  (4, (({ cls := "CorridorPlan", name := "clearMarks", desc := "([Z)V" } : MethodName), (prog_1_method_36_code, (2, (none, ([], (0, (0, (1, true))))))))),
  (4, (({ cls := "CorridorPlan", name := "fillUp", desc := "()I" } : MethodName), (prog_1_method_8_code, (1, ((some FieldType.int), ([], (5, (122, (0, false))))))))),
  (4, (({ cls := "CorridorPlan", name := "clearBuffer", desc := "()I" } : MethodName), (prog_1_method_11_code, (2, ((some FieldType.int), ([], (1, (20, (0, false))))))))),
  (4, (({ cls := "CorridorPlan", name := "firstError", desc := "()I" } : MethodName), (prog_1_method_12_code, (1, ((some FieldType.int), ([], (7, (151, (0, false))))))))),
  (4, (({ cls := "CorridorPlan", name := "allCost", desc := "()I" } : MethodName), (prog_1_method_21_code, (1, ((some FieldType.int), ([], (6, (148, (0, false))))))))),
  (4, (({ cls := "CorridorPlan", name := "openShare", desc := "()D" } : MethodName), (prog_1_method_22_code, (2, ((some FieldType.double), ([], (5, (123, (0, false))))))))),
  (4, (({ cls := "CorridorPlan", name := "digest", desc := "()J" } : MethodName), (prog_1_method_23_code, (4, ((some FieldType.long), ([], (10, (177, (0, false))))))))),
  (4, (({ cls := "CorridorPlan", name := "count", desc := "(I)I" } : MethodName), (prog_1_method_18_code, (2, ((some FieldType.int), ([], (6, (123, (1, false))))))))),
  (4, (({ cls := "CorridorPlan", name := "mix", desc := "(JJ)J" } : MethodName), (prog_1_method_28_code, (4, ((some FieldType.long), ([], (0, (0, (2, true))))))))),
  (4, (({ cls := "CorridorPlan", name := "mixSquares", desc := "(J)J" } : MethodName), (prog_1_method_29_code, (8, ((some FieldType.long), ([], (3, (69, (1, false))))))))),
  (4, (({ cls := "CorridorPlan", name := "mixChambers", desc := "(J)J" } : MethodName), (prog_1_method_30_code, (7, ((some FieldType.long), ([], (8, (145, (1, false))))))))),
  (4, (({ cls := "CorridorPlan", name := "chamber", desc := "(II)I" } : MethodName), (prog_1_method_16_code, (3, ((some FieldType.int), ([], (7, (123, (2, false))))))))),
  (4, (({ cls := "CorridorPlan", name := "requireChamber", desc := "(I)V" } : MethodName), (prog_1_method_24_code, (2, (none, ([], (6, (82, (1, false))))))))),
  (4, (({ cls := "CorridorPlan", name := "mixWays", desc := "(J)J" } : MethodName), (prog_1_method_31_code, (8, ((some FieldType.long), ([], (9, (150, (1, false))))))))),
  (4, (({ cls := "CorridorPlan", name := "way", desc := "(III)I" } : MethodName), (prog_1_method_17_code, (6, ((some FieldType.int), ([], (8, (125, (3, false))))))))),
  (4, (({ cls := "CorridorPlan", name := "requireTwoChambers", desc := "(II)V" } : MethodName), (prog_1_method_25_code, (3, (none, ([], (7, (103, (2, false))))))))),
  (4, (({ cls := "CorridorPlan", name := "ifDug", desc := "(III)I" } : MethodName), (prog_1_method_19_code, (4, ((some FieldType.int), ([], (7, (123, (3, false))))))))),
  (4, (({ cls := "CorridorPlan", name := "requireSquare", desc := "(II)V" } : MethodName), (prog_1_method_26_code, (2, (none, ([], (6, (82, (2, true))))))))),
  (4, (({ cls := "CorridorPlan", name := "ifGiven", desc := "(I)I" } : MethodName), (prog_1_method_20_code, (2, ((some FieldType.int), ([], (7, (123, (1, false))))))))),
  (4, (({ cls := "CorridorPlan", name := "bitsOfShare", desc := "(D)J" } : MethodName), (prog_1_method_33_code, (6, ((some FieldType.long), ([], (0, (0, (1, true))))))))),
  (4, (({ cls := "CorridorPlan", name := "mixBuffer", desc := "(J)J" } : MethodName), (prog_1_method_32_code, (6, ((some FieldType.long), ([], (2, (42, (1, false))))))))),
  (4, (({ cls := "CorridorPlan", name := "room", desc := "(IIII)I" } : MethodName), (prog_1_method_2_code, (6, ((some FieldType.int), ([], (6, (98, (4, false))))))))),
  (4, (({ cls := "CorridorPlan", name := "give", desc := "(I)I" } : MethodName), (prog_1_method_3_code, (2, ((some FieldType.int), ([], (7, (103, (1, false))))))))),
  (4, (({ cls := "CorridorPlan", name := "walk", desc := "(III)I" } : MethodName), (prog_1_method_4_code, (5, ((some FieldType.int), ([], (8, (125, (3, false))))))))),
  (4, (({ cls := "CorridorPlan", name := "dig", desc := "(II)I" } : MethodName), (prog_1_method_5_code, (3, ((some FieldType.int), ([], (7, (103, (2, false))))))))),
  (4, (({ cls := "CorridorPlan", name := "carve", desc := "(II)I" } : MethodName), (prog_1_method_6_code, (3, ((some FieldType.int), ([], (8, (125, (2, false))))))))),
  (4, (({ cls := "CorridorPlan", name := "set", desc := "(I)I" } : MethodName), (prog_1_method_9_code, (3, ((some FieldType.int), ([], (6, (82, (1, false))))))))),
  (4, (({ cls := "CorridorPlan", name := "append", desc := "(I)I" } : MethodName), (prog_1_method_10_code, (2, ((some FieldType.int), ([], (6, (82, (1, false))))))))),
  (4, (({ cls := "CorridorPlan", name := "run", desc := "()I" } : MethodName), (prog_1_method_13_code, (4, ((some FieldType.int), ([], (8, (171, (0, false))))))))),
  (4, (({ cls := "CorridorPlan", name := "doOrder", desc := "(III)Z" } : MethodName), (prog_1_method_27_code, (4, ((some FieldType.boolean), ([], (4, (99, (3, false))))))))),
  (4, (({ cls := "CorridorPlan", name := "undo", desc := "()I" } : MethodName), (prog_1_method_14_code, (1, ((some FieldType.int), ([], (6, (82, (0, false))))))))),
  (4, (({ cls := "CorridorPlan", name := "square", desc := "(III)I" } : MethodName), (prog_1_method_15_code, (4, ((some FieldType.int), ([], (7, (103, (3, false))))))))),
  (5, (({ cls := "CorridorPlanModel", name := "<init>", desc := "()V" } : MethodName), (prog_7_method_1_code, (2, (none, ([], (1, (20, (0, false))))))))),
  (5, (({ cls := "CorridorPlanModel", name := "thrown", desc := "()I" } : MethodName), (prog_7_method_2_code, (1, ((some FieldType.int), ([], (0, (0, (0, false))))))))),
  (5, (({ cls := "CorridorPlanModel", name := "undo", desc := "()I" } : MethodName), (prog_7_method_11_code, (1, ((some FieldType.int), ([], (1, (24, (0, false))))))))),
  (5, (({ cls := "CorridorPlanModel", name := "fails", desc := "(I)I" } : MethodName), (prog_7_method_3_code, (2, ((some FieldType.int), ([], (0, (0, (1, false))))))))),
  (5, (({ cls := "CorridorPlanModel", name := "copies", desc := "([II[II)V" } : MethodName), (prog_7_method_9_code, (5, (none, ([], (0, (0, (4, true)))))))))]
def am_M3 : List MM := [
  (5, (({ cls := "CorridorPlanModel", name := "room", desc := "(IIII)I" } : MethodName), (prog_7_method_32_code, (7, ((some FieldType.int), ([], (4, (92, (4, false))))))))),
  (5, (({ cls := "CorridorPlanModel", name := "in", desc := "(III)Z" } : MethodName), (prog_7_method_4_code, (3, ((some FieldType.boolean), ([], (0, (0, (3, true))))))))),
  (5, (({ cls := "CorridorPlanModel", name := "free", desc := "()I" } : MethodName), (prog_7_method_31_code, (2, ((some FieldType.int), ([], (2, (43, (0, false))))))))),
  (5, (({ cls := "CorridorPlanModel", name := "isThere", desc := "([II)Z" } : MethodName), (prog_7_method_7_code, (2, ((some FieldType.boolean), ([], (1, (22, (2, true))))))))),
  (5, (({ cls := "CorridorPlanModel", name := "of", desc := "([III)I" } : MethodName), (prog_7_method_6_code, (3, ((some FieldType.int), ([], (0, (0, (3, true))))))))),
  (5, (({ cls := "CorridorPlanModel", name := "canBe", desc := "(IIII)Z" } : MethodName), (prog_7_method_30_code, (8, ((some FieldType.boolean), ([], (3, (65, (4, false))))))))),
  (5, (({ cls := "CorridorPlanModel", name := "what", desc := "([III)I" } : MethodName), (prog_7_method_13_code, (3, ((some FieldType.int), ([], (2, (43, (3, true))))))))),
  (5, (({ cls := "CorridorPlanModel", name := "isSquare", desc := "(II)Z" } : MethodName), (prog_7_method_5_code, (2, ((some FieldType.boolean), ([], (1, (22, (2, true))))))))),
  (5, (({ cls := "CorridorPlanModel", name := "saves", desc := "()V" } : MethodName), (prog_7_method_10_code, (2, (none, ([], (1, (24, (0, false))))))))),
  (5, (({ cls := "CorridorPlanModel", name := "give", desc := "(I)I" } : MethodName), (prog_7_method_34_code, (2, ((some FieldType.int), ([], (2, (45, (1, false))))))))),
  (5, (({ cls := "CorridorPlanModel", name := "gives", desc := "([II)I" } : MethodName), (prog_7_method_33_code, (4, ((some FieldType.int), ([], (0, (0, (2, true))))))))),
  (5, (({ cls := "CorridorPlanModel", name := "walk", desc := "(III)I" } : MethodName), (prog_7_method_37_code, (4, ((some FieldType.int), ([], (3, (66, (3, false))))))))),
  (5, (({ cls := "CorridorPlanModel", name := "may", desc := "(IIZ)I" } : MethodName), (prog_7_method_35_code, (4, ((some FieldType.int), ([], (2, (43, (3, false))))))))),
  (5, (({ cls := "CorridorPlanModel", name := "walking", desc := "(III)I" } : MethodName), (prog_7_method_36_code, (5, ((some FieldType.int), ([], (1, (22, (3, false))))))))),
  (5, (({ cls := "CorridorPlanModel", name := "walks", desc := "([III)I" } : MethodName), (prog_7_method_8_code, (3, ((some FieldType.int), ([], (0, (0, (3, true))))))))),
  (5, (({ cls := "CorridorPlanModel", name := "dig", desc := "(II)I" } : MethodName), (prog_7_method_39_code, (3, ((some FieldType.int), ([], (3, (65, (2, false))))))))),
  (5, (({ cls := "CorridorPlanModel", name := "toggles", desc := "([II)V" } : MethodName), (prog_7_method_38_code, (2, (none, ([], (0, (0, (2, true))))))))),
  (5, (({ cls := "CorridorPlanModel", name := "carve", desc := "(II)I" } : MethodName), (prog_7_method_40_code, (3, ((some FieldType.int), ([], (7, (167, (2, false))))))))),
  (5, (({ cls := "CorridorPlanModel", name := "isWay", desc := "([III)Z" } : MethodName), (prog_7_method_21_code, (8, ((some FieldType.boolean), ([], (6, (140, (3, false))))))))),
  (5, (({ cls := "CorridorPlanModel", name := "laysRests", desc := "([II)V" } : MethodName), (prog_7_method_20_code, (7, (none, ([], (5, (114, (2, false))))))))),
  (5, (({ cls := "CorridorPlanModel", name := "isPlace", desc := "([III)Z" } : MethodName), (prog_7_method_14_code, (5, ((some FieldType.boolean), ([], (3, (65, (3, false))))))))),
  (5, (({ cls := "CorridorPlanModel", name := "isAtRoom", desc := "([III)Z" } : MethodName), (prog_7_method_17_code, (6, ((some FieldType.boolean), ([], (4, (88, (3, false))))))))),
  (5, (({ cls := "CorridorPlanModel", name := "isBeside", desc := "([IIII)Z" } : MethodName), (prog_7_method_16_code, (4, ((some FieldType.boolean), ([], (3, (65, (4, true))))))))),
  (5, (({ cls := "CorridorPlanModel", name := "nearest", desc := "()I" } : MethodName), (prog_7_method_19_code, (3, ((some FieldType.int), ([], (0, (0, (0, false))))))))),
  (5, (({ cls := "CorridorPlanModel", name := "next", desc := "([III)I" } : MethodName), (prog_7_method_18_code, (6, ((some FieldType.int), ([], (4, (89, (3, false))))))))),
  (5, (({ cls := "CorridorPlanModel", name := "rock", desc := "([III)I" } : MethodName), (prog_7_method_15_code, (9, ((some FieldType.int), ([], (3, (65, (3, false))))))))),
  (5, (({ cls := "CorridorPlanModel", name := "follower", desc := "([II)I" } : MethodName), (prog_7_method_22_code, (6, ((some FieldType.int), ([], (5, (114, (2, false))))))))),
  (5, (({ cls := "CorridorPlanModel", name := "digs", desc := "([I)I" } : MethodName), (prog_7_method_24_code, (6, ((some FieldType.int), ([], (0, (0, (1, false))))))))),
  (5, (({ cls := "CorridorPlanModel", name := "carveAll", desc := "()I" } : MethodName), (prog_7_method_41_code, (2, ((some FieldType.int), ([], (8, (194, (0, false))))))))),
  (5, (({ cls := "CorridorPlanModel", name := "digsNext", desc := "([I)I" } : MethodName), (prog_7_method_25_code, (8, ((some FieldType.int), ([], (7, (167, (1, false))))))))),
  (5, (({ cls := "CorridorPlanModel", name := "fillUp", desc := "()I" } : MethodName), (prog_7_method_42_code, (4, ((some FieldType.int), ([], (8, (190, (0, false))))))))),
  (5, (({ cls := "CorridorPlanModel", name := "isOpen", desc := "([III)Z" } : MethodName), (prog_7_method_23_code, (4, ((some FieldType.boolean), ([], (7, (167, (3, false))))))))),
  (5, (({ cls := "CorridorPlanModel", name := "set", desc := "(I)I" } : MethodName), (prog_7_method_43_code, (3, ((some FieldType.int), ([], (2, (45, (1, false))))))))),
  (5, (({ cls := "CorridorPlanModel", name := "append", desc := "(I)I" } : MethodName), (prog_7_method_44_code, (2, ((some FieldType.int), ([], (1, (22, (1, false))))))))),
  (5, (({ cls := "CorridorPlanModel", name := "clearBuffer", desc := "()I" } : MethodName), (prog_7_method_45_code, (2, ((some FieldType.int), ([], (0, (0, (0, false))))))))),
  (5, (({ cls := "CorridorPlanModel", name := "firstError", desc := "()I" } : MethodName), (prog_7_method_53_code, (2, ((some FieldType.int), ([], (5, (108, (0, false))))))))),
  (5, (({ cls := "CorridorPlanModel", name := "isText", desc := "()Z" } : MethodName), (prog_7_method_52_code, (2, ((some FieldType.boolean), ([], (4, (87, (0, false))))))))),
  (5, (({ cls := "CorridorPlanModel", name := "isOrder", desc := "()Z" } : MethodName), (prog_7_method_51_code, (2, ((some FieldType.boolean), ([], (3, (66, (0, false))))))))),
  (5, (({ cls := "CorridorPlanModel", name := "isLetter", desc := "(II)Z" } : MethodName), (prog_7_method_50_code, (3, ((some FieldType.boolean), ([], (1, (22, (2, false))))))))),
  (5, (({ cls := "CorridorPlanModel", name := "stops", desc := "()Z" } : MethodName), (prog_7_method_47_code, (1, ((some FieldType.boolean), ([], (0, (0, (0, false)))))))))]
def am_M4 : List MM := [
  (5, (({ cls := "CorridorPlanModel", name := "isSign", desc := "(I)Z" } : MethodName), (prog_7_method_48_code, (2, ((some FieldType.boolean), ([], (1, (21, (1, false))))))))),
  (5, (({ cls := "CorridorPlanModel", name := "isAt", desc := "(I)Z" } : MethodName), (prog_7_method_46_code, (2, ((some FieldType.boolean), ([], (0, (0, (1, false))))))))),
  (5, (({ cls := "CorridorPlanModel", name := "isWord", desc := "(IIII)Z" } : MethodName), (prog_7_method_49_code, (5, ((some FieldType.boolean), ([], (2, (42, (4, false))))))))),
  (5, (({ cls := "CorridorPlanModel", name := "run", desc := "()I" } : MethodName), (prog_7_method_55_code, (2, ((some FieldType.int), ([], (8, (191, (0, false))))))))),
  (5, (({ cls := "CorridorPlanModel", name := "does", desc := "(I)Z" } : MethodName), (prog_7_method_54_code, (5, ((some FieldType.boolean), ([], (7, (167, (1, false))))))))),
  (5, (({ cls := "CorridorPlanModel", name := "square", desc := "(III)I" } : MethodName), (prog_7_method_56_code, (4, ((some FieldType.int), ([], (4, (88, (3, false))))))))),
  (5, (({ cls := "CorridorPlanModel", name := "sides", desc := "([III)I" } : MethodName), (prog_7_method_26_code, (4, ((some FieldType.int), ([], (3, (65, (3, true))))))))),
  (5, (({ cls := "CorridorPlanModel", name := "chamber", desc := "(II)I" } : MethodName), (prog_7_method_59_code, (3, ((some FieldType.int), ([], (10, (236, (2, false))))))))),
  (5, (({ cls := "CorridorPlanModel", name := "ofRoom", desc := "(II)I" } : MethodName), (prog_7_method_58_code, (3, ((some FieldType.int), ([], (9, (214, (2, false))))))))),
  (5, (({ cls := "CorridorPlanModel", name := "doors", desc := "([IIZ)I" } : MethodName), (prog_7_method_28_code, (10, ((some FieldType.int), ([], (4, (90, (3, false))))))))),
  (5, (({ cls := "CorridorPlanModel", name := "faces", desc := "([IIII)Z" } : MethodName), (prog_7_method_27_code, (6, ((some FieldType.boolean), ([], (3, (65, (4, false))))))))),
  (5, (({ cls := "CorridorPlanModel", name := "walked", desc := "(IZ)I" } : MethodName), (prog_7_method_57_code, (5, ((some FieldType.int), ([], (8, (190, (2, false))))))))),
  (5, (({ cls := "CorridorPlanModel", name := "way", desc := "(III)I" } : MethodName), (prog_7_method_61_code, (4, ((some FieldType.int), ([], (8, (190, (3, false))))))))),
  (5, (({ cls := "CorridorPlanModel", name := "ofWay", desc := "(III)I" } : MethodName), (prog_7_method_60_code, (4, ((some FieldType.int), ([], (7, (167, (3, false))))))))),
  (5, (({ cls := "CorridorPlanModel", name := "count", desc := "(I)I" } : MethodName), (prog_7_method_66_code, (2, ((some FieldType.int), ([], (9, (213, (1, false))))))))),
  (5, (({ cls := "CorridorPlanModel", name := "counted", desc := "(I)I" } : MethodName), (prog_7_method_65_code, (2, ((some FieldType.int), ([], (8, (192, (1, false))))))))),
  (5, (({ cls := "CorridorPlanModel", name := "rooms", desc := "()I" } : MethodName), (prog_7_method_64_code, (3, ((some FieldType.int), ([], (2, (43, (0, false))))))))),
  (5, (({ cls := "CorridorPlanModel", name := "squares", desc := "([II)I" } : MethodName), (prog_7_method_63_code, (4, ((some FieldType.int), ([], (0, (0, (2, true))))))))),
  (5, (({ cls := "CorridorPlanModel", name := "allDoors", desc := "([IZ)I" } : MethodName), (prog_7_method_29_code, (5, ((some FieldType.int), ([], (5, (119, (2, false))))))))),
  (5, (({ cls := "CorridorPlanModel", name := "pairs", desc := "([II)I" } : MethodName), (prog_7_method_62_code, (6, ((some FieldType.int), ([], (7, (167, (2, false))))))))),
  (5, (({ cls := "CorridorPlanModel", name := "ifDug", desc := "(III)I" } : MethodName), (prog_7_method_68_code, (4, ((some FieldType.int), ([], (9, (215, (3, false))))))))),
  (5, (({ cls := "CorridorPlanModel", name := "byDigging", desc := "(III)I" } : MethodName), (prog_7_method_67_code, (4, ((some FieldType.int), ([], (8, (192, (3, false))))))))),
  (5, (({ cls := "CorridorPlanModel", name := "tries", desc := "()V" } : MethodName), (prog_7_method_12_code, (1, (none, ([], (1, (24, (0, false))))))))),
  (5, (({ cls := "CorridorPlanModel", name := "ifGiven", desc := "(I)I" } : MethodName), (prog_7_method_70_code, (2, ((some FieldType.int), ([], (9, (213, (1, false))))))))),
  (5, (({ cls := "CorridorPlanModel", name := "without", desc := "(I)I" } : MethodName), (prog_7_method_69_code, (2, ((some FieldType.int), ([], (8, (192, (1, false))))))))),
  (5, (({ cls := "CorridorPlanModel", name := "allCost", desc := "()I" } : MethodName), (prog_7_method_72_code, (1, ((some FieldType.int), ([], (9, (216, (0, false))))))))),
  (5, (({ cls := "CorridorPlanModel", name := "forAll", desc := "()I" } : MethodName), (prog_7_method_71_code, (3, ((some FieldType.int), ([], (8, (194, (0, false))))))))),
  (5, (({ cls := "CorridorPlanModel", name := "openShare", desc := "()D" } : MethodName), (prog_7_method_74_code, (1, ((some FieldType.double), ([], (9, (213, (0, false))))))))),
  (5, (({ cls := "CorridorPlanModel", name := "share", desc := "()D" } : MethodName), (prog_7_method_73_code, (2, ((some FieldType.double), ([], (8, (192, (0, false))))))))),
  (5, (({ cls := "CorridorPlanModel", name := "digest", desc := "()J" } : MethodName), (prog_7_method_75_code, (6, ((some FieldType.long), ([], (10, (236, (0, false))))))))),
  (6, (({ cls := "CorridorPlanLaw", name := "room", desc := "(LCorridorPlan;IIII[J)I" } : MethodName), (method_3_code, (7, ((some FieldType.int), ([(0, 14, 17, 13), (0, 14, 21, 15)], (7, (123, (6, true))))))))),
  (6, (({ cls := "CorridorPlanLaw", name := "give", desc := "(LCorridorPlan;I[J)I" } : MethodName), (method_4_code, (4, ((some FieldType.int), ([(0, 9, 12, 21)], (8, (124, (3, true))))))))),
  (6, (({ cls := "CorridorPlanLaw", name := "walk", desc := "(LCorridorPlan;III[J)I" } : MethodName), (method_5_code, (6, ((some FieldType.int), ([(0, 12, 15, 21), (0, 12, 19, 13)], (9, (149, (5, true))))))))),
  (6, (({ cls := "CorridorPlanLaw", name := "dig", desc := "(LCorridorPlan;II[J)I" } : MethodName), (method_6_code, (5, ((some FieldType.int), ([(0, 10, 13, 13), (0, 10, 17, 15)], (8, (125, (4, true))))))))),
  (6, (({ cls := "CorridorPlanLaw", name := "carve", desc := "(LCorridorPlan;II[J)I" } : MethodName), (method_7_code, (5, ((some FieldType.int), ([(0, 10, 13, 21), (0, 10, 17, 13), (0, 10, 21, 15)], (9, (147, (4, true))))))))),
  (6, (({ cls := "CorridorPlanLaw", name := "set", desc := "(LCorridorPlan;I[J)I" } : MethodName), (method_8_code, (4, ((some FieldType.int), ([(0, 9, 12, 13)], (7, (104, (3, true))))))))),
  (6, (({ cls := "CorridorPlanLaw", name := "append", desc := "(LCorridorPlan;I[J)I" } : MethodName), (method_9_code, (4, ((some FieldType.int), ([(0, 9, 12, 13), (0, 9, 15, 15)], (7, (103, (3, true))))))))),
  (6, (({ cls := "CorridorPlanLaw", name := "run", desc := "(LCorridorPlan;[J)I" } : MethodName), (method_10_code, (3, ((some FieldType.int), ([(0, 8, 11, 13)], (9, (194, (2, true))))))))),
  (6, (({ cls := "CorridorPlanLaw", name := "undo", desc := "(LCorridorPlan;[J)I" } : MethodName), (method_11_code, (3, ((some FieldType.int), ([(0, 8, 11, 15)], (7, (102, (2, true))))))))),
  (6, (({ cls := "CorridorPlanLaw", name := "square", desc := "(LCorridorPlan;III[J)I" } : MethodName), (method_12_code, (6, ((some FieldType.int), ([(0, 12, 15, 13)], (8, (126, (5, true)))))))))]
def am_M5 : List MM := [
  (6, (({ cls := "CorridorPlanLaw", name := "chamber", desc := "(LCorridorPlan;II[J)I" } : MethodName), (method_13_code, (5, ((some FieldType.int), ([(0, 10, 13, 21), (0, 10, 17, 13)], (8, (145, (4, true))))))))),
  (6, (({ cls := "CorridorPlanLaw", name := "way", desc := "(LCorridorPlan;III[J)I" } : MethodName), (method_14_code, (6, ((some FieldType.int), ([(0, 12, 15, 21), (0, 12, 19, 13)], (9, (150, (5, true))))))))),
  (6, (({ cls := "CorridorPlanLaw", name := "count", desc := "(LCorridorPlan;I[J)I" } : MethodName), (method_15_code, (4, ((some FieldType.int), ([(0, 9, 12, 13)], (7, (144, (3, true))))))))),
  (6, (({ cls := "CorridorPlanLaw", name := "ifDug", desc := "(LCorridorPlan;III[J)I" } : MethodName), (method_16_code, (6, ((some FieldType.int), ([(0, 12, 15, 13)], (8, (146, (5, true))))))))),
  (6, (({ cls := "CorridorPlanLaw", name := "ifGiven", desc := "(LCorridorPlan;I[J)I" } : MethodName), (method_17_code, (4, ((some FieldType.int), ([(0, 9, 12, 21)], (8, (144, (3, true))))))))),
  (7, (({ cls := "java/util/Arrays", name := "fill", desc := "([II)V" } : MethodName), (prog_20_method_103_code, (4, (none, ([], (0, (0, (2, true))))))))),
  (9, (({ cls := "java/lang/String", name := "length", desc := "()I" } : MethodName), (prog_16_method_54_code, (1, ((some FieldType.int), ([], (1, (20, (0, false))))))))),
  (9, (({ cls := "java/lang/String", name := "coder", desc := "()B" } : MethodName), (prog_16_method_152_code, (1, ((some FieldType.byte), ([], (0, (0, (0, false))))))))),
  (9, (({ cls := "java/lang/String", name := "charAt", desc := "(I)C" } : MethodName), (prog_16_method_56_code, (2, ((some FieldType.char), ([], (3, (64, (1, false))))))))),
  (9, (({ cls := "java/lang/String", name := "isLatin1", desc := "()Z" } : MethodName), (prog_16_method_154_code, (1, ((some FieldType.boolean), ([], (0, (0, (0, false))))))))),
  (9, (({ cls := "java/lang/String", name := "checkIndex", desc := "(II)V" } : MethodName), (prog_16_method_155_code, (2, (none, ([], (1, (22, (2, true))))))))),
  (10, (({ cls := "java/lang/StringLatin1", name := "charAt", desc := "([BI)C" } : MethodName), (prog_17_method_2_code, (2, ((some FieldType.char), ([], (2, (43, (2, true))))))))),
  (11, (({ cls := "jdk/internal/util/Preconditions", name := "checkIndex", desc := "(IILjava/util/function/BiFunction;)I" } : MethodName), (prog_21_method_11_code, (3, ((some FieldType.int), ([], (0, (0, (3, true))))))))),
  (12, (({ cls := "java/lang/Double", name := "doubleToLongBits", desc := "(D)J" } : MethodName), (prog_8_method_23_code, (2, ((some FieldType.long), ([], (1, (40, (1, true))))))))),
  (12, (({ cls := "java/lang/Double", name := "isNaN", desc := "(D)Z" } : MethodName), (prog_8_method_6_code, (2, ((some FieldType.boolean), ([], (0, (0, (1, true))))))))),
  (6, (({ cls := "CorridorPlanLaw", name := "law", desc := "([I)Z" } : MethodName), (code, (9, ((some FieldType.boolean), ([], (13, (522, (1, true)))))))))]
def am_M : List MM := am_M0 ++ (am_M1 ++ (am_M2 ++ (am_M3 ++ (am_M4 ++ (am_M5)))))
def am_nth {α : Type} : List α → Nat → Option α
  | [], _ => none
  | x :: _, 0 => some x
  | _ :: l, k + 1 => am_nth l k
def am_mm (i : Nat) : MM := (match i / 40 with
  | 0 => am_nth am_M0 (i % 40)
  | 1 => am_nth am_M1 (i % 40)
  | 2 => am_nth am_M2 (i % 40)
  | 3 => am_nth am_M3 (i % 40)
  | 4 => am_nth am_M4 (i % 40)
  | 5 => am_nth am_M5 (i % 40)
  | _ => none).getD (0, (⟨"", "", ""⟩, (ByteArray.mk #[], (0, (none, ([], (0, (0, (0, false)))))))))
def mOc (i : Nat) : Nat := (am_mm i).1
def mY (i : Nat) : MethodName := (am_mm i).2.1
def mB (i : Nat) : ByteArray := (am_mm i).2.2.1
def mX (i : Nat) : Nat := (am_mm i).2.2.2.1
def mR (i : Nat) : Option FieldType := (am_mm i).2.2.2.2.1
def mH (i : Nat) : List (Nat × Nat × Nat × Nat) := (am_mm i).2.2.2.2.2.1
def mF (i : Nat) : Nat := (am_mm i).2.2.2.2.2.2.1
def mL (i : Nat) : Nat := (am_mm i).2.2.2.2.2.2.2.1
def mN (i : Nat) : Nat := (am_mm i).2.2.2.2.2.2.2.2.1
def mS (i : Nat) : Bool := (am_mm i).2.2.2.2.2.2.2.2.2
def am_cn (oc : Nat) : String := match oc with
  | 0 => "CorridorPlan$Orders"
  | 1 => "CorridorPlan$Plan"
  | 2 => "CorridorPlan$Saved"
  | 3 => "CorridorPlan$Ways"
  | 4 => "CorridorPlan"
  | 5 => "CorridorPlanModel"
  | 6 => "CorridorPlanLaw"
  | 7 => "java/util/Arrays"
  | 8 => "java/lang/Math"
  | 9 => "java/lang/String"
  | 10 => "java/lang/StringLatin1"
  | 11 => "jdk/internal/util/Preconditions"
  | 12 => "java/lang/Double"
  | _ => ""
def am_fT (oc : Nat) : List (Nat × (Nat × Nat)) := match oc with
  | 0 => [(9, (0, 0)), (15, (0, 1)), (19, (0, 2)), (22, (0, 3)), (25, (0, 4)), (28, (0, 5))]
  | 1 => [(9, (1, 0)), (15, (1, 1)), (18, (1, 2)), (21, (1, 3))]
  | 2 => [(11, (2, 0)), (17, (2, 1)), (21, (2, 2))]
  | 3 => [(9, (3, 0)), (15, (3, 1)), (18, (3, 2)), (21, (3, 3)), (24, (3, 4)), (27, (3, 5)), (31, (3, 6)), (35, (3, 7)), (38, (3, 8)), (41, (3, 9)), (44, (3, 10)), (47, (3, 11)), (50, (3, 12)), (53, (3, 13)), (56, (3, 14)), (59, (3, 15))]
  | 4 => [(10, (4, 0)), (16, (4, 1)), (22, (4, 2)), (29, (4, 3)), (36, (4, 4))]
  | 5 => [(7, (5, 0)), (13, (5, 1)), (16, (5, 2)), (19, (5, 4)), (22, (5, 9)), (25, (5, 11)), (28, (5, 12)), (31, (5, 13)), (34, (5, 14)), (38, (5, 15)), (41, (5, 19)), (44, (5, 6)), (56, (5, 3)), (71, (5, 18)), (106, (5, 16)), (109, (5, 17)), (164, (5, 5)), (167, (5, 7)), (170, (5, 8)), (185, (5, 10))]
  | 9 => [(9, (6, 0)), (15, (6, 1))]
  | _ => []
def am_gT (oc : Nat) : List (Nat × Nat) := match oc with
  | 1 => [(75, 0), (78, 1)]
  | 9 => [(38, 2), (1053, 3)]
  | _ => []
def am_gv (G : Nat → Nat) (k : Nat) : AV := match k with
  | 0 => .inr (.inr (.inr (some (G 2))))
  | 1 => .inr (.inr (.inr (some (G 3))))
  | 2 => .inl 1
  | _ => .inr (.inr (.inr (if G 4 = 0 then none else some (G 5))))
def am_kT (oc : Nat) : List (Nat × (Nat × Int)) := match oc with
  | 0 => [(72, (3, 10)), (74, (3, 11)), (75, (3, 12)), (77, (3, 13)), (79, (3, 14)), (81, (3, 15))]
  | 3 => [(120, (0, 16777216)), (142, (0, 1000000))]
  | 4 => [(234, (1, 2857)), (290, (1, 31)), (301, (1, 1023)), (303, (2, 4611686018427387904)), (305, (2, 4841369599423283200))]
  | 5 => [(85, (0, 1000000)), (249, (1, 2857)), (251, (1, 31))]
  | 12 => [(137, (1, 9221120237041090560))]
  | _ => []
def am_kv (G : Nat → Nat) (q : Nat × Int) : AV := match q.1 with
  | 0 => .inl q.2
  | 1 => .inr (.inl (Int64.ofInt q.2))
  | 2 => .inr (.inr (.inl (UInt64.ofNat q.2.toNat)))
  | _ => .inr (.inr (.inr (some (G q.2.toNat))))
def am_stx : List String := ["none", "one", "pair", "cart", "!", ""]
def am_nT (oc : Nat) : List (Nat × Nat) := match oc with
  | 2 => [(9, 1)]
  | 4 => [(7, 1), (19, 2), (26, 0), (33, 3), (40, 10), (53, 11), (281, 12)]
  | 6 => [(8, 4), (66, 5)]
  | _ => []
def am_cT (oc : Nat) : List (Nat × (Nat × Nat)) := match oc with
  | 0 => [(3, (7, 0)), (32, (3, k_Cp_at)), (36, (3, k_Cp_put)), (40, (0, k_Orders_readOrder)), (44, (0, k_Orders_codeAt)), (47, (0, k_Orders_readableLength)), (51, (0, k_Orders_letterAt)), (54, (0, k_Orders_readDeed)), (57, (2, k_Orders_deedBeginningWith)), (60, (2, k_Orders_wordOf)), (64, (0, k_String_length)), (68, (0, k_String_charAt))]
  | 1 => [(3, (7, 0)), (25, (2, k_Arrays_fill)), (31, (3, k_Cp_copyRow)), (35, (3, k_Cp_put)), (39, (0, k_Plan_squareAt)), (43, (0, k_Plan_changeSquare)), (47, (0, k_Plan_box)), (50, (0, k_Plan_hasChamber)), (54, (0, k_Plan_chamberSides)), (57, (0, k_Plan_coverBox)), (61, (0, k_Plan_changeWidth)), (64, (3, k_Cp_at)), (68, (0, k_Plan_widthBetween)), (71, (0, k_Plan_isWalked)), (81, (0, k_Plan_doorSides)), (84, (0, k_Plan_isDoor)), (88, (0, k_Plan_isFaced)), (91, (0, k_Plan_facingDoorsOf))]
  | 2 => [(3, (7, 0)), (24, (4, k_Plan_init)), (25, (0, k_Saved_planAt)), (29, (0, k_Plan_copyFrom)), (33, (10, 0))]
  | 3 => [(3, (7, 0)), (62, (0, k_Plan_widthBetween)), (68, (9, 0)), (73, (0, k_Ways_measure)), (77, (0, k_Ways_lookAt)), (81, (0, k_Ways_startWhereLooked)), (84, (0, k_Ways_spread)), (87, (0, k_Ways_bestFirstPlace)), (91, (0, k_Ways_follow)), (95, (0, k_Ways_lengthFrom)), (99, (3, k_Cp_at)), (103, (2, k_Ways_rockIn)), (107, (3, k_Cp_put)), (111, (0, k_Ways_rockOn)), (114, (0, k_Plan_squareAt)), (117, (0, k_Plan_box)), (121, (2, k_Arrays_fill)), (127, (3, k_Cp_clearMarks)), (131, (0, k_Ways_canStand)), (135, (0, k_Ways_isAtChamber)), (138, (0, k_Ways_reach)), (143, (0, k_Ways_takeFromQueue)), (146, (0, k_Ways_nextPlace)), (149, (0, k_Ways_needFound)), (152, (0, k_Ways_changeSquares)), (156, (0, k_Ways_digCheapest)), (160, (0, k_Plan_isWalked)), (164, (0, k_Ways_find)), (168, (0, k_Ways_digFound)), (172, (0, k_Ways_needPlace)), (175, (0, k_Plan_changeSquare))]
  | 4 => [(1, (7, 0)), (9, (4, k_Plan_init)), (21, (4, k_Saved_init)), (28, (5, k_Orders_init)), (35, (5, k_Ways_init)), (49, (0, k_Plan_lowestFreeNumber)), (58, (0, k_Plan_hasSpaceFor)), (64, (0, k_Saved_push)), (68, (0, k_Plan_addChamber)), (72, (0, k_Cp_requireChamber)), (76, (0, k_Plan_giveUp)), (80, (0, k_Cp_requireTwoChambers)), (86, (0, k_Plan_widthBetween)), (90, (0, k_Plan_changeWidth)), (94, (2, k_Cp_requireSquare)), (97, (0, k_Plan_squareAt)), (102, (0, k_Plan_flip)), (105, (0, k_Ways_find)), (111, (0, k_Ways_digFound)), (115, (0, k_Ways_digForAll)), (118, (0, k_Ways_fillUnneeded)), (123, (0, k_Plan_far)), (126, (0, k_Plan_changeFar)), (131, (0, k_Orders_length)), (136, (0, k_Orders_add)), (139, (0, k_Orders_clear)), (142, (0, k_Orders_readableLength)), (145, (0, k_Orders_areOrders)), (151, (0, k_Orders_readOrder)), (154, (0, k_Orders_one)), (157, (0, k_Orders_other)), (160, (0, k_Orders_deed)), (163, (0, k_Cp_doOrder)), (167, (0, k_Saved_size)), (172, (0, k_Saved_popInto)), (175, (0, k_Plan_doorSides)), (180, (0, k_Plan_box)), (183, (0, k_Plan_doorsOf)), (186, (0, k_Plan_facingDoorsOf)), (189, (0, k_Plan_walksFrom)), (192, (0, k_Ways_closedFrom)), (200, (0, k_Ways_foundPlaces)), (203, (0, k_Ways_foundPlace)), (206, (0, k_Plan_chambers)), (209, (0, k_Plan_squaresThatAre)), (212, (0, k_Plan_walkedPairs)), (215, (0, k_Ways_closedPairs)), (218, (0, k_Plan_doors)), (221, (0, k_Plan_facingPairs)), (224, (0, k_Ways_missingCost)), (231, (0, k_Plan_copyFrom)), (236, (0, k_Cp_count)), (239, (2, k_Cp_mix)), (243, (0, k_Cp_mixSquares)), (247, (0, k_Cp_mixChambers)), (250, (0, k_Cp_mixWays)), (253, (0, k_Cp_ifDug)), (257, (0, k_Plan_lowestChamber)), (260, (0, k_Cp_ifGiven)), (263, (0, k_Cp_allCost)), (266, (0, k_Cp_openShare)), (270, (2, k_Cp_bitsOfShare)), (274, (0, k_Cp_mixBuffer)), (277, (0, k_Plan_hasChamber)), (292, (0, k_Cp_chamber)), (295, (0, k_Cp_way)), (298, (0, k_Orders_codeAt))]
  | 5 => [(1, (7, 0)), (48, (2, k_Model_in)), (52, (2, k_Model_of)), (59, (2, k_Model_copies)), (63, (0, k_Model_fails)), (67, (2, k_Model_isSquare)), (74, (2, k_Model_what)), (77, (2, k_Model_isBeside)), (81, (0, k_Model_isPlace)), (86, (0, k_Model_isAtRoom)), (89, (0, k_Model_nearest)), (93, (0, k_Model_next)), (96, (0, k_Model_rock)), (99, (2, k_Model_walks)), (102, (0, k_Model_laysRests)), (112, (0, k_Model_follower)), (116, (0, k_Model_isWay)), (119, (0, k_Model_digs)), (123, (0, k_Model_faces)), (126, (2, k_Model_isThere)), (130, (0, k_Model_doors)), (134, (0, k_Model_free)), (137, (0, k_Model_canBe)), (141, (0, k_Model_saves)), (144, (2, k_Model_gives)), (147, (0, k_Model_may)), (151, (0, k_Model_walking)), (155, (2, k_Model_toggles)), (158, (0, k_Model_digsNext)), (161, (0, k_Model_isOpen)), (174, (0, k_Model_isAt)), (178, (0, k_Model_stops)), (182, (0, k_Model_isSign)), (188, (0, k_Model_isLetter)), (191, (0, k_Model_isWord)), (194, (0, k_Model_isOrder)), (197, (0, k_Model_isText)), (200, (0, k_Model_does)), (203, (2, k_Model_sides)), (206, (0, k_Model_walked)), (210, (0, k_Model_ofRoom)), (214, (0, k_Model_ofWay)), (217, (0, k_Model_rooms)), (220, (2, k_Model_squares)), (223, (0, k_Model_allDoors)), (227, (0, k_Model_pairs)), (230, (0, k_Model_counted)), (233, (0, k_Model_tries)), (236, (0, k_Model_byDigging)), (239, (0, k_Model_without)), (242, (0, k_Model_forAll)), (245, (0, k_Model_share)), (253, (2, k_Double_doubleToLongBits))]
  | 6 => [(7, (0, k_Cp_room)), (17, (0, k_Cp_give)), (23, (0, k_Cp_walk)), (27, (0, k_Cp_dig)), (31, (0, k_Cp_carve)), (34, (0, k_Cp_set)), (37, (0, k_Cp_append)), (40, (0, k_Cp_run)), (44, (0, k_Cp_undo)), (47, (0, k_Cp_square)), (50, (0, k_Cp_chamber)), (53, (0, k_Cp_way)), (56, (0, k_Cp_count)), (59, (0, k_Cp_ifDug)), (62, (0, k_Cp_ifGiven)), (65, (4, k_Cp_init)), (68, (4, k_Model_init)), (69, (6, k_Law_room)), (74, (0, k_Model_room)), (75, (0, k_Model_thrown)), (78, (6, k_Law_give)), (81, (0, k_Model_give)), (82, (6, k_Law_walk)), (85, (0, k_Model_walk)), (86, (6, k_Law_dig)), (89, (0, k_Model_dig)), (90, (6, k_Law_carve)), (92, (0, k_Model_carve)), (93, (0, k_Cp_carveAll)), (96, (0, k_Model_carveAll)), (97, (0, k_Cp_fillUp)), (100, (0, k_Model_fillUp)), (101, (6, k_Law_set)), (103, (0, k_Model_set)), (104, (6, k_Law_append)), (106, (0, k_Model_append)), (107, (0, k_Cp_clearBuffer)), (110, (0, k_Model_clearBuffer)), (111, (0, k_Cp_firstError)), (114, (0, k_Model_firstError)), (115, (6, k_Law_run)), (118, (0, k_Model_run)), (119, (6, k_Law_undo)), (121, (0, k_Model_undo)), (122, (6, k_Law_square)), (124, (0, k_Model_square)), (125, (6, k_Law_chamber)), (127, (0, k_Model_chamber)), (128, (6, k_Law_way)), (130, (0, k_Model_way)), (131, (6, k_Law_count)), (133, (0, k_Model_count)), (134, (6, k_Law_ifDug)), (136, (0, k_Model_ifDug)), (137, (6, k_Law_ifGiven)), (139, (0, k_Model_ifGiven)), (140, (0, k_Cp_allCost)), (143, (0, k_Model_allCost)), (144, (0, k_Cp_openShare)), (148, (0, k_Model_openShare)), (149, (0, k_Cp_digest)), (153, (0, k_Model_digest))]
  | 9 => [(335, (0, k_String_coder)), (492, (0, k_String_isLatin1)), (495, (2, k_Latin1_charAt)), (1059, (2, k_Precond_checkIndex))]
  | 10 => [(9, (2, k_String_checkIndex))]
  | 12 => [(122, (2, k_Double_isNaN)), (134, (8, 0))]
  | _ => []
def am_xT (oc : Nat) : List (Nat × Nat) := match oc with
  | 6 => [(13, 0), (15, 1), (21, 2)]
  | _ => []
def am_xn (x : Nat) : String := match x with
  | 0 => "java/lang/IllegalArgumentException"
  | 1 => "java/lang/IllegalStateException"
  | 2 => "java/lang/IndexOutOfBoundsException"
  | _ => ""
/-- the field types of the classes, by slot -/
def am_ty (ci : Nat) : List FieldType := match ci with
  | 0 => [.array (.int), .int, .int, .int, .int, .boolean]
  | 1 => [.array (.int), .array (.int), .array (.int), .int]
  | 2 => [.array (.object "CorridorPlan$Plan"), .int, .int]
  | 3 => [.array (.int), .array (.int), .array (.int), .array (.int), .array (.int), .array (.boolean), .int, .int, .array (.boolean), .array (.int), .int, .int, .int, .int, .int, .int]
  | 4 => [.object "CorridorPlan$Plan", .object "CorridorPlan$Plan", .object "CorridorPlan$Saved", .object "CorridorPlan$Orders", .object "CorridorPlan$Ways"]
  | 5 => [.array (.int), .array (.int), .array (.int), .int, .array (.int), .int, .int, .int, .boolean, .array (.int), .int, .array (.int), .array (.int), .array (.int), .array (.boolean), .array (.int), .int, .int, .int, .array (.boolean)]
  | _ => []
/-- which fields are final -/
def am_fin (ci : Nat) : List Bool := match ci with
  | 0 => [true, false, false, false, false, false]
  | 1 => [true, true, true, false]
  | 2 => [true, false, false]
  | 3 => [true, true, true, true, true, true, false, false, true, true, false, false, false, false, false, false]
  | 4 => [true, true, true, true, true]
  | 5 => [true, true, true, false, true, false, false, false, false, true, false, true, true, true, true, true, false, false, false, true]
  | _ => []
