/-! ===== METHODS ===== -/
/-- a method: name, bytes, locals, result, own class, static (0) or not (1), numbers of arguments, places of its words -/
abbrev mt_T : Type := MethodName × ByteArray × Nat × Option FieldType × Nat × Nat × Nat × Nat × Nat × Nat × Nat
def mt_0 : List mt_T := [(⟨"UtilityWorks$Grid", "putLink", "(IIIZ)V"⟩, prog_5_method_4_code, 6, none, 3, 1, 4, 21094, 21092, 21093, 21004),
  (⟨"UtilityWorks", "bit", "(Z)I"⟩, prog_1_method_124_code, 1, some .int, 11, 0, 1, 21097, 21096, 0, 21001),
  (⟨"UtilityWorks$Power", "build", "(II)I"⟩, prog_7_method_3_code, 4, some .int, 5, 1, 2, 21136, 21134, 21135, 21005),
  (⟨"UtilityWorks$Water", "digWell", "(III)I"⟩, prog_11_method_3_code, 5, some .int, 9, 1, 3, 21212, 21210, 21211, 21006),
  (⟨"UtilityWorks$Water", "buildTank", "(IIII)I"⟩, prog_11_method_4_code, 6, some .int, 9, 1, 4, 21216, 21214, 21215, 21006),
  (⟨"UtilityWorks$Heat", "build", "(II)I"⟩, prog_6_method_3_code, 3, some .int, 4, 1, 2, 22053, 22051, 22052, 21007),
  (⟨"java/util/Arrays", "fill", "([II)V"⟩, prog_24_method_103_code, 4, none, 14, 0, 2, 22056, 22055, 0, 21008),
  (⟨"UtilityWorks$Customers", "tell", "(III)I"⟩, prog_4_method_3_code, 7, some .int, 2, 1, 3, 22127, 22125, 22126, 21009),
  (⟨"UtilityWorks$Books", "setTariff", "(IIIII)V"⟩, prog_2_method_2_code, 6, none, 0, 1, 5, 22170, 22169, 0, 21010),
  (⟨"UtilityWorks$Crews", "hireCrew", "(III)I"⟩, prog_3_method_3_code, 5, some .int, 1, 1, 3, 22225, 22223, 22224, 21011),
  (⟨"UtilityWorks", "isSound", "()Z"⟩, prog_1_method_12_code, 1, some .boolean, 11, 1, 0, 23179, 23177, 23178, 21001),
  (⟨"UtilityWorks", "isSoundStreets", "()Z"⟩, prog_1_method_26_code, 1, some .boolean, 11, 1, 0, 23183, 23181, 23182, 21001),
  (⟨"UtilityWorks$Grid", "isWell", "(LUtilityWorks$Town;)Z"⟩, prog_5_method_34_code, 5, some .boolean, 3, 1, 1, 23187, 23185, 23186, 21004),
  (⟨"UtilityWorks$Grid", "meetsAnother", "(I)Z"⟩, prog_5_method_35_code, 5, some .boolean, 3, 1, 1, 23191, 23190, 1, 21004),
  (⟨"UtilityWorks$Grid", "openStreets", "(LUtilityWorks$Ways;)V"⟩, prog_5_method_21_code, 3, none, 3, 1, 1, 23195, 23193, 23194, 21004),
  (⟨"UtilityWorks$Ways", "spread", "(I[II)V"⟩, prog_12_method_2_code, 9, none, 10, 1, 3, 23199, 23197, 23198, 21003),
  (⟨"UtilityWorks", "isSoundPower", "()Z"⟩, prog_1_method_37_code, 1, some .boolean, 11, 1, 0, 23209, 23207, 23208, 21001),
  (⟨"UtilityWorks$Power", "isWell", "(LUtilityWorks$Town;)Z"⟩, prog_7_method_19_code, 4, some .boolean, 5, 1, 1, 23213, 23211, 23212, 21005),
  (⟨"UtilityWorks$Power", "closesSomeRing", "(LUtilityWorks$Town;)Z"⟩, prog_7_method_20_code, 3, some .boolean, 5, 1, 1, 23217, 23216, 2, 21005),
  (⟨"UtilityWorks$Grid", "openLinks", "(ILUtilityWorks$Ways;)V"⟩, prog_5_method_12_code, 4, none, 3, 1, 2, 23221, 23219, 23220, 21004),
  (⟨"UtilityWorks$Grid", "leads", "(II)Z"⟩, prog_5_method_6_code, 4, some .boolean, 3, 1, 2, 23225, 23223, 23224, 21004),
  (⟨"UtilityWorks$Power", "reckon", "(LUtilityWorks$Town;)V"⟩, prog_7_method_4_code, 4, none, 5, 1, 1, 23232, 23230, 23231, 21005),
  (⟨"UtilityWorks$Power", "label", "(LUtilityWorks$Town;)V"⟩, prog_7_method_5_code, 5, none, 5, 1, 1, 23237, 23236, 3, 21005),
  (⟨"UtilityWorks$Power", "feedAll", "(LUtilityWorks$Town;)V"⟩, prog_7_method_6_code, 5, none, 5, 1, 1, 24002, 24001, 4, 21005),
  (⟨"UtilityWorks", "tenthUp", "(I)I"⟩, prog_1_method_127_code, 1, some .int, 11, 0, 1, 24005, 24004, 0, 21001)]
def mt_1 : List mt_T := [(⟨"UtilityWorks$Power", "feed", "(II)Z"⟩, prog_7_method_7_code, 4, some .boolean, 5, 1, 2, 24009, 24008, 5, 21005),
  (⟨"UtilityWorks$Customers", "wants", "(III)I"⟩, prog_4_method_9_code, 5, some .int, 2, 1, 3, 24013, 24011, 24012, 21009),
  (⟨"UtilityWorks$Power", "plantsGive", "()V"⟩, prog_7_method_8_code, 3, none, 5, 1, 0, 24017, 24016, 6, 21005),
  (⟨"UtilityWorks$Power", "findFlows", "(LUtilityWorks$Town;)V"⟩, prog_7_method_9_code, 7, none, 5, 1, 1, 24024, 24023, 7, 21005),
  (⟨"UtilityWorks$Power", "mostOverBound", "(LUtilityWorks$Grid;)I"⟩, prog_7_method_10_code, 6, some .int, 5, 1, 1, 24028, 24027, 8, 21005),
  (⟨"UtilityWorks$Grid", "linkOf", "(II)[I"⟩, prog_5_method_3_code, 3, some (.array .int), 3, 1, 2, 24035, 24033, 24034, 21004),
  (⟨"UtilityWorks$Grid", "hasLink", "(II)Z"⟩, prog_5_method_5_code, 3, some .boolean, 3, 1, 2, 24039, 24037, 24038, 21004),
  (⟨"UtilityWorks$Power", "lowSideGives", "(LUtilityWorks$Town;I)I"⟩, prog_7_method_15_code, 7, some .int, 5, 1, 2, 24043, 24041, 24042, 21005),
  (⟨"UtilityWorks", "isSoundWater", "()Z"⟩, prog_1_method_51_code, 1, some .boolean, 11, 1, 0, 24047, 24045, 24046, 21001),
  (⟨"UtilityWorks$Town", "reckonWater", "()V"⟩, prog_10_method_3_code, 1, none, 8, 1, 0, 24051, 24049, 24050, 21002),
  (⟨"UtilityWorks$Water", "reckon", "(LUtilityWorks$Town;)V"⟩, prog_11_method_8_code, 3, none, 9, 1, 1, 24056, 24054, 24055, 21006),
  (⟨"UtilityWorks$Water", "findWants", "(LUtilityWorks$Town;)V"⟩, prog_11_method_9_code, 3, none, 9, 1, 1, 24060, 24059, 9, 21006),
  (⟨"UtilityWorks$Water", "isHole", "(LUtilityWorks$Grid;I)Z"⟩, prog_11_method_6_code, 3, some .boolean, 9, 1, 2, 24065, 24063, 24064, 21006),
  (⟨"UtilityWorks$Grid", "isBroken", "(II)Z"⟩, prog_5_method_7_code, 4, some .boolean, 3, 1, 2, 24069, 24067, 24068, 21004),
  (⟨"UtilityWorks$Water", "holeAt", "(LUtilityWorks$Grid;I)I"⟩, prog_11_method_7_code, 3, some .int, 9, 1, 2, 24074, 24073, 10, 21006),
  (⟨"UtilityWorks$Heat", "waterNeed", "(I)I"⟩, prog_6_method_4_code, 2, some .int, 4, 1, 1, 24081, 24079, 24080, 21007),
  (⟨"UtilityWorks$Water", "begin", "(LUtilityWorks$Grid;)V"⟩, prog_11_method_10_code, 3, none, 9, 1, 1, 24087, 24086, 11, 21006),
  (⟨"UtilityWorks", "clearTable", "([[I)V"⟩, prog_1_method_132_code, 2, none, 11, 0, 1, 24090, 24089, 0, 21001),
  (⟨"UtilityWorks$Water", "isRunning", "(LUtilityWorks$Town;I)Z"⟩, prog_11_method_5_code, 3, some .boolean, 9, 1, 2, 24095, 24093, 24094, 21006),
  (⟨"UtilityWorks$Power", "isShed", "(II)Z"⟩, prog_7_method_11_code, 3, some .boolean, 5, 1, 2, 24099, 24097, 24098, 21005),
  (⟨"UtilityWorks", "copyRow", "([I[I)V"⟩, prog_1_method_128_code, 2, none, 11, 0, 2, 24105, 24104, 0, 21001),
  (⟨"UtilityWorks$Water", "carryAll", "(LUtilityWorks$Town;II[I)V"⟩, prog_11_method_11_code, 7, none, 9, 1, 4, 24113, 24112, 12, 21006),
  (⟨"UtilityWorks$Water", "findPair", "(LUtilityWorks$Town;II)I"⟩, prog_11_method_13_code, 9, some .int, 9, 1, 3, 24118, 24117, 13, 21006),
  (⟨"UtilityWorks$Water", "openPipes", "(LUtilityWorks$Town;)V"⟩, prog_11_method_12_code, 4, none, 9, 1, 1, 24122, 24121, 14, 21006),
  (⟨"UtilityWorks$Water", "carry", "(LUtilityWorks$Town;II[I)V"⟩, prog_11_method_14_code, 10, none, 9, 1, 4, 24127, 24126, 15, 21006)]
def mt_2 : List mt_T := [(⟨"UtilityWorks$Ways", "trace", "(I)I"⟩, prog_12_method_3_code, 4, some .int, 10, 1, 1, 24131, 24129, 24130, 21003),
  (⟨"UtilityWorks$Water", "handOut", "(LUtilityWorks$Town;)V"⟩, prog_11_method_15_code, 5, none, 9, 1, 1, 24136, 24135, 1000, 21006),
  (⟨"UtilityWorks$Water", "hand", "(III)I"⟩, prog_11_method_16_code, 5, some .int, 9, 1, 3, 24140, 24139, 1001, 21006),
  (⟨"UtilityWorks$Water", "isWell", "(LUtilityWorks$Town;)Z"⟩, prog_11_method_28_code, 5, some .boolean, 9, 1, 1, 24144, 24142, 24143, 21006),
  (⟨"UtilityWorks$Water", "levels", "()J"⟩, prog_11_method_24_code, 4, some .long, 9, 1, 0, 24148, 24146, 24147, 21006),
  (⟨"UtilityWorks$Water", "getsAnew", "(I)I"⟩, prog_11_method_22_code, 4, some .int, 9, 1, 1, 24153, 24151, 24152, 21006),
  (⟨"UtilityWorks", "isSoundHeat", "()Z"⟩, prog_1_method_63_code, 1, some .boolean, 11, 1, 0, 24157, 24155, 24156, 21001),
  (⟨"UtilityWorks$Town", "reckonHeat", "()V"⟩, prog_10_method_4_code, 1, none, 8, 1, 0, 24161, 24159, 24160, 21002),
  (⟨"UtilityWorks$Heat", "reckon", "(LUtilityWorks$Town;)V"⟩, prog_6_method_6_code, 5, none, 4, 1, 1, 24165, 24163, 24164, 21007),
  (⟨"UtilityWorks$Sky", "cold", "()I"⟩, prog_8_method_3_code, 1, some .int, 6, 1, 0, 24169, 24167, 24168, 21013),
  (⟨"UtilityWorks$Heat", "lackOf", "(LUtilityWorks$Town;I)I"⟩, prog_6_method_7_code, 4, some .int, 4, 1, 2, 24174, 24173, 1002, 21007),
  (⟨"UtilityWorks$Heat", "capacityNow", "(I)I"⟩, prog_6_method_8_code, 4, some .int, 4, 1, 1, 24180, 24179, 1003, 21007),
  (⟨"UtilityWorks$Heat", "findPair", "(LUtilityWorks$Town;)I"⟩, prog_6_method_9_code, 9, some .int, 4, 1, 1, 24189, 24188, 1004, 21007),
  (⟨"UtilityWorks$Heat", "mostSent", "(LUtilityWorks$Ways;II)I"⟩, prog_6_method_10_code, 6, some .int, 4, 1, 3, 24196, 24195, 1005, 21007),
  (⟨"UtilityWorks$Heat", "comesOut", "(II)I"⟩, prog_6_method_12_code, 5, some .int, 4, 1, 2, 24200, 24199, 1006, 21007),
  (⟨"UtilityWorks$Heat", "send", "(LUtilityWorks$Town;II)V"⟩, prog_6_method_13_code, 11, none, 4, 1, 3, 24205, 24204, 1007, 21007),
  (⟨"UtilityWorks$Heat", "leastSent", "(II)I"⟩, prog_6_method_11_code, 5, some .int, 4, 1, 2, 24209, 24208, 1008, 21007),
  (⟨"UtilityWorks$Heat", "handOut", "(LUtilityWorks$Town;I)V"⟩, prog_6_method_14_code, 6, none, 4, 1, 2, 24215, 24214, 1009, 21007),
  (⟨"UtilityWorks$Heat", "isWell", "(LUtilityWorks$Town;)Z"⟩, prog_6_method_21_code, 4, some .boolean, 4, 1, 1, 24220, 24218, 24219, 21007),
  (⟨"UtilityWorks$Heat", "madeLessGot", "()I"⟩, prog_6_method_18_code, 3, some .int, 4, 1, 0, 24224, 24222, 24223, 21007),
  (⟨"UtilityWorks", "isSoundMeters", "()Z"⟩, prog_1_method_76_code, 1, some .boolean, 11, 1, 0, 24228, 24226, 24227, 21001),
  (⟨"UtilityWorks$Customers", "isWell", "()Z"⟩, prog_4_method_18_code, 3, some .boolean, 2, 1, 0, 24232, 24230, 24231, 21009),
  (⟨"UtilityWorks$Customers", "lossOf", "(I)I"⟩, prog_4_method_14_code, 5, some .int, 2, 1, 1, 24236, 24234, 24235, 21009),
  (⟨"UtilityWorks", "isSoundBooks", "()Z"⟩, prog_1_method_89_code, 1, some .boolean, 11, 1, 0, 25000, 24238, 24239, 21001),
  (⟨"UtilityWorks$Books", "isWell", "()Z"⟩, prog_2_method_26_code, 8, some .boolean, 0, 1, 0, 25004, 25002, 25003, 21010)]
def mt_3 : List mt_T := [(⟨"UtilityWorks$Books", "owedByAll", "()J"⟩, prog_2_method_7_code, 4, some .long, 0, 1, 0, 25008, 25006, 25007, 21010),
  (⟨"UtilityWorks$Books", "owedBy", "(I)J"⟩, prog_2_method_6_code, 5, some .long, 0, 1, 1, 25012, 25010, 25011, 21010),
  (⟨"UtilityWorks$Books", "billOf", "(II)[J"⟩, prog_2_method_5_code, 3, some (.array .long), 0, 1, 2, 25016, 25014, 25015, 21010),
  (⟨"UtilityWorks", "isSoundCrews", "()Z"⟩, prog_1_method_102_code, 1, some .boolean, 11, 1, 0, 25020, 25018, 25019, 21001),
  (⟨"UtilityWorks$Crews", "isWell", "()Z"⟩, prog_3_method_20_code, 5, some .boolean, 1, 1, 0, 25024, 25022, 25023, 21011),
  (⟨"UtilityWorks$Crews", "notOver", "()I"⟩, prog_3_method_5_code, 3, some .int, 1, 1, 0, 25029, 25027, 25028, 21011),
  (⟨"UtilityWorks$Crews", "isOver", "(I)Z"⟩, prog_3_method_4_code, 2, some .boolean, 1, 1, 1, 25033, 25031, 25032, 21011),
  (⟨"UtilityWorks$Stores", "isWell", "()Z"⟩, prog_9_method_11_code, 3, some .boolean, 7, 1, 0, 25037, 25035, 25036, 21012),
  (⟨"UtilityWorks", "isSoundStorm", "()Z"⟩, prog_1_method_114_code, 1, some .boolean, 11, 1, 0, 25041, 25039, 25040, 21001),
  (⟨"UtilityWorks$Sky", "isWell", "()Z"⟩, prog_8_method_17_code, 2, some .boolean, 6, 1, 0, 25045, 25043, 25044, 21013),
  (⟨"UtilityWorks$Town", "findMending", "()V"⟩, prog_10_method_8_code, 13, none, 8, 1, 0, 25049, 25047, 25048, 21002),
  (⟨"UtilityWorks$Grid", "firstBroken", "([I)I"⟩, prog_5_method_18_code, 4, some .int, 3, 1, 1, 25053, 25051, 25052, 21004),
  (⟨"UtilityWorks$Town", "countContent", "()I"⟩, prog_10_method_6_code, 5, some .int, 8, 1, 0, 25057, 25055, 25056, 21002),
  (⟨"UtilityWorks$Town", "considerMending", "(IIIII)V"⟩, prog_10_method_9_code, 6, none, 8, 1, 5, 25064, 25063, 1010, 21002),
  (⟨"UtilityWorks$Grid", "mendAndTurn", "(ILUtilityWorks$Ways;)I"⟩, prog_5_method_16_code, 6, some .int, 3, 1, 2, 25068, 25066, 25067, 21004),
  (⟨"UtilityWorks$Grid", "areJoined", "(IIILUtilityWorks$Ways;)Z"⟩, prog_5_method_13_code, 5, some .boolean, 3, 1, 4, 25074, 25072, 25073, 21004),
  (⟨"UtilityWorks", "swap", "([III)I"⟩, prog_1_method_125_code, 4, some .int, 11, 0, 3, 25078, 25077, 0, 21001),
  (⟨"UtilityWorks$Grid", "breakAgain", "(II)V"⟩, prog_5_method_17_code, 3, none, 3, 1, 2, 25082, 25080, 25081, 21004),
  (⟨"UtilityWorks", "lostAnew", "()I"⟩, prog_1_method_60_code, 1, some .int, 11, 1, 0, 25090, 25088, 25089, 21001),
  (⟨"UtilityWorks", "alarm", "(Z)Z"⟩, prog_1_method_106_code, 3, some .boolean, 11, 1, 1, 25099, 25097, 25098, 21001),
  (⟨"UtilityWorks", "content", "()I"⟩, prog_1_method_110_code, 1, some .int, 11, 1, 0, 25103, 25101, 25102, 21001),
  (⟨"UtilityWorks", "linkIs", "(III)I"⟩, prog_1_method_2_code, 4, some .int, 11, 1, 3, 25113, 25111, 25112, 21001),
  (⟨"UtilityWorks", "isGood", "(I)Z"⟩, prog_1_method_119_code, 1, some .boolean, 11, 0, 1, 25116, 25115, 0, 21001),
  (⟨"UtilityWorks", "isStreet", "(I)Z"⟩, prog_1_method_120_code, 1, some .boolean, 11, 0, 1, 25119, 25118, 0, 21001),
  (⟨"UtilityWorks", "needThing", "(Z)V"⟩, prog_1_method_115_code, 1, none, 11, 0, 1, 25122, 25121, 0, 21001)]
def mt_4 : List mt_T := [(⟨"UtilityWorks", "isWithin", "(III)Z"⟩, prog_1_method_118_code, 3, some .boolean, 11, 0, 3, 25188, 25187, 0, 21001),
  (⟨"UtilityWorks", "needRange", "(Z)V"⟩, prog_1_method_116_code, 1, none, 11, 0, 1, 25191, 25190, 0, 21001),
  (⟨"UtilityWorks$Grid", "linkTells", "(III)I"⟩, prog_5_method_8_code, 4, some .int, 3, 1, 3, 25210, 25208, 25209, 21004),
  (⟨"UtilityWorks", "turn", "(IIZ)Z"⟩, prog_1_method_3_code, 7, some .boolean, 11, 1, 3, 25218, 25216, 25217, 21001),
  (⟨"UtilityWorks", "needState", "(Z)V"⟩, prog_1_method_117_code, 1, none, 11, 0, 1, 25222, 25221, 0, 21001),
  (⟨"UtilityWorks$Grid", "closesRing", "(ILUtilityWorks$Ways;)Z"⟩, prog_5_method_14_code, 3, some .boolean, 3, 1, 2, 26002, 26000, 26001, 21004),
  (⟨"UtilityWorks", "bound", "(III)I"⟩, prog_1_method_4_code, 4, some .int, 11, 1, 3, 26010, 26008, 26009, 21001),
  (⟨"UtilityWorks", "lay", "(III)I"⟩, prog_1_method_5_code, 4, some .int, 11, 1, 3, 26018, 26016, 26017, 21001),
  (⟨"UtilityWorks$Grid", "isDug", "(I)Z"⟩, prog_5_method_19_code, 2, some .boolean, 3, 1, 1, 26022, 26020, 26021, 21004),
  (⟨"UtilityWorks$Books", "spend", "(I)V"⟩, prog_2_method_4_code, 2, none, 0, 1, 1, 26027, 26025, 26026, 21010),
  (⟨"UtilityWorks$Grid", "countLinks", "(IZ)I"⟩, prog_5_method_9_code, 5, some .int, 3, 1, 2, 26031, 26029, 26030, 21004),
  (⟨"UtilityWorks", "breaks", "(II)Z"⟩, prog_1_method_6_code, 3, some .boolean, 11, 1, 2, 26040, 26038, 26039, 21001),
  (⟨"UtilityWorks", "joined", "(III)Z"⟩, prog_1_method_7_code, 4, some .boolean, 11, 1, 3, 26047, 26045, 26046, 21001),
  (⟨"UtilityWorks", "isCrossing", "(I)Z"⟩, prog_1_method_121_code, 1, some .boolean, 11, 0, 1, 26050, 26049, 0, 21001),
  (⟨"UtilityWorks", "pass", "(I)I"⟩, prog_1_method_8_code, 3, some .int, 11, 1, 1, 26058, 26056, 26057, 21001),
  (⟨"UtilityWorks$Sky", "goBy", "(LUtilityWorks$Town;)V"⟩, prog_8_method_14_code, 5, none, 6, 1, 1, 26062, 26060, 26061, 21013),
  (⟨"UtilityWorks$Sky", "nextSeed", "()I"⟩, prog_8_method_4_code, 1, some .int, 6, 1, 0, 26066, 26065, 1012, 21013),
  (⟨"UtilityWorks$Sky", "moveStorms", "()V"⟩, prog_8_method_15_code, 3, none, 6, 1, 0, 26071, 26070, 1013, 21013),
  (⟨"UtilityWorks$Sky", "strikes", "(LUtilityWorks$Grid;I)Z"⟩, prog_8_method_13_code, 4, some .boolean, 6, 1, 2, 26077, 26076, 1014, 21013),
  (⟨"UtilityWorks$Sky", "forceAt", "(I)I"⟩, prog_8_method_12_code, 4, some .int, 6, 1, 1, 26081, 26079, 26080, 21013),
  (⟨"UtilityWorks$Sky", "isOver", "(II)Z"⟩, prog_8_method_11_code, 4, some .boolean, 6, 1, 2, 26085, 26084, 1015, 21013),
  (⟨"UtilityWorks$Sky", "countBroken", "(I)V"⟩, prog_8_method_16_code, 3, none, 6, 1, 1, 26091, 26090, 2000, 21013),
  (⟨"UtilityWorks$Grid", "isUnder", "(II)Z"⟩, prog_5_method_23_code, 3, some .boolean, 3, 1, 2, 26095, 26093, 26094, 21004),
  (⟨"UtilityWorks$Crews", "goBy", "(LUtilityWorks$Town;)V"⟩, prog_3_method_12_code, 6, none, 1, 1, 1, 26100, 26098, 26099, 21011),
  (⟨"UtilityWorks$Crews", "putBack", "(I)V"⟩, prog_3_method_8_code, 4, none, 1, 1, 1, 26104, 26102, 26103, 21011)]
def mt_5 : List mt_T := [(⟨"UtilityWorks$Crews", "bestJob", "(LUtilityWorks$Town;I)I"⟩, prog_3_method_11_code, 11, some .int, 1, 1, 2, 26110, 26108, 26109, 21011),
  (⟨"UtilityWorks$Crews", "spotOf", "(LUtilityWorks$Town;[I)I"⟩, prog_3_method_10_code, 3, some .int, 1, 1, 2, 26114, 26113, 2001, 21011),
  (⟨"UtilityWorks$Crews", "skillFor", "([I)I"⟩, prog_3_method_9_code, 2, some .int, 1, 1, 1, 26119, 26118, 2002, 21011),
  (⟨"UtilityWorks$Crews", "takeJob", "(II)V"⟩, prog_3_method_13_code, 3, none, 1, 1, 2, 26123, 26122, 2003, 21011),
  (⟨"UtilityWorks$Crews", "work", "(LUtilityWorks$Town;I)V"⟩, prog_3_method_14_code, 8, none, 1, 1, 2, 26127, 26126, 2004, 21011),
  (⟨"UtilityWorks$Crews", "doSpell", "(LUtilityWorks$Town;I)V"⟩, prog_3_method_15_code, 6, none, 1, 1, 2, 26133, 26132, 2005, 21011),
  (⟨"UtilityWorks$Crews", "hasNothingToDo", "(LUtilityWorks$Town;[I)Z"⟩, prog_3_method_16_code, 4, some .boolean, 1, 1, 2, 26137, 26136, 2006, 21011),
  (⟨"UtilityWorks$Crews", "lacksSomething", "(LUtilityWorks$Town;[II)Z"⟩, prog_3_method_18_code, 6, some .boolean, 1, 1, 3, 26144, 26143, 2007, 21011),
  (⟨"UtilityWorks$Grid", "mayDigFor", "(III)Z"⟩, prog_5_method_29_code, 5, some .boolean, 3, 1, 3, 26148, 26146, 26147, 21004),
  (⟨"UtilityWorks$Grid", "holderOn", "(II)I"⟩, prog_5_method_28_code, 4, some .int, 3, 1, 2, 26152, 26150, 26151, 21004),
  (⟨"UtilityWorks$Grid", "holds", "(II)Z"⟩, prog_5_method_27_code, 4, some .boolean, 3, 1, 2, 26156, 26154, 26155, 21004),
  (⟨"UtilityWorks$Grid", "isFor", "(II)Z"⟩, prog_5_method_26_code, 3, some .boolean, 3, 1, 2, 26160, 26158, 26159, 21004),
  (⟨"UtilityWorks$Crews", "partsFor", "([I)I"⟩, prog_3_method_17_code, 2, some .int, 1, 1, 1, 26164, 26163, 2008, 21011),
  (⟨"UtilityWorks$Stores", "has", "(II)Z"⟩, prog_9_method_3_code, 3, some .boolean, 7, 1, 2, 26168, 26166, 26167, 21012),
  (⟨"UtilityWorks$Stores", "take", "(II)V"⟩, prog_9_method_4_code, 3, none, 7, 1, 2, 26172, 26170, 26171, 21012),
  (⟨"UtilityWorks$Crews", "finish", "(LUtilityWorks$Town;[I)V"⟩, prog_3_method_19_code, 5, none, 1, 1, 2, 26178, 26177, 2009, 21011),
  (⟨"UtilityWorks$Grid", "fill", "(II)V"⟩, prog_5_method_20_code, 3, none, 3, 1, 2, 26182, 26180, 26181, 21004),
  (⟨"UtilityWorks$Grid", "makeSound", "(IILUtilityWorks$Ways;)V"⟩, prog_5_method_15_code, 5, none, 3, 1, 3, 26186, 26184, 26185, 21004),
  (⟨"UtilityWorks$Customers", "readRight", "(III)I"⟩, prog_4_method_11_code, 6, some .int, 2, 1, 3, 26191, 26189, 26190, 21009),
  (⟨"UtilityWorks$Customers", "cutOff", "(I)V"⟩, prog_4_method_7_code, 2, none, 2, 1, 1, 26198, 26196, 26197, 21009),
  (⟨"UtilityWorks$Customers", "hookAgain", "(I)V"⟩, prog_4_method_8_code, 2, none, 2, 1, 1, 26202, 26200, 26201, 21009),
  (⟨"UtilityWorks$Power", "goBy", "(LUtilityWorks$Town;)V"⟩, prog_7_method_18_code, 4, none, 5, 1, 1, 26207, 26205, 26206, 21005),
  (⟨"UtilityWorks$Water", "goBy", "(LUtilityWorks$Town;)V"⟩, prog_11_method_25_code, 4, none, 9, 1, 1, 26215, 26213, 26214, 21006),
  (⟨"UtilityWorks$Water", "isShortNow", "(LUtilityWorks$Customers;I)Z"⟩, prog_11_method_26_code, 4, some .boolean, 9, 1, 2, 26220, 26219, 2010, 21006),
  (⟨"UtilityWorks$Water", "levelThen", "(I)I"⟩, prog_11_method_18_code, 2, some .int, 9, 1, 1, 26225, 26224, 2011, 21006)]
def mt_6 : List mt_T := [(⟨"UtilityWorks$Water", "strain", "(LUtilityWorks$Town;I)V"⟩, prog_11_method_27_code, 6, none, 9, 1, 2, 26229, 26228, 2012, 21006),
  (⟨"UtilityWorks$Heat", "goBy", "(LUtilityWorks$Town;)V"⟩, prog_6_method_19_code, 5, none, 4, 1, 1, 26233, 26231, 26232, 21007),
  (⟨"UtilityWorks$Heat", "burned", "(I)I"⟩, prog_6_method_5_code, 2, some .int, 4, 1, 1, 26239, 26237, 26238, 21007),
  (⟨"UtilityWorks$Customers", "isConnected", "(II)Z"⟩, prog_4_method_5_code, 3, some .boolean, 2, 1, 2, 27003, 27001, 27002, 21009),
  (⟨"UtilityWorks$Heat", "warm", "(LUtilityWorks$Town;I)V"⟩, prog_6_method_20_code, 4, none, 4, 1, 2, 27007, 27006, 2013, 21007),
  (⟨"UtilityWorks$Customers", "goBy", "(LUtilityWorks$Town;)V"⟩, prog_4_method_16_code, 4, none, 2, 1, 1, 27011, 27009, 27010, 21009),
  (⟨"UtilityWorks$Customers", "countOn", "(IIII)V"⟩, prog_4_method_17_code, 7, none, 2, 1, 4, 27017, 27016, 2014, 21009),
  (⟨"UtilityWorks$Books", "goBy", "(LUtilityWorks$Town;)V"⟩, prog_2_method_25_code, 3, none, 0, 1, 1, 27022, 27020, 27021, 21010),
  (⟨"UtilityWorks$Books", "lookAtPlan", "(II)V"⟩, prog_2_method_15_code, 7, none, 0, 1, 2, 27026, 27025, 2015, 21010),
  (⟨"UtilityWorks$Books", "dueBy", "(IJ)J"⟩, prog_2_method_13_code, 5, some .long, 0, 1, 2, 27031, 27029, 27030, 21010),
  (⟨"UtilityWorks$Books", "endPlan", "(I)V"⟩, prog_2_method_12_code, 2, none, 0, 1, 1, 27035, 27034, 3000, 21010),
  (⟨"UtilityWorks$Books", "addInterest", "(I)V"⟩, prog_2_method_16_code, 6, none, 0, 1, 1, 27039, 27038, 3001, 21010),
  (⟨"UtilityWorks$Books", "makeBill", "(LUtilityWorks$Town;I)V"⟩, prog_2_method_21_code, 7, none, 0, 1, 2, 27044, 27043, 3002, 21010),
  (⟨"UtilityWorks$Books", "refundNow", "(LUtilityWorks$Town;I)J"⟩, prog_2_method_19_code, 7, some .long, 0, 1, 2, 27048, 27047, 3003, 21010),
  (⟨"UtilityWorks$Books", "sumNow", "(LUtilityWorks$Town;I)J"⟩, prog_2_method_20_code, 6, some .long, 0, 1, 2, 27053, 27051, 27052, 21010),
  (⟨"UtilityWorks$Books", "itemNow", "(LUtilityWorks$Town;II)J"⟩, prog_2_method_18_code, 12, some .long, 0, 1, 3, 27057, 27056, 3004, 21010),
  (⟨"UtilityWorks$Customers", "meterOf", "(II)[I"⟩, prog_4_method_4_code, 3, some (.array .int), 2, 1, 2, 27061, 27059, 27060, 21009),
  (⟨"UtilityWorks$Books", "isEstimated", "(LUtilityWorks$Town;II)Z"⟩, prog_2_method_17_code, 5, some .boolean, 0, 1, 3, 27065, 27064, 3005, 21010),
  (⟨"UtilityWorks$Customers", "estimateOn", "(III)I"⟩, prog_4_method_12_code, 6, some .int, 2, 1, 3, 27070, 27068, 27069, 21009),
  (⟨"UtilityWorks$Customers", "rate", "(II)I"⟩, prog_4_method_10_code, 5, some .int, 2, 1, 2, 27074, 27072, 27073, 21009),
  (⟨"UtilityWorks$Customers", "readEstimated", "(III)I"⟩, prog_4_method_13_code, 6, some .int, 2, 1, 3, 27081, 27079, 27080, 21009),
  (⟨"UtilityWorks$Books", "settle", "(I[J)V"⟩, prog_2_method_22_code, 3, none, 0, 1, 2, 27086, 27085, 3006, 21010),
  (⟨"UtilityWorks$Books", "useCredit", "(I)V"⟩, prog_2_method_9_code, 6, none, 0, 1, 1, 27094, 27093, 3007, 21010),
  (⟨"UtilityWorks$Books", "tellJobs", "(LUtilityWorks$Town;I)V"⟩, prog_2_method_24_code, 6, none, 0, 1, 2, 27098, 27097, 3008, 21010),
  (⟨"UtilityWorks$Books", "noticeOn", "(II)I"⟩, prog_2_method_23_code, 7, some .int, 0, 1, 2, 27102, 27100, 27101, 21010)]
def mt_7 : List mt_T := [(⟨"UtilityWorks$Books", "hasPlan", "(I)Z"⟩, prog_2_method_10_code, 2, some .boolean, 0, 1, 1, 27106, 27104, 27105, 21010),
  (⟨"UtilityWorks$Crews", "isTold", "(II)Z"⟩, prog_3_method_6_code, 4, some .boolean, 1, 1, 2, 27113, 27111, 27112, 21011),
  (⟨"UtilityWorks$Crews", "tellJob", "(IIII)I"⟩, prog_3_method_7_code, 6, some .int, 1, 1, 4, 27117, 27115, 27116, 21011),
  (⟨"UtilityWorks$Stores", "goBy", "(LUtilityWorks$Town;)V"⟩, prog_9_method_9_code, 5, none, 7, 1, 1, 27121, 27119, 27120, 21012),
  (⟨"UtilityWorks$Stores", "store", "(II)V"⟩, prog_9_method_10_code, 5, none, 7, 1, 2, 27125, 27124, 3009, 21012),
  (⟨"UtilityWorks$Stores", "ordered", "(I)I"⟩, prog_9_method_5_code, 4, some .int, 7, 1, 1, 27130, 27128, 27129, 21012),
  (⟨"UtilityWorks$Stores", "canOrder", "(LUtilityWorks$Books;II)Z"⟩, prog_9_method_7_code, 4, some .boolean, 7, 1, 3, 27134, 27132, 27133, 21012),
  (⟨"UtilityWorks$Stores", "freeOrder", "()I"⟩, prog_9_method_6_code, 2, some .int, 7, 1, 0, 27138, 27137, 3010, 21012),
  (⟨"UtilityWorks$Stores", "makeOrder", "(LUtilityWorks$Town;II)I"⟩, prog_9_method_8_code, 6, some .int, 7, 1, 3, 27144, 27142, 27143, 21012),
  (⟨"UtilityWorks$Grid", "goBy", "(LUtilityWorks$Town;)V"⟩, prog_5_method_33_code, 3, none, 3, 1, 1, 27149, 27147, 27148, 21004),
  (⟨"UtilityWorks", "keep", "(I)I"⟩, prog_1_method_9_code, 3, some .int, 11, 1, 1, 27158, 27156, 27157, 21001),
  (⟨"UtilityWorks$Town", "copyFrom", "(LUtilityWorks$Town;)V"⟩, prog_10_method_2_code, 2, none, 8, 1, 1, 27162, 27160, 27161, 21002),
  (⟨"UtilityWorks$Grid", "copyFrom", "(LUtilityWorks$Grid;)V"⟩, prog_5_method_2_code, 2, none, 3, 1, 1, 27166, 27164, 27165, 21004),
  (⟨"UtilityWorks", "copyTable", "([[I[[I)V"⟩, prog_1_method_130_code, 3, none, 11, 0, 2, 27169, 27168, 0, 21001),
  (⟨"UtilityWorks$Power", "copyFrom", "(LUtilityWorks$Power;)V"⟩, prog_7_method_2_code, 2, none, 5, 1, 1, 27175, 27173, 27174, 21005),
  (⟨"UtilityWorks", "copyLongs", "([J[J)V"⟩, prog_1_method_129_code, 2, none, 11, 0, 2, 27180, 27179, 0, 21001),
  (⟨"UtilityWorks$Water", "copyFrom", "(LUtilityWorks$Water;)V"⟩, prog_11_method_2_code, 2, none, 9, 1, 1, 27184, 27182, 27183, 21006),
  (⟨"UtilityWorks$Heat", "copyFrom", "(LUtilityWorks$Heat;)V"⟩, prog_6_method_2_code, 2, none, 4, 1, 1, 27190, 27188, 27189, 21007),
  (⟨"UtilityWorks$Customers", "copyFrom", "(LUtilityWorks$Customers;)V"⟩, prog_4_method_2_code, 2, none, 2, 1, 1, 27196, 27194, 27195, 21009),
  (⟨"UtilityWorks$Books", "copyFrom", "(LUtilityWorks$Books;)V"⟩, prog_2_method_3_code, 3, none, 0, 1, 1, 27202, 27200, 27201, 21010),
  (⟨"UtilityWorks", "copyLongTable", "([[J[[J)V"⟩, prog_1_method_131_code, 3, none, 11, 0, 2, 27207, 27206, 0, 21001),
  (⟨"UtilityWorks$Crews", "copyFrom", "(LUtilityWorks$Crews;)V"⟩, prog_3_method_2_code, 2, none, 1, 1, 1, 27213, 27211, 27212, 21011),
  (⟨"UtilityWorks$Stores", "copyFrom", "(LUtilityWorks$Stores;)V"⟩, prog_9_method_2_code, 2, none, 7, 1, 1, 27218, 27216, 27217, 21012),
  (⟨"UtilityWorks$Sky", "copyFrom", "(LUtilityWorks$Sky;)V"⟩, prog_8_method_2_code, 2, none, 6, 1, 1, 27223, 27221, 27222, 21013),
  (⟨"UtilityWorks", "bring", "(I)I"⟩, prog_1_method_10_code, 3, some .int, 11, 1, 1, 27232, 27230, 27231, 21001)]
def mt_8 : List mt_T := [(⟨"UtilityWorks", "count", "(I)I"⟩, prog_1_method_11_code, 2, some .int, 11, 1, 1, 27239, 27237, 27238, 21001),
  (⟨"UtilityWorks$Grid", "countStreets", "(I)I"⟩, prog_5_method_10_code, 4, some .int, 3, 1, 1, 28003, 28001, 28002, 21004),
  (⟨"UtilityWorks$Grid", "countPermits", "()I"⟩, prog_5_method_11_code, 3, some .int, 3, 1, 0, 28007, 28005, 28006, 21004),
  (⟨"UtilityWorks", "height", "(II)I"⟩, prog_1_method_13_code, 3, some .int, 11, 1, 2, 28014, 28012, 28013, 21001),
  (⟨"UtilityWorks", "surface", "(II)I"⟩, prog_1_method_14_code, 3, some .int, 11, 1, 2, 28021, 28019, 28020, 21001),
  (⟨"UtilityWorks", "market", "(II)I"⟩, prog_1_method_15_code, 3, some .int, 11, 1, 2, 28028, 28026, 28027, 21001),
  (⟨"UtilityWorks", "may", "(III)I"⟩, prog_1_method_16_code, 4, some .int, 11, 1, 3, 28035, 28033, 28034, 21001),
  (⟨"UtilityWorks$Grid", "reasonAgainst", "(LUtilityWorks$Town;III)I"⟩, prog_5_method_32_code, 7, some .int, 3, 1, 4, 28039, 28037, 28038, 21004),
  (⟨"UtilityWorks$Grid", "isTaken", "(III)Z"⟩, prog_5_method_30_code, 6, some .boolean, 3, 1, 3, 28043, 28042, 3011, 21004),
  (⟨"UtilityWorks$Grid", "meetsMarket", "(III)Z"⟩, prog_5_method_31_code, 5, some .boolean, 3, 1, 3, 28047, 28046, 3012, 21004),
  (⟨"UtilityWorks", "firstFree", "(II)I"⟩, prog_1_method_17_code, 4, some .int, 11, 1, 2, 28054, 28052, 28053, 21001),
  (⟨"UtilityWorks", "permit", "(IIII)I"⟩, prog_1_method_18_code, 7, some .int, 11, 1, 4, 28061, 28059, 28060, 21001),
  (⟨"UtilityWorks$Grid", "freePermit", "()I"⟩, prog_5_method_25_code, 2, some .int, 3, 1, 0, 28065, 28063, 28064, 21004),
  (⟨"UtilityWorks", "share", "(II)I"⟩, prog_1_method_19_code, 5, some .int, 11, 1, 2, 28072, 28070, 28071, 21001),
  (⟨"UtilityWorks$Grid", "isPermit", "(I)Z"⟩, prog_5_method_24_code, 2, some .boolean, 3, 1, 1, 28076, 28074, 28075, 21004),
  (⟨"UtilityWorks", "drop", "(I)I"⟩, prog_1_method_20_code, 3, some .int, 11, 1, 1, 28084, 28082, 28083, 21001),
  (⟨"UtilityWorks", "permitIs", "(II)I"⟩, prog_1_method_21_code, 3, some .int, 11, 1, 2, 28092, 28090, 28091, 21001),
  (⟨"UtilityWorks", "hire", "(IZ)I"⟩, prog_1_method_22_code, 5, some .int, 11, 1, 2, 28100, 28098, 28099, 21001),
  (⟨"UtilityWorks", "streetIs", "(II)I"⟩, prog_1_method_23_code, 3, some .int, 11, 1, 2, 28109, 28107, 28108, 21001),
  (⟨"UtilityWorks", "way", "(II)I"⟩, prog_1_method_24_code, 3, some .int, 11, 1, 2, 28118, 28116, 28117, 21001),
  (⟨"UtilityWorks", "wayIs", "(III)I"⟩, prog_1_method_25_code, 4, some .int, 11, 1, 3, 28127, 28125, 28126, 21001),
  (⟨"UtilityWorks", "plant", "(II)I"⟩, prog_1_method_27_code, 4, some .int, 11, 1, 2, 28135, 28133, 28134, 21001),
  (⟨"UtilityWorks", "whoStands", "([[III)I"⟩, prog_1_method_126_code, 4, some .int, 11, 0, 3, 28138, 28137, 0, 21001),
  (⟨"UtilityWorks", "start", "(IZ)Z"⟩, prog_1_method_28_code, 3, some .boolean, 11, 1, 2, 28146, 28144, 28145, 21001),
  (⟨"UtilityWorks", "plantIs", "(II)I"⟩, prog_1_method_29_code, 3, some .int, 11, 1, 2, 28153, 28151, 28152, 21001)]
def mt_9 : List mt_T := [(⟨"UtilityWorks", "powerAt", "(II)I"⟩, prog_1_method_30_code, 3, some .int, 11, 1, 2, 28161, 28159, 28160, 21001),
  (⟨"UtilityWorks$Power", "tellsAt", "(II)I"⟩, prog_7_method_12_code, 3, some .int, 5, 1, 2, 28165, 28163, 28164, 21005),
  (⟨"UtilityWorks$Power", "capacityOf", "(I)I"⟩, prog_7_method_13_code, 5, some .int, 5, 1, 1, 28169, 28168, 3013, 21005),
  (⟨"UtilityWorks$Power", "needsOf", "(I)I"⟩, prog_7_method_14_code, 4, some .int, 5, 1, 1, 28173, 28172, 3014, 21005),
  (⟨"UtilityWorks", "lineIs", "(II)I"⟩, prog_1_method_31_code, 3, some .int, 11, 1, 2, 28180, 28178, 28179, 21001),
  (⟨"UtilityWorks", "flowAnew", "(I)I"⟩, prog_1_method_32_code, 2, some .int, 11, 1, 1, 28187, 28185, 28186, 21001),
  (⟨"UtilityWorks", "shed", "(I)I"⟩, prog_1_method_33_code, 2, some .int, 11, 1, 1, 28195, 28193, 28194, 21001),
  (⟨"UtilityWorks", "dark", "(I)I"⟩, prog_1_method_34_code, 2, some .int, 11, 1, 1, 28202, 28200, 28201, 21001),
  (⟨"UtilityWorks", "isCustomer", "(I)Z"⟩, prog_1_method_122_code, 2, some .boolean, 11, 1, 1, 28206, 28205, 3015, 21001),
  (⟨"UtilityWorks", "switching", "(I)I"⟩, prog_1_method_35_code, 2, some .int, 11, 1, 1, 28213, 28211, 28212, 21001),
  (⟨"UtilityWorks$Power", "findSwitching", "(LUtilityWorks$Town;)V"⟩, prog_7_method_16_code, 5, none, 5, 1, 1, 28217, 28215, 28216, 21005),
  (⟨"UtilityWorks$Power", "trySwitching", "(LUtilityWorks$Town;II)V"⟩, prog_7_method_17_code, 8, none, 5, 1, 3, 28221, 28220, 4000, 21005),
  (⟨"java/lang/Integer", "bitCount", "(I)I"⟩, prog_19_method_49_code, 1, some .int, 15, 0, 1, 28225, 28224, 0, 21023),
  (⟨"UtilityWorks", "powerSum", "(I)J"⟩, prog_1_method_36_code, 2, some .long, 11, 1, 1, 28235, 28233, 28234, 21001),
  (⟨"UtilityWorks", "well", "(III)I"⟩, prog_1_method_38_code, 5, some .int, 11, 1, 3, 29002, 29000, 29001, 21001),
  (⟨"UtilityWorks", "tank", "(III)I"⟩, prog_1_method_39_code, 5, some .int, 11, 1, 3, 29010, 29008, 29009, 21001),
  (⟨"UtilityWorks", "pump", "(IZ)Z"⟩, prog_1_method_40_code, 3, some .boolean, 11, 1, 2, 29018, 29016, 29017, 21001),
  (⟨"UtilityWorks", "reserve", "(II)I"⟩, prog_1_method_41_code, 3, some .int, 11, 1, 2, 29025, 29023, 29024, 21001),
  (⟨"UtilityWorks", "leak", "(II)I"⟩, prog_1_method_42_code, 3, some .int, 11, 1, 2, 29032, 29030, 29031, 21001),
  (⟨"UtilityWorks", "wellIs", "(II)I"⟩, prog_1_method_43_code, 3, some .int, 11, 1, 2, 29039, 29037, 29038, 21001),
  (⟨"UtilityWorks$Water", "wellTells", "(LUtilityWorks$Town;II)I"⟩, prog_11_method_17_code, 4, some .int, 9, 1, 3, 29043, 29041, 29042, 21006),
  (⟨"UtilityWorks", "tankIs", "(II)I"⟩, prog_1_method_44_code, 3, some .int, 11, 1, 2, 29050, 29048, 29049, 21001),
  (⟨"UtilityWorks$Water", "tankTells", "(II)I"⟩, prog_11_method_19_code, 3, some .int, 9, 1, 2, 29054, 29052, 29053, 21006),
  (⟨"UtilityWorks", "pipeIs", "(II)I"⟩, prog_1_method_45_code, 3, some .int, 11, 1, 2, 29061, 29059, 29060, 21001),
  (⟨"UtilityWorks$Water", "pipeTells", "(LUtilityWorks$Town;II)I"⟩, prog_11_method_20_code, 4, some .int, 9, 1, 3, 29065, 29063, 29064, 21006)]
def mt_10 : List mt_T := [(⟨"UtilityWorks", "waterAt", "(II)I"⟩, prog_1_method_46_code, 3, some .int, 11, 1, 2, 29072, 29070, 29071, 21001),
  (⟨"UtilityWorks$Water", "tellsAt", "(II)I"⟩, prog_11_method_21_code, 3, some .int, 9, 1, 2, 29076, 29074, 29075, 21006),
  (⟨"UtilityWorks", "waterAnew", "(I)I"⟩, prog_1_method_47_code, 2, some .int, 11, 1, 1, 29083, 29081, 29082, 21001),
  (⟨"UtilityWorks", "waterWithout", "(I)I"⟩, prog_1_method_48_code, 2, some .int, 11, 1, 1, 29091, 29089, 29090, 21001),
  (⟨"UtilityWorks$Town", "lessWithout", "(II)I"⟩, prog_10_method_5_code, 8, some .int, 8, 1, 2, 29095, 29093, 29094, 21002),
  (⟨"UtilityWorks", "fire", "(II)I"⟩, prog_1_method_49_code, 3, some .int, 11, 1, 2, 29106, 29104, 29105, 21001),
  (⟨"UtilityWorks$Water", "putOut", "(LUtilityWorks$Town;II)I"⟩, prog_11_method_23_code, 5, some .int, 9, 1, 3, 29110, 29108, 29109, 21006),
  (⟨"UtilityWorks", "waterSum", "(I)J"⟩, prog_1_method_50_code, 2, some .long, 11, 1, 1, 29117, 29115, 29116, 21001),
  (⟨"UtilityWorks", "boiler", "(II)I"⟩, prog_1_method_52_code, 4, some .int, 11, 1, 2, 29125, 29123, 29124, 21001),
  (⟨"UtilityWorks", "coal", "(II)I"⟩, prog_1_method_53_code, 4, some .int, 11, 1, 2, 29133, 29131, 29132, 21001),
  (⟨"UtilityWorks", "light", "(IZ)Z"⟩, prog_1_method_54_code, 3, some .boolean, 11, 1, 2, 29142, 29140, 29141, 21001),
  (⟨"UtilityWorks", "boilerIs", "(II)I"⟩, prog_1_method_55_code, 3, some .int, 11, 1, 2, 29149, 29147, 29148, 21001),
  (⟨"UtilityWorks$Heat", "boilerTells", "(II)I"⟩, prog_6_method_15_code, 3, some .int, 4, 1, 2, 29153, 29151, 29152, 21007),
  (⟨"UtilityWorks", "mainIs", "(II)I"⟩, prog_1_method_56_code, 3, some .int, 11, 1, 2, 29160, 29158, 29159, 21001),
  (⟨"UtilityWorks$Heat", "mainTells", "(LUtilityWorks$Town;II)I"⟩, prog_6_method_16_code, 4, some .int, 4, 1, 3, 29164, 29162, 29163, 21007),
  (⟨"UtilityWorks", "heatAt", "(II)I"⟩, prog_1_method_57_code, 3, some .int, 11, 1, 2, 29171, 29169, 29170, 21001),
  (⟨"UtilityWorks$Heat", "tellsAt", "(LUtilityWorks$Town;II)I"⟩, prog_6_method_17_code, 8, some .int, 4, 1, 3, 29175, 29173, 29174, 21007),
  (⟨"UtilityWorks", "warmth", "(I)I"⟩, prog_1_method_58_code, 2, some .int, 11, 1, 1, 29182, 29180, 29181, 21001),
  (⟨"UtilityWorks", "lasts", "(I)I"⟩, prog_1_method_59_code, 3, some .int, 11, 1, 1, 29189, 29187, 29188, 21001),
  (⟨"UtilityWorks", "heatWithout", "(I)I"⟩, prog_1_method_61_code, 2, some .int, 11, 1, 1, 29197, 29195, 29196, 21001),
  (⟨"UtilityWorks", "heatSum", "(I)J"⟩, prog_1_method_62_code, 2, some .long, 11, 1, 1, 29204, 29202, 29203, 21001),
  (⟨"UtilityWorks", "customer", "(II)I"⟩, prog_1_method_64_code, 3, some .int, 11, 1, 2, 29211, 29209, 29210, 21001),
  (⟨"UtilityWorks", "need", "(III)I"⟩, prog_1_method_65_code, 4, some .int, 11, 1, 3, 29219, 29217, 29218, 21001),
  (⟨"UtilityWorks", "connect", "(IIZ)Z"⟩, prog_1_method_66_code, 4, some .boolean, 11, 1, 3, 29226, 29224, 29225, 21001),
  (⟨"UtilityWorks$Customers", "hook", "(IIZ)Z"⟩, prog_4_method_6_code, 6, some .boolean, 2, 1, 3, 29230, 29228, 29229, 21009)]
def mt_11 : List mt_T := [(⟨"UtilityWorks", "customerIs", "(II)I"⟩, prog_1_method_67_code, 3, some .int, 11, 1, 2, 29238, 29236, 29237, 21001),
  (⟨"UtilityWorks", "meterIs", "(III)I"⟩, prog_1_method_68_code, 4, some .int, 11, 1, 3, 30005, 30003, 30004, 21001),
  (⟨"UtilityWorks", "unseal", "(II)I"⟩, prog_1_method_69_code, 4, some .int, 11, 1, 2, 30014, 30012, 30013, 21001),
  (⟨"UtilityWorks", "slow", "(III)I"⟩, prog_1_method_70_code, 5, some .int, 11, 1, 3, 30021, 30019, 30020, 21001),
  (⟨"UtilityWorks", "seal", "(II)I"⟩, prog_1_method_71_code, 4, some .int, 11, 1, 2, 30028, 30026, 30027, 21001),
  (⟨"UtilityWorks", "read", "(II)I"⟩, prog_1_method_72_code, 3, some .int, 11, 1, 2, 30035, 30033, 30034, 21001),
  (⟨"UtilityWorks", "estimate", "(II)I"⟩, prog_1_method_73_code, 3, some .int, 11, 1, 2, 30043, 30041, 30042, 21001),
  (⟨"UtilityWorks", "loss", "(I)I"⟩, prog_1_method_74_code, 2, some .int, 11, 1, 1, 30051, 30049, 30050, 21001),
  (⟨"UtilityWorks", "suspect", "(I)I"⟩, prog_1_method_75_code, 2, some .int, 11, 1, 1, 30059, 30057, 30058, 21001),
  (⟨"UtilityWorks$Customers", "suspectOf", "(I)I"⟩, prog_4_method_15_code, 7, some .int, 2, 1, 1, 30063, 30061, 30062, 21009),
  (⟨"UtilityWorks", "tariff", "(III)I"⟩, prog_1_method_77_code, 4, some .int, 11, 1, 3, 30070, 30068, 30069, 21001),
  (⟨"UtilityWorks", "pay", "(II)J"⟩, prog_1_method_78_code, 3, some .long, 11, 1, 2, 30077, 30075, 30076, 21001),
  (⟨"UtilityWorks$Books", "payIn", "(II)V"⟩, prog_2_method_8_code, 4, none, 0, 1, 2, 30082, 30080, 30081, 21010),
  (⟨"UtilityWorks", "owes", "(I)J"⟩, prog_1_method_79_code, 2, some .long, 11, 1, 1, 30090, 30088, 30089, 21001),
  (⟨"UtilityWorks", "split", "(II)J"⟩, prog_1_method_80_code, 3, some .long, 11, 1, 2, 30097, 30095, 30096, 21001),
  (⟨"UtilityWorks$Books", "makePlan", "(III)V"⟩, prog_2_method_11_code, 5, none, 0, 1, 3, 30102, 30100, 30101, 21010),
  (⟨"UtilityWorks", "planIs", "(II)J"⟩, prog_1_method_81_code, 3, some .long, 11, 1, 2, 30110, 30108, 30109, 21001),
  (⟨"UtilityWorks$Books", "nextDue", "(II)J"⟩, prog_2_method_14_code, 6, some .long, 0, 1, 2, 30114, 30112, 30113, 21010),
  (⟨"UtilityWorks", "poor", "(IZ)Z"⟩, prog_1_method_82_code, 4, some .boolean, 11, 1, 2, 30123, 30121, 30122, 21001),
  (⟨"UtilityWorks", "fund", "(I)J"⟩, prog_1_method_83_code, 3, some .long, 11, 1, 1, 30130, 30128, 30129, 21001),
  (⟨"UtilityWorks", "bills", "(I)I"⟩, prog_1_method_84_code, 2, some .int, 11, 1, 1, 30137, 30135, 30136, 21001),
  (⟨"UtilityWorks", "billIs", "(III)J"⟩, prog_1_method_85_code, 4, some .long, 11, 1, 3, 30144, 30142, 30143, 21001),
  (⟨"UtilityWorks", "billNow", "(I)J"⟩, prog_1_method_86_code, 2, some .long, 11, 1, 1, 30152, 30150, 30151, 21001),
  (⟨"UtilityWorks", "notice", "(II)I"⟩, prog_1_method_87_code, 3, some .int, 11, 1, 2, 30160, 30158, 30159, 21001),
  (⟨"UtilityWorks", "journal", "(I)J"⟩, prog_1_method_88_code, 2, some .long, 11, 1, 1, 30168, 30166, 30167, 21001)]
def mt_12 : List mt_T := [(⟨"UtilityWorks", "crew", "(III)I"⟩, prog_1_method_90_code, 4, some .int, 11, 1, 3, 30176, 30174, 30175, 21001),
  (⟨"UtilityWorks", "crewIs", "(II)I"⟩, prog_1_method_91_code, 3, some .int, 11, 1, 2, 30184, 30182, 30183, 21001),
  (⟨"UtilityWorks", "isCrew", "(I)Z"⟩, prog_1_method_123_code, 2, some .boolean, 11, 1, 1, 30188, 30187, 4001, 21001),
  (⟨"UtilityWorks", "overtime", "(IZ)Z"⟩, prog_1_method_92_code, 3, some .boolean, 11, 1, 2, 30195, 30193, 30194, 21001),
  (⟨"UtilityWorks", "leave", "(I)I"⟩, prog_1_method_93_code, 3, some .int, 11, 1, 1, 30202, 30200, 30201, 21001),
  (⟨"UtilityWorks", "job", "(IIII)I"⟩, prog_1_method_94_code, 6, some .int, 11, 1, 4, 30210, 30208, 30209, 21001),
  (⟨"UtilityWorks", "jobIs", "(II)I"⟩, prog_1_method_95_code, 3, some .int, 11, 1, 2, 30218, 30216, 30217, 21001),
  (⟨"UtilityWorks", "dropJob", "(I)I"⟩, prog_1_method_96_code, 3, some .int, 11, 1, 1, 30225, 30223, 30224, 21001),
  (⟨"UtilityWorks", "nextJob", "(I)I"⟩, prog_1_method_97_code, 3, some .int, 11, 1, 1, 30234, 30232, 30233, 21001),
  (⟨"UtilityWorks$Sky", "nextRain", "()I"⟩, prog_8_method_5_code, 1, some .int, 6, 1, 0, 30238, 30236, 30237, 21013),
  (⟨"UtilityWorks$Grid", "openStreetsIn", "(ILUtilityWorks$Ways;)V"⟩, prog_5_method_22_code, 4, none, 3, 1, 2, 31002, 31000, 31001, 21004),
  (⟨"UtilityWorks", "order", "(II)I"⟩, prog_1_method_98_code, 3, some .int, 11, 1, 2, 31011, 31009, 31010, 21001),
  (⟨"UtilityWorks", "least", "(II)I"⟩, prog_1_method_99_code, 3, some .int, 11, 1, 2, 31020, 31018, 31019, 21001),
  (⟨"UtilityWorks", "storeIs", "(II)I"⟩, prog_1_method_100_code, 3, some .int, 11, 1, 2, 31027, 31025, 31026, 21001),
  (⟨"UtilityWorks", "spent", "(I)J"⟩, prog_1_method_101_code, 2, some .long, 11, 1, 1, 31036, 31034, 31035, 21001),
  (⟨"UtilityWorks", "weather", "(III)I"⟩, prog_1_method_103_code, 5, some .int, 11, 1, 3, 31043, 31041, 31042, 21001),
  (⟨"UtilityWorks", "draws", "(I)I"⟩, prog_1_method_104_code, 3, some .int, 11, 1, 1, 31050, 31048, 31049, 21001),
  (⟨"UtilityWorks", "storm", "(II)I"⟩, prog_1_method_105_code, 4, some .int, 11, 1, 2, 31058, 31056, 31057, 21001),
  (⟨"UtilityWorks$Sky", "freeStorm", "()I"⟩, prog_8_method_9_code, 2, some .int, 6, 1, 0, 31062, 31060, 31061, 21013),
  (⟨"UtilityWorks$Sky", "isStorm", "(I)Z"⟩, prog_8_method_7_code, 2, some .boolean, 6, 1, 1, 31066, 31064, 31065, 21013),
  (⟨"UtilityWorks$Sky", "tellStorm", "(III)V"⟩, prog_8_method_10_code, 4, none, 6, 1, 3, 31070, 31068, 31069, 21013),
  (⟨"UtilityWorks", "weatherIs", "(I)I"⟩, prog_1_method_107_code, 2, some .int, 11, 1, 1, 31077, 31075, 31076, 21001),
  (⟨"UtilityWorks$Sky", "tells", "(I)I"⟩, prog_8_method_6_code, 2, some .int, 6, 1, 1, 31081, 31079, 31080, 21013),
  (⟨"UtilityWorks$Sky", "stormCount", "()I"⟩, prog_8_method_8_code, 3, some .int, 6, 1, 0, 31085, 31084, 4002, 21013),
  (⟨"UtilityWorks", "stormIs", "(II)I"⟩, prog_1_method_108_code, 3, some .int, 11, 1, 2, 31092, 31090, 31091, 21001)]
def mt_13 : List mt_T := [(⟨"UtilityWorks", "force", "(I)I"⟩, prog_1_method_109_code, 2, some .int, 11, 1, 1, 31100, 31098, 31099, 21001),
  (⟨"UtilityWorks", "gain", "(II)I"⟩, prog_1_method_111_code, 3, some .int, 11, 1, 2, 31108, 31106, 31107, 21001),
  (⟨"UtilityWorks$Town", "gainOf", "(II)I"⟩, prog_10_method_7_code, 7, some .int, 8, 1, 2, 31113, 31111, 31112, 21002),
  (⟨"UtilityWorks", "mending", "(I)I"⟩, prog_1_method_112_code, 2, some .int, 11, 1, 1, 31120, 31118, 31119, 21001),
  (⟨"UtilityWorks", "report", "(I)I"⟩, prog_1_method_113_code, 2, some .int, 11, 1, 1, 31127, 31125, 31126, 21001),
  (⟨"UtilityWorksModel", "tFirst", "()V"⟩, prog_14_method_10_code, 2, none, 12, 1, 0, 31137, 31136, 4003, 21014),
  (⟨"UtilityWorksModel", "tLay", "(III)V"⟩, prog_14_method_9_code, 5, none, 12, 1, 3, 31141, 31140, 4004, 21014),
  (⟨"UtilityWorksModel", "sFirst", "()V"⟩, prog_14_method_44_code, 2, none, 12, 1, 0, 31145, 31144, 4005, 21014),
  (⟨"UtilityWorksModel", "pFirst", "()V"⟩, prog_14_method_77_code, 1, none, 12, 1, 0, 31149, 31148, 4006, 21014),
  (⟨"UtilityWorksModel", "xFirst", "()V"⟩, prog_14_method_312_code, 2, none, 12, 1, 0, 31153, 31152, 4007, 21014),
  (⟨"UtilityWorksModel", "mBegin", "()V"⟩, prog_14_method_196_code, 1, none, 12, 1, 0, 31157, 31156, 4008, 21014),
  (⟨"UtilityWorksModel", "mOld", "(IIIII)V"⟩, prog_14_method_195_code, 7, none, 12, 1, 5, 31161, 31160, 4009, 21014),
  (⟨"UtilityWorksModel", "mAdd", "(II)V"⟩, prog_14_method_194_code, 5, none, 12, 1, 2, 31165, 31164, 4010, 21014),
  (⟨"UtilityWorksModel", "mC", "(II)I"⟩, prog_14_method_192_code, 2, some .int, 12, 0, 2, 31168, 31167, 0, 21014),
  (⟨"UtilityWorksModel", "day", "()I"⟩, prog_14_method_29_code, 1, some .int, 12, 1, 0, 31172, 31171, 4011, 21014),
  (⟨"UtilityWorksModel", "mM", "(III)I"⟩, prog_14_method_193_code, 3, some .int, 12, 0, 3, 31175, 31174, 0, 21014),
  (⟨"UtilityWorksModel", "bBegin", "()V"⟩, prog_14_method_230_code, 1, none, 12, 1, 0, 31179, 31178, 4012, 21014),
  (⟨"UtilityWorksModel", "bTariff", "(IIIII)V"⟩, prog_14_method_229_code, 6, none, 12, 1, 5, 31183, 31182, 4013, 21014),
  (⟨"UtilityWorksModel", "cBegin", "()V"⟩, prog_14_method_270_code, 2, none, 12, 1, 0, 31188, 31187, 4014, 21014),
  (⟨"UtilityWorksModel", "cHire", "(III)V"⟩, prog_14_method_268_code, 5, none, 12, 1, 3, 31192, 31191, 4015, 21014),
  (⟨"UtilityWorksModel", "cC", "(II)I"⟩, prog_14_method_266_code, 2, some .int, 12, 0, 2, 31195, 31194, 0, 21014),
  (⟨"UtilityWorksModel", "cFirst", "(I)I"⟩, prog_14_method_269_code, 1, some .int, 12, 0, 1, 31198, 31197, 0, 21014),
  (⟨"UtilityWorksModel", "wBegin", "()V"⟩, prog_14_method_110_code, 1, none, 12, 1, 0, 31202, 31201, 5000, 21014),
  (⟨"UtilityWorksModel", "wPut", "(IIIII)V"⟩, prog_14_method_111_code, 6, none, 12, 1, 5, 31206, 31205, 5001, 21014),
  (⟨"UtilityWorksModel", "hBegin", "()V"⟩, prog_14_method_154_code, 2, none, 12, 1, 0, 31210, 31209, 5002, 21014)]
def mt_14 : List mt_T := [(⟨"UtilityWorksModel", "thrown", "()I"⟩, prog_14_method_2_code, 1, some .int, 12, 1, 0, 32182, 32180, 32181, 21014),
  (⟨"UtilityWorksModel", "linkIs", "(III)I"⟩, prog_14_method_31_code, 4, some .int, 12, 1, 3, 32186, 32184, 32185, 21014),
  (⟨"UtilityWorksModel", "isGood", "(I)Z"⟩, prog_14_method_6_code, 1, some .boolean, 12, 0, 1, 32189, 32188, 0, 21014),
  (⟨"UtilityWorksModel", "in", "(III)Z"⟩, prog_14_method_5_code, 3, some .boolean, 12, 0, 3, 32192, 32191, 0, 21014),
  (⟨"UtilityWorksModel", "isStreet", "(I)Z"⟩, prog_14_method_8_code, 1, some .boolean, 12, 0, 1, 32195, 32194, 0, 21014),
  (⟨"UtilityWorksModel", "fails", "(ZI)Z"⟩, prog_14_method_3_code, 3, some .boolean, 12, 1, 2, 32199, 32198, 5003, 21014),
  (⟨"UtilityWorksModel", "hasLink", "(II)Z"⟩, prog_14_method_17_code, 3, some .boolean, 12, 1, 2, 32203, 32202, 5004, 21014),
  (⟨"UtilityWorksModel", "link", "(II)I"⟩, prog_14_method_16_code, 3, some .int, 12, 1, 2, 32207, 32206, 5005, 21014),
  (⟨"UtilityWorksModel", "leads", "(II)Z"⟩, prog_14_method_21_code, 3, some .boolean, 12, 1, 2, 32211, 32210, 5006, 21014),
  (⟨"UtilityWorksModel", "isFine", "(II)Z"⟩, prog_14_method_19_code, 3, some .boolean, 12, 1, 2, 32215, 32214, 5007, 21014),
  (⟨"UtilityWorksModel", "isOn", "(II)Z"⟩, prog_14_method_20_code, 3, some .boolean, 12, 1, 2, 32219, 32218, 5008, 21014),
  (⟨"UtilityWorksModel", "turn", "(IIZ)Z"⟩, prog_14_method_32_code, 5, some .boolean, 12, 1, 3, 32223, 32221, 32222, 21014),
  (⟨"UtilityWorksModel", "closesRing", "(I)Z"⟩, prog_14_method_23_code, 2, some .boolean, 12, 1, 1, 32227, 32226, 5009, 21014),
  (⟨"UtilityWorksModel", "low", "(I)I"⟩, prog_14_method_13_code, 1, some .int, 12, 0, 1, 32230, 32229, 0, 21014),
  (⟨"UtilityWorksModel", "reachFrom", "(III)V"⟩, prog_14_method_22_code, 7, none, 12, 1, 3, 32234, 32233, 5010, 21014),
  (⟨"UtilityWorksModel", "high", "(I)I"⟩, prog_14_method_14_code, 1, some .int, 12, 0, 1, 32237, 32236, 0, 21014),
  (⟨"UtilityWorksModel", "bound", "(III)I"⟩, prog_14_method_33_code, 5, some .int, 12, 1, 3, 33001, 32239, 33000, 21014),
  (⟨"UtilityWorksModel", "boundOf", "(II)I"⟩, prog_14_method_18_code, 3, some .int, 12, 1, 2, 33005, 33004, 5011, 21014),
  (⟨"UtilityWorksModel", "lay", "(III)I"⟩, prog_14_method_35_code, 4, some .int, 12, 1, 3, 33009, 33007, 33008, 21014),
  (⟨"UtilityWorksModel", "isDug", "(I)Z"⟩, prog_14_method_50_code, 2, some .boolean, 12, 1, 1, 33013, 33012, 5012, 21014),
  (⟨"UtilityWorksModel", "layLink", "(III)V"⟩, prog_14_method_28_code, 4, none, 12, 1, 3, 33017, 33016, 5013, 21014),
  (⟨"UtilityWorksModel", "spends", "(I)V"⟩, prog_14_method_232_code, 2, none, 12, 1, 1, 33021, 33020, 5014, 21014),
  (⟨"UtilityWorksModel", "linksOf", "(IZ)I"⟩, prog_14_method_34_code, 5, some .int, 12, 1, 2, 33025, 33024, 5015, 21014),
  (⟨"UtilityWorksModel", "breaks", "(II)Z"⟩, prog_14_method_36_code, 4, some .boolean, 12, 1, 2, 33029, 33027, 33028, 21014),
  (⟨"UtilityWorksModel", "breakLink", "(II)V"⟩, prog_14_method_27_code, 3, none, 12, 1, 2, 33033, 33032, 6000, 21014)]
def mt_15 : List mt_T := [(⟨"UtilityWorksModel", "joined", "(III)Z"⟩, prog_14_method_37_code, 4, some .boolean, 12, 1, 3, 33037, 33035, 33036, 21014),
  (⟨"UtilityWorksModel", "isCrossing", "(I)Z"⟩, prog_14_method_7_code, 1, some .boolean, 12, 0, 1, 33040, 33039, 0, 21014),
  (⟨"UtilityWorksModel", "pass", "(I)I"⟩, prog_14_method_39_code, 3, some .int, 12, 1, 1, 33044, 33042, 33043, 21014),
  (⟨"UtilityWorksModel", "dayGoes", "()V"⟩, prog_14_method_38_code, 1, none, 12, 1, 0, 33048, 33047, 6001, 21014),
  (⟨"UtilityWorksModel", "weatherDay", "()V"⟩, prog_14_method_327_code, 3, none, 12, 1, 0, 33052, 33051, 6002, 21014),
  (⟨"UtilityWorksModel", "draw", "()V"⟩, prog_14_method_323_code, 2, none, 12, 1, 0, 33056, 33055, 6003, 21014),
  (⟨"UtilityWorksModel", "drawn", "()I"⟩, prog_14_method_320_code, 1, some .int, 12, 1, 0, 33060, 33059, 6004, 21014),
  (⟨"UtilityWorksModel", "stormsGo", "()V"⟩, prog_14_method_324_code, 2, none, 12, 1, 0, 33065, 33064, 6005, 21014),
  (⟨"UtilityWorksModel", "isStorm", "(I)Z"⟩, prog_14_method_317_code, 2, some .boolean, 12, 1, 1, 33069, 33068, 6006, 21014),
  (⟨"UtilityWorksModel", "stormCell", "(II)I"⟩, prog_14_method_316_code, 3, some .int, 12, 1, 2, 33073, 33072, 6007, 21014),
  (⟨"UtilityWorksModel", "linesBreak", "()V"⟩, prog_14_method_326_code, 3, none, 12, 1, 0, 33077, 33076, 6008, 21014),
  (⟨"UtilityWorksModel", "tears", "(I)Z"⟩, prog_14_method_325_code, 3, some .boolean, 12, 1, 1, 33081, 33080, 6009, 21014),
  (⟨"UtilityWorksModel", "forceAt", "(I)I"⟩, prog_14_method_319_code, 4, some .int, 12, 1, 1, 33085, 33084, 6010, 21014),
  (⟨"UtilityWorksModel", "isOver", "(II)Z"⟩, prog_14_method_318_code, 4, some .boolean, 12, 1, 2, 33089, 33088, 6011, 21014),
  (⟨"UtilityWorksModel", "heightOf", "(I)I"⟩, prog_14_method_30_code, 2, some .int, 12, 1, 1, 33093, 33092, 6012, 21014),
  (⟨"UtilityWorksModel", "reports", "(II)V"⟩, prog_14_method_315_code, 3, none, 12, 1, 2, 33097, 33096, 6013, 21014),
  (⟨"UtilityWorksModel", "isWet", "(II)Z"⟩, prog_14_method_322_code, 3, some .boolean, 12, 1, 2, 33101, 33100, 6014, 21014),
  (⟨"UtilityWorksModel", "crewsDay", "()V"⟩, prog_14_method_292_code, 6, none, 12, 1, 0, 33105, 33104, 6015, 21014),
  (⟨"UtilityWorksModel", "hasAlarm", "()Z"⟩, prog_14_method_314_code, 1, some .boolean, 12, 1, 0, 33109, 33108, 7000, 21014),
  (⟨"UtilityWorksModel", "cJ", "(II)I"⟩, prog_14_method_267_code, 2, some .int, 12, 0, 2, 33112, 33111, 0, 21014),
  (⟨"UtilityWorksModel", "cLeaves", "(I)V"⟩, prog_14_method_284_code, 3, none, 12, 1, 1, 33116, 33115, 7001, 21014),
  (⟨"UtilityWorksModel", "cTakesJob", "(I)V"⟩, prog_14_method_285_code, 3, none, 12, 1, 1, 33120, 33119, 7002, 21014),
  (⟨"UtilityWorksModel", "cBest", "(I)I"⟩, prog_14_method_283_code, 5, some .int, 12, 1, 1, 33124, 33123, 7003, 21014),
  (⟨"UtilityWorksModel", "cCan", "(II)Z"⟩, prog_14_method_282_code, 3, some .boolean, 12, 1, 2, 33128, 33127, 7004, 21014),
  (⟨"UtilityWorksModel", "cSkill", "(I)I"⟩, prog_14_method_279_code, 3, some .int, 12, 1, 1, 33132, 33131, 7005, 21014)]
def mt_16 : List mt_T := [(⟨"UtilityWorksModel", "cFar", "(II)I"⟩, prog_14_method_281_code, 4, some .int, 12, 1, 2, 33136, 33135, 7006, 21014),
  (⟨"UtilityWorksModel", "cSpot", "(I)I"⟩, prog_14_method_278_code, 3, some .int, 12, 1, 1, 33140, 33139, 7007, 21014),
  (⟨"UtilityWorksModel", "customerAt", "(I)I"⟩, prog_14_method_200_code, 2, some .int, 12, 1, 1, 33144, 33143, 7008, 21014),
  (⟨"UtilityWorksModel", "wayLength", "(II)I"⟩, prog_14_method_70_code, 3, some .int, 12, 1, 2, 33148, 33147, 7009, 21014),
  (⟨"UtilityWorksModel", "farFrom", "(I)V"⟩, prog_14_method_69_code, 6, none, 12, 1, 1, 33152, 33151, 7010, 21014),
  (⟨"UtilityWorksModel", "isClosed", "(I)Z"⟩, prog_14_method_53_code, 2, some .boolean, 12, 1, 1, 33156, 33155, 7011, 21014),
  (⟨"UtilityWorksModel", "cMoves", "(I)V"⟩, prog_14_method_286_code, 6, none, 12, 1, 1, 33160, 33159, 7012, 21014),
  (⟨"UtilityWorksModel", "wayStep", "(III)I"⟩, prog_14_method_72_code, 6, some .int, 12, 1, 3, 33164, 33163, 7013, 21014),
  (⟨"UtilityWorksModel", "nextTo", "(I)I"⟩, prog_14_method_71_code, 5, some .int, 12, 1, 1, 33168, 33167, 7014, 21014),
  (⟨"UtilityWorksModel", "streetBetween", "(II)I"⟩, prog_14_method_15_code, 4, some .int, 12, 0, 2, 33171, 33170, 0, 21014),
  (⟨"UtilityWorksModel", "cSpell", "(I)V"⟩, prog_14_method_291_code, 5, none, 12, 1, 1, 33175, 33174, 7015, 21014),
  (⟨"UtilityWorksModel", "cNothing", "(I)Z"⟩, prog_14_method_287_code, 4, some .boolean, 12, 1, 1, 33179, 33178, 8000, 21014),
  (⟨"UtilityWorksModel", "bCutFrom", "(I)I"⟩, prog_14_method_235_code, 2, some .int, 12, 1, 1, 33183, 33182, 8001, 21014),
  (⟨"UtilityWorksModel", "bC", "(II)I"⟩, prog_14_method_227_code, 2, some .int, 12, 0, 2, 33186, 33185, 0, 21014),
  (⟨"UtilityWorksModel", "cEnds", "(I)V"⟩, prog_14_method_290_code, 2, none, 12, 1, 1, 33190, 33189, 8002, 21014),
  (⟨"UtilityWorksModel", "cLacks", "(II)Z"⟩, prog_14_method_288_code, 7, some .boolean, 12, 1, 2, 33194, 33193, 8003, 21014),
  (⟨"UtilityWorksModel", "permits", "(II)Z"⟩, prog_14_method_49_code, 4, some .boolean, 12, 1, 2, 33198, 33197, 8004, 21014),
  (⟨"UtilityWorksModel", "permitOn", "(II)I"⟩, prog_14_method_48_code, 5, some .int, 12, 1, 2, 33202, 33201, 8005, 21014),
  (⟨"UtilityWorksModel", "holdsOn", "(III)Z"⟩, prog_14_method_47_code, 4, some .boolean, 12, 1, 3, 33206, 33205, 8006, 21014),
  (⟨"UtilityWorksModel", "isPermit", "(I)Z"⟩, prog_14_method_46_code, 2, some .boolean, 12, 1, 1, 33210, 33209, 8007, 21014),
  (⟨"UtilityWorksModel", "permitCell", "(II)I"⟩, prog_14_method_45_code, 3, some .int, 12, 1, 2, 33214, 33213, 8008, 21014),
  (⟨"UtilityWorksModel", "stock", "(I)I"⟩, prog_14_method_272_code, 2, some .int, 12, 1, 1, 33218, 33217, 8009, 21014),
  (⟨"UtilityWorksModel", "takes", "(II)V"⟩, prog_14_method_273_code, 3, none, 12, 1, 2, 33222, 33221, 8010, 21014),
  (⟨"UtilityWorksModel", "cSpells", "(I)I"⟩, prog_14_method_280_code, 3, some .int, 12, 1, 1, 33226, 33225, 8011, 21014),
  (⟨"UtilityWorksModel", "cEffect", "(I)V"⟩, prog_14_method_289_code, 6, none, 12, 1, 1, 33230, 33229, 8012, 21014)]
def mt_17 : List mt_T := [(⟨"UtilityWorksModel", "digs", "(I)V"⟩, prog_14_method_51_code, 2, none, 12, 1, 1, 33234, 33233, 8013, 21014),
  (⟨"UtilityWorksModel", "fills", "(I)V"⟩, prog_14_method_52_code, 2, none, 12, 1, 1, 33238, 33237, 8014, 21014),
  (⟨"UtilityWorksModel", "makeFine", "(II)V"⟩, prog_14_method_24_code, 3, none, 12, 1, 2, 34002, 34001, 8015, 21014),
  (⟨"UtilityWorksModel", "mRead", "(II)I"⟩, prog_14_method_209_code, 6, some .int, 12, 1, 2, 34006, 34005, 9000, 21014),
  (⟨"UtilityWorksModel", "bRight", "(II)V"⟩, prog_14_method_233_code, 3, none, 12, 1, 2, 34010, 34009, 9001, 21014),
  (⟨"UtilityWorksModel", "bCuts", "(I)V"⟩, prog_14_method_236_code, 2, none, 12, 1, 1, 34014, 34013, 9002, 21014),
  (⟨"UtilityWorksModel", "bConnects", "(I)V"⟩, prog_14_method_237_code, 2, none, 12, 1, 1, 34018, 34017, 9003, 21014),
  (⟨"UtilityWorksModel", "powerDay", "()V"⟩, prog_14_method_94_code, 2, none, 12, 1, 0, 34022, 34021, 9004, 21014),
  (⟨"UtilityWorksModel", "powerDeal", "()V"⟩, prog_14_method_92_code, 2, none, 12, 1, 0, 34026, 34025, 9005, 21014),
  (⟨"UtilityWorksModel", "ranks", "()V"⟩, prog_14_method_204_code, 4, none, 12, 1, 0, 34030, 34029, 9006, 21014),
  (⟨"UtilityWorksModel", "rankOf", "(I)I"⟩, prog_14_method_201_code, 2, some .int, 12, 1, 1, 34034, 34033, 9007, 21014),
  (⟨"UtilityWorksModel", "dealOnce", "()V"⟩, prog_14_method_89_code, 2, none, 12, 1, 0, 34038, 34037, 9008, 21014),
  (⟨"UtilityWorksModel", "layIslands", "()V"⟩, prog_14_method_83_code, 5, none, 12, 1, 0, 34042, 34041, 9009, 21014),
  (⟨"UtilityWorksModel", "dealIsland", "(I)V"⟩, prog_14_method_85_code, 6, none, 12, 1, 1, 34046, 34045, 9010, 21014),
  (⟨"UtilityWorksModel", "capacityAt", "(I)I"⟩, prog_14_method_80_code, 4, some .int, 12, 1, 1, 34050, 34049, 9011, 21014),
  (⟨"UtilityWorksModel", "plantCell", "(II)I"⟩, prog_14_method_79_code, 3, some .int, 12, 1, 2, 34054, 34053, 9012, 21014),
  (⟨"UtilityWorksModel", "wells", "()I"⟩, prog_14_method_112_code, 1, some .int, 12, 1, 0, 34058, 34057, 9013, 21014),
  (⟨"UtilityWorksModel", "wellAt", "(I)I"⟩, prog_14_method_113_code, 2, some .int, 12, 1, 1, 34062, 34061, 9014, 21014),
  (⟨"UtilityWorksModel", "wellNeeds", "(I)I"⟩, prog_14_method_114_code, 2, some .int, 12, 1, 1, 34066, 34065, 9015, 21014),
  (⟨"UtilityWorksModel", "gets", "(III)Z"⟩, prog_14_method_84_code, 4, some .boolean, 12, 1, 3, 34070, 34069, 10000, 21014),
  (⟨"UtilityWorksModel", "boilers", "()I"⟩, prog_14_method_155_code, 1, some .int, 12, 1, 0, 34074, 34073, 10001, 21014),
  (⟨"UtilityWorksModel", "boilerAt", "(I)I"⟩, prog_14_method_156_code, 2, some .int, 12, 1, 1, 34078, 34077, 10002, 21014),
  (⟨"UtilityWorksModel", "boilerNeeds", "(I)I"⟩, prog_14_method_82_code, 2, some .int, 12, 1, 1, 34082, 34081, 10003, 21014),
  (⟨"UtilityWorksModel", "isLit", "(I)Z"⟩, prog_14_method_157_code, 2, some .boolean, 12, 1, 1, 34086, 34085, 10004, 21014),
  (⟨"UtilityWorksModel", "customers", "()I"⟩, prog_14_method_197_code, 1, some .int, 12, 1, 0, 34090, 34089, 10005, 21014)]
def mt_18 : List mt_T := [(⟨"UtilityWorksModel", "customerNeeds", "(I)I"⟩, prog_14_method_81_code, 2, some .int, 12, 1, 1, 34094, 34093, 10006, 21014),
  (⟨"UtilityWorksModel", "isConnected", "(II)Z"⟩, prog_14_method_203_code, 3, some .boolean, 12, 1, 2, 34098, 34097, 10007, 21014),
  (⟨"UtilityWorksModel", "needOf", "(II)I"⟩, prog_14_method_202_code, 3, some .int, 12, 1, 2, 34102, 34101, 10008, 21014),
  (⟨"UtilityWorksModel", "balanceOf", "(I)I"⟩, prog_14_method_87_code, 4, some .int, 12, 1, 1, 34106, 34105, 10009, 21014),
  (⟨"UtilityWorksModel", "sideOf", "(I)V"⟩, prog_14_method_86_code, 4, none, 12, 1, 1, 34110, 34109, 10010, 21014),
  (⟨"UtilityWorksModel", "tripping", "()I"⟩, prog_14_method_90_code, 5, some .int, 12, 1, 0, 34114, 34113, 10011, 21014),
  (⟨"UtilityWorksModel", "size", "(I)I"⟩, prog_14_method_88_code, 1, some .int, 12, 0, 1, 34117, 34116, 0, 21014),
  (⟨"UtilityWorksModel", "sumUp", "()V"⟩, prog_14_method_91_code, 2, none, 12, 1, 0, 34121, 34120, 10012, 21014),
  (⟨"UtilityWorksModel", "isShed", "(I)Z"⟩, prog_14_method_93_code, 2, some .boolean, 12, 1, 1, 34125, 34124, 10013, 21014),
  (⟨"UtilityWorksModel", "waterDay", "()V"⟩, prog_14_method_134_code, 2, none, 12, 1, 0, 34129, 34128, 10014, 21014),
  (⟨"UtilityWorksModel", "waterDeal", "()V"⟩, prog_14_method_131_code, 2, none, 12, 1, 0, 34133, 34132, 10015, 21014),
  (⟨"UtilityWorksModel", "wClear", "()V"⟩, prog_14_method_123_code, 2, none, 12, 1, 0, 34137, 34136, 11000, 21014),
  (⟨"UtilityWorksModel", "wSources", "()V"⟩, prog_14_method_126_code, 3, none, 12, 1, 0, 34141, 34140, 11001, 21014),
  (⟨"UtilityWorksModel", "wWellHead", "(I)I"⟩, prog_14_method_125_code, 2, some .int, 12, 1, 1, 34145, 34144, 11002, 21014),
  (⟨"UtilityWorksModel", "wTankHead", "(I)I"⟩, prog_14_method_124_code, 2, some .int, 12, 1, 1, 34149, 34148, 11003, 21014),
  (⟨"UtilityWorksModel", "wWants", "()V"⟩, prog_14_method_129_code, 2, none, 12, 1, 0, 34153, 34152, 11004, 21014),
  (⟨"UtilityWorksModel", "wIsHole", "(I)Z"⟩, prog_14_method_115_code, 2, some .boolean, 12, 1, 1, 34157, 34156, 11005, 21014),
  (⟨"UtilityWorksModel", "wHoleAt", "(I)I"⟩, prog_14_method_116_code, 2, some .int, 12, 1, 1, 34161, 34160, 11006, 21014),
  (⟨"UtilityWorksModel", "boilerNeedsWater", "(I)I"⟩, prog_14_method_158_code, 2, some .int, 12, 1, 1, 34165, 34164, 11007, 21014),
  (⟨"UtilityWorksModel", "wNeed", "(I)I"⟩, prog_14_method_128_code, 2, some .int, 12, 1, 1, 34169, 34168, 11008, 21014),
  (⟨"UtilityWorksModel", "wFind", "(II)Z"⟩, prog_14_method_121_code, 6, some .boolean, 12, 1, 2, 34173, 34172, 11009, 21014),
  (⟨"UtilityWorksModel", "wReach", "(II)V"⟩, prog_14_method_119_code, 7, none, 12, 1, 2, 34177, 34176, 11010, 21014),
  (⟨"UtilityWorksModel", "wOpen", "(II)Z"⟩, prog_14_method_118_code, 3, some .boolean, 12, 1, 2, 34181, 34180, 11011, 21014),
  (⟨"UtilityWorksModel", "wRoom", "(I)I"⟩, prog_14_method_117_code, 2, some .int, 12, 1, 1, 34185, 34184, 11012, 21014),
  (⟨"UtilityWorksModel", "wSend", "()I"⟩, prog_14_method_122_code, 4, some .int, 12, 1, 0, 34189, 34188, 11013, 21014)]
def mt_19 : List mt_T := [(⟨"UtilityWorksModel", "wWay", "(III)I"⟩, prog_14_method_120_code, 10, some .int, 12, 1, 3, 34193, 34192, 11014, 21014),
  (⟨"UtilityWorksModel", "wShare", "(I)V"⟩, prog_14_method_130_code, 4, none, 12, 1, 1, 34197, 34196, 11015, 21014),
  (⟨"UtilityWorksModel", "wTake", "(I)I"⟩, prog_14_method_127_code, 3, some .int, 12, 1, 1, 34201, 34200, 12000, 21014),
  (⟨"UtilityWorksModel", "wLevelThen", "(I)I"⟩, prog_14_method_135_code, 2, some .int, 12, 1, 1, 34205, 34204, 12001, 21014),
  (⟨"UtilityWorksModel", "wStrain", "(I)V"⟩, prog_14_method_133_code, 5, none, 12, 1, 1, 34209, 34208, 12002, 21014),
  (⟨"UtilityWorksModel", "temperature", "()I"⟩, prog_14_method_313_code, 1, some .int, 12, 1, 0, 34213, 34212, 12003, 21014),
  (⟨"UtilityWorksModel", "heatDay", "()V"⟩, prog_14_method_177_code, 4, none, 12, 1, 0, 34217, 34216, 12004, 21014),
  (⟨"UtilityWorksModel", "heatDeal", "()V"⟩, prog_14_method_172_code, 3, none, 12, 1, 0, 34221, 34220, 12005, 21014),
  (⟨"UtilityWorksModel", "heatWants", "(I)I"⟩, prog_14_method_160_code, 2, some .int, 12, 1, 1, 34225, 34224, 12006, 21014),
  (⟨"UtilityWorksModel", "cold", "()I"⟩, prog_14_method_159_code, 1, some .int, 12, 1, 0, 34229, 34228, 12007, 21014),
  (⟨"UtilityWorksModel", "hMost", "(I)I"⟩, prog_14_method_162_code, 3, some .int, 12, 1, 1, 34233, 34232, 12008, 21014),
  (⟨"UtilityWorksModel", "hLacks", "(I)I"⟩, prog_14_method_161_code, 2, some .int, 12, 1, 1, 34237, 34236, 12009, 21014),
  (⟨"UtilityWorksModel", "hReach", "(I)V"⟩, prog_14_method_165_code, 6, none, 12, 1, 1, 35001, 35000, 12010, 21014),
  (⟨"UtilityWorksModel", "hLay", "(II)V"⟩, prog_14_method_167_code, 7, none, 12, 1, 2, 35005, 35004, 12011, 21014),
  (⟨"UtilityWorksModel", "hNextFrom", "(I)I"⟩, prog_14_method_166_code, 5, some .int, 12, 1, 1, 35009, 35008, 12012, 21014),
  (⟨"UtilityWorksModel", "hFind", "()Z"⟩, prog_14_method_170_code, 5, some .boolean, 12, 1, 0, 35013, 35012, 12013, 21014),
  (⟨"UtilityWorksModel", "hSends", "(II)I"⟩, prog_14_method_169_code, 7, some .int, 12, 1, 2, 35017, 35016, 12014, 21014),
  (⟨"UtilityWorksModel", "hOut", "(II)I"⟩, prog_14_method_168_code, 6, some .int, 12, 1, 2, 35021, 35020, 12015, 21014),
  (⟨"UtilityWorksModel", "hRoom", "(I)I"⟩, prog_14_method_164_code, 2, some .int, 12, 1, 1, 35025, 35024, 13000, 21014),
  (⟨"UtilityWorksModel", "hLoss", "(I)I"⟩, prog_14_method_163_code, 3, some .int, 12, 1, 1, 35029, 35028, 13001, 21014),
  (⟨"UtilityWorksModel", "hSend", "()V"⟩, prog_14_method_171_code, 5, none, 12, 1, 0, 35033, 35032, 13002, 21014),
  (⟨"UtilityWorksModel", "hShare", "(I)V"⟩, prog_14_method_173_code, 5, none, 12, 1, 1, 35037, 35036, 13003, 21014),
  (⟨"UtilityWorksModel", "hFuel", "(I)I"⟩, prog_14_method_175_code, 2, some .int, 12, 1, 1, 35041, 35040, 13004, 21014),
  (⟨"UtilityWorksModel", "hWarmth", "(I)V"⟩, prog_14_method_176_code, 3, none, 12, 1, 1, 35045, 35044, 13005, 21014),
  (⟨"UtilityWorksModel", "metersDay", "()V"⟩, prog_14_method_207_code, 5, none, 12, 1, 0, 35049, 35048, 13006, 21014)]
def mt_20 : List mt_T := [(⟨"UtilityWorksModel", "mWants", "(II)I"⟩, prog_14_method_205_code, 3, some .int, 12, 1, 2, 35053, 35052, 13007, 21014),
  (⟨"UtilityWorksModel", "mTurn", "(III)V"⟩, prog_14_method_206_code, 6, none, 12, 1, 3, 35057, 35056, 13008, 21014),
  (⟨"UtilityWorksModel", "booksDay", "()V"⟩, prog_14_method_250_code, 2, none, 12, 1, 0, 35061, 35060, 13009, 21014),
  (⟨"UtilityWorksModel", "bPlanDay", "(I)V"⟩, prog_14_method_243_code, 4, none, 12, 1, 1, 35065, 35064, 13010, 21014),
  (⟨"UtilityWorksModel", "bDue", "(II)J"⟩, prog_14_method_242_code, 3, some .long, 12, 1, 2, 35069, 35068, 13011, 21014),
  (⟨"UtilityWorksModel", "bEndPlan", "(I)V"⟩, prog_14_method_241_code, 2, none, 12, 1, 1, 35073, 35072, 13012, 21014),
  (⟨"UtilityWorksModel", "bInterest", "(I)V"⟩, prog_14_method_244_code, 5, none, 12, 1, 1, 35077, 35076, 13013, 21014),
  (⟨"UtilityWorksModel", "bB", "(III)I"⟩, prog_14_method_228_code, 3, some .int, 12, 0, 3, 35080, 35079, 0, 21014),
  (⟨"UtilityWorksModel", "bBill", "(I)V"⟩, prog_14_method_247_code, 10, none, 12, 1, 1, 35085, 35084, 13014, 21014),
  (⟨"UtilityWorksModel", "bReckon", "(I)J"⟩, prog_14_method_246_code, 11, some .long, 12, 1, 1, 35089, 35088, 13015, 21014),
  (⟨"UtilityWorksModel", "bGuesses", "(II)Z"⟩, prog_14_method_245_code, 3, some .boolean, 12, 1, 2, 35093, 35092, 14000, 21014),
  (⟨"UtilityWorksModel", "mGuess", "(II)I"⟩, prog_14_method_210_code, 4, some .int, 12, 1, 2, 35097, 35096, 14001, 21014),
  (⟨"UtilityWorksModel", "mRate", "(II)I"⟩, prog_14_method_208_code, 4, some .int, 12, 1, 2, 35101, 35100, 14002, 21014),
  (⟨"UtilityWorksModel", "mEstimate", "(II)I"⟩, prog_14_method_211_code, 4, some .int, 12, 1, 2, 35106, 35105, 14003, 21014),
  (⟨"UtilityWorksModel", "bPays", "(IJ)J"⟩, prog_14_method_240_code, 11, some .long, 12, 1, 2, 35111, 35110, 14004, 21014),
  (⟨"UtilityWorksModel", "bNotices", "(I)V"⟩, prog_14_method_249_code, 2, none, 12, 1, 1, 35115, 35114, 14005, 21014),
  (⟨"UtilityWorksModel", "bNotice", "(I)I"⟩, prog_14_method_248_code, 5, some .int, 12, 1, 1, 35119, 35118, 14006, 21014),
  (⟨"UtilityWorksModel", "cHas", "(II)Z"⟩, prog_14_method_276_code, 5, some .boolean, 12, 1, 2, 35126, 35125, 14007, 21014),
  (⟨"UtilityWorksModel", "cMay", "()Z"⟩, prog_14_method_275_code, 1, some .boolean, 12, 1, 0, 35130, 35129, 14008, 21014),
  (⟨"UtilityWorksModel", "cOpen", "()I"⟩, prog_14_method_274_code, 3, some .int, 12, 1, 0, 35134, 35133, 14009, 21014),
  (⟨"UtilityWorksModel", "cAdd", "(IIII)V"⟩, prog_14_method_277_code, 6, none, 12, 1, 4, 35138, 35137, 14010, 21014),
  (⟨"UtilityWorksModel", "bOwes", "(I)J"⟩, prog_14_method_239_code, 2, some .long, 12, 1, 1, 35142, 35141, 14011, 21014),
  (⟨"UtilityWorksModel", "bOpen", "(I)J"⟩, prog_14_method_238_code, 5, some .long, 12, 1, 1, 35146, 35145, 14012, 21014),
  (⟨"UtilityWorksModel", "storesDay", "()V"⟩, prog_14_method_296_code, 5, none, 12, 1, 0, 35150, 35149, 14013, 21014),
  (⟨"UtilityWorksModel", "cComes", "(II)V"⟩, prog_14_method_295_code, 4, none, 12, 1, 2, 35154, 35153, 14014, 21014)]
def mt_21 : List mt_T := [(⟨"UtilityWorksModel", "cComing", "(I)I"⟩, prog_14_method_293_code, 4, some .int, 12, 1, 1, 35158, 35157, 14015, 21014),
  (⟨"UtilityWorksModel", "money", "()J"⟩, prog_14_method_231_code, 1, some .long, 12, 1, 0, 35162, 35161, 15000, 21014),
  (⟨"UtilityWorksModel", "cPrice", "(I)I"⟩, prog_14_method_271_code, 1, some .int, 12, 0, 1, 35165, 35164, 0, 21014),
  (⟨"UtilityWorksModel", "cOrder", "(II)V"⟩, prog_14_method_294_code, 4, none, 12, 1, 2, 35169, 35168, 15001, 21014),
  (⟨"UtilityWorksModel", "streetsDay", "()V"⟩, prog_14_method_75_code, 2, none, 12, 1, 0, 35173, 35172, 15002, 21014),
  (⟨"UtilityWorksModel", "well", "()V"⟩, prog_14_method_4_code, 1, none, 12, 1, 0, 35177, 35176, 15003, 21014),
  (⟨"UtilityWorksModel", "keep", "(I)I"⟩, prog_14_method_40_code, 3, some .int, 12, 1, 1, 35181, 35179, 35180, 21014),
  (⟨"UtilityWorksModel", "bring", "(I)I"⟩, prog_14_method_41_code, 3, some .int, 12, 1, 1, 35185, 35183, 35184, 21014),
  (⟨"UtilityWorksModel", "count", "(I)I"⟩, prog_14_method_42_code, 4, some .int, 12, 1, 1, 35189, 35187, 35188, 21014),
  (⟨"UtilityWorksModel", "isSound", "()Z"⟩, prog_14_method_43_code, 2, some .boolean, 12, 1, 0, 35193, 35191, 35192, 21014),
  (⟨"UtilityWorksModel", "isSoundStreets", "()Z"⟩, prog_14_method_76_code, 5, some .boolean, 12, 1, 0, 35197, 35195, 35196, 21014),
  (⟨"UtilityWorksModel", "isSoundPower", "()Z"⟩, prog_14_method_109_code, 3, some .boolean, 12, 1, 0, 35201, 35199, 35200, 21014),
  (⟨"UtilityWorksModel", "isSoundWater", "()Z"⟩, prog_14_method_153_code, 3, some .boolean, 12, 1, 0, 35205, 35203, 35204, 21014),
  (⟨"UtilityWorksModel", "wNext", "()V"⟩, prog_14_method_132_code, 1, none, 12, 1, 0, 35209, 35208, 15004, 21014),
  (⟨"UtilityWorksModel", "wLevels", "()J"⟩, prog_14_method_151_code, 4, some .long, 12, 1, 0, 35214, 35213, 15005, 21014),
  (⟨"UtilityWorksModel", "wAnew", "(I)I"⟩, prog_14_method_147_code, 5, some .int, 12, 1, 1, 35218, 35217, 15006, 21014),
  (⟨"UtilityWorksModel", "isSoundHeat", "()Z"⟩, prog_14_method_191_code, 4, some .boolean, 12, 1, 0, 35222, 35220, 35221, 21014),
  (⟨"UtilityWorksModel", "hNext", "()V"⟩, prog_14_method_174_code, 1, none, 12, 1, 0, 35226, 35225, 15007, 21014),
  (⟨"UtilityWorksModel", "hLostAnew", "()I"⟩, prog_14_method_187_code, 3, some .int, 12, 1, 0, 35230, 35229, 15008, 21014),
  (⟨"UtilityWorksModel", "isSoundMeters", "()Z"⟩, prog_14_method_226_code, 4, some .boolean, 12, 1, 0, 35234, 35232, 35233, 21014),
  (⟨"UtilityWorksModel", "mLoss", "(I)I"⟩, prog_14_method_212_code, 5, some .int, 12, 1, 1, 35238, 35237, 15009, 21014),
  (⟨"UtilityWorksModel", "isSoundBooks", "()Z"⟩, prog_14_method_265_code, 4, some .boolean, 12, 1, 0, 36002, 36000, 36001, 21014),
  (⟨"UtilityWorksModel", "bAllOwed", "()J"⟩, prog_14_method_263_code, 4, some .long, 12, 1, 0, 36006, 36005, 15010, 21014),
  (⟨"UtilityWorksModel", "isSoundCrews", "()Z"⟩, prog_14_method_311_code, 5, some .boolean, 12, 1, 0, 36010, 36008, 36009, 21014),
  (⟨"UtilityWorksModel", "isSoundStorm", "()Z"⟩, prog_14_method_346_code, 3, some .boolean, 12, 1, 0, 36014, 36012, 36013, 21014)]
def mt_22 : List mt_T := [(⟨"UtilityWorksModel", "contentNow", "()I"⟩, prog_14_method_337_code, 3, some .int, 12, 1, 0, 36018, 36017, 15011, 21014),
  (⟨"UtilityWorksModel", "isContent", "(I)Z"⟩, prog_14_method_336_code, 3, some .boolean, 12, 1, 1, 36022, 36021, 15012, 21014),
  (⟨"UtilityWorksModel", "mendBest", "()I"⟩, prog_14_method_343_code, 8, some .int, 12, 1, 0, 36026, 36025, 15013, 21014),
  (⟨"UtilityWorksModel", "layBroken", "()I"⟩, prog_14_method_340_code, 4, some .int, 12, 1, 0, 36030, 36029, 15014, 21014),
  (⟨"UtilityWorksModel", "contentWith", "(III)I"⟩, prog_14_method_341_code, 5, some .int, 12, 1, 3, 36034, 36033, 15015, 21014),
  (⟨"UtilityWorksModel", "saves", "()V"⟩, prog_14_method_11_code, 2, none, 12, 1, 0, 36038, 36037, 16000, 21014),
  (⟨"UtilityWorksModel", "makeLead", "(II)V"⟩, prog_14_method_25_code, 3, none, 12, 1, 2, 36042, 36041, 16001, 21014),
  (⟨"UtilityWorksModel", "restores", "()V"⟩, prog_14_method_12_code, 2, none, 12, 1, 0, 36046, 36045, 16002, 21014),
  (⟨"UtilityWorksModel", "take", "(IIIIII)I"⟩, prog_14_method_342_code, 8, some .int, 12, 1, 6, 36050, 36049, 16003, 21014),
  (⟨"UtilityWorksModel", "height", "(II)I"⟩, prog_14_method_54_code, 4, some .int, 12, 1, 2, 36054, 36052, 36053, 21014),
  (⟨"UtilityWorksModel", "surface", "(II)I"⟩, prog_14_method_55_code, 4, some .int, 12, 1, 2, 36058, 36056, 36057, 21014),
  (⟨"UtilityWorksModel", "market", "(II)I"⟩, prog_14_method_56_code, 4, some .int, 12, 1, 2, 36062, 36060, 36061, 21014),
  (⟨"UtilityWorksModel", "may", "(III)I"⟩, prog_14_method_60_code, 4, some .int, 12, 1, 3, 36066, 36064, 36065, 21014),
  (⟨"UtilityWorksModel", "reason", "(III)I"⟩, prog_14_method_59_code, 5, some .int, 12, 1, 3, 36070, 36069, 16004, 21014),
  (⟨"UtilityWorksModel", "isTaken", "(III)Z"⟩, prog_14_method_57_code, 6, some .boolean, 12, 1, 3, 36074, 36073, 16005, 21014),
  (⟨"UtilityWorksModel", "isMarket", "(III)Z"⟩, prog_14_method_58_code, 6, some .boolean, 12, 1, 3, 36078, 36077, 16006, 21014),
  (⟨"UtilityWorksModel", "firstFree", "(II)I"⟩, prog_14_method_61_code, 4, some .int, 12, 1, 2, 36082, 36080, 36081, 21014),
  (⟨"UtilityWorksModel", "permit", "(IIII)I"⟩, prog_14_method_63_code, 7, some .int, 12, 1, 4, 36086, 36084, 36085, 21014),
  (⟨"UtilityWorksModel", "freePermit", "()I"⟩, prog_14_method_62_code, 3, some .int, 12, 1, 0, 36090, 36089, 16007, 21014),
  (⟨"UtilityWorksModel", "share", "(II)I"⟩, prog_14_method_64_code, 3, some .int, 12, 1, 2, 36094, 36092, 36093, 21014),
  (⟨"UtilityWorksModel", "drop", "(I)I"⟩, prog_14_method_65_code, 3, some .int, 12, 1, 1, 36098, 36096, 36097, 21014),
  (⟨"UtilityWorksModel", "permitIs", "(II)I"⟩, prog_14_method_66_code, 3, some .int, 12, 1, 2, 36102, 36100, 36101, 21014),
  (⟨"UtilityWorksModel", "hire", "(IZ)I"⟩, prog_14_method_67_code, 4, some .int, 12, 1, 2, 36106, 36104, 36105, 21014),
  (⟨"UtilityWorksModel", "streetIs", "(II)I"⟩, prog_14_method_68_code, 3, some .int, 12, 1, 2, 36110, 36108, 36109, 21014),
  (⟨"UtilityWorksModel", "way", "(II)I"⟩, prog_14_method_73_code, 3, some .int, 12, 1, 2, 36114, 36112, 36113, 21014)]
def mt_23 : List mt_T := [(⟨"UtilityWorksModel", "wayIs", "(III)I"⟩, prog_14_method_74_code, 5, some .int, 12, 1, 3, 36118, 36116, 36117, 21014),
  (⟨"UtilityWorksModel", "plant", "(II)I"⟩, prog_14_method_95_code, 5, some .int, 12, 1, 2, 36123, 36121, 36122, 21014),
  (⟨"UtilityWorksModel", "start", "(IZ)Z"⟩, prog_14_method_96_code, 4, some .boolean, 12, 1, 2, 36127, 36125, 36126, 21014),
  (⟨"UtilityWorksModel", "isPlant", "(I)Z"⟩, prog_14_method_78_code, 2, some .boolean, 12, 1, 1, 36131, 36130, 16008, 21014),
  (⟨"UtilityWorksModel", "plantIs", "(II)I"⟩, prog_14_method_97_code, 3, some .int, 12, 1, 2, 36135, 36133, 36134, 21014),
  (⟨"UtilityWorksModel", "powerAt", "(II)I"⟩, prog_14_method_99_code, 6, some .int, 12, 1, 2, 36139, 36137, 36138, 21014),
  (⟨"UtilityWorksModel", "needsAt", "(I)I"⟩, prog_14_method_98_code, 4, some .int, 12, 1, 1, 36143, 36142, 16009, 21014),
  (⟨"UtilityWorksModel", "lineIs", "(II)I"⟩, prog_14_method_100_code, 3, some .int, 12, 1, 2, 36147, 36145, 36146, 21014),
  (⟨"UtilityWorksModel", "flowAnew", "(I)I"⟩, prog_14_method_101_code, 2, some .int, 12, 1, 1, 36151, 36149, 36150, 21014),
  (⟨"UtilityWorksModel", "shed", "(I)I"⟩, prog_14_method_102_code, 4, some .int, 12, 1, 1, 36155, 36153, 36154, 21014),
  (⟨"UtilityWorksModel", "dark", "(I)I"⟩, prog_14_method_103_code, 2, some .int, 12, 1, 1, 36159, 36157, 36158, 21014),
  (⟨"UtilityWorksModel", "switching", "(I)I"⟩, prog_14_method_107_code, 8, some .int, 12, 1, 1, 36163, 36161, 36162, 21014),
  (⟨"UtilityWorksModel", "layOff", "()I"⟩, prog_14_method_104_code, 3, some .int, 12, 1, 0, 36167, 36166, 16010, 21014),
  (⟨"UtilityWorksModel", "worthOf", "(II)I"⟩, prog_14_method_105_code, 5, some .int, 12, 1, 2, 36171, 36170, 16011, 21014),
  (⟨"UtilityWorksModel", "onesOf", "(I)I"⟩, prog_14_method_106_code, 3, some .int, 12, 0, 1, 36174, 36173, 0, 21014),
  (⟨"UtilityWorksModel", "powerSum", "(I)J"⟩, prog_14_method_108_code, 2, some .long, 12, 1, 1, 36178, 36176, 36177, 21014),
  (⟨"UtilityWorksModel", "well", "(III)I"⟩, prog_14_method_137_code, 4, some .int, 12, 1, 3, 36183, 36181, 36182, 21014),
  (⟨"UtilityWorksModel", "wAtCrossing", "(III)I"⟩, prog_14_method_136_code, 6, some .int, 12, 1, 3, 36187, 36186, 16012, 21014),
  (⟨"UtilityWorksModel", "tank", "(III)I"⟩, prog_14_method_138_code, 4, some .int, 12, 1, 3, 36191, 36189, 36190, 21014),
  (⟨"UtilityWorksModel", "pump", "(IZ)Z"⟩, prog_14_method_139_code, 4, some .boolean, 12, 1, 2, 36195, 36193, 36194, 21014),
  (⟨"UtilityWorksModel", "reserve", "(II)I"⟩, prog_14_method_140_code, 4, some .int, 12, 1, 2, 36199, 36197, 36198, 21014),
  (⟨"UtilityWorksModel", "leak", "(II)I"⟩, prog_14_method_142_code, 4, some .int, 12, 1, 2, 36203, 36201, 36202, 21014),
  (⟨"UtilityWorksModel", "wIsPipe", "(I)Z"⟩, prog_14_method_141_code, 2, some .boolean, 12, 1, 1, 36207, 36206, 16013, 21014),
  (⟨"UtilityWorksModel", "wellIs", "(II)I"⟩, prog_14_method_143_code, 3, some .int, 12, 1, 2, 36211, 36209, 36210, 21014),
  (⟨"UtilityWorksModel", "tankIs", "(II)I"⟩, prog_14_method_144_code, 3, some .int, 12, 1, 2, 36215, 36213, 36214, 21014)]
def mt_24 : List mt_T := [(⟨"UtilityWorksModel", "pipeIs", "(II)I"⟩, prog_14_method_145_code, 3, some .int, 12, 1, 2, 36219, 36217, 36218, 21014),
  (⟨"UtilityWorksModel", "waterAt", "(II)I"⟩, prog_14_method_146_code, 3, some .int, 12, 1, 2, 36223, 36221, 36222, 21014),
  (⟨"UtilityWorksModel", "waterAnew", "(I)I"⟩, prog_14_method_148_code, 2, some .int, 12, 1, 1, 36227, 36225, 36226, 21014),
  (⟨"UtilityWorksModel", "waterWithout", "(I)I"⟩, prog_14_method_149_code, 4, some .int, 12, 1, 1, 36231, 36229, 36230, 21014),
  (⟨"UtilityWorksModel", "turnsOff", "(II)V"⟩, prog_14_method_26_code, 3, none, 12, 1, 2, 36235, 36234, 16014, 21014),
  (⟨"UtilityWorksModel", "fire", "(II)I"⟩, prog_14_method_150_code, 5, some .int, 12, 1, 2, 36239, 36237, 36238, 21014),
  (⟨"UtilityWorksModel", "waterSum", "(I)J"⟩, prog_14_method_152_code, 2, some .long, 12, 1, 1, 37003, 37001, 37002, 21014),
  (⟨"UtilityWorksModel", "boiler", "(II)I"⟩, prog_14_method_178_code, 5, some .int, 12, 1, 2, 37008, 37006, 37007, 21014),
  (⟨"UtilityWorksModel", "coal", "(II)I"⟩, prog_14_method_179_code, 3, some .int, 12, 1, 2, 37012, 37010, 37011, 21014),
  (⟨"UtilityWorksModel", "light", "(IZ)Z"⟩, prog_14_method_180_code, 4, some .boolean, 12, 1, 2, 37016, 37014, 37015, 21014),
  (⟨"UtilityWorksModel", "boilerIs", "(II)I"⟩, prog_14_method_181_code, 3, some .int, 12, 1, 2, 37020, 37018, 37019, 21014),
  (⟨"UtilityWorksModel", "mainIs", "(II)I"⟩, prog_14_method_183_code, 3, some .int, 12, 1, 2, 37024, 37022, 37023, 21014),
  (⟨"UtilityWorksModel", "hIsMain", "(I)Z"⟩, prog_14_method_182_code, 2, some .boolean, 12, 1, 1, 37028, 37027, 16015, 21014),
  (⟨"UtilityWorksModel", "heatAt", "(II)I"⟩, prog_14_method_184_code, 3, some .int, 12, 1, 2, 37032, 37030, 37031, 21014),
  (⟨"UtilityWorksModel", "warmth", "(I)I"⟩, prog_14_method_185_code, 2, some .int, 12, 1, 1, 37036, 37034, 37035, 21014),
  (⟨"UtilityWorksModel", "lasts", "(I)I"⟩, prog_14_method_186_code, 2, some .int, 12, 1, 1, 37040, 37038, 37039, 21014),
  (⟨"UtilityWorksModel", "lostAnew", "()I"⟩, prog_14_method_188_code, 1, some .int, 12, 1, 0, 37044, 37042, 37043, 21014),
  (⟨"UtilityWorksModel", "heatWithout", "(I)I"⟩, prog_14_method_189_code, 4, some .int, 12, 1, 1, 37048, 37046, 37047, 21014),
  (⟨"UtilityWorksModel", "heatSum", "(I)J"⟩, prog_14_method_190_code, 2, some .long, 12, 1, 1, 37052, 37050, 37051, 21014),
  (⟨"UtilityWorksModel", "customer", "(II)I"⟩, prog_14_method_213_code, 3, some .int, 12, 1, 2, 37057, 37055, 37056, 21014),
  (⟨"UtilityWorksModel", "need", "(III)I"⟩, prog_14_method_215_code, 5, some .int, 12, 1, 3, 37061, 37059, 37060, 21014),
  (⟨"UtilityWorksModel", "mNone", "(II)Z"⟩, prog_14_method_214_code, 3, some .boolean, 12, 1, 2, 37065, 37064, 17000, 21014),
  (⟨"UtilityWorksModel", "isCustomer", "(I)Z"⟩, prog_14_method_198_code, 2, some .boolean, 12, 1, 1, 37069, 37068, 17001, 21014),
  (⟨"UtilityWorksModel", "isMGood", "(I)Z"⟩, prog_14_method_199_code, 1, some .boolean, 12, 0, 1, 37072, 37071, 0, 21014),
  (⟨"UtilityWorksModel", "connect", "(IIZ)Z"⟩, prog_14_method_216_code, 6, some .boolean, 12, 1, 3, 37076, 37074, 37075, 21014)]
def mt_25 : List mt_T := [(⟨"UtilityWorksModel", "bBack", "(II)V"⟩, prog_14_method_234_code, 3, none, 12, 1, 2, 37080, 37079, 17002, 21014),
  (⟨"UtilityWorksModel", "customerIs", "(II)I"⟩, prog_14_method_217_code, 3, some .int, 12, 1, 2, 37084, 37082, 37083, 21014),
  (⟨"UtilityWorksModel", "meterIs", "(III)I"⟩, prog_14_method_218_code, 5, some .int, 12, 1, 3, 37088, 37086, 37087, 21014),
  (⟨"UtilityWorksModel", "unseal", "(II)I"⟩, prog_14_method_219_code, 3, some .int, 12, 1, 2, 37092, 37090, 37091, 21014),
  (⟨"UtilityWorksModel", "slow", "(III)I"⟩, prog_14_method_220_code, 5, some .int, 12, 1, 3, 37096, 37094, 37095, 21014),
  (⟨"UtilityWorksModel", "seal", "(II)I"⟩, prog_14_method_221_code, 4, some .int, 12, 1, 2, 37100, 37098, 37099, 21014),
  (⟨"UtilityWorksModel", "read", "(II)I"⟩, prog_14_method_222_code, 3, some .int, 12, 1, 2, 37104, 37102, 37103, 21014),
  (⟨"UtilityWorksModel", "estimate", "(II)I"⟩, prog_14_method_223_code, 3, some .int, 12, 1, 2, 37108, 37106, 37107, 21014),
  (⟨"UtilityWorksModel", "loss", "(I)I"⟩, prog_14_method_224_code, 2, some .int, 12, 1, 1, 37112, 37110, 37111, 21014),
  (⟨"UtilityWorksModel", "suspect", "(I)I"⟩, prog_14_method_225_code, 8, some .int, 12, 1, 1, 37116, 37114, 37115, 21014),
  (⟨"UtilityWorksModel", "tariff", "(III)I"⟩, prog_14_method_251_code, 5, some .int, 12, 1, 3, 37121, 37119, 37120, 21014),
  (⟨"UtilityWorksModel", "pay", "(II)J"⟩, prog_14_method_252_code, 4, some .long, 12, 1, 2, 37125, 37123, 37124, 21014),
  (⟨"UtilityWorksModel", "owes", "(I)J"⟩, prog_14_method_253_code, 2, some .long, 12, 1, 1, 37130, 37128, 37129, 21014),
  (⟨"UtilityWorksModel", "split", "(II)J"⟩, prog_14_method_254_code, 7, some .long, 12, 1, 2, 37134, 37132, 37133, 21014),
  (⟨"UtilityWorksModel", "planIs", "(II)J"⟩, prog_14_method_256_code, 3, some .long, 12, 1, 2, 37138, 37136, 37137, 21014),
  (⟨"UtilityWorksModel", "bNextDue", "(I)I"⟩, prog_14_method_255_code, 6, some .int, 12, 1, 1, 37142, 37141, 17003, 21014),
  (⟨"UtilityWorksModel", "poor", "(IZ)Z"⟩, prog_14_method_257_code, 4, some .boolean, 12, 1, 2, 37146, 37144, 37145, 21014),
  (⟨"UtilityWorksModel", "fund", "(I)J"⟩, prog_14_method_258_code, 2, some .long, 12, 1, 1, 37150, 37148, 37149, 21014),
  (⟨"UtilityWorksModel", "bills", "(I)I"⟩, prog_14_method_259_code, 2, some .int, 12, 1, 1, 37154, 37152, 37153, 21014),
  (⟨"UtilityWorksModel", "billIs", "(III)J"⟩, prog_14_method_260_code, 4, some .long, 12, 1, 3, 37158, 37156, 37157, 21014),
  (⟨"UtilityWorksModel", "billNow", "(I)J"⟩, prog_14_method_261_code, 2, some .long, 12, 1, 1, 37162, 37160, 37161, 21014),
  (⟨"UtilityWorksModel", "notice", "(II)I"⟩, prog_14_method_262_code, 3, some .int, 12, 1, 2, 37166, 37164, 37165, 21014),
  (⟨"UtilityWorksModel", "journal", "(I)J"⟩, prog_14_method_264_code, 2, some .long, 12, 1, 1, 37170, 37168, 37169, 21014),
  (⟨"UtilityWorksModel", "crew", "(III)I"⟩, prog_14_method_298_code, 4, some .int, 12, 1, 3, 37175, 37173, 37174, 21014),
  (⟨"UtilityWorksModel", "crewIs", "(II)I"⟩, prog_14_method_299_code, 3, some .int, 12, 1, 2, 37179, 37177, 37178, 21014)]
def mt_26 : List mt_T := [(⟨"UtilityWorksModel", "isCCrew", "(I)Z"⟩, prog_14_method_297_code, 2, some .boolean, 12, 1, 1, 37183, 37182, 17004, 21014),
  (⟨"UtilityWorksModel", "overtime", "(IZ)Z"⟩, prog_14_method_300_code, 4, some .boolean, 12, 1, 2, 37187, 37185, 37186, 21014),
  (⟨"UtilityWorksModel", "leave", "(I)I"⟩, prog_14_method_301_code, 3, some .int, 12, 1, 1, 37191, 37189, 37190, 21014),
  (⟨"UtilityWorksModel", "job", "(IIII)I"⟩, prog_14_method_302_code, 7, some .int, 12, 1, 4, 37195, 37193, 37194, 21014),
  (⟨"UtilityWorksModel", "jobIs", "(II)I"⟩, prog_14_method_303_code, 3, some .int, 12, 1, 2, 37199, 37197, 37198, 21014),
  (⟨"UtilityWorksModel", "dropJob", "(I)I"⟩, prog_14_method_304_code, 2, some .int, 12, 1, 1, 37203, 37201, 37202, 21014),
  (⟨"UtilityWorksModel", "nextJob", "(I)I"⟩, prog_14_method_305_code, 6, some .int, 12, 1, 1, 37207, 37205, 37206, 21014),
  (⟨"UtilityWorksModel", "rainNext", "()I"⟩, prog_14_method_321_code, 1, some .int, 12, 1, 0, 37211, 37210, 17005, 21014),
  (⟨"UtilityWorksModel", "order", "(II)I"⟩, prog_14_method_307_code, 3, some .int, 12, 1, 2, 37215, 37213, 37214, 21014),
  (⟨"UtilityWorksModel", "isCPart", "(I)Z"⟩, prog_14_method_306_code, 1, some .boolean, 12, 0, 1, 37218, 37217, 0, 21014),
  (⟨"UtilityWorksModel", "least", "(II)I"⟩, prog_14_method_308_code, 4, some .int, 12, 1, 2, 37222, 37220, 37221, 21014),
  (⟨"UtilityWorksModel", "storeIs", "(II)I"⟩, prog_14_method_309_code, 3, some .int, 12, 1, 2, 37226, 37224, 37225, 21014),
  (⟨"UtilityWorksModel", "spent", "(I)J"⟩, prog_14_method_310_code, 2, some .long, 12, 1, 1, 37230, 37228, 37229, 21014),
  (⟨"UtilityWorksModel", "weather", "(III)I"⟩, prog_14_method_328_code, 5, some .int, 12, 1, 3, 37235, 37233, 37234, 21014),
  (⟨"UtilityWorksModel", "draws", "(I)I"⟩, prog_14_method_329_code, 3, some .int, 12, 1, 1, 37239, 37237, 37238, 21014),
  (⟨"UtilityWorksModel", "storm", "(II)I"⟩, prog_14_method_331_code, 4, some .int, 12, 1, 2, 38004, 38002, 38003, 21014),
  (⟨"UtilityWorksModel", "storms", "()I"⟩, prog_14_method_330_code, 3, some .int, 12, 1, 0, 38008, 38007, 17006, 21014),
  (⟨"UtilityWorksModel", "alarm", "(Z)Z"⟩, prog_14_method_332_code, 3, some .boolean, 12, 1, 1, 38012, 38010, 38011, 21014),
  (⟨"UtilityWorksModel", "weatherIs", "(I)I"⟩, prog_14_method_333_code, 2, some .int, 12, 1, 1, 38016, 38014, 38015, 21014),
  (⟨"UtilityWorksModel", "stormIs", "(II)I"⟩, prog_14_method_334_code, 3, some .int, 12, 1, 2, 38020, 38018, 38019, 21014),
  (⟨"UtilityWorksModel", "force", "(I)I"⟩, prog_14_method_335_code, 2, some .int, 12, 1, 1, 38024, 38022, 38023, 21014),
  (⟨"UtilityWorksModel", "content", "()I"⟩, prog_14_method_338_code, 2, some .int, 12, 1, 0, 38028, 38026, 38027, 21014),
  (⟨"UtilityWorksModel", "gain", "(II)I"⟩, prog_14_method_339_code, 5, some .int, 12, 1, 2, 38032, 38030, 38031, 21014),
  (⟨"UtilityWorksModel", "mending", "(I)I"⟩, prog_14_method_344_code, 4, some .int, 12, 1, 1, 38036, 38034, 38035, 21014),
  (⟨"UtilityWorksModel", "report", "(I)I"⟩, prog_14_method_345_code, 3, some .int, 12, 1, 1, 38040, 38038, 38039, 21014)]
def mt_27 : List mt_T := [(⟨"java/lang/Math", "floorMod", "(II)I"⟩, prog_20_method_50_code, 3, some .int, 16, 0, 2, 26194, 26193, 0, 21021)]
def mt_row : Nat → List mt_T := fun i => match i with
  | 0 => mt_0
  | 1 => mt_1
  | 2 => mt_2
  | 3 => mt_3
  | 4 => mt_4
  | 5 => mt_5
  | 6 => mt_6
  | 7 => mt_7
  | 8 => mt_8
  | 9 => mt_9
  | 10 => mt_10
  | 11 => mt_11
  | 12 => mt_12
  | 13 => mt_13
  | 14 => mt_14
  | 15 => mt_15
  | 16 => mt_16
  | 17 => mt_17
  | 18 => mt_18
  | 19 => mt_19
  | 20 => mt_20
  | 21 => mt_21
  | 22 => mt_22
  | 23 => mt_23
  | 24 => mt_24
  | 25 => mt_25
  | 26 => mt_26
  | 27 => mt_27
  | _ => []
def mt_at (i : Nat) : Option mt_T := (mt_row (i / 25))[i % 25]?
def by_eq : List UInt8 → List UInt8 → Bool
  | [], [] => true
  | a :: r, b :: w => Nat.beq a.toNat b.toNat && by_eq r w
  | _, _ => false
theorem by_eq_eq : ∀ {a b : List UInt8}, by_eq a b = true → a = b
  | [], [], _ => rfl
  | a :: r, b :: w, h => by
    rw [by_eq, Bool.and_eq_true] at h
    rw [UInt8.toNat_inj.mp (Nat.eq_of_beq_eq_true h.1), by_eq_eq h.2]
  | [], _ :: _, h => by cases h
  | _ :: _, [], h => by cases h
/-- the word of a method's bytes -/
def lk_code (y : MethodName) (cc : ByteArray) (maxL : Nat) (ret : Option FieldType) (pl : Nat) : Bool := match lk_get pl with
  | some (.code x b n r) => decide (x = y) && by_eq b.data.toList cc.data.toList && decide (n = maxL) && decide (r = ret)
  | _ => false
theorem lk_code_in {y : MethodName} {cc : ByteArray} {maxL : Nat} {ret : Option FieldType} {pl : Nat} (h : lk_code y cc maxL ret pl = true) : Cond.code y cc maxL ret ∈ fw_AW := by
  unfold lk_code at h
  split at h
  · rename_i x b n r hw
    simp only [Bool.and_eq_true, decide_eq_true_eq] at h
    obtain ⟨⟨⟨h1, h2⟩, h3⟩, h4⟩ := h
    have hb : b = cc := by
      obtain ⟨⟨b⟩⟩ := b
      obtain ⟨⟨d⟩⟩ := cc
      have := by_eq_eq h2
      dsimp only at this
      rw [this]
    subst h1 hb h3 h4
    exact List.mem_filter.mpr ⟨lk_get_in hw, rfl⟩
  · cases h
def mt_b (q : mt_T) : Bool := lk_code q.1 q.2.1 q.2.2.1 q.2.2.2.1 q.2.2.2.2.2.2.2.1 && lk_chk (.initialized q.1.cls) q.2.2.2.2.2.2.2.2.2.2 && decide (q.1.cls ≠ "java/lang/invoke/MethodHandle") && decide (q.1.cls ≠ "java/lang/invoke/VarHandle") &&
  decide ((parseMethodDescriptor q.1.desc).map (fun d => d.parameters.length) = some q.2.2.2.2.2.2.1) && plainFor q.1 && decide (q.1.cls = lk_own q.2.2.2.2.1) &&
  (if q.2.2.2.2.2.1 = 0 then lk_chk (.static q.1) q.2.2.2.2.2.2.2.2.1 else lk_chk (.instanceMethod q.1) q.2.2.2.2.2.2.2.2.1 && lk_chk (.selects q.1.cls q.1 q.1) q.2.2.2.2.2.2.2.2.2.1 && decide ((vwCl[q.2.2.2.2.1]?).map (fun c => c.1) = some q.1.cls))
theorem mt_0_ok : mt_0.all mt_b = true := by decide +kernel
theorem mt_1_ok : mt_1.all mt_b = true := by decide +kernel
theorem mt_2_ok : mt_2.all mt_b = true := by decide +kernel
theorem mt_3_ok : mt_3.all mt_b = true := by decide +kernel
theorem mt_4_ok : mt_4.all mt_b = true := by decide +kernel
theorem mt_5_ok : mt_5.all mt_b = true := by decide +kernel
theorem mt_6_ok : mt_6.all mt_b = true := by decide +kernel
theorem mt_7_ok : mt_7.all mt_b = true := by decide +kernel
theorem mt_8_ok : mt_8.all mt_b = true := by decide +kernel
theorem mt_9_ok : mt_9.all mt_b = true := by decide +kernel
theorem mt_10_ok : mt_10.all mt_b = true := by decide +kernel
theorem mt_11_ok : mt_11.all mt_b = true := by decide +kernel
theorem mt_12_ok : mt_12.all mt_b = true := by decide +kernel
theorem mt_13_ok : mt_13.all mt_b = true := by decide +kernel
theorem mt_14_ok : mt_14.all mt_b = true := by decide +kernel
theorem mt_15_ok : mt_15.all mt_b = true := by decide +kernel
theorem mt_16_ok : mt_16.all mt_b = true := by decide +kernel
theorem mt_17_ok : mt_17.all mt_b = true := by decide +kernel
theorem mt_18_ok : mt_18.all mt_b = true := by decide +kernel
theorem mt_19_ok : mt_19.all mt_b = true := by decide +kernel
theorem mt_20_ok : mt_20.all mt_b = true := by decide +kernel
theorem mt_21_ok : mt_21.all mt_b = true := by decide +kernel
theorem mt_22_ok : mt_22.all mt_b = true := by decide +kernel
theorem mt_23_ok : mt_23.all mt_b = true := by decide +kernel
theorem mt_24_ok : mt_24.all mt_b = true := by decide +kernel
theorem mt_25_ok : mt_25.all mt_b = true := by decide +kernel
theorem mt_26_ok : mt_26.all mt_b = true := by decide +kernel
theorem mt_27_ok : mt_27.all mt_b = true := by decide +kernel
theorem mt_row_ok : ∀ i, ∀ q ∈ mt_row i, mt_b q = true := by
  intro i q hq
  match i with
  | 0 => exact List.all_eq_true.mp mt_0_ok q hq
  | 1 => exact List.all_eq_true.mp mt_1_ok q hq
  | 2 => exact List.all_eq_true.mp mt_2_ok q hq
  | 3 => exact List.all_eq_true.mp mt_3_ok q hq
  | 4 => exact List.all_eq_true.mp mt_4_ok q hq
  | 5 => exact List.all_eq_true.mp mt_5_ok q hq
  | 6 => exact List.all_eq_true.mp mt_6_ok q hq
  | 7 => exact List.all_eq_true.mp mt_7_ok q hq
  | 8 => exact List.all_eq_true.mp mt_8_ok q hq
  | 9 => exact List.all_eq_true.mp mt_9_ok q hq
  | 10 => exact List.all_eq_true.mp mt_10_ok q hq
  | 11 => exact List.all_eq_true.mp mt_11_ok q hq
  | 12 => exact List.all_eq_true.mp mt_12_ok q hq
  | 13 => exact List.all_eq_true.mp mt_13_ok q hq
  | 14 => exact List.all_eq_true.mp mt_14_ok q hq
  | 15 => exact List.all_eq_true.mp mt_15_ok q hq
  | 16 => exact List.all_eq_true.mp mt_16_ok q hq
  | 17 => exact List.all_eq_true.mp mt_17_ok q hq
  | 18 => exact List.all_eq_true.mp mt_18_ok q hq
  | 19 => exact List.all_eq_true.mp mt_19_ok q hq
  | 20 => exact List.all_eq_true.mp mt_20_ok q hq
  | 21 => exact List.all_eq_true.mp mt_21_ok q hq
  | 22 => exact List.all_eq_true.mp mt_22_ok q hq
  | 23 => exact List.all_eq_true.mp mt_23_ok q hq
  | 24 => exact List.all_eq_true.mp mt_24_ok q hq
  | 25 => exact List.all_eq_true.mp mt_25_ok q hq
  | 26 => exact List.all_eq_true.mp mt_26_ok q hq
  | 27 => exact List.all_eq_true.mp mt_27_ok q hq
  | n + 28 => cases hq
theorem mt_at_ok {i : Nat} {q : mt_T} (h : mt_at i = some q) : mt_b q = true := mt_row_ok _ q (List.mem_of_getElem? h)
def lkm_0 : List lk_F := [(47, 1, 8, 22167), (51, 2, 188, 27203), (55, 2, 190, 27204), (66, 2, 195, 27205), (70, 2, 45, 27209), (74, 1, 77, 25013), (78, 1, 76, 25009), (82, 1, 172, 27091), (86, 1, 160, 27032), (89, 13, 0, 27088), (101, 14, 0, 27075), (104, 1, 159, 27028), (116, 1, 166, 27058), (122, 1, 153, 27066), (126, 1, 167, 27062), (134, 1, 168, 27067), (143, 1, 163, 27045), (147, 1, 165, 27054), (151, 1, 164, 27050), (154, 1, 170, 27078), (157, 1, 171, 27083), (163, 1, 175, 27103), (173, 1, 174, 27099), (183, 1, 176, 27110), (186, 1, 177, 27114), (193, 1, 158, 27023), (197, 1, 161, 27036), (200, 1, 162, 27041), (204, 1, 173, 27095), (207, 1, 75, 25005)]
def lkm_1 : List lk_F := [(19, 1, 9, 22222), (27, 2, 188, 27214), (34, 1, 81, 25030), (38, 2, 1, 25025), (42, 1, 80, 25026), (68, 1, 126, 26111), (72, 1, 127, 26116), (86, 1, 124, 26101), (94, 1, 14, 26105), (103, 1, 15, 26106), (107, 1, 125, 26107), (111, 1, 128, 26120), (115, 1, 129, 26124), (123, 1, 109, 26203), (132, 1, 50, 26128), (142, 1, 130, 26130), (145, 1, 131, 26134), (149, 1, 132, 26141), (153, 1, 137, 26161), (160, 1, 139, 26169), (168, 1, 140, 26175), (172, 1, 108, 26138), (175, 1, 38, 26139), (179, 1, 31, 26140), (185, 1, 133, 26145), (189, 1, 138, 26165), (195, 1, 141, 26179), (198, 1, 142, 26183), (202, 1, 0, 26187), (206, 1, 143, 26188), (209, 1, 144, 26195), (212, 1, 145, 26199)]
def lkm_2 : List lk_F := [(26, 1, 7, 22124), (34, 2, 188, 27197), (38, 2, 45, 27198), (42, 0, 6, 22128), (48, 1, 153, 29231), (52, 0, 675, 26192), (58, 1, 169, 27071), (61, 1, 168, 27082), (70, 1, 59, 27012), (76, 1, 26, 27013), (88, 1, 156, 27014), (106, 2, 1, 27018), (110, 1, 72, 24233)]
def lkm_3 : List lk_F := [(29, 1, 0, 21091), (39, 2, 188, 27167), (43, 2, 45, 27171), (47, 2, 1, 21095), (51, 1, 20, 23222), (55, 1, 38, 26032), (58, 1, 31, 26033), (67, 1, 19, 25075), (71, 1, 15, 23196), (84, 1, 90, 25071), (88, 2, 91, 25076), (92, 1, 122, 31003), (95, 1, 135, 26153), (98, 1, 134, 26149), (102, 1, 136, 26157), (111, 1, 208, 28040), (115, 1, 209, 28044), (127, 1, 108, 27150), (135, 1, 109, 27151), (141, 1, 13, 23188), (148, 1, 14, 23192)]
def lkm_4 : List lk_F := [(54, 1, 5, 22050), (58, 0, 6, 22054), (68, 2, 188, 27191), (72, 2, 45, 24216), (76, 2, 190, 27192), (80, 2, 24, 24082), (90, 1, 59, 24166), (102, 1, 60, 24171), (106, 1, 61, 24177), (119, 1, 26, 24182), (122, 2, 42, 24183), (130, 1, 30, 24184), (137, 1, 62, 24186), (141, 1, 65, 24202), (145, 1, 67, 24212), (155, 1, 44, 24175), (168, 1, 40, 24176), (171, 10, 0, 24181), (180, 1, 19, 24190), (187, 1, 15, 24191), (196, 1, 50, 24192), (199, 1, 63, 24193), (203, 1, 64, 24197), (209, 11, 0, 24201), (212, 1, 66, 24206), (224, 1, 152, 26236), (227, 2, 1, 26235), (231, 1, 58, 26234), (235, 1, 153, 27000), (238, 1, 154, 27004), (244, 1, 69, 24221)]
def lkm_5 : List lk_F := [(58, 1, 2, 21133), (66, 2, 188, 27176), (70, 2, 45, 27177), (74, 2, 190, 27178), (84, 1, 20, 23233), (89, 1, 22, 23234), (93, 1, 23, 23239), (96, 1, 27, 24014), (99, 1, 28, 24021), (102, 1, 29, 24025), (115, 0, 6, 23238), (124, 1, 15, 23227), (146, 2, 24, 24003), (150, 1, 25, 24006), (173, 1, 26, 24010), (180, 10, 0, 24018), (194, 12, 0, 24029), (197, 1, 30, 24032), (201, 1, 227, 28166), (204, 1, 228, 28170), (213, 1, 236, 28218), (217, 1, 105, 28222), (221, 2, 1, 26211), (225, 1, 21, 23229), (228, 0, 237, 28223), (233, 1, 43, 26208), (237, 1, 44, 26209), (251, 1, 18, 23214), (255, 1, 31, 24036), (258, 1, 32, 24040), (262, 1, 19, 23218)]
def lkm_6 : List lk_F := [(40, 2, 188, 27224), (44, 2, 45, 27225), (48, 11, 0, 24170), (55, 1, 116, 26063), (59, 2, 1, 26096), (63, 1, 323, 31082), (66, 1, 319, 31063), (70, 12, 0, 26086), (74, 1, 120, 26082), (78, 1, 119, 26078), (86, 1, 117, 26068), (95, 1, 30, 26072), (102, 1, 118, 26074), (109, 1, 121, 26088), (113, 1, 122, 26092)]
def lkm_7 : List lk_F := [(23, 2, 188, 27219), (27, 1, 182, 27135), (50, 1, 109, 27145), (58, 1, 179, 27122), (62, 1, 180, 27127), (66, 1, 181, 27131), (70, 1, 183, 27141), (74, 10, 0, 27126)]
def lkm_8 : List lk_F := [(95, 1, 187, 27163), (99, 1, 189, 27172), (102, 1, 191, 27181), (105, 1, 192, 27187), (108, 1, 193, 27193), (111, 1, 194, 27199), (114, 1, 196, 27210), (117, 1, 197, 27215), (120, 1, 198, 27220), (123, 1, 21, 24052), (127, 1, 35, 24053), (128, 1, 58, 24162), (129, 1, 57, 29096), (136, 2, 45, 29097), (140, 1, 30, 29098), (144, 2, 91, 29099), (148, 1, 59, 25058), (158, 1, 26, 25059), (164, 2, 1, 25060), (168, 1, 87, 25054), (171, 1, 89, 25065), (175, 1, 92, 25079), (179, 1, 86, 25050), (186, 1, 88, 25061)]
def lkm_9 : List lk_F := [(63, 1, 3, 21209), (67, 1, 4, 21213), (75, 2, 188, 27185), (82, 2, 45, 24103), (86, 2, 190, 27186), (98, 1, 44, 24096), (102, 1, 38, 24066), (107, 1, 30, 24070), (120, 1, 36, 24057), (128, 1, 41, 24084), (132, 1, 43, 24092), (136, 11, 0, 24100), (142, 0, 6, 24061), (148, 1, 46, 24110), (152, 1, 51, 24133), (155, 1, 37, 24062), (159, 1, 39, 24071), (163, 1, 20, 24077), (178, 1, 40, 24078), (192, 1, 26, 24083), (194, 2, 42, 24088), (199, 1, 47, 24115), (203, 1, 49, 24124), (219, 1, 48, 24119), (222, 1, 15, 24123), (229, 1, 50, 24128), (232, 10, 0, 24132), (238, 1, 52, 24137), (244, 2, 1, 26221), (248, 1, 149, 26222), (251, 1, 35, 26216), (254, 1, 148, 26217), (267, 1, 150, 26226), (274, 1, 54, 24145), (280, 1, 55, 24150)]
def lkm_10 : List lk_F := []
def lkm_11 : List lk_F := [(20, 0, 97, 25114), (24, 0, 98, 25117), (27, 0, 99, 25120), (31, 0, 100, 25186), (35, 0, 101, 25189), (42, 1, 102, 25207), (48, 1, 31, 25219), (52, 0, 104, 25220), (55, 1, 30, 25238), (63, 1, 105, 25239), (67, 0, 1, 26003), (71, 0, 91, 26011), (75, 1, 108, 26019), (78, 1, 0, 26023), (86, 1, 109, 26024), (92, 1, 110, 26028), (96, 0, 113, 26048), (99, 1, 90, 26051), (111, 1, 115, 26059), (121, 1, 123, 26097), (128, 1, 146, 26204), (135, 1, 147, 26212), (142, 1, 151, 26230), (149, 1, 155, 27008), (152, 1, 157, 27019), (157, 1, 178, 27118), (160, 1, 184, 27146), (161, 1, 186, 27159), (164, 1, 201, 28000), (168, 1, 202, 28004), (172, 1, 11, 23180), (176, 1, 16, 23206), (179, 1, 33, 24044), (182, 1, 56, 24154), (185, 1, 70, 24225), (188, 1, 73, 24237), (191, 1, 78, 25017), (194, 1, 83, 25038), (205, 1, 207, 28036), (209, 1, 212, 28062), (215, 1, 214, 28073), (218, 1, 136, 28077), (221, 11, 0, 28085), (227, 1, 135, 28093), (230, 1, 134, 28101), (233, 1, 141, 28102), (243, 1, 14, 28119), (247, 1, 15, 28120), (256, 1, 50, 28128), (262, 1, 12, 23184), (272, 0, 222, 28136), (276, 1, 2, 28139), (279, 1, 21, 28154), (285, 1, 226, 28162), (295, 1, 32, 28188), (302, 1, 233, 28203), (308, 1, 235, 28214), (321, 1, 17, 23210), (328, 1, 3, 29003), (337, 1, 4, 29011), (341, 1, 34, 24048), (344, 1, 245, 29040), (348, 1, 247, 29051), (351, 1, 249, 29062), (354, 1, 251, 29073), (355, 1, 55, 29084), (358, 1, 254, 29092), (361, 1, 256, 29107), (364, 1, 54, 29118), (369, 1, 53, 24141), (374, 1, 5, 29126), (375, 1, 138, 29134), (378, 1, 139, 29135), (381, 1, 57, 24158), (384, 1, 262, 29150), (387, 1, 264, 29161), (390, 1, 266, 29172), (398, 1, 152, 29190), (401, 1, 69, 25091), (405, 1, 68, 24217), (407, 1, 7, 29212), (413, 1, 274, 29227), (417, 1, 169, 30006), (420, 1, 166, 30007), (423, 1, 143, 30036), (426, 1, 170, 30044), (429, 1, 72, 30052), (432, 1, 284, 30060), (435, 1, 71, 24229), (441, 1, 287, 30079), (444, 1, 76, 30083), (448, 1, 175, 30098), (451, 1, 290, 30099), (455, 1, 159, 30103), (459, 1, 292, 30111), (476, 1, 77, 30145), (480, 1, 164, 30153), (484, 1, 174, 30161), (487, 1, 75, 30169), (490, 1, 74, 25001), (492, 1, 9, 30177), (495, 1, 302, 30185), (499, 1, 124, 30203), (502, 1, 177, 30211), (511, 1, 81, 30226), (514, 1, 80, 30227), (517, 1, 309, 30235), (520, 1, 310, 30239), (524, 1, 125, 31004), (527, 1, 181, 31012), (531, 1, 183, 31013), (535, 1, 180, 31028), (548, 1, 79, 25021), (549, 1, 82, 25034), (567, 1, 318, 31059), (570, 1, 320, 31067), (576, 1, 322, 31078), (579, 1, 319, 31093), (585, 1, 119, 31101), (588, 1, 87, 25083), (591, 1, 38, 31109), (594, 1, 327, 31110), (597, 1, 85, 25046), (607, 1, 84, 25042), (617, 10, 0, 24106), (626, 0, 45, 27170), (630, 0, 190, 27208), (634, 0, 6, 24091)]
def lkm_12 : List lk_F := [(183, 1, 330, 31134), (186, 1, 332, 31142), (189, 1, 333, 31146), (192, 1, 334, 31150), (195, 1, 335, 31154), (198, 1, 341, 31176), (201, 1, 343, 31185), (204, 1, 347, 31199), (207, 1, 349, 31207), (214, 0, 353, 32190), (218, 1, 331, 31138), (222, 0, 363, 32228), (226, 0, 365, 32235), (229, 1, 357, 32204), (233, 1, 356, 32200), (237, 1, 359, 32212), (240, 1, 360, 32216), (243, 1, 358, 32208), (246, 1, 364, 32231), (249, 1, 362, 32224), (253, 1, 427, 33239), (257, 0, 352, 32187), (260, 0, 354, 32193), (263, 1, 355, 32196), (267, 1, 367, 33002), (270, 1, 369, 33010), (273, 1, 370, 33014), (276, 1, 371, 33018), (280, 1, 372, 33022), (284, 1, 374, 33030), (287, 0, 376, 33038), (290, 1, 379, 33049), (293, 1, 392, 33102), (296, 1, 432, 34019), (299, 1, 459, 34126), (302, 1, 481, 34214), (305, 1, 499, 35046), (308, 1, 502, 35058), (311, 1, 523, 35147), (314, 1, 529, 35170), (317, 1, 339, 31169), (321, 1, 378, 33045), (324, 1, 530, 35174), (327, 1, 419, 33207), (330, 1, 535, 35194), (334, 1, 536, 35198), (337, 1, 537, 35202), (340, 1, 541, 35219), (343, 1, 544, 35231), (346, 1, 546, 35239), (349, 1, 548, 36007), (352, 1, 549, 36011), (355, 1, 420, 33211), (358, 1, 418, 33203), (361, 1, 417, 33199), (364, 1, 389, 33090), (367, 1, 564, 36071), (370, 1, 565, 36075), (373, 1, 480, 34210), (376, 1, 563, 36067), (380, 1, 568, 36087), (383, 1, 425, 33231), (386, 1, 426, 33235), (389, 1, 405, 33153), (392, 1, 404, 33149), (395, 0, 409, 33169), (398, 1, 408, 33165), (401, 1, 403, 33145), (404, 1, 407, 33161), (407, 1, 440, 34051), (410, 1, 451, 34095), (413, 1, 452, 34099), (416, 1, 448, 34083), (422, 1, 439, 34047), (425, 1, 441, 34055), (428, 1, 442, 34059), (431, 1, 443, 34063), (434, 1, 444, 34067), (437, 1, 445, 34071), (440, 1, 446, 34075), (443, 1, 447, 34079), (446, 1, 449, 34087), (449, 1, 402, 33141), (452, 1, 450, 34091), (455, 1, 454, 34107), (458, 1, 437, 34039), (461, 1, 438, 34043), (464, 1, 453, 34103), (467, 0, 456, 34115), (482, 1, 434, 34027), (485, 1, 436, 34035), (488, 1, 455, 34111), (491, 1, 457, 34118), (494, 1, 433, 34023), (497, 1, 458, 34122), (500, 1, 390, 33094), (503, 1, 578, 36128), (506, 1, 581, 36140), (509, 1, 587, 36164), (512, 1, 588, 36168), (515, 0, 589, 36172), (518, 1, 348, 31203), (522, 1, 473, 34182), (525, 1, 472, 34178), (528, 1, 471, 34174), (537, 1, 475, 34190), (540, 1, 463, 34142), (543, 1, 464, 34146), (549, 1, 466, 34154), (552, 1, 467, 34158), (555, 1, 468, 34162), (558, 1, 469, 34166), (561, 1, 477, 34198), (564, 1, 461, 34134), (567, 1, 462, 34138), (570, 1, 465, 34150), (573, 1, 470, 34170), (576, 1, 474, 34186), (579, 1, 476, 34194), (582, 1, 460, 34130), (585, 1, 478, 34202), (588, 1, 479, 34206), (591, 1, 592, 36184), (594, 1, 597, 36204), (597, 1, 538, 35206), (600, 1, 540, 35215), (603, 1, 555, 36035), (606, 1, 604, 36232), (609, 1, 557, 36043), (612, 1, 539, 35211), (618, 1, 484, 34226), (621, 1, 486, 34234), (624, 1, 489, 35006), (627, 1, 493, 35022), (630, 1, 494, 35026), (633, 1, 492, 35018), (636, 1, 491, 35014), (645, 1, 483, 34222), (648, 1, 485, 34230), (651, 1, 487, 34238), (654, 1, 488, 35002), (657, 1, 490, 35010), (660, 1, 495, 35030), (663, 1, 496, 35034), (666, 1, 482, 34218), (669, 1, 497, 35038), (672, 1, 498, 35042), (675, 1, 421, 33215), (678, 1, 422, 33219), (681, 1, 542, 35223), (684, 1, 612, 37025), (687, 1, 543, 35227), (690, 0, 338, 31166), (693, 0, 340, 31173), (696, 1, 337, 31162), (699, 1, 336, 31158), (702, 1, 435, 34031), (705, 1, 500, 35050), (708, 1, 501, 35054), (711, 1, 429, 34007), (714, 1, 512, 35098), (717, 1, 511, 35094), (720, 1, 622, 37066), (723, 0, 623, 37070), (726, 1, 621, 37062), (729, 1, 625, 37077), (732, 1, 428, 34003), (735, 1, 513, 35103), (738, 1, 545, 35235), (741, 1, 342, 31180), (746, 0, 413, 33184), (749, 0, 507, 35078), (752, 1, 522, 35143), (756, 1, 504, 35066), (760, 1, 505, 35070), (765, 1, 510, 35090), (774, 1, 509, 35086), (779, 1, 514, 35108), (789, 1, 516, 35116), (792, 1, 517, 35123), (795, 1, 518, 35127), (798, 1, 520, 35135), (802, 1, 412, 33180), (805, 1, 521, 35139), (808, 1, 503, 35062), (811, 1, 506, 35074), (814, 1, 508, 35082), (817, 1, 515, 35112), (821, 1, 640, 37139), (824, 1, 547, 36003), (827, 0, 345, 31193), (830, 1, 344, 31189), (833, 0, 346, 31196), (836, 0, 394, 33110), (839, 1, 519, 35131), (842, 1, 401, 33137), (845, 1, 399, 33129), (848, 1, 393, 33106), (851, 1, 400, 33133), (854, 1, 398, 33125), (857, 1, 397, 33121), (860, 1, 416, 33195), (863, 1, 430, 34011), (866, 1, 431, 34015), (869, 1, 411, 33176), (872, 1, 414, 33187), (875, 1, 415, 33191), (878, 1, 423, 33223), (881, 1, 424, 33227), (884, 1, 395, 33113), (887, 1, 396, 33117), (890, 1, 406, 33157), (893, 1, 410, 33172), (896, 0, 527, 35163), (899, 1, 524, 35151), (902, 1, 525, 35155), (905, 1, 526, 35159), (908, 1, 528, 35166), (911, 1, 650, 37180), (914, 1, 657, 37208), (917, 1, 391, 33098), (920, 0, 659, 37216), (923, 1, 384, 33070), (926, 1, 383, 33066), (929, 1, 388, 33086), (933, 1, 381, 33057), (936, 1, 387, 33082), (939, 1, 386, 33078), (942, 1, 380, 33053), (945, 1, 382, 33062), (948, 1, 385, 33074), (952, 1, 666, 38005), (955, 1, 551, 36019), (958, 1, 550, 36015), (961, 1, 556, 36039), (964, 1, 553, 36027), (967, 1, 554, 36031), (970, 1, 558, 36047), (974, 1, 552, 36023)]
def lkm_13 : List lk_F := [(7, 1, 96, 25110), (17, 1, 103, 25215), (23, 1, 106, 26007), (26, 1, 107, 26015), (29, 1, 111, 26037), (33, 1, 112, 26044), (37, 1, 114, 26055), (41, 1, 185, 27155), (44, 1, 199, 27229), (47, 1, 200, 27236), (50, 1, 203, 28011), (54, 1, 204, 28018), (57, 1, 205, 28025), (60, 1, 206, 28032), (63, 1, 210, 28051), (66, 1, 211, 28058), (70, 1, 213, 28069), (73, 1, 215, 28081), (76, 1, 216, 28089), (79, 1, 217, 28097), (83, 1, 218, 28106), (86, 1, 219, 28115), (89, 1, 220, 28124), (92, 1, 221, 28132), (95, 1, 223, 28143), (99, 1, 224, 28150), (102, 1, 225, 28158), (105, 1, 229, 28177), (108, 1, 230, 28184), (111, 1, 231, 28192), (114, 1, 232, 28199), (117, 1, 234, 28210), (120, 1, 238, 28232), (124, 1, 239, 28239), (127, 1, 240, 29007), (130, 1, 241, 29015), (133, 1, 242, 29022), (136, 1, 243, 29029), (139, 1, 244, 29036), (142, 1, 246, 29047), (145, 1, 248, 29058), (148, 1, 250, 29069), (151, 1, 252, 29080), (154, 1, 253, 29088), (157, 1, 255, 29103), (160, 1, 257, 29114), (163, 1, 258, 29122), (166, 1, 259, 29130), (169, 1, 260, 29139), (172, 1, 261, 29146), (175, 1, 263, 29157), (178, 1, 265, 29168), (181, 1, 267, 29179), (184, 1, 268, 29186), (187, 1, 269, 29194), (190, 1, 270, 29201), (193, 1, 271, 29208), (196, 1, 272, 29216), (199, 1, 273, 29223), (202, 1, 275, 29235), (205, 1, 276, 30002), (208, 1, 277, 30011), (211, 1, 278, 30018), (214, 1, 279, 30025), (217, 1, 280, 30032), (220, 1, 281, 30040), (223, 1, 282, 30048), (226, 1, 283, 30056), (229, 1, 285, 30067), (232, 1, 286, 30074), (236, 1, 288, 30087), (239, 1, 289, 30094), (242, 1, 291, 30107), (245, 1, 293, 30120), (248, 1, 294, 30127), (251, 1, 295, 30134), (254, 1, 296, 30141), (258, 1, 297, 30149), (261, 1, 298, 30157), (264, 1, 299, 30165), (267, 1, 300, 30173), (270, 1, 301, 30181), (273, 1, 303, 30192), (276, 1, 304, 30199), (279, 1, 305, 30207), (282, 1, 306, 30215), (285, 1, 307, 30222), (288, 1, 308, 30231), (291, 1, 311, 31008), (294, 1, 312, 31017), (297, 1, 313, 31024), (300, 1, 314, 31033), (303, 1, 315, 31040), (306, 1, 316, 31047), (309, 1, 317, 31055), (312, 1, 321, 31074), (315, 1, 324, 31089), (318, 1, 325, 31097), (321, 1, 326, 31105), (324, 1, 328, 31117), (327, 1, 329, 31124), (339, 1, 351, 32183), (343, 1, 361, 32220), (346, 1, 366, 32238), (349, 1, 368, 33006), (353, 1, 373, 33026), (356, 1, 375, 33034), (360, 1, 377, 33041), (363, 1, 531, 35178), (366, 1, 532, 35182), (369, 1, 533, 35186), (370, 1, 10, 23176), (374, 1, 534, 35190), (377, 1, 559, 36051), (380, 1, 560, 36055), (383, 1, 561, 36059), (386, 1, 562, 36063), (389, 1, 566, 36079), (393, 1, 567, 36083), (396, 1, 569, 36091), (399, 1, 570, 36095), (402, 1, 571, 36099), (406, 1, 572, 36103), (409, 1, 573, 36107), (412, 1, 574, 36111), (415, 1, 575, 36115), (416, 1, 11, 25084), (419, 1, 535, 36119), (422, 1, 576, 36120), (425, 1, 577, 36124), (428, 1, 579, 36132), (431, 1, 580, 36136), (434, 1, 582, 36144), (437, 1, 583, 36148), (440, 1, 584, 36152), (443, 1, 585, 36156), (446, 1, 586, 36160), (449, 1, 590, 36175), (450, 1, 16, 25085), (453, 1, 536, 36179), (456, 1, 591, 36180), (459, 1, 593, 36188), (462, 1, 594, 36192), (465, 1, 595, 36196), (468, 1, 596, 36200), (471, 1, 598, 36208), (474, 1, 599, 36212), (477, 1, 600, 36216), (480, 1, 601, 36220), (483, 1, 602, 36224), (486, 1, 603, 36228), (489, 1, 605, 36236), (492, 1, 606, 37000), (493, 1, 33, 25086), (496, 1, 537, 37004), (499, 1, 607, 37005), (502, 1, 608, 37009), (505, 1, 609, 37013), (508, 1, 610, 37017), (511, 1, 611, 37021), (514, 1, 613, 37029), (517, 1, 614, 37033), (520, 1, 615, 37037), (521, 1, 93, 25087), (525, 1, 616, 37041), (528, 1, 617, 37045), (531, 1, 618, 37049), (532, 1, 56, 25092), (535, 1, 541, 37053), (538, 1, 619, 37054), (541, 1, 620, 37058), (544, 1, 624, 37073), (547, 1, 626, 37081), (550, 1, 627, 37085), (553, 1, 628, 37089), (556, 1, 629, 37093), (559, 1, 630, 37097), (562, 1, 631, 37101), (565, 1, 632, 37105), (568, 1, 633, 37109), (571, 1, 634, 37113), (572, 1, 70, 25093), (575, 1, 544, 37117), (578, 1, 635, 37118), (581, 1, 636, 37122), (584, 1, 637, 37127), (587, 1, 638, 37131), (590, 1, 639, 37135), (593, 1, 641, 37143), (596, 1, 642, 37147), (599, 1, 643, 37151), (602, 1, 644, 37155), (605, 1, 645, 37159), (608, 1, 646, 37163), (611, 1, 647, 37167), (612, 1, 73, 25094), (615, 1, 546, 37171), (618, 1, 648, 37172), (621, 1, 649, 37176), (624, 1, 651, 37184), (627, 1, 652, 37188), (630, 1, 653, 37192), (633, 1, 654, 37196), (636, 1, 655, 37200), (639, 1, 656, 37204), (642, 1, 658, 37212), (645, 1, 660, 37219), (648, 1, 661, 37223), (651, 1, 662, 37227), (652, 1, 78, 25095), (655, 1, 548, 37231), (658, 1, 663, 37232), (659, 1, 350, 32179), (664, 1, 664, 37236), (667, 1, 665, 38001), (668, 1, 94, 25096), (672, 1, 667, 38009), (675, 1, 668, 38013), (678, 1, 669, 38017), (681, 1, 670, 38021), (682, 1, 95, 25100), (685, 1, 671, 38025), (688, 1, 672, 38029), (691, 1, 673, 38033), (694, 1, 674, 38037), (695, 1, 83, 25104), (698, 1, 549, 38041)]
def lkm : Nat → List lk_F := fun i => match i with
  | 0 => lkm_0
  | 1 => lkm_1
  | 2 => lkm_2
  | 3 => lkm_3
  | 4 => lkm_4
  | 5 => lkm_5
  | 6 => lkm_6
  | 7 => lkm_7
  | 8 => lkm_8
  | 9 => lkm_9
  | 10 => lkm_10
  | 11 => lkm_11
  | 12 => lkm_12
  | 13 => lkm_13
  | _ => []
def lkm_b (oc : Nat) (q : lk_F) : Bool := match q.2.1 with
  | 0 => (match mt_at q.2.2.1 with | some y => decide (y.2.2.2.2.2.1 = 0) && lk_chk (.methodLink (lk_own oc) q.1 y.1) q.2.2.2 | none => false)
  | 1 => (match mt_at q.2.2.1 with | some y => decide (y.2.2.2.2.2.1 = 1) && lk_chk (.methodLink (lk_own oc) q.1 y.1) q.2.2.2 | none => false)
  | 2 => (match mt_at q.2.2.1 with | some y => decide (y.2.2.2.2.2.1 = 0) && lk_at (.methodLinkNest (lk_own oc) q.1 y.1 "UtilityWorks") q.2.2.2 | none => false)
  | 10 => lk_chk (.methodLink (lk_own oc) q.1 Lib.Math.min.name) q.2.2.2
  | 11 => lk_chk (.methodLink (lk_own oc) q.1 Lib.Math.max.name) q.2.2.2
  | 12 => lk_chk (.methodLink (lk_own oc) q.1 Lib.Math.abs.name) q.2.2.2
  | 13 => lk_chk (.methodLink (lk_own oc) q.1 Lib.MathLoose.min_long.x) q.2.2.2
  | 14 => lk_chk (.methodLink (lk_own oc) q.1 Lib.MathLoose.max_long.x) q.2.2.2
  | _ => false
theorem lkm_0_ok : lkm_0.all (lkm_b 0) = true := by decide +kernel
theorem lkm_1_ok : lkm_1.all (lkm_b 1) = true := by decide +kernel
theorem lkm_2_ok : lkm_2.all (lkm_b 2) = true := by decide +kernel
theorem lkm_3_ok : lkm_3.all (lkm_b 3) = true := by decide +kernel
theorem lkm_4_ok : lkm_4.all (lkm_b 4) = true := by decide +kernel
theorem lkm_5_ok : lkm_5.all (lkm_b 5) = true := by decide +kernel
theorem lkm_6_ok : lkm_6.all (lkm_b 6) = true := by decide +kernel
theorem lkm_7_ok : lkm_7.all (lkm_b 7) = true := by decide +kernel
theorem lkm_8_ok : lkm_8.all (lkm_b 8) = true := by decide +kernel
theorem lkm_9_ok : lkm_9.all (lkm_b 9) = true := by decide +kernel
theorem lkm_10_ok : lkm_10.all (lkm_b 10) = true := by decide +kernel
theorem lkm_11_ok : lkm_11.all (lkm_b 11) = true := by decide +kernel
theorem lkm_12_ok : lkm_12.all (lkm_b 12) = true := by decide +kernel
theorem lkm_13_ok : lkm_13.all (lkm_b 13) = true := by decide +kernel
theorem lkm_ok : ∀ oc, ∀ q ∈ lkm oc, lkm_b oc q = true := by
  intro oc q hq
  match oc with
  | 0 => exact List.all_eq_true.mp lkm_0_ok q hq
  | 1 => exact List.all_eq_true.mp lkm_1_ok q hq
  | 2 => exact List.all_eq_true.mp lkm_2_ok q hq
  | 3 => exact List.all_eq_true.mp lkm_3_ok q hq
  | 4 => exact List.all_eq_true.mp lkm_4_ok q hq
  | 5 => exact List.all_eq_true.mp lkm_5_ok q hq
  | 6 => exact List.all_eq_true.mp lkm_6_ok q hq
  | 7 => exact List.all_eq_true.mp lkm_7_ok q hq
  | 8 => exact List.all_eq_true.mp lkm_8_ok q hq
  | 9 => exact List.all_eq_true.mp lkm_9_ok q hq
  | 10 => exact List.all_eq_true.mp lkm_10_ok q hq
  | 11 => exact List.all_eq_true.mp lkm_11_ok q hq
  | 12 => exact List.all_eq_true.mp lkm_12_ok q hq
  | 13 => exact List.all_eq_true.mp lkm_13_ok q hq
  | n + 14 => cases hq
theorem lk_min_s : Cond.static Lib.Math.min.name ∈ fw_AW := lk_chk_in (pl := 24019) (by decide +kernel)
theorem lk_min_c : Cond.code Lib.Math.min.name Lib.Math.min.code 2 (some .int) ∈ fw_AW := lk_code_in (pl := 24020) (by decide +kernel)
theorem lk_max_s : Cond.static Lib.Math.max.name ∈ fw_AW := lk_chk_in (pl := 24101) (by decide +kernel)
theorem lk_max_c : Cond.code Lib.Math.max.name Lib.Math.max.code 2 (some .int) ∈ fw_AW := lk_code_in (pl := 24102) (by decide +kernel)
theorem lk_abs_s : Cond.static Lib.Math.abs.name ∈ fw_AW := lk_chk_in (pl := 24030) (by decide +kernel)
theorem lk_abs_c : Cond.code Lib.Math.abs.name Lib.Math.abs.code 1 (some .int) ∈ fw_AW := lk_code_in (pl := 24031) (by decide +kernel)
theorem lk_lmin_s : Cond.static Lib.MathLoose.min_long.x ∈ fw_AW := lk_chk_in (pl := 27089) (by decide +kernel)
theorem lk_lmin_c : Cond.code Lib.MathLoose.min_long.x Lib.MathLoose.min_long.code 4 (some .long) ∈ fw_AW := lk_code_in (pl := 27090) (by decide +kernel)
theorem lk_lmax_s : Cond.static Lib.MathLoose.max_long.x ∈ fw_AW := lk_chk_in (pl := 27076) (by decide +kernel)
theorem lk_lmax_c : Cond.code Lib.MathLoose.max_long.x Lib.MathLoose.max_long.code 4 (some .long) ∈ fw_AW := lk_code_in (pl := 27077) (by decide +kernel)
theorem lk_math : Cond.initialized "java/lang/Math" ∈ fw_AW := lk_chk_in (pl := 21021) (by decide +kernel)
