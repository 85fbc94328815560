/-! ===== storesDay: the orders that stay move up ===== -/
/- UtilityWorksModel day -/
def kh_405 : ct_T := (339, [(2, 805, 805, 0)], [], [], [(1, (0, 0, 999, 1), [(2, 805, 805, 0)], [], ([], []))], [], 0, 0, 0)
theorem kh_405_ok : ct_ok wd_fl1 kh_405 := ct_of (ff := wd_ff1) (y := (⟨"UtilityWorksModel", "day", "()I"⟩, prog_14_method_29_code, 1, some .int, 12, 1, 0, 31172, 31171, 4011, 21014)) (Cs := []) (an := []) (ss := []) (K := 1) (fuel := 4000) wd_fl1_ok rfl (List.forall_mem_nil _) (by decide +kernel)
/- UtilityWorksModel cComes -/
def kh_406 : ct_T := (524, [(2, 805, 805, 0), (0, 0, 3, 1), (0, (-2147483648), 2147483647, 1)], [], [], [(0, (0, 0, 0, 0), [(2, 805, 805, 0), (0, 0, 3, 1), (0, (-2147483648), 2147483647, 1)], [], ([], []))], [((806, 806), (4060, 4063, 1)), ((806, 806), (4072, 4075, 1)), ((806, 806), (4076, 4079, 1))], 0, 0, 0)
theorem kh_406_ok : ct_ok wd_fl1 kh_406 := ct_of (ff := wd_ff1) (y := (⟨"UtilityWorksModel", "cComes", "(II)V"⟩, prog_14_method_295_code, 4, none, 12, 1, 2, 35154, 35153, 14014, 21014)) (Cs := []) (an := []) (ss := []) (K := 1) (fuel := 4000) wd_fl1_ok rfl (List.forall_mem_nil _) (by decide +kernel)
/- UtilityWorksModel cComing -/
def kh_407 : ct_T := (525, [(2, 805, 805, 0), (0, 0, 0, 0)], [], [], [(1, (0, (-2147483648), 2147483647, 1), [(2, 805, 805, 0), (0, 0, 0, 0)], [], ([], []))], [], 0, 0, 0)
theorem kh_407_ok : ct_ok wd_fl1 kh_407 := ct_of (ff := wd_ff1) (y := (⟨"UtilityWorksModel", "cComing", "(I)I"⟩, prog_14_method_293_code, 4, some .int, 12, 1, 1, 35158, 35157, 14015, 21014)) (Cs := []) (an := [(4, 0, ([((2, 805, 805, 0), none), ((0, 0, 0, 0), none), ((0, (-2147483648), 2147483647, 1), none), ((0, 0, 8, 1), none)], [(0, 0), (1, 1), (2, 2), (3, 3)], [], [], [], [], [], [], none), [(0, 0, 99996), (1, 3, 8), (0, 0, 99996)])]) (ss := []) (K := 3) (fuel := 4000) wd_fl1_ok rfl (List.forall_mem_nil _) (by decide +kernel)
/- UtilityWorksModel money -/
def kh_408 : ct_T := (526, [(2, 805, 805, 0)], [], [], [(1, (1, (-9223372036854775808), 9223372036854775807, 1), [(2, 805, 805, 0)], [], ([], []))], [], 0, 0, 0)
theorem kh_408_ok : ct_ok wd_fl1 kh_408 := ct_of (ff := wd_ff1) (y := (⟨"UtilityWorksModel", "money", "()J"⟩, prog_14_method_231_code, 1, some .long, 12, 1, 0, 35162, 35161, 15000, 21014)) (Cs := []) (an := []) (ss := []) (K := 1) (fuel := 4000) wd_fl1_ok rfl (List.forall_mem_nil _) (by decide +kernel)
/- UtilityWorksModel cPrice -/
def kh_409 : ct_T := (527, [(0, 0, 0, 0)], [], [], [(1, (0, 400, 400, 0), [(0, 0, 0, 0)], [], ([], []))], [], 0, 0, 0)
theorem kh_409_ok : ct_ok wd_fl1 kh_409 := ct_of (ff := wd_ff1) (y := (⟨"UtilityWorksModel", "cPrice", "(I)I"⟩, prog_14_method_271_code, 1, some .int, 12, 0, 1, 35165, 35164, 0, 21014)) (Cs := []) (an := []) (ss := []) (K := 1) (fuel := 4000) wd_fl1_ok rfl (List.forall_mem_nil _) (by decide +kernel)
/- UtilityWorksModel spends -/
def kh_410 : ct_T := (371, [(2, 805, 805, 0), (0, (-2147483648), 2147483647, 1)], [], [], [(0, (0, 0, 0, 0), [(2, 805, 805, 0), (0, (-2147483648), 2147483647, 1)], [], ([], []))], [((807, 807), (2860, 2860, 0)), ((807, 807), (2865, 2865, 0))], 0, 0, 0)
theorem kh_410_ok : ct_ok wd_fl1 kh_410 := ct_of (ff := wd_ff1) (y := (⟨"UtilityWorksModel", "spends", "(I)V"⟩, prog_14_method_232_code, 2, none, 12, 1, 1, 33021, 33020, 5014, 21014)) (Cs := []) (an := []) (ss := []) (K := 1) (fuel := 4000) wd_fl1_ok rfl (List.forall_mem_nil _) (by decide +kernel)
/- UtilityWorksModel cOrder -/
def kh_411 : ct_T := (528, [(2, 805, 805, 0), (0, 0, 0, 0), (0, (-2147483648), 2147483647, 1)], [((806, 806), (4080, 4080, 0), (0, 0, 7, 1))], [], [(0, (0, 0, 0, 0), [(2, 805, 805, 0), (0, 0, 0, 0), (0, (-2147483648), 2147483647, 1)], [((806, 806), (4080, 4080, 0), (0, 1, 8, 1))], ([], []))], [((806, 806), (4080, 4080, 0)), ((806, 806), (4081, 4102, 3)), ((806, 806), (4082, 4103, 3)), ((806, 806), (4083, 4104, 3)), ((807, 807), (2860, 2860, 0)), ((807, 807), (2865, 2865, 0)), ((807, 807), (3501, 3501, 0))], 1, 21, 0)
theorem kh_411_ok : ct_ok wd_fl1 kh_411 := ct_of (ff := wd_ff1) (y := (⟨"UtilityWorksModel", "cOrder", "(II)V"⟩, prog_14_method_294_code, 4, none, 12, 1, 2, 35169, 35168, 15001, 21014)) (Cs := [kh_405, kh_409, kh_410]) (an := []) (ss := []) (K := 1) (fuel := 4000) wd_fl1_ok rfl (List.forall_mem_cons.mpr ⟨kh_405_ok, (List.forall_mem_cons.mpr ⟨kh_409_ok, (List.forall_mem_cons.mpr ⟨kh_410_ok, (List.forall_mem_nil _)⟩)⟩)⟩) (by decide +kernel)
/- UtilityWorksModel cComing -/
def kh_412 : ct_T := (525, [(2, 805, 805, 0), (0, 0, 1, 1)], [], [], [(1, (0, (-2147483648), 2147483647, 1), [(2, 805, 805, 0), (0, 0, 1, 1)], [], ([], []))], [], 0, 0, 0)
theorem kh_412_ok : ct_ok wd_fl1 kh_412 := ct_of (ff := wd_ff1) (y := (⟨"UtilityWorksModel", "cComing", "(I)I"⟩, prog_14_method_293_code, 4, some .int, 12, 1, 1, 35158, 35157, 14015, 21014)) (Cs := []) (an := [(4, 0, ([((2, 805, 805, 0), none), ((0, 0, 1, 1), none), ((0, (-2147483648), 2147483647, 1), none), ((0, 0, 8, 1), none)], [(0, 0), (1, 1), (2, 2), (3, 3)], [], [], [], [], [], [], none), [(0, 0, 99996), (1, 3, 8), (0, 0, 99996)])]) (ss := []) (K := 3) (fuel := 4000) wd_fl1_ok rfl (List.forall_mem_nil _) (by decide +kernel)
/- UtilityWorksModel cPrice -/
def kh_413 : ct_T := (527, [(0, 0, 1, 1)], [], [], [(1, (0, 250, 400, 150), [(0, 0, 1, 1)], [], ([], []))], [], 0, 0, 0)
theorem kh_413_ok : ct_ok wd_fl1 kh_413 := ct_of (ff := wd_ff1) (y := (⟨"UtilityWorksModel", "cPrice", "(I)I"⟩, prog_14_method_271_code, 1, some .int, 12, 0, 1, 35165, 35164, 0, 21014)) (Cs := []) (an := []) (ss := []) (K := 1) (fuel := 4000) wd_fl1_ok rfl (List.forall_mem_nil _) (by decide +kernel)
/- UtilityWorksModel cOrder -/
def kh_414 : ct_T := (528, [(2, 805, 805, 0), (0, 0, 1, 1), (0, (-2147483648), 2147483647, 1)], [((806, 806), (4080, 4080, 0), (0, 0, 7, 1))], [], [(0, (0, 0, 0, 0), [(2, 805, 805, 0), (0, 0, 1, 1), (0, (-2147483648), 2147483647, 1)], [((806, 806), (4080, 4080, 0), (0, 1, 8, 1))], ([], []))], [((806, 806), (4080, 4080, 0)), ((806, 806), (4081, 4102, 3)), ((806, 806), (4082, 4103, 3)), ((806, 806), (4083, 4104, 3)), ((807, 807), (2860, 2860, 0)), ((807, 807), (2865, 2865, 0)), ((807, 807), (3501, 3501, 0))], 1, 21, 0)
theorem kh_414_ok : ct_ok wd_fl1 kh_414 := ct_of (ff := wd_ff1) (y := (⟨"UtilityWorksModel", "cOrder", "(II)V"⟩, prog_14_method_294_code, 4, none, 12, 1, 2, 35169, 35168, 15001, 21014)) (Cs := [kh_405, kh_413, kh_410]) (an := []) (ss := []) (K := 1) (fuel := 4000) wd_fl1_ok rfl (List.forall_mem_cons.mpr ⟨kh_405_ok, (List.forall_mem_cons.mpr ⟨kh_413_ok, (List.forall_mem_cons.mpr ⟨kh_410_ok, (List.forall_mem_nil _)⟩)⟩)⟩) (by decide +kernel)
/- UtilityWorksModel cComing -/
def kh_415 : ct_T := (525, [(2, 805, 805, 0), (0, 0, 2, 1)], [], [], [(1, (0, (-2147483648), 2147483647, 1), [(2, 805, 805, 0), (0, 0, 2, 1)], [], ([], []))], [], 0, 0, 0)
theorem kh_415_ok : ct_ok wd_fl1 kh_415 := ct_of (ff := wd_ff1) (y := (⟨"UtilityWorksModel", "cComing", "(I)I"⟩, prog_14_method_293_code, 4, some .int, 12, 1, 1, 35158, 35157, 14015, 21014)) (Cs := []) (an := [(4, 0, ([((2, 805, 805, 0), none), ((0, 0, 2, 1), none), ((0, (-2147483648), 2147483647, 1), none), ((0, 0, 8, 1), none)], [(0, 0), (1, 1), (2, 2), (3, 3)], [], [], [], [], [], [], none), [(0, 0, 99996), (1, 3, 8), (0, 0, 99996)])]) (ss := []) (K := 3) (fuel := 4000) wd_fl1_ok rfl (List.forall_mem_nil _) (by decide +kernel)
/- UtilityWorksModel cPrice -/
def kh_416 : ct_T := (527, [(0, 0, 2, 1)], [], [], [(1, (0, 250, 600, 50), [(0, 0, 2, 1)], [], ([], []))], [], 0, 0, 0)
theorem kh_416_ok : ct_ok wd_fl1 kh_416 := ct_of (ff := wd_ff1) (y := (⟨"UtilityWorksModel", "cPrice", "(I)I"⟩, prog_14_method_271_code, 1, some .int, 12, 0, 1, 35165, 35164, 0, 21014)) (Cs := []) (an := []) (ss := []) (K := 1) (fuel := 4000) wd_fl1_ok rfl (List.forall_mem_nil _) (by decide +kernel)
/- UtilityWorksModel cOrder -/
def kh_417 : ct_T := (528, [(2, 805, 805, 0), (0, 0, 2, 1), (0, (-2147483648), 2147483647, 1)], [((806, 806), (4080, 4080, 0), (0, 0, 7, 1))], [], [(0, (0, 0, 0, 0), [(2, 805, 805, 0), (0, 0, 2, 1), (0, (-2147483648), 2147483647, 1)], [((806, 806), (4080, 4080, 0), (0, 1, 8, 1))], ([], []))], [((806, 806), (4080, 4080, 0)), ((806, 806), (4081, 4102, 3)), ((806, 806), (4082, 4103, 3)), ((806, 806), (4083, 4104, 3)), ((807, 807), (2860, 2860, 0)), ((807, 807), (2865, 2865, 0)), ((807, 807), (3501, 3501, 0))], 1, 21, 0)
theorem kh_417_ok : ct_ok wd_fl1 kh_417 := ct_of (ff := wd_ff1) (y := (⟨"UtilityWorksModel", "cOrder", "(II)V"⟩, prog_14_method_294_code, 4, none, 12, 1, 2, 35169, 35168, 15001, 21014)) (Cs := [kh_405, kh_416, kh_410]) (an := []) (ss := []) (K := 1) (fuel := 4000) wd_fl1_ok rfl (List.forall_mem_cons.mpr ⟨kh_405_ok, (List.forall_mem_cons.mpr ⟨kh_416_ok, (List.forall_mem_cons.mpr ⟨kh_410_ok, (List.forall_mem_nil _)⟩)⟩)⟩) (by decide +kernel)
/- UtilityWorksModel cComing -/
def kh_418 : ct_T := (525, [(2, 805, 805, 0), (0, 0, 3, 1)], [], [], [(1, (0, (-2147483648), 2147483647, 1), [(2, 805, 805, 0), (0, 0, 3, 1)], [], ([], []))], [], 0, 0, 0)
theorem kh_418_ok : ct_ok wd_fl1 kh_418 := ct_of (ff := wd_ff1) (y := (⟨"UtilityWorksModel", "cComing", "(I)I"⟩, prog_14_method_293_code, 4, some .int, 12, 1, 1, 35158, 35157, 14015, 21014)) (Cs := []) (an := [(4, 0, ([((2, 805, 805, 0), none), ((0, 0, 3, 1), none), ((0, (-2147483648), 2147483647, 1), none), ((0, 0, 8, 1), none)], [(0, 0), (1, 1), (2, 2), (3, 3)], [], [], [], [], [], [], none), [(0, 0, 99996), (1, 3, 8), (0, 0, 99996)])]) (ss := []) (K := 3) (fuel := 4000) wd_fl1_ok rfl (List.forall_mem_nil _) (by decide +kernel)
/- UtilityWorksModel cPrice -/
def kh_419 : ct_T := (527, [(0, 0, 3, 1)], [], [], [(1, (0, 5, 600, 5), [(0, 0, 3, 1)], [], ([], []))], [], 0, 0, 0)
theorem kh_419_ok : ct_ok wd_fl1 kh_419 := ct_of (ff := wd_ff1) (y := (⟨"UtilityWorksModel", "cPrice", "(I)I"⟩, prog_14_method_271_code, 1, some .int, 12, 0, 1, 35165, 35164, 0, 21014)) (Cs := []) (an := []) (ss := []) (K := 1) (fuel := 4000) wd_fl1_ok rfl (List.forall_mem_nil _) (by decide +kernel)
/- UtilityWorksModel cOrder -/
def kh_420 : ct_T := (528, [(2, 805, 805, 0), (0, 0, 3, 1), (0, (-2147483648), 2147483647, 1)], [((806, 806), (4080, 4080, 0), (0, 0, 7, 1))], [], [(0, (0, 0, 0, 0), [(2, 805, 805, 0), (0, 0, 3, 1), (0, (-2147483648), 2147483647, 1)], [((806, 806), (4080, 4080, 0), (0, 1, 8, 1))], ([], []))], [((806, 806), (4080, 4080, 0)), ((806, 806), (4081, 4102, 3)), ((806, 806), (4082, 4103, 3)), ((806, 806), (4083, 4104, 3)), ((807, 807), (2860, 2860, 0)), ((807, 807), (2865, 2865, 0)), ((807, 807), (3501, 3501, 0))], 1, 21, 0)
theorem kh_420_ok : ct_ok wd_fl1 kh_420 := ct_of (ff := wd_ff1) (y := (⟨"UtilityWorksModel", "cOrder", "(II)V"⟩, prog_14_method_294_code, 4, none, 12, 1, 2, 35169, 35168, 15001, 21014)) (Cs := [kh_405, kh_419, kh_410]) (an := []) (ss := []) (K := 1) (fuel := 4000) wd_fl1_ok rfl (List.forall_mem_cons.mpr ⟨kh_405_ok, (List.forall_mem_cons.mpr ⟨kh_419_ok, (List.forall_mem_cons.mpr ⟨kh_410_ok, (List.forall_mem_nil _)⟩)⟩)⟩) (by decide +kernel)
abbrev kh_storesDay_y : mt_T := (⟨"UtilityWorksModel", "storesDay", "()V"⟩, prog_14_method_296_code, 5, none, 12, 1, 0, 35150, 35149, 14013, 21014)
def kh_storesDay : ct_T := (523, [(2, 805, 805, 0)], [], [], [(0, (0, 0, 0, 0), [(2, 805, 805, 0)], [], ([], []))], [((806, 806), (4060, 4063, 1)), ((806, 806), (4072, 4075, 1)), ((806, 806), (4076, 4079, 1)), ((806, 806), (4080, 4080, 0)), ((806, 806), (4081, 4104, 1)), ((807, 807), (2860, 2860, 0)), ((807, 807), (2865, 2865, 0)), ((807, 807), (3501, 3501, 0))], 2, 44, 0)
def kh_storesDay_a4 : an_T := (4, 0, ([((2, 805, 805, 0), none), ((0, 0, 8, 1), none), ((0, 0, 8, 1), none)], [(0, 0), (1, 1), (2, 2)], [], [], [], [], [], [], none), [])
def kh_storesDay_a70 : an_T := (70, 0, ([((2, 805, 805, 0), none), ((0, 0, 8, 1), none), ((0, 0, 7, 1), none)], [(0, 0), (1, 1), (2, 2)], [], [], [], [], [((806, 806), (4080, 4080, 0), (0, 1, 8, 1))], [], none), [])
def kh_storesDay_a124 : an_T := (124, 0, ([((2, 805, 805, 0), none), ((0, 0, 8, 1), none), ((0, 0, 24, 1), none)], [(0, 0), (1, 1), (2, 2)], [], [], [], [], [], [], none), [])
def kh_storesDay_a158 : an_T := (158, 0, ([((2, 805, 805, 0), none), ((0, 0, 8, 1), none), ((0, 0, 4, 1), none)], [(0, 0), (1, 1), (2, 2)], [], [], [], [], [], [], none), [])
def kh_storesDay_b0_0 : sg_T := (4, 0, ([((2, 805, 805, 0), none), ((0, 0, 0, 0), none), ((0, 0, 0, 0), none)], [(2, 2), (1, 1), (0, 0)], [], [], [], [], [], [], some []))
def kh_storesDay_b4_0 : sg_T := (124, 0, ([((2, 805, 805, 0), none), ((0, 0, 8, 1), none), ((0, 0, 8, 1), none), ((2, 806, 806, 1), none), ((0, 4080, 4080, 0), none), ((0, 0, 8, 1), none), ((0, 3, 3, 0), none), ((0, 0, 24, 3), none)], [(2, 7), (0, 0), (1, 1)], [], [(3, 4, 5)], [], [(700007, 6, 1), (200000, 5, 2), (800005, 3, 4)], [], [], some []))
def kh_storesDay_b4_1 : sg_T := (70, 0, ([((2, 805, 805, 0), none), ((0, 0, 8, 1), none), ((0, 0, 7, 1), none), ((2, 806, 806, 1), none), ((0, 4080, 4080, 0), none), ((0, 1, 8, 1), none), ((2, 806, 806, 1), none), ((0, 4081, 4081, 0), none), ((0, 3, 3, 0), none), ((0, 0, 21, 3), none), ((0, 4081, 4102, 3), none), ((0, 2, 2, 0), none), ((0, 4083, 4104, 3), some (10, 2)), ((0, 1, 2147483647, 1), none), ((0, 0, 999, 1), none)], [(0, 0), (1, 1), (2, 2)], [], [(6, 12, 13), (3, 4, 5)], [], [(100000, 14, 13), (800013, 6, 12), (500012, 10, 11), (500010, 7, 9), (700009, 8, 2), (100000, 2, 5), (800005, 3, 4)], [], [], some []))
def kh_storesDay_b4_2 : sg_T := (4, 0, ([((2, 805, 805, 0), none), ((0, 0, 8, 1), none), ((0, 0, 7, 1), none), ((2, 806, 806, 1), none), ((0, 4080, 4080, 0), none), ((0, 1, 8, 1), none), ((2, 806, 806, 1), none), ((0, 4081, 4081, 0), none), ((0, 3, 3, 0), none), ((0, 0, 21, 3), none), ((0, 4081, 4102, 3), none), ((0, 2, 2, 0), none), ((0, 4083, 4104, 3), some (10, 2)), ((0, (-2147483648), 999, 1), none), ((0, 0, 999, 1), none), ((2, 806, 806, 1), none), ((0, 4081, 4081, 0), none), ((0, 3, 3, 0), none), ((0, 0, 21, 3), none), ((0, 4081, 4102, 3), none), ((0, 0, 3, 1), none), ((2, 806, 806, 1), none), ((0, 4081, 4081, 0), none), ((0, 3, 3, 0), none), ((0, 0, 21, 3), none), ((0, 4081, 4102, 3), none), ((0, 1, 1, 0), none), ((0, 4082, 4103, 3), some (25, 1)), ((0, (-2147483648), 2147483647, 1), none), ((0, 1, 8, 1), some (2, 1))], [(2, 29), (0, 0), (1, 1)], [], [(21, 27, 28), (15, 19, 20), (6, 12, 13), (3, 4, 5)], [], [(800028, 21, 27), (500027, 25, 26), (500025, 22, 24), (700024, 23, 2), (800020, 15, 19), (500019, 16, 18), (700018, 17, 2), (200000, 13, 14), (800013, 6, 12), (500012, 10, 11), (500010, 7, 9), (700009, 8, 2), (100000, 2, 5), (800005, 3, 4)], [], [], none))
def kh_storesDay_b70_0 : sg_T := (4, 0, ([((2, 805, 805, 0), none), ((0, 0, 7, 1), none), ((0, 0, 7, 1), none), ((0, 0, 0, 0), none), ((0, 3, 3, 0), none), ((2, 806, 806, 1), none), ((0, 4081, 4081, 0), none), ((0, 3, 3, 0), none), ((0, 0, 21, 3), none), ((0, 4081, 4102, 3), none), ((0, 4081, 4102, 3), some (9, 0)), ((2, 806, 806, 1), none), ((0, 4081, 4081, 0), none), ((0, 3, 3, 0), none), ((0, 0, 21, 3), none), ((0, 4081, 4102, 3), none), ((0, 4081, 4102, 3), some (15, 0)), ((0, 0, 3, 1), none), ((0, 1, 1, 0), some (3, 1)), ((0, 3, 3, 0), none), ((2, 806, 806, 1), none), ((0, 4081, 4081, 0), none), ((0, 3, 3, 0), none), ((0, 0, 21, 3), none), ((0, 4081, 4102, 3), none), ((0, 4082, 4103, 3), some (24, 1)), ((2, 806, 806, 1), none), ((0, 4081, 4081, 0), none), ((0, 3, 3, 0), none), ((0, 0, 21, 3), none), ((0, 4081, 4102, 3), none), ((0, 4082, 4103, 3), some (30, 1)), ((0, (-2147483648), 2147483647, 1), none), ((0, 2, 2, 0), some (3, 2)), ((0, 3, 3, 0), none), ((2, 806, 806, 1), none), ((0, 4081, 4081, 0), none), ((0, 3, 3, 0), none), ((0, 0, 21, 3), none), ((0, 4081, 4102, 3), none), ((0, 4083, 4104, 3), some (39, 2)), ((2, 806, 806, 1), none), ((0, 4081, 4081, 0), none), ((0, 3, 3, 0), none), ((0, 0, 21, 3), none), ((0, 4081, 4102, 3), none), ((0, 4083, 4104, 3), some (45, 2)), ((0, (-2147483648), 2147483647, 1), none), ((0, 3, 3, 0), some (3, 3)), ((0, 3, 3, 0), none), ((0, 1, 8, 1), some (1, 1)), ((0, 1, 8, 1), some (2, 1))], [(2, 51), (1, 50), (3, 48), (0, 0)], [], [(35, 40, 47), (20, 25, 32), (5, 10, 17)], [], [(200000, 49, 48), (500046, 45, 33), (500045, 42, 44), (700044, 43, 2), (500040, 39, 33), (500039, 36, 38), (700038, 37, 1), (100000, 33, 34), (500031, 30, 18), (500030, 27, 29), (700029, 28, 2), (500025, 24, 18), (500024, 21, 23), (700023, 22, 1), (100000, 18, 19), (800017, 11, 16), (500016, 15, 3), (500015, 12, 14), (700014, 13, 2), (500010, 9, 3), (500009, 6, 8), (700008, 7, 1), (100000, 3, 4)], [], [], some [(35, 40, 47), (20, 25, 32), (5, 10, 17)]))
def kh_storesDay_b124_0 : sg_T := (158, 0, ([((2, 805, 805, 0), none), ((0, 0, 8, 1), none), ((0, 24, 24, 1), none), ((0, 24, 24, 0), none), ((2, 806, 806, 1), none), ((0, 4080, 4080, 0), none), ((0, 0, 0, 0), none)], [(2, 6), (0, 0), (1, 1)], [], [(4, 5, 1)], [], [(200000, 3, 2)], [], [], some [(4, 5, 1)]))
def kh_storesDay_b124_1 : sg_T := (124, 0, ([((2, 805, 805, 0), none), ((0, 0, 8, 1), none), ((0, 0, 23, 1), none), ((0, 24, 24, 0), none), ((2, 806, 806, 1), none), ((0, 4081, 4081, 0), none), ((0, 4081, 4104, 1), none), ((0, 0, 0, 0), none), ((0, 1, 24, 1), some (2, 1))], [(2, 8), (0, 0), (1, 1)], [], [(4, 6, 7)], [], [(500006, 5, 2), (100000, 2, 3)], [], [], some [(4, 6, 7)]))
def kh_storesDay_b158_0 : sg_T := (252, 0, ([((2, 805, 805, 0), none), ((0, 0, 8, 1), none), ((0, 4, 4, 1), none), ((0, 4, 4, 0), none)], [(0, 0), (1, 1), (2, 2)], [], [], [], [(200000, 3, 2)], [], [], some []))
def kh_storesDay_b158_1 : sg_T := (158, 0, ([((2, 805, 805, 0), none), ((0, 0, 8, 1), none), ((0, 0, 3, 1), none), ((0, 4, 4, 0), none), ((2, 806, 806, 1), none), ((0, 4060, 4060, 0), none), ((0, 4060, 4063, 1), none), ((0, (-2147483648), 2147483647, 1), none), ((0, (-2147483648), 2147483647, 1), none), ((0, (-2147483648), 2147483647, 1), none), ((0, 2, 2, 0), none), ((2, 806, 806, 1), none), ((0, 4064, 4064, 0), none), ((0, 4064, 4067, 1), none), ((0, (-2147483648), 2147483647, 1), none), ((0, (-2147483648), 2147483647, 1), none), ((0, (-2147483648), 2147483647, 1), none), ((2, 806, 806, 1), none), ((0, 4064, 4064, 0), none), ((0, 4064, 4067, 1), none), ((0, (-2147483648), 2147483647, 1), none), ((0, 1, 4, 1), some (2, 1))], [(2, 21), (4, 16), (3, 9), (0, 0), (1, 1)], [], [(17, 19, 20), (11, 13, 14), (4, 6, 7)], [], [(200000, 20, 9), (800020, 17, 19), (500019, 18, 2), (800014, 11, 13), (500013, 12, 2), (800007, 4, 6), (500006, 5, 2), (100000, 2, 3)], [], [], some []))
def kh_storesDay_b158_2 : sg_T := (158, 0, ([((2, 805, 805, 0), none), ((0, 0, 8, 1), none), ((0, 0, 3, 1), none), ((0, 4, 4, 0), none), ((2, 806, 806, 1), none), ((0, 4060, 4060, 0), none), ((0, 4060, 4063, 1), none), ((0, (-2147483648), 2147483647, 1), none), ((0, (-2147483648), 2147483647, 1), none), ((0, (-2147483648), 2147483646, 1), none), ((0, 2, 2, 0), none), ((2, 806, 806, 1), none), ((0, 4064, 4064, 0), none), ((0, 4064, 4067, 1), none), ((0, (-2147483648), 2147483647, 1), none), ((0, (-2147483648), 2147483647, 1), none), ((0, (-2147483648), 2147483647, 1), none), ((2, 806, 806, 1), none), ((0, 4064, 4064, 0), none), ((0, 4064, 4067, 1), none), ((0, (-2147483647), 2147483647, 1), none), ((2, 806, 806, 1), none), ((0, 4080, 4080, 0), none), ((0, 8, 8, 1), none), ((0, 8, 8, 0), none), ((0, 1, 4, 1), some (2, 1))], [(2, 25), (4, 16), (3, 9), (0, 0), (1, 1)], [], [(21, 22, 23), (17, 19, 20), (11, 13, 14), (4, 6, 7)], [], [(200000, 24, 23), (800023, 21, 22), (100000, 9, 20), (800020, 17, 19), (500019, 18, 2), (800014, 11, 13), (500013, 12, 2), (800007, 4, 6), (500006, 5, 2), (100000, 2, 3)], [], [], some []))
def kh_storesDay_b158_3 : sg_T := (158, 0, ([((2, 805, 805, 0), none), ((0, 0, 8, 1), none), ((0, 0, 3, 1), none), ((0, 4, 4, 0), none), ((2, 806, 806, 1), none), ((0, 4060, 4060, 0), none), ((0, 4060, 4063, 1), none), ((0, (-2147483648), 2147483647, 1), none), ((0, (-2147483648), 2147483647, 1), none), ((0, (-2147483648), 2147483646, 1), none), ((0, 2, 2, 0), none), ((2, 806, 806, 1), none), ((0, 4064, 4064, 0), none), ((0, 4064, 4067, 1), none), ((0, (-2147483648), 2147483647, 1), none), ((0, (-2147483648), 2147483647, 1), none), ((0, (-2147483648), 2147483647, 1), none), ((2, 806, 806, 1), none), ((0, 4064, 4064, 0), none), ((0, 4064, 4067, 1), none), ((0, (-2147483647), 2147483647, 1), none), ((2, 806, 806, 1), none), ((0, 4080, 4080, 0), none), ((0, 0, 7, 1), none), ((0, 8, 8, 0), none), ((1, (-9223372036854775808), 2147483646, 1), none), ((0, 5, 600, 5), none), ((0, (-2147483648), 2147483647, 1), none), ((1, (-2147483648), 2147483647, 1), none), ((0, (-1), (-1), 1), none), ((0, 1, 4, 1), some (2, 1))], [(2, 30), (4, 16), (3, 9), (0, 0), (1, 1)], [], [(21, 22, 23), (17, 19, 20), (11, 13, 14), (4, 6, 7)], [], [(29, 25, 28), (100000, 23, 24), (800023, 21, 22), (100000, 9, 20), (800020, 17, 19), (500019, 18, 2), (800014, 11, 13), (500013, 12, 2), (800007, 4, 6), (500006, 5, 2), (100000, 2, 3)], [], [], some []))
def kh_storesDay_b158_4 : sg_T := (158, 0, ([((2, 805, 805, 0), none), ((0, 0, 8, 1), none), ((0, 0, 3, 1), none), ((0, 4, 4, 0), none), ((2, 806, 806, 1), none), ((0, 4060, 4060, 0), none), ((0, 4060, 4063, 1), none), ((0, (-2147483648), 2147483647, 1), none), ((0, (-2147483648), 2147483647, 1), none), ((0, (-2147483648), 2147483646, 1), none), ((0, 2, 2, 0), none), ((2, 806, 806, 1), none), ((0, 4064, 4064, 0), none), ((0, 4064, 4067, 1), none), ((0, (-2147483648), 2147483647, 1), none), ((0, (-2147483648), 2147483647, 1), none), ((0, (-2147483648), 2147483647, 1), none), ((2, 806, 806, 1), none), ((0, 4064, 4064, 0), none), ((0, 4064, 4067, 1), none), ((0, (-2147483647), 2147483647, 1), none), ((2, 806, 806, 1), none), ((0, 4080, 4080, 0), none), ((0, 0, 7, 1), none), ((0, 8, 8, 0), none), ((1, (-2147483648), 9223372036854775807, 1), none), ((0, 5, 600, 5), none), ((0, (-2147483648), 2147483647, 1), none), ((1, (-2147483648), 2147483647, 1), none), ((0, 0, 1, 1), none), ((0, 1, 4, 1), some (2, 1))], [(2, 30), (4, 16), (3, 9), (0, 0), (1, 1)], [], [(17, 19, 20), (11, 13, 14), (4, 6, 7)], [], [(29, 25, 28), (100000, 23, 24), (800023, 21, 22), (100000, 9, 20), (800020, 17, 19), (500019, 18, 2), (800014, 11, 13), (500013, 12, 2), (800007, 4, 6), (500006, 5, 2), (100000, 2, 3)], [], [], none))
theorem kh_storesDay_ok : ct_ok wd_fl1 kh_storesDay := ct_hand (ff := wd_ff1) (y := kh_storesDay_y) (Cs := [kh_405, kh_406, kh_407, kh_408, kh_409, kh_411, kh_412, kh_413, kh_414, kh_415, kh_416, kh_417, kh_418, kh_419, kh_420]) wd_fl1_ok rfl (List.forall_mem_cons.mpr ⟨kh_405_ok, (List.forall_mem_cons.mpr ⟨kh_406_ok, (List.forall_mem_cons.mpr ⟨kh_407_ok, (List.forall_mem_cons.mpr ⟨kh_408_ok, (List.forall_mem_cons.mpr ⟨kh_409_ok, (List.forall_mem_cons.mpr ⟨kh_411_ok, (List.forall_mem_cons.mpr ⟨kh_412_ok, (List.forall_mem_cons.mpr ⟨kh_413_ok, (List.forall_mem_cons.mpr ⟨kh_414_ok, (List.forall_mem_cons.mpr ⟨kh_415_ok, (List.forall_mem_cons.mpr ⟨kh_416_ok, (List.forall_mem_cons.mpr ⟨kh_417_ok, (List.forall_mem_cons.mpr ⟨kh_418_ok, (List.forall_mem_cons.mpr ⟨kh_419_ok, (List.forall_mem_cons.mpr ⟨kh_420_ok, (List.forall_mem_nil _)⟩)⟩)⟩)⟩)⟩)⟩)⟩)⟩)⟩)⟩)⟩)⟩)⟩)⟩)⟩) (by decide +kernel) (fun l D tc ad kd N sm xs S p e s m args below meth c sz lv G H0 => by
  have hx : xs.length = 1 := by rw [H0.2.1.1]; rfl
  have hP : ∀ (k : Nat), (∀ (α : List av_X) (lv : List (Nat × Value)) (st : List Value) (S1 : fw_S), as_in ad sm wd_fl1 xs S kh_storesDay.2.2.2.2.2.1 α kh_storesDay_a4.2.2.1 lv st S1 → (0 ≤ nv α 1 ∧ nv α 1 ≤ nv α 2 ∧ 0 ≤ nv α 2 ∧ nv α 2 ≤ 8) → 10000 + (8 - nv α 2).toNat * 10 + 5 < k → hd_W wd_fl1 kh_storesDay kh_storesDay_y l D tc ad kd N sm xs S p e s m args below meth c sz 4 lv st S1 0) ∧ (∀ (α : List av_X) (lv : List (Nat × Value)) (st : List Value) (S1 : fw_S), as_in ad sm wd_fl1 xs S kh_storesDay.2.2.2.2.2.1 α kh_storesDay_a70.2.2.1 lv st S1 → (0 ≤ nv α 1 ∧ nv α 1 ≤ nv α 2 ∧ 0 ≤ nv α 2 ∧ nv α 2 ≤ 7) → 10000 + (8 - nv α 2).toNat * 10 + 1 < k → hd_W wd_fl1 kh_storesDay kh_storesDay_y l D tc ad kd N sm xs S p e s m args below meth c sz 70 lv st S1 0) ∧ (∀ (α : List av_X) (lv : List (Nat × Value)) (st : List Value) (S1 : fw_S), as_in ad sm wd_fl1 xs S kh_storesDay.2.2.2.2.2.1 α kh_storesDay_a124.2.2.1 lv st S1 → (True) → 5000 + (24 - nv α 2).toNat < k → hd_W wd_fl1 kh_storesDay kh_storesDay_y l D tc ad kd N sm xs S p e s m args below meth c sz 124 lv st S1 0) ∧ (∀ (α : List av_X) (lv : List (Nat × Value)) (st : List Value) (S1 : fw_S), as_in ad sm wd_fl1 xs S kh_storesDay.2.2.2.2.2.1 α kh_storesDay_a158.2.2.1 lv st S1 → (True) → (4 - nv α 2).toNat < k → hd_W wd_fl1 kh_storesDay kh_storesDay_y l D tc ad kd N sm xs S p e s m args below meth c sz 158 lv st S1 0) ∧ True := by
    intro k
    induction k with
    | zero => exact ⟨fun _ _ _ _ _ _ h => absurd h (Nat.not_lt_zero _), fun _ _ _ _ _ _ h => absurd h (Nat.not_lt_zero _), fun _ _ _ _ _ _ h => absurd h (Nat.not_lt_zero _), fun _ _ _ _ _ _ h => absurd h (Nat.not_lt_zero _), trivial⟩
    | succ k ih =>
    refine ⟨?_, ?_, ?_, ?_, trivial⟩
    · intro α lv st S1 H hp hk
      have bp := (en_nv (i := 1) H.2.1 rfl).2
      change 0 ≤ nv α 1 ∧ nv α 1 ≤ 8 at bp
      replace H := as_clamp (i := 1) (lo := 0) (hi := 8) H rfl rfl (by omega) (by omega) (by decide)
      have bp := (en_nv (i := 2) H.2.1 rfl).2
      change 0 ≤ nv α 2 ∧ nv α 2 ≤ 8 at bp
      replace H := as_clamp (i := 2) (lo := 0) (hi := 8) H rfl rfl (by omega) (by omega) (by decide)
      obtain ⟨α1, hle, Hr⟩ := as_recM (pl := []) [((806, 806), (4060, 4063, 1)), ((806, 806), (4072, 4075, 1)), ((806, 806), (4076, 4079, 1))] (by decide +kernel) H
      have hf := H.2.2.2.2.2.2.2.2.2.2.1
      have hl1 : α1.length = 3 := by rw [Hr.2.1.1]; rfl
      have hl0 : α.length = 3 := by rw [H.2.1.1]; rfl
      have hxa : al_le xs α1 := H.1.trans hle
      obtain ⟨g1, -, g3, g4, -⟩ := as_fx Hr
      have g0 : (805 ≤ nv α1 0 ∧ nv α1 0 ≤ 805) ∧ (0 ≤ nv α1 1 ∧ nv α1 1 ≤ 8) ∧ (0 ≤ nv α1 2 ∧ nv α1 2 ≤ 8) ∧ True := by
        refine ⟨by have h := (en_nv (i := 0) Hr.2.1 rfl).2; exact h, by have h := (en_nv (i := 1) Hr.2.1 rfl).2; exact h, by have h := (en_nv (i := 2) Hr.2.1 rfl).2; exact h, trivial⟩
      have r0 : nv α1 0 = nv α 0 := nv_le hle (by omega)
      have r1 : nv α1 1 = nv α 1 := nv_le hle (by omega)
      have r2 : nv α1 2 = nv α 2 := nv_le hle (by omega)
      refine hd_segM G (na := 3) (fuel := 600) (first := true) (Bs := [kh_storesDay_b4_0, kh_storesDay_b4_1, kh_storesDay_b4_2]) (by decide +kernel) hl1 Hr ?_
      intro q hq β lv' st' S' H1
      simp only [List.mem_cons, List.not_mem_nil, or_false] at hq
      rcases hq with rfl | rfl | rfl
      · obtain ⟨f1, f2, f3, f4, f5⟩ := as_fx H1
        simp only [kh_storesDay_b4_0, fx_env, fx_c, fx_ne, fx_hf, wl_S, Nat.zero_add, Nat.reduceAdd, Nat.reduceDiv, Nat.reduceMod, List.getElem?_cons_zero, List.getElem?_cons_succ, if_true, and_true, true_and] at f1 f2 f3 f4 f5
        have fe0 : nv β 0 = 805 := by omega
        have fe3 : nv β 3 = 806 := by omega
        have fe4 : nv β 4 = 4080 := by omega
        have fe6 : nv β 6 = 3 := by omega
        try simp only [fe0, fe3, fe4, fe6, Int.reduceToNat] at f2 f3 f4 f5
        have s0 : nv β 0 = nv α1 0 := nv_le H1.1 (by omega)
        have s1 : nv β 1 = nv α1 1 := nv_le H1.1 (by omega)
        have s2 : nv β 2 = nv α1 2 := nv_le H1.1 (by omega)
        obtain ⟨c0, c1, c2⟩ := f2
        obtain ⟨α', Ha, hm⟩ := hd_gpM (q := kh_storesDay_a124) (n := 0) (by decide +kernel) hx H1 (by decide +kernel) hxa hf
        have hfr := H1.2.2.2.2.2.2.2.2.2.2.1
        have m0 : nv α' 0 = nv β 0 := hm 0 0 rfl
        have m1 : nv α' 1 = nv β 1 := hm 1 1 rfl
        have m2 : nv α' 2 = nv β 7 := hm 2 7 rfl
        subst S'

        refine ih.2.2.1 _ _ _ _ Ha ?_ ?_
        · trivial
        · omega
      · obtain ⟨f1, f2, f3, f4, f5⟩ := as_fx H1
        simp only [kh_storesDay_b4_1, fx_env, fx_c, fx_ne, fx_hf, wl_S, Nat.zero_add, Nat.reduceAdd, Nat.reduceDiv, Nat.reduceMod, List.getElem?_cons_zero, List.getElem?_cons_succ, if_true, and_true, true_and] at f1 f2 f3 f4 f5
        have fe0 : nv β 0 = 805 := by omega
        have fe3 : nv β 3 = 806 := by omega
        have fe4 : nv β 4 = 4080 := by omega
        have fe6 : nv β 6 = 806 := by omega
        have fe7 : nv β 7 = 4081 := by omega
        have fe8 : nv β 8 = 3 := by omega
        have fe11 : nv β 11 = 2 := by omega
        try simp only [fe0, fe3, fe4, fe6, fe7, fe8, fe11, Int.reduceToNat] at f2 f3 f4 f5
        have s0 : nv β 0 = nv α1 0 := nv_le H1.1 (by omega)
        have s1 : nv β 1 = nv α1 1 := nv_le H1.1 (by omega)
        have s2 : nv β 2 = nv α1 2 := nv_le H1.1 (by omega)
        obtain ⟨c0, c1, c2, c3, c4, c5, c6⟩ := f2
        obtain ⟨α', Ha, hm⟩ := hd_gpM (q := kh_storesDay_a70) (n := 0) (by decide +kernel) hx H1 (by decide +kernel) hxa hf
        have hfr := H1.2.2.2.2.2.2.2.2.2.2.1
        have m0 : nv α' 0 = nv β 0 := hm 0 0 rfl
        have m1 : nv α' 1 = nv β 1 := hm 1 1 rfl
        have m2 : nv α' 2 = nv β 2 := hm 2 2 rfl
        subst S'

        refine ih.2.1 _ _ _ _ Ha ?_ ?_
        · refine ⟨?_, ?_, ?_, ?_⟩ <;> omega
        · omega
      · obtain ⟨f1, f2, f3, f4, f5⟩ := as_fx H1
        simp only [kh_storesDay_b4_2, fx_env, fx_c, fx_ne, fx_hf, wl_S, Nat.zero_add, Nat.reduceAdd, Nat.reduceDiv, Nat.reduceMod, List.getElem?_cons_zero, List.getElem?_cons_succ, if_true, and_true, true_and] at f1 f2 f3 f4 f5
        have fe0 : nv β 0 = 805 := by omega
        have fe3 : nv β 3 = 806 := by omega
        have fe4 : nv β 4 = 4080 := by omega
        have fe6 : nv β 6 = 806 := by omega
        have fe7 : nv β 7 = 4081 := by omega
        have fe8 : nv β 8 = 3 := by omega
        have fe11 : nv β 11 = 2 := by omega
        have fe15 : nv β 15 = 806 := by omega
        have fe16 : nv β 16 = 4081 := by omega
        have fe17 : nv β 17 = 3 := by omega
        have fe21 : nv β 21 = 806 := by omega
        have fe22 : nv β 22 = 4081 := by omega
        have fe23 : nv β 23 = 3 := by omega
        have fe26 : nv β 26 = 1 := by omega
        try simp only [fe0, fe3, fe4, fe6, fe7, fe8, fe11, fe15, fe16, fe17, fe21, fe22, fe23, fe26, Int.reduceToNat] at f2 f3 f4 f5
        have s0 : nv β 0 = nv α1 0 := nv_le H1.1 (by omega)
        have s1 : nv β 1 = nv α1 1 := nv_le H1.1 (by omega)
        have s2 : nv β 2 = nv α1 2 := nv_le H1.1 (by omega)
        obtain ⟨c0, c1, c2, c3, c4, c5, c6, c7, c8, c9, c10, c11, c12, c13⟩ := f2
        obtain ⟨α', Ha, hm⟩ := hd_gpM (q := kh_storesDay_a4) (n := 0) (by decide +kernel) hx H1 (by decide +kernel) hxa hf
        have hfr := H1.2.2.2.2.2.2.2.2.2.2.1
        have m0 : nv α' 0 = nv β 0 := hm 0 0 rfl
        have m1 : nv α' 1 = nv β 1 := hm 1 1 rfl
        have m2 : nv α' 2 = nv β 29 := hm 2 29 rfl

        refine ih.1 _ _ _ _ Ha ?_ ?_
        · refine ⟨?_, ?_, ?_, ?_⟩ <;> omega
        · omega
    · intro α lv st S1 H hp hk
      have bp := (en_nv (i := 1) H.2.1 rfl).2
      change 0 ≤ nv α 1 ∧ nv α 1 ≤ 8 at bp
      replace H := as_clamp (i := 1) (lo := 0) (hi := 7) H rfl rfl (by omega) (by omega) (by decide)
      obtain ⟨α1, hle, Hr⟩ := as_recM (pl := []) [((806, 806), (4081, 4102, 3)), ((806, 806), (4082, 4103, 3)), ((806, 806), (4083, 4104, 3))] (by decide +kernel) H
      have hf := H.2.2.2.2.2.2.2.2.2.2.1
      have hl1 : α1.length = 3 := by rw [Hr.2.1.1]; rfl
      have hl0 : α.length = 3 := by rw [H.2.1.1]; rfl
      have hxa : al_le xs α1 := H.1.trans hle
      obtain ⟨g1, -, g3, g4, -⟩ := as_fx Hr
      have g0 : (805 ≤ nv α1 0 ∧ nv α1 0 ≤ 805) ∧ (0 ≤ nv α1 1 ∧ nv α1 1 ≤ 7) ∧ (0 ≤ nv α1 2 ∧ nv α1 2 ≤ 7) ∧ True := by
        refine ⟨by have h := (en_nv (i := 0) Hr.2.1 rfl).2; exact h, by have h := (en_nv (i := 1) Hr.2.1 rfl).2; exact h, by have h := (en_nv (i := 2) Hr.2.1 rfl).2; exact h, trivial⟩
      have r0 : nv α1 0 = nv α 0 := nv_le hle (by omega)
      have r1 : nv α1 1 = nv α 1 := nv_le hle (by omega)
      have r2 : nv α1 2 = nv α 2 := nv_le hle (by omega)
      refine hd_segM G (na := 3) (fuel := 600) (first := true) (Bs := [kh_storesDay_b70_0]) (by decide +kernel) hl1 Hr ?_
      intro q hq β lv' st' S' H1
      simp only [List.mem_cons, List.not_mem_nil, or_false] at hq
      rcases hq with rfl
      · obtain ⟨f1, f2, f3, f4, f5⟩ := as_fx H1
        simp only [kh_storesDay_b70_0, fx_env, fx_c, fx_ne, fx_hf, wl_S, Nat.zero_add, Nat.reduceAdd, Nat.reduceDiv, Nat.reduceMod, List.getElem?_cons_zero, List.getElem?_cons_succ, if_true, and_true, true_and] at f1 f2 f3 f4 f5
        have fe0 : nv β 0 = 805 := by omega
        have fe3 : nv β 3 = 0 := by omega
        have fe4 : nv β 4 = 3 := by omega
        have fe5 : nv β 5 = 806 := by omega
        have fe6 : nv β 6 = 4081 := by omega
        have fe7 : nv β 7 = 3 := by omega
        have fe11 : nv β 11 = 806 := by omega
        have fe12 : nv β 12 = 4081 := by omega
        have fe13 : nv β 13 = 3 := by omega
        have fe18 : nv β 18 = 1 := by omega
        have fe19 : nv β 19 = 3 := by omega
        have fe20 : nv β 20 = 806 := by omega
        have fe21 : nv β 21 = 4081 := by omega
        have fe22 : nv β 22 = 3 := by omega
        have fe26 : nv β 26 = 806 := by omega
        have fe27 : nv β 27 = 4081 := by omega
        have fe28 : nv β 28 = 3 := by omega
        have fe33 : nv β 33 = 2 := by omega
        have fe34 : nv β 34 = 3 := by omega
        have fe35 : nv β 35 = 806 := by omega
        have fe36 : nv β 36 = 4081 := by omega
        have fe37 : nv β 37 = 3 := by omega
        have fe41 : nv β 41 = 806 := by omega
        have fe42 : nv β 42 = 4081 := by omega
        have fe43 : nv β 43 = 3 := by omega
        have fe48 : nv β 48 = 3 := by omega
        have fe49 : nv β 49 = 3 := by omega
        try simp only [fe0, fe3, fe4, fe5, fe6, fe7, fe11, fe12, fe13, fe18, fe19, fe20, fe21, fe22, fe26, fe27, fe28, fe33, fe34, fe35, fe36, fe37, fe41, fe42, fe43, fe48, fe49, Int.reduceToNat] at f2 f3 f4 f5
        have s0 : nv β 0 = nv α1 0 := nv_le H1.1 (by omega)
        have s1 : nv β 1 = nv α1 1 := nv_le H1.1 (by omega)
        have s2 : nv β 2 = nv α1 2 := nv_le H1.1 (by omega)
        obtain ⟨c0, c1, c2, c3, c4, c5, c6, c7, c8, c9, c10, c11, c12, c13, c14, c15, c16, c17, c18, c19, c20, c21, c22⟩ := f2
        obtain ⟨α', Ha, hm⟩ := hd_gpM (q := kh_storesDay_a4) (n := 0) (by decide +kernel) hx H1 (by decide +kernel) hxa hf
        have hfr := H1.2.2.2.2.2.2.2.2.2.2.1
        have m0 : nv α' 0 = nv β 0 := hm 0 0 rfl
        have m1 : nv α' 1 = nv β 50 := hm 1 50 rfl
        have m2 : nv α' 2 = nv β 51 := hm 2 51 rfl
        subst S'

        refine ih.1 _ _ _ _ Ha ?_ ?_
        · refine ⟨?_, ?_, ?_, ?_⟩ <;> omega
        · omega
    · intro α lv st S1 H hp hk
      obtain ⟨α1, hle, Hr⟩ := as_recM (pl := []) [((806, 806), (4080, 4080, 0)), ((806, 806), (4081, 4104, 1))] (by decide +kernel) H
      have hf := H.2.2.2.2.2.2.2.2.2.2.1
      have hl1 : α1.length = 3 := by rw [Hr.2.1.1]; rfl
      have hl0 : α.length = 3 := by rw [H.2.1.1]; rfl
      have hxa : al_le xs α1 := H.1.trans hle
      obtain ⟨g1, -, g3, g4, -⟩ := as_fx Hr
      have g0 : (805 ≤ nv α1 0 ∧ nv α1 0 ≤ 805) ∧ (0 ≤ nv α1 1 ∧ nv α1 1 ≤ 8) ∧ (0 ≤ nv α1 2 ∧ nv α1 2 ≤ 24) ∧ True := by
        refine ⟨by have h := (en_nv (i := 0) Hr.2.1 rfl).2; exact h, by have h := (en_nv (i := 1) Hr.2.1 rfl).2; exact h, by have h := (en_nv (i := 2) Hr.2.1 rfl).2; exact h, trivial⟩
      have r0 : nv α1 0 = nv α 0 := nv_le hle (by omega)
      have r1 : nv α1 1 = nv α 1 := nv_le hle (by omega)
      have r2 : nv α1 2 = nv α 2 := nv_le hle (by omega)
      refine hd_segM G (na := 3) (fuel := 600) (first := true) (Bs := [kh_storesDay_b124_0, kh_storesDay_b124_1]) (by decide +kernel) hl1 Hr ?_
      intro q hq β lv' st' S' H1
      simp only [List.mem_cons, List.not_mem_nil, or_false] at hq
      rcases hq with rfl | rfl
      · obtain ⟨f1, f2, f3, f4, f5⟩ := as_fx H1
        simp only [kh_storesDay_b124_0, fx_env, fx_c, fx_ne, fx_hf, wl_S, Nat.zero_add, Nat.reduceAdd, Nat.reduceDiv, Nat.reduceMod, List.getElem?_cons_zero, List.getElem?_cons_succ, if_true, and_true, true_and] at f1 f2 f3 f4 f5
        have fe0 : nv β 0 = 805 := by omega
        have fe2 : nv β 2 = 24 := by omega
        have fe3 : nv β 3 = 24 := by omega
        have fe4 : nv β 4 = 806 := by omega
        have fe5 : nv β 5 = 4080 := by omega
        have fe6 : nv β 6 = 0 := by omega
        try simp only [fe0, fe2, fe3, fe4, fe5, fe6, Int.reduceToNat] at f2 f3 f4 f5
        have s0 : nv β 0 = nv α1 0 := nv_le H1.1 (by omega)
        have s1 : nv β 1 = nv α1 1 := nv_le H1.1 (by omega)
        have s2 : nv β 2 = nv α1 2 := nv_le H1.1 (by omega)
        have c0 := f2
        obtain ⟨α', Ha, hm⟩ := hd_gpM (q := kh_storesDay_a158) (n := 0) (by decide +kernel) hx H1 (by decide +kernel) hxa hf
        have hfr := H1.2.2.2.2.2.2.2.2.2.2.1
        have m0 : nv α' 0 = nv β 0 := hm 0 0 rfl
        have m1 : nv α' 1 = nv β 1 := hm 1 1 rfl
        have m2 : nv α' 2 = nv β 6 := hm 2 6 rfl
        subst S'

        refine ih.2.2.2.1 _ _ _ _ Ha ?_ ?_
        · trivial
        · omega
      · obtain ⟨f1, f2, f3, f4, f5⟩ := as_fx H1
        simp only [kh_storesDay_b124_1, fx_env, fx_c, fx_ne, fx_hf, wl_S, Nat.zero_add, Nat.reduceAdd, Nat.reduceDiv, Nat.reduceMod, List.getElem?_cons_zero, List.getElem?_cons_succ, if_true, and_true, true_and] at f1 f2 f3 f4 f5
        have fe0 : nv β 0 = 805 := by omega
        have fe3 : nv β 3 = 24 := by omega
        have fe4 : nv β 4 = 806 := by omega
        have fe5 : nv β 5 = 4081 := by omega
        have fe7 : nv β 7 = 0 := by omega
        try simp only [fe0, fe3, fe4, fe5, fe7, Int.reduceToNat] at f2 f3 f4 f5
        have s0 : nv β 0 = nv α1 0 := nv_le H1.1 (by omega)
        have s1 : nv β 1 = nv α1 1 := nv_le H1.1 (by omega)
        have s2 : nv β 2 = nv α1 2 := nv_le H1.1 (by omega)
        obtain ⟨c0, c1⟩ := f2
        obtain ⟨α', Ha, hm⟩ := hd_gpM (q := kh_storesDay_a124) (n := 0) (by decide +kernel) hx H1 (by decide +kernel) hxa hf
        have hfr := H1.2.2.2.2.2.2.2.2.2.2.1
        have m0 : nv α' 0 = nv β 0 := hm 0 0 rfl
        have m1 : nv α' 1 = nv β 1 := hm 1 1 rfl
        have m2 : nv α' 2 = nv β 8 := hm 2 8 rfl
        subst S'

        refine ih.2.2.1 _ _ _ _ Ha ?_ ?_
        · trivial
        · omega
    · intro α lv st S1 H hp hk
      obtain ⟨α1, hle, Hr⟩ := as_recM (pl := []) [((806, 806), (4080, 4080, 0)), ((806, 806), (4081, 4102, 3)), ((806, 806), (4082, 4103, 3)), ((806, 806), (4083, 4104, 3)), ((807, 807), (2860, 2860, 0)), ((807, 807), (2865, 2865, 0)), ((807, 807), (3501, 3501, 0))] (by decide +kernel) H
      have hf := H.2.2.2.2.2.2.2.2.2.2.1
      have hl1 : α1.length = 3 := by rw [Hr.2.1.1]; rfl
      have hl0 : α.length = 3 := by rw [H.2.1.1]; rfl
      have hxa : al_le xs α1 := H.1.trans hle
      obtain ⟨g1, -, g3, g4, -⟩ := as_fx Hr
      have g0 : (805 ≤ nv α1 0 ∧ nv α1 0 ≤ 805) ∧ (0 ≤ nv α1 1 ∧ nv α1 1 ≤ 8) ∧ (0 ≤ nv α1 2 ∧ nv α1 2 ≤ 4) ∧ True := by
        refine ⟨by have h := (en_nv (i := 0) Hr.2.1 rfl).2; exact h, by have h := (en_nv (i := 1) Hr.2.1 rfl).2; exact h, by have h := (en_nv (i := 2) Hr.2.1 rfl).2; exact h, trivial⟩
      have r0 : nv α1 0 = nv α 0 := nv_le hle (by omega)
      have r1 : nv α1 1 = nv α 1 := nv_le hle (by omega)
      have r2 : nv α1 2 = nv α 2 := nv_le hle (by omega)
      refine hd_segM G (na := 3) (fuel := 600) (first := true) (Bs := [kh_storesDay_b158_0, kh_storesDay_b158_1, kh_storesDay_b158_2, kh_storesDay_b158_3, kh_storesDay_b158_4]) (by decide +kernel) hl1 Hr ?_
      intro q hq β lv' st' S' H1
      simp only [List.mem_cons, List.not_mem_nil, or_false] at hq
      rcases hq with rfl | rfl | rfl | rfl | rfl
      · obtain ⟨f1, f2, f3, f4, f5⟩ := as_fx H1
        simp only [kh_storesDay_b158_0, fx_env, fx_c, fx_ne, fx_hf, wl_S, Nat.zero_add, Nat.reduceAdd, Nat.reduceDiv, Nat.reduceMod, List.getElem?_cons_zero, List.getElem?_cons_succ, if_true, and_true, true_and] at f1 f2 f3 f4 f5
        have fe0 : nv β 0 = 805 := by omega
        have fe2 : nv β 2 = 4 := by omega
        have fe3 : nv β 3 = 4 := by omega
        try simp only [fe0, fe2, fe3, Int.reduceToNat] at f2 f3 f4 f5
        have s0 : nv β 0 = nv α1 0 := nv_le H1.1 (by omega)
        have s1 : nv β 1 = nv α1 1 := nv_le H1.1 (by omega)
        have s2 : nv β 2 = nv α1 2 := nv_le H1.1 (by omega)
        have c0 := f2
        exact hd_run G (ss := []) (fuel := 20) (by decide +kernel) (as_backM H1 (by decide +kernel) hxa hf)
      · obtain ⟨f1, f2, f3, f4, f5⟩ := as_fx H1
        simp only [kh_storesDay_b158_1, fx_env, fx_c, fx_ne, fx_hf, wl_S, Nat.zero_add, Nat.reduceAdd, Nat.reduceDiv, Nat.reduceMod, List.getElem?_cons_zero, List.getElem?_cons_succ, if_true, and_true, true_and] at f1 f2 f3 f4 f5
        have fe0 : nv β 0 = 805 := by omega
        have fe3 : nv β 3 = 4 := by omega
        have fe4 : nv β 4 = 806 := by omega
        have fe5 : nv β 5 = 4060 := by omega
        have fe10 : nv β 10 = 2 := by omega
        have fe11 : nv β 11 = 806 := by omega
        have fe12 : nv β 12 = 4064 := by omega
        have fe17 : nv β 17 = 806 := by omega
        have fe18 : nv β 18 = 4064 := by omega
        try simp only [fe0, fe3, fe4, fe5, fe10, fe11, fe12, fe17, fe18, Int.reduceToNat] at f2 f3 f4 f5
        have s0 : nv β 0 = nv α1 0 := nv_le H1.1 (by omega)
        have s1 : nv β 1 = nv α1 1 := nv_le H1.1 (by omega)
        have s2 : nv β 2 = nv α1 2 := nv_le H1.1 (by omega)
        obtain ⟨c0, c1, c2, c3, c4, c5, c6, c7⟩ := f2
        obtain ⟨α', Ha, hm⟩ := hd_gpM (q := kh_storesDay_a158) (n := 0) (by decide +kernel) hx H1 (by decide +kernel) hxa hf
        have hfr := H1.2.2.2.2.2.2.2.2.2.2.1
        have m0 : nv α' 0 = nv β 0 := hm 0 0 rfl
        have m1 : nv α' 1 = nv β 1 := hm 1 1 rfl
        have m2 : nv α' 2 = nv β 21 := hm 2 21 rfl
        subst S'

        refine ih.2.2.2.1 _ _ _ _ Ha ?_ ?_
        · trivial
        · omega
      · obtain ⟨f1, f2, f3, f4, f5⟩ := as_fx H1
        simp only [kh_storesDay_b158_2, fx_env, fx_c, fx_ne, fx_hf, wl_S, Nat.zero_add, Nat.reduceAdd, Nat.reduceDiv, Nat.reduceMod, List.getElem?_cons_zero, List.getElem?_cons_succ, if_true, and_true, true_and] at f1 f2 f3 f4 f5
        have fe0 : nv β 0 = 805 := by omega
        have fe3 : nv β 3 = 4 := by omega
        have fe4 : nv β 4 = 806 := by omega
        have fe5 : nv β 5 = 4060 := by omega
        have fe10 : nv β 10 = 2 := by omega
        have fe11 : nv β 11 = 806 := by omega
        have fe12 : nv β 12 = 4064 := by omega
        have fe17 : nv β 17 = 806 := by omega
        have fe18 : nv β 18 = 4064 := by omega
        have fe21 : nv β 21 = 806 := by omega
        have fe22 : nv β 22 = 4080 := by omega
        have fe23 : nv β 23 = 8 := by omega
        have fe24 : nv β 24 = 8 := by omega
        try simp only [fe0, fe3, fe4, fe5, fe10, fe11, fe12, fe17, fe18, fe21, fe22, fe23, fe24, Int.reduceToNat] at f2 f3 f4 f5
        have s0 : nv β 0 = nv α1 0 := nv_le H1.1 (by omega)
        have s1 : nv β 1 = nv α1 1 := nv_le H1.1 (by omega)
        have s2 : nv β 2 = nv α1 2 := nv_le H1.1 (by omega)
        obtain ⟨c0, c1, c2, c3, c4, c5, c6, c7, c8, c9⟩ := f2
        obtain ⟨α', Ha, hm⟩ := hd_gpM (q := kh_storesDay_a158) (n := 0) (by decide +kernel) hx H1 (by decide +kernel) hxa hf
        have hfr := H1.2.2.2.2.2.2.2.2.2.2.1
        have m0 : nv α' 0 = nv β 0 := hm 0 0 rfl
        have m1 : nv α' 1 = nv β 1 := hm 1 1 rfl
        have m2 : nv α' 2 = nv β 25 := hm 2 25 rfl
        subst S'

        refine ih.2.2.2.1 _ _ _ _ Ha ?_ ?_
        · trivial
        · omega
      · obtain ⟨f1, f2, f3, f4, f5⟩ := as_fx H1
        simp only [kh_storesDay_b158_3, fx_env, fx_c, fx_ne, fx_hf, wl_S, Nat.zero_add, Nat.reduceAdd, Nat.reduceDiv, Nat.reduceMod, List.getElem?_cons_zero, List.getElem?_cons_succ, if_true, and_true, true_and] at f1 f2 f3 f4 f5
        have fe0 : nv β 0 = 805 := by omega
        have fe3 : nv β 3 = 4 := by omega
        have fe4 : nv β 4 = 806 := by omega
        have fe5 : nv β 5 = 4060 := by omega
        have fe10 : nv β 10 = 2 := by omega
        have fe11 : nv β 11 = 806 := by omega
        have fe12 : nv β 12 = 4064 := by omega
        have fe17 : nv β 17 = 806 := by omega
        have fe18 : nv β 18 = 4064 := by omega
        have fe21 : nv β 21 = 806 := by omega
        have fe22 : nv β 22 = 4080 := by omega
        have fe24 : nv β 24 = 8 := by omega
        have fe29 : nv β 29 = (-1) := by omega
        try simp only [fe0, fe3, fe4, fe5, fe10, fe11, fe12, fe17, fe18, fe21, fe22, fe24, fe29, Int.reduceToNat] at f2 f3 f4 f5
        have s0 : nv β 0 = nv α1 0 := nv_le H1.1 (by omega)
        have s1 : nv β 1 = nv α1 1 := nv_le H1.1 (by omega)
        have s2 : nv β 2 = nv α1 2 := nv_le H1.1 (by omega)
        obtain ⟨c1, c2, c3, c4, c5, c6, c7, c8, c9, c10⟩ := f2
        obtain ⟨α', Ha, hm⟩ := hd_gpM (q := kh_storesDay_a158) (n := 0) (by decide +kernel) hx H1 (by decide +kernel) hxa hf
        have hfr := H1.2.2.2.2.2.2.2.2.2.2.1
        have m0 : nv α' 0 = nv β 0 := hm 0 0 rfl
        have m1 : nv α' 1 = nv β 1 := hm 1 1 rfl
        have m2 : nv α' 2 = nv β 30 := hm 2 30 rfl
        subst S'

        refine ih.2.2.2.1 _ _ _ _ Ha ?_ ?_
        · trivial
        · omega
      · obtain ⟨f1, f2, f3, f4, f5⟩ := as_fx H1
        simp only [kh_storesDay_b158_4, fx_env, fx_c, fx_ne, fx_hf, wl_S, Nat.zero_add, Nat.reduceAdd, Nat.reduceDiv, Nat.reduceMod, List.getElem?_cons_zero, List.getElem?_cons_succ, if_true, and_true, true_and] at f1 f2 f3 f4 f5
        have fe0 : nv β 0 = 805 := by omega
        have fe3 : nv β 3 = 4 := by omega
        have fe4 : nv β 4 = 806 := by omega
        have fe5 : nv β 5 = 4060 := by omega
        have fe10 : nv β 10 = 2 := by omega
        have fe11 : nv β 11 = 806 := by omega
        have fe12 : nv β 12 = 4064 := by omega
        have fe17 : nv β 17 = 806 := by omega
        have fe18 : nv β 18 = 4064 := by omega
        have fe21 : nv β 21 = 806 := by omega
        have fe22 : nv β 22 = 4080 := by omega
        have fe24 : nv β 24 = 8 := by omega
        try simp only [fe0, fe3, fe4, fe5, fe10, fe11, fe12, fe17, fe18, fe21, fe22, fe24, Int.reduceToNat] at f2 f3 f4 f5
        have s0 : nv β 0 = nv α1 0 := nv_le H1.1 (by omega)
        have s1 : nv β 1 = nv α1 1 := nv_le H1.1 (by omega)
        have s2 : nv β 2 = nv α1 2 := nv_le H1.1 (by omega)
        obtain ⟨c1, c2, c3, c4, c5, c6, c7, c8, c9, c10⟩ := f2
        obtain ⟨α', Ha, hm⟩ := hd_gpM (q := kh_storesDay_a158) (n := 0) (by decide +kernel) hx H1 (by decide +kernel) hxa hf
        have hfr := H1.2.2.2.2.2.2.2.2.2.2.1
        have m0 : nv α' 0 = nv β 0 := hm 0 0 rfl
        have m1 : nv α' 1 = nv β 1 := hm 1 1 rfl
        have m2 : nv α' 2 = nv β 30 := hm 2 30 rfl

        refine ih.2.2.2.1 _ _ _ _ Ha ?_ ?_
        · trivial
        · omega
  obtain ⟨α1, hle, Hr⟩ := as_recM (pl := []) [] (by decide +kernel) H0
  have hf := H0.2.2.2.2.2.2.2.2.2.2.1
  have hl1 : α1.length = 1 := by rw [Hr.2.1.1]; rfl
  have hl0 : xs.length = 1 := by rw [H0.2.1.1]; rfl
  have hxa : al_le xs α1 := H0.1.trans hle
  obtain ⟨g1, -, g3, g4, -⟩ := as_fx Hr
  have g0 : (805 ≤ nv α1 0 ∧ nv α1 0 ≤ 805) ∧ True := by
    refine ⟨by have h := (en_nv (i := 0) Hr.2.1 rfl).2; exact h, trivial⟩
  have r0 : nv α1 0 = nv xs 0 := nv_le hle (by omega)
  refine hd_segM G (na := 1) (fuel := 600) (first := true) (Bs := [kh_storesDay_b0_0]) (by decide +kernel) hl1 Hr ?_
  intro q hq β lv' st' S' H1
  simp only [List.mem_cons, List.not_mem_nil, or_false] at hq
  rcases hq with rfl
  · obtain ⟨f1, f2, f3, f4, f5⟩ := as_fx H1
    simp only [kh_storesDay_b0_0, fx_env, fx_c, fx_ne, fx_hf, wl_S, Nat.zero_add, Nat.reduceAdd, Nat.reduceDiv, Nat.reduceMod, List.getElem?_cons_zero, List.getElem?_cons_succ, if_true, and_true, true_and] at f1 f2 f3 f4 f5
    have fe0 : nv β 0 = 805 := by omega
    have fe1 : nv β 1 = 0 := by omega
    have fe2 : nv β 2 = 0 := by omega
    try simp only [fe0, fe1, fe2, Int.reduceToNat] at f2 f3 f4 f5
    have s0 : nv β 0 = nv α1 0 := nv_le H1.1 (by omega)
    obtain ⟨α', Ha, hm⟩ := hd_gpM (q := kh_storesDay_a4) (n := 0) (by decide +kernel) hx H1 (by decide +kernel) hxa hf
    have hfr := H1.2.2.2.2.2.2.2.2.2.2.1
    have m0 : nv α' 0 = nv β 0 := hm 0 0 rfl
    have m1 : nv α' 1 = nv β 1 := hm 1 1 rfl
    have m2 : nv α' 2 = nv β 2 := hm 2 2 rfl
    subst S'

    refine (hP _).1 _ _ _ _ Ha ?_ (Nat.lt_succ_self _)
    · refine ⟨?_, ?_, ?_, ?_⟩ <;> omega)
