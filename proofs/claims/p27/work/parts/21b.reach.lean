/-! ===== reachFrom, sideOf: what is reached only grows ===== -/
/- UtilityWorksModel link -/
def kh_0 : ct_T := (357, [(2, 805, 805, 0), (0, 0, 2, 1), (0, 0, 0, 0)], [], [], [(1, (0, 140, 276, 68), [(2, 805, 805, 0), (0, 0, 2, 1), (0, 0, 0, 0)], [], ([], []))], [], 0, 0, 0)
theorem kh_0_ok : ct_ok wd_fl kh_0 := ct_of (ff := wd_ff) (y := (⟨"UtilityWorksModel", "link", "(II)I"⟩, prog_14_method_16_code, 3, some .int, 12, 1, 2, 32207, 32206, 5005, 21014)) (Cs := []) (an := []) (ss := []) (K := 1) (fuel := 4000) wd_fl_ok rfl (List.forall_mem_nil _) (by decide +kernel)
/- UtilityWorksModel hasLink -/
def kh_1 : ct_T := (356, [(2, 805, 805, 0), (0, 0, 2, 1), (0, 0, 0, 0)], [], [], [(1, (0, 0, 0, 0), [(2, 805, 805, 0), (0, 0, 2, 1), (0, 0, 0, 0)], [], ([], [])), (1, (0, 1, 1, 0), [(2, 805, 805, 0), (0, 0, 2, 1), (0, 0, 0, 0)], [], ([], []))], [], 1, 22, 0)
theorem kh_1_ok : ct_ok wd_fl kh_1 := ct_of (ff := wd_ff) (y := (⟨"UtilityWorksModel", "hasLink", "(II)Z"⟩, prog_14_method_17_code, 3, some .boolean, 12, 1, 2, 32203, 32202, 5004, 21014)) (Cs := [kh_0]) (an := []) (ss := []) (K := 1) (fuel := 4000) wd_fl_ok rfl (List.forall_mem_cons.mpr ⟨kh_0_ok, (List.forall_mem_nil _)⟩) (by decide +kernel)
/- UtilityWorksModel isFine -/
def kh_2 : ct_T := (359, [(2, 805, 805, 0), (0, 0, 2, 1), (0, 0, 0, 0)], [], [], [(1, (0, 1, 1, 0), [(2, 805, 805, 0), (0, 0, 2, 1), (0, 0, 0, 0)], [], ([], [])), (1, (0, 0, 0, 0), [(2, 805, 805, 0), (0, 0, 2, 1), (0, 0, 0, 0)], [], ([], []))], [], 2, 44, 0)
theorem kh_2_ok : ct_ok wd_fl kh_2 := ct_of (ff := wd_ff) (y := (⟨"UtilityWorksModel", "isFine", "(II)Z"⟩, prog_14_method_19_code, 3, some .boolean, 12, 1, 2, 32215, 32214, 5007, 21014)) (Cs := [kh_1, kh_0]) (an := [(30, 0, ([((2, 805, 805, 0), none), ((0, 0, 2, 1), none), ((0, 0, 0, 0), none)], [(0, 0), (1, 1), (2, 2)], [], [], [], [], [], [], none), [(0, 0, 99970)])]) (ss := []) (K := 1) (fuel := 4000) wd_fl_ok rfl (List.forall_mem_cons.mpr ⟨kh_1_ok, (List.forall_mem_cons.mpr ⟨kh_0_ok, (List.forall_mem_nil _)⟩)⟩) (by decide +kernel)
/- UtilityWorksModel isOn -/
def kh_3 : ct_T := (360, [(2, 805, 805, 0), (0, 0, 2, 1), (0, 0, 0, 0)], [], [], [(1, (0, 1, 1, 0), [(2, 805, 805, 0), (0, 0, 2, 1), (0, 0, 0, 0)], [], ([], [])), (1, (0, 0, 0, 0), [(2, 805, 805, 0), (0, 0, 2, 1), (0, 0, 0, 0)], [], ([], []))], [], 2, 44, 0)
theorem kh_3_ok : ct_ok wd_fl kh_3 := ct_of (ff := wd_ff) (y := (⟨"UtilityWorksModel", "isOn", "(II)Z"⟩, prog_14_method_20_code, 3, some .boolean, 12, 1, 2, 32219, 32218, 5008, 21014)) (Cs := [kh_1, kh_0]) (an := [(30, 0, ([((2, 805, 805, 0), none), ((0, 0, 2, 1), none), ((0, 0, 0, 0), none)], [(0, 0), (1, 1), (2, 2)], [], [], [], [], [], [], none), [(0, 0, 99970)])]) (ss := []) (K := 1) (fuel := 4000) wd_fl_ok rfl (List.forall_mem_cons.mpr ⟨kh_1_ok, (List.forall_mem_cons.mpr ⟨kh_0_ok, (List.forall_mem_nil _)⟩)⟩) (by decide +kernel)
/- UtilityWorksModel leads -/
def kh_4 : ct_T := (358, [(2, 805, 805, 0), (0, 0, 2, 1), (0, 0, 0, 0)], [], [], [(1, (0, 1, 1, 0), [(2, 805, 805, 0), (0, 0, 2, 1), (0, 0, 0, 0)], [], ([], [])), (1, (0, 0, 0, 0), [(2, 805, 805, 0), (0, 0, 2, 1), (0, 0, 0, 0)], [], ([], []))], [], 3, 66, 0)
theorem kh_4_ok : ct_ok wd_fl kh_4 := ct_of (ff := wd_ff) (y := (⟨"UtilityWorksModel", "leads", "(II)Z"⟩, prog_14_method_21_code, 3, some .boolean, 12, 1, 2, 32211, 32210, 5006, 21014)) (Cs := [kh_2, kh_3]) (an := [(22, 0, ([((2, 805, 805, 0), none), ((0, 0, 2, 1), none), ((0, 0, 0, 0), none)], [(0, 0), (1, 1), (2, 2)], [], [], [], [], [], [], none), [(0, 0, 99978)])]) (ss := []) (K := 1) (fuel := 4000) wd_fl_ok rfl (List.forall_mem_cons.mpr ⟨kh_2_ok, (List.forall_mem_cons.mpr ⟨kh_3_ok, (List.forall_mem_nil _)⟩)⟩) (by decide +kernel)
/- UtilityWorksModel link -/
def kh_5 : ct_T := (357, [(2, 805, 805, 0), (0, 0, 2, 1), (0, 0, 1, 1)], [], [], [(1, (0, 140, 280, 4), [(2, 805, 805, 0), (0, 0, 2, 1), (0, 0, 1, 1)], [], ([], []))], [], 0, 0, 0)
theorem kh_5_ok : ct_ok wd_fl kh_5 := ct_of (ff := wd_ff) (y := (⟨"UtilityWorksModel", "link", "(II)I"⟩, prog_14_method_16_code, 3, some .int, 12, 1, 2, 32207, 32206, 5005, 21014)) (Cs := []) (an := []) (ss := []) (K := 1) (fuel := 4000) wd_fl_ok rfl (List.forall_mem_nil _) (by decide +kernel)
/- UtilityWorksModel hasLink -/
def kh_6 : ct_T := (356, [(2, 805, 805, 0), (0, 0, 2, 1), (0, 0, 1, 1)], [], [], [(1, (0, 0, 0, 0), [(2, 805, 805, 0), (0, 0, 2, 1), (0, 0, 1, 1)], [], ([], [])), (1, (0, 1, 1, 0), [(2, 805, 805, 0), (0, 0, 2, 1), (0, 0, 1, 1)], [], ([], []))], [], 1, 22, 0)
theorem kh_6_ok : ct_ok wd_fl kh_6 := ct_of (ff := wd_ff) (y := (⟨"UtilityWorksModel", "hasLink", "(II)Z"⟩, prog_14_method_17_code, 3, some .boolean, 12, 1, 2, 32203, 32202, 5004, 21014)) (Cs := [kh_5]) (an := []) (ss := []) (K := 1) (fuel := 4000) wd_fl_ok rfl (List.forall_mem_cons.mpr ⟨kh_5_ok, (List.forall_mem_nil _)⟩) (by decide +kernel)
/- UtilityWorksModel isFine -/
def kh_7 : ct_T := (359, [(2, 805, 805, 0), (0, 0, 2, 1), (0, 0, 1, 1)], [], [], [(1, (0, 1, 1, 0), [(2, 805, 805, 0), (0, 0, 2, 1), (0, 0, 1, 1)], [], ([], [])), (1, (0, 0, 0, 0), [(2, 805, 805, 0), (0, 0, 2, 1), (0, 0, 1, 1)], [], ([], []))], [], 2, 44, 0)
theorem kh_7_ok : ct_ok wd_fl kh_7 := ct_of (ff := wd_ff) (y := (⟨"UtilityWorksModel", "isFine", "(II)Z"⟩, prog_14_method_19_code, 3, some .boolean, 12, 1, 2, 32215, 32214, 5007, 21014)) (Cs := [kh_6, kh_5]) (an := [(30, 0, ([((2, 805, 805, 0), none), ((0, 0, 2, 1), none), ((0, 0, 1, 1), none)], [(0, 0), (1, 1), (2, 2)], [], [], [], [], [], [], none), [(0, 0, 99970)])]) (ss := []) (K := 1) (fuel := 4000) wd_fl_ok rfl (List.forall_mem_cons.mpr ⟨kh_6_ok, (List.forall_mem_cons.mpr ⟨kh_5_ok, (List.forall_mem_nil _)⟩)⟩) (by decide +kernel)
/- UtilityWorksModel isOn -/
def kh_8 : ct_T := (360, [(2, 805, 805, 0), (0, 0, 2, 1), (0, 0, 1, 1)], [], [], [(1, (0, 1, 1, 0), [(2, 805, 805, 0), (0, 0, 2, 1), (0, 0, 1, 1)], [], ([], [])), (1, (0, 0, 0, 0), [(2, 805, 805, 0), (0, 0, 2, 1), (0, 0, 1, 1)], [], ([], []))], [], 2, 44, 0)
theorem kh_8_ok : ct_ok wd_fl kh_8 := ct_of (ff := wd_ff) (y := (⟨"UtilityWorksModel", "isOn", "(II)Z"⟩, prog_14_method_20_code, 3, some .boolean, 12, 1, 2, 32219, 32218, 5008, 21014)) (Cs := [kh_6, kh_5]) (an := [(30, 0, ([((2, 805, 805, 0), none), ((0, 0, 2, 1), none), ((0, 0, 1, 1), none)], [(0, 0), (1, 1), (2, 2)], [], [], [], [], [], [], none), [(0, 0, 99970)])]) (ss := []) (K := 1) (fuel := 4000) wd_fl_ok rfl (List.forall_mem_cons.mpr ⟨kh_6_ok, (List.forall_mem_cons.mpr ⟨kh_5_ok, (List.forall_mem_nil _)⟩)⟩) (by decide +kernel)
/- UtilityWorksModel leads -/
def kh_9 : ct_T := (358, [(2, 805, 805, 0), (0, 0, 2, 1), (0, 0, 1, 1)], [], [], [(1, (0, 1, 1, 0), [(2, 805, 805, 0), (0, 0, 2, 1), (0, 0, 1, 1)], [], ([], [])), (1, (0, 0, 0, 0), [(2, 805, 805, 0), (0, 0, 2, 1), (0, 0, 1, 1)], [], ([], []))], [], 3, 66, 0)
theorem kh_9_ok : ct_ok wd_fl kh_9 := ct_of (ff := wd_ff) (y := (⟨"UtilityWorksModel", "leads", "(II)Z"⟩, prog_14_method_21_code, 3, some .boolean, 12, 1, 2, 32211, 32210, 5006, 21014)) (Cs := [kh_7, kh_8]) (an := [(22, 0, ([((2, 805, 805, 0), none), ((0, 0, 2, 1), none), ((0, 0, 1, 1), none)], [(0, 0), (1, 1), (2, 2)], [], [], [], [], [], [], none), [(0, 0, 99978)])]) (ss := []) (K := 1) (fuel := 4000) wd_fl_ok rfl (List.forall_mem_cons.mpr ⟨kh_7_ok, (List.forall_mem_cons.mpr ⟨kh_8_ok, (List.forall_mem_nil _)⟩)⟩) (by decide +kernel)
/- UtilityWorksModel link -/
def kh_10 : ct_T := (357, [(2, 805, 805, 0), (0, 0, 2, 1), (0, 0, 2, 1)], [], [], [(1, (0, 140, 284, 4), [(2, 805, 805, 0), (0, 0, 2, 1), (0, 0, 2, 1)], [], ([], []))], [], 0, 0, 0)
theorem kh_10_ok : ct_ok wd_fl kh_10 := ct_of (ff := wd_ff) (y := (⟨"UtilityWorksModel", "link", "(II)I"⟩, prog_14_method_16_code, 3, some .int, 12, 1, 2, 32207, 32206, 5005, 21014)) (Cs := []) (an := []) (ss := []) (K := 1) (fuel := 4000) wd_fl_ok rfl (List.forall_mem_nil _) (by decide +kernel)
/- UtilityWorksModel hasLink -/
def kh_11 : ct_T := (356, [(2, 805, 805, 0), (0, 0, 2, 1), (0, 0, 2, 1)], [], [], [(1, (0, 0, 0, 0), [(2, 805, 805, 0), (0, 0, 2, 1), (0, 0, 2, 1)], [], ([], [])), (1, (0, 1, 1, 0), [(2, 805, 805, 0), (0, 0, 2, 1), (0, 0, 2, 1)], [], ([], []))], [], 1, 22, 0)
theorem kh_11_ok : ct_ok wd_fl kh_11 := ct_of (ff := wd_ff) (y := (⟨"UtilityWorksModel", "hasLink", "(II)Z"⟩, prog_14_method_17_code, 3, some .boolean, 12, 1, 2, 32203, 32202, 5004, 21014)) (Cs := [kh_10]) (an := []) (ss := []) (K := 1) (fuel := 4000) wd_fl_ok rfl (List.forall_mem_cons.mpr ⟨kh_10_ok, (List.forall_mem_nil _)⟩) (by decide +kernel)
/- UtilityWorksModel isFine -/
def kh_12 : ct_T := (359, [(2, 805, 805, 0), (0, 0, 2, 1), (0, 0, 2, 1)], [], [], [(1, (0, 1, 1, 0), [(2, 805, 805, 0), (0, 0, 2, 1), (0, 0, 2, 1)], [], ([], [])), (1, (0, 0, 0, 0), [(2, 805, 805, 0), (0, 0, 2, 1), (0, 0, 2, 1)], [], ([], []))], [], 2, 44, 0)
theorem kh_12_ok : ct_ok wd_fl kh_12 := ct_of (ff := wd_ff) (y := (⟨"UtilityWorksModel", "isFine", "(II)Z"⟩, prog_14_method_19_code, 3, some .boolean, 12, 1, 2, 32215, 32214, 5007, 21014)) (Cs := [kh_11, kh_10]) (an := [(30, 0, ([((2, 805, 805, 0), none), ((0, 0, 2, 1), none), ((0, 0, 2, 1), none)], [(0, 0), (1, 1), (2, 2)], [], [], [], [], [], [], none), [(0, 0, 99970)])]) (ss := []) (K := 1) (fuel := 4000) wd_fl_ok rfl (List.forall_mem_cons.mpr ⟨kh_11_ok, (List.forall_mem_cons.mpr ⟨kh_10_ok, (List.forall_mem_nil _)⟩)⟩) (by decide +kernel)
/- UtilityWorksModel isOn -/
def kh_13 : ct_T := (360, [(2, 805, 805, 0), (0, 0, 2, 1), (0, 0, 2, 1)], [], [], [(1, (0, 1, 1, 0), [(2, 805, 805, 0), (0, 0, 2, 1), (0, 0, 2, 1)], [], ([], [])), (1, (0, 0, 0, 0), [(2, 805, 805, 0), (0, 0, 2, 1), (0, 0, 2, 1)], [], ([], []))], [], 2, 44, 0)
theorem kh_13_ok : ct_ok wd_fl kh_13 := ct_of (ff := wd_ff) (y := (⟨"UtilityWorksModel", "isOn", "(II)Z"⟩, prog_14_method_20_code, 3, some .boolean, 12, 1, 2, 32219, 32218, 5008, 21014)) (Cs := [kh_11, kh_10]) (an := [(30, 0, ([((2, 805, 805, 0), none), ((0, 0, 2, 1), none), ((0, 0, 2, 1), none)], [(0, 0), (1, 1), (2, 2)], [], [], [], [], [], [], none), [(0, 0, 99970)])]) (ss := []) (K := 1) (fuel := 4000) wd_fl_ok rfl (List.forall_mem_cons.mpr ⟨kh_11_ok, (List.forall_mem_cons.mpr ⟨kh_10_ok, (List.forall_mem_nil _)⟩)⟩) (by decide +kernel)
/- UtilityWorksModel leads -/
def kh_14 : ct_T := (358, [(2, 805, 805, 0), (0, 0, 2, 1), (0, 0, 2, 1)], [], [], [(1, (0, 1, 1, 0), [(2, 805, 805, 0), (0, 0, 2, 1), (0, 0, 2, 1)], [], ([], [])), (1, (0, 0, 0, 0), [(2, 805, 805, 0), (0, 0, 2, 1), (0, 0, 2, 1)], [], ([], []))], [], 3, 66, 0)
theorem kh_14_ok : ct_ok wd_fl kh_14 := ct_of (ff := wd_ff) (y := (⟨"UtilityWorksModel", "leads", "(II)Z"⟩, prog_14_method_21_code, 3, some .boolean, 12, 1, 2, 32211, 32210, 5006, 21014)) (Cs := [kh_12, kh_13]) (an := [(22, 0, ([((2, 805, 805, 0), none), ((0, 0, 2, 1), none), ((0, 0, 2, 1), none)], [(0, 0), (1, 1), (2, 2)], [], [], [], [], [], [], none), [(0, 0, 99978)])]) (ss := []) (K := 1) (fuel := 4000) wd_fl_ok rfl (List.forall_mem_cons.mpr ⟨kh_12_ok, (List.forall_mem_cons.mpr ⟨kh_13_ok, (List.forall_mem_nil _)⟩)⟩) (by decide +kernel)
/- UtilityWorksModel link -/
def kh_15 : ct_T := (357, [(2, 805, 805, 0), (0, 0, 2, 1), (0, 0, 3, 1)], [], [], [(1, (0, 140, 288, 4), [(2, 805, 805, 0), (0, 0, 2, 1), (0, 0, 3, 1)], [], ([], []))], [], 0, 0, 0)
theorem kh_15_ok : ct_ok wd_fl kh_15 := ct_of (ff := wd_ff) (y := (⟨"UtilityWorksModel", "link", "(II)I"⟩, prog_14_method_16_code, 3, some .int, 12, 1, 2, 32207, 32206, 5005, 21014)) (Cs := []) (an := []) (ss := []) (K := 1) (fuel := 4000) wd_fl_ok rfl (List.forall_mem_nil _) (by decide +kernel)
/- UtilityWorksModel hasLink -/
def kh_16 : ct_T := (356, [(2, 805, 805, 0), (0, 0, 2, 1), (0, 0, 3, 1)], [], [], [(1, (0, 0, 0, 0), [(2, 805, 805, 0), (0, 0, 2, 1), (0, 0, 3, 1)], [], ([], [])), (1, (0, 1, 1, 0), [(2, 805, 805, 0), (0, 0, 2, 1), (0, 0, 3, 1)], [], ([], []))], [], 1, 22, 0)
theorem kh_16_ok : ct_ok wd_fl kh_16 := ct_of (ff := wd_ff) (y := (⟨"UtilityWorksModel", "hasLink", "(II)Z"⟩, prog_14_method_17_code, 3, some .boolean, 12, 1, 2, 32203, 32202, 5004, 21014)) (Cs := [kh_15]) (an := []) (ss := []) (K := 1) (fuel := 4000) wd_fl_ok rfl (List.forall_mem_cons.mpr ⟨kh_15_ok, (List.forall_mem_nil _)⟩) (by decide +kernel)
/- UtilityWorksModel isFine -/
def kh_17 : ct_T := (359, [(2, 805, 805, 0), (0, 0, 2, 1), (0, 0, 3, 1)], [], [], [(1, (0, 1, 1, 0), [(2, 805, 805, 0), (0, 0, 2, 1), (0, 0, 3, 1)], [], ([], [])), (1, (0, 0, 0, 0), [(2, 805, 805, 0), (0, 0, 2, 1), (0, 0, 3, 1)], [], ([], []))], [], 2, 44, 0)
theorem kh_17_ok : ct_ok wd_fl kh_17 := ct_of (ff := wd_ff) (y := (⟨"UtilityWorksModel", "isFine", "(II)Z"⟩, prog_14_method_19_code, 3, some .boolean, 12, 1, 2, 32215, 32214, 5007, 21014)) (Cs := [kh_16, kh_15]) (an := [(30, 0, ([((2, 805, 805, 0), none), ((0, 0, 2, 1), none), ((0, 0, 3, 1), none)], [(0, 0), (1, 1), (2, 2)], [], [], [], [], [], [], none), [(0, 0, 99970)])]) (ss := []) (K := 1) (fuel := 4000) wd_fl_ok rfl (List.forall_mem_cons.mpr ⟨kh_16_ok, (List.forall_mem_cons.mpr ⟨kh_15_ok, (List.forall_mem_nil _)⟩)⟩) (by decide +kernel)
/- UtilityWorksModel isOn -/
def kh_18 : ct_T := (360, [(2, 805, 805, 0), (0, 0, 2, 1), (0, 0, 3, 1)], [], [], [(1, (0, 1, 1, 0), [(2, 805, 805, 0), (0, 0, 2, 1), (0, 0, 3, 1)], [], ([], [])), (1, (0, 0, 0, 0), [(2, 805, 805, 0), (0, 0, 2, 1), (0, 0, 3, 1)], [], ([], []))], [], 2, 44, 0)
theorem kh_18_ok : ct_ok wd_fl kh_18 := ct_of (ff := wd_ff) (y := (⟨"UtilityWorksModel", "isOn", "(II)Z"⟩, prog_14_method_20_code, 3, some .boolean, 12, 1, 2, 32219, 32218, 5008, 21014)) (Cs := [kh_16, kh_15]) (an := [(30, 0, ([((2, 805, 805, 0), none), ((0, 0, 2, 1), none), ((0, 0, 3, 1), none)], [(0, 0), (1, 1), (2, 2)], [], [], [], [], [], [], none), [(0, 0, 99970)])]) (ss := []) (K := 1) (fuel := 4000) wd_fl_ok rfl (List.forall_mem_cons.mpr ⟨kh_16_ok, (List.forall_mem_cons.mpr ⟨kh_15_ok, (List.forall_mem_nil _)⟩)⟩) (by decide +kernel)
/- UtilityWorksModel leads -/
def kh_19 : ct_T := (358, [(2, 805, 805, 0), (0, 0, 2, 1), (0, 0, 3, 1)], [], [], [(1, (0, 1, 1, 0), [(2, 805, 805, 0), (0, 0, 2, 1), (0, 0, 3, 1)], [], ([], [])), (1, (0, 0, 0, 0), [(2, 805, 805, 0), (0, 0, 2, 1), (0, 0, 3, 1)], [], ([], []))], [], 3, 66, 0)
theorem kh_19_ok : ct_ok wd_fl kh_19 := ct_of (ff := wd_ff) (y := (⟨"UtilityWorksModel", "leads", "(II)Z"⟩, prog_14_method_21_code, 3, some .boolean, 12, 1, 2, 32211, 32210, 5006, 21014)) (Cs := [kh_17, kh_18]) (an := [(22, 0, ([((2, 805, 805, 0), none), ((0, 0, 2, 1), none), ((0, 0, 3, 1), none)], [(0, 0), (1, 1), (2, 2)], [], [], [], [], [], [], none), [(0, 0, 99978)])]) (ss := []) (K := 1) (fuel := 4000) wd_fl_ok rfl (List.forall_mem_cons.mpr ⟨kh_17_ok, (List.forall_mem_cons.mpr ⟨kh_18_ok, (List.forall_mem_nil _)⟩)⟩) (by decide +kernel)
/- UtilityWorksModel link -/
def kh_20 : ct_T := (357, [(2, 805, 805, 0), (0, 0, 2, 1), (0, 0, 4, 1)], [], [], [(1, (0, 140, 292, 4), [(2, 805, 805, 0), (0, 0, 2, 1), (0, 0, 4, 1)], [], ([], []))], [], 0, 0, 0)
theorem kh_20_ok : ct_ok wd_fl kh_20 := ct_of (ff := wd_ff) (y := (⟨"UtilityWorksModel", "link", "(II)I"⟩, prog_14_method_16_code, 3, some .int, 12, 1, 2, 32207, 32206, 5005, 21014)) (Cs := []) (an := []) (ss := []) (K := 1) (fuel := 4000) wd_fl_ok rfl (List.forall_mem_nil _) (by decide +kernel)
/- UtilityWorksModel hasLink -/
def kh_21 : ct_T := (356, [(2, 805, 805, 0), (0, 0, 2, 1), (0, 0, 4, 1)], [], [], [(1, (0, 0, 0, 0), [(2, 805, 805, 0), (0, 0, 2, 1), (0, 0, 4, 1)], [], ([], [])), (1, (0, 1, 1, 0), [(2, 805, 805, 0), (0, 0, 2, 1), (0, 0, 4, 1)], [], ([], []))], [], 1, 22, 0)
theorem kh_21_ok : ct_ok wd_fl kh_21 := ct_of (ff := wd_ff) (y := (⟨"UtilityWorksModel", "hasLink", "(II)Z"⟩, prog_14_method_17_code, 3, some .boolean, 12, 1, 2, 32203, 32202, 5004, 21014)) (Cs := [kh_20]) (an := []) (ss := []) (K := 1) (fuel := 4000) wd_fl_ok rfl (List.forall_mem_cons.mpr ⟨kh_20_ok, (List.forall_mem_nil _)⟩) (by decide +kernel)
/- UtilityWorksModel isFine -/
def kh_22 : ct_T := (359, [(2, 805, 805, 0), (0, 0, 2, 1), (0, 0, 4, 1)], [], [], [(1, (0, 1, 1, 0), [(2, 805, 805, 0), (0, 0, 2, 1), (0, 0, 4, 1)], [], ([], [])), (1, (0, 0, 0, 0), [(2, 805, 805, 0), (0, 0, 2, 1), (0, 0, 4, 1)], [], ([], []))], [], 2, 44, 0)
theorem kh_22_ok : ct_ok wd_fl kh_22 := ct_of (ff := wd_ff) (y := (⟨"UtilityWorksModel", "isFine", "(II)Z"⟩, prog_14_method_19_code, 3, some .boolean, 12, 1, 2, 32215, 32214, 5007, 21014)) (Cs := [kh_21, kh_20]) (an := [(30, 0, ([((2, 805, 805, 0), none), ((0, 0, 2, 1), none), ((0, 0, 4, 1), none)], [(0, 0), (1, 1), (2, 2)], [], [], [], [], [], [], none), [(0, 0, 99970)])]) (ss := []) (K := 1) (fuel := 4000) wd_fl_ok rfl (List.forall_mem_cons.mpr ⟨kh_21_ok, (List.forall_mem_cons.mpr ⟨kh_20_ok, (List.forall_mem_nil _)⟩)⟩) (by decide +kernel)
/- UtilityWorksModel isOn -/
def kh_23 : ct_T := (360, [(2, 805, 805, 0), (0, 0, 2, 1), (0, 0, 4, 1)], [], [], [(1, (0, 1, 1, 0), [(2, 805, 805, 0), (0, 0, 2, 1), (0, 0, 4, 1)], [], ([], [])), (1, (0, 0, 0, 0), [(2, 805, 805, 0), (0, 0, 2, 1), (0, 0, 4, 1)], [], ([], []))], [], 2, 44, 0)
theorem kh_23_ok : ct_ok wd_fl kh_23 := ct_of (ff := wd_ff) (y := (⟨"UtilityWorksModel", "isOn", "(II)Z"⟩, prog_14_method_20_code, 3, some .boolean, 12, 1, 2, 32219, 32218, 5008, 21014)) (Cs := [kh_21, kh_20]) (an := [(30, 0, ([((2, 805, 805, 0), none), ((0, 0, 2, 1), none), ((0, 0, 4, 1), none)], [(0, 0), (1, 1), (2, 2)], [], [], [], [], [], [], none), [(0, 0, 99970)])]) (ss := []) (K := 1) (fuel := 4000) wd_fl_ok rfl (List.forall_mem_cons.mpr ⟨kh_21_ok, (List.forall_mem_cons.mpr ⟨kh_20_ok, (List.forall_mem_nil _)⟩)⟩) (by decide +kernel)
/- UtilityWorksModel leads -/
def kh_24 : ct_T := (358, [(2, 805, 805, 0), (0, 0, 2, 1), (0, 0, 4, 1)], [], [], [(1, (0, 1, 1, 0), [(2, 805, 805, 0), (0, 0, 2, 1), (0, 0, 4, 1)], [], ([], [])), (1, (0, 0, 0, 0), [(2, 805, 805, 0), (0, 0, 2, 1), (0, 0, 4, 1)], [], ([], []))], [], 3, 66, 0)
theorem kh_24_ok : ct_ok wd_fl kh_24 := ct_of (ff := wd_ff) (y := (⟨"UtilityWorksModel", "leads", "(II)Z"⟩, prog_14_method_21_code, 3, some .boolean, 12, 1, 2, 32211, 32210, 5006, 21014)) (Cs := [kh_22, kh_23]) (an := [(22, 0, ([((2, 805, 805, 0), none), ((0, 0, 2, 1), none), ((0, 0, 4, 1), none)], [(0, 0), (1, 1), (2, 2)], [], [], [], [], [], [], none), [(0, 0, 99978)])]) (ss := []) (K := 1) (fuel := 4000) wd_fl_ok rfl (List.forall_mem_cons.mpr ⟨kh_22_ok, (List.forall_mem_cons.mpr ⟨kh_23_ok, (List.forall_mem_nil _)⟩)⟩) (by decide +kernel)
/- UtilityWorksModel link -/
def kh_25 : ct_T := (357, [(2, 805, 805, 0), (0, 0, 2, 1), (0, 0, 5, 1)], [], [], [(1, (0, 140, 296, 4), [(2, 805, 805, 0), (0, 0, 2, 1), (0, 0, 5, 1)], [], ([], []))], [], 0, 0, 0)
theorem kh_25_ok : ct_ok wd_fl kh_25 := ct_of (ff := wd_ff) (y := (⟨"UtilityWorksModel", "link", "(II)I"⟩, prog_14_method_16_code, 3, some .int, 12, 1, 2, 32207, 32206, 5005, 21014)) (Cs := []) (an := []) (ss := []) (K := 1) (fuel := 4000) wd_fl_ok rfl (List.forall_mem_nil _) (by decide +kernel)
/- UtilityWorksModel hasLink -/
def kh_26 : ct_T := (356, [(2, 805, 805, 0), (0, 0, 2, 1), (0, 0, 5, 1)], [], [], [(1, (0, 0, 0, 0), [(2, 805, 805, 0), (0, 0, 2, 1), (0, 0, 5, 1)], [], ([], [])), (1, (0, 1, 1, 0), [(2, 805, 805, 0), (0, 0, 2, 1), (0, 0, 5, 1)], [], ([], []))], [], 1, 22, 0)
theorem kh_26_ok : ct_ok wd_fl kh_26 := ct_of (ff := wd_ff) (y := (⟨"UtilityWorksModel", "hasLink", "(II)Z"⟩, prog_14_method_17_code, 3, some .boolean, 12, 1, 2, 32203, 32202, 5004, 21014)) (Cs := [kh_25]) (an := []) (ss := []) (K := 1) (fuel := 4000) wd_fl_ok rfl (List.forall_mem_cons.mpr ⟨kh_25_ok, (List.forall_mem_nil _)⟩) (by decide +kernel)
/- UtilityWorksModel isFine -/
def kh_27 : ct_T := (359, [(2, 805, 805, 0), (0, 0, 2, 1), (0, 0, 5, 1)], [], [], [(1, (0, 1, 1, 0), [(2, 805, 805, 0), (0, 0, 2, 1), (0, 0, 5, 1)], [], ([], [])), (1, (0, 0, 0, 0), [(2, 805, 805, 0), (0, 0, 2, 1), (0, 0, 5, 1)], [], ([], []))], [], 2, 44, 0)
theorem kh_27_ok : ct_ok wd_fl kh_27 := ct_of (ff := wd_ff) (y := (⟨"UtilityWorksModel", "isFine", "(II)Z"⟩, prog_14_method_19_code, 3, some .boolean, 12, 1, 2, 32215, 32214, 5007, 21014)) (Cs := [kh_26, kh_25]) (an := [(30, 0, ([((2, 805, 805, 0), none), ((0, 0, 2, 1), none), ((0, 0, 5, 1), none)], [(0, 0), (1, 1), (2, 2)], [], [], [], [], [], [], none), [(0, 0, 99970)])]) (ss := []) (K := 1) (fuel := 4000) wd_fl_ok rfl (List.forall_mem_cons.mpr ⟨kh_26_ok, (List.forall_mem_cons.mpr ⟨kh_25_ok, (List.forall_mem_nil _)⟩)⟩) (by decide +kernel)
/- UtilityWorksModel isOn -/
def kh_28 : ct_T := (360, [(2, 805, 805, 0), (0, 0, 2, 1), (0, 0, 5, 1)], [], [], [(1, (0, 1, 1, 0), [(2, 805, 805, 0), (0, 0, 2, 1), (0, 0, 5, 1)], [], ([], [])), (1, (0, 0, 0, 0), [(2, 805, 805, 0), (0, 0, 2, 1), (0, 0, 5, 1)], [], ([], []))], [], 2, 44, 0)
theorem kh_28_ok : ct_ok wd_fl kh_28 := ct_of (ff := wd_ff) (y := (⟨"UtilityWorksModel", "isOn", "(II)Z"⟩, prog_14_method_20_code, 3, some .boolean, 12, 1, 2, 32219, 32218, 5008, 21014)) (Cs := [kh_26, kh_25]) (an := [(30, 0, ([((2, 805, 805, 0), none), ((0, 0, 2, 1), none), ((0, 0, 5, 1), none)], [(0, 0), (1, 1), (2, 2)], [], [], [], [], [], [], none), [(0, 0, 99970)])]) (ss := []) (K := 1) (fuel := 4000) wd_fl_ok rfl (List.forall_mem_cons.mpr ⟨kh_26_ok, (List.forall_mem_cons.mpr ⟨kh_25_ok, (List.forall_mem_nil _)⟩)⟩) (by decide +kernel)
/- UtilityWorksModel leads -/
def kh_29 : ct_T := (358, [(2, 805, 805, 0), (0, 0, 2, 1), (0, 0, 5, 1)], [], [], [(1, (0, 1, 1, 0), [(2, 805, 805, 0), (0, 0, 2, 1), (0, 0, 5, 1)], [], ([], [])), (1, (0, 0, 0, 0), [(2, 805, 805, 0), (0, 0, 2, 1), (0, 0, 5, 1)], [], ([], []))], [], 3, 66, 0)
theorem kh_29_ok : ct_ok wd_fl kh_29 := ct_of (ff := wd_ff) (y := (⟨"UtilityWorksModel", "leads", "(II)Z"⟩, prog_14_method_21_code, 3, some .boolean, 12, 1, 2, 32211, 32210, 5006, 21014)) (Cs := [kh_27, kh_28]) (an := [(22, 0, ([((2, 805, 805, 0), none), ((0, 0, 2, 1), none), ((0, 0, 5, 1), none)], [(0, 0), (1, 1), (2, 2)], [], [], [], [], [], [], none), [(0, 0, 99978)])]) (ss := []) (K := 1) (fuel := 4000) wd_fl_ok rfl (List.forall_mem_cons.mpr ⟨kh_27_ok, (List.forall_mem_cons.mpr ⟨kh_28_ok, (List.forall_mem_nil _)⟩)⟩) (by decide +kernel)
/- UtilityWorksModel link -/
def kh_30 : ct_T := (357, [(2, 805, 805, 0), (0, 0, 2, 1), (0, 0, 6, 1)], [], [], [(1, (0, 140, 300, 4), [(2, 805, 805, 0), (0, 0, 2, 1), (0, 0, 6, 1)], [], ([], []))], [], 0, 0, 0)
theorem kh_30_ok : ct_ok wd_fl kh_30 := ct_of (ff := wd_ff) (y := (⟨"UtilityWorksModel", "link", "(II)I"⟩, prog_14_method_16_code, 3, some .int, 12, 1, 2, 32207, 32206, 5005, 21014)) (Cs := []) (an := []) (ss := []) (K := 1) (fuel := 4000) wd_fl_ok rfl (List.forall_mem_nil _) (by decide +kernel)
/- UtilityWorksModel hasLink -/
def kh_31 : ct_T := (356, [(2, 805, 805, 0), (0, 0, 2, 1), (0, 0, 6, 1)], [], [], [(1, (0, 0, 0, 0), [(2, 805, 805, 0), (0, 0, 2, 1), (0, 0, 6, 1)], [], ([], [])), (1, (0, 1, 1, 0), [(2, 805, 805, 0), (0, 0, 2, 1), (0, 0, 6, 1)], [], ([], []))], [], 1, 22, 0)
theorem kh_31_ok : ct_ok wd_fl kh_31 := ct_of (ff := wd_ff) (y := (⟨"UtilityWorksModel", "hasLink", "(II)Z"⟩, prog_14_method_17_code, 3, some .boolean, 12, 1, 2, 32203, 32202, 5004, 21014)) (Cs := [kh_30]) (an := []) (ss := []) (K := 1) (fuel := 4000) wd_fl_ok rfl (List.forall_mem_cons.mpr ⟨kh_30_ok, (List.forall_mem_nil _)⟩) (by decide +kernel)
/- UtilityWorksModel isFine -/
def kh_32 : ct_T := (359, [(2, 805, 805, 0), (0, 0, 2, 1), (0, 0, 6, 1)], [], [], [(1, (0, 1, 1, 0), [(2, 805, 805, 0), (0, 0, 2, 1), (0, 0, 6, 1)], [], ([], [])), (1, (0, 0, 0, 0), [(2, 805, 805, 0), (0, 0, 2, 1), (0, 0, 6, 1)], [], ([], []))], [], 2, 44, 0)
theorem kh_32_ok : ct_ok wd_fl kh_32 := ct_of (ff := wd_ff) (y := (⟨"UtilityWorksModel", "isFine", "(II)Z"⟩, prog_14_method_19_code, 3, some .boolean, 12, 1, 2, 32215, 32214, 5007, 21014)) (Cs := [kh_31, kh_30]) (an := [(30, 0, ([((2, 805, 805, 0), none), ((0, 0, 2, 1), none), ((0, 0, 6, 1), none)], [(0, 0), (1, 1), (2, 2)], [], [], [], [], [], [], none), [(0, 0, 99970)])]) (ss := []) (K := 1) (fuel := 4000) wd_fl_ok rfl (List.forall_mem_cons.mpr ⟨kh_31_ok, (List.forall_mem_cons.mpr ⟨kh_30_ok, (List.forall_mem_nil _)⟩)⟩) (by decide +kernel)
/- UtilityWorksModel isOn -/
def kh_33 : ct_T := (360, [(2, 805, 805, 0), (0, 0, 2, 1), (0, 0, 6, 1)], [], [], [(1, (0, 1, 1, 0), [(2, 805, 805, 0), (0, 0, 2, 1), (0, 0, 6, 1)], [], ([], [])), (1, (0, 0, 0, 0), [(2, 805, 805, 0), (0, 0, 2, 1), (0, 0, 6, 1)], [], ([], []))], [], 2, 44, 0)
theorem kh_33_ok : ct_ok wd_fl kh_33 := ct_of (ff := wd_ff) (y := (⟨"UtilityWorksModel", "isOn", "(II)Z"⟩, prog_14_method_20_code, 3, some .boolean, 12, 1, 2, 32219, 32218, 5008, 21014)) (Cs := [kh_31, kh_30]) (an := [(30, 0, ([((2, 805, 805, 0), none), ((0, 0, 2, 1), none), ((0, 0, 6, 1), none)], [(0, 0), (1, 1), (2, 2)], [], [], [], [], [], [], none), [(0, 0, 99970)])]) (ss := []) (K := 1) (fuel := 4000) wd_fl_ok rfl (List.forall_mem_cons.mpr ⟨kh_31_ok, (List.forall_mem_cons.mpr ⟨kh_30_ok, (List.forall_mem_nil _)⟩)⟩) (by decide +kernel)
/- UtilityWorksModel leads -/
def kh_34 : ct_T := (358, [(2, 805, 805, 0), (0, 0, 2, 1), (0, 0, 6, 1)], [], [], [(1, (0, 1, 1, 0), [(2, 805, 805, 0), (0, 0, 2, 1), (0, 0, 6, 1)], [], ([], [])), (1, (0, 0, 0, 0), [(2, 805, 805, 0), (0, 0, 2, 1), (0, 0, 6, 1)], [], ([], []))], [], 3, 66, 0)
theorem kh_34_ok : ct_ok wd_fl kh_34 := ct_of (ff := wd_ff) (y := (⟨"UtilityWorksModel", "leads", "(II)Z"⟩, prog_14_method_21_code, 3, some .boolean, 12, 1, 2, 32211, 32210, 5006, 21014)) (Cs := [kh_32, kh_33]) (an := [(22, 0, ([((2, 805, 805, 0), none), ((0, 0, 2, 1), none), ((0, 0, 6, 1), none)], [(0, 0), (1, 1), (2, 2)], [], [], [], [], [], [], none), [(0, 0, 99978)])]) (ss := []) (K := 1) (fuel := 4000) wd_fl_ok rfl (List.forall_mem_cons.mpr ⟨kh_32_ok, (List.forall_mem_cons.mpr ⟨kh_33_ok, (List.forall_mem_nil _)⟩)⟩) (by decide +kernel)
/- UtilityWorksModel link -/
def kh_35 : ct_T := (357, [(2, 805, 805, 0), (0, 0, 2, 1), (0, 0, 7, 1)], [], [], [(1, (0, 140, 304, 4), [(2, 805, 805, 0), (0, 0, 2, 1), (0, 0, 7, 1)], [], ([], []))], [], 0, 0, 0)
theorem kh_35_ok : ct_ok wd_fl kh_35 := ct_of (ff := wd_ff) (y := (⟨"UtilityWorksModel", "link", "(II)I"⟩, prog_14_method_16_code, 3, some .int, 12, 1, 2, 32207, 32206, 5005, 21014)) (Cs := []) (an := []) (ss := []) (K := 1) (fuel := 4000) wd_fl_ok rfl (List.forall_mem_nil _) (by decide +kernel)
/- UtilityWorksModel hasLink -/
def kh_36 : ct_T := (356, [(2, 805, 805, 0), (0, 0, 2, 1), (0, 0, 7, 1)], [], [], [(1, (0, 0, 0, 0), [(2, 805, 805, 0), (0, 0, 2, 1), (0, 0, 7, 1)], [], ([], [])), (1, (0, 1, 1, 0), [(2, 805, 805, 0), (0, 0, 2, 1), (0, 0, 7, 1)], [], ([], []))], [], 1, 22, 0)
theorem kh_36_ok : ct_ok wd_fl kh_36 := ct_of (ff := wd_ff) (y := (⟨"UtilityWorksModel", "hasLink", "(II)Z"⟩, prog_14_method_17_code, 3, some .boolean, 12, 1, 2, 32203, 32202, 5004, 21014)) (Cs := [kh_35]) (an := []) (ss := []) (K := 1) (fuel := 4000) wd_fl_ok rfl (List.forall_mem_cons.mpr ⟨kh_35_ok, (List.forall_mem_nil _)⟩) (by decide +kernel)
/- UtilityWorksModel isFine -/
def kh_37 : ct_T := (359, [(2, 805, 805, 0), (0, 0, 2, 1), (0, 0, 7, 1)], [], [], [(1, (0, 1, 1, 0), [(2, 805, 805, 0), (0, 0, 2, 1), (0, 0, 7, 1)], [], ([], [])), (1, (0, 0, 0, 0), [(2, 805, 805, 0), (0, 0, 2, 1), (0, 0, 7, 1)], [], ([], []))], [], 2, 44, 0)
theorem kh_37_ok : ct_ok wd_fl kh_37 := ct_of (ff := wd_ff) (y := (⟨"UtilityWorksModel", "isFine", "(II)Z"⟩, prog_14_method_19_code, 3, some .boolean, 12, 1, 2, 32215, 32214, 5007, 21014)) (Cs := [kh_36, kh_35]) (an := [(30, 0, ([((2, 805, 805, 0), none), ((0, 0, 2, 1), none), ((0, 0, 7, 1), none)], [(0, 0), (1, 1), (2, 2)], [], [], [], [], [], [], none), [(0, 0, 99970)])]) (ss := []) (K := 1) (fuel := 4000) wd_fl_ok rfl (List.forall_mem_cons.mpr ⟨kh_36_ok, (List.forall_mem_cons.mpr ⟨kh_35_ok, (List.forall_mem_nil _)⟩)⟩) (by decide +kernel)
/- UtilityWorksModel isOn -/
def kh_38 : ct_T := (360, [(2, 805, 805, 0), (0, 0, 2, 1), (0, 0, 7, 1)], [], [], [(1, (0, 1, 1, 0), [(2, 805, 805, 0), (0, 0, 2, 1), (0, 0, 7, 1)], [], ([], [])), (1, (0, 0, 0, 0), [(2, 805, 805, 0), (0, 0, 2, 1), (0, 0, 7, 1)], [], ([], []))], [], 2, 44, 0)
theorem kh_38_ok : ct_ok wd_fl kh_38 := ct_of (ff := wd_ff) (y := (⟨"UtilityWorksModel", "isOn", "(II)Z"⟩, prog_14_method_20_code, 3, some .boolean, 12, 1, 2, 32219, 32218, 5008, 21014)) (Cs := [kh_36, kh_35]) (an := [(30, 0, ([((2, 805, 805, 0), none), ((0, 0, 2, 1), none), ((0, 0, 7, 1), none)], [(0, 0), (1, 1), (2, 2)], [], [], [], [], [], [], none), [(0, 0, 99970)])]) (ss := []) (K := 1) (fuel := 4000) wd_fl_ok rfl (List.forall_mem_cons.mpr ⟨kh_36_ok, (List.forall_mem_cons.mpr ⟨kh_35_ok, (List.forall_mem_nil _)⟩)⟩) (by decide +kernel)
/- UtilityWorksModel leads -/
def kh_39 : ct_T := (358, [(2, 805, 805, 0), (0, 0, 2, 1), (0, 0, 7, 1)], [], [], [(1, (0, 1, 1, 0), [(2, 805, 805, 0), (0, 0, 2, 1), (0, 0, 7, 1)], [], ([], [])), (1, (0, 0, 0, 0), [(2, 805, 805, 0), (0, 0, 2, 1), (0, 0, 7, 1)], [], ([], []))], [], 3, 66, 0)
theorem kh_39_ok : ct_ok wd_fl kh_39 := ct_of (ff := wd_ff) (y := (⟨"UtilityWorksModel", "leads", "(II)Z"⟩, prog_14_method_21_code, 3, some .boolean, 12, 1, 2, 32211, 32210, 5006, 21014)) (Cs := [kh_37, kh_38]) (an := [(22, 0, ([((2, 805, 805, 0), none), ((0, 0, 2, 1), none), ((0, 0, 7, 1), none)], [(0, 0), (1, 1), (2, 2)], [], [], [], [], [], [], none), [(0, 0, 99978)])]) (ss := []) (K := 1) (fuel := 4000) wd_fl_ok rfl (List.forall_mem_cons.mpr ⟨kh_37_ok, (List.forall_mem_cons.mpr ⟨kh_38_ok, (List.forall_mem_nil _)⟩)⟩) (by decide +kernel)
/- UtilityWorksModel link -/
def kh_40 : ct_T := (357, [(2, 805, 805, 0), (0, 0, 2, 1), (0, 0, 8, 1)], [], [], [(1, (0, 140, 308, 4), [(2, 805, 805, 0), (0, 0, 2, 1), (0, 0, 8, 1)], [], ([], []))], [], 0, 0, 0)
theorem kh_40_ok : ct_ok wd_fl kh_40 := ct_of (ff := wd_ff) (y := (⟨"UtilityWorksModel", "link", "(II)I"⟩, prog_14_method_16_code, 3, some .int, 12, 1, 2, 32207, 32206, 5005, 21014)) (Cs := []) (an := []) (ss := []) (K := 1) (fuel := 4000) wd_fl_ok rfl (List.forall_mem_nil _) (by decide +kernel)
/- UtilityWorksModel hasLink -/
def kh_41 : ct_T := (356, [(2, 805, 805, 0), (0, 0, 2, 1), (0, 0, 8, 1)], [], [], [(1, (0, 0, 0, 0), [(2, 805, 805, 0), (0, 0, 2, 1), (0, 0, 8, 1)], [], ([], [])), (1, (0, 1, 1, 0), [(2, 805, 805, 0), (0, 0, 2, 1), (0, 0, 8, 1)], [], ([], []))], [], 1, 22, 0)
theorem kh_41_ok : ct_ok wd_fl kh_41 := ct_of (ff := wd_ff) (y := (⟨"UtilityWorksModel", "hasLink", "(II)Z"⟩, prog_14_method_17_code, 3, some .boolean, 12, 1, 2, 32203, 32202, 5004, 21014)) (Cs := [kh_40]) (an := []) (ss := []) (K := 1) (fuel := 4000) wd_fl_ok rfl (List.forall_mem_cons.mpr ⟨kh_40_ok, (List.forall_mem_nil _)⟩) (by decide +kernel)
/- UtilityWorksModel isFine -/
def kh_42 : ct_T := (359, [(2, 805, 805, 0), (0, 0, 2, 1), (0, 0, 8, 1)], [], [], [(1, (0, 1, 1, 0), [(2, 805, 805, 0), (0, 0, 2, 1), (0, 0, 8, 1)], [], ([], [])), (1, (0, 0, 0, 0), [(2, 805, 805, 0), (0, 0, 2, 1), (0, 0, 8, 1)], [], ([], []))], [], 2, 44, 0)
theorem kh_42_ok : ct_ok wd_fl kh_42 := ct_of (ff := wd_ff) (y := (⟨"UtilityWorksModel", "isFine", "(II)Z"⟩, prog_14_method_19_code, 3, some .boolean, 12, 1, 2, 32215, 32214, 5007, 21014)) (Cs := [kh_41, kh_40]) (an := [(30, 0, ([((2, 805, 805, 0), none), ((0, 0, 2, 1), none), ((0, 0, 8, 1), none)], [(0, 0), (1, 1), (2, 2)], [], [], [], [], [], [], none), [(0, 0, 99970)])]) (ss := []) (K := 1) (fuel := 4000) wd_fl_ok rfl (List.forall_mem_cons.mpr ⟨kh_41_ok, (List.forall_mem_cons.mpr ⟨kh_40_ok, (List.forall_mem_nil _)⟩)⟩) (by decide +kernel)
/- UtilityWorksModel isOn -/
def kh_43 : ct_T := (360, [(2, 805, 805, 0), (0, 0, 2, 1), (0, 0, 8, 1)], [], [], [(1, (0, 1, 1, 0), [(2, 805, 805, 0), (0, 0, 2, 1), (0, 0, 8, 1)], [], ([], [])), (1, (0, 0, 0, 0), [(2, 805, 805, 0), (0, 0, 2, 1), (0, 0, 8, 1)], [], ([], []))], [], 2, 44, 0)
theorem kh_43_ok : ct_ok wd_fl kh_43 := ct_of (ff := wd_ff) (y := (⟨"UtilityWorksModel", "isOn", "(II)Z"⟩, prog_14_method_20_code, 3, some .boolean, 12, 1, 2, 32219, 32218, 5008, 21014)) (Cs := [kh_41, kh_40]) (an := [(30, 0, ([((2, 805, 805, 0), none), ((0, 0, 2, 1), none), ((0, 0, 8, 1), none)], [(0, 0), (1, 1), (2, 2)], [], [], [], [], [], [], none), [(0, 0, 99970)])]) (ss := []) (K := 1) (fuel := 4000) wd_fl_ok rfl (List.forall_mem_cons.mpr ⟨kh_41_ok, (List.forall_mem_cons.mpr ⟨kh_40_ok, (List.forall_mem_nil _)⟩)⟩) (by decide +kernel)
/- UtilityWorksModel leads -/
def kh_44 : ct_T := (358, [(2, 805, 805, 0), (0, 0, 2, 1), (0, 0, 8, 1)], [], [], [(1, (0, 1, 1, 0), [(2, 805, 805, 0), (0, 0, 2, 1), (0, 0, 8, 1)], [], ([], [])), (1, (0, 0, 0, 0), [(2, 805, 805, 0), (0, 0, 2, 1), (0, 0, 8, 1)], [], ([], []))], [], 3, 66, 0)
theorem kh_44_ok : ct_ok wd_fl kh_44 := ct_of (ff := wd_ff) (y := (⟨"UtilityWorksModel", "leads", "(II)Z"⟩, prog_14_method_21_code, 3, some .boolean, 12, 1, 2, 32211, 32210, 5006, 21014)) (Cs := [kh_42, kh_43]) (an := [(22, 0, ([((2, 805, 805, 0), none), ((0, 0, 2, 1), none), ((0, 0, 8, 1), none)], [(0, 0), (1, 1), (2, 2)], [], [], [], [], [], [], none), [(0, 0, 99978)])]) (ss := []) (K := 1) (fuel := 4000) wd_fl_ok rfl (List.forall_mem_cons.mpr ⟨kh_42_ok, (List.forall_mem_cons.mpr ⟨kh_43_ok, (List.forall_mem_nil _)⟩)⟩) (by decide +kernel)
/- UtilityWorksModel link -/
def kh_45 : ct_T := (357, [(2, 805, 805, 0), (0, 0, 2, 1), (0, 0, 9, 1)], [], [], [(1, (0, 140, 312, 4), [(2, 805, 805, 0), (0, 0, 2, 1), (0, 0, 9, 1)], [], ([], []))], [], 0, 0, 0)
theorem kh_45_ok : ct_ok wd_fl kh_45 := ct_of (ff := wd_ff) (y := (⟨"UtilityWorksModel", "link", "(II)I"⟩, prog_14_method_16_code, 3, some .int, 12, 1, 2, 32207, 32206, 5005, 21014)) (Cs := []) (an := []) (ss := []) (K := 1) (fuel := 4000) wd_fl_ok rfl (List.forall_mem_nil _) (by decide +kernel)
/- UtilityWorksModel hasLink -/
def kh_46 : ct_T := (356, [(2, 805, 805, 0), (0, 0, 2, 1), (0, 0, 9, 1)], [], [], [(1, (0, 0, 0, 0), [(2, 805, 805, 0), (0, 0, 2, 1), (0, 0, 9, 1)], [], ([], [])), (1, (0, 1, 1, 0), [(2, 805, 805, 0), (0, 0, 2, 1), (0, 0, 9, 1)], [], ([], []))], [], 1, 22, 0)
theorem kh_46_ok : ct_ok wd_fl kh_46 := ct_of (ff := wd_ff) (y := (⟨"UtilityWorksModel", "hasLink", "(II)Z"⟩, prog_14_method_17_code, 3, some .boolean, 12, 1, 2, 32203, 32202, 5004, 21014)) (Cs := [kh_45]) (an := []) (ss := []) (K := 1) (fuel := 4000) wd_fl_ok rfl (List.forall_mem_cons.mpr ⟨kh_45_ok, (List.forall_mem_nil _)⟩) (by decide +kernel)
/- UtilityWorksModel isFine -/
def kh_47 : ct_T := (359, [(2, 805, 805, 0), (0, 0, 2, 1), (0, 0, 9, 1)], [], [], [(1, (0, 1, 1, 0), [(2, 805, 805, 0), (0, 0, 2, 1), (0, 0, 9, 1)], [], ([], [])), (1, (0, 0, 0, 0), [(2, 805, 805, 0), (0, 0, 2, 1), (0, 0, 9, 1)], [], ([], []))], [], 2, 44, 0)
theorem kh_47_ok : ct_ok wd_fl kh_47 := ct_of (ff := wd_ff) (y := (⟨"UtilityWorksModel", "isFine", "(II)Z"⟩, prog_14_method_19_code, 3, some .boolean, 12, 1, 2, 32215, 32214, 5007, 21014)) (Cs := [kh_46, kh_45]) (an := [(30, 0, ([((2, 805, 805, 0), none), ((0, 0, 2, 1), none), ((0, 0, 9, 1), none)], [(0, 0), (1, 1), (2, 2)], [], [], [], [], [], [], none), [(0, 0, 99970)])]) (ss := []) (K := 1) (fuel := 4000) wd_fl_ok rfl (List.forall_mem_cons.mpr ⟨kh_46_ok, (List.forall_mem_cons.mpr ⟨kh_45_ok, (List.forall_mem_nil _)⟩)⟩) (by decide +kernel)
/- UtilityWorksModel isOn -/
def kh_48 : ct_T := (360, [(2, 805, 805, 0), (0, 0, 2, 1), (0, 0, 9, 1)], [], [], [(1, (0, 1, 1, 0), [(2, 805, 805, 0), (0, 0, 2, 1), (0, 0, 9, 1)], [], ([], [])), (1, (0, 0, 0, 0), [(2, 805, 805, 0), (0, 0, 2, 1), (0, 0, 9, 1)], [], ([], []))], [], 2, 44, 0)
theorem kh_48_ok : ct_ok wd_fl kh_48 := ct_of (ff := wd_ff) (y := (⟨"UtilityWorksModel", "isOn", "(II)Z"⟩, prog_14_method_20_code, 3, some .boolean, 12, 1, 2, 32219, 32218, 5008, 21014)) (Cs := [kh_46, kh_45]) (an := [(30, 0, ([((2, 805, 805, 0), none), ((0, 0, 2, 1), none), ((0, 0, 9, 1), none)], [(0, 0), (1, 1), (2, 2)], [], [], [], [], [], [], none), [(0, 0, 99970)])]) (ss := []) (K := 1) (fuel := 4000) wd_fl_ok rfl (List.forall_mem_cons.mpr ⟨kh_46_ok, (List.forall_mem_cons.mpr ⟨kh_45_ok, (List.forall_mem_nil _)⟩)⟩) (by decide +kernel)
/- UtilityWorksModel leads -/
def kh_49 : ct_T := (358, [(2, 805, 805, 0), (0, 0, 2, 1), (0, 0, 9, 1)], [], [], [(1, (0, 1, 1, 0), [(2, 805, 805, 0), (0, 0, 2, 1), (0, 0, 9, 1)], [], ([], [])), (1, (0, 0, 0, 0), [(2, 805, 805, 0), (0, 0, 2, 1), (0, 0, 9, 1)], [], ([], []))], [], 3, 66, 0)
theorem kh_49_ok : ct_ok wd_fl kh_49 := ct_of (ff := wd_ff) (y := (⟨"UtilityWorksModel", "leads", "(II)Z"⟩, prog_14_method_21_code, 3, some .boolean, 12, 1, 2, 32211, 32210, 5006, 21014)) (Cs := [kh_47, kh_48]) (an := [(22, 0, ([((2, 805, 805, 0), none), ((0, 0, 2, 1), none), ((0, 0, 9, 1), none)], [(0, 0), (1, 1), (2, 2)], [], [], [], [], [], [], none), [(0, 0, 99978)])]) (ss := []) (K := 1) (fuel := 4000) wd_fl_ok rfl (List.forall_mem_cons.mpr ⟨kh_47_ok, (List.forall_mem_cons.mpr ⟨kh_48_ok, (List.forall_mem_nil _)⟩)⟩) (by decide +kernel)
/- UtilityWorksModel link -/
def kh_50 : ct_T := (357, [(2, 805, 805, 0), (0, 0, 2, 1), (0, 0, 10, 1)], [], [], [(1, (0, 140, 316, 4), [(2, 805, 805, 0), (0, 0, 2, 1), (0, 0, 10, 1)], [], ([], []))], [], 0, 0, 0)
theorem kh_50_ok : ct_ok wd_fl kh_50 := ct_of (ff := wd_ff) (y := (⟨"UtilityWorksModel", "link", "(II)I"⟩, prog_14_method_16_code, 3, some .int, 12, 1, 2, 32207, 32206, 5005, 21014)) (Cs := []) (an := []) (ss := []) (K := 1) (fuel := 4000) wd_fl_ok rfl (List.forall_mem_nil _) (by decide +kernel)
/- UtilityWorksModel hasLink -/
def kh_51 : ct_T := (356, [(2, 805, 805, 0), (0, 0, 2, 1), (0, 0, 10, 1)], [], [], [(1, (0, 0, 0, 0), [(2, 805, 805, 0), (0, 0, 2, 1), (0, 0, 10, 1)], [], ([], [])), (1, (0, 1, 1, 0), [(2, 805, 805, 0), (0, 0, 2, 1), (0, 0, 10, 1)], [], ([], []))], [], 1, 22, 0)
theorem kh_51_ok : ct_ok wd_fl kh_51 := ct_of (ff := wd_ff) (y := (⟨"UtilityWorksModel", "hasLink", "(II)Z"⟩, prog_14_method_17_code, 3, some .boolean, 12, 1, 2, 32203, 32202, 5004, 21014)) (Cs := [kh_50]) (an := []) (ss := []) (K := 1) (fuel := 4000) wd_fl_ok rfl (List.forall_mem_cons.mpr ⟨kh_50_ok, (List.forall_mem_nil _)⟩) (by decide +kernel)
/- UtilityWorksModel isFine -/
def kh_52 : ct_T := (359, [(2, 805, 805, 0), (0, 0, 2, 1), (0, 0, 10, 1)], [], [], [(1, (0, 1, 1, 0), [(2, 805, 805, 0), (0, 0, 2, 1), (0, 0, 10, 1)], [], ([], [])), (1, (0, 0, 0, 0), [(2, 805, 805, 0), (0, 0, 2, 1), (0, 0, 10, 1)], [], ([], []))], [], 2, 44, 0)
theorem kh_52_ok : ct_ok wd_fl kh_52 := ct_of (ff := wd_ff) (y := (⟨"UtilityWorksModel", "isFine", "(II)Z"⟩, prog_14_method_19_code, 3, some .boolean, 12, 1, 2, 32215, 32214, 5007, 21014)) (Cs := [kh_51, kh_50]) (an := [(30, 0, ([((2, 805, 805, 0), none), ((0, 0, 2, 1), none), ((0, 0, 10, 1), none)], [(0, 0), (1, 1), (2, 2)], [], [], [], [], [], [], none), [(0, 0, 99970)])]) (ss := []) (K := 1) (fuel := 4000) wd_fl_ok rfl (List.forall_mem_cons.mpr ⟨kh_51_ok, (List.forall_mem_cons.mpr ⟨kh_50_ok, (List.forall_mem_nil _)⟩)⟩) (by decide +kernel)
/- UtilityWorksModel isOn -/
def kh_53 : ct_T := (360, [(2, 805, 805, 0), (0, 0, 2, 1), (0, 0, 10, 1)], [], [], [(1, (0, 1, 1, 0), [(2, 805, 805, 0), (0, 0, 2, 1), (0, 0, 10, 1)], [], ([], [])), (1, (0, 0, 0, 0), [(2, 805, 805, 0), (0, 0, 2, 1), (0, 0, 10, 1)], [], ([], []))], [], 2, 44, 0)
theorem kh_53_ok : ct_ok wd_fl kh_53 := ct_of (ff := wd_ff) (y := (⟨"UtilityWorksModel", "isOn", "(II)Z"⟩, prog_14_method_20_code, 3, some .boolean, 12, 1, 2, 32219, 32218, 5008, 21014)) (Cs := [kh_51, kh_50]) (an := [(30, 0, ([((2, 805, 805, 0), none), ((0, 0, 2, 1), none), ((0, 0, 10, 1), none)], [(0, 0), (1, 1), (2, 2)], [], [], [], [], [], [], none), [(0, 0, 99970)])]) (ss := []) (K := 1) (fuel := 4000) wd_fl_ok rfl (List.forall_mem_cons.mpr ⟨kh_51_ok, (List.forall_mem_cons.mpr ⟨kh_50_ok, (List.forall_mem_nil _)⟩)⟩) (by decide +kernel)
/- UtilityWorksModel leads -/
def kh_54 : ct_T := (358, [(2, 805, 805, 0), (0, 0, 2, 1), (0, 0, 10, 1)], [], [], [(1, (0, 1, 1, 0), [(2, 805, 805, 0), (0, 0, 2, 1), (0, 0, 10, 1)], [], ([], [])), (1, (0, 0, 0, 0), [(2, 805, 805, 0), (0, 0, 2, 1), (0, 0, 10, 1)], [], ([], []))], [], 3, 66, 0)
theorem kh_54_ok : ct_ok wd_fl kh_54 := ct_of (ff := wd_ff) (y := (⟨"UtilityWorksModel", "leads", "(II)Z"⟩, prog_14_method_21_code, 3, some .boolean, 12, 1, 2, 32211, 32210, 5006, 21014)) (Cs := [kh_52, kh_53]) (an := [(22, 0, ([((2, 805, 805, 0), none), ((0, 0, 2, 1), none), ((0, 0, 10, 1), none)], [(0, 0), (1, 1), (2, 2)], [], [], [], [], [], [], none), [(0, 0, 99978)])]) (ss := []) (K := 1) (fuel := 4000) wd_fl_ok rfl (List.forall_mem_cons.mpr ⟨kh_52_ok, (List.forall_mem_cons.mpr ⟨kh_53_ok, (List.forall_mem_nil _)⟩)⟩) (by decide +kernel)
/- UtilityWorksModel link -/
def kh_55 : ct_T := (357, [(2, 805, 805, 0), (0, 0, 2, 1), (0, 0, 11, 1)], [], [], [(1, (0, 140, 320, 4), [(2, 805, 805, 0), (0, 0, 2, 1), (0, 0, 11, 1)], [], ([], []))], [], 0, 0, 0)
theorem kh_55_ok : ct_ok wd_fl kh_55 := ct_of (ff := wd_ff) (y := (⟨"UtilityWorksModel", "link", "(II)I"⟩, prog_14_method_16_code, 3, some .int, 12, 1, 2, 32207, 32206, 5005, 21014)) (Cs := []) (an := []) (ss := []) (K := 1) (fuel := 4000) wd_fl_ok rfl (List.forall_mem_nil _) (by decide +kernel)
/- UtilityWorksModel hasLink -/
def kh_56 : ct_T := (356, [(2, 805, 805, 0), (0, 0, 2, 1), (0, 0, 11, 1)], [], [], [(1, (0, 0, 0, 0), [(2, 805, 805, 0), (0, 0, 2, 1), (0, 0, 11, 1)], [], ([], [])), (1, (0, 1, 1, 0), [(2, 805, 805, 0), (0, 0, 2, 1), (0, 0, 11, 1)], [], ([], []))], [], 1, 22, 0)
theorem kh_56_ok : ct_ok wd_fl kh_56 := ct_of (ff := wd_ff) (y := (⟨"UtilityWorksModel", "hasLink", "(II)Z"⟩, prog_14_method_17_code, 3, some .boolean, 12, 1, 2, 32203, 32202, 5004, 21014)) (Cs := [kh_55]) (an := []) (ss := []) (K := 1) (fuel := 4000) wd_fl_ok rfl (List.forall_mem_cons.mpr ⟨kh_55_ok, (List.forall_mem_nil _)⟩) (by decide +kernel)
/- UtilityWorksModel isFine -/
def kh_57 : ct_T := (359, [(2, 805, 805, 0), (0, 0, 2, 1), (0, 0, 11, 1)], [], [], [(1, (0, 1, 1, 0), [(2, 805, 805, 0), (0, 0, 2, 1), (0, 0, 11, 1)], [], ([], [])), (1, (0, 0, 0, 0), [(2, 805, 805, 0), (0, 0, 2, 1), (0, 0, 11, 1)], [], ([], []))], [], 2, 44, 0)
theorem kh_57_ok : ct_ok wd_fl kh_57 := ct_of (ff := wd_ff) (y := (⟨"UtilityWorksModel", "isFine", "(II)Z"⟩, prog_14_method_19_code, 3, some .boolean, 12, 1, 2, 32215, 32214, 5007, 21014)) (Cs := [kh_56, kh_55]) (an := [(30, 0, ([((2, 805, 805, 0), none), ((0, 0, 2, 1), none), ((0, 0, 11, 1), none)], [(0, 0), (1, 1), (2, 2)], [], [], [], [], [], [], none), [(0, 0, 99970)])]) (ss := []) (K := 1) (fuel := 4000) wd_fl_ok rfl (List.forall_mem_cons.mpr ⟨kh_56_ok, (List.forall_mem_cons.mpr ⟨kh_55_ok, (List.forall_mem_nil _)⟩)⟩) (by decide +kernel)
/- UtilityWorksModel isOn -/
def kh_58 : ct_T := (360, [(2, 805, 805, 0), (0, 0, 2, 1), (0, 0, 11, 1)], [], [], [(1, (0, 1, 1, 0), [(2, 805, 805, 0), (0, 0, 2, 1), (0, 0, 11, 1)], [], ([], [])), (1, (0, 0, 0, 0), [(2, 805, 805, 0), (0, 0, 2, 1), (0, 0, 11, 1)], [], ([], []))], [], 2, 44, 0)
theorem kh_58_ok : ct_ok wd_fl kh_58 := ct_of (ff := wd_ff) (y := (⟨"UtilityWorksModel", "isOn", "(II)Z"⟩, prog_14_method_20_code, 3, some .boolean, 12, 1, 2, 32219, 32218, 5008, 21014)) (Cs := [kh_56, kh_55]) (an := [(30, 0, ([((2, 805, 805, 0), none), ((0, 0, 2, 1), none), ((0, 0, 11, 1), none)], [(0, 0), (1, 1), (2, 2)], [], [], [], [], [], [], none), [(0, 0, 99970)])]) (ss := []) (K := 1) (fuel := 4000) wd_fl_ok rfl (List.forall_mem_cons.mpr ⟨kh_56_ok, (List.forall_mem_cons.mpr ⟨kh_55_ok, (List.forall_mem_nil _)⟩)⟩) (by decide +kernel)
/- UtilityWorksModel leads -/
def kh_59 : ct_T := (358, [(2, 805, 805, 0), (0, 0, 2, 1), (0, 0, 11, 1)], [], [], [(1, (0, 1, 1, 0), [(2, 805, 805, 0), (0, 0, 2, 1), (0, 0, 11, 1)], [], ([], [])), (1, (0, 0, 0, 0), [(2, 805, 805, 0), (0, 0, 2, 1), (0, 0, 11, 1)], [], ([], []))], [], 3, 66, 0)
theorem kh_59_ok : ct_ok wd_fl kh_59 := ct_of (ff := wd_ff) (y := (⟨"UtilityWorksModel", "leads", "(II)Z"⟩, prog_14_method_21_code, 3, some .boolean, 12, 1, 2, 32211, 32210, 5006, 21014)) (Cs := [kh_57, kh_58]) (an := [(22, 0, ([((2, 805, 805, 0), none), ((0, 0, 2, 1), none), ((0, 0, 11, 1), none)], [(0, 0), (1, 1), (2, 2)], [], [], [], [], [], [], none), [(0, 0, 99978)])]) (ss := []) (K := 1) (fuel := 4000) wd_fl_ok rfl (List.forall_mem_cons.mpr ⟨kh_57_ok, (List.forall_mem_cons.mpr ⟨kh_58_ok, (List.forall_mem_nil _)⟩)⟩) (by decide +kernel)
/- UtilityWorksModel link -/
def kh_60 : ct_T := (357, [(2, 805, 805, 0), (0, 0, 2, 1), (0, 0, 12, 1)], [], [], [(1, (0, 140, 324, 4), [(2, 805, 805, 0), (0, 0, 2, 1), (0, 0, 12, 1)], [], ([], []))], [], 0, 0, 0)
theorem kh_60_ok : ct_ok wd_fl kh_60 := ct_of (ff := wd_ff) (y := (⟨"UtilityWorksModel", "link", "(II)I"⟩, prog_14_method_16_code, 3, some .int, 12, 1, 2, 32207, 32206, 5005, 21014)) (Cs := []) (an := []) (ss := []) (K := 1) (fuel := 4000) wd_fl_ok rfl (List.forall_mem_nil _) (by decide +kernel)
/- UtilityWorksModel hasLink -/
def kh_61 : ct_T := (356, [(2, 805, 805, 0), (0, 0, 2, 1), (0, 0, 12, 1)], [], [], [(1, (0, 0, 0, 0), [(2, 805, 805, 0), (0, 0, 2, 1), (0, 0, 12, 1)], [], ([], [])), (1, (0, 1, 1, 0), [(2, 805, 805, 0), (0, 0, 2, 1), (0, 0, 12, 1)], [], ([], []))], [], 1, 22, 0)
theorem kh_61_ok : ct_ok wd_fl kh_61 := ct_of (ff := wd_ff) (y := (⟨"UtilityWorksModel", "hasLink", "(II)Z"⟩, prog_14_method_17_code, 3, some .boolean, 12, 1, 2, 32203, 32202, 5004, 21014)) (Cs := [kh_60]) (an := []) (ss := []) (K := 1) (fuel := 4000) wd_fl_ok rfl (List.forall_mem_cons.mpr ⟨kh_60_ok, (List.forall_mem_nil _)⟩) (by decide +kernel)
/- UtilityWorksModel isFine -/
def kh_62 : ct_T := (359, [(2, 805, 805, 0), (0, 0, 2, 1), (0, 0, 12, 1)], [], [], [(1, (0, 1, 1, 0), [(2, 805, 805, 0), (0, 0, 2, 1), (0, 0, 12, 1)], [], ([], [])), (1, (0, 0, 0, 0), [(2, 805, 805, 0), (0, 0, 2, 1), (0, 0, 12, 1)], [], ([], []))], [], 2, 44, 0)
theorem kh_62_ok : ct_ok wd_fl kh_62 := ct_of (ff := wd_ff) (y := (⟨"UtilityWorksModel", "isFine", "(II)Z"⟩, prog_14_method_19_code, 3, some .boolean, 12, 1, 2, 32215, 32214, 5007, 21014)) (Cs := [kh_61, kh_60]) (an := [(30, 0, ([((2, 805, 805, 0), none), ((0, 0, 2, 1), none), ((0, 0, 12, 1), none)], [(0, 0), (1, 1), (2, 2)], [], [], [], [], [], [], none), [(0, 0, 99970)])]) (ss := []) (K := 1) (fuel := 4000) wd_fl_ok rfl (List.forall_mem_cons.mpr ⟨kh_61_ok, (List.forall_mem_cons.mpr ⟨kh_60_ok, (List.forall_mem_nil _)⟩)⟩) (by decide +kernel)
/- UtilityWorksModel isOn -/
def kh_63 : ct_T := (360, [(2, 805, 805, 0), (0, 0, 2, 1), (0, 0, 12, 1)], [], [], [(1, (0, 1, 1, 0), [(2, 805, 805, 0), (0, 0, 2, 1), (0, 0, 12, 1)], [], ([], [])), (1, (0, 0, 0, 0), [(2, 805, 805, 0), (0, 0, 2, 1), (0, 0, 12, 1)], [], ([], []))], [], 2, 44, 0)
theorem kh_63_ok : ct_ok wd_fl kh_63 := ct_of (ff := wd_ff) (y := (⟨"UtilityWorksModel", "isOn", "(II)Z"⟩, prog_14_method_20_code, 3, some .boolean, 12, 1, 2, 32219, 32218, 5008, 21014)) (Cs := [kh_61, kh_60]) (an := [(30, 0, ([((2, 805, 805, 0), none), ((0, 0, 2, 1), none), ((0, 0, 12, 1), none)], [(0, 0), (1, 1), (2, 2)], [], [], [], [], [], [], none), [(0, 0, 99970)])]) (ss := []) (K := 1) (fuel := 4000) wd_fl_ok rfl (List.forall_mem_cons.mpr ⟨kh_61_ok, (List.forall_mem_cons.mpr ⟨kh_60_ok, (List.forall_mem_nil _)⟩)⟩) (by decide +kernel)
/- UtilityWorksModel leads -/
def kh_64 : ct_T := (358, [(2, 805, 805, 0), (0, 0, 2, 1), (0, 0, 12, 1)], [], [], [(1, (0, 1, 1, 0), [(2, 805, 805, 0), (0, 0, 2, 1), (0, 0, 12, 1)], [], ([], [])), (1, (0, 0, 0, 0), [(2, 805, 805, 0), (0, 0, 2, 1), (0, 0, 12, 1)], [], ([], []))], [], 3, 66, 0)
theorem kh_64_ok : ct_ok wd_fl kh_64 := ct_of (ff := wd_ff) (y := (⟨"UtilityWorksModel", "leads", "(II)Z"⟩, prog_14_method_21_code, 3, some .boolean, 12, 1, 2, 32211, 32210, 5006, 21014)) (Cs := [kh_62, kh_63]) (an := [(22, 0, ([((2, 805, 805, 0), none), ((0, 0, 2, 1), none), ((0, 0, 12, 1), none)], [(0, 0), (1, 1), (2, 2)], [], [], [], [], [], [], none), [(0, 0, 99978)])]) (ss := []) (K := 1) (fuel := 4000) wd_fl_ok rfl (List.forall_mem_cons.mpr ⟨kh_62_ok, (List.forall_mem_cons.mpr ⟨kh_63_ok, (List.forall_mem_nil _)⟩)⟩) (by decide +kernel)
/- UtilityWorksModel link -/
def kh_65 : ct_T := (357, [(2, 805, 805, 0), (0, 0, 2, 1), (0, 0, 16, 1)], [], [], [(1, (0, 140, 340, 4), [(2, 805, 805, 0), (0, 0, 2, 1), (0, 0, 16, 1)], [], ([], []))], [], 0, 0, 0)
theorem kh_65_ok : ct_ok wd_fl kh_65 := ct_of (ff := wd_ff) (y := (⟨"UtilityWorksModel", "link", "(II)I"⟩, prog_14_method_16_code, 3, some .int, 12, 1, 2, 32207, 32206, 5005, 21014)) (Cs := []) (an := []) (ss := []) (K := 1) (fuel := 4000) wd_fl_ok rfl (List.forall_mem_nil _) (by decide +kernel)
/- UtilityWorksModel hasLink -/
def kh_66 : ct_T := (356, [(2, 805, 805, 0), (0, 0, 2, 1), (0, 0, 16, 1)], [], [], [(1, (0, 0, 0, 0), [(2, 805, 805, 0), (0, 0, 2, 1), (0, 0, 16, 1)], [], ([], [])), (1, (0, 1, 1, 0), [(2, 805, 805, 0), (0, 0, 2, 1), (0, 0, 16, 1)], [], ([], []))], [], 1, 22, 0)
theorem kh_66_ok : ct_ok wd_fl kh_66 := ct_of (ff := wd_ff) (y := (⟨"UtilityWorksModel", "hasLink", "(II)Z"⟩, prog_14_method_17_code, 3, some .boolean, 12, 1, 2, 32203, 32202, 5004, 21014)) (Cs := [kh_65]) (an := []) (ss := []) (K := 1) (fuel := 4000) wd_fl_ok rfl (List.forall_mem_cons.mpr ⟨kh_65_ok, (List.forall_mem_nil _)⟩) (by decide +kernel)
/- UtilityWorksModel isFine -/
def kh_67 : ct_T := (359, [(2, 805, 805, 0), (0, 0, 2, 1), (0, 0, 16, 1)], [], [], [(1, (0, 1, 1, 0), [(2, 805, 805, 0), (0, 0, 2, 1), (0, 0, 16, 1)], [], ([], [])), (1, (0, 0, 0, 0), [(2, 805, 805, 0), (0, 0, 2, 1), (0, 0, 16, 1)], [], ([], []))], [], 2, 44, 0)
theorem kh_67_ok : ct_ok wd_fl kh_67 := ct_of (ff := wd_ff) (y := (⟨"UtilityWorksModel", "isFine", "(II)Z"⟩, prog_14_method_19_code, 3, some .boolean, 12, 1, 2, 32215, 32214, 5007, 21014)) (Cs := [kh_66, kh_65]) (an := [(30, 0, ([((2, 805, 805, 0), none), ((0, 0, 2, 1), none), ((0, 0, 16, 1), none)], [(0, 0), (1, 1), (2, 2)], [], [], [], [], [], [], none), [(0, 0, 99970)])]) (ss := []) (K := 1) (fuel := 4000) wd_fl_ok rfl (List.forall_mem_cons.mpr ⟨kh_66_ok, (List.forall_mem_cons.mpr ⟨kh_65_ok, (List.forall_mem_nil _)⟩)⟩) (by decide +kernel)
/- UtilityWorksModel isOn -/
def kh_68 : ct_T := (360, [(2, 805, 805, 0), (0, 0, 2, 1), (0, 0, 16, 1)], [], [], [(1, (0, 1, 1, 0), [(2, 805, 805, 0), (0, 0, 2, 1), (0, 0, 16, 1)], [], ([], [])), (1, (0, 0, 0, 0), [(2, 805, 805, 0), (0, 0, 2, 1), (0, 0, 16, 1)], [], ([], []))], [], 2, 44, 0)
theorem kh_68_ok : ct_ok wd_fl kh_68 := ct_of (ff := wd_ff) (y := (⟨"UtilityWorksModel", "isOn", "(II)Z"⟩, prog_14_method_20_code, 3, some .boolean, 12, 1, 2, 32219, 32218, 5008, 21014)) (Cs := [kh_66, kh_65]) (an := [(30, 0, ([((2, 805, 805, 0), none), ((0, 0, 2, 1), none), ((0, 0, 16, 1), none)], [(0, 0), (1, 1), (2, 2)], [], [], [], [], [], [], none), [(0, 0, 99970)])]) (ss := []) (K := 1) (fuel := 4000) wd_fl_ok rfl (List.forall_mem_cons.mpr ⟨kh_66_ok, (List.forall_mem_cons.mpr ⟨kh_65_ok, (List.forall_mem_nil _)⟩)⟩) (by decide +kernel)
/- UtilityWorksModel leads -/
def kh_69 : ct_T := (358, [(2, 805, 805, 0), (0, 0, 2, 1), (0, 0, 16, 1)], [], [], [(1, (0, 1, 1, 0), [(2, 805, 805, 0), (0, 0, 2, 1), (0, 0, 16, 1)], [], ([], [])), (1, (0, 0, 0, 0), [(2, 805, 805, 0), (0, 0, 2, 1), (0, 0, 16, 1)], [], ([], []))], [], 3, 66, 0)
theorem kh_69_ok : ct_ok wd_fl kh_69 := ct_of (ff := wd_ff) (y := (⟨"UtilityWorksModel", "leads", "(II)Z"⟩, prog_14_method_21_code, 3, some .boolean, 12, 1, 2, 32211, 32210, 5006, 21014)) (Cs := [kh_67, kh_68]) (an := [(22, 0, ([((2, 805, 805, 0), none), ((0, 0, 2, 1), none), ((0, 0, 16, 1), none)], [(0, 0), (1, 1), (2, 2)], [], [], [], [], [], [], none), [(0, 0, 99978)])]) (ss := []) (K := 1) (fuel := 4000) wd_fl_ok rfl (List.forall_mem_cons.mpr ⟨kh_67_ok, (List.forall_mem_cons.mpr ⟨kh_68_ok, (List.forall_mem_nil _)⟩)⟩) (by decide +kernel)
abbrev kh_reachFrom_y : mt_T := (⟨"UtilityWorksModel", "reachFrom", "(III)V"⟩, prog_14_method_22_code, 7, none, 12, 1, 3, 32234, 32233, 5010, 21014)
def kh_reachFrom : ct_T := (364, [(2, 805, 805, 0), (0, 0, 2, 1), (0, 0, 11, 1), (0, (-1), 16, 1)], [], [], [(0, (0, 0, 0, 0), [(2, 805, 805, 0), (0, 0, 2, 1), (0, 0, 11, 1), (0, (-1), 16, 1)], [], ([], []))], [((813, 813), (0, 11, 1))], 4, 88, 0)
def kh_reachFrom_a37 : an_T := (37, 0, ([((2, 805, 805, 0), none), ((0, 0, 2, 1), none), ((0, 0, 11, 1), none), ((0, (-1), 16, 1), none), ((0, 0, 1, 1), none)], [(0, 0), (1, 1), (2, 2), (3, 3), (4, 4)], [], [], [], [], [], [], none), [])
def kh_reachFrom_a48 : an_T := (48, 0, ([((2, 805, 805, 0), none), ((0, 0, 2, 1), none), ((0, 0, 11, 1), none), ((0, (-1), 16, 1), none), ((0, 0, 1, 1), none), ((0, 0, 17, 1), none)], [(0, 0), (1, 1), (2, 2), (3, 3), (4, 4), (5, 5)], [], [], [], [], [], [], none), [])
def kh_reachFrom_a3 : an_T := (3, 0, ([((2, 805, 805, 0), none), ((0, 0, 2, 1), none), ((0, 0, 11, 1), none), ((0, (-1), 16, 1), none), ((0, 0, 12, 1), none)], [(0, 0), (1, 1), (2, 2), (3, 3), (4, 4)], [], [], [], [], [], [], none), [(1, 4, 13)])
def kh_reachFrom_b48_0 : sg_T := (37, 0, ([((2, 805, 805, 0), none), ((0, 0, 2, 1), none), ((0, 0, 11, 1), none), ((0, (-1), 16, 1), none), ((0, 0, 1, 1), none), ((0, 17, 17, 1), none), ((0, 17, 17, 0), none)], [(0, 0), (1, 1), (2, 2), (3, 3), (4, 4), (5, 5)], [], [], [], [(200000, 6, 5)], [], [], some []))
def kh_reachFrom_b48_1 : sg_T := (48, 0, ([((2, 805, 805, 0), none), ((0, 0, 2, 1), none), ((0, 0, 11, 1), none), ((0, (-1), 16, 1), none), ((0, 0, 1, 1), none), ((0, 0, 16, 1), none), ((0, 17, 17, 0), none), ((2, 813, 813, 1), none), ((0, 0, 10, 1), none), ((0, 0, 1, 1), none), ((2, 813, 813, 1), none), ((0, 1, 11, 1), none), ((0, 0, 1, 1), none), ((0, 0, 0, 0), none), ((0, 1, 17, 1), some (5, 1))], [(5, 14), (6, 13), (0, 0), (1, 1), (2, 2), (3, 3), (4, 4)], [], [(10, 11, 12), (7, 8, 9)], [], [(300000, 9, 12), (800012, 10, 11), (1100011, 5, 5), (800009, 7, 8), (1000008, 5, 5), (100000, 5, 6)], [], [], some []))
def kh_reachFrom_b48_2 : sg_T := (48, 0, ([((2, 805, 805, 0), none), ((0, 0, 2, 1), none), ((0, 0, 11, 1), none), ((0, 0, 16, 1), none), ((0, 0, 1, 1), none), ((0, 0, 16, 1), none), ((0, 17, 17, 0), none), ((2, 813, 813, 1), none), ((0, 0, 10, 1), none), ((0, 0, 1, 1), none), ((2, 813, 813, 1), none), ((0, 1, 11, 1), none), ((0, 0, 1, 1), none), ((0, 1, 1, 0), none), ((0, 1, 17, 1), some (5, 1))], [(5, 14), (6, 13), (0, 0), (1, 1), (2, 2), (3, 3), (4, 4)], [], [(10, 11, 12), (7, 8, 9)], [(13, 0)], [(300000, 5, 3), (400000, 9, 12), (800012, 10, 11), (1100011, 5, 5), (800009, 7, 8), (1000008, 5, 5), (100000, 5, 6)], [], [], some []))
def kh_reachFrom_b48_3 : sg_T := (48, 0, ([((2, 805, 805, 0), none), ((0, 0, 2, 1), none), ((0, 0, 11, 1), none), ((0, (-1), 16, 1), none), ((0, 0, 1, 1), none), ((0, 0, 16, 1), none), ((0, 17, 17, 0), none), ((2, 813, 813, 1), none), ((0, 0, 10, 1), none), ((0, 0, 1, 1), none), ((2, 813, 813, 1), none), ((0, 1, 11, 1), none), ((0, 0, 1, 1), none), ((0, 1, 1, 0), none), ((0, 1, 1, 0), none), ((2, 813, 813, 1), none), ((0, 0, 10, 1), none), ((0, 1, 1, 0), none), ((2, 813, 813, 1), none), ((0, 1, 11, 1), none), ((0, 1, 1, 0), none), ((0, 1, 1, 0), none), ((0, 1, 17, 1), some (5, 1))], [(5, 22), (4, 21), (6, 13), (0, 0), (1, 1), (2, 2), (3, 3)], [], [(18, 19, 20)], [(14, 0), (13, 0)], [(1100019, 5, 5), (1000016, 5, 5), (400000, 5, 3), (400000, 9, 12), (800012, 10, 11), (1100011, 5, 5), (800009, 7, 8), (1000008, 5, 5), (100000, 5, 6)], [], [], some [(18, 19, 20), (15, 16, 17)]))
def kh_reachFrom_b48_4 : sg_T := (48, 0, ([((2, 805, 805, 0), none), ((0, 0, 2, 1), none), ((0, 0, 11, 1), none), ((0, (-1), 16, 1), none), ((0, 0, 1, 1), none), ((0, 0, 16, 1), none), ((0, 17, 17, 0), none), ((2, 813, 813, 1), none), ((0, 0, 10, 1), none), ((0, 0, 1, 1), none), ((2, 813, 813, 1), none), ((0, 1, 11, 1), none), ((0, 0, 1, 1), none), ((0, 1, 1, 0), none), ((0, 0, 0, 0), none), ((0, 1, 17, 1), some (5, 1))], [(5, 15), (6, 13), (0, 0), (1, 1), (2, 2), (3, 3), (4, 4)], [], [(10, 11, 12), (7, 8, 9)], [(13, 0)], [(400000, 5, 3), (400000, 9, 12), (800012, 10, 11), (1100011, 5, 5), (800009, 7, 8), (1000008, 5, 5), (100000, 5, 6)], [], [], some []))
def kh_reachFrom_e0 : sg_T := (37, 0, ([((2, 805, 805, 0), none), ((0, 0, 2, 1), none), ((0, 0, 11, 1), none), ((0, (-1), 16, 1), none), ((0, 12, 12, 1), none), ((0, 12, 12, 0), none), ((0, 1, 1, 0), none)], [(4, 6), (0, 0), (1, 1), (2, 2), (3, 3)], [], [], [], [], [], [], none))
def kh_reachFrom_b37_0 : sg_T := (140, 0, ([((2, 805, 805, 0), none), ((0, 0, 2, 1), none), ((0, 0, 11, 1), none), ((0, (-1), 16, 1), none), ((0, 0, 0, 1), none)], [(0, 0), (1, 1), (2, 2), (3, 3), (4, 4)], [], [], [], [], [], [], some []))
def kh_reachFrom_b37_1 : sg_T := (48, 0, ([((2, 805, 805, 0), none), ((0, 0, 2, 1), none), ((0, 0, 11, 1), none), ((0, (-1), 16, 1), none), ((0, 1, 1, 1), none), ((0, 0, 0, 0), none), ((0, 0, 0, 0), none)], [(5, 6), (4, 5), (0, 0), (1, 1), (2, 2), (3, 3)], [], [], [(4, 0)], [], [], [], some []))
theorem kh_reachFrom_ok : ct_ok wd_fl kh_reachFrom := ct_hand (ff := wd_ff) (y := kh_reachFrom_y) (Cs := [kh_low, kh_high, kh_4, kh_9, kh_14, kh_19, kh_24, kh_29, kh_34, kh_39, kh_44, kh_49, kh_54, kh_59, kh_64, kh_69]) wd_fl_ok rfl (List.forall_mem_cons.mpr ⟨kh_low_ok, (List.forall_mem_cons.mpr ⟨kh_high_ok, (List.forall_mem_cons.mpr ⟨kh_4_ok, (List.forall_mem_cons.mpr ⟨kh_9_ok, (List.forall_mem_cons.mpr ⟨kh_14_ok, (List.forall_mem_cons.mpr ⟨kh_19_ok, (List.forall_mem_cons.mpr ⟨kh_24_ok, (List.forall_mem_cons.mpr ⟨kh_29_ok, (List.forall_mem_cons.mpr ⟨kh_34_ok, (List.forall_mem_cons.mpr ⟨kh_39_ok, (List.forall_mem_cons.mpr ⟨kh_44_ok, (List.forall_mem_cons.mpr ⟨kh_49_ok, (List.forall_mem_cons.mpr ⟨kh_54_ok, (List.forall_mem_cons.mpr ⟨kh_59_ok, (List.forall_mem_cons.mpr ⟨kh_64_ok, (List.forall_mem_cons.mpr ⟨kh_69_ok, (List.forall_mem_nil _)⟩)⟩)⟩)⟩)⟩)⟩)⟩)⟩)⟩)⟩)⟩)⟩)⟩)⟩)⟩)⟩) (by decide +kernel) (fun l D tc ad kd N sm xs S p e s m args below meth c sz lv G H0 => by
  have hx : xs.length = 4 := by rw [H0.2.1.1]; rfl
  have hbd : ∀ (α : List av_X) (A : as_T) (lv : List (Nat × Value)) (st : List Value) (S1 : fw_S), as_in ad sm wd_fl xs S kh_reachFrom.2.2.2.2.2.1 α A lv st S1 → q_rg A ((813, 813), (0, 11, 1), (0, 0, 1, 1)) = true → 0 ≤ sm_S (S1.1 813) 12 ∧ sm_S (S1.1 813) 12 ≤ 12 := by
    intro α A lv st S1 H hq
    have h1 := q_rg_in hq H
    have := sm_bd (f := S1.1 813) (lo := 0) (hi := 1) (n := 12) (fun j hj => rg_bd h1 (by omega))
    omega
  have hX : ∀ (α : List av_X) (lv : List (Nat × Value)) (S1 : fw_S), as_in ad sm wd_fl xs S kh_reachFrom.2.2.2.2.2.1 α kh_reachFrom_a37.2.2.1 lv [] S1 → nv α 4 = 0 → hd_W wd_fl kh_reachFrom kh_reachFrom_y l D tc ad kd N sm xs S p e s m args below meth c sz 37 lv [] S1 0 := by
    intro α lv S1 H h0
    have hg := (en_nv (i := 4) H.2.1 rfl).1
    rw [h0] at hg
    exact hd_run G (ss := []) (A := ([((2, 805, 805, 0), none), ((0, 0, 2, 1), none), ((0, 0, 11, 1), none), ((0, (-1), 16, 1), none), ((0, 0, 0, 0), none)], [(0, 0), (1, 1), (2, 2), (3, 3), (4, 4)], [], [], [], [], [], [], none)) (fuel := 20) (by decide +kernel) (as_set (i := 4) (q := ((0, 0, 1, 1), none)) (a := (0, 0, 0, 0)) H hg rfl ⟨rfl, ⟨by decide, by decide⟩, Int.le_refl _, Int.le_refl _, Int.dvd_refl _⟩)
  have hW : ∀ (k : Nat) (α : List av_X) (lv : List (Nat × Value)) (S1 : fw_S), as_in ad sm wd_fl xs S kh_reachFrom.2.2.2.2.2.1 α kh_reachFrom_a37.2.2.1 lv [] S1 → (12 - sm_S (S1.1 813) 12).toNat < k → hd_W wd_fl kh_reachFrom kh_reachFrom_y l D tc ad kd N sm xs S p e s m args below meth c sz 37 lv [] S1 0 := by
    intro k
    induction k with
    | zero => intro α lv S1 _ h; omega
    | succ k ih =>
    intro α lv S1 H hk
    have hI : ∀ (j : Nat) (α : List av_X) (lv : List (Nat × Value)) (S2 : fw_S), as_in ad sm wd_fl xs S kh_reachFrom.2.2.2.2.2.1 α kh_reachFrom_a48.2.2.1 lv [] S2 → sm_S (S1.1 813) 12 ≤ sm_S (S2.1 813) 12 → (nv α 4 = 0 ∨ sm_S (S1.1 813) 12 < sm_S (S2.1 813) 12) → (17 - nv α 5).toNat < j → hd_W wd_fl kh_reachFrom kh_reachFrom_y l D tc ad kd N sm xs S p e s m args below meth c sz 48 lv [] S2 0 := by
      intro j
      induction j with
      | zero => intro α lv S2 _ _ _ h; omega
      | succ j ihj =>
      intro α lv S2 H2 hR hg hj
      obtain ⟨α1, hle, Hr⟩ := as_rec_in (pl := []) rfl H2
      have hf := H2.2.2.2.2.2.2.2.2.2.2.1
      have hl1 : α1.length = 6 := by rw [Hr.2.1.1]; rfl
      have hl0 : α.length = 6 := by rw [H2.2.1.1]; rfl
      have hxa : al_le xs α1 := H2.1.trans hle
      refine hd_seg G (na := 6) (fuel := 400) (first := true) (Bs := [kh_reachFrom_b48_0, kh_reachFrom_b48_1, kh_reachFrom_b48_2, kh_reachFrom_b48_3, kh_reachFrom_b48_4]) (by decide +kernel) hl1 Hr ?_
      intro q hq β lv' st' S' H1
      simp only [List.mem_cons, List.not_mem_nil, or_false] at hq
      rcases hq with rfl | rfl | rfl | rfl | rfl
      · have Ha := hd_go (q := kh_reachFrom_a37) (n := 0) (by decide +kernel) hx H1 hxa hf
        have hst : st' = [] := by
          have := H1.2.2.2.1
          match st', this with
          | [], _ => rfl
          | _ :: _, z => exact z.elim
        subst hst
        have eg : nv α1 4 = nv α 4 := nv_le hle (by omega)
        have et : nv α1 5 = nv α 5 := nv_le hle (by omega)
        have eg1 : nv β 4 = nv α1 4 := nv_le H1.1 (by omega)
        have et1 : nv β 5 = nv α1 5 := nv_le H1.1 (by omega)
        have hb := hbd _ _ _ _ _ H2 (by decide +kernel)
        obtain ⟨f1, f2, f3, f4, f5⟩ := as_fx H1
        simp only [kh_reachFrom_b48_0, fx_env, fx_c, fx_ne, fx_hf, wl_S, Nat.zero_add, Nat.reduceAdd, Nat.reduceDiv, Nat.reduceMod, List.getElem?_cons_zero, List.getElem?_cons_succ, if_true, and_true, true_and] at f1 f2 f3 f4 f5
        have fe0 : nv β 0 = 805 := by omega
        have fe5 : nv β 5 = 17 := by omega
        have fe6 : nv β 6 = 17 := by omega
        simp only [fe0, fe5, fe6, Int.reduceToNat] at f2 f3 f4 f5
        rw [f5] at Ha ⊢
        rcases hg with hg | hg
        · exact hX _ _ _ Ha (by rw [nv_mu (v := 4) rfl]; omega)
        · exact ih _ _ _ Ha (by omega)
      · have Ha := hd_go (q := kh_reachFrom_a48) (n := 0) (by decide +kernel) hx H1 hxa hf
        have hst : st' = [] := by
          have := H1.2.2.2.1
          match st', this with
          | [], _ => rfl
          | _ :: _, z => exact z.elim
        subst hst
        have eg : nv α1 4 = nv α 4 := nv_le hle (by omega)
        have et : nv α1 5 = nv α 5 := nv_le hle (by omega)
        have eg1 : nv β 4 = nv α1 4 := nv_le H1.1 (by omega)
        have et1 : nv β 5 = nv α1 5 := nv_le H1.1 (by omega)
        have hb := hbd _ _ _ _ _ H2 (by decide +kernel)
        obtain ⟨f1, f2, f3, f4, f5⟩ := as_fx H1
        simp only [kh_reachFrom_b48_1, fx_env, fx_c, fx_ne, fx_hf, wl_S, Nat.zero_add, Nat.reduceAdd, Nat.reduceDiv, Nat.reduceMod, List.getElem?_cons_zero, List.getElem?_cons_succ, if_true, and_true, true_and] at f1 f2 f3 f4 f5
        have fe0 : nv β 0 = 805 := by omega
        have fe6 : nv β 6 = 17 := by omega
        have fe7 : nv β 7 = 813 := by omega
        have fe10 : nv β 10 = 813 := by omega
        have fe13 : nv β 13 = 0 := by omega
        simp only [fe0, fe6, fe7, fe10, fe13, Int.reduceToNat] at f2 f3 f4 f5
        rw [f5] at Ha ⊢
        refine ihj _ _ _ Ha (by omega) (by rw [nv_mu (v := 4) rfl]; omega) (by rw [nv_mu (v := 14) rfl]; omega)
      · have Ha := hd_go (q := kh_reachFrom_a48) (n := 0) (by decide +kernel) hx H1 hxa hf
        have hst : st' = [] := by
          have := H1.2.2.2.1
          match st', this with
          | [], _ => rfl
          | _ :: _, z => exact z.elim
        subst hst
        have eg : nv α1 4 = nv α 4 := nv_le hle (by omega)
        have et : nv α1 5 = nv α 5 := nv_le hle (by omega)
        have eg1 : nv β 4 = nv α1 4 := nv_le H1.1 (by omega)
        have et1 : nv β 5 = nv α1 5 := nv_le H1.1 (by omega)
        have hb := hbd _ _ _ _ _ H2 (by decide +kernel)
        obtain ⟨f1, f2, f3, f4, f5⟩ := as_fx H1
        simp only [kh_reachFrom_b48_2, fx_env, fx_c, fx_ne, fx_hf, wl_S, Nat.zero_add, Nat.reduceAdd, Nat.reduceDiv, Nat.reduceMod, List.getElem?_cons_zero, List.getElem?_cons_succ, if_true, and_true, true_and] at f1 f2 f3 f4 f5
        have fe0 : nv β 0 = 805 := by omega
        have fe6 : nv β 6 = 17 := by omega
        have fe7 : nv β 7 = 813 := by omega
        have fe10 : nv β 10 = 813 := by omega
        have fe13 : nv β 13 = 1 := by omega
        simp only [fe0, fe6, fe7, fe10, fe13, Int.reduceToNat] at f2 f3 f4 f5
        rw [f5] at Ha ⊢
        refine ihj _ _ _ Ha (by omega) (by rw [nv_mu (v := 4) rfl]; omega) (by rw [nv_mu (v := 14) rfl]; omega)
      · have Ha := hd_go (q := kh_reachFrom_a48) (n := 0) (by decide +kernel) hx H1 hxa hf
        have hst : st' = [] := by
          have := H1.2.2.2.1
          match st', this with
          | [], _ => rfl
          | _ :: _, z => exact z.elim
        subst hst
        have eg : nv α1 4 = nv α 4 := nv_le hle (by omega)
        have et : nv α1 5 = nv α 5 := nv_le hle (by omega)
        have eg1 : nv β 4 = nv α1 4 := nv_le H1.1 (by omega)
        have et1 : nv β 5 = nv α1 5 := nv_le H1.1 (by omega)
        have hb := hbd _ _ _ _ _ H2 (by decide +kernel)
        obtain ⟨f1, f2, f3, f4, f5⟩ := as_fx H1
        simp only [kh_reachFrom_b48_3, fx_env, fx_c, fx_ne, fx_hf, wl_S, Nat.zero_add, Nat.reduceAdd, Nat.reduceDiv, Nat.reduceMod, List.getElem?_cons_zero, List.getElem?_cons_succ, if_true, and_true, true_and] at f1 f2 f3 f4 f5
        have fe0 : nv β 0 = 805 := by omega
        have fe6 : nv β 6 = 17 := by omega
        have fe7 : nv β 7 = 813 := by omega
        have fe10 : nv β 10 = 813 := by omega
        have fe13 : nv β 13 = 1 := by omega
        have fe14 : nv β 14 = 1 := by omega
        have fe15 : nv β 15 = 813 := by omega
        have fe17 : nv β 17 = 1 := by omega
        have fe18 : nv β 18 = 813 := by omega
        have fe20 : nv β 20 = 1 := by omega
        have fe21 : nv β 21 = 1 := by omega
        simp only [fe0, fe6, fe7, fe10, fe13, fe14, fe15, fe17, fe18, fe20, fe21, Int.reduceToNat] at f2 f3 f4 f5
        obtain ⟨c0, c1, c2, c3, c4, c5, c6, c7, c8⟩ := f2
        have oL := old_0 c6 rfl
        have oH := old_0 c4 rfl
        have d1 := c1
        simp only [wd_fl] at d1
        have d7 := c7
        simp only [wd_fl] at d7
        have d0 := c0
        simp only [wd_fl] at d0
        have d5 := c5
        simp only [wd_fl] at d5
        have hlh : lowI (nv β 5) < highI (nv β 5) := by
          have : nv β 5 / 3 ≤ 5 := by omega
          unfold highI lowI; (repeat' split) <;> omega
        have hR2 : sm_S (S2.1 813) 12 < sm_S (S'.1 813) 12 := by
          rw [f5, sm_i (by omega), sm_i (by omega), fw_i_row, if_neg (by omega), i32_of (by omega) (by omega)]
          have u1 : nv β 16 = nv β 8 := by omega
          have u2 : nv β 19 = nv β 11 := by omega
          rw [u1, u2, oL, oH]
          omega
        refine ihj _ _ _ Ha (by omega) (Or.inr (by omega)) (by rw [nv_mu (v := 22) rfl]; omega)
      · have Ha := hd_go (q := kh_reachFrom_a48) (n := 0) (by decide +kernel) hx H1 hxa hf
        have hst : st' = [] := by
          have := H1.2.2.2.1
          match st', this with
          | [], _ => rfl
          | _ :: _, z => exact z.elim
        subst hst
        have eg : nv α1 4 = nv α 4 := nv_le hle (by omega)
        have et : nv α1 5 = nv α 5 := nv_le hle (by omega)
        have eg1 : nv β 4 = nv α1 4 := nv_le H1.1 (by omega)
        have et1 : nv β 5 = nv α1 5 := nv_le H1.1 (by omega)
        have hb := hbd _ _ _ _ _ H2 (by decide +kernel)
        obtain ⟨f1, f2, f3, f4, f5⟩ := as_fx H1
        simp only [kh_reachFrom_b48_4, fx_env, fx_c, fx_ne, fx_hf, wl_S, Nat.zero_add, Nat.reduceAdd, Nat.reduceDiv, Nat.reduceMod, List.getElem?_cons_zero, List.getElem?_cons_succ, if_true, and_true, true_and] at f1 f2 f3 f4 f5
        have fe0 : nv β 0 = 805 := by omega
        have fe6 : nv β 6 = 17 := by omega
        have fe7 : nv β 7 = 813 := by omega
        have fe10 : nv β 10 = 813 := by omega
        have fe13 : nv β 13 = 1 := by omega
        have fe14 : nv β 14 = 0 := by omega
        simp only [fe0, fe6, fe7, fe10, fe13, fe14, Int.reduceToNat] at f2 f3 f4 f5
        rw [f5] at Ha ⊢
        refine ihj _ _ _ Ha (by omega) (by rw [nv_mu (v := 4) rfl]; omega) (by rw [nv_mu (v := 15) rfl]; omega)
    obtain ⟨α1, hle, Hr⟩ := as_rec_in (pl := []) rfl H
    have hf := H.2.2.2.2.2.2.2.2.2.2.1
    have hl1 : α1.length = 5 := by rw [Hr.2.1.1]; rfl
    have hxa : al_le xs α1 := H.1.trans hle
    refine hd_seg G (na := 5) (fuel := 400) (first := true) (Bs := [kh_reachFrom_b37_0, kh_reachFrom_b37_1]) (by decide +kernel) hl1 Hr ?_
    intro q hq β lv' st' S' H1
    simp only [List.mem_cons, List.not_mem_nil, or_false] at hq
    rcases hq with rfl | rfl
    · exact hd_run G (ss := []) (fuel := 10) (by decide +kernel) (as_back H1 hxa hf)
    · have Ha := hd_go (q := kh_reachFrom_a48) (n := 0) (by decide +kernel) hx H1 hxa hf
      have hst : st' = [] := by
        have := H1.2.2.2.1
        match st', this with
        | [], _ => rfl
        | _ :: _, z => exact z.elim
      subst hst
      obtain ⟨f1, f2, f3, f4, f5⟩ := as_fx H1
      simp only [kh_reachFrom_b37_1, fx_env, fx_c, fx_ne, fx_hf, wl_S, Nat.zero_add, Nat.reduceAdd, Nat.reduceDiv, Nat.reduceMod, List.getElem?_cons_zero, List.getElem?_cons_succ, if_true, and_true, true_and] at f1 f2 f3 f4 f5
      have fe0 : nv β 0 = 805 := by omega
      have fe4 : nv β 4 = 1 := by omega
      have fe5 : nv β 5 = 0 := by omega
      have fe6 : nv β 6 = 0 := by omega
      simp only [fe0, fe4, fe5, fe6, Int.reduceToNat] at f2 f3 f4 f5
      rw [f5] at Ha ⊢
      exact hI _ _ _ _ Ha (Int.le_refl _) (Or.inl (by rw [nv_mu (v := 5) rfl]; omega)) (Nat.lt_succ_self _)
  refine hd_segA G (na := 4) (K := 1) (fuel := 400) (an := [kh_reachFrom_a3]) (ss := []) (Bs := [kh_reachFrom_e0]) (by decide +kernel) hx H0 ?_
  intro q hq β lv' st' S' H1
  simp only [List.mem_cons, List.not_mem_nil, or_false] at hq
  rcases hq with rfl
  · have hst : st' = [] := by
      have := H1.2.2.2.1
      match st', this with
      | [], _ => rfl
      | _ :: _, z => exact z.elim
    subst hst
    exact hW _ _ _ _ (hd_go (q := kh_reachFrom_a37) (n := 0) (by decide +kernel) hx H1 al_le.refl H0.2.2.2.2.2.2.2.2.2.2.1) (Nat.lt_succ_self _))
abbrev kh_sideOf_y : mt_T := (⟨"UtilityWorksModel", "sideOf", "(I)V"⟩, prog_14_method_86_code, 4, none, 12, 1, 1, 34110, 34109, 10010, 21014)
def kh_sideOf : ct_T := (454, [(2, 805, 805, 0), (0, 0, 16, 1)], [], [], [(0, (0, 0, 0, 0), [(2, 805, 805, 0), (0, 0, 16, 1)], [], ([], []))], [((825, 825), (0, 11, 1))], 2, 40, 0)
def kh_sideOf_a35 : an_T := (35, 0, ([((2, 805, 805, 0), none), ((0, 0, 16, 1), none), ((0, 0, 1, 1), none)], [(0, 0), (1, 1), (2, 2)], [], [], [], [], [], [], none), [])
def kh_sideOf_a43 : an_T := (43, 0, ([((2, 805, 805, 0), none), ((0, 0, 16, 1), none), ((0, 0, 1, 1), none), ((0, 0, 17, 1), none)], [(0, 0), (1, 1), (2, 2), (3, 3)], [], [], [], [], [], [], none), [])
def kh_sideOf_a2 : an_T := (2, 0, ([((2, 805, 805, 0), none), ((0, 0, 16, 1), none), ((0, 0, 12, 1), none)], [(0, 0), (1, 1), (2, 2)], [], [], [], [], [], [], none), [(1, 2, 13)])
def kh_sideOf_b43_0 : sg_T := (35, 0, ([((2, 805, 805, 0), none), ((0, 0, 16, 1), none), ((0, 0, 1, 1), none), ((0, 17, 17, 1), none), ((0, 17, 17, 0), none)], [(0, 0), (1, 1), (2, 2), (3, 3)], [], [], [], [(200000, 4, 3)], [], [], some []))
def kh_sideOf_b43_1 : sg_T := (43, 0, ([((2, 805, 805, 0), none), ((0, 0, 16, 1), none), ((0, 0, 1, 1), none), ((0, 0, 16, 1), none), ((0, 17, 17, 0), none), ((0, 1, 17, 1), some (3, 1))], [(3, 5), (0, 0), (1, 1), (2, 2)], [], [], [], [(300000, 3, 1), (100000, 3, 4)], [], [], some []))
def kh_sideOf_b43_2 : sg_T := (43, 0, ([((2, 805, 805, 0), none), ((0, 0, 16, 1), none), ((0, 0, 1, 1), none), ((0, 0, 16, 1), none), ((0, 17, 17, 0), none), ((2, 815, 815, 1), none), ((0, 0, 0, 1), none), ((0, 1, 17, 1), some (3, 1))], [(3, 7), (0, 0), (1, 1), (2, 2)], [], [(5, 3, 6)], [], [(800006, 5, 3), (400000, 3, 1), (100000, 3, 4)], [], [], some []))
def kh_sideOf_b43_3 : sg_T := (43, 0, ([((2, 805, 805, 0), none), ((0, 0, 16, 1), none), ((0, 0, 1, 1), none), ((0, 0, 16, 1), none), ((0, 17, 17, 0), none), ((2, 815, 815, 1), none), ((0, 1, 1, 1), none), ((2, 825, 825, 1), none), ((0, 0, 10, 1), none), ((0, 0, 1, 1), none), ((2, 825, 825, 1), none), ((0, 1, 11, 1), none), ((0, 0, 1, 1), none), ((0, 1, 17, 1), some (3, 1))], [(3, 13), (0, 0), (1, 1), (2, 2)], [], [(10, 11, 12), (7, 8, 9), (5, 3, 6)], [(6, 0)], [(300000, 9, 12), (800012, 10, 11), (1100011, 3, 3), (800009, 7, 8), (1000008, 3, 3), (800006, 5, 3), (400000, 3, 1), (100000, 3, 4)], [], [], some []))
def kh_sideOf_b43_4 : sg_T := (43, 0, ([((2, 805, 805, 0), none), ((0, 0, 16, 1), none), ((0, 0, 1, 1), none), ((0, 0, 16, 1), none), ((0, 17, 17, 0), none), ((2, 815, 815, 1), none), ((0, 1, 1, 1), none), ((2, 825, 825, 1), none), ((0, 0, 10, 1), none), ((0, 0, 1, 1), none), ((2, 825, 825, 1), none), ((0, 1, 11, 1), none), ((0, 0, 1, 1), none), ((2, 825, 825, 1), none), ((0, 0, 10, 1), none), ((0, 1, 1, 0), none), ((2, 825, 825, 1), none), ((0, 1, 11, 1), none), ((0, 1, 1, 0), none), ((0, 1, 1, 0), none), ((0, 1, 17, 1), some (3, 1))], [(3, 20), (2, 19), (0, 0), (1, 1)], [], [(16, 17, 18), (5, 3, 6)], [(6, 0)], [(1100017, 3, 3), (1000014, 3, 3), (400000, 9, 12), (800012, 10, 11), (1100011, 3, 3), (800009, 7, 8), (1000008, 3, 3), (800006, 5, 3), (400000, 3, 1), (100000, 3, 4)], [], [], some [(16, 17, 18), (13, 14, 15)]))
def kh_sideOf_e0 : sg_T := (35, 0, ([((2, 805, 805, 0), none), ((0, 0, 16, 1), none), ((0, 12, 12, 1), none), ((0, 12, 12, 0), none), ((0, 1, 1, 0), none)], [(2, 4), (0, 0), (1, 1)], [], [], [], [], [], [], none))
def kh_sideOf_b35_0 : sg_T := (115, 0, ([((2, 805, 805, 0), none), ((0, 0, 16, 1), none), ((0, 0, 0, 1), none)], [(0, 0), (1, 1), (2, 2)], [], [], [], [], [], [], some []))
def kh_sideOf_b35_1 : sg_T := (43, 0, ([((2, 805, 805, 0), none), ((0, 0, 16, 1), none), ((0, 1, 1, 1), none), ((0, 0, 0, 0), none), ((0, 0, 0, 0), none)], [(3, 4), (2, 3), (0, 0), (1, 1)], [], [], [(2, 0)], [], [], [], some []))
theorem kh_sideOf_ok : ct_ok wd_fl kh_sideOf := ct_hand (ff := wd_ff) (y := kh_sideOf_y) (Cs := [kh_low, kh_high]) wd_fl_ok rfl (List.forall_mem_cons.mpr ⟨kh_low_ok, (List.forall_mem_cons.mpr ⟨kh_high_ok, (List.forall_mem_nil _)⟩)⟩) (by decide +kernel) (fun l D tc ad kd N sm xs S p e s m args below meth c sz lv G H0 => by
  have hx : xs.length = 2 := by rw [H0.2.1.1]; rfl
  have hbd : ∀ (α : List av_X) (A : as_T) (lv : List (Nat × Value)) (st : List Value) (S1 : fw_S), as_in ad sm wd_fl xs S kh_sideOf.2.2.2.2.2.1 α A lv st S1 → q_rg A ((825, 825), (0, 11, 1), (0, 0, 1, 1)) = true → 0 ≤ sm_S (S1.1 825) 12 ∧ sm_S (S1.1 825) 12 ≤ 12 := by
    intro α A lv st S1 H hq
    have h1 := q_rg_in hq H
    have := sm_bd (f := S1.1 825) (lo := 0) (hi := 1) (n := 12) (fun j hj => rg_bd h1 (by omega))
    omega
  have hX : ∀ (α : List av_X) (lv : List (Nat × Value)) (S1 : fw_S), as_in ad sm wd_fl xs S kh_sideOf.2.2.2.2.2.1 α kh_sideOf_a35.2.2.1 lv [] S1 → nv α 2 = 0 → hd_W wd_fl kh_sideOf kh_sideOf_y l D tc ad kd N sm xs S p e s m args below meth c sz 35 lv [] S1 0 := by
    intro α lv S1 H h0
    have hg := (en_nv (i := 2) H.2.1 rfl).1
    rw [h0] at hg
    exact hd_run G (ss := []) (A := ([((2, 805, 805, 0), none), ((0, 0, 16, 1), none), ((0, 0, 0, 0), none)], [(0, 0), (1, 1), (2, 2)], [], [], [], [], [], [], none)) (fuel := 20) (by decide +kernel) (as_set (i := 2) (q := ((0, 0, 1, 1), none)) (a := (0, 0, 0, 0)) H hg rfl ⟨rfl, ⟨by decide, by decide⟩, Int.le_refl _, Int.le_refl _, Int.dvd_refl _⟩)
  have hW : ∀ (k : Nat) (α : List av_X) (lv : List (Nat × Value)) (S1 : fw_S), as_in ad sm wd_fl xs S kh_sideOf.2.2.2.2.2.1 α kh_sideOf_a35.2.2.1 lv [] S1 → (12 - sm_S (S1.1 825) 12).toNat < k → hd_W wd_fl kh_sideOf kh_sideOf_y l D tc ad kd N sm xs S p e s m args below meth c sz 35 lv [] S1 0 := by
    intro k
    induction k with
    | zero => intro α lv S1 _ h; omega
    | succ k ih =>
    intro α lv S1 H hk
    have hI : ∀ (j : Nat) (α : List av_X) (lv : List (Nat × Value)) (S2 : fw_S), as_in ad sm wd_fl xs S kh_sideOf.2.2.2.2.2.1 α kh_sideOf_a43.2.2.1 lv [] S2 → sm_S (S1.1 825) 12 ≤ sm_S (S2.1 825) 12 → (nv α 2 = 0 ∨ sm_S (S1.1 825) 12 < sm_S (S2.1 825) 12) → (17 - nv α 3).toNat < j → hd_W wd_fl kh_sideOf kh_sideOf_y l D tc ad kd N sm xs S p e s m args below meth c sz 43 lv [] S2 0 := by
      intro j
      induction j with
      | zero => intro α lv S2 _ _ _ h; omega
      | succ j ihj =>
      intro α lv S2 H2 hR hg hj
      obtain ⟨α1, hle, Hr⟩ := as_rec_in (pl := []) rfl H2
      have hf := H2.2.2.2.2.2.2.2.2.2.2.1
      have hl1 : α1.length = 4 := by rw [Hr.2.1.1]; rfl
      have hl0 : α.length = 4 := by rw [H2.2.1.1]; rfl
      have hxa : al_le xs α1 := H2.1.trans hle
      refine hd_seg G (na := 4) (fuel := 400) (first := true) (Bs := [kh_sideOf_b43_0, kh_sideOf_b43_1, kh_sideOf_b43_2, kh_sideOf_b43_3, kh_sideOf_b43_4]) (by decide +kernel) hl1 Hr ?_
      intro q hq β lv' st' S' H1
      simp only [List.mem_cons, List.not_mem_nil, or_false] at hq
      rcases hq with rfl | rfl | rfl | rfl | rfl
      · have Ha := hd_go (q := kh_sideOf_a35) (n := 0) (by decide +kernel) hx H1 hxa hf
        have hst : st' = [] := by
          have := H1.2.2.2.1
          match st', this with
          | [], _ => rfl
          | _ :: _, z => exact z.elim
        subst hst
        have eg : nv α1 2 = nv α 2 := nv_le hle (by omega)
        have et : nv α1 3 = nv α 3 := nv_le hle (by omega)
        have eg1 : nv β 2 = nv α1 2 := nv_le H1.1 (by omega)
        have et1 : nv β 3 = nv α1 3 := nv_le H1.1 (by omega)
        have hb := hbd _ _ _ _ _ H2 (by decide +kernel)
        obtain ⟨f1, f2, f3, f4, f5⟩ := as_fx H1
        simp only [kh_sideOf_b43_0, fx_env, fx_c, fx_ne, fx_hf, wl_S, Nat.zero_add, Nat.reduceAdd, Nat.reduceDiv, Nat.reduceMod, List.getElem?_cons_zero, List.getElem?_cons_succ, if_true, and_true, true_and] at f1 f2 f3 f4 f5
        have fe0 : nv β 0 = 805 := by omega
        have fe3 : nv β 3 = 17 := by omega
        have fe4 : nv β 4 = 17 := by omega
        simp only [fe0, fe3, fe4, Int.reduceToNat] at f2 f3 f4 f5
        rw [f5] at Ha ⊢
        rcases hg with hg | hg
        · exact hX _ _ _ Ha (by rw [nv_mu (v := 2) rfl]; omega)
        · exact ih _ _ _ Ha (by omega)
      · have Ha := hd_go (q := kh_sideOf_a43) (n := 0) (by decide +kernel) hx H1 hxa hf
        have hst : st' = [] := by
          have := H1.2.2.2.1
          match st', this with
          | [], _ => rfl
          | _ :: _, z => exact z.elim
        subst hst
        have eg : nv α1 2 = nv α 2 := nv_le hle (by omega)
        have et : nv α1 3 = nv α 3 := nv_le hle (by omega)
        have eg1 : nv β 2 = nv α1 2 := nv_le H1.1 (by omega)
        have et1 : nv β 3 = nv α1 3 := nv_le H1.1 (by omega)
        have hb := hbd _ _ _ _ _ H2 (by decide +kernel)
        obtain ⟨f1, f2, f3, f4, f5⟩ := as_fx H1
        simp only [kh_sideOf_b43_1, fx_env, fx_c, fx_ne, fx_hf, wl_S, Nat.zero_add, Nat.reduceAdd, Nat.reduceDiv, Nat.reduceMod, List.getElem?_cons_zero, List.getElem?_cons_succ, if_true, and_true, true_and] at f1 f2 f3 f4 f5
        have fe0 : nv β 0 = 805 := by omega
        have fe4 : nv β 4 = 17 := by omega
        simp only [fe0, fe4, Int.reduceToNat] at f2 f3 f4 f5
        rw [f5] at Ha ⊢
        refine ihj _ _ _ Ha (by omega) (by rw [nv_mu (v := 2) rfl]; omega) (by rw [nv_mu (v := 5) rfl]; omega)
      · have Ha := hd_go (q := kh_sideOf_a43) (n := 0) (by decide +kernel) hx H1 hxa hf
        have hst : st' = [] := by
          have := H1.2.2.2.1
          match st', this with
          | [], _ => rfl
          | _ :: _, z => exact z.elim
        subst hst
        have eg : nv α1 2 = nv α 2 := nv_le hle (by omega)
        have et : nv α1 3 = nv α 3 := nv_le hle (by omega)
        have eg1 : nv β 2 = nv α1 2 := nv_le H1.1 (by omega)
        have et1 : nv β 3 = nv α1 3 := nv_le H1.1 (by omega)
        have hb := hbd _ _ _ _ _ H2 (by decide +kernel)
        obtain ⟨f1, f2, f3, f4, f5⟩ := as_fx H1
        simp only [kh_sideOf_b43_2, fx_env, fx_c, fx_ne, fx_hf, wl_S, Nat.zero_add, Nat.reduceAdd, Nat.reduceDiv, Nat.reduceMod, List.getElem?_cons_zero, List.getElem?_cons_succ, if_true, and_true, true_and] at f1 f2 f3 f4 f5
        have fe0 : nv β 0 = 805 := by omega
        have fe4 : nv β 4 = 17 := by omega
        have fe5 : nv β 5 = 815 := by omega
        have fe6 : nv β 6 = 0 := by omega
        simp only [fe0, fe4, fe5, fe6, Int.reduceToNat] at f2 f3 f4 f5
        rw [f5] at Ha ⊢
        refine ihj _ _ _ Ha (by omega) (by rw [nv_mu (v := 2) rfl]; omega) (by rw [nv_mu (v := 7) rfl]; omega)
      · have Ha := hd_go (q := kh_sideOf_a43) (n := 0) (by decide +kernel) hx H1 hxa hf
        have hst : st' = [] := by
          have := H1.2.2.2.1
          match st', this with
          | [], _ => rfl
          | _ :: _, z => exact z.elim
        subst hst
        have eg : nv α1 2 = nv α 2 := nv_le hle (by omega)
        have et : nv α1 3 = nv α 3 := nv_le hle (by omega)
        have eg1 : nv β 2 = nv α1 2 := nv_le H1.1 (by omega)
        have et1 : nv β 3 = nv α1 3 := nv_le H1.1 (by omega)
        have hb := hbd _ _ _ _ _ H2 (by decide +kernel)
        obtain ⟨f1, f2, f3, f4, f5⟩ := as_fx H1
        simp only [kh_sideOf_b43_3, fx_env, fx_c, fx_ne, fx_hf, wl_S, Nat.zero_add, Nat.reduceAdd, Nat.reduceDiv, Nat.reduceMod, List.getElem?_cons_zero, List.getElem?_cons_succ, if_true, and_true, true_and] at f1 f2 f3 f4 f5
        have fe0 : nv β 0 = 805 := by omega
        have fe4 : nv β 4 = 17 := by omega
        have fe5 : nv β 5 = 815 := by omega
        have fe6 : nv β 6 = 1 := by omega
        have fe7 : nv β 7 = 825 := by omega
        have fe10 : nv β 10 = 825 := by omega
        simp only [fe0, fe4, fe5, fe6, fe7, fe10, Int.reduceToNat] at f2 f3 f4 f5
        rw [f5] at Ha ⊢
        refine ihj _ _ _ Ha (by omega) (by rw [nv_mu (v := 2) rfl]; omega) (by rw [nv_mu (v := 13) rfl]; omega)
      · have Ha := hd_go (q := kh_sideOf_a43) (n := 0) (by decide +kernel) hx H1 hxa hf
        have hst : st' = [] := by
          have := H1.2.2.2.1
          match st', this with
          | [], _ => rfl
          | _ :: _, z => exact z.elim
        subst hst
        have eg : nv α1 2 = nv α 2 := nv_le hle (by omega)
        have et : nv α1 3 = nv α 3 := nv_le hle (by omega)
        have eg1 : nv β 2 = nv α1 2 := nv_le H1.1 (by omega)
        have et1 : nv β 3 = nv α1 3 := nv_le H1.1 (by omega)
        have hb := hbd _ _ _ _ _ H2 (by decide +kernel)
        obtain ⟨f1, f2, f3, f4, f5⟩ := as_fx H1
        simp only [kh_sideOf_b43_4, fx_env, fx_c, fx_ne, fx_hf, wl_S, Nat.zero_add, Nat.reduceAdd, Nat.reduceDiv, Nat.reduceMod, List.getElem?_cons_zero, List.getElem?_cons_succ, if_true, and_true, true_and] at f1 f2 f3 f4 f5
        have fe0 : nv β 0 = 805 := by omega
        have fe4 : nv β 4 = 17 := by omega
        have fe5 : nv β 5 = 815 := by omega
        have fe6 : nv β 6 = 1 := by omega
        have fe7 : nv β 7 = 825 := by omega
        have fe10 : nv β 10 = 825 := by omega
        have fe13 : nv β 13 = 825 := by omega
        have fe15 : nv β 15 = 1 := by omega
        have fe16 : nv β 16 = 825 := by omega
        have fe18 : nv β 18 = 1 := by omega
        have fe19 : nv β 19 = 1 := by omega
        simp only [fe0, fe4, fe5, fe6, fe7, fe10, fe13, fe15, fe16, fe18, fe19, Int.reduceToNat] at f2 f3 f4 f5
        obtain ⟨c0, c1, c2, c3, c4, c5, c6, c7, c8, c9⟩ := f2
        have oL := old_0 c5 rfl
        have oH := old_0 c3 rfl
        have d1 := c1
        simp only [wd_fl] at d1
        have d6 := c6
        simp only [wd_fl] at d6
        have d0 := c0
        simp only [wd_fl] at d0
        have d4 := c4
        simp only [wd_fl] at d4
        have hlh : lowI (nv β 3) < highI (nv β 3) := by
          have : nv β 3 / 3 ≤ 5 := by omega
          unfold highI lowI; (repeat' split) <;> omega
        have hR2 : sm_S (S2.1 825) 12 < sm_S (S'.1 825) 12 := by
          rw [f5, sm_i (by omega), sm_i (by omega), fw_i_row, if_neg (by omega), i32_of (by omega) (by omega)]
          have u1 : nv β 14 = nv β 8 := by omega
          have u2 : nv β 17 = nv β 11 := by omega
          rw [u1, u2, oL, oH]
          omega
        refine ihj _ _ _ Ha (by omega) (Or.inr (by omega)) (by rw [nv_mu (v := 20) rfl]; omega)
    obtain ⟨α1, hle, Hr⟩ := as_rec_in (pl := []) rfl H
    have hf := H.2.2.2.2.2.2.2.2.2.2.1
    have hl1 : α1.length = 3 := by rw [Hr.2.1.1]; rfl
    have hxa : al_le xs α1 := H.1.trans hle
    refine hd_seg G (na := 3) (fuel := 400) (first := true) (Bs := [kh_sideOf_b35_0, kh_sideOf_b35_1]) (by decide +kernel) hl1 Hr ?_
    intro q hq β lv' st' S' H1
    simp only [List.mem_cons, List.not_mem_nil, or_false] at hq
    rcases hq with rfl | rfl
    · exact hd_run G (ss := []) (fuel := 10) (by decide +kernel) (as_back H1 hxa hf)
    · have Ha := hd_go (q := kh_sideOf_a43) (n := 0) (by decide +kernel) hx H1 hxa hf
      have hst : st' = [] := by
        have := H1.2.2.2.1
        match st', this with
        | [], _ => rfl
        | _ :: _, z => exact z.elim
      subst hst
      obtain ⟨f1, f2, f3, f4, f5⟩ := as_fx H1
      simp only [kh_sideOf_b35_1, fx_env, fx_c, fx_ne, fx_hf, wl_S, Nat.zero_add, Nat.reduceAdd, Nat.reduceDiv, Nat.reduceMod, List.getElem?_cons_zero, List.getElem?_cons_succ, if_true, and_true, true_and] at f1 f2 f3 f4 f5
      have fe0 : nv β 0 = 805 := by omega
      have fe2 : nv β 2 = 1 := by omega
      have fe3 : nv β 3 = 0 := by omega
      have fe4 : nv β 4 = 0 := by omega
      simp only [fe0, fe2, fe3, fe4, Int.reduceToNat] at f2 f3 f4 f5
      rw [f5] at Ha ⊢
      exact hI _ _ _ _ Ha (Int.le_refl _) (Or.inl (by rw [nv_mu (v := 3) rfl]; omega)) (Nat.lt_succ_self _)
  refine hd_segA G (na := 2) (K := 1) (fuel := 400) (an := [kh_sideOf_a2]) (ss := []) (Bs := [kh_sideOf_e0]) (by decide +kernel) hx H0 ?_
  intro q hq β lv' st' S' H1
  simp only [List.mem_cons, List.not_mem_nil, or_false] at hq
  rcases hq with rfl
  · have hst : st' = [] := by
      have := H1.2.2.2.1
      match st', this with
      | [], _ => rfl
      | _ :: _, z => exact z.elim
    subst hst
    exact hW _ _ _ _ (hd_go (q := kh_sideOf_a35) (n := 0) (by decide +kernel) hx H1 al_le.refl H0.2.2.2.2.2.2.2.2.2.2.1) (Nat.lt_succ_self _))
/- UtilityWorksModel link -/
def kh_70 : ct_T := (357, [(2, 805, 805, 0), (0, 2, 2, 0), (0, 0, 0, 0)], [], [], [(1, (0, 276, 276, 0), [(2, 805, 805, 0), (0, 2, 2, 0), (0, 0, 0, 0)], [], ([], []))], [], 0, 0, 0)
theorem kh_70_ok : ct_ok wd_fl kh_70 := ct_of (ff := wd_ff) (y := (⟨"UtilityWorksModel", "link", "(II)I"⟩, prog_14_method_16_code, 3, some .int, 12, 1, 2, 32207, 32206, 5005, 21014)) (Cs := []) (an := []) (ss := []) (K := 1) (fuel := 4000) wd_fl_ok rfl (List.forall_mem_nil _) (by decide +kernel)
/- UtilityWorksModel hasLink -/
def kh_71 : ct_T := (356, [(2, 805, 805, 0), (0, 2, 2, 0), (0, 0, 0, 0)], [], [], [(1, (0, 0, 0, 0), [(2, 805, 805, 0), (0, 2, 2, 0), (0, 0, 0, 0)], [], ([], [])), (1, (0, 1, 1, 0), [(2, 805, 805, 0), (0, 2, 2, 0), (0, 0, 0, 0)], [((806, 806), (276, 276, 0), (0, 1, 1, 1))], ([], []))], [], 1, 22, 0)
theorem kh_71_ok : ct_ok wd_fl kh_71 := ct_of (ff := wd_ff) (y := (⟨"UtilityWorksModel", "hasLink", "(II)Z"⟩, prog_14_method_17_code, 3, some .boolean, 12, 1, 2, 32203, 32202, 5004, 21014)) (Cs := [kh_70]) (an := []) (ss := []) (K := 1) (fuel := 4000) wd_fl_ok rfl (List.forall_mem_cons.mpr ⟨kh_70_ok, (List.forall_mem_nil _)⟩) (by decide +kernel)
/- UtilityWorksModel isFine -/
def kh_72 : ct_T := (359, [(2, 805, 805, 0), (0, 2, 2, 0), (0, 0, 0, 0)], [], [], [(1, (0, 1, 1, 0), [(2, 805, 805, 0), (0, 2, 2, 0), (0, 0, 0, 0)], [((806, 806), (276, 276, 0), (0, 1, 1, 1)), ((806, 806), (278, 278, 0), (0, 1, 1, 1))], ([], [])), (1, (0, 0, 0, 0), [(2, 805, 805, 0), (0, 2, 2, 0), (0, 0, 0, 0)], [], ([], []))], [], 2, 44, 0)
theorem kh_72_ok : ct_ok wd_fl kh_72 := ct_of (ff := wd_ff) (y := (⟨"UtilityWorksModel", "isFine", "(II)Z"⟩, prog_14_method_19_code, 3, some .boolean, 12, 1, 2, 32215, 32214, 5007, 21014)) (Cs := [kh_71, kh_70]) (an := [(30, 0, ([((2, 805, 805, 0), none), ((0, 2, 2, 0), none), ((0, 0, 0, 0), none)], [(0, 0), (1, 1), (2, 2)], [], [], [], [], [], [], none), [(0, 0, 99970)])]) (ss := []) (K := 1) (fuel := 4000) wd_fl_ok rfl (List.forall_mem_cons.mpr ⟨kh_71_ok, (List.forall_mem_cons.mpr ⟨kh_70_ok, (List.forall_mem_nil _)⟩)⟩) (by decide +kernel)
/- UtilityWorksModel isOn -/
def kh_73 : ct_T := (360, [(2, 805, 805, 0), (0, 2, 2, 0), (0, 0, 0, 0)], [], [], [(1, (0, 1, 1, 0), [(2, 805, 805, 0), (0, 2, 2, 0), (0, 0, 0, 0)], [((806, 806), (276, 276, 0), (0, 1, 1, 1)), ((806, 806), (279, 279, 0), (0, 1, 1, 1))], ([], [])), (1, (0, 0, 0, 0), [(2, 805, 805, 0), (0, 2, 2, 0), (0, 0, 0, 0)], [], ([], []))], [], 2, 44, 0)
theorem kh_73_ok : ct_ok wd_fl kh_73 := ct_of (ff := wd_ff) (y := (⟨"UtilityWorksModel", "isOn", "(II)Z"⟩, prog_14_method_20_code, 3, some .boolean, 12, 1, 2, 32219, 32218, 5008, 21014)) (Cs := [kh_71, kh_70]) (an := [(30, 0, ([((2, 805, 805, 0), none), ((0, 2, 2, 0), none), ((0, 0, 0, 0), none)], [(0, 0), (1, 1), (2, 2)], [], [], [], [], [], [], none), [(0, 0, 99970)])]) (ss := []) (K := 1) (fuel := 4000) wd_fl_ok rfl (List.forall_mem_cons.mpr ⟨kh_71_ok, (List.forall_mem_cons.mpr ⟨kh_70_ok, (List.forall_mem_nil _)⟩)⟩) (by decide +kernel)
/- UtilityWorksModel leads -/
def kh_74 : ct_T := (358, [(2, 805, 805, 0), (0, 2, 2, 0), (0, 0, 0, 0)], [], [], [(1, (0, 1, 1, 0), [(2, 805, 805, 0), (0, 2, 2, 0), (0, 0, 0, 0)], [((806, 806), (276, 276, 0), (0, 1, 1, 1)), ((806, 806), (278, 278, 0), (0, 1, 1, 1)), ((806, 806), (279, 279, 0), (0, 1, 1, 1))], ([], [])), (1, (0, 0, 0, 0), [(2, 805, 805, 0), (0, 2, 2, 0), (0, 0, 0, 0)], [], ([], []))], [], 3, 66, 0)
theorem kh_74_ok : ct_ok wd_fl kh_74 := ct_of (ff := wd_ff) (y := (⟨"UtilityWorksModel", "leads", "(II)Z"⟩, prog_14_method_21_code, 3, some .boolean, 12, 1, 2, 32211, 32210, 5006, 21014)) (Cs := [kh_72, kh_73]) (an := [(22, 0, ([((2, 805, 805, 0), none), ((0, 2, 2, 0), none), ((0, 0, 0, 0), none)], [(0, 0), (1, 1), (2, 2)], [], [], [], [], [], [], none), [(0, 0, 99978)])]) (ss := []) (K := 1) (fuel := 4000) wd_fl_ok rfl (List.forall_mem_cons.mpr ⟨kh_72_ok, (List.forall_mem_cons.mpr ⟨kh_73_ok, (List.forall_mem_nil _)⟩)⟩) (by decide +kernel)
/- UtilityWorksModel link -/
def kh_75 : ct_T := (357, [(2, 805, 805, 0), (0, 2, 2, 0), (0, 0, 1, 1)], [], [], [(1, (0, 276, 280, 4), [(2, 805, 805, 0), (0, 2, 2, 0), (0, 0, 1, 1)], [], ([], []))], [], 0, 0, 0)
theorem kh_75_ok : ct_ok wd_fl kh_75 := ct_of (ff := wd_ff) (y := (⟨"UtilityWorksModel", "link", "(II)I"⟩, prog_14_method_16_code, 3, some .int, 12, 1, 2, 32207, 32206, 5005, 21014)) (Cs := []) (an := []) (ss := []) (K := 1) (fuel := 4000) wd_fl_ok rfl (List.forall_mem_nil _) (by decide +kernel)
/- UtilityWorksModel hasLink -/
def kh_76 : ct_T := (356, [(2, 805, 805, 0), (0, 2, 2, 0), (0, 0, 1, 1)], [], [], [(1, (0, 0, 0, 0), [(2, 805, 805, 0), (0, 2, 2, 0), (0, 0, 1, 1)], [], ([], [])), (1, (0, 1, 1, 0), [(2, 805, 805, 0), (0, 2, 2, 0), (0, 0, 1, 1)], [], ([], []))], [], 1, 22, 0)
theorem kh_76_ok : ct_ok wd_fl kh_76 := ct_of (ff := wd_ff) (y := (⟨"UtilityWorksModel", "hasLink", "(II)Z"⟩, prog_14_method_17_code, 3, some .boolean, 12, 1, 2, 32203, 32202, 5004, 21014)) (Cs := [kh_75]) (an := []) (ss := []) (K := 1) (fuel := 4000) wd_fl_ok rfl (List.forall_mem_cons.mpr ⟨kh_75_ok, (List.forall_mem_nil _)⟩) (by decide +kernel)
/- UtilityWorksModel isFine -/
def kh_77 : ct_T := (359, [(2, 805, 805, 0), (0, 2, 2, 0), (0, 0, 1, 1)], [], [], [(1, (0, 1, 1, 0), [(2, 805, 805, 0), (0, 2, 2, 0), (0, 0, 1, 1)], [], ([], [])), (1, (0, 0, 0, 0), [(2, 805, 805, 0), (0, 2, 2, 0), (0, 0, 1, 1)], [], ([], []))], [], 2, 44, 0)
theorem kh_77_ok : ct_ok wd_fl kh_77 := ct_of (ff := wd_ff) (y := (⟨"UtilityWorksModel", "isFine", "(II)Z"⟩, prog_14_method_19_code, 3, some .boolean, 12, 1, 2, 32215, 32214, 5007, 21014)) (Cs := [kh_76, kh_75]) (an := [(30, 0, ([((2, 805, 805, 0), none), ((0, 2, 2, 0), none), ((0, 0, 1, 1), none)], [(0, 0), (1, 1), (2, 2)], [], [], [], [], [], [], none), [(0, 0, 99970)])]) (ss := []) (K := 1) (fuel := 4000) wd_fl_ok rfl (List.forall_mem_cons.mpr ⟨kh_76_ok, (List.forall_mem_cons.mpr ⟨kh_75_ok, (List.forall_mem_nil _)⟩)⟩) (by decide +kernel)
/- UtilityWorksModel isOn -/
def kh_78 : ct_T := (360, [(2, 805, 805, 0), (0, 2, 2, 0), (0, 0, 1, 1)], [], [], [(1, (0, 1, 1, 0), [(2, 805, 805, 0), (0, 2, 2, 0), (0, 0, 1, 1)], [], ([], [])), (1, (0, 0, 0, 0), [(2, 805, 805, 0), (0, 2, 2, 0), (0, 0, 1, 1)], [], ([], []))], [], 2, 44, 0)
theorem kh_78_ok : ct_ok wd_fl kh_78 := ct_of (ff := wd_ff) (y := (⟨"UtilityWorksModel", "isOn", "(II)Z"⟩, prog_14_method_20_code, 3, some .boolean, 12, 1, 2, 32219, 32218, 5008, 21014)) (Cs := [kh_76, kh_75]) (an := [(30, 0, ([((2, 805, 805, 0), none), ((0, 2, 2, 0), none), ((0, 0, 1, 1), none)], [(0, 0), (1, 1), (2, 2)], [], [], [], [], [], [], none), [(0, 0, 99970)])]) (ss := []) (K := 1) (fuel := 4000) wd_fl_ok rfl (List.forall_mem_cons.mpr ⟨kh_76_ok, (List.forall_mem_cons.mpr ⟨kh_75_ok, (List.forall_mem_nil _)⟩)⟩) (by decide +kernel)
/- UtilityWorksModel leads -/
def kh_79 : ct_T := (358, [(2, 805, 805, 0), (0, 2, 2, 0), (0, 0, 1, 1)], [], [], [(1, (0, 1, 1, 0), [(2, 805, 805, 0), (0, 2, 2, 0), (0, 0, 1, 1)], [], ([], [])), (1, (0, 0, 0, 0), [(2, 805, 805, 0), (0, 2, 2, 0), (0, 0, 1, 1)], [], ([], []))], [], 3, 66, 0)
theorem kh_79_ok : ct_ok wd_fl kh_79 := ct_of (ff := wd_ff) (y := (⟨"UtilityWorksModel", "leads", "(II)Z"⟩, prog_14_method_21_code, 3, some .boolean, 12, 1, 2, 32211, 32210, 5006, 21014)) (Cs := [kh_77, kh_78]) (an := [(22, 0, ([((2, 805, 805, 0), none), ((0, 2, 2, 0), none), ((0, 0, 1, 1), none)], [(0, 0), (1, 1), (2, 2)], [], [], [], [], [], [], none), [(0, 0, 99978)])]) (ss := []) (K := 1) (fuel := 4000) wd_fl_ok rfl (List.forall_mem_cons.mpr ⟨kh_77_ok, (List.forall_mem_cons.mpr ⟨kh_78_ok, (List.forall_mem_nil _)⟩)⟩) (by decide +kernel)
/- UtilityWorksModel link -/
def kh_80 : ct_T := (357, [(2, 805, 805, 0), (0, 2, 2, 0), (0, 0, 2, 1)], [], [], [(1, (0, 276, 284, 4), [(2, 805, 805, 0), (0, 2, 2, 0), (0, 0, 2, 1)], [], ([], []))], [], 0, 0, 0)
theorem kh_80_ok : ct_ok wd_fl kh_80 := ct_of (ff := wd_ff) (y := (⟨"UtilityWorksModel", "link", "(II)I"⟩, prog_14_method_16_code, 3, some .int, 12, 1, 2, 32207, 32206, 5005, 21014)) (Cs := []) (an := []) (ss := []) (K := 1) (fuel := 4000) wd_fl_ok rfl (List.forall_mem_nil _) (by decide +kernel)
/- UtilityWorksModel hasLink -/
def kh_81 : ct_T := (356, [(2, 805, 805, 0), (0, 2, 2, 0), (0, 0, 2, 1)], [], [], [(1, (0, 0, 0, 0), [(2, 805, 805, 0), (0, 2, 2, 0), (0, 0, 2, 1)], [], ([], [])), (1, (0, 1, 1, 0), [(2, 805, 805, 0), (0, 2, 2, 0), (0, 0, 2, 1)], [], ([], []))], [], 1, 22, 0)
theorem kh_81_ok : ct_ok wd_fl kh_81 := ct_of (ff := wd_ff) (y := (⟨"UtilityWorksModel", "hasLink", "(II)Z"⟩, prog_14_method_17_code, 3, some .boolean, 12, 1, 2, 32203, 32202, 5004, 21014)) (Cs := [kh_80]) (an := []) (ss := []) (K := 1) (fuel := 4000) wd_fl_ok rfl (List.forall_mem_cons.mpr ⟨kh_80_ok, (List.forall_mem_nil _)⟩) (by decide +kernel)
/- UtilityWorksModel isFine -/
def kh_82 : ct_T := (359, [(2, 805, 805, 0), (0, 2, 2, 0), (0, 0, 2, 1)], [], [], [(1, (0, 1, 1, 0), [(2, 805, 805, 0), (0, 2, 2, 0), (0, 0, 2, 1)], [], ([], [])), (1, (0, 0, 0, 0), [(2, 805, 805, 0), (0, 2, 2, 0), (0, 0, 2, 1)], [], ([], []))], [], 2, 44, 0)
theorem kh_82_ok : ct_ok wd_fl kh_82 := ct_of (ff := wd_ff) (y := (⟨"UtilityWorksModel", "isFine", "(II)Z"⟩, prog_14_method_19_code, 3, some .boolean, 12, 1, 2, 32215, 32214, 5007, 21014)) (Cs := [kh_81, kh_80]) (an := [(30, 0, ([((2, 805, 805, 0), none), ((0, 2, 2, 0), none), ((0, 0, 2, 1), none)], [(0, 0), (1, 1), (2, 2)], [], [], [], [], [], [], none), [(0, 0, 99970)])]) (ss := []) (K := 1) (fuel := 4000) wd_fl_ok rfl (List.forall_mem_cons.mpr ⟨kh_81_ok, (List.forall_mem_cons.mpr ⟨kh_80_ok, (List.forall_mem_nil _)⟩)⟩) (by decide +kernel)
/- UtilityWorksModel isOn -/
def kh_83 : ct_T := (360, [(2, 805, 805, 0), (0, 2, 2, 0), (0, 0, 2, 1)], [], [], [(1, (0, 1, 1, 0), [(2, 805, 805, 0), (0, 2, 2, 0), (0, 0, 2, 1)], [], ([], [])), (1, (0, 0, 0, 0), [(2, 805, 805, 0), (0, 2, 2, 0), (0, 0, 2, 1)], [], ([], []))], [], 2, 44, 0)
theorem kh_83_ok : ct_ok wd_fl kh_83 := ct_of (ff := wd_ff) (y := (⟨"UtilityWorksModel", "isOn", "(II)Z"⟩, prog_14_method_20_code, 3, some .boolean, 12, 1, 2, 32219, 32218, 5008, 21014)) (Cs := [kh_81, kh_80]) (an := [(30, 0, ([((2, 805, 805, 0), none), ((0, 2, 2, 0), none), ((0, 0, 2, 1), none)], [(0, 0), (1, 1), (2, 2)], [], [], [], [], [], [], none), [(0, 0, 99970)])]) (ss := []) (K := 1) (fuel := 4000) wd_fl_ok rfl (List.forall_mem_cons.mpr ⟨kh_81_ok, (List.forall_mem_cons.mpr ⟨kh_80_ok, (List.forall_mem_nil _)⟩)⟩) (by decide +kernel)
/- UtilityWorksModel leads -/
def kh_84 : ct_T := (358, [(2, 805, 805, 0), (0, 2, 2, 0), (0, 0, 2, 1)], [], [], [(1, (0, 1, 1, 0), [(2, 805, 805, 0), (0, 2, 2, 0), (0, 0, 2, 1)], [], ([], [])), (1, (0, 0, 0, 0), [(2, 805, 805, 0), (0, 2, 2, 0), (0, 0, 2, 1)], [], ([], []))], [], 3, 66, 0)
theorem kh_84_ok : ct_ok wd_fl kh_84 := ct_of (ff := wd_ff) (y := (⟨"UtilityWorksModel", "leads", "(II)Z"⟩, prog_14_method_21_code, 3, some .boolean, 12, 1, 2, 32211, 32210, 5006, 21014)) (Cs := [kh_82, kh_83]) (an := [(22, 0, ([((2, 805, 805, 0), none), ((0, 2, 2, 0), none), ((0, 0, 2, 1), none)], [(0, 0), (1, 1), (2, 2)], [], [], [], [], [], [], none), [(0, 0, 99978)])]) (ss := []) (K := 1) (fuel := 4000) wd_fl_ok rfl (List.forall_mem_cons.mpr ⟨kh_82_ok, (List.forall_mem_cons.mpr ⟨kh_83_ok, (List.forall_mem_nil _)⟩)⟩) (by decide +kernel)
/- UtilityWorksModel link -/
def kh_85 : ct_T := (357, [(2, 805, 805, 0), (0, 2, 2, 0), (0, 0, 3, 1)], [], [], [(1, (0, 276, 288, 4), [(2, 805, 805, 0), (0, 2, 2, 0), (0, 0, 3, 1)], [], ([], []))], [], 0, 0, 0)
theorem kh_85_ok : ct_ok wd_fl kh_85 := ct_of (ff := wd_ff) (y := (⟨"UtilityWorksModel", "link", "(II)I"⟩, prog_14_method_16_code, 3, some .int, 12, 1, 2, 32207, 32206, 5005, 21014)) (Cs := []) (an := []) (ss := []) (K := 1) (fuel := 4000) wd_fl_ok rfl (List.forall_mem_nil _) (by decide +kernel)
/- UtilityWorksModel hasLink -/
def kh_86 : ct_T := (356, [(2, 805, 805, 0), (0, 2, 2, 0), (0, 0, 3, 1)], [], [], [(1, (0, 0, 0, 0), [(2, 805, 805, 0), (0, 2, 2, 0), (0, 0, 3, 1)], [], ([], [])), (1, (0, 1, 1, 0), [(2, 805, 805, 0), (0, 2, 2, 0), (0, 0, 3, 1)], [], ([], []))], [], 1, 22, 0)
theorem kh_86_ok : ct_ok wd_fl kh_86 := ct_of (ff := wd_ff) (y := (⟨"UtilityWorksModel", "hasLink", "(II)Z"⟩, prog_14_method_17_code, 3, some .boolean, 12, 1, 2, 32203, 32202, 5004, 21014)) (Cs := [kh_85]) (an := []) (ss := []) (K := 1) (fuel := 4000) wd_fl_ok rfl (List.forall_mem_cons.mpr ⟨kh_85_ok, (List.forall_mem_nil _)⟩) (by decide +kernel)
/- UtilityWorksModel isFine -/
def kh_87 : ct_T := (359, [(2, 805, 805, 0), (0, 2, 2, 0), (0, 0, 3, 1)], [], [], [(1, (0, 1, 1, 0), [(2, 805, 805, 0), (0, 2, 2, 0), (0, 0, 3, 1)], [], ([], [])), (1, (0, 0, 0, 0), [(2, 805, 805, 0), (0, 2, 2, 0), (0, 0, 3, 1)], [], ([], []))], [], 2, 44, 0)
theorem kh_87_ok : ct_ok wd_fl kh_87 := ct_of (ff := wd_ff) (y := (⟨"UtilityWorksModel", "isFine", "(II)Z"⟩, prog_14_method_19_code, 3, some .boolean, 12, 1, 2, 32215, 32214, 5007, 21014)) (Cs := [kh_86, kh_85]) (an := [(30, 0, ([((2, 805, 805, 0), none), ((0, 2, 2, 0), none), ((0, 0, 3, 1), none)], [(0, 0), (1, 1), (2, 2)], [], [], [], [], [], [], none), [(0, 0, 99970)])]) (ss := []) (K := 1) (fuel := 4000) wd_fl_ok rfl (List.forall_mem_cons.mpr ⟨kh_86_ok, (List.forall_mem_cons.mpr ⟨kh_85_ok, (List.forall_mem_nil _)⟩)⟩) (by decide +kernel)
/- UtilityWorksModel isOn -/
def kh_88 : ct_T := (360, [(2, 805, 805, 0), (0, 2, 2, 0), (0, 0, 3, 1)], [], [], [(1, (0, 1, 1, 0), [(2, 805, 805, 0), (0, 2, 2, 0), (0, 0, 3, 1)], [], ([], [])), (1, (0, 0, 0, 0), [(2, 805, 805, 0), (0, 2, 2, 0), (0, 0, 3, 1)], [], ([], []))], [], 2, 44, 0)
theorem kh_88_ok : ct_ok wd_fl kh_88 := ct_of (ff := wd_ff) (y := (⟨"UtilityWorksModel", "isOn", "(II)Z"⟩, prog_14_method_20_code, 3, some .boolean, 12, 1, 2, 32219, 32218, 5008, 21014)) (Cs := [kh_86, kh_85]) (an := [(30, 0, ([((2, 805, 805, 0), none), ((0, 2, 2, 0), none), ((0, 0, 3, 1), none)], [(0, 0), (1, 1), (2, 2)], [], [], [], [], [], [], none), [(0, 0, 99970)])]) (ss := []) (K := 1) (fuel := 4000) wd_fl_ok rfl (List.forall_mem_cons.mpr ⟨kh_86_ok, (List.forall_mem_cons.mpr ⟨kh_85_ok, (List.forall_mem_nil _)⟩)⟩) (by decide +kernel)
/- UtilityWorksModel leads -/
def kh_89 : ct_T := (358, [(2, 805, 805, 0), (0, 2, 2, 0), (0, 0, 3, 1)], [], [], [(1, (0, 1, 1, 0), [(2, 805, 805, 0), (0, 2, 2, 0), (0, 0, 3, 1)], [], ([], [])), (1, (0, 0, 0, 0), [(2, 805, 805, 0), (0, 2, 2, 0), (0, 0, 3, 1)], [], ([], []))], [], 3, 66, 0)
theorem kh_89_ok : ct_ok wd_fl kh_89 := ct_of (ff := wd_ff) (y := (⟨"UtilityWorksModel", "leads", "(II)Z"⟩, prog_14_method_21_code, 3, some .boolean, 12, 1, 2, 32211, 32210, 5006, 21014)) (Cs := [kh_87, kh_88]) (an := [(22, 0, ([((2, 805, 805, 0), none), ((0, 2, 2, 0), none), ((0, 0, 3, 1), none)], [(0, 0), (1, 1), (2, 2)], [], [], [], [], [], [], none), [(0, 0, 99978)])]) (ss := []) (K := 1) (fuel := 4000) wd_fl_ok rfl (List.forall_mem_cons.mpr ⟨kh_87_ok, (List.forall_mem_cons.mpr ⟨kh_88_ok, (List.forall_mem_nil _)⟩)⟩) (by decide +kernel)
/- UtilityWorksModel link -/
def kh_90 : ct_T := (357, [(2, 805, 805, 0), (0, 2, 2, 0), (0, 0, 4, 1)], [], [], [(1, (0, 276, 292, 4), [(2, 805, 805, 0), (0, 2, 2, 0), (0, 0, 4, 1)], [], ([], []))], [], 0, 0, 0)
theorem kh_90_ok : ct_ok wd_fl kh_90 := ct_of (ff := wd_ff) (y := (⟨"UtilityWorksModel", "link", "(II)I"⟩, prog_14_method_16_code, 3, some .int, 12, 1, 2, 32207, 32206, 5005, 21014)) (Cs := []) (an := []) (ss := []) (K := 1) (fuel := 4000) wd_fl_ok rfl (List.forall_mem_nil _) (by decide +kernel)
/- UtilityWorksModel hasLink -/
def kh_91 : ct_T := (356, [(2, 805, 805, 0), (0, 2, 2, 0), (0, 0, 4, 1)], [], [], [(1, (0, 0, 0, 0), [(2, 805, 805, 0), (0, 2, 2, 0), (0, 0, 4, 1)], [], ([], [])), (1, (0, 1, 1, 0), [(2, 805, 805, 0), (0, 2, 2, 0), (0, 0, 4, 1)], [], ([], []))], [], 1, 22, 0)
theorem kh_91_ok : ct_ok wd_fl kh_91 := ct_of (ff := wd_ff) (y := (⟨"UtilityWorksModel", "hasLink", "(II)Z"⟩, prog_14_method_17_code, 3, some .boolean, 12, 1, 2, 32203, 32202, 5004, 21014)) (Cs := [kh_90]) (an := []) (ss := []) (K := 1) (fuel := 4000) wd_fl_ok rfl (List.forall_mem_cons.mpr ⟨kh_90_ok, (List.forall_mem_nil _)⟩) (by decide +kernel)
/- UtilityWorksModel isFine -/
def kh_92 : ct_T := (359, [(2, 805, 805, 0), (0, 2, 2, 0), (0, 0, 4, 1)], [], [], [(1, (0, 1, 1, 0), [(2, 805, 805, 0), (0, 2, 2, 0), (0, 0, 4, 1)], [], ([], [])), (1, (0, 0, 0, 0), [(2, 805, 805, 0), (0, 2, 2, 0), (0, 0, 4, 1)], [], ([], []))], [], 2, 44, 0)
theorem kh_92_ok : ct_ok wd_fl kh_92 := ct_of (ff := wd_ff) (y := (⟨"UtilityWorksModel", "isFine", "(II)Z"⟩, prog_14_method_19_code, 3, some .boolean, 12, 1, 2, 32215, 32214, 5007, 21014)) (Cs := [kh_91, kh_90]) (an := [(30, 0, ([((2, 805, 805, 0), none), ((0, 2, 2, 0), none), ((0, 0, 4, 1), none)], [(0, 0), (1, 1), (2, 2)], [], [], [], [], [], [], none), [(0, 0, 99970)])]) (ss := []) (K := 1) (fuel := 4000) wd_fl_ok rfl (List.forall_mem_cons.mpr ⟨kh_91_ok, (List.forall_mem_cons.mpr ⟨kh_90_ok, (List.forall_mem_nil _)⟩)⟩) (by decide +kernel)
/- UtilityWorksModel isOn -/
def kh_93 : ct_T := (360, [(2, 805, 805, 0), (0, 2, 2, 0), (0, 0, 4, 1)], [], [], [(1, (0, 1, 1, 0), [(2, 805, 805, 0), (0, 2, 2, 0), (0, 0, 4, 1)], [], ([], [])), (1, (0, 0, 0, 0), [(2, 805, 805, 0), (0, 2, 2, 0), (0, 0, 4, 1)], [], ([], []))], [], 2, 44, 0)
theorem kh_93_ok : ct_ok wd_fl kh_93 := ct_of (ff := wd_ff) (y := (⟨"UtilityWorksModel", "isOn", "(II)Z"⟩, prog_14_method_20_code, 3, some .boolean, 12, 1, 2, 32219, 32218, 5008, 21014)) (Cs := [kh_91, kh_90]) (an := [(30, 0, ([((2, 805, 805, 0), none), ((0, 2, 2, 0), none), ((0, 0, 4, 1), none)], [(0, 0), (1, 1), (2, 2)], [], [], [], [], [], [], none), [(0, 0, 99970)])]) (ss := []) (K := 1) (fuel := 4000) wd_fl_ok rfl (List.forall_mem_cons.mpr ⟨kh_91_ok, (List.forall_mem_cons.mpr ⟨kh_90_ok, (List.forall_mem_nil _)⟩)⟩) (by decide +kernel)
/- UtilityWorksModel leads -/
def kh_94 : ct_T := (358, [(2, 805, 805, 0), (0, 2, 2, 0), (0, 0, 4, 1)], [], [], [(1, (0, 1, 1, 0), [(2, 805, 805, 0), (0, 2, 2, 0), (0, 0, 4, 1)], [], ([], [])), (1, (0, 0, 0, 0), [(2, 805, 805, 0), (0, 2, 2, 0), (0, 0, 4, 1)], [], ([], []))], [], 3, 66, 0)
theorem kh_94_ok : ct_ok wd_fl kh_94 := ct_of (ff := wd_ff) (y := (⟨"UtilityWorksModel", "leads", "(II)Z"⟩, prog_14_method_21_code, 3, some .boolean, 12, 1, 2, 32211, 32210, 5006, 21014)) (Cs := [kh_92, kh_93]) (an := [(22, 0, ([((2, 805, 805, 0), none), ((0, 2, 2, 0), none), ((0, 0, 4, 1), none)], [(0, 0), (1, 1), (2, 2)], [], [], [], [], [], [], none), [(0, 0, 99978)])]) (ss := []) (K := 1) (fuel := 4000) wd_fl_ok rfl (List.forall_mem_cons.mpr ⟨kh_92_ok, (List.forall_mem_cons.mpr ⟨kh_93_ok, (List.forall_mem_nil _)⟩)⟩) (by decide +kernel)
/- UtilityWorksModel link -/
def kh_95 : ct_T := (357, [(2, 805, 805, 0), (0, 2, 2, 0), (0, 0, 5, 1)], [], [], [(1, (0, 276, 296, 4), [(2, 805, 805, 0), (0, 2, 2, 0), (0, 0, 5, 1)], [], ([], []))], [], 0, 0, 0)
theorem kh_95_ok : ct_ok wd_fl kh_95 := ct_of (ff := wd_ff) (y := (⟨"UtilityWorksModel", "link", "(II)I"⟩, prog_14_method_16_code, 3, some .int, 12, 1, 2, 32207, 32206, 5005, 21014)) (Cs := []) (an := []) (ss := []) (K := 1) (fuel := 4000) wd_fl_ok rfl (List.forall_mem_nil _) (by decide +kernel)
/- UtilityWorksModel hasLink -/
def kh_96 : ct_T := (356, [(2, 805, 805, 0), (0, 2, 2, 0), (0, 0, 5, 1)], [], [], [(1, (0, 0, 0, 0), [(2, 805, 805, 0), (0, 2, 2, 0), (0, 0, 5, 1)], [], ([], [])), (1, (0, 1, 1, 0), [(2, 805, 805, 0), (0, 2, 2, 0), (0, 0, 5, 1)], [], ([], []))], [], 1, 22, 0)
theorem kh_96_ok : ct_ok wd_fl kh_96 := ct_of (ff := wd_ff) (y := (⟨"UtilityWorksModel", "hasLink", "(II)Z"⟩, prog_14_method_17_code, 3, some .boolean, 12, 1, 2, 32203, 32202, 5004, 21014)) (Cs := [kh_95]) (an := []) (ss := []) (K := 1) (fuel := 4000) wd_fl_ok rfl (List.forall_mem_cons.mpr ⟨kh_95_ok, (List.forall_mem_nil _)⟩) (by decide +kernel)
/- UtilityWorksModel isFine -/
def kh_97 : ct_T := (359, [(2, 805, 805, 0), (0, 2, 2, 0), (0, 0, 5, 1)], [], [], [(1, (0, 1, 1, 0), [(2, 805, 805, 0), (0, 2, 2, 0), (0, 0, 5, 1)], [], ([], [])), (1, (0, 0, 0, 0), [(2, 805, 805, 0), (0, 2, 2, 0), (0, 0, 5, 1)], [], ([], []))], [], 2, 44, 0)
theorem kh_97_ok : ct_ok wd_fl kh_97 := ct_of (ff := wd_ff) (y := (⟨"UtilityWorksModel", "isFine", "(II)Z"⟩, prog_14_method_19_code, 3, some .boolean, 12, 1, 2, 32215, 32214, 5007, 21014)) (Cs := [kh_96, kh_95]) (an := [(30, 0, ([((2, 805, 805, 0), none), ((0, 2, 2, 0), none), ((0, 0, 5, 1), none)], [(0, 0), (1, 1), (2, 2)], [], [], [], [], [], [], none), [(0, 0, 99970)])]) (ss := []) (K := 1) (fuel := 4000) wd_fl_ok rfl (List.forall_mem_cons.mpr ⟨kh_96_ok, (List.forall_mem_cons.mpr ⟨kh_95_ok, (List.forall_mem_nil _)⟩)⟩) (by decide +kernel)
/- UtilityWorksModel isOn -/
def kh_98 : ct_T := (360, [(2, 805, 805, 0), (0, 2, 2, 0), (0, 0, 5, 1)], [], [], [(1, (0, 1, 1, 0), [(2, 805, 805, 0), (0, 2, 2, 0), (0, 0, 5, 1)], [], ([], [])), (1, (0, 0, 0, 0), [(2, 805, 805, 0), (0, 2, 2, 0), (0, 0, 5, 1)], [], ([], []))], [], 2, 44, 0)
theorem kh_98_ok : ct_ok wd_fl kh_98 := ct_of (ff := wd_ff) (y := (⟨"UtilityWorksModel", "isOn", "(II)Z"⟩, prog_14_method_20_code, 3, some .boolean, 12, 1, 2, 32219, 32218, 5008, 21014)) (Cs := [kh_96, kh_95]) (an := [(30, 0, ([((2, 805, 805, 0), none), ((0, 2, 2, 0), none), ((0, 0, 5, 1), none)], [(0, 0), (1, 1), (2, 2)], [], [], [], [], [], [], none), [(0, 0, 99970)])]) (ss := []) (K := 1) (fuel := 4000) wd_fl_ok rfl (List.forall_mem_cons.mpr ⟨kh_96_ok, (List.forall_mem_cons.mpr ⟨kh_95_ok, (List.forall_mem_nil _)⟩)⟩) (by decide +kernel)
/- UtilityWorksModel leads -/
def kh_99 : ct_T := (358, [(2, 805, 805, 0), (0, 2, 2, 0), (0, 0, 5, 1)], [], [], [(1, (0, 1, 1, 0), [(2, 805, 805, 0), (0, 2, 2, 0), (0, 0, 5, 1)], [], ([], [])), (1, (0, 0, 0, 0), [(2, 805, 805, 0), (0, 2, 2, 0), (0, 0, 5, 1)], [], ([], []))], [], 3, 66, 0)
theorem kh_99_ok : ct_ok wd_fl kh_99 := ct_of (ff := wd_ff) (y := (⟨"UtilityWorksModel", "leads", "(II)Z"⟩, prog_14_method_21_code, 3, some .boolean, 12, 1, 2, 32211, 32210, 5006, 21014)) (Cs := [kh_97, kh_98]) (an := [(22, 0, ([((2, 805, 805, 0), none), ((0, 2, 2, 0), none), ((0, 0, 5, 1), none)], [(0, 0), (1, 1), (2, 2)], [], [], [], [], [], [], none), [(0, 0, 99978)])]) (ss := []) (K := 1) (fuel := 4000) wd_fl_ok rfl (List.forall_mem_cons.mpr ⟨kh_97_ok, (List.forall_mem_cons.mpr ⟨kh_98_ok, (List.forall_mem_nil _)⟩)⟩) (by decide +kernel)
/- UtilityWorksModel link -/
def kh_100 : ct_T := (357, [(2, 805, 805, 0), (0, 2, 2, 0), (0, 0, 6, 1)], [], [], [(1, (0, 276, 300, 4), [(2, 805, 805, 0), (0, 2, 2, 0), (0, 0, 6, 1)], [], ([], []))], [], 0, 0, 0)
theorem kh_100_ok : ct_ok wd_fl kh_100 := ct_of (ff := wd_ff) (y := (⟨"UtilityWorksModel", "link", "(II)I"⟩, prog_14_method_16_code, 3, some .int, 12, 1, 2, 32207, 32206, 5005, 21014)) (Cs := []) (an := []) (ss := []) (K := 1) (fuel := 4000) wd_fl_ok rfl (List.forall_mem_nil _) (by decide +kernel)
/- UtilityWorksModel hasLink -/
def kh_101 : ct_T := (356, [(2, 805, 805, 0), (0, 2, 2, 0), (0, 0, 6, 1)], [], [], [(1, (0, 0, 0, 0), [(2, 805, 805, 0), (0, 2, 2, 0), (0, 0, 6, 1)], [], ([], [])), (1, (0, 1, 1, 0), [(2, 805, 805, 0), (0, 2, 2, 0), (0, 0, 6, 1)], [], ([], []))], [], 1, 22, 0)
theorem kh_101_ok : ct_ok wd_fl kh_101 := ct_of (ff := wd_ff) (y := (⟨"UtilityWorksModel", "hasLink", "(II)Z"⟩, prog_14_method_17_code, 3, some .boolean, 12, 1, 2, 32203, 32202, 5004, 21014)) (Cs := [kh_100]) (an := []) (ss := []) (K := 1) (fuel := 4000) wd_fl_ok rfl (List.forall_mem_cons.mpr ⟨kh_100_ok, (List.forall_mem_nil _)⟩) (by decide +kernel)
/- UtilityWorksModel isFine -/
def kh_102 : ct_T := (359, [(2, 805, 805, 0), (0, 2, 2, 0), (0, 0, 6, 1)], [], [], [(1, (0, 1, 1, 0), [(2, 805, 805, 0), (0, 2, 2, 0), (0, 0, 6, 1)], [], ([], [])), (1, (0, 0, 0, 0), [(2, 805, 805, 0), (0, 2, 2, 0), (0, 0, 6, 1)], [], ([], []))], [], 2, 44, 0)
theorem kh_102_ok : ct_ok wd_fl kh_102 := ct_of (ff := wd_ff) (y := (⟨"UtilityWorksModel", "isFine", "(II)Z"⟩, prog_14_method_19_code, 3, some .boolean, 12, 1, 2, 32215, 32214, 5007, 21014)) (Cs := [kh_101, kh_100]) (an := [(30, 0, ([((2, 805, 805, 0), none), ((0, 2, 2, 0), none), ((0, 0, 6, 1), none)], [(0, 0), (1, 1), (2, 2)], [], [], [], [], [], [], none), [(0, 0, 99970)])]) (ss := []) (K := 1) (fuel := 4000) wd_fl_ok rfl (List.forall_mem_cons.mpr ⟨kh_101_ok, (List.forall_mem_cons.mpr ⟨kh_100_ok, (List.forall_mem_nil _)⟩)⟩) (by decide +kernel)
/- UtilityWorksModel isOn -/
def kh_103 : ct_T := (360, [(2, 805, 805, 0), (0, 2, 2, 0), (0, 0, 6, 1)], [], [], [(1, (0, 1, 1, 0), [(2, 805, 805, 0), (0, 2, 2, 0), (0, 0, 6, 1)], [], ([], [])), (1, (0, 0, 0, 0), [(2, 805, 805, 0), (0, 2, 2, 0), (0, 0, 6, 1)], [], ([], []))], [], 2, 44, 0)
theorem kh_103_ok : ct_ok wd_fl kh_103 := ct_of (ff := wd_ff) (y := (⟨"UtilityWorksModel", "isOn", "(II)Z"⟩, prog_14_method_20_code, 3, some .boolean, 12, 1, 2, 32219, 32218, 5008, 21014)) (Cs := [kh_101, kh_100]) (an := [(30, 0, ([((2, 805, 805, 0), none), ((0, 2, 2, 0), none), ((0, 0, 6, 1), none)], [(0, 0), (1, 1), (2, 2)], [], [], [], [], [], [], none), [(0, 0, 99970)])]) (ss := []) (K := 1) (fuel := 4000) wd_fl_ok rfl (List.forall_mem_cons.mpr ⟨kh_101_ok, (List.forall_mem_cons.mpr ⟨kh_100_ok, (List.forall_mem_nil _)⟩)⟩) (by decide +kernel)
/- UtilityWorksModel leads -/
def kh_104 : ct_T := (358, [(2, 805, 805, 0), (0, 2, 2, 0), (0, 0, 6, 1)], [], [], [(1, (0, 1, 1, 0), [(2, 805, 805, 0), (0, 2, 2, 0), (0, 0, 6, 1)], [], ([], [])), (1, (0, 0, 0, 0), [(2, 805, 805, 0), (0, 2, 2, 0), (0, 0, 6, 1)], [], ([], []))], [], 3, 66, 0)
theorem kh_104_ok : ct_ok wd_fl kh_104 := ct_of (ff := wd_ff) (y := (⟨"UtilityWorksModel", "leads", "(II)Z"⟩, prog_14_method_21_code, 3, some .boolean, 12, 1, 2, 32211, 32210, 5006, 21014)) (Cs := [kh_102, kh_103]) (an := [(22, 0, ([((2, 805, 805, 0), none), ((0, 2, 2, 0), none), ((0, 0, 6, 1), none)], [(0, 0), (1, 1), (2, 2)], [], [], [], [], [], [], none), [(0, 0, 99978)])]) (ss := []) (K := 1) (fuel := 4000) wd_fl_ok rfl (List.forall_mem_cons.mpr ⟨kh_102_ok, (List.forall_mem_cons.mpr ⟨kh_103_ok, (List.forall_mem_nil _)⟩)⟩) (by decide +kernel)
/- UtilityWorksModel link -/
def kh_105 : ct_T := (357, [(2, 805, 805, 0), (0, 2, 2, 0), (0, 0, 7, 1)], [], [], [(1, (0, 276, 304, 4), [(2, 805, 805, 0), (0, 2, 2, 0), (0, 0, 7, 1)], [], ([], []))], [], 0, 0, 0)
theorem kh_105_ok : ct_ok wd_fl kh_105 := ct_of (ff := wd_ff) (y := (⟨"UtilityWorksModel", "link", "(II)I"⟩, prog_14_method_16_code, 3, some .int, 12, 1, 2, 32207, 32206, 5005, 21014)) (Cs := []) (an := []) (ss := []) (K := 1) (fuel := 4000) wd_fl_ok rfl (List.forall_mem_nil _) (by decide +kernel)
/- UtilityWorksModel hasLink -/
def kh_106 : ct_T := (356, [(2, 805, 805, 0), (0, 2, 2, 0), (0, 0, 7, 1)], [], [], [(1, (0, 0, 0, 0), [(2, 805, 805, 0), (0, 2, 2, 0), (0, 0, 7, 1)], [], ([], [])), (1, (0, 1, 1, 0), [(2, 805, 805, 0), (0, 2, 2, 0), (0, 0, 7, 1)], [], ([], []))], [], 1, 22, 0)
theorem kh_106_ok : ct_ok wd_fl kh_106 := ct_of (ff := wd_ff) (y := (⟨"UtilityWorksModel", "hasLink", "(II)Z"⟩, prog_14_method_17_code, 3, some .boolean, 12, 1, 2, 32203, 32202, 5004, 21014)) (Cs := [kh_105]) (an := []) (ss := []) (K := 1) (fuel := 4000) wd_fl_ok rfl (List.forall_mem_cons.mpr ⟨kh_105_ok, (List.forall_mem_nil _)⟩) (by decide +kernel)
/- UtilityWorksModel isFine -/
def kh_107 : ct_T := (359, [(2, 805, 805, 0), (0, 2, 2, 0), (0, 0, 7, 1)], [], [], [(1, (0, 1, 1, 0), [(2, 805, 805, 0), (0, 2, 2, 0), (0, 0, 7, 1)], [], ([], [])), (1, (0, 0, 0, 0), [(2, 805, 805, 0), (0, 2, 2, 0), (0, 0, 7, 1)], [], ([], []))], [], 2, 44, 0)
theorem kh_107_ok : ct_ok wd_fl kh_107 := ct_of (ff := wd_ff) (y := (⟨"UtilityWorksModel", "isFine", "(II)Z"⟩, prog_14_method_19_code, 3, some .boolean, 12, 1, 2, 32215, 32214, 5007, 21014)) (Cs := [kh_106, kh_105]) (an := [(30, 0, ([((2, 805, 805, 0), none), ((0, 2, 2, 0), none), ((0, 0, 7, 1), none)], [(0, 0), (1, 1), (2, 2)], [], [], [], [], [], [], none), [(0, 0, 99970)])]) (ss := []) (K := 1) (fuel := 4000) wd_fl_ok rfl (List.forall_mem_cons.mpr ⟨kh_106_ok, (List.forall_mem_cons.mpr ⟨kh_105_ok, (List.forall_mem_nil _)⟩)⟩) (by decide +kernel)
/- UtilityWorksModel isOn -/
def kh_108 : ct_T := (360, [(2, 805, 805, 0), (0, 2, 2, 0), (0, 0, 7, 1)], [], [], [(1, (0, 1, 1, 0), [(2, 805, 805, 0), (0, 2, 2, 0), (0, 0, 7, 1)], [], ([], [])), (1, (0, 0, 0, 0), [(2, 805, 805, 0), (0, 2, 2, 0), (0, 0, 7, 1)], [], ([], []))], [], 2, 44, 0)
theorem kh_108_ok : ct_ok wd_fl kh_108 := ct_of (ff := wd_ff) (y := (⟨"UtilityWorksModel", "isOn", "(II)Z"⟩, prog_14_method_20_code, 3, some .boolean, 12, 1, 2, 32219, 32218, 5008, 21014)) (Cs := [kh_106, kh_105]) (an := [(30, 0, ([((2, 805, 805, 0), none), ((0, 2, 2, 0), none), ((0, 0, 7, 1), none)], [(0, 0), (1, 1), (2, 2)], [], [], [], [], [], [], none), [(0, 0, 99970)])]) (ss := []) (K := 1) (fuel := 4000) wd_fl_ok rfl (List.forall_mem_cons.mpr ⟨kh_106_ok, (List.forall_mem_cons.mpr ⟨kh_105_ok, (List.forall_mem_nil _)⟩)⟩) (by decide +kernel)
/- UtilityWorksModel leads -/
def kh_109 : ct_T := (358, [(2, 805, 805, 0), (0, 2, 2, 0), (0, 0, 7, 1)], [], [], [(1, (0, 1, 1, 0), [(2, 805, 805, 0), (0, 2, 2, 0), (0, 0, 7, 1)], [], ([], [])), (1, (0, 0, 0, 0), [(2, 805, 805, 0), (0, 2, 2, 0), (0, 0, 7, 1)], [], ([], []))], [], 3, 66, 0)
theorem kh_109_ok : ct_ok wd_fl kh_109 := ct_of (ff := wd_ff) (y := (⟨"UtilityWorksModel", "leads", "(II)Z"⟩, prog_14_method_21_code, 3, some .boolean, 12, 1, 2, 32211, 32210, 5006, 21014)) (Cs := [kh_107, kh_108]) (an := [(22, 0, ([((2, 805, 805, 0), none), ((0, 2, 2, 0), none), ((0, 0, 7, 1), none)], [(0, 0), (1, 1), (2, 2)], [], [], [], [], [], [], none), [(0, 0, 99978)])]) (ss := []) (K := 1) (fuel := 4000) wd_fl_ok rfl (List.forall_mem_cons.mpr ⟨kh_107_ok, (List.forall_mem_cons.mpr ⟨kh_108_ok, (List.forall_mem_nil _)⟩)⟩) (by decide +kernel)
/- UtilityWorksModel link -/
def kh_110 : ct_T := (357, [(2, 805, 805, 0), (0, 2, 2, 0), (0, 0, 8, 1)], [], [], [(1, (0, 276, 308, 4), [(2, 805, 805, 0), (0, 2, 2, 0), (0, 0, 8, 1)], [], ([], []))], [], 0, 0, 0)
theorem kh_110_ok : ct_ok wd_fl kh_110 := ct_of (ff := wd_ff) (y := (⟨"UtilityWorksModel", "link", "(II)I"⟩, prog_14_method_16_code, 3, some .int, 12, 1, 2, 32207, 32206, 5005, 21014)) (Cs := []) (an := []) (ss := []) (K := 1) (fuel := 4000) wd_fl_ok rfl (List.forall_mem_nil _) (by decide +kernel)
/- UtilityWorksModel hasLink -/
def kh_111 : ct_T := (356, [(2, 805, 805, 0), (0, 2, 2, 0), (0, 0, 8, 1)], [], [], [(1, (0, 0, 0, 0), [(2, 805, 805, 0), (0, 2, 2, 0), (0, 0, 8, 1)], [], ([], [])), (1, (0, 1, 1, 0), [(2, 805, 805, 0), (0, 2, 2, 0), (0, 0, 8, 1)], [], ([], []))], [], 1, 22, 0)
theorem kh_111_ok : ct_ok wd_fl kh_111 := ct_of (ff := wd_ff) (y := (⟨"UtilityWorksModel", "hasLink", "(II)Z"⟩, prog_14_method_17_code, 3, some .boolean, 12, 1, 2, 32203, 32202, 5004, 21014)) (Cs := [kh_110]) (an := []) (ss := []) (K := 1) (fuel := 4000) wd_fl_ok rfl (List.forall_mem_cons.mpr ⟨kh_110_ok, (List.forall_mem_nil _)⟩) (by decide +kernel)
/- UtilityWorksModel isFine -/
def kh_112 : ct_T := (359, [(2, 805, 805, 0), (0, 2, 2, 0), (0, 0, 8, 1)], [], [], [(1, (0, 1, 1, 0), [(2, 805, 805, 0), (0, 2, 2, 0), (0, 0, 8, 1)], [], ([], [])), (1, (0, 0, 0, 0), [(2, 805, 805, 0), (0, 2, 2, 0), (0, 0, 8, 1)], [], ([], []))], [], 2, 44, 0)
theorem kh_112_ok : ct_ok wd_fl kh_112 := ct_of (ff := wd_ff) (y := (⟨"UtilityWorksModel", "isFine", "(II)Z"⟩, prog_14_method_19_code, 3, some .boolean, 12, 1, 2, 32215, 32214, 5007, 21014)) (Cs := [kh_111, kh_110]) (an := [(30, 0, ([((2, 805, 805, 0), none), ((0, 2, 2, 0), none), ((0, 0, 8, 1), none)], [(0, 0), (1, 1), (2, 2)], [], [], [], [], [], [], none), [(0, 0, 99970)])]) (ss := []) (K := 1) (fuel := 4000) wd_fl_ok rfl (List.forall_mem_cons.mpr ⟨kh_111_ok, (List.forall_mem_cons.mpr ⟨kh_110_ok, (List.forall_mem_nil _)⟩)⟩) (by decide +kernel)
/- UtilityWorksModel isOn -/
def kh_113 : ct_T := (360, [(2, 805, 805, 0), (0, 2, 2, 0), (0, 0, 8, 1)], [], [], [(1, (0, 1, 1, 0), [(2, 805, 805, 0), (0, 2, 2, 0), (0, 0, 8, 1)], [], ([], [])), (1, (0, 0, 0, 0), [(2, 805, 805, 0), (0, 2, 2, 0), (0, 0, 8, 1)], [], ([], []))], [], 2, 44, 0)
theorem kh_113_ok : ct_ok wd_fl kh_113 := ct_of (ff := wd_ff) (y := (⟨"UtilityWorksModel", "isOn", "(II)Z"⟩, prog_14_method_20_code, 3, some .boolean, 12, 1, 2, 32219, 32218, 5008, 21014)) (Cs := [kh_111, kh_110]) (an := [(30, 0, ([((2, 805, 805, 0), none), ((0, 2, 2, 0), none), ((0, 0, 8, 1), none)], [(0, 0), (1, 1), (2, 2)], [], [], [], [], [], [], none), [(0, 0, 99970)])]) (ss := []) (K := 1) (fuel := 4000) wd_fl_ok rfl (List.forall_mem_cons.mpr ⟨kh_111_ok, (List.forall_mem_cons.mpr ⟨kh_110_ok, (List.forall_mem_nil _)⟩)⟩) (by decide +kernel)
/- UtilityWorksModel leads -/
def kh_114 : ct_T := (358, [(2, 805, 805, 0), (0, 2, 2, 0), (0, 0, 8, 1)], [], [], [(1, (0, 1, 1, 0), [(2, 805, 805, 0), (0, 2, 2, 0), (0, 0, 8, 1)], [], ([], [])), (1, (0, 0, 0, 0), [(2, 805, 805, 0), (0, 2, 2, 0), (0, 0, 8, 1)], [], ([], []))], [], 3, 66, 0)
theorem kh_114_ok : ct_ok wd_fl kh_114 := ct_of (ff := wd_ff) (y := (⟨"UtilityWorksModel", "leads", "(II)Z"⟩, prog_14_method_21_code, 3, some .boolean, 12, 1, 2, 32211, 32210, 5006, 21014)) (Cs := [kh_112, kh_113]) (an := [(22, 0, ([((2, 805, 805, 0), none), ((0, 2, 2, 0), none), ((0, 0, 8, 1), none)], [(0, 0), (1, 1), (2, 2)], [], [], [], [], [], [], none), [(0, 0, 99978)])]) (ss := []) (K := 1) (fuel := 4000) wd_fl_ok rfl (List.forall_mem_cons.mpr ⟨kh_112_ok, (List.forall_mem_cons.mpr ⟨kh_113_ok, (List.forall_mem_nil _)⟩)⟩) (by decide +kernel)
/- UtilityWorksModel link -/
def kh_115 : ct_T := (357, [(2, 805, 805, 0), (0, 2, 2, 0), (0, 0, 9, 1)], [], [], [(1, (0, 276, 312, 4), [(2, 805, 805, 0), (0, 2, 2, 0), (0, 0, 9, 1)], [], ([], []))], [], 0, 0, 0)
theorem kh_115_ok : ct_ok wd_fl kh_115 := ct_of (ff := wd_ff) (y := (⟨"UtilityWorksModel", "link", "(II)I"⟩, prog_14_method_16_code, 3, some .int, 12, 1, 2, 32207, 32206, 5005, 21014)) (Cs := []) (an := []) (ss := []) (K := 1) (fuel := 4000) wd_fl_ok rfl (List.forall_mem_nil _) (by decide +kernel)
/- UtilityWorksModel hasLink -/
def kh_116 : ct_T := (356, [(2, 805, 805, 0), (0, 2, 2, 0), (0, 0, 9, 1)], [], [], [(1, (0, 0, 0, 0), [(2, 805, 805, 0), (0, 2, 2, 0), (0, 0, 9, 1)], [], ([], [])), (1, (0, 1, 1, 0), [(2, 805, 805, 0), (0, 2, 2, 0), (0, 0, 9, 1)], [], ([], []))], [], 1, 22, 0)
theorem kh_116_ok : ct_ok wd_fl kh_116 := ct_of (ff := wd_ff) (y := (⟨"UtilityWorksModel", "hasLink", "(II)Z"⟩, prog_14_method_17_code, 3, some .boolean, 12, 1, 2, 32203, 32202, 5004, 21014)) (Cs := [kh_115]) (an := []) (ss := []) (K := 1) (fuel := 4000) wd_fl_ok rfl (List.forall_mem_cons.mpr ⟨kh_115_ok, (List.forall_mem_nil _)⟩) (by decide +kernel)
/- UtilityWorksModel isFine -/
def kh_117 : ct_T := (359, [(2, 805, 805, 0), (0, 2, 2, 0), (0, 0, 9, 1)], [], [], [(1, (0, 1, 1, 0), [(2, 805, 805, 0), (0, 2, 2, 0), (0, 0, 9, 1)], [], ([], [])), (1, (0, 0, 0, 0), [(2, 805, 805, 0), (0, 2, 2, 0), (0, 0, 9, 1)], [], ([], []))], [], 2, 44, 0)
theorem kh_117_ok : ct_ok wd_fl kh_117 := ct_of (ff := wd_ff) (y := (⟨"UtilityWorksModel", "isFine", "(II)Z"⟩, prog_14_method_19_code, 3, some .boolean, 12, 1, 2, 32215, 32214, 5007, 21014)) (Cs := [kh_116, kh_115]) (an := [(30, 0, ([((2, 805, 805, 0), none), ((0, 2, 2, 0), none), ((0, 0, 9, 1), none)], [(0, 0), (1, 1), (2, 2)], [], [], [], [], [], [], none), [(0, 0, 99970)])]) (ss := []) (K := 1) (fuel := 4000) wd_fl_ok rfl (List.forall_mem_cons.mpr ⟨kh_116_ok, (List.forall_mem_cons.mpr ⟨kh_115_ok, (List.forall_mem_nil _)⟩)⟩) (by decide +kernel)
/- UtilityWorksModel isOn -/
def kh_118 : ct_T := (360, [(2, 805, 805, 0), (0, 2, 2, 0), (0, 0, 9, 1)], [], [], [(1, (0, 1, 1, 0), [(2, 805, 805, 0), (0, 2, 2, 0), (0, 0, 9, 1)], [], ([], [])), (1, (0, 0, 0, 0), [(2, 805, 805, 0), (0, 2, 2, 0), (0, 0, 9, 1)], [], ([], []))], [], 2, 44, 0)
theorem kh_118_ok : ct_ok wd_fl kh_118 := ct_of (ff := wd_ff) (y := (⟨"UtilityWorksModel", "isOn", "(II)Z"⟩, prog_14_method_20_code, 3, some .boolean, 12, 1, 2, 32219, 32218, 5008, 21014)) (Cs := [kh_116, kh_115]) (an := [(30, 0, ([((2, 805, 805, 0), none), ((0, 2, 2, 0), none), ((0, 0, 9, 1), none)], [(0, 0), (1, 1), (2, 2)], [], [], [], [], [], [], none), [(0, 0, 99970)])]) (ss := []) (K := 1) (fuel := 4000) wd_fl_ok rfl (List.forall_mem_cons.mpr ⟨kh_116_ok, (List.forall_mem_cons.mpr ⟨kh_115_ok, (List.forall_mem_nil _)⟩)⟩) (by decide +kernel)
/- UtilityWorksModel leads -/
def kh_119 : ct_T := (358, [(2, 805, 805, 0), (0, 2, 2, 0), (0, 0, 9, 1)], [], [], [(1, (0, 1, 1, 0), [(2, 805, 805, 0), (0, 2, 2, 0), (0, 0, 9, 1)], [], ([], [])), (1, (0, 0, 0, 0), [(2, 805, 805, 0), (0, 2, 2, 0), (0, 0, 9, 1)], [], ([], []))], [], 3, 66, 0)
theorem kh_119_ok : ct_ok wd_fl kh_119 := ct_of (ff := wd_ff) (y := (⟨"UtilityWorksModel", "leads", "(II)Z"⟩, prog_14_method_21_code, 3, some .boolean, 12, 1, 2, 32211, 32210, 5006, 21014)) (Cs := [kh_117, kh_118]) (an := [(22, 0, ([((2, 805, 805, 0), none), ((0, 2, 2, 0), none), ((0, 0, 9, 1), none)], [(0, 0), (1, 1), (2, 2)], [], [], [], [], [], [], none), [(0, 0, 99978)])]) (ss := []) (K := 1) (fuel := 4000) wd_fl_ok rfl (List.forall_mem_cons.mpr ⟨kh_117_ok, (List.forall_mem_cons.mpr ⟨kh_118_ok, (List.forall_mem_nil _)⟩)⟩) (by decide +kernel)
/- UtilityWorksModel link -/
def kh_120 : ct_T := (357, [(2, 805, 805, 0), (0, 2, 2, 0), (0, 0, 10, 1)], [], [], [(1, (0, 276, 316, 4), [(2, 805, 805, 0), (0, 2, 2, 0), (0, 0, 10, 1)], [], ([], []))], [], 0, 0, 0)
theorem kh_120_ok : ct_ok wd_fl kh_120 := ct_of (ff := wd_ff) (y := (⟨"UtilityWorksModel", "link", "(II)I"⟩, prog_14_method_16_code, 3, some .int, 12, 1, 2, 32207, 32206, 5005, 21014)) (Cs := []) (an := []) (ss := []) (K := 1) (fuel := 4000) wd_fl_ok rfl (List.forall_mem_nil _) (by decide +kernel)
/- UtilityWorksModel hasLink -/
def kh_121 : ct_T := (356, [(2, 805, 805, 0), (0, 2, 2, 0), (0, 0, 10, 1)], [], [], [(1, (0, 0, 0, 0), [(2, 805, 805, 0), (0, 2, 2, 0), (0, 0, 10, 1)], [], ([], [])), (1, (0, 1, 1, 0), [(2, 805, 805, 0), (0, 2, 2, 0), (0, 0, 10, 1)], [], ([], []))], [], 1, 22, 0)
theorem kh_121_ok : ct_ok wd_fl kh_121 := ct_of (ff := wd_ff) (y := (⟨"UtilityWorksModel", "hasLink", "(II)Z"⟩, prog_14_method_17_code, 3, some .boolean, 12, 1, 2, 32203, 32202, 5004, 21014)) (Cs := [kh_120]) (an := []) (ss := []) (K := 1) (fuel := 4000) wd_fl_ok rfl (List.forall_mem_cons.mpr ⟨kh_120_ok, (List.forall_mem_nil _)⟩) (by decide +kernel)
/- UtilityWorksModel isFine -/
def kh_122 : ct_T := (359, [(2, 805, 805, 0), (0, 2, 2, 0), (0, 0, 10, 1)], [], [], [(1, (0, 1, 1, 0), [(2, 805, 805, 0), (0, 2, 2, 0), (0, 0, 10, 1)], [], ([], [])), (1, (0, 0, 0, 0), [(2, 805, 805, 0), (0, 2, 2, 0), (0, 0, 10, 1)], [], ([], []))], [], 2, 44, 0)
theorem kh_122_ok : ct_ok wd_fl kh_122 := ct_of (ff := wd_ff) (y := (⟨"UtilityWorksModel", "isFine", "(II)Z"⟩, prog_14_method_19_code, 3, some .boolean, 12, 1, 2, 32215, 32214, 5007, 21014)) (Cs := [kh_121, kh_120]) (an := [(30, 0, ([((2, 805, 805, 0), none), ((0, 2, 2, 0), none), ((0, 0, 10, 1), none)], [(0, 0), (1, 1), (2, 2)], [], [], [], [], [], [], none), [(0, 0, 99970)])]) (ss := []) (K := 1) (fuel := 4000) wd_fl_ok rfl (List.forall_mem_cons.mpr ⟨kh_121_ok, (List.forall_mem_cons.mpr ⟨kh_120_ok, (List.forall_mem_nil _)⟩)⟩) (by decide +kernel)
/- UtilityWorksModel isOn -/
def kh_123 : ct_T := (360, [(2, 805, 805, 0), (0, 2, 2, 0), (0, 0, 10, 1)], [], [], [(1, (0, 1, 1, 0), [(2, 805, 805, 0), (0, 2, 2, 0), (0, 0, 10, 1)], [], ([], [])), (1, (0, 0, 0, 0), [(2, 805, 805, 0), (0, 2, 2, 0), (0, 0, 10, 1)], [], ([], []))], [], 2, 44, 0)
theorem kh_123_ok : ct_ok wd_fl kh_123 := ct_of (ff := wd_ff) (y := (⟨"UtilityWorksModel", "isOn", "(II)Z"⟩, prog_14_method_20_code, 3, some .boolean, 12, 1, 2, 32219, 32218, 5008, 21014)) (Cs := [kh_121, kh_120]) (an := [(30, 0, ([((2, 805, 805, 0), none), ((0, 2, 2, 0), none), ((0, 0, 10, 1), none)], [(0, 0), (1, 1), (2, 2)], [], [], [], [], [], [], none), [(0, 0, 99970)])]) (ss := []) (K := 1) (fuel := 4000) wd_fl_ok rfl (List.forall_mem_cons.mpr ⟨kh_121_ok, (List.forall_mem_cons.mpr ⟨kh_120_ok, (List.forall_mem_nil _)⟩)⟩) (by decide +kernel)
/- UtilityWorksModel leads -/
def kh_124 : ct_T := (358, [(2, 805, 805, 0), (0, 2, 2, 0), (0, 0, 10, 1)], [], [], [(1, (0, 1, 1, 0), [(2, 805, 805, 0), (0, 2, 2, 0), (0, 0, 10, 1)], [], ([], [])), (1, (0, 0, 0, 0), [(2, 805, 805, 0), (0, 2, 2, 0), (0, 0, 10, 1)], [], ([], []))], [], 3, 66, 0)
theorem kh_124_ok : ct_ok wd_fl kh_124 := ct_of (ff := wd_ff) (y := (⟨"UtilityWorksModel", "leads", "(II)Z"⟩, prog_14_method_21_code, 3, some .boolean, 12, 1, 2, 32211, 32210, 5006, 21014)) (Cs := [kh_122, kh_123]) (an := [(22, 0, ([((2, 805, 805, 0), none), ((0, 2, 2, 0), none), ((0, 0, 10, 1), none)], [(0, 0), (1, 1), (2, 2)], [], [], [], [], [], [], none), [(0, 0, 99978)])]) (ss := []) (K := 1) (fuel := 4000) wd_fl_ok rfl (List.forall_mem_cons.mpr ⟨kh_122_ok, (List.forall_mem_cons.mpr ⟨kh_123_ok, (List.forall_mem_nil _)⟩)⟩) (by decide +kernel)
/- UtilityWorksModel link -/
def kh_125 : ct_T := (357, [(2, 805, 805, 0), (0, 2, 2, 0), (0, 0, 11, 1)], [], [], [(1, (0, 276, 320, 4), [(2, 805, 805, 0), (0, 2, 2, 0), (0, 0, 11, 1)], [], ([], []))], [], 0, 0, 0)
theorem kh_125_ok : ct_ok wd_fl kh_125 := ct_of (ff := wd_ff) (y := (⟨"UtilityWorksModel", "link", "(II)I"⟩, prog_14_method_16_code, 3, some .int, 12, 1, 2, 32207, 32206, 5005, 21014)) (Cs := []) (an := []) (ss := []) (K := 1) (fuel := 4000) wd_fl_ok rfl (List.forall_mem_nil _) (by decide +kernel)
/- UtilityWorksModel hasLink -/
def kh_126 : ct_T := (356, [(2, 805, 805, 0), (0, 2, 2, 0), (0, 0, 11, 1)], [], [], [(1, (0, 0, 0, 0), [(2, 805, 805, 0), (0, 2, 2, 0), (0, 0, 11, 1)], [], ([], [])), (1, (0, 1, 1, 0), [(2, 805, 805, 0), (0, 2, 2, 0), (0, 0, 11, 1)], [], ([], []))], [], 1, 22, 0)
theorem kh_126_ok : ct_ok wd_fl kh_126 := ct_of (ff := wd_ff) (y := (⟨"UtilityWorksModel", "hasLink", "(II)Z"⟩, prog_14_method_17_code, 3, some .boolean, 12, 1, 2, 32203, 32202, 5004, 21014)) (Cs := [kh_125]) (an := []) (ss := []) (K := 1) (fuel := 4000) wd_fl_ok rfl (List.forall_mem_cons.mpr ⟨kh_125_ok, (List.forall_mem_nil _)⟩) (by decide +kernel)
/- UtilityWorksModel isFine -/
def kh_127 : ct_T := (359, [(2, 805, 805, 0), (0, 2, 2, 0), (0, 0, 11, 1)], [], [], [(1, (0, 1, 1, 0), [(2, 805, 805, 0), (0, 2, 2, 0), (0, 0, 11, 1)], [], ([], [])), (1, (0, 0, 0, 0), [(2, 805, 805, 0), (0, 2, 2, 0), (0, 0, 11, 1)], [], ([], []))], [], 2, 44, 0)
theorem kh_127_ok : ct_ok wd_fl kh_127 := ct_of (ff := wd_ff) (y := (⟨"UtilityWorksModel", "isFine", "(II)Z"⟩, prog_14_method_19_code, 3, some .boolean, 12, 1, 2, 32215, 32214, 5007, 21014)) (Cs := [kh_126, kh_125]) (an := [(30, 0, ([((2, 805, 805, 0), none), ((0, 2, 2, 0), none), ((0, 0, 11, 1), none)], [(0, 0), (1, 1), (2, 2)], [], [], [], [], [], [], none), [(0, 0, 99970)])]) (ss := []) (K := 1) (fuel := 4000) wd_fl_ok rfl (List.forall_mem_cons.mpr ⟨kh_126_ok, (List.forall_mem_cons.mpr ⟨kh_125_ok, (List.forall_mem_nil _)⟩)⟩) (by decide +kernel)
/- UtilityWorksModel isOn -/
def kh_128 : ct_T := (360, [(2, 805, 805, 0), (0, 2, 2, 0), (0, 0, 11, 1)], [], [], [(1, (0, 1, 1, 0), [(2, 805, 805, 0), (0, 2, 2, 0), (0, 0, 11, 1)], [], ([], [])), (1, (0, 0, 0, 0), [(2, 805, 805, 0), (0, 2, 2, 0), (0, 0, 11, 1)], [], ([], []))], [], 2, 44, 0)
theorem kh_128_ok : ct_ok wd_fl kh_128 := ct_of (ff := wd_ff) (y := (⟨"UtilityWorksModel", "isOn", "(II)Z"⟩, prog_14_method_20_code, 3, some .boolean, 12, 1, 2, 32219, 32218, 5008, 21014)) (Cs := [kh_126, kh_125]) (an := [(30, 0, ([((2, 805, 805, 0), none), ((0, 2, 2, 0), none), ((0, 0, 11, 1), none)], [(0, 0), (1, 1), (2, 2)], [], [], [], [], [], [], none), [(0, 0, 99970)])]) (ss := []) (K := 1) (fuel := 4000) wd_fl_ok rfl (List.forall_mem_cons.mpr ⟨kh_126_ok, (List.forall_mem_cons.mpr ⟨kh_125_ok, (List.forall_mem_nil _)⟩)⟩) (by decide +kernel)
/- UtilityWorksModel leads -/
def kh_129 : ct_T := (358, [(2, 805, 805, 0), (0, 2, 2, 0), (0, 0, 11, 1)], [], [], [(1, (0, 1, 1, 0), [(2, 805, 805, 0), (0, 2, 2, 0), (0, 0, 11, 1)], [], ([], [])), (1, (0, 0, 0, 0), [(2, 805, 805, 0), (0, 2, 2, 0), (0, 0, 11, 1)], [], ([], []))], [], 3, 66, 0)
theorem kh_129_ok : ct_ok wd_fl kh_129 := ct_of (ff := wd_ff) (y := (⟨"UtilityWorksModel", "leads", "(II)Z"⟩, prog_14_method_21_code, 3, some .boolean, 12, 1, 2, 32211, 32210, 5006, 21014)) (Cs := [kh_127, kh_128]) (an := [(22, 0, ([((2, 805, 805, 0), none), ((0, 2, 2, 0), none), ((0, 0, 11, 1), none)], [(0, 0), (1, 1), (2, 2)], [], [], [], [], [], [], none), [(0, 0, 99978)])]) (ss := []) (K := 1) (fuel := 4000) wd_fl_ok rfl (List.forall_mem_cons.mpr ⟨kh_127_ok, (List.forall_mem_cons.mpr ⟨kh_128_ok, (List.forall_mem_nil _)⟩)⟩) (by decide +kernel)
/- UtilityWorksModel link -/
def kh_130 : ct_T := (357, [(2, 805, 805, 0), (0, 2, 2, 0), (0, 0, 12, 1)], [], [], [(1, (0, 276, 324, 4), [(2, 805, 805, 0), (0, 2, 2, 0), (0, 0, 12, 1)], [], ([], []))], [], 0, 0, 0)
theorem kh_130_ok : ct_ok wd_fl kh_130 := ct_of (ff := wd_ff) (y := (⟨"UtilityWorksModel", "link", "(II)I"⟩, prog_14_method_16_code, 3, some .int, 12, 1, 2, 32207, 32206, 5005, 21014)) (Cs := []) (an := []) (ss := []) (K := 1) (fuel := 4000) wd_fl_ok rfl (List.forall_mem_nil _) (by decide +kernel)
/- UtilityWorksModel hasLink -/
def kh_131 : ct_T := (356, [(2, 805, 805, 0), (0, 2, 2, 0), (0, 0, 12, 1)], [], [], [(1, (0, 0, 0, 0), [(2, 805, 805, 0), (0, 2, 2, 0), (0, 0, 12, 1)], [], ([], [])), (1, (0, 1, 1, 0), [(2, 805, 805, 0), (0, 2, 2, 0), (0, 0, 12, 1)], [], ([], []))], [], 1, 22, 0)
theorem kh_131_ok : ct_ok wd_fl kh_131 := ct_of (ff := wd_ff) (y := (⟨"UtilityWorksModel", "hasLink", "(II)Z"⟩, prog_14_method_17_code, 3, some .boolean, 12, 1, 2, 32203, 32202, 5004, 21014)) (Cs := [kh_130]) (an := []) (ss := []) (K := 1) (fuel := 4000) wd_fl_ok rfl (List.forall_mem_cons.mpr ⟨kh_130_ok, (List.forall_mem_nil _)⟩) (by decide +kernel)
/- UtilityWorksModel isFine -/
def kh_132 : ct_T := (359, [(2, 805, 805, 0), (0, 2, 2, 0), (0, 0, 12, 1)], [], [], [(1, (0, 1, 1, 0), [(2, 805, 805, 0), (0, 2, 2, 0), (0, 0, 12, 1)], [], ([], [])), (1, (0, 0, 0, 0), [(2, 805, 805, 0), (0, 2, 2, 0), (0, 0, 12, 1)], [], ([], []))], [], 2, 44, 0)
theorem kh_132_ok : ct_ok wd_fl kh_132 := ct_of (ff := wd_ff) (y := (⟨"UtilityWorksModel", "isFine", "(II)Z"⟩, prog_14_method_19_code, 3, some .boolean, 12, 1, 2, 32215, 32214, 5007, 21014)) (Cs := [kh_131, kh_130]) (an := [(30, 0, ([((2, 805, 805, 0), none), ((0, 2, 2, 0), none), ((0, 0, 12, 1), none)], [(0, 0), (1, 1), (2, 2)], [], [], [], [], [], [], none), [(0, 0, 99970)])]) (ss := []) (K := 1) (fuel := 4000) wd_fl_ok rfl (List.forall_mem_cons.mpr ⟨kh_131_ok, (List.forall_mem_cons.mpr ⟨kh_130_ok, (List.forall_mem_nil _)⟩)⟩) (by decide +kernel)
/- UtilityWorksModel isOn -/
def kh_133 : ct_T := (360, [(2, 805, 805, 0), (0, 2, 2, 0), (0, 0, 12, 1)], [], [], [(1, (0, 1, 1, 0), [(2, 805, 805, 0), (0, 2, 2, 0), (0, 0, 12, 1)], [], ([], [])), (1, (0, 0, 0, 0), [(2, 805, 805, 0), (0, 2, 2, 0), (0, 0, 12, 1)], [], ([], []))], [], 2, 44, 0)
theorem kh_133_ok : ct_ok wd_fl kh_133 := ct_of (ff := wd_ff) (y := (⟨"UtilityWorksModel", "isOn", "(II)Z"⟩, prog_14_method_20_code, 3, some .boolean, 12, 1, 2, 32219, 32218, 5008, 21014)) (Cs := [kh_131, kh_130]) (an := [(30, 0, ([((2, 805, 805, 0), none), ((0, 2, 2, 0), none), ((0, 0, 12, 1), none)], [(0, 0), (1, 1), (2, 2)], [], [], [], [], [], [], none), [(0, 0, 99970)])]) (ss := []) (K := 1) (fuel := 4000) wd_fl_ok rfl (List.forall_mem_cons.mpr ⟨kh_131_ok, (List.forall_mem_cons.mpr ⟨kh_130_ok, (List.forall_mem_nil _)⟩)⟩) (by decide +kernel)
/- UtilityWorksModel leads -/
def kh_134 : ct_T := (358, [(2, 805, 805, 0), (0, 2, 2, 0), (0, 0, 12, 1)], [], [], [(1, (0, 1, 1, 0), [(2, 805, 805, 0), (0, 2, 2, 0), (0, 0, 12, 1)], [], ([], [])), (1, (0, 0, 0, 0), [(2, 805, 805, 0), (0, 2, 2, 0), (0, 0, 12, 1)], [], ([], []))], [], 3, 66, 0)
theorem kh_134_ok : ct_ok wd_fl kh_134 := ct_of (ff := wd_ff) (y := (⟨"UtilityWorksModel", "leads", "(II)Z"⟩, prog_14_method_21_code, 3, some .boolean, 12, 1, 2, 32211, 32210, 5006, 21014)) (Cs := [kh_132, kh_133]) (an := [(22, 0, ([((2, 805, 805, 0), none), ((0, 2, 2, 0), none), ((0, 0, 12, 1), none)], [(0, 0), (1, 1), (2, 2)], [], [], [], [], [], [], none), [(0, 0, 99978)])]) (ss := []) (K := 1) (fuel := 4000) wd_fl_ok rfl (List.forall_mem_cons.mpr ⟨kh_132_ok, (List.forall_mem_cons.mpr ⟨kh_133_ok, (List.forall_mem_nil _)⟩)⟩) (by decide +kernel)
/- UtilityWorksModel link -/
def kh_135 : ct_T := (357, [(2, 805, 805, 0), (0, 2, 2, 0), (0, 0, 16, 1)], [], [], [(1, (0, 276, 340, 4), [(2, 805, 805, 0), (0, 2, 2, 0), (0, 0, 16, 1)], [], ([], []))], [], 0, 0, 0)
theorem kh_135_ok : ct_ok wd_fl kh_135 := ct_of (ff := wd_ff) (y := (⟨"UtilityWorksModel", "link", "(II)I"⟩, prog_14_method_16_code, 3, some .int, 12, 1, 2, 32207, 32206, 5005, 21014)) (Cs := []) (an := []) (ss := []) (K := 1) (fuel := 4000) wd_fl_ok rfl (List.forall_mem_nil _) (by decide +kernel)
/- UtilityWorksModel hasLink -/
def kh_136 : ct_T := (356, [(2, 805, 805, 0), (0, 2, 2, 0), (0, 0, 16, 1)], [], [], [(1, (0, 0, 0, 0), [(2, 805, 805, 0), (0, 2, 2, 0), (0, 0, 16, 1)], [], ([], [])), (1, (0, 1, 1, 0), [(2, 805, 805, 0), (0, 2, 2, 0), (0, 0, 16, 1)], [], ([], []))], [], 1, 22, 0)
theorem kh_136_ok : ct_ok wd_fl kh_136 := ct_of (ff := wd_ff) (y := (⟨"UtilityWorksModel", "hasLink", "(II)Z"⟩, prog_14_method_17_code, 3, some .boolean, 12, 1, 2, 32203, 32202, 5004, 21014)) (Cs := [kh_135]) (an := []) (ss := []) (K := 1) (fuel := 4000) wd_fl_ok rfl (List.forall_mem_cons.mpr ⟨kh_135_ok, (List.forall_mem_nil _)⟩) (by decide +kernel)
/- UtilityWorksModel isFine -/
def kh_137 : ct_T := (359, [(2, 805, 805, 0), (0, 2, 2, 0), (0, 0, 16, 1)], [], [], [(1, (0, 1, 1, 0), [(2, 805, 805, 0), (0, 2, 2, 0), (0, 0, 16, 1)], [], ([], [])), (1, (0, 0, 0, 0), [(2, 805, 805, 0), (0, 2, 2, 0), (0, 0, 16, 1)], [], ([], []))], [], 2, 44, 0)
theorem kh_137_ok : ct_ok wd_fl kh_137 := ct_of (ff := wd_ff) (y := (⟨"UtilityWorksModel", "isFine", "(II)Z"⟩, prog_14_method_19_code, 3, some .boolean, 12, 1, 2, 32215, 32214, 5007, 21014)) (Cs := [kh_136, kh_135]) (an := [(30, 0, ([((2, 805, 805, 0), none), ((0, 2, 2, 0), none), ((0, 0, 16, 1), none)], [(0, 0), (1, 1), (2, 2)], [], [], [], [], [], [], none), [(0, 0, 99970)])]) (ss := []) (K := 1) (fuel := 4000) wd_fl_ok rfl (List.forall_mem_cons.mpr ⟨kh_136_ok, (List.forall_mem_cons.mpr ⟨kh_135_ok, (List.forall_mem_nil _)⟩)⟩) (by decide +kernel)
/- UtilityWorksModel isOn -/
def kh_138 : ct_T := (360, [(2, 805, 805, 0), (0, 2, 2, 0), (0, 0, 16, 1)], [], [], [(1, (0, 1, 1, 0), [(2, 805, 805, 0), (0, 2, 2, 0), (0, 0, 16, 1)], [], ([], [])), (1, (0, 0, 0, 0), [(2, 805, 805, 0), (0, 2, 2, 0), (0, 0, 16, 1)], [], ([], []))], [], 2, 44, 0)
theorem kh_138_ok : ct_ok wd_fl kh_138 := ct_of (ff := wd_ff) (y := (⟨"UtilityWorksModel", "isOn", "(II)Z"⟩, prog_14_method_20_code, 3, some .boolean, 12, 1, 2, 32219, 32218, 5008, 21014)) (Cs := [kh_136, kh_135]) (an := [(30, 0, ([((2, 805, 805, 0), none), ((0, 2, 2, 0), none), ((0, 0, 16, 1), none)], [(0, 0), (1, 1), (2, 2)], [], [], [], [], [], [], none), [(0, 0, 99970)])]) (ss := []) (K := 1) (fuel := 4000) wd_fl_ok rfl (List.forall_mem_cons.mpr ⟨kh_136_ok, (List.forall_mem_cons.mpr ⟨kh_135_ok, (List.forall_mem_nil _)⟩)⟩) (by decide +kernel)
/- UtilityWorksModel leads -/
def kh_139 : ct_T := (358, [(2, 805, 805, 0), (0, 2, 2, 0), (0, 0, 16, 1)], [], [], [(1, (0, 1, 1, 0), [(2, 805, 805, 0), (0, 2, 2, 0), (0, 0, 16, 1)], [], ([], [])), (1, (0, 0, 0, 0), [(2, 805, 805, 0), (0, 2, 2, 0), (0, 0, 16, 1)], [], ([], []))], [], 3, 66, 0)
theorem kh_139_ok : ct_ok wd_fl kh_139 := ct_of (ff := wd_ff) (y := (⟨"UtilityWorksModel", "leads", "(II)Z"⟩, prog_14_method_21_code, 3, some .boolean, 12, 1, 2, 32211, 32210, 5006, 21014)) (Cs := [kh_137, kh_138]) (an := [(22, 0, ([((2, 805, 805, 0), none), ((0, 2, 2, 0), none), ((0, 0, 16, 1), none)], [(0, 0), (1, 1), (2, 2)], [], [], [], [], [], [], none), [(0, 0, 99978)])]) (ss := []) (K := 1) (fuel := 4000) wd_fl_ok rfl (List.forall_mem_cons.mpr ⟨kh_137_ok, (List.forall_mem_cons.mpr ⟨kh_138_ok, (List.forall_mem_nil _)⟩)⟩) (by decide +kernel)
abbrev kh_hReach_y : mt_T := (⟨"UtilityWorksModel", "hReach", "(I)V"⟩, prog_14_method_165_code, 6, none, 12, 1, 1, 35001, 35000, 12010, 21014)
def kh_hReach : ct_T := (487, [(2, 805, 805, 0), (0, 0, 11, 1)], [], [], [(0, (0, 0, 0, 0), [(2, 805, 805, 0), (0, 0, 11, 1)], [], ([], []))], [((854, 854), (0, 11, 1))], 4, 88, 0)
def kh_hReach_a31 : an_T := (31, 0, ([((2, 805, 805, 0), none), ((0, 0, 11, 1), none), ((0, 0, 1, 1), none)], [(0, 0), (1, 1), (2, 2)], [], [], [], [], [], [], none), [])
def kh_hReach_a39 : an_T := (39, 0, ([((2, 805, 805, 0), none), ((0, 0, 11, 1), none), ((0, 0, 1, 1), none), ((0, 0, 17, 1), none)], [(0, 0), (1, 1), (2, 2), (3, 3)], [], [], [], [], [], [], none), [])
def kh_hReach_a2 : an_T := (2, 0, ([((2, 805, 805, 0), none), ((0, 0, 11, 1), none), ((0, 0, 12, 1), none)], [(0, 0), (1, 1), (2, 2)], [], [], [], [], [], [], none), [(1, 2, 13)])
def kh_hReach_b39_0 : sg_T := (31, 0, ([((2, 805, 805, 0), none), ((0, 0, 11, 1), none), ((0, 0, 1, 1), none), ((0, 17, 17, 1), none), ((0, 17, 17, 0), none)], [(0, 0), (1, 1), (2, 2), (3, 3)], [], [], [], [(200000, 4, 3)], [], [], some []))
def kh_hReach_b39_1 : sg_T := (39, 0, ([((2, 805, 805, 0), none), ((0, 0, 11, 1), none), ((0, 0, 1, 1), none), ((0, 0, 16, 1), none), ((0, 17, 17, 0), none), ((2, 854, 854, 1), none), ((0, 0, 10, 1), none), ((0, 1, 97, 1), none), ((2, 854, 854, 1), none), ((0, 1, 11, 1), none), ((0, 2, 98, 1), none), ((0, 2, 2, 0), none), ((0, 1, 1, 0), none), ((0, 1, 1, 0), none), ((0, 1, 98, 1), some (7, 1)), ((2, 854, 854, 1), none), ((0, 0, 10, 1), none), ((0, 1, 1, 0), none), ((0, 3, 100, 1), some (10, 1)), ((2, 854, 854, 1), none), ((0, 1, 11, 1), none), ((0, 1, 1, 0), none), ((0, 2, 98, 1), some (7, 1)), ((0, 1, 1, 0), none), ((0, 1, 17, 1), some (3, 1))], [(3, 24), (2, 23), (5, 10), (4, 7), (0, 0), (1, 1)], [], [(19, 20, 10)], [(12, 0)], [(200000, 10, 22), (500022, 7, 21), (1100020, 3, 3), (200000, 7, 18), (500018, 10, 17), (1000016, 3, 3), (100000, 14, 10), (500014, 7, 13), (800010, 8, 9), (1100009, 3, 3), (800007, 5, 6), (1000006, 3, 3), (100000, 3, 4)], [], [], some [(19, 20, 10), (15, 16, 7)]))
def kh_hReach_b39_2 : sg_T := (39, 0, ([((2, 805, 805, 0), none), ((0, 0, 11, 1), none), ((0, 0, 1, 1), none), ((0, 0, 16, 1), none), ((0, 17, 17, 0), none), ((2, 854, 854, 1), none), ((0, 0, 10, 1), none), ((0, 0, 97, 1), none), ((2, 854, 854, 1), none), ((0, 1, 11, 1), none), ((0, 2, 99, 1), none), ((0, 2, 2, 0), none), ((0, 1, 1, 0), none), ((0, 1, 1, 0), none), ((0, 1, 98, 1), some (7, 1)), ((2, 854, 854, 1), none), ((0, 0, 10, 1), none), ((0, 1, 1, 0), none), ((0, 3, 100, 1), some (10, 1)), ((2, 854, 854, 1), none), ((0, 1, 11, 1), none), ((0, 1, 1, 0), none), ((0, 1, 98, 1), some (7, 1)), ((0, 1, 1, 0), none), ((0, 1, 98, 1), some (7, 1)), ((0, 1, 1, 0), none), ((0, 1, 17, 1), some (3, 1))], [(3, 26), (2, 25), (5, 10), (4, 7), (0, 0), (1, 1)], [], [(19, 20, 24)], [(12, 0)], [(500024, 7, 23), (100000, 22, 10), (500022, 7, 21), (1100020, 3, 3), (200000, 7, 18), (500018, 10, 17), (1000016, 3, 3), (100000, 14, 10), (500014, 7, 13), (800010, 8, 9), (1100009, 3, 3), (800007, 5, 6), (1000006, 3, 3), (100000, 3, 4)], [], [], some [(19, 20, 24), (15, 16, 7)]))
def kh_hReach_b39_3 : sg_T := (39, 0, ([((2, 805, 805, 0), none), ((0, 0, 11, 1), none), ((0, 0, 1, 1), none), ((0, 0, 16, 1), none), ((0, 17, 17, 0), none), ((2, 854, 854, 1), none), ((0, 0, 10, 1), none), ((0, 4, 97, 1), none), ((2, 854, 854, 1), none), ((0, 1, 11, 1), none), ((0, 2, 95, 1), none), ((0, 2, 2, 0), none), ((0, 1, 1, 0), none), ((0, 1, 1, 0), none), ((0, 1, 98, 1), some (7, 1)), ((2, 854, 854, 1), none), ((0, 0, 10, 1), none), ((0, 1, 1, 0), none), ((0, 3, 96, 1), some (10, 1)), ((0, 1, 1, 0), none), ((0, 3, 96, 1), some (10, 1)), ((2, 854, 854, 1), none), ((0, 1, 11, 1), none), ((0, 1, 1, 0), none), ((0, 5, 98, 1), some (7, 1)), ((0, 1, 1, 0), none), ((0, 1, 17, 1), some (3, 1))], [(3, 26), (2, 25), (5, 10), (4, 7), (0, 0), (1, 1)], [], [(21, 22, 10)], [(12, 0)], [(200000, 10, 24), (500024, 7, 23), (1100022, 3, 3), (500020, 10, 19), (100000, 18, 7), (500018, 10, 17), (1000016, 3, 3), (100000, 14, 10), (500014, 7, 13), (800010, 8, 9), (1100009, 3, 3), (800007, 5, 6), (1000006, 3, 3), (100000, 3, 4)], [], [], some [(21, 22, 10), (15, 16, 20)]))
def kh_hReach_b39_4 : sg_T := (39, 0, ([((2, 805, 805, 0), none), ((0, 0, 11, 1), none), ((0, 0, 1, 1), none), ((0, 0, 16, 1), none), ((0, 17, 17, 0), none), ((2, 854, 854, 1), none), ((0, 0, 10, 1), none), ((0, 4, 93, 1), none), ((2, 854, 854, 1), none), ((0, 1, 11, 1), none), ((0, 6, 95, 1), none), ((0, 2, 2, 0), none), ((0, 1, 1, 0), none), ((0, 1, 1, 0), none), ((0, 1, 98, 1), some (7, 1)), ((2, 854, 854, 1), none), ((0, 0, 10, 1), none), ((0, 1, 1, 0), none), ((0, 3, 96, 1), some (10, 1)), ((0, 1, 1, 0), none), ((0, 3, 96, 1), some (10, 1)), ((2, 854, 854, 1), none), ((0, 1, 11, 1), none), ((0, 1, 1, 0), none), ((0, 5, 94, 1), some (7, 1)), ((0, 1, 1, 0), none), ((0, 5, 94, 1), some (7, 1)), ((0, 1, 1, 0), none), ((0, 1, 17, 1), some (3, 1))], [(3, 28), (2, 27), (5, 10), (4, 7), (0, 0), (1, 1)], [], [(21, 22, 26)], [(12, 0)], [(500026, 7, 25), (100000, 24, 10), (500024, 7, 23), (1100022, 3, 3), (500020, 10, 19), (100000, 18, 7), (500018, 10, 17), (1000016, 3, 3), (100000, 14, 10), (500014, 7, 13), (800010, 8, 9), (1100009, 3, 3), (800007, 5, 6), (1000006, 3, 3), (100000, 3, 4)], [], [], some [(21, 22, 26), (15, 16, 20)]))
def kh_hReach_b39_5 : sg_T := (39, 0, ([((2, 805, 805, 0), none), ((0, 0, 11, 1), none), ((0, 0, 1, 1), none), ((0, 0, 16, 1), none), ((0, 17, 17, 0), none), ((2, 854, 854, 1), none), ((0, 0, 10, 1), none), ((0, 0, 99, 1), none), ((2, 854, 854, 1), none), ((0, 1, 11, 1), none), ((0, 0, 99, 1), none), ((0, 2, 2, 0), none), ((0, 1, 1, 0), none), ((0, 1, 1, 0), none), ((0, 1, 100, 1), some (7, 1)), ((0, 1, 1, 0), none), ((0, 1, 100, 1), some (10, 1)), ((0, 1, 17, 1), some (3, 1))], [(3, 17), (5, 10), (4, 7), (0, 0), (1, 1), (2, 2)], [], [(8, 9, 10), (5, 6, 7)], [(12, 0)], [(200000, 7, 16), (500016, 10, 15), (200000, 10, 14), (500014, 7, 13), (800010, 8, 9), (1100009, 3, 3), (800007, 5, 6), (1000006, 3, 3), (100000, 3, 4)], [], [], some []))
def kh_hReach_b39_6 : sg_T := (39, 0, ([((2, 805, 805, 0), none), ((0, 0, 11, 1), none), ((0, 0, 1, 1), none), ((0, 0, 16, 1), none), ((0, 17, 17, 0), none), ((2, 854, 854, 1), none), ((0, 0, 10, 1), none), ((0, 2, 98, 1), none), ((2, 854, 854, 1), none), ((0, 1, 11, 1), none), ((0, 1, 97, 1), none), ((0, 2, 2, 0), none), ((0, 1, 1, 0), none), ((0, 1, 1, 0), none), ((0, 1, 100, 1), some (7, 1)), ((0, 1, 1, 0), none), ((0, 1, 98, 1), some (10, 1)), ((2, 854, 854, 1), none), ((0, 0, 10, 1), none), ((0, 1, 1, 0), none), ((0, 2, 98, 1), some (10, 1)), ((2, 854, 854, 1), none), ((0, 1, 11, 1), none), ((0, 1, 1, 0), none), ((0, 3, 99, 1), some (7, 1)), ((0, 1, 1, 0), none), ((0, 1, 17, 1), some (3, 1))], [(3, 26), (2, 25), (5, 10), (4, 7), (0, 0), (1, 1)], [], [(21, 22, 10)], [(12, 0)], [(200000, 10, 24), (500024, 7, 23), (1100022, 3, 3), (200000, 7, 20), (500020, 10, 19), (1000018, 3, 3), (100000, 16, 7), (500016, 10, 15), (200000, 10, 14), (500014, 7, 13), (800010, 8, 9), (1100009, 3, 3), (800007, 5, 6), (1000006, 3, 3), (100000, 3, 4)], [], [], some [(21, 22, 10), (17, 18, 7)]))
def kh_hReach_b39_7 : sg_T := (39, 0, ([((2, 805, 805, 0), none), ((0, 0, 11, 1), none), ((0, 0, 1, 1), none), ((0, 0, 16, 1), none), ((0, 17, 17, 0), none), ((2, 854, 854, 1), none), ((0, 0, 10, 1), none), ((0, 2, 95, 1), none), ((2, 854, 854, 1), none), ((0, 1, 11, 1), none), ((0, 4, 97, 1), none), ((0, 2, 2, 0), none), ((0, 1, 1, 0), none), ((0, 1, 1, 0), none), ((0, 1, 100, 1), some (7, 1)), ((0, 1, 1, 0), none), ((0, 1, 98, 1), some (10, 1)), ((2, 854, 854, 1), none), ((0, 0, 10, 1), none), ((0, 1, 1, 0), none), ((0, 2, 98, 1), some (10, 1)), ((2, 854, 854, 1), none), ((0, 1, 11, 1), none), ((0, 1, 1, 0), none), ((0, 3, 96, 1), some (7, 1)), ((0, 1, 1, 0), none), ((0, 3, 96, 1), some (7, 1)), ((0, 1, 1, 0), none), ((0, 1, 17, 1), some (3, 1))], [(3, 28), (2, 27), (5, 10), (4, 7), (0, 0), (1, 1)], [], [(21, 22, 26)], [(12, 0)], [(500026, 7, 25), (100000, 24, 10), (500024, 7, 23), (1100022, 3, 3), (200000, 7, 20), (500020, 10, 19), (1000018, 3, 3), (100000, 16, 7), (500016, 10, 15), (200000, 10, 14), (500014, 7, 13), (800010, 8, 9), (1100009, 3, 3), (800007, 5, 6), (1000006, 3, 3), (100000, 3, 4)], [], [], some [(21, 22, 26), (17, 18, 7)]))
def kh_hReach_b39_8 : sg_T := (39, 0, ([((2, 805, 805, 0), none), ((0, 0, 11, 1), none), ((0, 0, 1, 1), none), ((0, 0, 16, 1), none), ((0, 17, 17, 0), none), ((2, 854, 854, 1), none), ((0, 0, 10, 1), none), ((0, 2, 99, 1), none), ((2, 854, 854, 1), none), ((0, 1, 11, 1), none), ((0, 0, 97, 1), none), ((0, 2, 2, 0), none), ((0, 1, 1, 0), none), ((0, 1, 1, 0), none), ((0, 1, 100, 1), some (7, 1)), ((0, 1, 1, 0), none), ((0, 1, 98, 1), some (10, 1)), ((2, 854, 854, 1), none), ((0, 0, 10, 1), none), ((0, 1, 1, 0), none), ((0, 1, 98, 1), some (10, 1)), ((0, 1, 1, 0), none), ((0, 1, 98, 1), some (10, 1)), ((2, 854, 854, 1), none), ((0, 1, 11, 1), none), ((0, 1, 1, 0), none), ((0, 3, 100, 1), some (7, 1)), ((0, 1, 1, 0), none), ((0, 1, 17, 1), some (3, 1))], [(3, 28), (2, 27), (5, 10), (4, 7), (0, 0), (1, 1)], [], [(23, 24, 10)], [(12, 0)], [(200000, 10, 26), (500026, 7, 25), (1100024, 3, 3), (500022, 10, 21), (100000, 20, 7), (500020, 10, 19), (1000018, 3, 3), (100000, 16, 7), (500016, 10, 15), (200000, 10, 14), (500014, 7, 13), (800010, 8, 9), (1100009, 3, 3), (800007, 5, 6), (1000006, 3, 3), (100000, 3, 4)], [], [], some [(23, 24, 10), (17, 18, 22)]))
def kh_hReach_b39_9 : sg_T := (39, 0, ([((2, 805, 805, 0), none), ((0, 0, 11, 1), none), ((0, 0, 1, 1), none), ((0, 0, 16, 1), none), ((0, 17, 17, 0), none), ((2, 854, 854, 1), none), ((0, 0, 10, 1), none), ((0, 2, 95, 1), none), ((2, 854, 854, 1), none), ((0, 1, 11, 1), none), ((0, 4, 97, 1), none), ((0, 2, 2, 0), none), ((0, 1, 1, 0), none), ((0, 1, 1, 0), none), ((0, 1, 100, 1), some (7, 1)), ((0, 1, 1, 0), none), ((0, 1, 98, 1), some (10, 1)), ((2, 854, 854, 1), none), ((0, 0, 10, 1), none), ((0, 1, 1, 0), none), ((0, 1, 98, 1), some (10, 1)), ((0, 1, 1, 0), none), ((0, 1, 98, 1), some (10, 1)), ((2, 854, 854, 1), none), ((0, 1, 11, 1), none), ((0, 1, 1, 0), none), ((0, 3, 96, 1), some (7, 1)), ((0, 1, 1, 0), none), ((0, 3, 96, 1), some (7, 1)), ((0, 1, 1, 0), none), ((0, 1, 17, 1), some (3, 1))], [(3, 30), (2, 29), (5, 10), (4, 7), (0, 0), (1, 1)], [], [(23, 24, 28)], [(12, 0)], [(500028, 7, 27), (100000, 26, 10), (500026, 7, 25), (1100024, 3, 3), (500022, 10, 21), (100000, 20, 7), (500020, 10, 19), (1000018, 3, 3), (100000, 16, 7), (500016, 10, 15), (200000, 10, 14), (500014, 7, 13), (800010, 8, 9), (1100009, 3, 3), (800007, 5, 6), (1000006, 3, 3), (100000, 3, 4)], [], [], some [(23, 24, 28), (17, 18, 22)]))
def kh_hReach_b39_10 : sg_T := (39, 0, ([((2, 805, 805, 0), none), ((0, 0, 11, 1), none), ((0, 0, 1, 1), none), ((0, 0, 16, 1), none), ((0, 17, 17, 0), none), ((2, 854, 854, 1), none), ((0, 0, 10, 1), none), ((0, 0, 99, 1), none), ((2, 854, 854, 1), none), ((0, 1, 11, 1), none), ((0, 0, 99, 1), none), ((0, 2, 2, 0), none), ((0, 0, 0, 0), none), ((0, 1, 17, 1), some (3, 1))], [(3, 13), (5, 10), (4, 7), (0, 0), (1, 1), (2, 2)], [], [(8, 9, 10), (5, 6, 7)], [], [(800010, 8, 9), (1100009, 3, 3), (800007, 5, 6), (1000006, 3, 3), (100000, 3, 4)], [], [], some []))
def kh_hReach_e0 : sg_T := (31, 0, ([((2, 805, 805, 0), none), ((0, 0, 11, 1), none), ((0, 12, 12, 1), none), ((0, 12, 12, 0), none), ((2, 854, 854, 1), none), ((0, 0, 0, 0), none), ((0, 1, 1, 0), none)], [(2, 6), (0, 0), (1, 1)], [], [], [], [], [], [], none))
def kh_hReach_b31_0 : sg_T := (159, 0, ([((2, 805, 805, 0), none), ((0, 0, 11, 1), none), ((0, 0, 0, 1), none)], [(0, 0), (1, 1), (2, 2)], [], [], [], [], [], [], some []))
def kh_hReach_b31_1 : sg_T := (39, 0, ([((2, 805, 805, 0), none), ((0, 0, 11, 1), none), ((0, 1, 1, 1), none), ((0, 0, 0, 0), none), ((0, 0, 0, 0), none)], [(3, 4), (2, 3), (0, 0), (1, 1)], [], [], [(2, 0)], [], [], [], some []))
theorem kh_hReach_ok : ct_ok wd_fl kh_hReach := ct_hand (ff := wd_ff) (y := kh_hReach_y) (Cs := [kh_low, kh_high, kh_74, kh_79, kh_84, kh_89, kh_94, kh_99, kh_104, kh_109, kh_114, kh_119, kh_124, kh_129, kh_134, kh_139]) wd_fl_ok rfl (List.forall_mem_cons.mpr ⟨kh_low_ok, (List.forall_mem_cons.mpr ⟨kh_high_ok, (List.forall_mem_cons.mpr ⟨kh_74_ok, (List.forall_mem_cons.mpr ⟨kh_79_ok, (List.forall_mem_cons.mpr ⟨kh_84_ok, (List.forall_mem_cons.mpr ⟨kh_89_ok, (List.forall_mem_cons.mpr ⟨kh_94_ok, (List.forall_mem_cons.mpr ⟨kh_99_ok, (List.forall_mem_cons.mpr ⟨kh_104_ok, (List.forall_mem_cons.mpr ⟨kh_109_ok, (List.forall_mem_cons.mpr ⟨kh_114_ok, (List.forall_mem_cons.mpr ⟨kh_119_ok, (List.forall_mem_cons.mpr ⟨kh_124_ok, (List.forall_mem_cons.mpr ⟨kh_129_ok, (List.forall_mem_cons.mpr ⟨kh_134_ok, (List.forall_mem_cons.mpr ⟨kh_139_ok, (List.forall_mem_nil _)⟩)⟩)⟩)⟩)⟩)⟩)⟩)⟩)⟩)⟩)⟩)⟩)⟩)⟩)⟩)⟩) (by decide +kernel) (fun l D tc ad kd N sm xs S p e s m args below meth c sz lv G H0 => by
  have hx : xs.length = 2 := by rw [H0.2.1.1]; rfl
  have hbd : ∀ (α : List av_X) (A : as_T) (lv : List (Nat × Value)) (st : List Value) (S1 : fw_S), as_in ad sm wd_fl xs S kh_hReach.2.2.2.2.2.1 α A lv st S1 → q_rg A ((854, 854), (0, 11, 1), (0, 0, 99, 1)) = true → 0 ≤ sm_S (S1.1 854) 12 ∧ sm_S (S1.1 854) 12 ≤ 1188 := by
    intro α A lv st S1 H hq
    have h1 := q_rg_in hq H
    have := sm_bd (f := S1.1 854) (lo := 0) (hi := 99) (n := 12) (fun j hj => rg_bd h1 (by omega))
    omega
  have hX : ∀ (α : List av_X) (lv : List (Nat × Value)) (S1 : fw_S), as_in ad sm wd_fl xs S kh_hReach.2.2.2.2.2.1 α kh_hReach_a31.2.2.1 lv [] S1 → nv α 2 = 0 → hd_W wd_fl kh_hReach kh_hReach_y l D tc ad kd N sm xs S p e s m args below meth c sz 31 lv [] S1 0 := by
    intro α lv S1 H h0
    have hg := (en_nv (i := 2) H.2.1 rfl).1
    rw [h0] at hg
    exact hd_run G (ss := []) (A := ([((2, 805, 805, 0), none), ((0, 0, 11, 1), none), ((0, 0, 0, 0), none)], [(0, 0), (1, 1), (2, 2)], [], [], [], [], [], [], none)) (fuel := 20) (by decide +kernel) (as_set (i := 2) (q := ((0, 0, 1, 1), none)) (a := (0, 0, 0, 0)) H hg rfl ⟨rfl, ⟨by decide, by decide⟩, Int.le_refl _, Int.le_refl _, Int.dvd_refl _⟩)
  have hW : ∀ (k : Nat) (α : List av_X) (lv : List (Nat × Value)) (S1 : fw_S), as_in ad sm wd_fl xs S kh_hReach.2.2.2.2.2.1 α kh_hReach_a31.2.2.1 lv [] S1 → (sm_S (S1.1 854) 12).toNat < k → hd_W wd_fl kh_hReach kh_hReach_y l D tc ad kd N sm xs S p e s m args below meth c sz 31 lv [] S1 0 := by
    intro k
    induction k with
    | zero => intro α lv S1 _ h; omega
    | succ k ih =>
    intro α lv S1 H hk
    have hI : ∀ (j : Nat) (α : List av_X) (lv : List (Nat × Value)) (S2 : fw_S), as_in ad sm wd_fl xs S kh_hReach.2.2.2.2.2.1 α kh_hReach_a39.2.2.1 lv [] S2 → sm_S (S2.1 854) 12 ≤ sm_S (S1.1 854) 12 → (nv α 2 = 0 ∨ sm_S (S2.1 854) 12 < sm_S (S1.1 854) 12) → (17 - nv α 3).toNat < j → hd_W wd_fl kh_hReach kh_hReach_y l D tc ad kd N sm xs S p e s m args below meth c sz 39 lv [] S2 0 := by
      intro j
      induction j with
      | zero => intro α lv S2 _ _ _ h; omega
      | succ j ihj =>
      intro α lv S2 H2 hR hg hj
      obtain ⟨α1, hle, Hr⟩ := as_rec_in (pl := []) rfl H2
      have hf := H2.2.2.2.2.2.2.2.2.2.2.1
      have hl1 : α1.length = 4 := by rw [Hr.2.1.1]; rfl
      have hl0 : α.length = 4 := by rw [H2.2.1.1]; rfl
      have hxa : al_le xs α1 := H2.1.trans hle
      refine hd_seg G (na := 4) (fuel := 400) (first := true) (Bs := [kh_hReach_b39_0, kh_hReach_b39_1, kh_hReach_b39_2, kh_hReach_b39_3, kh_hReach_b39_4, kh_hReach_b39_5, kh_hReach_b39_6, kh_hReach_b39_7, kh_hReach_b39_8, kh_hReach_b39_9, kh_hReach_b39_10]) (by decide +kernel) hl1 Hr ?_
      intro q hq β lv' st' S' H1
      simp only [List.mem_cons, List.not_mem_nil, or_false] at hq
      rcases hq with rfl | rfl | rfl | rfl | rfl | rfl | rfl | rfl | rfl | rfl | rfl
      · have Ha := hd_go (q := kh_hReach_a31) (n := 0) (by decide +kernel) hx H1 hxa hf
        have hst : st' = [] := by
          have := H1.2.2.2.1
          match st', this with
          | [], _ => rfl
          | _ :: _, z => exact z.elim
        subst hst
        have eg : nv α1 2 = nv α 2 := nv_le hle (by omega)
        have et : nv α1 3 = nv α 3 := nv_le hle (by omega)
        have eg1 : nv β 2 = nv α1 2 := nv_le H1.1 (by omega)
        have et1 : nv β 3 = nv α1 3 := nv_le H1.1 (by omega)
        have hb := hbd _ _ _ _ _ H2 (by decide +kernel)
        obtain ⟨f1, f2, f3, f4, f5⟩ := as_fx H1
        simp only [kh_hReach_b39_0, fx_env, fx_c, fx_ne, fx_hf, wl_S, Nat.zero_add, Nat.reduceAdd, Nat.reduceDiv, Nat.reduceMod, List.getElem?_cons_zero, List.getElem?_cons_succ, if_true, and_true, true_and] at f1 f2 f3 f4 f5
        have fe0 : nv β 0 = 805 := by omega
        have fe3 : nv β 3 = 17 := by omega
        have fe4 : nv β 4 = 17 := by omega
        simp only [fe0, fe3, fe4, Int.reduceToNat] at f2 f3 f4 f5
        rw [f5] at Ha ⊢
        rcases hg with hg | hg
        · exact hX _ _ _ Ha (by rw [nv_mu (v := 2) rfl]; omega)
        · exact ih _ _ _ Ha (by omega)
      · have Ha := hd_go (q := kh_hReach_a39) (n := 0) (by decide +kernel) hx H1 hxa hf
        have hst : st' = [] := by
          have := H1.2.2.2.1
          match st', this with
          | [], _ => rfl
          | _ :: _, z => exact z.elim
        subst hst
        have eg : nv α1 2 = nv α 2 := nv_le hle (by omega)
        have et : nv α1 3 = nv α 3 := nv_le hle (by omega)
        have eg1 : nv β 2 = nv α1 2 := nv_le H1.1 (by omega)
        have et1 : nv β 3 = nv α1 3 := nv_le H1.1 (by omega)
        have hb := hbd _ _ _ _ _ H2 (by decide +kernel)
        obtain ⟨f1, f2, f3, f4, f5⟩ := as_fx H1
        simp only [kh_hReach_b39_1, fx_env, fx_c, fx_ne, fx_hf, wl_S, Nat.zero_add, Nat.reduceAdd, Nat.reduceDiv, Nat.reduceMod, List.getElem?_cons_zero, List.getElem?_cons_succ, if_true, and_true, true_and] at f1 f2 f3 f4 f5
        have fe0 : nv β 0 = 805 := by omega
        have fe4 : nv β 4 = 17 := by omega
        have fe5 : nv β 5 = 854 := by omega
        have fe8 : nv β 8 = 854 := by omega
        have fe11 : nv β 11 = 2 := by omega
        have fe12 : nv β 12 = 1 := by omega
        have fe13 : nv β 13 = 1 := by omega
        have fe15 : nv β 15 = 854 := by omega
        have fe17 : nv β 17 = 1 := by omega
        have fe19 : nv β 19 = 854 := by omega
        have fe21 : nv β 21 = 1 := by omega
        have fe23 : nv β 23 = 1 := by omega
        simp only [fe0, fe4, fe5, fe8, fe11, fe12, fe13, fe15, fe17, fe19, fe21, fe23, Int.reduceToNat] at f2 f3 f4 f5
        obtain ⟨c0, c1, c2, c3, c4, c5, c6, c7, c8, c9, c10, c11, c12⟩ := f2
        have oL := old_0 c10 rfl
        have oH := old_0 c8 rfl
        have d5 := c5
        simp only [wd_fl] at d5
        have d11 := c11
        simp only [wd_fl] at d11
        have d2 := c2
        simp only [wd_fl] at d2
        have d9 := c9
        simp only [wd_fl] at d9
        have hlh : lowI (nv β 3) < highI (nv β 3) := by
          have : nv β 3 / 3 ≤ 5 := by omega
          unfold highI lowI; (repeat' split) <;> omega
        have hR2 : sm_S (S'.1 854) 12 < sm_S (S2.1 854) 12 := by
          rw [f5, sm_i (by omega), sm_i (by omega), fw_i_row, if_neg (by omega), i32_of (by omega) (by omega), i32_of (by omega) (by omega)]
          have u1 : nv β 16 = nv β 6 := by omega
          have u2 : nv β 20 = nv β 9 := by omega
          rw [u1, u2, oL, oH]
          omega
        refine ihj _ _ _ Ha (by omega) (Or.inr (by omega)) (by rw [nv_mu (v := 24) rfl]; omega)
      · have Ha := hd_go (q := kh_hReach_a39) (n := 0) (by decide +kernel) hx H1 hxa hf
        have hst : st' = [] := by
          have := H1.2.2.2.1
          match st', this with
          | [], _ => rfl
          | _ :: _, z => exact z.elim
        subst hst
        have eg : nv α1 2 = nv α 2 := nv_le hle (by omega)
        have et : nv α1 3 = nv α 3 := nv_le hle (by omega)
        have eg1 : nv β 2 = nv α1 2 := nv_le H1.1 (by omega)
        have et1 : nv β 3 = nv α1 3 := nv_le H1.1 (by omega)
        have hb := hbd _ _ _ _ _ H2 (by decide +kernel)
        obtain ⟨f1, f2, f3, f4, f5⟩ := as_fx H1
        simp only [kh_hReach_b39_2, fx_env, fx_c, fx_ne, fx_hf, wl_S, Nat.zero_add, Nat.reduceAdd, Nat.reduceDiv, Nat.reduceMod, List.getElem?_cons_zero, List.getElem?_cons_succ, if_true, and_true, true_and] at f1 f2 f3 f4 f5
        have fe0 : nv β 0 = 805 := by omega
        have fe4 : nv β 4 = 17 := by omega
        have fe5 : nv β 5 = 854 := by omega
        have fe8 : nv β 8 = 854 := by omega
        have fe11 : nv β 11 = 2 := by omega
        have fe12 : nv β 12 = 1 := by omega
        have fe13 : nv β 13 = 1 := by omega
        have fe15 : nv β 15 = 854 := by omega
        have fe17 : nv β 17 = 1 := by omega
        have fe19 : nv β 19 = 854 := by omega
        have fe21 : nv β 21 = 1 := by omega
        have fe23 : nv β 23 = 1 := by omega
        have fe25 : nv β 25 = 1 := by omega
        simp only [fe0, fe4, fe5, fe8, fe11, fe12, fe13, fe15, fe17, fe19, fe21, fe23, fe25, Int.reduceToNat] at f2 f3 f4 f5
        obtain ⟨c0, c1, c2, c3, c4, c5, c6, c7, c8, c9, c10, c11, c12, c13⟩ := f2
        have oL := old_0 c11 rfl
        have oH := old_0 c9 rfl
        have d6 := c6
        simp only [wd_fl] at d6
        have d12 := c12
        simp only [wd_fl] at d12
        have d3 := c3
        simp only [wd_fl] at d3
        have d10 := c10
        simp only [wd_fl] at d10
        have hlh : lowI (nv β 3) < highI (nv β 3) := by
          have : nv β 3 / 3 ≤ 5 := by omega
          unfold highI lowI; (repeat' split) <;> omega
        have hR2 : sm_S (S'.1 854) 12 < sm_S (S2.1 854) 12 := by
          rw [f5, sm_i (by omega), sm_i (by omega), fw_i_row, if_neg (by omega), i32_of (by omega) (by omega), i32_of (by omega) (by omega)]
          have u1 : nv β 16 = nv β 6 := by omega
          have u2 : nv β 20 = nv β 9 := by omega
          rw [u1, u2, oL, oH]
          omega
        refine ihj _ _ _ Ha (by omega) (Or.inr (by omega)) (by rw [nv_mu (v := 26) rfl]; omega)
      · have Ha := hd_go (q := kh_hReach_a39) (n := 0) (by decide +kernel) hx H1 hxa hf
        have hst : st' = [] := by
          have := H1.2.2.2.1
          match st', this with
          | [], _ => rfl
          | _ :: _, z => exact z.elim
        subst hst
        have eg : nv α1 2 = nv α 2 := nv_le hle (by omega)
        have et : nv α1 3 = nv α 3 := nv_le hle (by omega)
        have eg1 : nv β 2 = nv α1 2 := nv_le H1.1 (by omega)
        have et1 : nv β 3 = nv α1 3 := nv_le H1.1 (by omega)
        have hb := hbd _ _ _ _ _ H2 (by decide +kernel)
        obtain ⟨f1, f2, f3, f4, f5⟩ := as_fx H1
        simp only [kh_hReach_b39_3, fx_env, fx_c, fx_ne, fx_hf, wl_S, Nat.zero_add, Nat.reduceAdd, Nat.reduceDiv, Nat.reduceMod, List.getElem?_cons_zero, List.getElem?_cons_succ, if_true, and_true, true_and] at f1 f2 f3 f4 f5
        have fe0 : nv β 0 = 805 := by omega
        have fe4 : nv β 4 = 17 := by omega
        have fe5 : nv β 5 = 854 := by omega
        have fe8 : nv β 8 = 854 := by omega
        have fe11 : nv β 11 = 2 := by omega
        have fe12 : nv β 12 = 1 := by omega
        have fe13 : nv β 13 = 1 := by omega
        have fe15 : nv β 15 = 854 := by omega
        have fe17 : nv β 17 = 1 := by omega
        have fe19 : nv β 19 = 1 := by omega
        have fe21 : nv β 21 = 854 := by omega
        have fe23 : nv β 23 = 1 := by omega
        have fe25 : nv β 25 = 1 := by omega
        simp only [fe0, fe4, fe5, fe8, fe11, fe12, fe13, fe15, fe17, fe19, fe21, fe23, fe25, Int.reduceToNat] at f2 f3 f4 f5
        obtain ⟨c0, c1, c2, c3, c4, c5, c6, c7, c8, c9, c10, c11, c12, c13⟩ := f2
        have oL := old_0 c11 rfl
        have oH := old_0 c9 rfl
        have d6 := c6
        simp only [wd_fl] at d6
        have d12 := c12
        simp only [wd_fl] at d12
        have d2 := c2
        simp only [wd_fl] at d2
        have d10 := c10
        simp only [wd_fl] at d10
        have hlh : lowI (nv β 3) < highI (nv β 3) := by
          have : nv β 3 / 3 ≤ 5 := by omega
          unfold highI lowI; (repeat' split) <;> omega
        have hR2 : sm_S (S'.1 854) 12 < sm_S (S2.1 854) 12 := by
          rw [f5, sm_i (by omega), sm_i (by omega), fw_i_row, if_neg (by omega), i32_of (by omega) (by omega), i32_of (by omega) (by omega)]
          have u1 : nv β 16 = nv β 6 := by omega
          have u2 : nv β 22 = nv β 9 := by omega
          rw [u1, u2, oL, oH]
          omega
        refine ihj _ _ _ Ha (by omega) (Or.inr (by omega)) (by rw [nv_mu (v := 26) rfl]; omega)
      · have Ha := hd_go (q := kh_hReach_a39) (n := 0) (by decide +kernel) hx H1 hxa hf
        have hst : st' = [] := by
          have := H1.2.2.2.1
          match st', this with
          | [], _ => rfl
          | _ :: _, z => exact z.elim
        subst hst
        have eg : nv α1 2 = nv α 2 := nv_le hle (by omega)
        have et : nv α1 3 = nv α 3 := nv_le hle (by omega)
        have eg1 : nv β 2 = nv α1 2 := nv_le H1.1 (by omega)
        have et1 : nv β 3 = nv α1 3 := nv_le H1.1 (by omega)
        have hb := hbd _ _ _ _ _ H2 (by decide +kernel)
        obtain ⟨f1, f2, f3, f4, f5⟩ := as_fx H1
        simp only [kh_hReach_b39_4, fx_env, fx_c, fx_ne, fx_hf, wl_S, Nat.zero_add, Nat.reduceAdd, Nat.reduceDiv, Nat.reduceMod, List.getElem?_cons_zero, List.getElem?_cons_succ, if_true, and_true, true_and] at f1 f2 f3 f4 f5
        have fe0 : nv β 0 = 805 := by omega
        have fe4 : nv β 4 = 17 := by omega
        have fe5 : nv β 5 = 854 := by omega
        have fe8 : nv β 8 = 854 := by omega
        have fe11 : nv β 11 = 2 := by omega
        have fe12 : nv β 12 = 1 := by omega
        have fe13 : nv β 13 = 1 := by omega
        have fe15 : nv β 15 = 854 := by omega
        have fe17 : nv β 17 = 1 := by omega
        have fe19 : nv β 19 = 1 := by omega
        have fe21 : nv β 21 = 854 := by omega
        have fe23 : nv β 23 = 1 := by omega
        have fe25 : nv β 25 = 1 := by omega
        have fe27 : nv β 27 = 1 := by omega
        simp only [fe0, fe4, fe5, fe8, fe11, fe12, fe13, fe15, fe17, fe19, fe21, fe23, fe25, fe27, Int.reduceToNat] at f2 f3 f4 f5
        obtain ⟨c0, c1, c2, c3, c4, c5, c6, c7, c8, c9, c10, c11, c12, c13, c14⟩ := f2
        have oL := old_0 c12 rfl
        have oH := old_0 c10 rfl
        have d7 := c7
        simp only [wd_fl] at d7
        have d13 := c13
        simp only [wd_fl] at d13
        have d3 := c3
        simp only [wd_fl] at d3
        have d11 := c11
        simp only [wd_fl] at d11
        have hlh : lowI (nv β 3) < highI (nv β 3) := by
          have : nv β 3 / 3 ≤ 5 := by omega
          unfold highI lowI; (repeat' split) <;> omega
        have hR2 : sm_S (S'.1 854) 12 < sm_S (S2.1 854) 12 := by
          rw [f5, sm_i (by omega), sm_i (by omega), fw_i_row, if_neg (by omega), i32_of (by omega) (by omega), i32_of (by omega) (by omega)]
          have u1 : nv β 16 = nv β 6 := by omega
          have u2 : nv β 22 = nv β 9 := by omega
          rw [u1, u2, oL, oH]
          omega
        refine ihj _ _ _ Ha (by omega) (Or.inr (by omega)) (by rw [nv_mu (v := 28) rfl]; omega)
      · have Ha := hd_go (q := kh_hReach_a39) (n := 0) (by decide +kernel) hx H1 hxa hf
        have hst : st' = [] := by
          have := H1.2.2.2.1
          match st', this with
          | [], _ => rfl
          | _ :: _, z => exact z.elim
        subst hst
        have eg : nv α1 2 = nv α 2 := nv_le hle (by omega)
        have et : nv α1 3 = nv α 3 := nv_le hle (by omega)
        have eg1 : nv β 2 = nv α1 2 := nv_le H1.1 (by omega)
        have et1 : nv β 3 = nv α1 3 := nv_le H1.1 (by omega)
        have hb := hbd _ _ _ _ _ H2 (by decide +kernel)
        obtain ⟨f1, f2, f3, f4, f5⟩ := as_fx H1
        simp only [kh_hReach_b39_5, fx_env, fx_c, fx_ne, fx_hf, wl_S, Nat.zero_add, Nat.reduceAdd, Nat.reduceDiv, Nat.reduceMod, List.getElem?_cons_zero, List.getElem?_cons_succ, if_true, and_true, true_and] at f1 f2 f3 f4 f5
        have fe0 : nv β 0 = 805 := by omega
        have fe4 : nv β 4 = 17 := by omega
        have fe5 : nv β 5 = 854 := by omega
        have fe8 : nv β 8 = 854 := by omega
        have fe11 : nv β 11 = 2 := by omega
        have fe12 : nv β 12 = 1 := by omega
        have fe13 : nv β 13 = 1 := by omega
        have fe15 : nv β 15 = 1 := by omega
        simp only [fe0, fe4, fe5, fe8, fe11, fe12, fe13, fe15, Int.reduceToNat] at f2 f3 f4 f5
        rw [f5] at Ha ⊢
        refine ihj _ _ _ Ha (by omega) (by rw [nv_mu (v := 2) rfl]; omega) (by rw [nv_mu (v := 17) rfl]; omega)
      · have Ha := hd_go (q := kh_hReach_a39) (n := 0) (by decide +kernel) hx H1 hxa hf
        have hst : st' = [] := by
          have := H1.2.2.2.1
          match st', this with
          | [], _ => rfl
          | _ :: _, z => exact z.elim
        subst hst
        have eg : nv α1 2 = nv α 2 := nv_le hle (by omega)
        have et : nv α1 3 = nv α 3 := nv_le hle (by omega)
        have eg1 : nv β 2 = nv α1 2 := nv_le H1.1 (by omega)
        have et1 : nv β 3 = nv α1 3 := nv_le H1.1 (by omega)
        have hb := hbd _ _ _ _ _ H2 (by decide +kernel)
        obtain ⟨f1, f2, f3, f4, f5⟩ := as_fx H1
        simp only [kh_hReach_b39_6, fx_env, fx_c, fx_ne, fx_hf, wl_S, Nat.zero_add, Nat.reduceAdd, Nat.reduceDiv, Nat.reduceMod, List.getElem?_cons_zero, List.getElem?_cons_succ, if_true, and_true, true_and] at f1 f2 f3 f4 f5
        have fe0 : nv β 0 = 805 := by omega
        have fe4 : nv β 4 = 17 := by omega
        have fe5 : nv β 5 = 854 := by omega
        have fe8 : nv β 8 = 854 := by omega
        have fe11 : nv β 11 = 2 := by omega
        have fe12 : nv β 12 = 1 := by omega
        have fe13 : nv β 13 = 1 := by omega
        have fe15 : nv β 15 = 1 := by omega
        have fe17 : nv β 17 = 854 := by omega
        have fe19 : nv β 19 = 1 := by omega
        have fe21 : nv β 21 = 854 := by omega
        have fe23 : nv β 23 = 1 := by omega
        have fe25 : nv β 25 = 1 := by omega
        simp only [fe0, fe4, fe5, fe8, fe11, fe12, fe13, fe15, fe17, fe19, fe21, fe23, fe25, Int.reduceToNat] at f2 f3 f4 f5
        obtain ⟨c0, c1, c2, c3, c4, c5, c6, c7, c8, c9, c10, c11, c12, c13, c14⟩ := f2
        have oL := old_0 c12 rfl
        have oH := old_0 c10 rfl
        have d5 := c5
        simp only [wd_fl] at d5
        have d13 := c13
        simp only [wd_fl] at d13
        have d2 := c2
        simp only [wd_fl] at d2
        have d11 := c11
        simp only [wd_fl] at d11
        have hlh : lowI (nv β 3) < highI (nv β 3) := by
          have : nv β 3 / 3 ≤ 5 := by omega
          unfold highI lowI; (repeat' split) <;> omega
        have hR2 : sm_S (S'.1 854) 12 < sm_S (S2.1 854) 12 := by
          rw [f5, sm_i (by omega), sm_i (by omega), fw_i_row, if_neg (by omega), i32_of (by omega) (by omega), i32_of (by omega) (by omega)]
          have u1 : nv β 18 = nv β 6 := by omega
          have u2 : nv β 22 = nv β 9 := by omega
          rw [u1, u2, oL, oH]
          omega
        refine ihj _ _ _ Ha (by omega) (Or.inr (by omega)) (by rw [nv_mu (v := 26) rfl]; omega)
      · have Ha := hd_go (q := kh_hReach_a39) (n := 0) (by decide +kernel) hx H1 hxa hf
        have hst : st' = [] := by
          have := H1.2.2.2.1
          match st', this with
          | [], _ => rfl
          | _ :: _, z => exact z.elim
        subst hst
        have eg : nv α1 2 = nv α 2 := nv_le hle (by omega)
        have et : nv α1 3 = nv α 3 := nv_le hle (by omega)
        have eg1 : nv β 2 = nv α1 2 := nv_le H1.1 (by omega)
        have et1 : nv β 3 = nv α1 3 := nv_le H1.1 (by omega)
        have hb := hbd _ _ _ _ _ H2 (by decide +kernel)
        obtain ⟨f1, f2, f3, f4, f5⟩ := as_fx H1
        simp only [kh_hReach_b39_7, fx_env, fx_c, fx_ne, fx_hf, wl_S, Nat.zero_add, Nat.reduceAdd, Nat.reduceDiv, Nat.reduceMod, List.getElem?_cons_zero, List.getElem?_cons_succ, if_true, and_true, true_and] at f1 f2 f3 f4 f5
        have fe0 : nv β 0 = 805 := by omega
        have fe4 : nv β 4 = 17 := by omega
        have fe5 : nv β 5 = 854 := by omega
        have fe8 : nv β 8 = 854 := by omega
        have fe11 : nv β 11 = 2 := by omega
        have fe12 : nv β 12 = 1 := by omega
        have fe13 : nv β 13 = 1 := by omega
        have fe15 : nv β 15 = 1 := by omega
        have fe17 : nv β 17 = 854 := by omega
        have fe19 : nv β 19 = 1 := by omega
        have fe21 : nv β 21 = 854 := by omega
        have fe23 : nv β 23 = 1 := by omega
        have fe25 : nv β 25 = 1 := by omega
        have fe27 : nv β 27 = 1 := by omega
        simp only [fe0, fe4, fe5, fe8, fe11, fe12, fe13, fe15, fe17, fe19, fe21, fe23, fe25, fe27, Int.reduceToNat] at f2 f3 f4 f5
        obtain ⟨c0, c1, c2, c3, c4, c5, c6, c7, c8, c9, c10, c11, c12, c13, c14, c15⟩ := f2
        have oL := old_0 c13 rfl
        have oH := old_0 c11 rfl
        have d6 := c6
        simp only [wd_fl] at d6
        have d14 := c14
        simp only [wd_fl] at d14
        have d3 := c3
        simp only [wd_fl] at d3
        have d12 := c12
        simp only [wd_fl] at d12
        have hlh : lowI (nv β 3) < highI (nv β 3) := by
          have : nv β 3 / 3 ≤ 5 := by omega
          unfold highI lowI; (repeat' split) <;> omega
        have hR2 : sm_S (S'.1 854) 12 < sm_S (S2.1 854) 12 := by
          rw [f5, sm_i (by omega), sm_i (by omega), fw_i_row, if_neg (by omega), i32_of (by omega) (by omega), i32_of (by omega) (by omega)]
          have u1 : nv β 18 = nv β 6 := by omega
          have u2 : nv β 22 = nv β 9 := by omega
          rw [u1, u2, oL, oH]
          omega
        refine ihj _ _ _ Ha (by omega) (Or.inr (by omega)) (by rw [nv_mu (v := 28) rfl]; omega)
      · have Ha := hd_go (q := kh_hReach_a39) (n := 0) (by decide +kernel) hx H1 hxa hf
        have hst : st' = [] := by
          have := H1.2.2.2.1
          match st', this with
          | [], _ => rfl
          | _ :: _, z => exact z.elim
        subst hst
        have eg : nv α1 2 = nv α 2 := nv_le hle (by omega)
        have et : nv α1 3 = nv α 3 := nv_le hle (by omega)
        have eg1 : nv β 2 = nv α1 2 := nv_le H1.1 (by omega)
        have et1 : nv β 3 = nv α1 3 := nv_le H1.1 (by omega)
        have hb := hbd _ _ _ _ _ H2 (by decide +kernel)
        obtain ⟨f1, f2, f3, f4, f5⟩ := as_fx H1
        simp only [kh_hReach_b39_8, fx_env, fx_c, fx_ne, fx_hf, wl_S, Nat.zero_add, Nat.reduceAdd, Nat.reduceDiv, Nat.reduceMod, List.getElem?_cons_zero, List.getElem?_cons_succ, if_true, and_true, true_and] at f1 f2 f3 f4 f5
        have fe0 : nv β 0 = 805 := by omega
        have fe4 : nv β 4 = 17 := by omega
        have fe5 : nv β 5 = 854 := by omega
        have fe8 : nv β 8 = 854 := by omega
        have fe11 : nv β 11 = 2 := by omega
        have fe12 : nv β 12 = 1 := by omega
        have fe13 : nv β 13 = 1 := by omega
        have fe15 : nv β 15 = 1 := by omega
        have fe17 : nv β 17 = 854 := by omega
        have fe19 : nv β 19 = 1 := by omega
        have fe21 : nv β 21 = 1 := by omega
        have fe23 : nv β 23 = 854 := by omega
        have fe25 : nv β 25 = 1 := by omega
        have fe27 : nv β 27 = 1 := by omega
        simp only [fe0, fe4, fe5, fe8, fe11, fe12, fe13, fe15, fe17, fe19, fe21, fe23, fe25, fe27, Int.reduceToNat] at f2 f3 f4 f5
        obtain ⟨c0, c1, c2, c3, c4, c5, c6, c7, c8, c9, c10, c11, c12, c13, c14, c15⟩ := f2
        have oL := old_0 c13 rfl
        have oH := old_0 c11 rfl
        have d6 := c6
        simp only [wd_fl] at d6
        have d14 := c14
        simp only [wd_fl] at d14
        have d2 := c2
        simp only [wd_fl] at d2
        have d12 := c12
        simp only [wd_fl] at d12
        have hlh : lowI (nv β 3) < highI (nv β 3) := by
          have : nv β 3 / 3 ≤ 5 := by omega
          unfold highI lowI; (repeat' split) <;> omega
        have hR2 : sm_S (S'.1 854) 12 < sm_S (S2.1 854) 12 := by
          rw [f5, sm_i (by omega), sm_i (by omega), fw_i_row, if_neg (by omega), i32_of (by omega) (by omega), i32_of (by omega) (by omega)]
          have u1 : nv β 18 = nv β 6 := by omega
          have u2 : nv β 24 = nv β 9 := by omega
          rw [u1, u2, oL, oH]
          omega
        refine ihj _ _ _ Ha (by omega) (Or.inr (by omega)) (by rw [nv_mu (v := 28) rfl]; omega)
      · have Ha := hd_go (q := kh_hReach_a39) (n := 0) (by decide +kernel) hx H1 hxa hf
        have hst : st' = [] := by
          have := H1.2.2.2.1
          match st', this with
          | [], _ => rfl
          | _ :: _, z => exact z.elim
        subst hst
        have eg : nv α1 2 = nv α 2 := nv_le hle (by omega)
        have et : nv α1 3 = nv α 3 := nv_le hle (by omega)
        have eg1 : nv β 2 = nv α1 2 := nv_le H1.1 (by omega)
        have et1 : nv β 3 = nv α1 3 := nv_le H1.1 (by omega)
        have hb := hbd _ _ _ _ _ H2 (by decide +kernel)
        obtain ⟨f1, f2, f3, f4, f5⟩ := as_fx H1
        simp only [kh_hReach_b39_9, fx_env, fx_c, fx_ne, fx_hf, wl_S, Nat.zero_add, Nat.reduceAdd, Nat.reduceDiv, Nat.reduceMod, List.getElem?_cons_zero, List.getElem?_cons_succ, if_true, and_true, true_and] at f1 f2 f3 f4 f5
        have fe0 : nv β 0 = 805 := by omega
        have fe4 : nv β 4 = 17 := by omega
        have fe5 : nv β 5 = 854 := by omega
        have fe8 : nv β 8 = 854 := by omega
        have fe11 : nv β 11 = 2 := by omega
        have fe12 : nv β 12 = 1 := by omega
        have fe13 : nv β 13 = 1 := by omega
        have fe15 : nv β 15 = 1 := by omega
        have fe17 : nv β 17 = 854 := by omega
        have fe19 : nv β 19 = 1 := by omega
        have fe21 : nv β 21 = 1 := by omega
        have fe23 : nv β 23 = 854 := by omega
        have fe25 : nv β 25 = 1 := by omega
        have fe27 : nv β 27 = 1 := by omega
        have fe29 : nv β 29 = 1 := by omega
        simp only [fe0, fe4, fe5, fe8, fe11, fe12, fe13, fe15, fe17, fe19, fe21, fe23, fe25, fe27, fe29, Int.reduceToNat] at f2 f3 f4 f5
        obtain ⟨c0, c1, c2, c3, c4, c5, c6, c7, c8, c9, c10, c11, c12, c13, c14, c15, c16⟩ := f2
        have oL := old_0 c14 rfl
        have oH := old_0 c12 rfl
        have d7 := c7
        simp only [wd_fl] at d7
        have d15 := c15
        simp only [wd_fl] at d15
        have d3 := c3
        simp only [wd_fl] at d3
        have d13 := c13
        simp only [wd_fl] at d13
        have hlh : lowI (nv β 3) < highI (nv β 3) := by
          have : nv β 3 / 3 ≤ 5 := by omega
          unfold highI lowI; (repeat' split) <;> omega
        have hR2 : sm_S (S'.1 854) 12 < sm_S (S2.1 854) 12 := by
          rw [f5, sm_i (by omega), sm_i (by omega), fw_i_row, if_neg (by omega), i32_of (by omega) (by omega), i32_of (by omega) (by omega)]
          have u1 : nv β 18 = nv β 6 := by omega
          have u2 : nv β 24 = nv β 9 := by omega
          rw [u1, u2, oL, oH]
          omega
        refine ihj _ _ _ Ha (by omega) (Or.inr (by omega)) (by rw [nv_mu (v := 30) rfl]; omega)
      · have Ha := hd_go (q := kh_hReach_a39) (n := 0) (by decide +kernel) hx H1 hxa hf
        have hst : st' = [] := by
          have := H1.2.2.2.1
          match st', this with
          | [], _ => rfl
          | _ :: _, z => exact z.elim
        subst hst
        have eg : nv α1 2 = nv α 2 := nv_le hle (by omega)
        have et : nv α1 3 = nv α 3 := nv_le hle (by omega)
        have eg1 : nv β 2 = nv α1 2 := nv_le H1.1 (by omega)
        have et1 : nv β 3 = nv α1 3 := nv_le H1.1 (by omega)
        have hb := hbd _ _ _ _ _ H2 (by decide +kernel)
        obtain ⟨f1, f2, f3, f4, f5⟩ := as_fx H1
        simp only [kh_hReach_b39_10, fx_env, fx_c, fx_ne, fx_hf, wl_S, Nat.zero_add, Nat.reduceAdd, Nat.reduceDiv, Nat.reduceMod, List.getElem?_cons_zero, List.getElem?_cons_succ, if_true, and_true, true_and] at f1 f2 f3 f4 f5
        have fe0 : nv β 0 = 805 := by omega
        have fe4 : nv β 4 = 17 := by omega
        have fe5 : nv β 5 = 854 := by omega
        have fe8 : nv β 8 = 854 := by omega
        have fe11 : nv β 11 = 2 := by omega
        have fe12 : nv β 12 = 0 := by omega
        simp only [fe0, fe4, fe5, fe8, fe11, fe12, Int.reduceToNat] at f2 f3 f4 f5
        rw [f5] at Ha ⊢
        refine ihj _ _ _ Ha (by omega) (by rw [nv_mu (v := 2) rfl]; omega) (by rw [nv_mu (v := 13) rfl]; omega)
    obtain ⟨α1, hle, Hr⟩ := as_rec_in (pl := []) rfl H
    have hf := H.2.2.2.2.2.2.2.2.2.2.1
    have hl1 : α1.length = 3 := by rw [Hr.2.1.1]; rfl
    have hxa : al_le xs α1 := H.1.trans hle
    refine hd_seg G (na := 3) (fuel := 400) (first := true) (Bs := [kh_hReach_b31_0, kh_hReach_b31_1]) (by decide +kernel) hl1 Hr ?_
    intro q hq β lv' st' S' H1
    simp only [List.mem_cons, List.not_mem_nil, or_false] at hq
    rcases hq with rfl | rfl
    · exact hd_run G (ss := []) (fuel := 10) (by decide +kernel) (as_back H1 hxa hf)
    · have Ha := hd_go (q := kh_hReach_a39) (n := 0) (by decide +kernel) hx H1 hxa hf
      have hst : st' = [] := by
        have := H1.2.2.2.1
        match st', this with
        | [], _ => rfl
        | _ :: _, z => exact z.elim
      subst hst
      obtain ⟨f1, f2, f3, f4, f5⟩ := as_fx H1
      simp only [kh_hReach_b31_1, fx_env, fx_c, fx_ne, fx_hf, wl_S, Nat.zero_add, Nat.reduceAdd, Nat.reduceDiv, Nat.reduceMod, List.getElem?_cons_zero, List.getElem?_cons_succ, if_true, and_true, true_and] at f1 f2 f3 f4 f5
      have fe0 : nv β 0 = 805 := by omega
      have fe2 : nv β 2 = 1 := by omega
      have fe3 : nv β 3 = 0 := by omega
      have fe4 : nv β 4 = 0 := by omega
      simp only [fe0, fe2, fe3, fe4, Int.reduceToNat] at f2 f3 f4 f5
      rw [f5] at Ha ⊢
      exact hI _ _ _ _ Ha (Int.le_refl _) (Or.inl (by rw [nv_mu (v := 3) rfl]; omega)) (Nat.lt_succ_self _)
  refine hd_segA G (na := 2) (K := 1) (fuel := 400) (an := [kh_hReach_a2]) (ss := []) (Bs := [kh_hReach_e0]) (by decide +kernel) hx H0 ?_
  intro q hq β lv' st' S' H1
  simp only [List.mem_cons, List.not_mem_nil, or_false] at hq
  rcases hq with rfl
  · have hst : st' = [] := by
      have := H1.2.2.2.1
      match st', this with
      | [], _ => rfl
      | _ :: _, z => exact z.elim
    subst hst
    exact hW _ _ _ _ (hd_go (q := kh_hReach_a31) (n := 0) (by decide +kernel) hx H1 al_le.refl H0.2.2.2.2.2.2.2.2.2.2.1) (Nat.lt_succ_self _))
/- UtilityWorksModel heightOf -/
def kh_140 : ct_T := (389, [(2, 805, 805, 0), (0, 0, 11, 1)], [], [], [(1, (0, 0, 99, 1), [(2, 805, 805, 0), (0, 0, 11, 1)], [], ([], []))], [], 0, 0, 0)
theorem kh_140_ok : ct_ok wd_fl kh_140 := ct_of (ff := wd_ff) (y := (⟨"UtilityWorksModel", "heightOf", "(I)I"⟩, prog_14_method_30_code, 2, some .int, 12, 1, 1, 33093, 33092, 6012, 21014)) (Cs := []) (an := []) (ss := []) (K := 1) (fuel := 4000) wd_fl_ok rfl (List.forall_mem_nil _) (by decide +kernel)
/- UtilityWorksModel link -/
def kh_141 : ct_T := (357, [(2, 805, 805, 0), (0, 1, 1, 0), (0, 0, 0, 0)], [], [], [(1, (0, 208, 208, 0), [(2, 805, 805, 0), (0, 1, 1, 0), (0, 0, 0, 0)], [], ([], []))], [], 0, 0, 0)
theorem kh_141_ok : ct_ok wd_fl kh_141 := ct_of (ff := wd_ff) (y := (⟨"UtilityWorksModel", "link", "(II)I"⟩, prog_14_method_16_code, 3, some .int, 12, 1, 2, 32207, 32206, 5005, 21014)) (Cs := []) (an := []) (ss := []) (K := 1) (fuel := 4000) wd_fl_ok rfl (List.forall_mem_nil _) (by decide +kernel)
/- UtilityWorksModel hasLink -/
def kh_142 : ct_T := (356, [(2, 805, 805, 0), (0, 1, 1, 0), (0, 0, 0, 0)], [], [], [(1, (0, 0, 0, 0), [(2, 805, 805, 0), (0, 1, 1, 0), (0, 0, 0, 0)], [], ([], [])), (1, (0, 1, 1, 0), [(2, 805, 805, 0), (0, 1, 1, 0), (0, 0, 0, 0)], [((806, 806), (208, 208, 0), (0, 1, 1, 1))], ([], []))], [], 1, 22, 0)
theorem kh_142_ok : ct_ok wd_fl kh_142 := ct_of (ff := wd_ff) (y := (⟨"UtilityWorksModel", "hasLink", "(II)Z"⟩, prog_14_method_17_code, 3, some .boolean, 12, 1, 2, 32203, 32202, 5004, 21014)) (Cs := [kh_141]) (an := []) (ss := []) (K := 1) (fuel := 4000) wd_fl_ok rfl (List.forall_mem_cons.mpr ⟨kh_141_ok, (List.forall_mem_nil _)⟩) (by decide +kernel)
/- UtilityWorksModel isFine -/
def kh_143 : ct_T := (359, [(2, 805, 805, 0), (0, 1, 1, 0), (0, 0, 0, 0)], [], [], [(1, (0, 1, 1, 0), [(2, 805, 805, 0), (0, 1, 1, 0), (0, 0, 0, 0)], [((806, 806), (208, 208, 0), (0, 1, 1, 1)), ((806, 806), (210, 210, 0), (0, 1, 1, 1))], ([], [])), (1, (0, 0, 0, 0), [(2, 805, 805, 0), (0, 1, 1, 0), (0, 0, 0, 0)], [], ([], []))], [], 2, 44, 0)
theorem kh_143_ok : ct_ok wd_fl kh_143 := ct_of (ff := wd_ff) (y := (⟨"UtilityWorksModel", "isFine", "(II)Z"⟩, prog_14_method_19_code, 3, some .boolean, 12, 1, 2, 32215, 32214, 5007, 21014)) (Cs := [kh_142, kh_141]) (an := [(30, 0, ([((2, 805, 805, 0), none), ((0, 1, 1, 0), none), ((0, 0, 0, 0), none)], [(0, 0), (1, 1), (2, 2)], [], [], [], [], [], [], none), [(0, 0, 99970)])]) (ss := []) (K := 1) (fuel := 4000) wd_fl_ok rfl (List.forall_mem_cons.mpr ⟨kh_142_ok, (List.forall_mem_cons.mpr ⟨kh_141_ok, (List.forall_mem_nil _)⟩)⟩) (by decide +kernel)
/- UtilityWorksModel isOn -/
def kh_144 : ct_T := (360, [(2, 805, 805, 0), (0, 1, 1, 0), (0, 0, 0, 0)], [], [], [(1, (0, 1, 1, 0), [(2, 805, 805, 0), (0, 1, 1, 0), (0, 0, 0, 0)], [((806, 806), (208, 208, 0), (0, 1, 1, 1)), ((806, 806), (211, 211, 0), (0, 1, 1, 1))], ([], [])), (1, (0, 0, 0, 0), [(2, 805, 805, 0), (0, 1, 1, 0), (0, 0, 0, 0)], [], ([], []))], [], 2, 44, 0)
theorem kh_144_ok : ct_ok wd_fl kh_144 := ct_of (ff := wd_ff) (y := (⟨"UtilityWorksModel", "isOn", "(II)Z"⟩, prog_14_method_20_code, 3, some .boolean, 12, 1, 2, 32219, 32218, 5008, 21014)) (Cs := [kh_142, kh_141]) (an := [(30, 0, ([((2, 805, 805, 0), none), ((0, 1, 1, 0), none), ((0, 0, 0, 0), none)], [(0, 0), (1, 1), (2, 2)], [], [], [], [], [], [], none), [(0, 0, 99970)])]) (ss := []) (K := 1) (fuel := 4000) wd_fl_ok rfl (List.forall_mem_cons.mpr ⟨kh_142_ok, (List.forall_mem_cons.mpr ⟨kh_141_ok, (List.forall_mem_nil _)⟩)⟩) (by decide +kernel)
/- UtilityWorksModel leads -/
def kh_145 : ct_T := (358, [(2, 805, 805, 0), (0, 1, 1, 0), (0, 0, 0, 0)], [], [], [(1, (0, 1, 1, 0), [(2, 805, 805, 0), (0, 1, 1, 0), (0, 0, 0, 0)], [((806, 806), (208, 208, 0), (0, 1, 1, 1)), ((806, 806), (210, 210, 0), (0, 1, 1, 1)), ((806, 806), (211, 211, 0), (0, 1, 1, 1))], ([], [])), (1, (0, 0, 0, 0), [(2, 805, 805, 0), (0, 1, 1, 0), (0, 0, 0, 0)], [], ([], []))], [], 3, 66, 0)
theorem kh_145_ok : ct_ok wd_fl kh_145 := ct_of (ff := wd_ff) (y := (⟨"UtilityWorksModel", "leads", "(II)Z"⟩, prog_14_method_21_code, 3, some .boolean, 12, 1, 2, 32211, 32210, 5006, 21014)) (Cs := [kh_143, kh_144]) (an := [(22, 0, ([((2, 805, 805, 0), none), ((0, 1, 1, 0), none), ((0, 0, 0, 0), none)], [(0, 0), (1, 1), (2, 2)], [], [], [], [], [], [], none), [(0, 0, 99978)])]) (ss := []) (K := 1) (fuel := 4000) wd_fl_ok rfl (List.forall_mem_cons.mpr ⟨kh_143_ok, (List.forall_mem_cons.mpr ⟨kh_144_ok, (List.forall_mem_nil _)⟩)⟩) (by decide +kernel)
/- UtilityWorksModel boundOf -/
def kh_146 : ct_T := (367, [(2, 805, 805, 0), (0, 1, 1, 0), (0, 0, 0, 0)], [], [], [(1, (0, (-2147483648), 2147483647, 1), [(2, 805, 805, 0), (0, 1, 1, 0), (0, 0, 0, 0)], [], ([], []))], [], 1, 22, 0)
theorem kh_146_ok : ct_ok wd_fl kh_146 := ct_of (ff := wd_ff) (y := (⟨"UtilityWorksModel", "boundOf", "(II)I"⟩, prog_14_method_18_code, 3, some .int, 12, 1, 2, 33005, 33004, 5011, 21014)) (Cs := [kh_141]) (an := []) (ss := []) (K := 1) (fuel := 4000) wd_fl_ok rfl (List.forall_mem_cons.mpr ⟨kh_141_ok, (List.forall_mem_nil _)⟩) (by decide +kernel)
/- UtilityWorksModel wRoom -/
def kh_147 : ct_T := (473, [(2, 805, 805, 0), (0, 0, 0, 0)], [], [], [(1, (0, (-2147483648), 2147483647, 1), [(2, 805, 805, 0), (0, 0, 0, 0)], [], ([], []))], [], 2, 44, 0)
theorem kh_147_ok : ct_ok wd_fl kh_147 := ct_of (ff := wd_ff) (y := (⟨"UtilityWorksModel", "wRoom", "(I)I"⟩, prog_14_method_117_code, 2, some .int, 12, 1, 1, 34185, 34184, 11012, 21014)) (Cs := [kh_146]) (an := []) (ss := []) (K := 1) (fuel := 4000) wd_fl_ok rfl (List.forall_mem_cons.mpr ⟨kh_146_ok, (List.forall_mem_nil _)⟩) (by decide +kernel)
/- UtilityWorksModel heightOf -/
def kh_148 : ct_T := (389, [(2, 805, 805, 0), (0, 0, 10, 1)], [], [], [(1, (0, 0, 99, 1), [(2, 805, 805, 0), (0, 0, 10, 1)], [], ([], []))], [], 0, 0, 0)
theorem kh_148_ok : ct_ok wd_fl kh_148 := ct_of (ff := wd_ff) (y := (⟨"UtilityWorksModel", "heightOf", "(I)I"⟩, prog_14_method_30_code, 2, some .int, 12, 1, 1, 33093, 33092, 6012, 21014)) (Cs := []) (an := []) (ss := []) (K := 1) (fuel := 4000) wd_fl_ok rfl (List.forall_mem_nil _) (by decide +kernel)
/- UtilityWorksModel heightOf -/
def kh_149 : ct_T := (389, [(2, 805, 805, 0), (0, 1, 11, 1)], [], [], [(1, (0, 0, 99, 1), [(2, 805, 805, 0), (0, 1, 11, 1)], [], ([], []))], [], 0, 0, 0)
theorem kh_149_ok : ct_ok wd_fl kh_149 := ct_of (ff := wd_ff) (y := (⟨"UtilityWorksModel", "heightOf", "(I)I"⟩, prog_14_method_30_code, 2, some .int, 12, 1, 1, 33093, 33092, 6012, 21014)) (Cs := []) (an := []) (ss := []) (K := 1) (fuel := 4000) wd_fl_ok rfl (List.forall_mem_nil _) (by decide +kernel)
/- UtilityWorksModel wOpen -/
def kh_150 : ct_T := (472, [(2, 805, 805, 0), (0, 0, 0, 0), (0, (-2147483648), 2147483647, 1)], [], [], [(1, (0, 1, 1, 0), [(2, 805, 805, 0), (0, 0, 0, 0), (0, 0, 2147483647, 1)], [((806, 806), (208, 208, 0), (0, 1, 1, 1)), ((806, 806), (210, 210, 0), (0, 1, 1, 1)), ((806, 806), (211, 211, 0), (0, 1, 1, 1))], ([], [])), (1, (0, 0, 0, 0), [(2, 805, 805, 0), (0, 0, 0, 0), (0, (-2147483648), 2147483647, 1)], [], ([], []))], [], 4, 88, 0)
theorem kh_150_ok : ct_ok wd_fl kh_150 := ct_of (ff := wd_ff) (y := (⟨"UtilityWorksModel", "wOpen", "(II)Z"⟩, prog_14_method_118_code, 3, some .boolean, 12, 1, 2, 34181, 34180, 11011, 21014)) (Cs := [kh_145, kh_147, kh_low, kh_148, kh_high, kh_149]) (an := [(45, 0, ([((2, 805, 805, 0), none), ((0, 0, 0, 0), none), ((0, (-2147483648), 2147483647, 1), none)], [(0, 0), (1, 1), (2, 2)], [], [], [], [], [], [], none), [(0, 0, 99955)])]) (ss := []) (K := 1) (fuel := 4000) wd_fl_ok rfl (List.forall_mem_cons.mpr ⟨kh_145_ok, (List.forall_mem_cons.mpr ⟨kh_147_ok, (List.forall_mem_cons.mpr ⟨kh_low_ok, (List.forall_mem_cons.mpr ⟨kh_148_ok, (List.forall_mem_cons.mpr ⟨kh_high_ok, (List.forall_mem_cons.mpr ⟨kh_149_ok, (List.forall_mem_nil _)⟩)⟩)⟩)⟩)⟩)⟩) (by decide +kernel)
/- UtilityWorksModel link -/
def kh_151 : ct_T := (357, [(2, 805, 805, 0), (0, 1, 1, 0), (0, 0, 1, 1)], [], [], [(1, (0, 208, 212, 4), [(2, 805, 805, 0), (0, 1, 1, 0), (0, 0, 1, 1)], [], ([], []))], [], 0, 0, 0)
theorem kh_151_ok : ct_ok wd_fl kh_151 := ct_of (ff := wd_ff) (y := (⟨"UtilityWorksModel", "link", "(II)I"⟩, prog_14_method_16_code, 3, some .int, 12, 1, 2, 32207, 32206, 5005, 21014)) (Cs := []) (an := []) (ss := []) (K := 1) (fuel := 4000) wd_fl_ok rfl (List.forall_mem_nil _) (by decide +kernel)
/- UtilityWorksModel hasLink -/
def kh_152 : ct_T := (356, [(2, 805, 805, 0), (0, 1, 1, 0), (0, 0, 1, 1)], [], [], [(1, (0, 0, 0, 0), [(2, 805, 805, 0), (0, 1, 1, 0), (0, 0, 1, 1)], [], ([], [])), (1, (0, 1, 1, 0), [(2, 805, 805, 0), (0, 1, 1, 0), (0, 0, 1, 1)], [], ([], []))], [], 1, 22, 0)
theorem kh_152_ok : ct_ok wd_fl kh_152 := ct_of (ff := wd_ff) (y := (⟨"UtilityWorksModel", "hasLink", "(II)Z"⟩, prog_14_method_17_code, 3, some .boolean, 12, 1, 2, 32203, 32202, 5004, 21014)) (Cs := [kh_151]) (an := []) (ss := []) (K := 1) (fuel := 4000) wd_fl_ok rfl (List.forall_mem_cons.mpr ⟨kh_151_ok, (List.forall_mem_nil _)⟩) (by decide +kernel)
/- UtilityWorksModel isFine -/
def kh_153 : ct_T := (359, [(2, 805, 805, 0), (0, 1, 1, 0), (0, 0, 1, 1)], [], [], [(1, (0, 1, 1, 0), [(2, 805, 805, 0), (0, 1, 1, 0), (0, 0, 1, 1)], [], ([], [])), (1, (0, 0, 0, 0), [(2, 805, 805, 0), (0, 1, 1, 0), (0, 0, 1, 1)], [], ([], []))], [], 2, 44, 0)
theorem kh_153_ok : ct_ok wd_fl kh_153 := ct_of (ff := wd_ff) (y := (⟨"UtilityWorksModel", "isFine", "(II)Z"⟩, prog_14_method_19_code, 3, some .boolean, 12, 1, 2, 32215, 32214, 5007, 21014)) (Cs := [kh_152, kh_151]) (an := [(30, 0, ([((2, 805, 805, 0), none), ((0, 1, 1, 0), none), ((0, 0, 1, 1), none)], [(0, 0), (1, 1), (2, 2)], [], [], [], [], [], [], none), [(0, 0, 99970)])]) (ss := []) (K := 1) (fuel := 4000) wd_fl_ok rfl (List.forall_mem_cons.mpr ⟨kh_152_ok, (List.forall_mem_cons.mpr ⟨kh_151_ok, (List.forall_mem_nil _)⟩)⟩) (by decide +kernel)
/- UtilityWorksModel isOn -/
def kh_154 : ct_T := (360, [(2, 805, 805, 0), (0, 1, 1, 0), (0, 0, 1, 1)], [], [], [(1, (0, 1, 1, 0), [(2, 805, 805, 0), (0, 1, 1, 0), (0, 0, 1, 1)], [], ([], [])), (1, (0, 0, 0, 0), [(2, 805, 805, 0), (0, 1, 1, 0), (0, 0, 1, 1)], [], ([], []))], [], 2, 44, 0)
theorem kh_154_ok : ct_ok wd_fl kh_154 := ct_of (ff := wd_ff) (y := (⟨"UtilityWorksModel", "isOn", "(II)Z"⟩, prog_14_method_20_code, 3, some .boolean, 12, 1, 2, 32219, 32218, 5008, 21014)) (Cs := [kh_152, kh_151]) (an := [(30, 0, ([((2, 805, 805, 0), none), ((0, 1, 1, 0), none), ((0, 0, 1, 1), none)], [(0, 0), (1, 1), (2, 2)], [], [], [], [], [], [], none), [(0, 0, 99970)])]) (ss := []) (K := 1) (fuel := 4000) wd_fl_ok rfl (List.forall_mem_cons.mpr ⟨kh_152_ok, (List.forall_mem_cons.mpr ⟨kh_151_ok, (List.forall_mem_nil _)⟩)⟩) (by decide +kernel)
/- UtilityWorksModel leads -/
def kh_155 : ct_T := (358, [(2, 805, 805, 0), (0, 1, 1, 0), (0, 0, 1, 1)], [], [], [(1, (0, 1, 1, 0), [(2, 805, 805, 0), (0, 1, 1, 0), (0, 0, 1, 1)], [], ([], [])), (1, (0, 0, 0, 0), [(2, 805, 805, 0), (0, 1, 1, 0), (0, 0, 1, 1)], [], ([], []))], [], 3, 66, 0)
theorem kh_155_ok : ct_ok wd_fl kh_155 := ct_of (ff := wd_ff) (y := (⟨"UtilityWorksModel", "leads", "(II)Z"⟩, prog_14_method_21_code, 3, some .boolean, 12, 1, 2, 32211, 32210, 5006, 21014)) (Cs := [kh_153, kh_154]) (an := [(22, 0, ([((2, 805, 805, 0), none), ((0, 1, 1, 0), none), ((0, 0, 1, 1), none)], [(0, 0), (1, 1), (2, 2)], [], [], [], [], [], [], none), [(0, 0, 99978)])]) (ss := []) (K := 1) (fuel := 4000) wd_fl_ok rfl (List.forall_mem_cons.mpr ⟨kh_153_ok, (List.forall_mem_cons.mpr ⟨kh_154_ok, (List.forall_mem_nil _)⟩)⟩) (by decide +kernel)
/- UtilityWorksModel boundOf -/
def kh_156 : ct_T := (367, [(2, 805, 805, 0), (0, 1, 1, 0), (0, 0, 1, 1)], [], [], [(1, (0, (-2147483648), 2147483647, 1), [(2, 805, 805, 0), (0, 1, 1, 0), (0, 0, 1, 1)], [], ([], []))], [], 1, 22, 0)
theorem kh_156_ok : ct_ok wd_fl kh_156 := ct_of (ff := wd_ff) (y := (⟨"UtilityWorksModel", "boundOf", "(II)I"⟩, prog_14_method_18_code, 3, some .int, 12, 1, 2, 33005, 33004, 5011, 21014)) (Cs := [kh_151]) (an := []) (ss := []) (K := 1) (fuel := 4000) wd_fl_ok rfl (List.forall_mem_cons.mpr ⟨kh_151_ok, (List.forall_mem_nil _)⟩) (by decide +kernel)
/- UtilityWorksModel wRoom -/
def kh_157 : ct_T := (473, [(2, 805, 805, 0), (0, 0, 1, 1)], [], [], [(1, (0, (-2147483648), 2147483647, 1), [(2, 805, 805, 0), (0, 0, 1, 1)], [], ([], []))], [], 2, 44, 0)
theorem kh_157_ok : ct_ok wd_fl kh_157 := ct_of (ff := wd_ff) (y := (⟨"UtilityWorksModel", "wRoom", "(I)I"⟩, prog_14_method_117_code, 2, some .int, 12, 1, 1, 34185, 34184, 11012, 21014)) (Cs := [kh_156]) (an := []) (ss := []) (K := 1) (fuel := 4000) wd_fl_ok rfl (List.forall_mem_cons.mpr ⟨kh_156_ok, (List.forall_mem_nil _)⟩) (by decide +kernel)
/- UtilityWorksModel wOpen -/
def kh_158 : ct_T := (472, [(2, 805, 805, 0), (0, 0, 1, 1), (0, (-2147483648), 2147483647, 1)], [], [], [(1, (0, 1, 1, 0), [(2, 805, 805, 0), (0, 0, 1, 1), (0, 0, 2147483647, 1)], [], ([], [])), (1, (0, 0, 0, 0), [(2, 805, 805, 0), (0, 0, 1, 1), (0, (-2147483648), 2147483647, 1)], [], ([], []))], [], 4, 88, 0)
theorem kh_158_ok : ct_ok wd_fl kh_158 := ct_of (ff := wd_ff) (y := (⟨"UtilityWorksModel", "wOpen", "(II)Z"⟩, prog_14_method_118_code, 3, some .boolean, 12, 1, 2, 34181, 34180, 11011, 21014)) (Cs := [kh_155, kh_157, kh_low, kh_148, kh_high, kh_149]) (an := [(45, 0, ([((2, 805, 805, 0), none), ((0, 0, 1, 1), none), ((0, (-2147483648), 2147483647, 1), none)], [(0, 0), (1, 1), (2, 2)], [], [], [], [], [], [], none), [(0, 0, 99955)])]) (ss := []) (K := 1) (fuel := 4000) wd_fl_ok rfl (List.forall_mem_cons.mpr ⟨kh_155_ok, (List.forall_mem_cons.mpr ⟨kh_157_ok, (List.forall_mem_cons.mpr ⟨kh_low_ok, (List.forall_mem_cons.mpr ⟨kh_148_ok, (List.forall_mem_cons.mpr ⟨kh_high_ok, (List.forall_mem_cons.mpr ⟨kh_149_ok, (List.forall_mem_nil _)⟩)⟩)⟩)⟩)⟩)⟩) (by decide +kernel)
/- UtilityWorksModel link -/
def kh_159 : ct_T := (357, [(2, 805, 805, 0), (0, 1, 1, 0), (0, 0, 2, 1)], [], [], [(1, (0, 208, 216, 4), [(2, 805, 805, 0), (0, 1, 1, 0), (0, 0, 2, 1)], [], ([], []))], [], 0, 0, 0)
theorem kh_159_ok : ct_ok wd_fl kh_159 := ct_of (ff := wd_ff) (y := (⟨"UtilityWorksModel", "link", "(II)I"⟩, prog_14_method_16_code, 3, some .int, 12, 1, 2, 32207, 32206, 5005, 21014)) (Cs := []) (an := []) (ss := []) (K := 1) (fuel := 4000) wd_fl_ok rfl (List.forall_mem_nil _) (by decide +kernel)
/- UtilityWorksModel hasLink -/
def kh_160 : ct_T := (356, [(2, 805, 805, 0), (0, 1, 1, 0), (0, 0, 2, 1)], [], [], [(1, (0, 0, 0, 0), [(2, 805, 805, 0), (0, 1, 1, 0), (0, 0, 2, 1)], [], ([], [])), (1, (0, 1, 1, 0), [(2, 805, 805, 0), (0, 1, 1, 0), (0, 0, 2, 1)], [], ([], []))], [], 1, 22, 0)
theorem kh_160_ok : ct_ok wd_fl kh_160 := ct_of (ff := wd_ff) (y := (⟨"UtilityWorksModel", "hasLink", "(II)Z"⟩, prog_14_method_17_code, 3, some .boolean, 12, 1, 2, 32203, 32202, 5004, 21014)) (Cs := [kh_159]) (an := []) (ss := []) (K := 1) (fuel := 4000) wd_fl_ok rfl (List.forall_mem_cons.mpr ⟨kh_159_ok, (List.forall_mem_nil _)⟩) (by decide +kernel)
/- UtilityWorksModel isFine -/
def kh_161 : ct_T := (359, [(2, 805, 805, 0), (0, 1, 1, 0), (0, 0, 2, 1)], [], [], [(1, (0, 1, 1, 0), [(2, 805, 805, 0), (0, 1, 1, 0), (0, 0, 2, 1)], [], ([], [])), (1, (0, 0, 0, 0), [(2, 805, 805, 0), (0, 1, 1, 0), (0, 0, 2, 1)], [], ([], []))], [], 2, 44, 0)
theorem kh_161_ok : ct_ok wd_fl kh_161 := ct_of (ff := wd_ff) (y := (⟨"UtilityWorksModel", "isFine", "(II)Z"⟩, prog_14_method_19_code, 3, some .boolean, 12, 1, 2, 32215, 32214, 5007, 21014)) (Cs := [kh_160, kh_159]) (an := [(30, 0, ([((2, 805, 805, 0), none), ((0, 1, 1, 0), none), ((0, 0, 2, 1), none)], [(0, 0), (1, 1), (2, 2)], [], [], [], [], [], [], none), [(0, 0, 99970)])]) (ss := []) (K := 1) (fuel := 4000) wd_fl_ok rfl (List.forall_mem_cons.mpr ⟨kh_160_ok, (List.forall_mem_cons.mpr ⟨kh_159_ok, (List.forall_mem_nil _)⟩)⟩) (by decide +kernel)
/- UtilityWorksModel isOn -/
def kh_162 : ct_T := (360, [(2, 805, 805, 0), (0, 1, 1, 0), (0, 0, 2, 1)], [], [], [(1, (0, 1, 1, 0), [(2, 805, 805, 0), (0, 1, 1, 0), (0, 0, 2, 1)], [], ([], [])), (1, (0, 0, 0, 0), [(2, 805, 805, 0), (0, 1, 1, 0), (0, 0, 2, 1)], [], ([], []))], [], 2, 44, 0)
theorem kh_162_ok : ct_ok wd_fl kh_162 := ct_of (ff := wd_ff) (y := (⟨"UtilityWorksModel", "isOn", "(II)Z"⟩, prog_14_method_20_code, 3, some .boolean, 12, 1, 2, 32219, 32218, 5008, 21014)) (Cs := [kh_160, kh_159]) (an := [(30, 0, ([((2, 805, 805, 0), none), ((0, 1, 1, 0), none), ((0, 0, 2, 1), none)], [(0, 0), (1, 1), (2, 2)], [], [], [], [], [], [], none), [(0, 0, 99970)])]) (ss := []) (K := 1) (fuel := 4000) wd_fl_ok rfl (List.forall_mem_cons.mpr ⟨kh_160_ok, (List.forall_mem_cons.mpr ⟨kh_159_ok, (List.forall_mem_nil _)⟩)⟩) (by decide +kernel)
/- UtilityWorksModel leads -/
def kh_163 : ct_T := (358, [(2, 805, 805, 0), (0, 1, 1, 0), (0, 0, 2, 1)], [], [], [(1, (0, 1, 1, 0), [(2, 805, 805, 0), (0, 1, 1, 0), (0, 0, 2, 1)], [], ([], [])), (1, (0, 0, 0, 0), [(2, 805, 805, 0), (0, 1, 1, 0), (0, 0, 2, 1)], [], ([], []))], [], 3, 66, 0)
theorem kh_163_ok : ct_ok wd_fl kh_163 := ct_of (ff := wd_ff) (y := (⟨"UtilityWorksModel", "leads", "(II)Z"⟩, prog_14_method_21_code, 3, some .boolean, 12, 1, 2, 32211, 32210, 5006, 21014)) (Cs := [kh_161, kh_162]) (an := [(22, 0, ([((2, 805, 805, 0), none), ((0, 1, 1, 0), none), ((0, 0, 2, 1), none)], [(0, 0), (1, 1), (2, 2)], [], [], [], [], [], [], none), [(0, 0, 99978)])]) (ss := []) (K := 1) (fuel := 4000) wd_fl_ok rfl (List.forall_mem_cons.mpr ⟨kh_161_ok, (List.forall_mem_cons.mpr ⟨kh_162_ok, (List.forall_mem_nil _)⟩)⟩) (by decide +kernel)
/- UtilityWorksModel boundOf -/
def kh_164 : ct_T := (367, [(2, 805, 805, 0), (0, 1, 1, 0), (0, 0, 2, 1)], [], [], [(1, (0, (-2147483648), 2147483647, 1), [(2, 805, 805, 0), (0, 1, 1, 0), (0, 0, 2, 1)], [], ([], []))], [], 1, 22, 0)
theorem kh_164_ok : ct_ok wd_fl kh_164 := ct_of (ff := wd_ff) (y := (⟨"UtilityWorksModel", "boundOf", "(II)I"⟩, prog_14_method_18_code, 3, some .int, 12, 1, 2, 33005, 33004, 5011, 21014)) (Cs := [kh_159]) (an := []) (ss := []) (K := 1) (fuel := 4000) wd_fl_ok rfl (List.forall_mem_cons.mpr ⟨kh_159_ok, (List.forall_mem_nil _)⟩) (by decide +kernel)
/- UtilityWorksModel wRoom -/
def kh_165 : ct_T := (473, [(2, 805, 805, 0), (0, 0, 2, 1)], [], [], [(1, (0, (-2147483648), 2147483647, 1), [(2, 805, 805, 0), (0, 0, 2, 1)], [], ([], []))], [], 2, 44, 0)
theorem kh_165_ok : ct_ok wd_fl kh_165 := ct_of (ff := wd_ff) (y := (⟨"UtilityWorksModel", "wRoom", "(I)I"⟩, prog_14_method_117_code, 2, some .int, 12, 1, 1, 34185, 34184, 11012, 21014)) (Cs := [kh_164]) (an := []) (ss := []) (K := 1) (fuel := 4000) wd_fl_ok rfl (List.forall_mem_cons.mpr ⟨kh_164_ok, (List.forall_mem_nil _)⟩) (by decide +kernel)
/- UtilityWorksModel wOpen -/
def kh_166 : ct_T := (472, [(2, 805, 805, 0), (0, 0, 2, 1), (0, (-2147483648), 2147483647, 1)], [], [], [(1, (0, 1, 1, 0), [(2, 805, 805, 0), (0, 0, 2, 1), (0, 0, 2147483647, 1)], [], ([], [])), (1, (0, 0, 0, 0), [(2, 805, 805, 0), (0, 0, 2, 1), (0, (-2147483648), 2147483647, 1)], [], ([], []))], [], 4, 88, 0)
theorem kh_166_ok : ct_ok wd_fl kh_166 := ct_of (ff := wd_ff) (y := (⟨"UtilityWorksModel", "wOpen", "(II)Z"⟩, prog_14_method_118_code, 3, some .boolean, 12, 1, 2, 34181, 34180, 11011, 21014)) (Cs := [kh_163, kh_165, kh_low, kh_148, kh_high, kh_149]) (an := [(45, 0, ([((2, 805, 805, 0), none), ((0, 0, 2, 1), none), ((0, (-2147483648), 2147483647, 1), none)], [(0, 0), (1, 1), (2, 2)], [], [], [], [], [], [], none), [(0, 0, 99955)])]) (ss := []) (K := 1) (fuel := 4000) wd_fl_ok rfl (List.forall_mem_cons.mpr ⟨kh_163_ok, (List.forall_mem_cons.mpr ⟨kh_165_ok, (List.forall_mem_cons.mpr ⟨kh_low_ok, (List.forall_mem_cons.mpr ⟨kh_148_ok, (List.forall_mem_cons.mpr ⟨kh_high_ok, (List.forall_mem_cons.mpr ⟨kh_149_ok, (List.forall_mem_nil _)⟩)⟩)⟩)⟩)⟩)⟩) (by decide +kernel)
/- UtilityWorksModel link -/
def kh_167 : ct_T := (357, [(2, 805, 805, 0), (0, 1, 1, 0), (0, 0, 3, 1)], [], [], [(1, (0, 208, 220, 4), [(2, 805, 805, 0), (0, 1, 1, 0), (0, 0, 3, 1)], [], ([], []))], [], 0, 0, 0)
theorem kh_167_ok : ct_ok wd_fl kh_167 := ct_of (ff := wd_ff) (y := (⟨"UtilityWorksModel", "link", "(II)I"⟩, prog_14_method_16_code, 3, some .int, 12, 1, 2, 32207, 32206, 5005, 21014)) (Cs := []) (an := []) (ss := []) (K := 1) (fuel := 4000) wd_fl_ok rfl (List.forall_mem_nil _) (by decide +kernel)
/- UtilityWorksModel hasLink -/
def kh_168 : ct_T := (356, [(2, 805, 805, 0), (0, 1, 1, 0), (0, 0, 3, 1)], [], [], [(1, (0, 0, 0, 0), [(2, 805, 805, 0), (0, 1, 1, 0), (0, 0, 3, 1)], [], ([], [])), (1, (0, 1, 1, 0), [(2, 805, 805, 0), (0, 1, 1, 0), (0, 0, 3, 1)], [], ([], []))], [], 1, 22, 0)
theorem kh_168_ok : ct_ok wd_fl kh_168 := ct_of (ff := wd_ff) (y := (⟨"UtilityWorksModel", "hasLink", "(II)Z"⟩, prog_14_method_17_code, 3, some .boolean, 12, 1, 2, 32203, 32202, 5004, 21014)) (Cs := [kh_167]) (an := []) (ss := []) (K := 1) (fuel := 4000) wd_fl_ok rfl (List.forall_mem_cons.mpr ⟨kh_167_ok, (List.forall_mem_nil _)⟩) (by decide +kernel)
/- UtilityWorksModel isFine -/
def kh_169 : ct_T := (359, [(2, 805, 805, 0), (0, 1, 1, 0), (0, 0, 3, 1)], [], [], [(1, (0, 1, 1, 0), [(2, 805, 805, 0), (0, 1, 1, 0), (0, 0, 3, 1)], [], ([], [])), (1, (0, 0, 0, 0), [(2, 805, 805, 0), (0, 1, 1, 0), (0, 0, 3, 1)], [], ([], []))], [], 2, 44, 0)
theorem kh_169_ok : ct_ok wd_fl kh_169 := ct_of (ff := wd_ff) (y := (⟨"UtilityWorksModel", "isFine", "(II)Z"⟩, prog_14_method_19_code, 3, some .boolean, 12, 1, 2, 32215, 32214, 5007, 21014)) (Cs := [kh_168, kh_167]) (an := [(30, 0, ([((2, 805, 805, 0), none), ((0, 1, 1, 0), none), ((0, 0, 3, 1), none)], [(0, 0), (1, 1), (2, 2)], [], [], [], [], [], [], none), [(0, 0, 99970)])]) (ss := []) (K := 1) (fuel := 4000) wd_fl_ok rfl (List.forall_mem_cons.mpr ⟨kh_168_ok, (List.forall_mem_cons.mpr ⟨kh_167_ok, (List.forall_mem_nil _)⟩)⟩) (by decide +kernel)
/- UtilityWorksModel isOn -/
def kh_170 : ct_T := (360, [(2, 805, 805, 0), (0, 1, 1, 0), (0, 0, 3, 1)], [], [], [(1, (0, 1, 1, 0), [(2, 805, 805, 0), (0, 1, 1, 0), (0, 0, 3, 1)], [], ([], [])), (1, (0, 0, 0, 0), [(2, 805, 805, 0), (0, 1, 1, 0), (0, 0, 3, 1)], [], ([], []))], [], 2, 44, 0)
theorem kh_170_ok : ct_ok wd_fl kh_170 := ct_of (ff := wd_ff) (y := (⟨"UtilityWorksModel", "isOn", "(II)Z"⟩, prog_14_method_20_code, 3, some .boolean, 12, 1, 2, 32219, 32218, 5008, 21014)) (Cs := [kh_168, kh_167]) (an := [(30, 0, ([((2, 805, 805, 0), none), ((0, 1, 1, 0), none), ((0, 0, 3, 1), none)], [(0, 0), (1, 1), (2, 2)], [], [], [], [], [], [], none), [(0, 0, 99970)])]) (ss := []) (K := 1) (fuel := 4000) wd_fl_ok rfl (List.forall_mem_cons.mpr ⟨kh_168_ok, (List.forall_mem_cons.mpr ⟨kh_167_ok, (List.forall_mem_nil _)⟩)⟩) (by decide +kernel)
/- UtilityWorksModel leads -/
def kh_171 : ct_T := (358, [(2, 805, 805, 0), (0, 1, 1, 0), (0, 0, 3, 1)], [], [], [(1, (0, 1, 1, 0), [(2, 805, 805, 0), (0, 1, 1, 0), (0, 0, 3, 1)], [], ([], [])), (1, (0, 0, 0, 0), [(2, 805, 805, 0), (0, 1, 1, 0), (0, 0, 3, 1)], [], ([], []))], [], 3, 66, 0)
theorem kh_171_ok : ct_ok wd_fl kh_171 := ct_of (ff := wd_ff) (y := (⟨"UtilityWorksModel", "leads", "(II)Z"⟩, prog_14_method_21_code, 3, some .boolean, 12, 1, 2, 32211, 32210, 5006, 21014)) (Cs := [kh_169, kh_170]) (an := [(22, 0, ([((2, 805, 805, 0), none), ((0, 1, 1, 0), none), ((0, 0, 3, 1), none)], [(0, 0), (1, 1), (2, 2)], [], [], [], [], [], [], none), [(0, 0, 99978)])]) (ss := []) (K := 1) (fuel := 4000) wd_fl_ok rfl (List.forall_mem_cons.mpr ⟨kh_169_ok, (List.forall_mem_cons.mpr ⟨kh_170_ok, (List.forall_mem_nil _)⟩)⟩) (by decide +kernel)
/- UtilityWorksModel boundOf -/
def kh_172 : ct_T := (367, [(2, 805, 805, 0), (0, 1, 1, 0), (0, 0, 3, 1)], [], [], [(1, (0, (-2147483648), 2147483647, 1), [(2, 805, 805, 0), (0, 1, 1, 0), (0, 0, 3, 1)], [], ([], []))], [], 1, 22, 0)
theorem kh_172_ok : ct_ok wd_fl kh_172 := ct_of (ff := wd_ff) (y := (⟨"UtilityWorksModel", "boundOf", "(II)I"⟩, prog_14_method_18_code, 3, some .int, 12, 1, 2, 33005, 33004, 5011, 21014)) (Cs := [kh_167]) (an := []) (ss := []) (K := 1) (fuel := 4000) wd_fl_ok rfl (List.forall_mem_cons.mpr ⟨kh_167_ok, (List.forall_mem_nil _)⟩) (by decide +kernel)
/- UtilityWorksModel wRoom -/
def kh_173 : ct_T := (473, [(2, 805, 805, 0), (0, 0, 3, 1)], [], [], [(1, (0, (-2147483648), 2147483647, 1), [(2, 805, 805, 0), (0, 0, 3, 1)], [], ([], []))], [], 2, 44, 0)
theorem kh_173_ok : ct_ok wd_fl kh_173 := ct_of (ff := wd_ff) (y := (⟨"UtilityWorksModel", "wRoom", "(I)I"⟩, prog_14_method_117_code, 2, some .int, 12, 1, 1, 34185, 34184, 11012, 21014)) (Cs := [kh_172]) (an := []) (ss := []) (K := 1) (fuel := 4000) wd_fl_ok rfl (List.forall_mem_cons.mpr ⟨kh_172_ok, (List.forall_mem_nil _)⟩) (by decide +kernel)
/- UtilityWorksModel wOpen -/
def kh_174 : ct_T := (472, [(2, 805, 805, 0), (0, 0, 3, 1), (0, (-2147483648), 2147483647, 1)], [], [], [(1, (0, 1, 1, 0), [(2, 805, 805, 0), (0, 0, 3, 1), (0, 0, 2147483647, 1)], [], ([], [])), (1, (0, 0, 0, 0), [(2, 805, 805, 0), (0, 0, 3, 1), (0, (-2147483648), 2147483647, 1)], [], ([], []))], [], 4, 88, 0)
theorem kh_174_ok : ct_ok wd_fl kh_174 := ct_of (ff := wd_ff) (y := (⟨"UtilityWorksModel", "wOpen", "(II)Z"⟩, prog_14_method_118_code, 3, some .boolean, 12, 1, 2, 34181, 34180, 11011, 21014)) (Cs := [kh_171, kh_173, kh_low, kh_148, kh_high, kh_149]) (an := [(45, 0, ([((2, 805, 805, 0), none), ((0, 0, 3, 1), none), ((0, (-2147483648), 2147483647, 1), none)], [(0, 0), (1, 1), (2, 2)], [], [], [], [], [], [], none), [(0, 0, 99955)])]) (ss := []) (K := 1) (fuel := 4000) wd_fl_ok rfl (List.forall_mem_cons.mpr ⟨kh_171_ok, (List.forall_mem_cons.mpr ⟨kh_173_ok, (List.forall_mem_cons.mpr ⟨kh_low_ok, (List.forall_mem_cons.mpr ⟨kh_148_ok, (List.forall_mem_cons.mpr ⟨kh_high_ok, (List.forall_mem_cons.mpr ⟨kh_149_ok, (List.forall_mem_nil _)⟩)⟩)⟩)⟩)⟩)⟩) (by decide +kernel)
/- UtilityWorksModel link -/
def kh_175 : ct_T := (357, [(2, 805, 805, 0), (0, 1, 1, 0), (0, 0, 4, 1)], [], [], [(1, (0, 208, 224, 4), [(2, 805, 805, 0), (0, 1, 1, 0), (0, 0, 4, 1)], [], ([], []))], [], 0, 0, 0)
theorem kh_175_ok : ct_ok wd_fl kh_175 := ct_of (ff := wd_ff) (y := (⟨"UtilityWorksModel", "link", "(II)I"⟩, prog_14_method_16_code, 3, some .int, 12, 1, 2, 32207, 32206, 5005, 21014)) (Cs := []) (an := []) (ss := []) (K := 1) (fuel := 4000) wd_fl_ok rfl (List.forall_mem_nil _) (by decide +kernel)
/- UtilityWorksModel hasLink -/
def kh_176 : ct_T := (356, [(2, 805, 805, 0), (0, 1, 1, 0), (0, 0, 4, 1)], [], [], [(1, (0, 0, 0, 0), [(2, 805, 805, 0), (0, 1, 1, 0), (0, 0, 4, 1)], [], ([], [])), (1, (0, 1, 1, 0), [(2, 805, 805, 0), (0, 1, 1, 0), (0, 0, 4, 1)], [], ([], []))], [], 1, 22, 0)
theorem kh_176_ok : ct_ok wd_fl kh_176 := ct_of (ff := wd_ff) (y := (⟨"UtilityWorksModel", "hasLink", "(II)Z"⟩, prog_14_method_17_code, 3, some .boolean, 12, 1, 2, 32203, 32202, 5004, 21014)) (Cs := [kh_175]) (an := []) (ss := []) (K := 1) (fuel := 4000) wd_fl_ok rfl (List.forall_mem_cons.mpr ⟨kh_175_ok, (List.forall_mem_nil _)⟩) (by decide +kernel)
/- UtilityWorksModel isFine -/
def kh_177 : ct_T := (359, [(2, 805, 805, 0), (0, 1, 1, 0), (0, 0, 4, 1)], [], [], [(1, (0, 1, 1, 0), [(2, 805, 805, 0), (0, 1, 1, 0), (0, 0, 4, 1)], [], ([], [])), (1, (0, 0, 0, 0), [(2, 805, 805, 0), (0, 1, 1, 0), (0, 0, 4, 1)], [], ([], []))], [], 2, 44, 0)
theorem kh_177_ok : ct_ok wd_fl kh_177 := ct_of (ff := wd_ff) (y := (⟨"UtilityWorksModel", "isFine", "(II)Z"⟩, prog_14_method_19_code, 3, some .boolean, 12, 1, 2, 32215, 32214, 5007, 21014)) (Cs := [kh_176, kh_175]) (an := [(30, 0, ([((2, 805, 805, 0), none), ((0, 1, 1, 0), none), ((0, 0, 4, 1), none)], [(0, 0), (1, 1), (2, 2)], [], [], [], [], [], [], none), [(0, 0, 99970)])]) (ss := []) (K := 1) (fuel := 4000) wd_fl_ok rfl (List.forall_mem_cons.mpr ⟨kh_176_ok, (List.forall_mem_cons.mpr ⟨kh_175_ok, (List.forall_mem_nil _)⟩)⟩) (by decide +kernel)
/- UtilityWorksModel isOn -/
def kh_178 : ct_T := (360, [(2, 805, 805, 0), (0, 1, 1, 0), (0, 0, 4, 1)], [], [], [(1, (0, 1, 1, 0), [(2, 805, 805, 0), (0, 1, 1, 0), (0, 0, 4, 1)], [], ([], [])), (1, (0, 0, 0, 0), [(2, 805, 805, 0), (0, 1, 1, 0), (0, 0, 4, 1)], [], ([], []))], [], 2, 44, 0)
theorem kh_178_ok : ct_ok wd_fl kh_178 := ct_of (ff := wd_ff) (y := (⟨"UtilityWorksModel", "isOn", "(II)Z"⟩, prog_14_method_20_code, 3, some .boolean, 12, 1, 2, 32219, 32218, 5008, 21014)) (Cs := [kh_176, kh_175]) (an := [(30, 0, ([((2, 805, 805, 0), none), ((0, 1, 1, 0), none), ((0, 0, 4, 1), none)], [(0, 0), (1, 1), (2, 2)], [], [], [], [], [], [], none), [(0, 0, 99970)])]) (ss := []) (K := 1) (fuel := 4000) wd_fl_ok rfl (List.forall_mem_cons.mpr ⟨kh_176_ok, (List.forall_mem_cons.mpr ⟨kh_175_ok, (List.forall_mem_nil _)⟩)⟩) (by decide +kernel)
/- UtilityWorksModel leads -/
def kh_179 : ct_T := (358, [(2, 805, 805, 0), (0, 1, 1, 0), (0, 0, 4, 1)], [], [], [(1, (0, 1, 1, 0), [(2, 805, 805, 0), (0, 1, 1, 0), (0, 0, 4, 1)], [], ([], [])), (1, (0, 0, 0, 0), [(2, 805, 805, 0), (0, 1, 1, 0), (0, 0, 4, 1)], [], ([], []))], [], 3, 66, 0)
theorem kh_179_ok : ct_ok wd_fl kh_179 := ct_of (ff := wd_ff) (y := (⟨"UtilityWorksModel", "leads", "(II)Z"⟩, prog_14_method_21_code, 3, some .boolean, 12, 1, 2, 32211, 32210, 5006, 21014)) (Cs := [kh_177, kh_178]) (an := [(22, 0, ([((2, 805, 805, 0), none), ((0, 1, 1, 0), none), ((0, 0, 4, 1), none)], [(0, 0), (1, 1), (2, 2)], [], [], [], [], [], [], none), [(0, 0, 99978)])]) (ss := []) (K := 1) (fuel := 4000) wd_fl_ok rfl (List.forall_mem_cons.mpr ⟨kh_177_ok, (List.forall_mem_cons.mpr ⟨kh_178_ok, (List.forall_mem_nil _)⟩)⟩) (by decide +kernel)
/- UtilityWorksModel boundOf -/
def kh_180 : ct_T := (367, [(2, 805, 805, 0), (0, 1, 1, 0), (0, 0, 4, 1)], [], [], [(1, (0, (-2147483648), 2147483647, 1), [(2, 805, 805, 0), (0, 1, 1, 0), (0, 0, 4, 1)], [], ([], []))], [], 1, 22, 0)
theorem kh_180_ok : ct_ok wd_fl kh_180 := ct_of (ff := wd_ff) (y := (⟨"UtilityWorksModel", "boundOf", "(II)I"⟩, prog_14_method_18_code, 3, some .int, 12, 1, 2, 33005, 33004, 5011, 21014)) (Cs := [kh_175]) (an := []) (ss := []) (K := 1) (fuel := 4000) wd_fl_ok rfl (List.forall_mem_cons.mpr ⟨kh_175_ok, (List.forall_mem_nil _)⟩) (by decide +kernel)
/- UtilityWorksModel wRoom -/
def kh_181 : ct_T := (473, [(2, 805, 805, 0), (0, 0, 4, 1)], [], [], [(1, (0, (-2147483648), 2147483647, 1), [(2, 805, 805, 0), (0, 0, 4, 1)], [], ([], []))], [], 2, 44, 0)
theorem kh_181_ok : ct_ok wd_fl kh_181 := ct_of (ff := wd_ff) (y := (⟨"UtilityWorksModel", "wRoom", "(I)I"⟩, prog_14_method_117_code, 2, some .int, 12, 1, 1, 34185, 34184, 11012, 21014)) (Cs := [kh_180]) (an := []) (ss := []) (K := 1) (fuel := 4000) wd_fl_ok rfl (List.forall_mem_cons.mpr ⟨kh_180_ok, (List.forall_mem_nil _)⟩) (by decide +kernel)
/- UtilityWorksModel wOpen -/
def kh_182 : ct_T := (472, [(2, 805, 805, 0), (0, 0, 4, 1), (0, (-2147483648), 2147483647, 1)], [], [], [(1, (0, 1, 1, 0), [(2, 805, 805, 0), (0, 0, 4, 1), (0, 0, 2147483647, 1)], [], ([], [])), (1, (0, 0, 0, 0), [(2, 805, 805, 0), (0, 0, 4, 1), (0, (-2147483648), 2147483647, 1)], [], ([], []))], [], 4, 88, 0)
theorem kh_182_ok : ct_ok wd_fl kh_182 := ct_of (ff := wd_ff) (y := (⟨"UtilityWorksModel", "wOpen", "(II)Z"⟩, prog_14_method_118_code, 3, some .boolean, 12, 1, 2, 34181, 34180, 11011, 21014)) (Cs := [kh_179, kh_181, kh_low, kh_148, kh_high, kh_149]) (an := [(45, 0, ([((2, 805, 805, 0), none), ((0, 0, 4, 1), none), ((0, (-2147483648), 2147483647, 1), none)], [(0, 0), (1, 1), (2, 2)], [], [], [], [], [], [], none), [(0, 0, 99955)])]) (ss := []) (K := 1) (fuel := 4000) wd_fl_ok rfl (List.forall_mem_cons.mpr ⟨kh_179_ok, (List.forall_mem_cons.mpr ⟨kh_181_ok, (List.forall_mem_cons.mpr ⟨kh_low_ok, (List.forall_mem_cons.mpr ⟨kh_148_ok, (List.forall_mem_cons.mpr ⟨kh_high_ok, (List.forall_mem_cons.mpr ⟨kh_149_ok, (List.forall_mem_nil _)⟩)⟩)⟩)⟩)⟩)⟩) (by decide +kernel)
/- UtilityWorksModel link -/
def kh_183 : ct_T := (357, [(2, 805, 805, 0), (0, 1, 1, 0), (0, 0, 5, 1)], [], [], [(1, (0, 208, 228, 4), [(2, 805, 805, 0), (0, 1, 1, 0), (0, 0, 5, 1)], [], ([], []))], [], 0, 0, 0)
theorem kh_183_ok : ct_ok wd_fl kh_183 := ct_of (ff := wd_ff) (y := (⟨"UtilityWorksModel", "link", "(II)I"⟩, prog_14_method_16_code, 3, some .int, 12, 1, 2, 32207, 32206, 5005, 21014)) (Cs := []) (an := []) (ss := []) (K := 1) (fuel := 4000) wd_fl_ok rfl (List.forall_mem_nil _) (by decide +kernel)
/- UtilityWorksModel hasLink -/
def kh_184 : ct_T := (356, [(2, 805, 805, 0), (0, 1, 1, 0), (0, 0, 5, 1)], [], [], [(1, (0, 0, 0, 0), [(2, 805, 805, 0), (0, 1, 1, 0), (0, 0, 5, 1)], [], ([], [])), (1, (0, 1, 1, 0), [(2, 805, 805, 0), (0, 1, 1, 0), (0, 0, 5, 1)], [], ([], []))], [], 1, 22, 0)
theorem kh_184_ok : ct_ok wd_fl kh_184 := ct_of (ff := wd_ff) (y := (⟨"UtilityWorksModel", "hasLink", "(II)Z"⟩, prog_14_method_17_code, 3, some .boolean, 12, 1, 2, 32203, 32202, 5004, 21014)) (Cs := [kh_183]) (an := []) (ss := []) (K := 1) (fuel := 4000) wd_fl_ok rfl (List.forall_mem_cons.mpr ⟨kh_183_ok, (List.forall_mem_nil _)⟩) (by decide +kernel)
/- UtilityWorksModel isFine -/
def kh_185 : ct_T := (359, [(2, 805, 805, 0), (0, 1, 1, 0), (0, 0, 5, 1)], [], [], [(1, (0, 1, 1, 0), [(2, 805, 805, 0), (0, 1, 1, 0), (0, 0, 5, 1)], [], ([], [])), (1, (0, 0, 0, 0), [(2, 805, 805, 0), (0, 1, 1, 0), (0, 0, 5, 1)], [], ([], []))], [], 2, 44, 0)
theorem kh_185_ok : ct_ok wd_fl kh_185 := ct_of (ff := wd_ff) (y := (⟨"UtilityWorksModel", "isFine", "(II)Z"⟩, prog_14_method_19_code, 3, some .boolean, 12, 1, 2, 32215, 32214, 5007, 21014)) (Cs := [kh_184, kh_183]) (an := [(30, 0, ([((2, 805, 805, 0), none), ((0, 1, 1, 0), none), ((0, 0, 5, 1), none)], [(0, 0), (1, 1), (2, 2)], [], [], [], [], [], [], none), [(0, 0, 99970)])]) (ss := []) (K := 1) (fuel := 4000) wd_fl_ok rfl (List.forall_mem_cons.mpr ⟨kh_184_ok, (List.forall_mem_cons.mpr ⟨kh_183_ok, (List.forall_mem_nil _)⟩)⟩) (by decide +kernel)
/- UtilityWorksModel isOn -/
def kh_186 : ct_T := (360, [(2, 805, 805, 0), (0, 1, 1, 0), (0, 0, 5, 1)], [], [], [(1, (0, 1, 1, 0), [(2, 805, 805, 0), (0, 1, 1, 0), (0, 0, 5, 1)], [], ([], [])), (1, (0, 0, 0, 0), [(2, 805, 805, 0), (0, 1, 1, 0), (0, 0, 5, 1)], [], ([], []))], [], 2, 44, 0)
theorem kh_186_ok : ct_ok wd_fl kh_186 := ct_of (ff := wd_ff) (y := (⟨"UtilityWorksModel", "isOn", "(II)Z"⟩, prog_14_method_20_code, 3, some .boolean, 12, 1, 2, 32219, 32218, 5008, 21014)) (Cs := [kh_184, kh_183]) (an := [(30, 0, ([((2, 805, 805, 0), none), ((0, 1, 1, 0), none), ((0, 0, 5, 1), none)], [(0, 0), (1, 1), (2, 2)], [], [], [], [], [], [], none), [(0, 0, 99970)])]) (ss := []) (K := 1) (fuel := 4000) wd_fl_ok rfl (List.forall_mem_cons.mpr ⟨kh_184_ok, (List.forall_mem_cons.mpr ⟨kh_183_ok, (List.forall_mem_nil _)⟩)⟩) (by decide +kernel)
/- UtilityWorksModel leads -/
def kh_187 : ct_T := (358, [(2, 805, 805, 0), (0, 1, 1, 0), (0, 0, 5, 1)], [], [], [(1, (0, 1, 1, 0), [(2, 805, 805, 0), (0, 1, 1, 0), (0, 0, 5, 1)], [], ([], [])), (1, (0, 0, 0, 0), [(2, 805, 805, 0), (0, 1, 1, 0), (0, 0, 5, 1)], [], ([], []))], [], 3, 66, 0)
theorem kh_187_ok : ct_ok wd_fl kh_187 := ct_of (ff := wd_ff) (y := (⟨"UtilityWorksModel", "leads", "(II)Z"⟩, prog_14_method_21_code, 3, some .boolean, 12, 1, 2, 32211, 32210, 5006, 21014)) (Cs := [kh_185, kh_186]) (an := [(22, 0, ([((2, 805, 805, 0), none), ((0, 1, 1, 0), none), ((0, 0, 5, 1), none)], [(0, 0), (1, 1), (2, 2)], [], [], [], [], [], [], none), [(0, 0, 99978)])]) (ss := []) (K := 1) (fuel := 4000) wd_fl_ok rfl (List.forall_mem_cons.mpr ⟨kh_185_ok, (List.forall_mem_cons.mpr ⟨kh_186_ok, (List.forall_mem_nil _)⟩)⟩) (by decide +kernel)
/- UtilityWorksModel boundOf -/
def kh_188 : ct_T := (367, [(2, 805, 805, 0), (0, 1, 1, 0), (0, 0, 5, 1)], [], [], [(1, (0, (-2147483648), 2147483647, 1), [(2, 805, 805, 0), (0, 1, 1, 0), (0, 0, 5, 1)], [], ([], []))], [], 1, 22, 0)
theorem kh_188_ok : ct_ok wd_fl kh_188 := ct_of (ff := wd_ff) (y := (⟨"UtilityWorksModel", "boundOf", "(II)I"⟩, prog_14_method_18_code, 3, some .int, 12, 1, 2, 33005, 33004, 5011, 21014)) (Cs := [kh_183]) (an := []) (ss := []) (K := 1) (fuel := 4000) wd_fl_ok rfl (List.forall_mem_cons.mpr ⟨kh_183_ok, (List.forall_mem_nil _)⟩) (by decide +kernel)
/- UtilityWorksModel wRoom -/
def kh_189 : ct_T := (473, [(2, 805, 805, 0), (0, 0, 5, 1)], [], [], [(1, (0, (-2147483648), 2147483647, 1), [(2, 805, 805, 0), (0, 0, 5, 1)], [], ([], []))], [], 2, 44, 0)
theorem kh_189_ok : ct_ok wd_fl kh_189 := ct_of (ff := wd_ff) (y := (⟨"UtilityWorksModel", "wRoom", "(I)I"⟩, prog_14_method_117_code, 2, some .int, 12, 1, 1, 34185, 34184, 11012, 21014)) (Cs := [kh_188]) (an := []) (ss := []) (K := 1) (fuel := 4000) wd_fl_ok rfl (List.forall_mem_cons.mpr ⟨kh_188_ok, (List.forall_mem_nil _)⟩) (by decide +kernel)
/- UtilityWorksModel wOpen -/
def kh_190 : ct_T := (472, [(2, 805, 805, 0), (0, 0, 5, 1), (0, (-2147483648), 2147483647, 1)], [], [], [(1, (0, 1, 1, 0), [(2, 805, 805, 0), (0, 0, 5, 1), (0, 0, 2147483647, 1)], [], ([], [])), (1, (0, 0, 0, 0), [(2, 805, 805, 0), (0, 0, 5, 1), (0, (-2147483648), 2147483647, 1)], [], ([], []))], [], 4, 88, 0)
theorem kh_190_ok : ct_ok wd_fl kh_190 := ct_of (ff := wd_ff) (y := (⟨"UtilityWorksModel", "wOpen", "(II)Z"⟩, prog_14_method_118_code, 3, some .boolean, 12, 1, 2, 34181, 34180, 11011, 21014)) (Cs := [kh_187, kh_189, kh_low, kh_148, kh_high, kh_149]) (an := [(45, 0, ([((2, 805, 805, 0), none), ((0, 0, 5, 1), none), ((0, (-2147483648), 2147483647, 1), none)], [(0, 0), (1, 1), (2, 2)], [], [], [], [], [], [], none), [(0, 0, 99955)])]) (ss := []) (K := 1) (fuel := 4000) wd_fl_ok rfl (List.forall_mem_cons.mpr ⟨kh_187_ok, (List.forall_mem_cons.mpr ⟨kh_189_ok, (List.forall_mem_cons.mpr ⟨kh_low_ok, (List.forall_mem_cons.mpr ⟨kh_148_ok, (List.forall_mem_cons.mpr ⟨kh_high_ok, (List.forall_mem_cons.mpr ⟨kh_149_ok, (List.forall_mem_nil _)⟩)⟩)⟩)⟩)⟩)⟩) (by decide +kernel)
/- UtilityWorksModel link -/
def kh_191 : ct_T := (357, [(2, 805, 805, 0), (0, 1, 1, 0), (0, 0, 6, 1)], [], [], [(1, (0, 208, 232, 4), [(2, 805, 805, 0), (0, 1, 1, 0), (0, 0, 6, 1)], [], ([], []))], [], 0, 0, 0)
theorem kh_191_ok : ct_ok wd_fl kh_191 := ct_of (ff := wd_ff) (y := (⟨"UtilityWorksModel", "link", "(II)I"⟩, prog_14_method_16_code, 3, some .int, 12, 1, 2, 32207, 32206, 5005, 21014)) (Cs := []) (an := []) (ss := []) (K := 1) (fuel := 4000) wd_fl_ok rfl (List.forall_mem_nil _) (by decide +kernel)
/- UtilityWorksModel hasLink -/
def kh_192 : ct_T := (356, [(2, 805, 805, 0), (0, 1, 1, 0), (0, 0, 6, 1)], [], [], [(1, (0, 0, 0, 0), [(2, 805, 805, 0), (0, 1, 1, 0), (0, 0, 6, 1)], [], ([], [])), (1, (0, 1, 1, 0), [(2, 805, 805, 0), (0, 1, 1, 0), (0, 0, 6, 1)], [], ([], []))], [], 1, 22, 0)
theorem kh_192_ok : ct_ok wd_fl kh_192 := ct_of (ff := wd_ff) (y := (⟨"UtilityWorksModel", "hasLink", "(II)Z"⟩, prog_14_method_17_code, 3, some .boolean, 12, 1, 2, 32203, 32202, 5004, 21014)) (Cs := [kh_191]) (an := []) (ss := []) (K := 1) (fuel := 4000) wd_fl_ok rfl (List.forall_mem_cons.mpr ⟨kh_191_ok, (List.forall_mem_nil _)⟩) (by decide +kernel)
/- UtilityWorksModel isFine -/
def kh_193 : ct_T := (359, [(2, 805, 805, 0), (0, 1, 1, 0), (0, 0, 6, 1)], [], [], [(1, (0, 1, 1, 0), [(2, 805, 805, 0), (0, 1, 1, 0), (0, 0, 6, 1)], [], ([], [])), (1, (0, 0, 0, 0), [(2, 805, 805, 0), (0, 1, 1, 0), (0, 0, 6, 1)], [], ([], []))], [], 2, 44, 0)
theorem kh_193_ok : ct_ok wd_fl kh_193 := ct_of (ff := wd_ff) (y := (⟨"UtilityWorksModel", "isFine", "(II)Z"⟩, prog_14_method_19_code, 3, some .boolean, 12, 1, 2, 32215, 32214, 5007, 21014)) (Cs := [kh_192, kh_191]) (an := [(30, 0, ([((2, 805, 805, 0), none), ((0, 1, 1, 0), none), ((0, 0, 6, 1), none)], [(0, 0), (1, 1), (2, 2)], [], [], [], [], [], [], none), [(0, 0, 99970)])]) (ss := []) (K := 1) (fuel := 4000) wd_fl_ok rfl (List.forall_mem_cons.mpr ⟨kh_192_ok, (List.forall_mem_cons.mpr ⟨kh_191_ok, (List.forall_mem_nil _)⟩)⟩) (by decide +kernel)
/- UtilityWorksModel isOn -/
def kh_194 : ct_T := (360, [(2, 805, 805, 0), (0, 1, 1, 0), (0, 0, 6, 1)], [], [], [(1, (0, 1, 1, 0), [(2, 805, 805, 0), (0, 1, 1, 0), (0, 0, 6, 1)], [], ([], [])), (1, (0, 0, 0, 0), [(2, 805, 805, 0), (0, 1, 1, 0), (0, 0, 6, 1)], [], ([], []))], [], 2, 44, 0)
theorem kh_194_ok : ct_ok wd_fl kh_194 := ct_of (ff := wd_ff) (y := (⟨"UtilityWorksModel", "isOn", "(II)Z"⟩, prog_14_method_20_code, 3, some .boolean, 12, 1, 2, 32219, 32218, 5008, 21014)) (Cs := [kh_192, kh_191]) (an := [(30, 0, ([((2, 805, 805, 0), none), ((0, 1, 1, 0), none), ((0, 0, 6, 1), none)], [(0, 0), (1, 1), (2, 2)], [], [], [], [], [], [], none), [(0, 0, 99970)])]) (ss := []) (K := 1) (fuel := 4000) wd_fl_ok rfl (List.forall_mem_cons.mpr ⟨kh_192_ok, (List.forall_mem_cons.mpr ⟨kh_191_ok, (List.forall_mem_nil _)⟩)⟩) (by decide +kernel)
/- UtilityWorksModel leads -/
def kh_195 : ct_T := (358, [(2, 805, 805, 0), (0, 1, 1, 0), (0, 0, 6, 1)], [], [], [(1, (0, 1, 1, 0), [(2, 805, 805, 0), (0, 1, 1, 0), (0, 0, 6, 1)], [], ([], [])), (1, (0, 0, 0, 0), [(2, 805, 805, 0), (0, 1, 1, 0), (0, 0, 6, 1)], [], ([], []))], [], 3, 66, 0)
theorem kh_195_ok : ct_ok wd_fl kh_195 := ct_of (ff := wd_ff) (y := (⟨"UtilityWorksModel", "leads", "(II)Z"⟩, prog_14_method_21_code, 3, some .boolean, 12, 1, 2, 32211, 32210, 5006, 21014)) (Cs := [kh_193, kh_194]) (an := [(22, 0, ([((2, 805, 805, 0), none), ((0, 1, 1, 0), none), ((0, 0, 6, 1), none)], [(0, 0), (1, 1), (2, 2)], [], [], [], [], [], [], none), [(0, 0, 99978)])]) (ss := []) (K := 1) (fuel := 4000) wd_fl_ok rfl (List.forall_mem_cons.mpr ⟨kh_193_ok, (List.forall_mem_cons.mpr ⟨kh_194_ok, (List.forall_mem_nil _)⟩)⟩) (by decide +kernel)
/- UtilityWorksModel boundOf -/
def kh_196 : ct_T := (367, [(2, 805, 805, 0), (0, 1, 1, 0), (0, 0, 6, 1)], [], [], [(1, (0, (-2147483648), 2147483647, 1), [(2, 805, 805, 0), (0, 1, 1, 0), (0, 0, 6, 1)], [], ([], []))], [], 1, 22, 0)
theorem kh_196_ok : ct_ok wd_fl kh_196 := ct_of (ff := wd_ff) (y := (⟨"UtilityWorksModel", "boundOf", "(II)I"⟩, prog_14_method_18_code, 3, some .int, 12, 1, 2, 33005, 33004, 5011, 21014)) (Cs := [kh_191]) (an := []) (ss := []) (K := 1) (fuel := 4000) wd_fl_ok rfl (List.forall_mem_cons.mpr ⟨kh_191_ok, (List.forall_mem_nil _)⟩) (by decide +kernel)
/- UtilityWorksModel wRoom -/
def kh_197 : ct_T := (473, [(2, 805, 805, 0), (0, 0, 6, 1)], [], [], [(1, (0, (-2147483648), 2147483647, 1), [(2, 805, 805, 0), (0, 0, 6, 1)], [], ([], []))], [], 2, 44, 0)
theorem kh_197_ok : ct_ok wd_fl kh_197 := ct_of (ff := wd_ff) (y := (⟨"UtilityWorksModel", "wRoom", "(I)I"⟩, prog_14_method_117_code, 2, some .int, 12, 1, 1, 34185, 34184, 11012, 21014)) (Cs := [kh_196]) (an := []) (ss := []) (K := 1) (fuel := 4000) wd_fl_ok rfl (List.forall_mem_cons.mpr ⟨kh_196_ok, (List.forall_mem_nil _)⟩) (by decide +kernel)
/- UtilityWorksModel wOpen -/
def kh_198 : ct_T := (472, [(2, 805, 805, 0), (0, 0, 6, 1), (0, (-2147483648), 2147483647, 1)], [], [], [(1, (0, 1, 1, 0), [(2, 805, 805, 0), (0, 0, 6, 1), (0, 0, 2147483647, 1)], [], ([], [])), (1, (0, 0, 0, 0), [(2, 805, 805, 0), (0, 0, 6, 1), (0, (-2147483648), 2147483647, 1)], [], ([], []))], [], 4, 88, 0)
theorem kh_198_ok : ct_ok wd_fl kh_198 := ct_of (ff := wd_ff) (y := (⟨"UtilityWorksModel", "wOpen", "(II)Z"⟩, prog_14_method_118_code, 3, some .boolean, 12, 1, 2, 34181, 34180, 11011, 21014)) (Cs := [kh_195, kh_197, kh_low, kh_148, kh_high, kh_149]) (an := [(45, 0, ([((2, 805, 805, 0), none), ((0, 0, 6, 1), none), ((0, (-2147483648), 2147483647, 1), none)], [(0, 0), (1, 1), (2, 2)], [], [], [], [], [], [], none), [(0, 0, 99955)])]) (ss := []) (K := 1) (fuel := 4000) wd_fl_ok rfl (List.forall_mem_cons.mpr ⟨kh_195_ok, (List.forall_mem_cons.mpr ⟨kh_197_ok, (List.forall_mem_cons.mpr ⟨kh_low_ok, (List.forall_mem_cons.mpr ⟨kh_148_ok, (List.forall_mem_cons.mpr ⟨kh_high_ok, (List.forall_mem_cons.mpr ⟨kh_149_ok, (List.forall_mem_nil _)⟩)⟩)⟩)⟩)⟩)⟩) (by decide +kernel)
/- UtilityWorksModel link -/
def kh_199 : ct_T := (357, [(2, 805, 805, 0), (0, 1, 1, 0), (0, 0, 7, 1)], [], [], [(1, (0, 208, 236, 4), [(2, 805, 805, 0), (0, 1, 1, 0), (0, 0, 7, 1)], [], ([], []))], [], 0, 0, 0)
theorem kh_199_ok : ct_ok wd_fl kh_199 := ct_of (ff := wd_ff) (y := (⟨"UtilityWorksModel", "link", "(II)I"⟩, prog_14_method_16_code, 3, some .int, 12, 1, 2, 32207, 32206, 5005, 21014)) (Cs := []) (an := []) (ss := []) (K := 1) (fuel := 4000) wd_fl_ok rfl (List.forall_mem_nil _) (by decide +kernel)
/- UtilityWorksModel hasLink -/
def kh_200 : ct_T := (356, [(2, 805, 805, 0), (0, 1, 1, 0), (0, 0, 7, 1)], [], [], [(1, (0, 0, 0, 0), [(2, 805, 805, 0), (0, 1, 1, 0), (0, 0, 7, 1)], [], ([], [])), (1, (0, 1, 1, 0), [(2, 805, 805, 0), (0, 1, 1, 0), (0, 0, 7, 1)], [], ([], []))], [], 1, 22, 0)
theorem kh_200_ok : ct_ok wd_fl kh_200 := ct_of (ff := wd_ff) (y := (⟨"UtilityWorksModel", "hasLink", "(II)Z"⟩, prog_14_method_17_code, 3, some .boolean, 12, 1, 2, 32203, 32202, 5004, 21014)) (Cs := [kh_199]) (an := []) (ss := []) (K := 1) (fuel := 4000) wd_fl_ok rfl (List.forall_mem_cons.mpr ⟨kh_199_ok, (List.forall_mem_nil _)⟩) (by decide +kernel)
/- UtilityWorksModel isFine -/
def kh_201 : ct_T := (359, [(2, 805, 805, 0), (0, 1, 1, 0), (0, 0, 7, 1)], [], [], [(1, (0, 1, 1, 0), [(2, 805, 805, 0), (0, 1, 1, 0), (0, 0, 7, 1)], [], ([], [])), (1, (0, 0, 0, 0), [(2, 805, 805, 0), (0, 1, 1, 0), (0, 0, 7, 1)], [], ([], []))], [], 2, 44, 0)
theorem kh_201_ok : ct_ok wd_fl kh_201 := ct_of (ff := wd_ff) (y := (⟨"UtilityWorksModel", "isFine", "(II)Z"⟩, prog_14_method_19_code, 3, some .boolean, 12, 1, 2, 32215, 32214, 5007, 21014)) (Cs := [kh_200, kh_199]) (an := [(30, 0, ([((2, 805, 805, 0), none), ((0, 1, 1, 0), none), ((0, 0, 7, 1), none)], [(0, 0), (1, 1), (2, 2)], [], [], [], [], [], [], none), [(0, 0, 99970)])]) (ss := []) (K := 1) (fuel := 4000) wd_fl_ok rfl (List.forall_mem_cons.mpr ⟨kh_200_ok, (List.forall_mem_cons.mpr ⟨kh_199_ok, (List.forall_mem_nil _)⟩)⟩) (by decide +kernel)
/- UtilityWorksModel isOn -/
def kh_202 : ct_T := (360, [(2, 805, 805, 0), (0, 1, 1, 0), (0, 0, 7, 1)], [], [], [(1, (0, 1, 1, 0), [(2, 805, 805, 0), (0, 1, 1, 0), (0, 0, 7, 1)], [], ([], [])), (1, (0, 0, 0, 0), [(2, 805, 805, 0), (0, 1, 1, 0), (0, 0, 7, 1)], [], ([], []))], [], 2, 44, 0)
theorem kh_202_ok : ct_ok wd_fl kh_202 := ct_of (ff := wd_ff) (y := (⟨"UtilityWorksModel", "isOn", "(II)Z"⟩, prog_14_method_20_code, 3, some .boolean, 12, 1, 2, 32219, 32218, 5008, 21014)) (Cs := [kh_200, kh_199]) (an := [(30, 0, ([((2, 805, 805, 0), none), ((0, 1, 1, 0), none), ((0, 0, 7, 1), none)], [(0, 0), (1, 1), (2, 2)], [], [], [], [], [], [], none), [(0, 0, 99970)])]) (ss := []) (K := 1) (fuel := 4000) wd_fl_ok rfl (List.forall_mem_cons.mpr ⟨kh_200_ok, (List.forall_mem_cons.mpr ⟨kh_199_ok, (List.forall_mem_nil _)⟩)⟩) (by decide +kernel)
/- UtilityWorksModel leads -/
def kh_203 : ct_T := (358, [(2, 805, 805, 0), (0, 1, 1, 0), (0, 0, 7, 1)], [], [], [(1, (0, 1, 1, 0), [(2, 805, 805, 0), (0, 1, 1, 0), (0, 0, 7, 1)], [], ([], [])), (1, (0, 0, 0, 0), [(2, 805, 805, 0), (0, 1, 1, 0), (0, 0, 7, 1)], [], ([], []))], [], 3, 66, 0)
theorem kh_203_ok : ct_ok wd_fl kh_203 := ct_of (ff := wd_ff) (y := (⟨"UtilityWorksModel", "leads", "(II)Z"⟩, prog_14_method_21_code, 3, some .boolean, 12, 1, 2, 32211, 32210, 5006, 21014)) (Cs := [kh_201, kh_202]) (an := [(22, 0, ([((2, 805, 805, 0), none), ((0, 1, 1, 0), none), ((0, 0, 7, 1), none)], [(0, 0), (1, 1), (2, 2)], [], [], [], [], [], [], none), [(0, 0, 99978)])]) (ss := []) (K := 1) (fuel := 4000) wd_fl_ok rfl (List.forall_mem_cons.mpr ⟨kh_201_ok, (List.forall_mem_cons.mpr ⟨kh_202_ok, (List.forall_mem_nil _)⟩)⟩) (by decide +kernel)
/- UtilityWorksModel boundOf -/
def kh_204 : ct_T := (367, [(2, 805, 805, 0), (0, 1, 1, 0), (0, 0, 7, 1)], [], [], [(1, (0, (-2147483648), 2147483647, 1), [(2, 805, 805, 0), (0, 1, 1, 0), (0, 0, 7, 1)], [], ([], []))], [], 1, 22, 0)
theorem kh_204_ok : ct_ok wd_fl kh_204 := ct_of (ff := wd_ff) (y := (⟨"UtilityWorksModel", "boundOf", "(II)I"⟩, prog_14_method_18_code, 3, some .int, 12, 1, 2, 33005, 33004, 5011, 21014)) (Cs := [kh_199]) (an := []) (ss := []) (K := 1) (fuel := 4000) wd_fl_ok rfl (List.forall_mem_cons.mpr ⟨kh_199_ok, (List.forall_mem_nil _)⟩) (by decide +kernel)
/- UtilityWorksModel wRoom -/
def kh_205 : ct_T := (473, [(2, 805, 805, 0), (0, 0, 7, 1)], [], [], [(1, (0, (-2147483648), 2147483647, 1), [(2, 805, 805, 0), (0, 0, 7, 1)], [], ([], []))], [], 2, 44, 0)
theorem kh_205_ok : ct_ok wd_fl kh_205 := ct_of (ff := wd_ff) (y := (⟨"UtilityWorksModel", "wRoom", "(I)I"⟩, prog_14_method_117_code, 2, some .int, 12, 1, 1, 34185, 34184, 11012, 21014)) (Cs := [kh_204]) (an := []) (ss := []) (K := 1) (fuel := 4000) wd_fl_ok rfl (List.forall_mem_cons.mpr ⟨kh_204_ok, (List.forall_mem_nil _)⟩) (by decide +kernel)
/- UtilityWorksModel wOpen -/
def kh_206 : ct_T := (472, [(2, 805, 805, 0), (0, 0, 7, 1), (0, (-2147483648), 2147483647, 1)], [], [], [(1, (0, 1, 1, 0), [(2, 805, 805, 0), (0, 0, 7, 1), (0, 0, 2147483647, 1)], [], ([], [])), (1, (0, 0, 0, 0), [(2, 805, 805, 0), (0, 0, 7, 1), (0, (-2147483648), 2147483647, 1)], [], ([], []))], [], 4, 88, 0)
theorem kh_206_ok : ct_ok wd_fl kh_206 := ct_of (ff := wd_ff) (y := (⟨"UtilityWorksModel", "wOpen", "(II)Z"⟩, prog_14_method_118_code, 3, some .boolean, 12, 1, 2, 34181, 34180, 11011, 21014)) (Cs := [kh_203, kh_205, kh_low, kh_148, kh_high, kh_149]) (an := [(45, 0, ([((2, 805, 805, 0), none), ((0, 0, 7, 1), none), ((0, (-2147483648), 2147483647, 1), none)], [(0, 0), (1, 1), (2, 2)], [], [], [], [], [], [], none), [(0, 0, 99955)])]) (ss := []) (K := 1) (fuel := 4000) wd_fl_ok rfl (List.forall_mem_cons.mpr ⟨kh_203_ok, (List.forall_mem_cons.mpr ⟨kh_205_ok, (List.forall_mem_cons.mpr ⟨kh_low_ok, (List.forall_mem_cons.mpr ⟨kh_148_ok, (List.forall_mem_cons.mpr ⟨kh_high_ok, (List.forall_mem_cons.mpr ⟨kh_149_ok, (List.forall_mem_nil _)⟩)⟩)⟩)⟩)⟩)⟩) (by decide +kernel)
/- UtilityWorksModel link -/
def kh_207 : ct_T := (357, [(2, 805, 805, 0), (0, 1, 1, 0), (0, 0, 8, 1)], [], [], [(1, (0, 208, 240, 4), [(2, 805, 805, 0), (0, 1, 1, 0), (0, 0, 8, 1)], [], ([], []))], [], 0, 0, 0)
theorem kh_207_ok : ct_ok wd_fl kh_207 := ct_of (ff := wd_ff) (y := (⟨"UtilityWorksModel", "link", "(II)I"⟩, prog_14_method_16_code, 3, some .int, 12, 1, 2, 32207, 32206, 5005, 21014)) (Cs := []) (an := []) (ss := []) (K := 1) (fuel := 4000) wd_fl_ok rfl (List.forall_mem_nil _) (by decide +kernel)
/- UtilityWorksModel hasLink -/
def kh_208 : ct_T := (356, [(2, 805, 805, 0), (0, 1, 1, 0), (0, 0, 8, 1)], [], [], [(1, (0, 0, 0, 0), [(2, 805, 805, 0), (0, 1, 1, 0), (0, 0, 8, 1)], [], ([], [])), (1, (0, 1, 1, 0), [(2, 805, 805, 0), (0, 1, 1, 0), (0, 0, 8, 1)], [], ([], []))], [], 1, 22, 0)
theorem kh_208_ok : ct_ok wd_fl kh_208 := ct_of (ff := wd_ff) (y := (⟨"UtilityWorksModel", "hasLink", "(II)Z"⟩, prog_14_method_17_code, 3, some .boolean, 12, 1, 2, 32203, 32202, 5004, 21014)) (Cs := [kh_207]) (an := []) (ss := []) (K := 1) (fuel := 4000) wd_fl_ok rfl (List.forall_mem_cons.mpr ⟨kh_207_ok, (List.forall_mem_nil _)⟩) (by decide +kernel)
/- UtilityWorksModel isFine -/
def kh_209 : ct_T := (359, [(2, 805, 805, 0), (0, 1, 1, 0), (0, 0, 8, 1)], [], [], [(1, (0, 1, 1, 0), [(2, 805, 805, 0), (0, 1, 1, 0), (0, 0, 8, 1)], [], ([], [])), (1, (0, 0, 0, 0), [(2, 805, 805, 0), (0, 1, 1, 0), (0, 0, 8, 1)], [], ([], []))], [], 2, 44, 0)
theorem kh_209_ok : ct_ok wd_fl kh_209 := ct_of (ff := wd_ff) (y := (⟨"UtilityWorksModel", "isFine", "(II)Z"⟩, prog_14_method_19_code, 3, some .boolean, 12, 1, 2, 32215, 32214, 5007, 21014)) (Cs := [kh_208, kh_207]) (an := [(30, 0, ([((2, 805, 805, 0), none), ((0, 1, 1, 0), none), ((0, 0, 8, 1), none)], [(0, 0), (1, 1), (2, 2)], [], [], [], [], [], [], none), [(0, 0, 99970)])]) (ss := []) (K := 1) (fuel := 4000) wd_fl_ok rfl (List.forall_mem_cons.mpr ⟨kh_208_ok, (List.forall_mem_cons.mpr ⟨kh_207_ok, (List.forall_mem_nil _)⟩)⟩) (by decide +kernel)
/- UtilityWorksModel isOn -/
def kh_210 : ct_T := (360, [(2, 805, 805, 0), (0, 1, 1, 0), (0, 0, 8, 1)], [], [], [(1, (0, 1, 1, 0), [(2, 805, 805, 0), (0, 1, 1, 0), (0, 0, 8, 1)], [], ([], [])), (1, (0, 0, 0, 0), [(2, 805, 805, 0), (0, 1, 1, 0), (0, 0, 8, 1)], [], ([], []))], [], 2, 44, 0)
theorem kh_210_ok : ct_ok wd_fl kh_210 := ct_of (ff := wd_ff) (y := (⟨"UtilityWorksModel", "isOn", "(II)Z"⟩, prog_14_method_20_code, 3, some .boolean, 12, 1, 2, 32219, 32218, 5008, 21014)) (Cs := [kh_208, kh_207]) (an := [(30, 0, ([((2, 805, 805, 0), none), ((0, 1, 1, 0), none), ((0, 0, 8, 1), none)], [(0, 0), (1, 1), (2, 2)], [], [], [], [], [], [], none), [(0, 0, 99970)])]) (ss := []) (K := 1) (fuel := 4000) wd_fl_ok rfl (List.forall_mem_cons.mpr ⟨kh_208_ok, (List.forall_mem_cons.mpr ⟨kh_207_ok, (List.forall_mem_nil _)⟩)⟩) (by decide +kernel)
/- UtilityWorksModel leads -/
def kh_211 : ct_T := (358, [(2, 805, 805, 0), (0, 1, 1, 0), (0, 0, 8, 1)], [], [], [(1, (0, 1, 1, 0), [(2, 805, 805, 0), (0, 1, 1, 0), (0, 0, 8, 1)], [], ([], [])), (1, (0, 0, 0, 0), [(2, 805, 805, 0), (0, 1, 1, 0), (0, 0, 8, 1)], [], ([], []))], [], 3, 66, 0)
theorem kh_211_ok : ct_ok wd_fl kh_211 := ct_of (ff := wd_ff) (y := (⟨"UtilityWorksModel", "leads", "(II)Z"⟩, prog_14_method_21_code, 3, some .boolean, 12, 1, 2, 32211, 32210, 5006, 21014)) (Cs := [kh_209, kh_210]) (an := [(22, 0, ([((2, 805, 805, 0), none), ((0, 1, 1, 0), none), ((0, 0, 8, 1), none)], [(0, 0), (1, 1), (2, 2)], [], [], [], [], [], [], none), [(0, 0, 99978)])]) (ss := []) (K := 1) (fuel := 4000) wd_fl_ok rfl (List.forall_mem_cons.mpr ⟨kh_209_ok, (List.forall_mem_cons.mpr ⟨kh_210_ok, (List.forall_mem_nil _)⟩)⟩) (by decide +kernel)
/- UtilityWorksModel boundOf -/
def kh_212 : ct_T := (367, [(2, 805, 805, 0), (0, 1, 1, 0), (0, 0, 8, 1)], [], [], [(1, (0, (-2147483648), 2147483647, 1), [(2, 805, 805, 0), (0, 1, 1, 0), (0, 0, 8, 1)], [], ([], []))], [], 1, 22, 0)
theorem kh_212_ok : ct_ok wd_fl kh_212 := ct_of (ff := wd_ff) (y := (⟨"UtilityWorksModel", "boundOf", "(II)I"⟩, prog_14_method_18_code, 3, some .int, 12, 1, 2, 33005, 33004, 5011, 21014)) (Cs := [kh_207]) (an := []) (ss := []) (K := 1) (fuel := 4000) wd_fl_ok rfl (List.forall_mem_cons.mpr ⟨kh_207_ok, (List.forall_mem_nil _)⟩) (by decide +kernel)
/- UtilityWorksModel wRoom -/
def kh_213 : ct_T := (473, [(2, 805, 805, 0), (0, 0, 8, 1)], [], [], [(1, (0, (-2147483648), 2147483647, 1), [(2, 805, 805, 0), (0, 0, 8, 1)], [], ([], []))], [], 2, 44, 0)
theorem kh_213_ok : ct_ok wd_fl kh_213 := ct_of (ff := wd_ff) (y := (⟨"UtilityWorksModel", "wRoom", "(I)I"⟩, prog_14_method_117_code, 2, some .int, 12, 1, 1, 34185, 34184, 11012, 21014)) (Cs := [kh_212]) (an := []) (ss := []) (K := 1) (fuel := 4000) wd_fl_ok rfl (List.forall_mem_cons.mpr ⟨kh_212_ok, (List.forall_mem_nil _)⟩) (by decide +kernel)
/- UtilityWorksModel wOpen -/
def kh_214 : ct_T := (472, [(2, 805, 805, 0), (0, 0, 8, 1), (0, (-2147483648), 2147483647, 1)], [], [], [(1, (0, 1, 1, 0), [(2, 805, 805, 0), (0, 0, 8, 1), (0, 0, 2147483647, 1)], [], ([], [])), (1, (0, 0, 0, 0), [(2, 805, 805, 0), (0, 0, 8, 1), (0, (-2147483648), 2147483647, 1)], [], ([], []))], [], 4, 88, 0)
theorem kh_214_ok : ct_ok wd_fl kh_214 := ct_of (ff := wd_ff) (y := (⟨"UtilityWorksModel", "wOpen", "(II)Z"⟩, prog_14_method_118_code, 3, some .boolean, 12, 1, 2, 34181, 34180, 11011, 21014)) (Cs := [kh_211, kh_213, kh_low, kh_148, kh_high, kh_149]) (an := [(45, 0, ([((2, 805, 805, 0), none), ((0, 0, 8, 1), none), ((0, (-2147483648), 2147483647, 1), none)], [(0, 0), (1, 1), (2, 2)], [], [], [], [], [], [], none), [(0, 0, 99955)])]) (ss := []) (K := 1) (fuel := 4000) wd_fl_ok rfl (List.forall_mem_cons.mpr ⟨kh_211_ok, (List.forall_mem_cons.mpr ⟨kh_213_ok, (List.forall_mem_cons.mpr ⟨kh_low_ok, (List.forall_mem_cons.mpr ⟨kh_148_ok, (List.forall_mem_cons.mpr ⟨kh_high_ok, (List.forall_mem_cons.mpr ⟨kh_149_ok, (List.forall_mem_nil _)⟩)⟩)⟩)⟩)⟩)⟩) (by decide +kernel)
/- UtilityWorksModel link -/
def kh_215 : ct_T := (357, [(2, 805, 805, 0), (0, 1, 1, 0), (0, 0, 9, 1)], [], [], [(1, (0, 208, 244, 4), [(2, 805, 805, 0), (0, 1, 1, 0), (0, 0, 9, 1)], [], ([], []))], [], 0, 0, 0)
theorem kh_215_ok : ct_ok wd_fl kh_215 := ct_of (ff := wd_ff) (y := (⟨"UtilityWorksModel", "link", "(II)I"⟩, prog_14_method_16_code, 3, some .int, 12, 1, 2, 32207, 32206, 5005, 21014)) (Cs := []) (an := []) (ss := []) (K := 1) (fuel := 4000) wd_fl_ok rfl (List.forall_mem_nil _) (by decide +kernel)
/- UtilityWorksModel hasLink -/
def kh_216 : ct_T := (356, [(2, 805, 805, 0), (0, 1, 1, 0), (0, 0, 9, 1)], [], [], [(1, (0, 0, 0, 0), [(2, 805, 805, 0), (0, 1, 1, 0), (0, 0, 9, 1)], [], ([], [])), (1, (0, 1, 1, 0), [(2, 805, 805, 0), (0, 1, 1, 0), (0, 0, 9, 1)], [], ([], []))], [], 1, 22, 0)
theorem kh_216_ok : ct_ok wd_fl kh_216 := ct_of (ff := wd_ff) (y := (⟨"UtilityWorksModel", "hasLink", "(II)Z"⟩, prog_14_method_17_code, 3, some .boolean, 12, 1, 2, 32203, 32202, 5004, 21014)) (Cs := [kh_215]) (an := []) (ss := []) (K := 1) (fuel := 4000) wd_fl_ok rfl (List.forall_mem_cons.mpr ⟨kh_215_ok, (List.forall_mem_nil _)⟩) (by decide +kernel)
/- UtilityWorksModel isFine -/
def kh_217 : ct_T := (359, [(2, 805, 805, 0), (0, 1, 1, 0), (0, 0, 9, 1)], [], [], [(1, (0, 1, 1, 0), [(2, 805, 805, 0), (0, 1, 1, 0), (0, 0, 9, 1)], [], ([], [])), (1, (0, 0, 0, 0), [(2, 805, 805, 0), (0, 1, 1, 0), (0, 0, 9, 1)], [], ([], []))], [], 2, 44, 0)
theorem kh_217_ok : ct_ok wd_fl kh_217 := ct_of (ff := wd_ff) (y := (⟨"UtilityWorksModel", "isFine", "(II)Z"⟩, prog_14_method_19_code, 3, some .boolean, 12, 1, 2, 32215, 32214, 5007, 21014)) (Cs := [kh_216, kh_215]) (an := [(30, 0, ([((2, 805, 805, 0), none), ((0, 1, 1, 0), none), ((0, 0, 9, 1), none)], [(0, 0), (1, 1), (2, 2)], [], [], [], [], [], [], none), [(0, 0, 99970)])]) (ss := []) (K := 1) (fuel := 4000) wd_fl_ok rfl (List.forall_mem_cons.mpr ⟨kh_216_ok, (List.forall_mem_cons.mpr ⟨kh_215_ok, (List.forall_mem_nil _)⟩)⟩) (by decide +kernel)
/- UtilityWorksModel isOn -/
def kh_218 : ct_T := (360, [(2, 805, 805, 0), (0, 1, 1, 0), (0, 0, 9, 1)], [], [], [(1, (0, 1, 1, 0), [(2, 805, 805, 0), (0, 1, 1, 0), (0, 0, 9, 1)], [], ([], [])), (1, (0, 0, 0, 0), [(2, 805, 805, 0), (0, 1, 1, 0), (0, 0, 9, 1)], [], ([], []))], [], 2, 44, 0)
theorem kh_218_ok : ct_ok wd_fl kh_218 := ct_of (ff := wd_ff) (y := (⟨"UtilityWorksModel", "isOn", "(II)Z"⟩, prog_14_method_20_code, 3, some .boolean, 12, 1, 2, 32219, 32218, 5008, 21014)) (Cs := [kh_216, kh_215]) (an := [(30, 0, ([((2, 805, 805, 0), none), ((0, 1, 1, 0), none), ((0, 0, 9, 1), none)], [(0, 0), (1, 1), (2, 2)], [], [], [], [], [], [], none), [(0, 0, 99970)])]) (ss := []) (K := 1) (fuel := 4000) wd_fl_ok rfl (List.forall_mem_cons.mpr ⟨kh_216_ok, (List.forall_mem_cons.mpr ⟨kh_215_ok, (List.forall_mem_nil _)⟩)⟩) (by decide +kernel)
/- UtilityWorksModel leads -/
def kh_219 : ct_T := (358, [(2, 805, 805, 0), (0, 1, 1, 0), (0, 0, 9, 1)], [], [], [(1, (0, 1, 1, 0), [(2, 805, 805, 0), (0, 1, 1, 0), (0, 0, 9, 1)], [], ([], [])), (1, (0, 0, 0, 0), [(2, 805, 805, 0), (0, 1, 1, 0), (0, 0, 9, 1)], [], ([], []))], [], 3, 66, 0)
theorem kh_219_ok : ct_ok wd_fl kh_219 := ct_of (ff := wd_ff) (y := (⟨"UtilityWorksModel", "leads", "(II)Z"⟩, prog_14_method_21_code, 3, some .boolean, 12, 1, 2, 32211, 32210, 5006, 21014)) (Cs := [kh_217, kh_218]) (an := [(22, 0, ([((2, 805, 805, 0), none), ((0, 1, 1, 0), none), ((0, 0, 9, 1), none)], [(0, 0), (1, 1), (2, 2)], [], [], [], [], [], [], none), [(0, 0, 99978)])]) (ss := []) (K := 1) (fuel := 4000) wd_fl_ok rfl (List.forall_mem_cons.mpr ⟨kh_217_ok, (List.forall_mem_cons.mpr ⟨kh_218_ok, (List.forall_mem_nil _)⟩)⟩) (by decide +kernel)
/- UtilityWorksModel boundOf -/
def kh_220 : ct_T := (367, [(2, 805, 805, 0), (0, 1, 1, 0), (0, 0, 9, 1)], [], [], [(1, (0, (-2147483648), 2147483647, 1), [(2, 805, 805, 0), (0, 1, 1, 0), (0, 0, 9, 1)], [], ([], []))], [], 1, 22, 0)
theorem kh_220_ok : ct_ok wd_fl kh_220 := ct_of (ff := wd_ff) (y := (⟨"UtilityWorksModel", "boundOf", "(II)I"⟩, prog_14_method_18_code, 3, some .int, 12, 1, 2, 33005, 33004, 5011, 21014)) (Cs := [kh_215]) (an := []) (ss := []) (K := 1) (fuel := 4000) wd_fl_ok rfl (List.forall_mem_cons.mpr ⟨kh_215_ok, (List.forall_mem_nil _)⟩) (by decide +kernel)
/- UtilityWorksModel wRoom -/
def kh_221 : ct_T := (473, [(2, 805, 805, 0), (0, 0, 9, 1)], [], [], [(1, (0, (-2147483648), 2147483647, 1), [(2, 805, 805, 0), (0, 0, 9, 1)], [], ([], []))], [], 2, 44, 0)
theorem kh_221_ok : ct_ok wd_fl kh_221 := ct_of (ff := wd_ff) (y := (⟨"UtilityWorksModel", "wRoom", "(I)I"⟩, prog_14_method_117_code, 2, some .int, 12, 1, 1, 34185, 34184, 11012, 21014)) (Cs := [kh_220]) (an := []) (ss := []) (K := 1) (fuel := 4000) wd_fl_ok rfl (List.forall_mem_cons.mpr ⟨kh_220_ok, (List.forall_mem_nil _)⟩) (by decide +kernel)
/- UtilityWorksModel wOpen -/
def kh_222 : ct_T := (472, [(2, 805, 805, 0), (0, 0, 9, 1), (0, (-2147483648), 2147483647, 1)], [], [], [(1, (0, 1, 1, 0), [(2, 805, 805, 0), (0, 0, 9, 1), (0, 0, 2147483647, 1)], [], ([], [])), (1, (0, 0, 0, 0), [(2, 805, 805, 0), (0, 0, 9, 1), (0, (-2147483648), 2147483647, 1)], [], ([], []))], [], 4, 88, 0)
theorem kh_222_ok : ct_ok wd_fl kh_222 := ct_of (ff := wd_ff) (y := (⟨"UtilityWorksModel", "wOpen", "(II)Z"⟩, prog_14_method_118_code, 3, some .boolean, 12, 1, 2, 34181, 34180, 11011, 21014)) (Cs := [kh_219, kh_221, kh_low, kh_148, kh_high, kh_149]) (an := [(45, 0, ([((2, 805, 805, 0), none), ((0, 0, 9, 1), none), ((0, (-2147483648), 2147483647, 1), none)], [(0, 0), (1, 1), (2, 2)], [], [], [], [], [], [], none), [(0, 0, 99955)])]) (ss := []) (K := 1) (fuel := 4000) wd_fl_ok rfl (List.forall_mem_cons.mpr ⟨kh_219_ok, (List.forall_mem_cons.mpr ⟨kh_221_ok, (List.forall_mem_cons.mpr ⟨kh_low_ok, (List.forall_mem_cons.mpr ⟨kh_148_ok, (List.forall_mem_cons.mpr ⟨kh_high_ok, (List.forall_mem_cons.mpr ⟨kh_149_ok, (List.forall_mem_nil _)⟩)⟩)⟩)⟩)⟩)⟩) (by decide +kernel)
/- UtilityWorksModel link -/
def kh_223 : ct_T := (357, [(2, 805, 805, 0), (0, 1, 1, 0), (0, 0, 10, 1)], [], [], [(1, (0, 208, 248, 4), [(2, 805, 805, 0), (0, 1, 1, 0), (0, 0, 10, 1)], [], ([], []))], [], 0, 0, 0)
theorem kh_223_ok : ct_ok wd_fl kh_223 := ct_of (ff := wd_ff) (y := (⟨"UtilityWorksModel", "link", "(II)I"⟩, prog_14_method_16_code, 3, some .int, 12, 1, 2, 32207, 32206, 5005, 21014)) (Cs := []) (an := []) (ss := []) (K := 1) (fuel := 4000) wd_fl_ok rfl (List.forall_mem_nil _) (by decide +kernel)
/- UtilityWorksModel hasLink -/
def kh_224 : ct_T := (356, [(2, 805, 805, 0), (0, 1, 1, 0), (0, 0, 10, 1)], [], [], [(1, (0, 0, 0, 0), [(2, 805, 805, 0), (0, 1, 1, 0), (0, 0, 10, 1)], [], ([], [])), (1, (0, 1, 1, 0), [(2, 805, 805, 0), (0, 1, 1, 0), (0, 0, 10, 1)], [], ([], []))], [], 1, 22, 0)
theorem kh_224_ok : ct_ok wd_fl kh_224 := ct_of (ff := wd_ff) (y := (⟨"UtilityWorksModel", "hasLink", "(II)Z"⟩, prog_14_method_17_code, 3, some .boolean, 12, 1, 2, 32203, 32202, 5004, 21014)) (Cs := [kh_223]) (an := []) (ss := []) (K := 1) (fuel := 4000) wd_fl_ok rfl (List.forall_mem_cons.mpr ⟨kh_223_ok, (List.forall_mem_nil _)⟩) (by decide +kernel)
/- UtilityWorksModel isFine -/
def kh_225 : ct_T := (359, [(2, 805, 805, 0), (0, 1, 1, 0), (0, 0, 10, 1)], [], [], [(1, (0, 1, 1, 0), [(2, 805, 805, 0), (0, 1, 1, 0), (0, 0, 10, 1)], [], ([], [])), (1, (0, 0, 0, 0), [(2, 805, 805, 0), (0, 1, 1, 0), (0, 0, 10, 1)], [], ([], []))], [], 2, 44, 0)
theorem kh_225_ok : ct_ok wd_fl kh_225 := ct_of (ff := wd_ff) (y := (⟨"UtilityWorksModel", "isFine", "(II)Z"⟩, prog_14_method_19_code, 3, some .boolean, 12, 1, 2, 32215, 32214, 5007, 21014)) (Cs := [kh_224, kh_223]) (an := [(30, 0, ([((2, 805, 805, 0), none), ((0, 1, 1, 0), none), ((0, 0, 10, 1), none)], [(0, 0), (1, 1), (2, 2)], [], [], [], [], [], [], none), [(0, 0, 99970)])]) (ss := []) (K := 1) (fuel := 4000) wd_fl_ok rfl (List.forall_mem_cons.mpr ⟨kh_224_ok, (List.forall_mem_cons.mpr ⟨kh_223_ok, (List.forall_mem_nil _)⟩)⟩) (by decide +kernel)
/- UtilityWorksModel isOn -/
def kh_226 : ct_T := (360, [(2, 805, 805, 0), (0, 1, 1, 0), (0, 0, 10, 1)], [], [], [(1, (0, 1, 1, 0), [(2, 805, 805, 0), (0, 1, 1, 0), (0, 0, 10, 1)], [], ([], [])), (1, (0, 0, 0, 0), [(2, 805, 805, 0), (0, 1, 1, 0), (0, 0, 10, 1)], [], ([], []))], [], 2, 44, 0)
theorem kh_226_ok : ct_ok wd_fl kh_226 := ct_of (ff := wd_ff) (y := (⟨"UtilityWorksModel", "isOn", "(II)Z"⟩, prog_14_method_20_code, 3, some .boolean, 12, 1, 2, 32219, 32218, 5008, 21014)) (Cs := [kh_224, kh_223]) (an := [(30, 0, ([((2, 805, 805, 0), none), ((0, 1, 1, 0), none), ((0, 0, 10, 1), none)], [(0, 0), (1, 1), (2, 2)], [], [], [], [], [], [], none), [(0, 0, 99970)])]) (ss := []) (K := 1) (fuel := 4000) wd_fl_ok rfl (List.forall_mem_cons.mpr ⟨kh_224_ok, (List.forall_mem_cons.mpr ⟨kh_223_ok, (List.forall_mem_nil _)⟩)⟩) (by decide +kernel)
/- UtilityWorksModel leads -/
def kh_227 : ct_T := (358, [(2, 805, 805, 0), (0, 1, 1, 0), (0, 0, 10, 1)], [], [], [(1, (0, 1, 1, 0), [(2, 805, 805, 0), (0, 1, 1, 0), (0, 0, 10, 1)], [], ([], [])), (1, (0, 0, 0, 0), [(2, 805, 805, 0), (0, 1, 1, 0), (0, 0, 10, 1)], [], ([], []))], [], 3, 66, 0)
theorem kh_227_ok : ct_ok wd_fl kh_227 := ct_of (ff := wd_ff) (y := (⟨"UtilityWorksModel", "leads", "(II)Z"⟩, prog_14_method_21_code, 3, some .boolean, 12, 1, 2, 32211, 32210, 5006, 21014)) (Cs := [kh_225, kh_226]) (an := [(22, 0, ([((2, 805, 805, 0), none), ((0, 1, 1, 0), none), ((0, 0, 10, 1), none)], [(0, 0), (1, 1), (2, 2)], [], [], [], [], [], [], none), [(0, 0, 99978)])]) (ss := []) (K := 1) (fuel := 4000) wd_fl_ok rfl (List.forall_mem_cons.mpr ⟨kh_225_ok, (List.forall_mem_cons.mpr ⟨kh_226_ok, (List.forall_mem_nil _)⟩)⟩) (by decide +kernel)
/- UtilityWorksModel boundOf -/
def kh_228 : ct_T := (367, [(2, 805, 805, 0), (0, 1, 1, 0), (0, 0, 10, 1)], [], [], [(1, (0, (-2147483648), 2147483647, 1), [(2, 805, 805, 0), (0, 1, 1, 0), (0, 0, 10, 1)], [], ([], []))], [], 1, 22, 0)
theorem kh_228_ok : ct_ok wd_fl kh_228 := ct_of (ff := wd_ff) (y := (⟨"UtilityWorksModel", "boundOf", "(II)I"⟩, prog_14_method_18_code, 3, some .int, 12, 1, 2, 33005, 33004, 5011, 21014)) (Cs := [kh_223]) (an := []) (ss := []) (K := 1) (fuel := 4000) wd_fl_ok rfl (List.forall_mem_cons.mpr ⟨kh_223_ok, (List.forall_mem_nil _)⟩) (by decide +kernel)
/- UtilityWorksModel wRoom -/
def kh_229 : ct_T := (473, [(2, 805, 805, 0), (0, 0, 10, 1)], [], [], [(1, (0, (-2147483648), 2147483647, 1), [(2, 805, 805, 0), (0, 0, 10, 1)], [], ([], []))], [], 2, 44, 0)
theorem kh_229_ok : ct_ok wd_fl kh_229 := ct_of (ff := wd_ff) (y := (⟨"UtilityWorksModel", "wRoom", "(I)I"⟩, prog_14_method_117_code, 2, some .int, 12, 1, 1, 34185, 34184, 11012, 21014)) (Cs := [kh_228]) (an := []) (ss := []) (K := 1) (fuel := 4000) wd_fl_ok rfl (List.forall_mem_cons.mpr ⟨kh_228_ok, (List.forall_mem_nil _)⟩) (by decide +kernel)
/- UtilityWorksModel wOpen -/
def kh_230 : ct_T := (472, [(2, 805, 805, 0), (0, 0, 10, 1), (0, (-2147483648), 2147483647, 1)], [], [], [(1, (0, 1, 1, 0), [(2, 805, 805, 0), (0, 0, 10, 1), (0, 0, 2147483647, 1)], [], ([], [])), (1, (0, 0, 0, 0), [(2, 805, 805, 0), (0, 0, 10, 1), (0, (-2147483648), 2147483647, 1)], [], ([], []))], [], 4, 88, 0)
theorem kh_230_ok : ct_ok wd_fl kh_230 := ct_of (ff := wd_ff) (y := (⟨"UtilityWorksModel", "wOpen", "(II)Z"⟩, prog_14_method_118_code, 3, some .boolean, 12, 1, 2, 34181, 34180, 11011, 21014)) (Cs := [kh_227, kh_229, kh_low, kh_148, kh_high, kh_149]) (an := [(45, 0, ([((2, 805, 805, 0), none), ((0, 0, 10, 1), none), ((0, (-2147483648), 2147483647, 1), none)], [(0, 0), (1, 1), (2, 2)], [], [], [], [], [], [], none), [(0, 0, 99955)])]) (ss := []) (K := 1) (fuel := 4000) wd_fl_ok rfl (List.forall_mem_cons.mpr ⟨kh_227_ok, (List.forall_mem_cons.mpr ⟨kh_229_ok, (List.forall_mem_cons.mpr ⟨kh_low_ok, (List.forall_mem_cons.mpr ⟨kh_148_ok, (List.forall_mem_cons.mpr ⟨kh_high_ok, (List.forall_mem_cons.mpr ⟨kh_149_ok, (List.forall_mem_nil _)⟩)⟩)⟩)⟩)⟩)⟩) (by decide +kernel)
/- UtilityWorksModel link -/
def kh_231 : ct_T := (357, [(2, 805, 805, 0), (0, 1, 1, 0), (0, 0, 11, 1)], [], [], [(1, (0, 208, 252, 4), [(2, 805, 805, 0), (0, 1, 1, 0), (0, 0, 11, 1)], [], ([], []))], [], 0, 0, 0)
theorem kh_231_ok : ct_ok wd_fl kh_231 := ct_of (ff := wd_ff) (y := (⟨"UtilityWorksModel", "link", "(II)I"⟩, prog_14_method_16_code, 3, some .int, 12, 1, 2, 32207, 32206, 5005, 21014)) (Cs := []) (an := []) (ss := []) (K := 1) (fuel := 4000) wd_fl_ok rfl (List.forall_mem_nil _) (by decide +kernel)
/- UtilityWorksModel hasLink -/
def kh_232 : ct_T := (356, [(2, 805, 805, 0), (0, 1, 1, 0), (0, 0, 11, 1)], [], [], [(1, (0, 0, 0, 0), [(2, 805, 805, 0), (0, 1, 1, 0), (0, 0, 11, 1)], [], ([], [])), (1, (0, 1, 1, 0), [(2, 805, 805, 0), (0, 1, 1, 0), (0, 0, 11, 1)], [], ([], []))], [], 1, 22, 0)
theorem kh_232_ok : ct_ok wd_fl kh_232 := ct_of (ff := wd_ff) (y := (⟨"UtilityWorksModel", "hasLink", "(II)Z"⟩, prog_14_method_17_code, 3, some .boolean, 12, 1, 2, 32203, 32202, 5004, 21014)) (Cs := [kh_231]) (an := []) (ss := []) (K := 1) (fuel := 4000) wd_fl_ok rfl (List.forall_mem_cons.mpr ⟨kh_231_ok, (List.forall_mem_nil _)⟩) (by decide +kernel)
/- UtilityWorksModel isFine -/
def kh_233 : ct_T := (359, [(2, 805, 805, 0), (0, 1, 1, 0), (0, 0, 11, 1)], [], [], [(1, (0, 1, 1, 0), [(2, 805, 805, 0), (0, 1, 1, 0), (0, 0, 11, 1)], [], ([], [])), (1, (0, 0, 0, 0), [(2, 805, 805, 0), (0, 1, 1, 0), (0, 0, 11, 1)], [], ([], []))], [], 2, 44, 0)
theorem kh_233_ok : ct_ok wd_fl kh_233 := ct_of (ff := wd_ff) (y := (⟨"UtilityWorksModel", "isFine", "(II)Z"⟩, prog_14_method_19_code, 3, some .boolean, 12, 1, 2, 32215, 32214, 5007, 21014)) (Cs := [kh_232, kh_231]) (an := [(30, 0, ([((2, 805, 805, 0), none), ((0, 1, 1, 0), none), ((0, 0, 11, 1), none)], [(0, 0), (1, 1), (2, 2)], [], [], [], [], [], [], none), [(0, 0, 99970)])]) (ss := []) (K := 1) (fuel := 4000) wd_fl_ok rfl (List.forall_mem_cons.mpr ⟨kh_232_ok, (List.forall_mem_cons.mpr ⟨kh_231_ok, (List.forall_mem_nil _)⟩)⟩) (by decide +kernel)
/- UtilityWorksModel isOn -/
def kh_234 : ct_T := (360, [(2, 805, 805, 0), (0, 1, 1, 0), (0, 0, 11, 1)], [], [], [(1, (0, 1, 1, 0), [(2, 805, 805, 0), (0, 1, 1, 0), (0, 0, 11, 1)], [], ([], [])), (1, (0, 0, 0, 0), [(2, 805, 805, 0), (0, 1, 1, 0), (0, 0, 11, 1)], [], ([], []))], [], 2, 44, 0)
theorem kh_234_ok : ct_ok wd_fl kh_234 := ct_of (ff := wd_ff) (y := (⟨"UtilityWorksModel", "isOn", "(II)Z"⟩, prog_14_method_20_code, 3, some .boolean, 12, 1, 2, 32219, 32218, 5008, 21014)) (Cs := [kh_232, kh_231]) (an := [(30, 0, ([((2, 805, 805, 0), none), ((0, 1, 1, 0), none), ((0, 0, 11, 1), none)], [(0, 0), (1, 1), (2, 2)], [], [], [], [], [], [], none), [(0, 0, 99970)])]) (ss := []) (K := 1) (fuel := 4000) wd_fl_ok rfl (List.forall_mem_cons.mpr ⟨kh_232_ok, (List.forall_mem_cons.mpr ⟨kh_231_ok, (List.forall_mem_nil _)⟩)⟩) (by decide +kernel)
/- UtilityWorksModel leads -/
def kh_235 : ct_T := (358, [(2, 805, 805, 0), (0, 1, 1, 0), (0, 0, 11, 1)], [], [], [(1, (0, 1, 1, 0), [(2, 805, 805, 0), (0, 1, 1, 0), (0, 0, 11, 1)], [], ([], [])), (1, (0, 0, 0, 0), [(2, 805, 805, 0), (0, 1, 1, 0), (0, 0, 11, 1)], [], ([], []))], [], 3, 66, 0)
theorem kh_235_ok : ct_ok wd_fl kh_235 := ct_of (ff := wd_ff) (y := (⟨"UtilityWorksModel", "leads", "(II)Z"⟩, prog_14_method_21_code, 3, some .boolean, 12, 1, 2, 32211, 32210, 5006, 21014)) (Cs := [kh_233, kh_234]) (an := [(22, 0, ([((2, 805, 805, 0), none), ((0, 1, 1, 0), none), ((0, 0, 11, 1), none)], [(0, 0), (1, 1), (2, 2)], [], [], [], [], [], [], none), [(0, 0, 99978)])]) (ss := []) (K := 1) (fuel := 4000) wd_fl_ok rfl (List.forall_mem_cons.mpr ⟨kh_233_ok, (List.forall_mem_cons.mpr ⟨kh_234_ok, (List.forall_mem_nil _)⟩)⟩) (by decide +kernel)
/- UtilityWorksModel boundOf -/
def kh_236 : ct_T := (367, [(2, 805, 805, 0), (0, 1, 1, 0), (0, 0, 11, 1)], [], [], [(1, (0, (-2147483648), 2147483647, 1), [(2, 805, 805, 0), (0, 1, 1, 0), (0, 0, 11, 1)], [], ([], []))], [], 1, 22, 0)
theorem kh_236_ok : ct_ok wd_fl kh_236 := ct_of (ff := wd_ff) (y := (⟨"UtilityWorksModel", "boundOf", "(II)I"⟩, prog_14_method_18_code, 3, some .int, 12, 1, 2, 33005, 33004, 5011, 21014)) (Cs := [kh_231]) (an := []) (ss := []) (K := 1) (fuel := 4000) wd_fl_ok rfl (List.forall_mem_cons.mpr ⟨kh_231_ok, (List.forall_mem_nil _)⟩) (by decide +kernel)
/- UtilityWorksModel wRoom -/
def kh_237 : ct_T := (473, [(2, 805, 805, 0), (0, 0, 11, 1)], [], [], [(1, (0, (-2147483648), 2147483647, 1), [(2, 805, 805, 0), (0, 0, 11, 1)], [], ([], []))], [], 2, 44, 0)
theorem kh_237_ok : ct_ok wd_fl kh_237 := ct_of (ff := wd_ff) (y := (⟨"UtilityWorksModel", "wRoom", "(I)I"⟩, prog_14_method_117_code, 2, some .int, 12, 1, 1, 34185, 34184, 11012, 21014)) (Cs := [kh_236]) (an := []) (ss := []) (K := 1) (fuel := 4000) wd_fl_ok rfl (List.forall_mem_cons.mpr ⟨kh_236_ok, (List.forall_mem_nil _)⟩) (by decide +kernel)
/- UtilityWorksModel wOpen -/
def kh_238 : ct_T := (472, [(2, 805, 805, 0), (0, 0, 11, 1), (0, (-2147483648), 2147483647, 1)], [], [], [(1, (0, 1, 1, 0), [(2, 805, 805, 0), (0, 0, 11, 1), (0, 0, 2147483647, 1)], [], ([], [])), (1, (0, 0, 0, 0), [(2, 805, 805, 0), (0, 0, 11, 1), (0, (-2147483648), 2147483647, 1)], [], ([], []))], [], 4, 88, 0)
theorem kh_238_ok : ct_ok wd_fl kh_238 := ct_of (ff := wd_ff) (y := (⟨"UtilityWorksModel", "wOpen", "(II)Z"⟩, prog_14_method_118_code, 3, some .boolean, 12, 1, 2, 34181, 34180, 11011, 21014)) (Cs := [kh_235, kh_237, kh_low, kh_148, kh_high, kh_149]) (an := [(45, 0, ([((2, 805, 805, 0), none), ((0, 0, 11, 1), none), ((0, (-2147483648), 2147483647, 1), none)], [(0, 0), (1, 1), (2, 2)], [], [], [], [], [], [], none), [(0, 0, 99955)])]) (ss := []) (K := 1) (fuel := 4000) wd_fl_ok rfl (List.forall_mem_cons.mpr ⟨kh_235_ok, (List.forall_mem_cons.mpr ⟨kh_237_ok, (List.forall_mem_cons.mpr ⟨kh_low_ok, (List.forall_mem_cons.mpr ⟨kh_148_ok, (List.forall_mem_cons.mpr ⟨kh_high_ok, (List.forall_mem_cons.mpr ⟨kh_149_ok, (List.forall_mem_nil _)⟩)⟩)⟩)⟩)⟩)⟩) (by decide +kernel)
/- UtilityWorksModel link -/
def kh_239 : ct_T := (357, [(2, 805, 805, 0), (0, 1, 1, 0), (0, 0, 12, 1)], [], [], [(1, (0, 208, 256, 4), [(2, 805, 805, 0), (0, 1, 1, 0), (0, 0, 12, 1)], [], ([], []))], [], 0, 0, 0)
theorem kh_239_ok : ct_ok wd_fl kh_239 := ct_of (ff := wd_ff) (y := (⟨"UtilityWorksModel", "link", "(II)I"⟩, prog_14_method_16_code, 3, some .int, 12, 1, 2, 32207, 32206, 5005, 21014)) (Cs := []) (an := []) (ss := []) (K := 1) (fuel := 4000) wd_fl_ok rfl (List.forall_mem_nil _) (by decide +kernel)
/- UtilityWorksModel hasLink -/
def kh_240 : ct_T := (356, [(2, 805, 805, 0), (0, 1, 1, 0), (0, 0, 12, 1)], [], [], [(1, (0, 0, 0, 0), [(2, 805, 805, 0), (0, 1, 1, 0), (0, 0, 12, 1)], [], ([], [])), (1, (0, 1, 1, 0), [(2, 805, 805, 0), (0, 1, 1, 0), (0, 0, 12, 1)], [], ([], []))], [], 1, 22, 0)
theorem kh_240_ok : ct_ok wd_fl kh_240 := ct_of (ff := wd_ff) (y := (⟨"UtilityWorksModel", "hasLink", "(II)Z"⟩, prog_14_method_17_code, 3, some .boolean, 12, 1, 2, 32203, 32202, 5004, 21014)) (Cs := [kh_239]) (an := []) (ss := []) (K := 1) (fuel := 4000) wd_fl_ok rfl (List.forall_mem_cons.mpr ⟨kh_239_ok, (List.forall_mem_nil _)⟩) (by decide +kernel)
/- UtilityWorksModel isFine -/
def kh_241 : ct_T := (359, [(2, 805, 805, 0), (0, 1, 1, 0), (0, 0, 12, 1)], [], [], [(1, (0, 1, 1, 0), [(2, 805, 805, 0), (0, 1, 1, 0), (0, 0, 12, 1)], [], ([], [])), (1, (0, 0, 0, 0), [(2, 805, 805, 0), (0, 1, 1, 0), (0, 0, 12, 1)], [], ([], []))], [], 2, 44, 0)
theorem kh_241_ok : ct_ok wd_fl kh_241 := ct_of (ff := wd_ff) (y := (⟨"UtilityWorksModel", "isFine", "(II)Z"⟩, prog_14_method_19_code, 3, some .boolean, 12, 1, 2, 32215, 32214, 5007, 21014)) (Cs := [kh_240, kh_239]) (an := [(30, 0, ([((2, 805, 805, 0), none), ((0, 1, 1, 0), none), ((0, 0, 12, 1), none)], [(0, 0), (1, 1), (2, 2)], [], [], [], [], [], [], none), [(0, 0, 99970)])]) (ss := []) (K := 1) (fuel := 4000) wd_fl_ok rfl (List.forall_mem_cons.mpr ⟨kh_240_ok, (List.forall_mem_cons.mpr ⟨kh_239_ok, (List.forall_mem_nil _)⟩)⟩) (by decide +kernel)
/- UtilityWorksModel isOn -/
def kh_242 : ct_T := (360, [(2, 805, 805, 0), (0, 1, 1, 0), (0, 0, 12, 1)], [], [], [(1, (0, 1, 1, 0), [(2, 805, 805, 0), (0, 1, 1, 0), (0, 0, 12, 1)], [], ([], [])), (1, (0, 0, 0, 0), [(2, 805, 805, 0), (0, 1, 1, 0), (0, 0, 12, 1)], [], ([], []))], [], 2, 44, 0)
theorem kh_242_ok : ct_ok wd_fl kh_242 := ct_of (ff := wd_ff) (y := (⟨"UtilityWorksModel", "isOn", "(II)Z"⟩, prog_14_method_20_code, 3, some .boolean, 12, 1, 2, 32219, 32218, 5008, 21014)) (Cs := [kh_240, kh_239]) (an := [(30, 0, ([((2, 805, 805, 0), none), ((0, 1, 1, 0), none), ((0, 0, 12, 1), none)], [(0, 0), (1, 1), (2, 2)], [], [], [], [], [], [], none), [(0, 0, 99970)])]) (ss := []) (K := 1) (fuel := 4000) wd_fl_ok rfl (List.forall_mem_cons.mpr ⟨kh_240_ok, (List.forall_mem_cons.mpr ⟨kh_239_ok, (List.forall_mem_nil _)⟩)⟩) (by decide +kernel)
/- UtilityWorksModel leads -/
def kh_243 : ct_T := (358, [(2, 805, 805, 0), (0, 1, 1, 0), (0, 0, 12, 1)], [], [], [(1, (0, 1, 1, 0), [(2, 805, 805, 0), (0, 1, 1, 0), (0, 0, 12, 1)], [], ([], [])), (1, (0, 0, 0, 0), [(2, 805, 805, 0), (0, 1, 1, 0), (0, 0, 12, 1)], [], ([], []))], [], 3, 66, 0)
theorem kh_243_ok : ct_ok wd_fl kh_243 := ct_of (ff := wd_ff) (y := (⟨"UtilityWorksModel", "leads", "(II)Z"⟩, prog_14_method_21_code, 3, some .boolean, 12, 1, 2, 32211, 32210, 5006, 21014)) (Cs := [kh_241, kh_242]) (an := [(22, 0, ([((2, 805, 805, 0), none), ((0, 1, 1, 0), none), ((0, 0, 12, 1), none)], [(0, 0), (1, 1), (2, 2)], [], [], [], [], [], [], none), [(0, 0, 99978)])]) (ss := []) (K := 1) (fuel := 4000) wd_fl_ok rfl (List.forall_mem_cons.mpr ⟨kh_241_ok, (List.forall_mem_cons.mpr ⟨kh_242_ok, (List.forall_mem_nil _)⟩)⟩) (by decide +kernel)
/- UtilityWorksModel boundOf -/
def kh_244 : ct_T := (367, [(2, 805, 805, 0), (0, 1, 1, 0), (0, 0, 12, 1)], [], [], [(1, (0, (-2147483648), 2147483647, 1), [(2, 805, 805, 0), (0, 1, 1, 0), (0, 0, 12, 1)], [], ([], []))], [], 1, 22, 0)
theorem kh_244_ok : ct_ok wd_fl kh_244 := ct_of (ff := wd_ff) (y := (⟨"UtilityWorksModel", "boundOf", "(II)I"⟩, prog_14_method_18_code, 3, some .int, 12, 1, 2, 33005, 33004, 5011, 21014)) (Cs := [kh_239]) (an := []) (ss := []) (K := 1) (fuel := 4000) wd_fl_ok rfl (List.forall_mem_cons.mpr ⟨kh_239_ok, (List.forall_mem_nil _)⟩) (by decide +kernel)
/- UtilityWorksModel wRoom -/
def kh_245 : ct_T := (473, [(2, 805, 805, 0), (0, 0, 12, 1)], [], [], [(1, (0, (-2147483648), 2147483647, 1), [(2, 805, 805, 0), (0, 0, 12, 1)], [], ([], []))], [], 2, 44, 0)
theorem kh_245_ok : ct_ok wd_fl kh_245 := ct_of (ff := wd_ff) (y := (⟨"UtilityWorksModel", "wRoom", "(I)I"⟩, prog_14_method_117_code, 2, some .int, 12, 1, 1, 34185, 34184, 11012, 21014)) (Cs := [kh_244]) (an := []) (ss := []) (K := 1) (fuel := 4000) wd_fl_ok rfl (List.forall_mem_cons.mpr ⟨kh_244_ok, (List.forall_mem_nil _)⟩) (by decide +kernel)
/- UtilityWorksModel wOpen -/
def kh_246 : ct_T := (472, [(2, 805, 805, 0), (0, 0, 12, 1), (0, (-2147483648), 2147483647, 1)], [], [], [(1, (0, 1, 1, 0), [(2, 805, 805, 0), (0, 0, 12, 1), (0, 0, 2147483647, 1)], [], ([], [])), (1, (0, 0, 0, 0), [(2, 805, 805, 0), (0, 0, 12, 1), (0, (-2147483648), 2147483647, 1)], [], ([], []))], [], 4, 88, 0)
theorem kh_246_ok : ct_ok wd_fl kh_246 := ct_of (ff := wd_ff) (y := (⟨"UtilityWorksModel", "wOpen", "(II)Z"⟩, prog_14_method_118_code, 3, some .boolean, 12, 1, 2, 34181, 34180, 11011, 21014)) (Cs := [kh_243, kh_245, kh_low, kh_148, kh_high, kh_149]) (an := [(45, 0, ([((2, 805, 805, 0), none), ((0, 0, 12, 1), none), ((0, (-2147483648), 2147483647, 1), none)], [(0, 0), (1, 1), (2, 2)], [], [], [], [], [], [], none), [(0, 0, 99955)])]) (ss := []) (K := 1) (fuel := 4000) wd_fl_ok rfl (List.forall_mem_cons.mpr ⟨kh_243_ok, (List.forall_mem_cons.mpr ⟨kh_245_ok, (List.forall_mem_cons.mpr ⟨kh_low_ok, (List.forall_mem_cons.mpr ⟨kh_148_ok, (List.forall_mem_cons.mpr ⟨kh_high_ok, (List.forall_mem_cons.mpr ⟨kh_149_ok, (List.forall_mem_nil _)⟩)⟩)⟩)⟩)⟩)⟩) (by decide +kernel)
/- UtilityWorksModel link -/
def kh_247 : ct_T := (357, [(2, 805, 805, 0), (0, 1, 1, 0), (0, 0, 16, 1)], [], [], [(1, (0, 208, 272, 4), [(2, 805, 805, 0), (0, 1, 1, 0), (0, 0, 16, 1)], [], ([], []))], [], 0, 0, 0)
theorem kh_247_ok : ct_ok wd_fl kh_247 := ct_of (ff := wd_ff) (y := (⟨"UtilityWorksModel", "link", "(II)I"⟩, prog_14_method_16_code, 3, some .int, 12, 1, 2, 32207, 32206, 5005, 21014)) (Cs := []) (an := []) (ss := []) (K := 1) (fuel := 4000) wd_fl_ok rfl (List.forall_mem_nil _) (by decide +kernel)
/- UtilityWorksModel hasLink -/
def kh_248 : ct_T := (356, [(2, 805, 805, 0), (0, 1, 1, 0), (0, 0, 16, 1)], [], [], [(1, (0, 0, 0, 0), [(2, 805, 805, 0), (0, 1, 1, 0), (0, 0, 16, 1)], [], ([], [])), (1, (0, 1, 1, 0), [(2, 805, 805, 0), (0, 1, 1, 0), (0, 0, 16, 1)], [], ([], []))], [], 1, 22, 0)
theorem kh_248_ok : ct_ok wd_fl kh_248 := ct_of (ff := wd_ff) (y := (⟨"UtilityWorksModel", "hasLink", "(II)Z"⟩, prog_14_method_17_code, 3, some .boolean, 12, 1, 2, 32203, 32202, 5004, 21014)) (Cs := [kh_247]) (an := []) (ss := []) (K := 1) (fuel := 4000) wd_fl_ok rfl (List.forall_mem_cons.mpr ⟨kh_247_ok, (List.forall_mem_nil _)⟩) (by decide +kernel)
/- UtilityWorksModel isFine -/
def kh_249 : ct_T := (359, [(2, 805, 805, 0), (0, 1, 1, 0), (0, 0, 16, 1)], [], [], [(1, (0, 1, 1, 0), [(2, 805, 805, 0), (0, 1, 1, 0), (0, 0, 16, 1)], [], ([], [])), (1, (0, 0, 0, 0), [(2, 805, 805, 0), (0, 1, 1, 0), (0, 0, 16, 1)], [], ([], []))], [], 2, 44, 0)
theorem kh_249_ok : ct_ok wd_fl kh_249 := ct_of (ff := wd_ff) (y := (⟨"UtilityWorksModel", "isFine", "(II)Z"⟩, prog_14_method_19_code, 3, some .boolean, 12, 1, 2, 32215, 32214, 5007, 21014)) (Cs := [kh_248, kh_247]) (an := [(30, 0, ([((2, 805, 805, 0), none), ((0, 1, 1, 0), none), ((0, 0, 16, 1), none)], [(0, 0), (1, 1), (2, 2)], [], [], [], [], [], [], none), [(0, 0, 99970)])]) (ss := []) (K := 1) (fuel := 4000) wd_fl_ok rfl (List.forall_mem_cons.mpr ⟨kh_248_ok, (List.forall_mem_cons.mpr ⟨kh_247_ok, (List.forall_mem_nil _)⟩)⟩) (by decide +kernel)
/- UtilityWorksModel isOn -/
def kh_250 : ct_T := (360, [(2, 805, 805, 0), (0, 1, 1, 0), (0, 0, 16, 1)], [], [], [(1, (0, 1, 1, 0), [(2, 805, 805, 0), (0, 1, 1, 0), (0, 0, 16, 1)], [], ([], [])), (1, (0, 0, 0, 0), [(2, 805, 805, 0), (0, 1, 1, 0), (0, 0, 16, 1)], [], ([], []))], [], 2, 44, 0)
theorem kh_250_ok : ct_ok wd_fl kh_250 := ct_of (ff := wd_ff) (y := (⟨"UtilityWorksModel", "isOn", "(II)Z"⟩, prog_14_method_20_code, 3, some .boolean, 12, 1, 2, 32219, 32218, 5008, 21014)) (Cs := [kh_248, kh_247]) (an := [(30, 0, ([((2, 805, 805, 0), none), ((0, 1, 1, 0), none), ((0, 0, 16, 1), none)], [(0, 0), (1, 1), (2, 2)], [], [], [], [], [], [], none), [(0, 0, 99970)])]) (ss := []) (K := 1) (fuel := 4000) wd_fl_ok rfl (List.forall_mem_cons.mpr ⟨kh_248_ok, (List.forall_mem_cons.mpr ⟨kh_247_ok, (List.forall_mem_nil _)⟩)⟩) (by decide +kernel)
/- UtilityWorksModel leads -/
def kh_251 : ct_T := (358, [(2, 805, 805, 0), (0, 1, 1, 0), (0, 0, 16, 1)], [], [], [(1, (0, 1, 1, 0), [(2, 805, 805, 0), (0, 1, 1, 0), (0, 0, 16, 1)], [], ([], [])), (1, (0, 0, 0, 0), [(2, 805, 805, 0), (0, 1, 1, 0), (0, 0, 16, 1)], [], ([], []))], [], 3, 66, 0)
theorem kh_251_ok : ct_ok wd_fl kh_251 := ct_of (ff := wd_ff) (y := (⟨"UtilityWorksModel", "leads", "(II)Z"⟩, prog_14_method_21_code, 3, some .boolean, 12, 1, 2, 32211, 32210, 5006, 21014)) (Cs := [kh_249, kh_250]) (an := [(22, 0, ([((2, 805, 805, 0), none), ((0, 1, 1, 0), none), ((0, 0, 16, 1), none)], [(0, 0), (1, 1), (2, 2)], [], [], [], [], [], [], none), [(0, 0, 99978)])]) (ss := []) (K := 1) (fuel := 4000) wd_fl_ok rfl (List.forall_mem_cons.mpr ⟨kh_249_ok, (List.forall_mem_cons.mpr ⟨kh_250_ok, (List.forall_mem_nil _)⟩)⟩) (by decide +kernel)
/- UtilityWorksModel boundOf -/
def kh_252 : ct_T := (367, [(2, 805, 805, 0), (0, 1, 1, 0), (0, 0, 16, 1)], [], [], [(1, (0, (-2147483648), 2147483647, 1), [(2, 805, 805, 0), (0, 1, 1, 0), (0, 0, 16, 1)], [], ([], []))], [], 1, 22, 0)
theorem kh_252_ok : ct_ok wd_fl kh_252 := ct_of (ff := wd_ff) (y := (⟨"UtilityWorksModel", "boundOf", "(II)I"⟩, prog_14_method_18_code, 3, some .int, 12, 1, 2, 33005, 33004, 5011, 21014)) (Cs := [kh_247]) (an := []) (ss := []) (K := 1) (fuel := 4000) wd_fl_ok rfl (List.forall_mem_cons.mpr ⟨kh_247_ok, (List.forall_mem_nil _)⟩) (by decide +kernel)
/- UtilityWorksModel wRoom -/
def kh_253 : ct_T := (473, [(2, 805, 805, 0), (0, 0, 16, 1)], [], [], [(1, (0, (-2147483648), 2147483647, 1), [(2, 805, 805, 0), (0, 0, 16, 1)], [], ([], []))], [], 2, 44, 0)
theorem kh_253_ok : ct_ok wd_fl kh_253 := ct_of (ff := wd_ff) (y := (⟨"UtilityWorksModel", "wRoom", "(I)I"⟩, prog_14_method_117_code, 2, some .int, 12, 1, 1, 34185, 34184, 11012, 21014)) (Cs := [kh_252]) (an := []) (ss := []) (K := 1) (fuel := 4000) wd_fl_ok rfl (List.forall_mem_cons.mpr ⟨kh_252_ok, (List.forall_mem_nil _)⟩) (by decide +kernel)
/- UtilityWorksModel wOpen -/
def kh_254 : ct_T := (472, [(2, 805, 805, 0), (0, 0, 16, 1), (0, (-2147483648), 2147483647, 1)], [], [], [(1, (0, 1, 1, 0), [(2, 805, 805, 0), (0, 0, 16, 1), (0, 0, 2147483647, 1)], [], ([], [])), (1, (0, 0, 0, 0), [(2, 805, 805, 0), (0, 0, 16, 1), (0, (-2147483648), 2147483647, 1)], [], ([], []))], [], 4, 88, 0)
theorem kh_254_ok : ct_ok wd_fl kh_254 := ct_of (ff := wd_ff) (y := (⟨"UtilityWorksModel", "wOpen", "(II)Z"⟩, prog_14_method_118_code, 3, some .boolean, 12, 1, 2, 34181, 34180, 11011, 21014)) (Cs := [kh_251, kh_253, kh_low, kh_148, kh_high, kh_149]) (an := [(45, 0, ([((2, 805, 805, 0), none), ((0, 0, 16, 1), none), ((0, (-2147483648), 2147483647, 1), none)], [(0, 0), (1, 1), (2, 2)], [], [], [], [], [], [], none), [(0, 0, 99955)])]) (ss := []) (K := 1) (fuel := 4000) wd_fl_ok rfl (List.forall_mem_cons.mpr ⟨kh_251_ok, (List.forall_mem_cons.mpr ⟨kh_253_ok, (List.forall_mem_cons.mpr ⟨kh_low_ok, (List.forall_mem_cons.mpr ⟨kh_148_ok, (List.forall_mem_cons.mpr ⟨kh_high_ok, (List.forall_mem_cons.mpr ⟨kh_149_ok, (List.forall_mem_nil _)⟩)⟩)⟩)⟩)⟩)⟩) (by decide +kernel)
abbrev kh_wReach_y : mt_T := (⟨"UtilityWorksModel", "wReach", "(II)V"⟩, prog_14_method_119_code, 7, none, 12, 1, 2, 34177, 34176, 11010, 21014)
def kh_wReach : ct_T := (471, [(2, 805, 805, 0), (0, 0, 11, 1), (0, (-2147483648), 2147483647, 1)], [], [], [(0, (0, 0, 0, 0), [(2, 805, 805, 0), (0, 0, 11, 1), (0, (-2147483648), 2147483647, 1)], [], ([], []))], [((840, 840), (0, 11, 1))], 5, 110, 0)
def kh_wReach_a58 : an_T := (58, 0, ([((2, 805, 805, 0), none), ((0, 0, 11, 1), none), ((0, (-2147483648), 2147483647, 1), none), ((0, 0, 1, 1), none)], [(0, 0), (1, 1), (2, 2), (3, 3)], [], [], [], [], [], [], none), [])
def kh_wReach_a67 : an_T := (67, 0, ([((2, 805, 805, 0), none), ((0, 0, 11, 1), none), ((0, (-2147483648), 2147483647, 1), none), ((0, 0, 1, 1), none), ((0, 0, 17, 1), none)], [(0, 0), (1, 1), (2, 2), (3, 3), (4, 4)], [], [], [], [], [], [], none), [])
def kh_wReach_a2 : an_T := (2, 0, ([((2, 805, 805, 0), none), ((0, 0, 11, 1), none), ((0, (-2147483648), 2147483647, 1), none), ((0, 0, 12, 1), none)], [(0, 0), (1, 1), (2, 2), (3, 3)], [], [], [], [], [], [], none), [(1, 3, 13)])
def kh_wReach_b67_0 : sg_T := (58, 0, ([((2, 805, 805, 0), none), ((0, 0, 11, 1), none), ((0, (-2147483648), 2147483647, 1), none), ((0, 0, 1, 1), none), ((0, 17, 17, 1), none), ((0, 17, 17, 0), none)], [(0, 0), (1, 1), (2, 2), (3, 3), (4, 4)], [], [], [], [(200000, 5, 4)], [], [], some []))
def kh_wReach_b67_1 : sg_T := (67, 0, ([((2, 805, 805, 0), none), ((0, 0, 11, 1), none), ((0, 0, 2147483647, 1), none), ((0, 0, 1, 1), none), ((0, 0, 16, 1), none), ((0, 17, 17, 0), none), ((2, 840, 840, 1), none), ((0, 0, 10, 1), none), ((0, 1, 97, 1), none), ((2, 840, 840, 1), none), ((0, 1, 11, 1), none), ((0, 2, 98, 1), none), ((0, 1, 1, 0), none), ((0, 1, 98, 1), some (8, 1)), ((0, 1, 1, 0), none), ((2, 840, 840, 1), none), ((0, 0, 10, 1), none), ((0, 1, 1, 0), none), ((0, 3, 100, 1), some (11, 1)), ((2, 840, 840, 1), none), ((0, 1, 11, 1), none), ((0, 1, 1, 0), none), ((0, 2, 98, 1), some (8, 1)), ((0, 1, 1, 0), none), ((0, 1, 17, 1), some (4, 1))], [(4, 24), (3, 23), (6, 11), (5, 8), (0, 0), (1, 1), (2, 2)], [], [(19, 20, 11)], [(14, 0)], [(200000, 11, 22), (500022, 8, 21), (1100020, 4, 4), (200000, 8, 18), (500018, 11, 17), (1000016, 4, 4), (100000, 13, 11), (500013, 8, 12), (800011, 9, 10), (1100010, 4, 4), (800008, 6, 7), (1000007, 4, 4), (100000, 4, 5)], [], [], some [(19, 20, 11), (15, 16, 8)]))
def kh_wReach_b67_2 : sg_T := (67, 0, ([((2, 805, 805, 0), none), ((0, 0, 11, 1), none), ((0, 0, 2147483647, 1), none), ((0, 0, 1, 1), none), ((0, 0, 16, 1), none), ((0, 17, 17, 0), none), ((2, 840, 840, 1), none), ((0, 0, 10, 1), none), ((0, 0, 97, 1), none), ((2, 840, 840, 1), none), ((0, 1, 11, 1), none), ((0, 2, 99, 1), none), ((0, 1, 1, 0), none), ((0, 1, 98, 1), some (8, 1)), ((0, 1, 1, 0), none), ((2, 840, 840, 1), none), ((0, 0, 10, 1), none), ((0, 1, 1, 0), none), ((0, 3, 100, 1), some (11, 1)), ((2, 840, 840, 1), none), ((0, 1, 11, 1), none), ((0, 1, 1, 0), none), ((0, 1, 98, 1), some (8, 1)), ((0, 1, 1, 0), none), ((0, 1, 98, 1), some (8, 1)), ((0, 1, 1, 0), none), ((0, 1, 17, 1), some (4, 1))], [(4, 26), (3, 25), (6, 11), (5, 8), (0, 0), (1, 1), (2, 2)], [], [(19, 20, 24)], [(14, 0)], [(500024, 8, 23), (100000, 22, 11), (500022, 8, 21), (1100020, 4, 4), (200000, 8, 18), (500018, 11, 17), (1000016, 4, 4), (100000, 13, 11), (500013, 8, 12), (800011, 9, 10), (1100010, 4, 4), (800008, 6, 7), (1000007, 4, 4), (100000, 4, 5)], [], [], some [(19, 20, 24), (15, 16, 8)]))
def kh_wReach_b67_3 : sg_T := (67, 0, ([((2, 805, 805, 0), none), ((0, 0, 11, 1), none), ((0, 0, 2147483647, 1), none), ((0, 0, 1, 1), none), ((0, 0, 16, 1), none), ((0, 17, 17, 0), none), ((2, 840, 840, 1), none), ((0, 0, 10, 1), none), ((0, 4, 97, 1), none), ((2, 840, 840, 1), none), ((0, 1, 11, 1), none), ((0, 2, 95, 1), none), ((0, 1, 1, 0), none), ((0, 1, 98, 1), some (8, 1)), ((0, 1, 1, 0), none), ((2, 840, 840, 1), none), ((0, 0, 10, 1), none), ((0, 1, 1, 0), none), ((0, 3, 96, 1), some (11, 1)), ((0, 1, 1, 0), none), ((0, 3, 96, 1), some (11, 1)), ((2, 840, 840, 1), none), ((0, 1, 11, 1), none), ((0, 1, 1, 0), none), ((0, 5, 98, 1), some (8, 1)), ((0, 1, 1, 0), none), ((0, 1, 17, 1), some (4, 1))], [(4, 26), (3, 25), (6, 11), (5, 8), (0, 0), (1, 1), (2, 2)], [], [(21, 22, 11)], [(14, 0)], [(200000, 11, 24), (500024, 8, 23), (1100022, 4, 4), (500020, 11, 19), (100000, 18, 8), (500018, 11, 17), (1000016, 4, 4), (100000, 13, 11), (500013, 8, 12), (800011, 9, 10), (1100010, 4, 4), (800008, 6, 7), (1000007, 4, 4), (100000, 4, 5)], [], [], some [(21, 22, 11), (15, 16, 20)]))
def kh_wReach_b67_4 : sg_T := (67, 0, ([((2, 805, 805, 0), none), ((0, 0, 11, 1), none), ((0, 0, 2147483647, 1), none), ((0, 0, 1, 1), none), ((0, 0, 16, 1), none), ((0, 17, 17, 0), none), ((2, 840, 840, 1), none), ((0, 0, 10, 1), none), ((0, 4, 93, 1), none), ((2, 840, 840, 1), none), ((0, 1, 11, 1), none), ((0, 6, 95, 1), none), ((0, 1, 1, 0), none), ((0, 1, 98, 1), some (8, 1)), ((0, 1, 1, 0), none), ((2, 840, 840, 1), none), ((0, 0, 10, 1), none), ((0, 1, 1, 0), none), ((0, 3, 96, 1), some (11, 1)), ((0, 1, 1, 0), none), ((0, 3, 96, 1), some (11, 1)), ((2, 840, 840, 1), none), ((0, 1, 11, 1), none), ((0, 1, 1, 0), none), ((0, 5, 94, 1), some (8, 1)), ((0, 1, 1, 0), none), ((0, 5, 94, 1), some (8, 1)), ((0, 1, 1, 0), none), ((0, 1, 17, 1), some (4, 1))], [(4, 28), (3, 27), (6, 11), (5, 8), (0, 0), (1, 1), (2, 2)], [], [(21, 22, 26)], [(14, 0)], [(500026, 8, 25), (100000, 24, 11), (500024, 8, 23), (1100022, 4, 4), (500020, 11, 19), (100000, 18, 8), (500018, 11, 17), (1000016, 4, 4), (100000, 13, 11), (500013, 8, 12), (800011, 9, 10), (1100010, 4, 4), (800008, 6, 7), (1000007, 4, 4), (100000, 4, 5)], [], [], some [(21, 22, 26), (15, 16, 20)]))
def kh_wReach_b67_5 : sg_T := (67, 0, ([((2, 805, 805, 0), none), ((0, 0, 11, 1), none), ((0, (-2147483648), 2147483647, 1), none), ((0, 0, 1, 1), none), ((0, 0, 16, 1), none), ((0, 17, 17, 0), none), ((2, 840, 840, 1), none), ((0, 0, 10, 1), none), ((0, 0, 97, 1), none), ((2, 840, 840, 1), none), ((0, 1, 11, 1), none), ((0, 2, 99, 1), none), ((0, 1, 1, 0), none), ((0, 1, 98, 1), some (8, 1)), ((0, 0, 0, 0), none), ((0, 1, 17, 1), some (4, 1))], [(4, 15), (6, 11), (5, 8), (0, 0), (1, 1), (2, 2), (3, 3)], [], [(9, 10, 11), (6, 7, 8)], [], [(100000, 13, 11), (500013, 8, 12), (800011, 9, 10), (1100010, 4, 4), (800008, 6, 7), (1000007, 4, 4), (100000, 4, 5)], [], [], some []))
def kh_wReach_b67_6 : sg_T := (67, 0, ([((2, 805, 805, 0), none), ((0, 0, 11, 1), none), ((0, (-2147483648), 2147483647, 1), none), ((0, 0, 1, 1), none), ((0, 0, 16, 1), none), ((0, 17, 17, 0), none), ((2, 840, 840, 1), none), ((0, 0, 10, 1), none), ((0, 0, 99, 1), none), ((2, 840, 840, 1), none), ((0, 1, 11, 1), none), ((0, 0, 99, 1), none), ((0, 1, 1, 0), none), ((0, 1, 100, 1), some (8, 1)), ((0, 1, 1, 0), none), ((0, 1, 100, 1), some (11, 1)), ((0, 1, 17, 1), some (4, 1))], [(4, 16), (6, 11), (5, 8), (0, 0), (1, 1), (2, 2), (3, 3)], [], [(9, 10, 11), (6, 7, 8)], [], [(200000, 8, 15), (500015, 11, 14), (200000, 11, 13), (500013, 8, 12), (800011, 9, 10), (1100010, 4, 4), (800008, 6, 7), (1000007, 4, 4), (100000, 4, 5)], [], [], some []))
def kh_wReach_b67_7 : sg_T := (67, 0, ([((2, 805, 805, 0), none), ((0, 0, 11, 1), none), ((0, 0, 2147483647, 1), none), ((0, 0, 1, 1), none), ((0, 0, 16, 1), none), ((0, 17, 17, 0), none), ((2, 840, 840, 1), none), ((0, 0, 10, 1), none), ((0, 2, 98, 1), none), ((2, 840, 840, 1), none), ((0, 1, 11, 1), none), ((0, 1, 97, 1), none), ((0, 1, 1, 0), none), ((0, 1, 100, 1), some (8, 1)), ((0, 1, 1, 0), none), ((0, 1, 98, 1), some (11, 1)), ((0, 1, 1, 0), none), ((2, 840, 840, 1), none), ((0, 0, 10, 1), none), ((0, 1, 1, 0), none), ((0, 2, 98, 1), some (11, 1)), ((2, 840, 840, 1), none), ((0, 1, 11, 1), none), ((0, 1, 1, 0), none), ((0, 3, 99, 1), some (8, 1)), ((0, 1, 1, 0), none), ((0, 1, 17, 1), some (4, 1))], [(4, 26), (3, 25), (6, 11), (5, 8), (0, 0), (1, 1), (2, 2)], [], [(21, 22, 11)], [(16, 0)], [(200000, 11, 24), (500024, 8, 23), (1100022, 4, 4), (200000, 8, 20), (500020, 11, 19), (1000018, 4, 4), (100000, 15, 8), (500015, 11, 14), (200000, 11, 13), (500013, 8, 12), (800011, 9, 10), (1100010, 4, 4), (800008, 6, 7), (1000007, 4, 4), (100000, 4, 5)], [], [], some [(21, 22, 11), (17, 18, 8)]))
def kh_wReach_b67_8 : sg_T := (67, 0, ([((2, 805, 805, 0), none), ((0, 0, 11, 1), none), ((0, 0, 2147483647, 1), none), ((0, 0, 1, 1), none), ((0, 0, 16, 1), none), ((0, 17, 17, 0), none), ((2, 840, 840, 1), none), ((0, 0, 10, 1), none), ((0, 2, 95, 1), none), ((2, 840, 840, 1), none), ((0, 1, 11, 1), none), ((0, 4, 97, 1), none), ((0, 1, 1, 0), none), ((0, 1, 100, 1), some (8, 1)), ((0, 1, 1, 0), none), ((0, 1, 98, 1), some (11, 1)), ((0, 1, 1, 0), none), ((2, 840, 840, 1), none), ((0, 0, 10, 1), none), ((0, 1, 1, 0), none), ((0, 2, 98, 1), some (11, 1)), ((2, 840, 840, 1), none), ((0, 1, 11, 1), none), ((0, 1, 1, 0), none), ((0, 3, 96, 1), some (8, 1)), ((0, 1, 1, 0), none), ((0, 3, 96, 1), some (8, 1)), ((0, 1, 1, 0), none), ((0, 1, 17, 1), some (4, 1))], [(4, 28), (3, 27), (6, 11), (5, 8), (0, 0), (1, 1), (2, 2)], [], [(21, 22, 26)], [(16, 0)], [(500026, 8, 25), (100000, 24, 11), (500024, 8, 23), (1100022, 4, 4), (200000, 8, 20), (500020, 11, 19), (1000018, 4, 4), (100000, 15, 8), (500015, 11, 14), (200000, 11, 13), (500013, 8, 12), (800011, 9, 10), (1100010, 4, 4), (800008, 6, 7), (1000007, 4, 4), (100000, 4, 5)], [], [], some [(21, 22, 26), (17, 18, 8)]))
def kh_wReach_b67_9 : sg_T := (67, 0, ([((2, 805, 805, 0), none), ((0, 0, 11, 1), none), ((0, 0, 2147483647, 1), none), ((0, 0, 1, 1), none), ((0, 0, 16, 1), none), ((0, 17, 17, 0), none), ((2, 840, 840, 1), none), ((0, 0, 10, 1), none), ((0, 2, 99, 1), none), ((2, 840, 840, 1), none), ((0, 1, 11, 1), none), ((0, 0, 97, 1), none), ((0, 1, 1, 0), none), ((0, 1, 100, 1), some (8, 1)), ((0, 1, 1, 0), none), ((0, 1, 98, 1), some (11, 1)), ((0, 1, 1, 0), none), ((2, 840, 840, 1), none), ((0, 0, 10, 1), none), ((0, 1, 1, 0), none), ((0, 1, 98, 1), some (11, 1)), ((0, 1, 1, 0), none), ((0, 1, 98, 1), some (11, 1)), ((2, 840, 840, 1), none), ((0, 1, 11, 1), none), ((0, 1, 1, 0), none), ((0, 3, 100, 1), some (8, 1)), ((0, 1, 1, 0), none), ((0, 1, 17, 1), some (4, 1))], [(4, 28), (3, 27), (6, 11), (5, 8), (0, 0), (1, 1), (2, 2)], [], [(23, 24, 11)], [(16, 0)], [(200000, 11, 26), (500026, 8, 25), (1100024, 4, 4), (500022, 11, 21), (100000, 20, 8), (500020, 11, 19), (1000018, 4, 4), (100000, 15, 8), (500015, 11, 14), (200000, 11, 13), (500013, 8, 12), (800011, 9, 10), (1100010, 4, 4), (800008, 6, 7), (1000007, 4, 4), (100000, 4, 5)], [], [], some [(23, 24, 11), (17, 18, 22)]))
def kh_wReach_b67_10 : sg_T := (67, 0, ([((2, 805, 805, 0), none), ((0, 0, 11, 1), none), ((0, 0, 2147483647, 1), none), ((0, 0, 1, 1), none), ((0, 0, 16, 1), none), ((0, 17, 17, 0), none), ((2, 840, 840, 1), none), ((0, 0, 10, 1), none), ((0, 2, 95, 1), none), ((2, 840, 840, 1), none), ((0, 1, 11, 1), none), ((0, 4, 97, 1), none), ((0, 1, 1, 0), none), ((0, 1, 100, 1), some (8, 1)), ((0, 1, 1, 0), none), ((0, 1, 98, 1), some (11, 1)), ((0, 1, 1, 0), none), ((2, 840, 840, 1), none), ((0, 0, 10, 1), none), ((0, 1, 1, 0), none), ((0, 1, 98, 1), some (11, 1)), ((0, 1, 1, 0), none), ((0, 1, 98, 1), some (11, 1)), ((2, 840, 840, 1), none), ((0, 1, 11, 1), none), ((0, 1, 1, 0), none), ((0, 3, 96, 1), some (8, 1)), ((0, 1, 1, 0), none), ((0, 3, 96, 1), some (8, 1)), ((0, 1, 1, 0), none), ((0, 1, 17, 1), some (4, 1))], [(4, 30), (3, 29), (6, 11), (5, 8), (0, 0), (1, 1), (2, 2)], [], [(23, 24, 28)], [(16, 0)], [(500028, 8, 27), (100000, 26, 11), (500026, 8, 25), (1100024, 4, 4), (500022, 11, 21), (100000, 20, 8), (500020, 11, 19), (1000018, 4, 4), (100000, 15, 8), (500015, 11, 14), (200000, 11, 13), (500013, 8, 12), (800011, 9, 10), (1100010, 4, 4), (800008, 6, 7), (1000007, 4, 4), (100000, 4, 5)], [], [], some [(23, 24, 28), (17, 18, 22)]))
def kh_wReach_b67_11 : sg_T := (67, 0, ([((2, 805, 805, 0), none), ((0, 0, 11, 1), none), ((0, (-2147483648), 2147483647, 1), none), ((0, 0, 1, 1), none), ((0, 0, 16, 1), none), ((0, 17, 17, 0), none), ((2, 840, 840, 1), none), ((0, 0, 10, 1), none), ((0, 2, 99, 1), none), ((2, 840, 840, 1), none), ((0, 1, 11, 1), none), ((0, 0, 97, 1), none), ((0, 1, 1, 0), none), ((0, 1, 100, 1), some (8, 1)), ((0, 1, 1, 0), none), ((0, 1, 98, 1), some (11, 1)), ((0, 0, 0, 0), none), ((0, 1, 17, 1), some (4, 1))], [(4, 17), (6, 11), (5, 8), (0, 0), (1, 1), (2, 2), (3, 3)], [], [(9, 10, 11), (6, 7, 8)], [], [(100000, 15, 8), (500015, 11, 14), (200000, 11, 13), (500013, 8, 12), (800011, 9, 10), (1100010, 4, 4), (800008, 6, 7), (1000007, 4, 4), (100000, 4, 5)], [], [], some []))
def kh_wReach_e0 : sg_T := (58, 0, ([((2, 805, 805, 0), none), ((0, 0, 11, 1), none), ((0, (-2147483648), 98, 1), none), ((0, 12, 12, 1), none), ((0, 12, 12, 0), none), ((2, 840, 840, 1), none), ((0, 0, 99, 1), none), ((0, 99, 99, 0), none), ((2, 840, 840, 1), none), ((0, 0, 0, 0), none)], [(3, 9), (0, 0), (1, 1), (2, 2)], [], [], [], [], [], [], none))
def kh_wReach_e1 : sg_T := (58, 0, ([((2, 805, 805, 0), none), ((0, 0, 11, 1), none), ((0, 0, 2147483647, 1), none), ((0, 12, 12, 1), none), ((0, 12, 12, 0), none), ((2, 840, 840, 1), none), ((0, 0, 99, 1), none), ((0, 0, 0, 0), none), ((2, 840, 840, 1), none), ((0, 1, 1, 0), none)], [(3, 9), (0, 0), (1, 1), (2, 2)], [], [], [], [], [], [], none))
def kh_wReach_b58_0 : sg_T := (193, 0, ([((2, 805, 805, 0), none), ((0, 0, 11, 1), none), ((0, (-2147483648), 2147483647, 1), none), ((0, 0, 0, 1), none)], [(0, 0), (1, 1), (2, 2), (3, 3)], [], [], [], [], [], [], some []))
def kh_wReach_b58_1 : sg_T := (67, 0, ([((2, 805, 805, 0), none), ((0, 0, 11, 1), none), ((0, (-2147483648), 2147483647, 1), none), ((0, 1, 1, 1), none), ((0, 0, 0, 0), none), ((0, 0, 0, 0), none)], [(4, 5), (3, 4), (0, 0), (1, 1), (2, 2)], [], [], [(3, 0)], [], [], [], some []))
theorem kh_wReach_ok : ct_ok wd_fl kh_wReach := ct_hand (ff := wd_ff) (y := kh_wReach_y) (Cs := [kh_140, kh_low, kh_high, kh_150, kh_158, kh_166, kh_174, kh_182, kh_190, kh_198, kh_206, kh_214, kh_222, kh_230, kh_238, kh_246, kh_254]) wd_fl_ok rfl (List.forall_mem_cons.mpr ⟨kh_140_ok, (List.forall_mem_cons.mpr ⟨kh_low_ok, (List.forall_mem_cons.mpr ⟨kh_high_ok, (List.forall_mem_cons.mpr ⟨kh_150_ok, (List.forall_mem_cons.mpr ⟨kh_158_ok, (List.forall_mem_cons.mpr ⟨kh_166_ok, (List.forall_mem_cons.mpr ⟨kh_174_ok, (List.forall_mem_cons.mpr ⟨kh_182_ok, (List.forall_mem_cons.mpr ⟨kh_190_ok, (List.forall_mem_cons.mpr ⟨kh_198_ok, (List.forall_mem_cons.mpr ⟨kh_206_ok, (List.forall_mem_cons.mpr ⟨kh_214_ok, (List.forall_mem_cons.mpr ⟨kh_222_ok, (List.forall_mem_cons.mpr ⟨kh_230_ok, (List.forall_mem_cons.mpr ⟨kh_238_ok, (List.forall_mem_cons.mpr ⟨kh_246_ok, (List.forall_mem_cons.mpr ⟨kh_254_ok, (List.forall_mem_nil _)⟩)⟩)⟩)⟩)⟩)⟩)⟩)⟩)⟩)⟩)⟩)⟩)⟩)⟩)⟩)⟩)⟩) (by decide +kernel) (fun l D tc ad kd N sm xs S p e s m args below meth c sz lv G H0 => by
  have hx : xs.length = 3 := by rw [H0.2.1.1]; rfl
  have hbd : ∀ (α : List av_X) (A : as_T) (lv : List (Nat × Value)) (st : List Value) (S1 : fw_S), as_in ad sm wd_fl xs S kh_wReach.2.2.2.2.2.1 α A lv st S1 → q_rg A ((840, 840), (0, 11, 1), (0, 0, 99, 1)) = true → 0 ≤ sm_S (S1.1 840) 12 ∧ sm_S (S1.1 840) 12 ≤ 1188 := by
    intro α A lv st S1 H hq
    have h1 := q_rg_in hq H
    have := sm_bd (f := S1.1 840) (lo := 0) (hi := 99) (n := 12) (fun j hj => rg_bd h1 (by omega))
    omega
  have hX : ∀ (α : List av_X) (lv : List (Nat × Value)) (S1 : fw_S), as_in ad sm wd_fl xs S kh_wReach.2.2.2.2.2.1 α kh_wReach_a58.2.2.1 lv [] S1 → nv α 3 = 0 → hd_W wd_fl kh_wReach kh_wReach_y l D tc ad kd N sm xs S p e s m args below meth c sz 58 lv [] S1 0 := by
    intro α lv S1 H h0
    have hg := (en_nv (i := 3) H.2.1 rfl).1
    rw [h0] at hg
    exact hd_run G (ss := []) (A := ([((2, 805, 805, 0), none), ((0, 0, 11, 1), none), ((0, (-2147483648), 2147483647, 1), none), ((0, 0, 0, 0), none)], [(0, 0), (1, 1), (2, 2), (3, 3)], [], [], [], [], [], [], none)) (fuel := 20) (by decide +kernel) (as_set (i := 3) (q := ((0, 0, 1, 1), none)) (a := (0, 0, 0, 0)) H hg rfl ⟨rfl, ⟨by decide, by decide⟩, Int.le_refl _, Int.le_refl _, Int.dvd_refl _⟩)
  have hW : ∀ (k : Nat) (α : List av_X) (lv : List (Nat × Value)) (S1 : fw_S), as_in ad sm wd_fl xs S kh_wReach.2.2.2.2.2.1 α kh_wReach_a58.2.2.1 lv [] S1 → (sm_S (S1.1 840) 12).toNat < k → hd_W wd_fl kh_wReach kh_wReach_y l D tc ad kd N sm xs S p e s m args below meth c sz 58 lv [] S1 0 := by
    intro k
    induction k with
    | zero => intro α lv S1 _ h; omega
    | succ k ih =>
    intro α lv S1 H hk
    have hI : ∀ (j : Nat) (α : List av_X) (lv : List (Nat × Value)) (S2 : fw_S), as_in ad sm wd_fl xs S kh_wReach.2.2.2.2.2.1 α kh_wReach_a67.2.2.1 lv [] S2 → sm_S (S2.1 840) 12 ≤ sm_S (S1.1 840) 12 → (nv α 3 = 0 ∨ sm_S (S2.1 840) 12 < sm_S (S1.1 840) 12) → (17 - nv α 4).toNat < j → hd_W wd_fl kh_wReach kh_wReach_y l D tc ad kd N sm xs S p e s m args below meth c sz 67 lv [] S2 0 := by
      intro j
      induction j with
      | zero => intro α lv S2 _ _ _ h; omega
      | succ j ihj =>
      intro α lv S2 H2 hR hg hj
      obtain ⟨α1, hle, Hr⟩ := as_rec_in (pl := []) rfl H2
      have hf := H2.2.2.2.2.2.2.2.2.2.2.1
      have hl1 : α1.length = 5 := by rw [Hr.2.1.1]; rfl
      have hl0 : α.length = 5 := by rw [H2.2.1.1]; rfl
      have hxa : al_le xs α1 := H2.1.trans hle
      refine hd_seg G (na := 5) (fuel := 400) (first := true) (Bs := [kh_wReach_b67_0, kh_wReach_b67_1, kh_wReach_b67_2, kh_wReach_b67_3, kh_wReach_b67_4, kh_wReach_b67_5, kh_wReach_b67_6, kh_wReach_b67_7, kh_wReach_b67_8, kh_wReach_b67_9, kh_wReach_b67_10, kh_wReach_b67_11]) (by decide +kernel) hl1 Hr ?_
      intro q hq β lv' st' S' H1
      simp only [List.mem_cons, List.not_mem_nil, or_false] at hq
      rcases hq with rfl | rfl | rfl | rfl | rfl | rfl | rfl | rfl | rfl | rfl | rfl | rfl
      · have Ha := hd_go (q := kh_wReach_a58) (n := 0) (by decide +kernel) hx H1 hxa hf
        have hst : st' = [] := by
          have := H1.2.2.2.1
          match st', this with
          | [], _ => rfl
          | _ :: _, z => exact z.elim
        subst hst
        have eg : nv α1 3 = nv α 3 := nv_le hle (by omega)
        have et : nv α1 4 = nv α 4 := nv_le hle (by omega)
        have eg1 : nv β 3 = nv α1 3 := nv_le H1.1 (by omega)
        have et1 : nv β 4 = nv α1 4 := nv_le H1.1 (by omega)
        have hb := hbd _ _ _ _ _ H2 (by decide +kernel)
        obtain ⟨f1, f2, f3, f4, f5⟩ := as_fx H1
        simp only [kh_wReach_b67_0, fx_env, fx_c, fx_ne, fx_hf, wl_S, Nat.zero_add, Nat.reduceAdd, Nat.reduceDiv, Nat.reduceMod, List.getElem?_cons_zero, List.getElem?_cons_succ, if_true, and_true, true_and] at f1 f2 f3 f4 f5
        have fe0 : nv β 0 = 805 := by omega
        have fe4 : nv β 4 = 17 := by omega
        have fe5 : nv β 5 = 17 := by omega
        simp only [fe0, fe4, fe5, Int.reduceToNat] at f2 f3 f4 f5
        rw [f5] at Ha ⊢
        rcases hg with hg | hg
        · exact hX _ _ _ Ha (by rw [nv_mu (v := 3) rfl]; omega)
        · exact ih _ _ _ Ha (by omega)
      · have Ha := hd_go (q := kh_wReach_a67) (n := 0) (by decide +kernel) hx H1 hxa hf
        have hst : st' = [] := by
          have := H1.2.2.2.1
          match st', this with
          | [], _ => rfl
          | _ :: _, z => exact z.elim
        subst hst
        have eg : nv α1 3 = nv α 3 := nv_le hle (by omega)
        have et : nv α1 4 = nv α 4 := nv_le hle (by omega)
        have eg1 : nv β 3 = nv α1 3 := nv_le H1.1 (by omega)
        have et1 : nv β 4 = nv α1 4 := nv_le H1.1 (by omega)
        have hb := hbd _ _ _ _ _ H2 (by decide +kernel)
        obtain ⟨f1, f2, f3, f4, f5⟩ := as_fx H1
        simp only [kh_wReach_b67_1, fx_env, fx_c, fx_ne, fx_hf, wl_S, Nat.zero_add, Nat.reduceAdd, Nat.reduceDiv, Nat.reduceMod, List.getElem?_cons_zero, List.getElem?_cons_succ, if_true, and_true, true_and] at f1 f2 f3 f4 f5
        have fe0 : nv β 0 = 805 := by omega
        have fe5 : nv β 5 = 17 := by omega
        have fe6 : nv β 6 = 840 := by omega
        have fe9 : nv β 9 = 840 := by omega
        have fe12 : nv β 12 = 1 := by omega
        have fe14 : nv β 14 = 1 := by omega
        have fe15 : nv β 15 = 840 := by omega
        have fe17 : nv β 17 = 1 := by omega
        have fe19 : nv β 19 = 840 := by omega
        have fe21 : nv β 21 = 1 := by omega
        have fe23 : nv β 23 = 1 := by omega
        simp only [fe0, fe5, fe6, fe9, fe12, fe14, fe15, fe17, fe19, fe21, fe23, Int.reduceToNat] at f2 f3 f4 f5
        obtain ⟨c0, c1, c2, c3, c4, c5, c6, c7, c8, c9, c10, c11, c12⟩ := f2
        have oL := old_0 c10 rfl
        have oH := old_0 c8 rfl
        have d5 := c5
        simp only [wd_fl] at d5
        have d11 := c11
        simp only [wd_fl] at d11
        have d2 := c2
        simp only [wd_fl] at d2
        have d9 := c9
        simp only [wd_fl] at d9
        have hlh : lowI (nv β 4) < highI (nv β 4) := by
          have : nv β 4 / 3 ≤ 5 := by omega
          unfold highI lowI; (repeat' split) <;> omega
        have hR2 : sm_S (S'.1 840) 12 < sm_S (S2.1 840) 12 := by
          rw [f5, sm_i (by omega), sm_i (by omega), fw_i_row, if_neg (by omega), i32_of (by omega) (by omega), i32_of (by omega) (by omega)]
          have u1 : nv β 16 = nv β 7 := by omega
          have u2 : nv β 20 = nv β 10 := by omega
          rw [u1, u2, oL, oH]
          omega
        refine ihj _ _ _ Ha (by omega) (Or.inr (by omega)) (by rw [nv_mu (v := 24) rfl]; omega)
      · have Ha := hd_go (q := kh_wReach_a67) (n := 0) (by decide +kernel) hx H1 hxa hf
        have hst : st' = [] := by
          have := H1.2.2.2.1
          match st', this with
          | [], _ => rfl
          | _ :: _, z => exact z.elim
        subst hst
        have eg : nv α1 3 = nv α 3 := nv_le hle (by omega)
        have et : nv α1 4 = nv α 4 := nv_le hle (by omega)
        have eg1 : nv β 3 = nv α1 3 := nv_le H1.1 (by omega)
        have et1 : nv β 4 = nv α1 4 := nv_le H1.1 (by omega)
        have hb := hbd _ _ _ _ _ H2 (by decide +kernel)
        obtain ⟨f1, f2, f3, f4, f5⟩ := as_fx H1
        simp only [kh_wReach_b67_2, fx_env, fx_c, fx_ne, fx_hf, wl_S, Nat.zero_add, Nat.reduceAdd, Nat.reduceDiv, Nat.reduceMod, List.getElem?_cons_zero, List.getElem?_cons_succ, if_true, and_true, true_and] at f1 f2 f3 f4 f5
        have fe0 : nv β 0 = 805 := by omega
        have fe5 : nv β 5 = 17 := by omega
        have fe6 : nv β 6 = 840 := by omega
        have fe9 : nv β 9 = 840 := by omega
        have fe12 : nv β 12 = 1 := by omega
        have fe14 : nv β 14 = 1 := by omega
        have fe15 : nv β 15 = 840 := by omega
        have fe17 : nv β 17 = 1 := by omega
        have fe19 : nv β 19 = 840 := by omega
        have fe21 : nv β 21 = 1 := by omega
        have fe23 : nv β 23 = 1 := by omega
        have fe25 : nv β 25 = 1 := by omega
        simp only [fe0, fe5, fe6, fe9, fe12, fe14, fe15, fe17, fe19, fe21, fe23, fe25, Int.reduceToNat] at f2 f3 f4 f5
        obtain ⟨c0, c1, c2, c3, c4, c5, c6, c7, c8, c9, c10, c11, c12, c13⟩ := f2
        have oL := old_0 c11 rfl
        have oH := old_0 c9 rfl
        have d6 := c6
        simp only [wd_fl] at d6
        have d12 := c12
        simp only [wd_fl] at d12
        have d3 := c3
        simp only [wd_fl] at d3
        have d10 := c10
        simp only [wd_fl] at d10
        have hlh : lowI (nv β 4) < highI (nv β 4) := by
          have : nv β 4 / 3 ≤ 5 := by omega
          unfold highI lowI; (repeat' split) <;> omega
        have hR2 : sm_S (S'.1 840) 12 < sm_S (S2.1 840) 12 := by
          rw [f5, sm_i (by omega), sm_i (by omega), fw_i_row, if_neg (by omega), i32_of (by omega) (by omega), i32_of (by omega) (by omega)]
          have u1 : nv β 16 = nv β 7 := by omega
          have u2 : nv β 20 = nv β 10 := by omega
          rw [u1, u2, oL, oH]
          omega
        refine ihj _ _ _ Ha (by omega) (Or.inr (by omega)) (by rw [nv_mu (v := 26) rfl]; omega)
      · have Ha := hd_go (q := kh_wReach_a67) (n := 0) (by decide +kernel) hx H1 hxa hf
        have hst : st' = [] := by
          have := H1.2.2.2.1
          match st', this with
          | [], _ => rfl
          | _ :: _, z => exact z.elim
        subst hst
        have eg : nv α1 3 = nv α 3 := nv_le hle (by omega)
        have et : nv α1 4 = nv α 4 := nv_le hle (by omega)
        have eg1 : nv β 3 = nv α1 3 := nv_le H1.1 (by omega)
        have et1 : nv β 4 = nv α1 4 := nv_le H1.1 (by omega)
        have hb := hbd _ _ _ _ _ H2 (by decide +kernel)
        obtain ⟨f1, f2, f3, f4, f5⟩ := as_fx H1
        simp only [kh_wReach_b67_3, fx_env, fx_c, fx_ne, fx_hf, wl_S, Nat.zero_add, Nat.reduceAdd, Nat.reduceDiv, Nat.reduceMod, List.getElem?_cons_zero, List.getElem?_cons_succ, if_true, and_true, true_and] at f1 f2 f3 f4 f5
        have fe0 : nv β 0 = 805 := by omega
        have fe5 : nv β 5 = 17 := by omega
        have fe6 : nv β 6 = 840 := by omega
        have fe9 : nv β 9 = 840 := by omega
        have fe12 : nv β 12 = 1 := by omega
        have fe14 : nv β 14 = 1 := by omega
        have fe15 : nv β 15 = 840 := by omega
        have fe17 : nv β 17 = 1 := by omega
        have fe19 : nv β 19 = 1 := by omega
        have fe21 : nv β 21 = 840 := by omega
        have fe23 : nv β 23 = 1 := by omega
        have fe25 : nv β 25 = 1 := by omega
        simp only [fe0, fe5, fe6, fe9, fe12, fe14, fe15, fe17, fe19, fe21, fe23, fe25, Int.reduceToNat] at f2 f3 f4 f5
        obtain ⟨c0, c1, c2, c3, c4, c5, c6, c7, c8, c9, c10, c11, c12, c13⟩ := f2
        have oL := old_0 c11 rfl
        have oH := old_0 c9 rfl
        have d6 := c6
        simp only [wd_fl] at d6
        have d12 := c12
        simp only [wd_fl] at d12
        have d2 := c2
        simp only [wd_fl] at d2
        have d10 := c10
        simp only [wd_fl] at d10
        have hlh : lowI (nv β 4) < highI (nv β 4) := by
          have : nv β 4 / 3 ≤ 5 := by omega
          unfold highI lowI; (repeat' split) <;> omega
        have hR2 : sm_S (S'.1 840) 12 < sm_S (S2.1 840) 12 := by
          rw [f5, sm_i (by omega), sm_i (by omega), fw_i_row, if_neg (by omega), i32_of (by omega) (by omega), i32_of (by omega) (by omega)]
          have u1 : nv β 16 = nv β 7 := by omega
          have u2 : nv β 22 = nv β 10 := by omega
          rw [u1, u2, oL, oH]
          omega
        refine ihj _ _ _ Ha (by omega) (Or.inr (by omega)) (by rw [nv_mu (v := 26) rfl]; omega)
      · have Ha := hd_go (q := kh_wReach_a67) (n := 0) (by decide +kernel) hx H1 hxa hf
        have hst : st' = [] := by
          have := H1.2.2.2.1
          match st', this with
          | [], _ => rfl
          | _ :: _, z => exact z.elim
        subst hst
        have eg : nv α1 3 = nv α 3 := nv_le hle (by omega)
        have et : nv α1 4 = nv α 4 := nv_le hle (by omega)
        have eg1 : nv β 3 = nv α1 3 := nv_le H1.1 (by omega)
        have et1 : nv β 4 = nv α1 4 := nv_le H1.1 (by omega)
        have hb := hbd _ _ _ _ _ H2 (by decide +kernel)
        obtain ⟨f1, f2, f3, f4, f5⟩ := as_fx H1
        simp only [kh_wReach_b67_4, fx_env, fx_c, fx_ne, fx_hf, wl_S, Nat.zero_add, Nat.reduceAdd, Nat.reduceDiv, Nat.reduceMod, List.getElem?_cons_zero, List.getElem?_cons_succ, if_true, and_true, true_and] at f1 f2 f3 f4 f5
        have fe0 : nv β 0 = 805 := by omega
        have fe5 : nv β 5 = 17 := by omega
        have fe6 : nv β 6 = 840 := by omega
        have fe9 : nv β 9 = 840 := by omega
        have fe12 : nv β 12 = 1 := by omega
        have fe14 : nv β 14 = 1 := by omega
        have fe15 : nv β 15 = 840 := by omega
        have fe17 : nv β 17 = 1 := by omega
        have fe19 : nv β 19 = 1 := by omega
        have fe21 : nv β 21 = 840 := by omega
        have fe23 : nv β 23 = 1 := by omega
        have fe25 : nv β 25 = 1 := by omega
        have fe27 : nv β 27 = 1 := by omega
        simp only [fe0, fe5, fe6, fe9, fe12, fe14, fe15, fe17, fe19, fe21, fe23, fe25, fe27, Int.reduceToNat] at f2 f3 f4 f5
        obtain ⟨c0, c1, c2, c3, c4, c5, c6, c7, c8, c9, c10, c11, c12, c13, c14⟩ := f2
        have oL := old_0 c12 rfl
        have oH := old_0 c10 rfl
        have d7 := c7
        simp only [wd_fl] at d7
        have d13 := c13
        simp only [wd_fl] at d13
        have d3 := c3
        simp only [wd_fl] at d3
        have d11 := c11
        simp only [wd_fl] at d11
        have hlh : lowI (nv β 4) < highI (nv β 4) := by
          have : nv β 4 / 3 ≤ 5 := by omega
          unfold highI lowI; (repeat' split) <;> omega
        have hR2 : sm_S (S'.1 840) 12 < sm_S (S2.1 840) 12 := by
          rw [f5, sm_i (by omega), sm_i (by omega), fw_i_row, if_neg (by omega), i32_of (by omega) (by omega), i32_of (by omega) (by omega)]
          have u1 : nv β 16 = nv β 7 := by omega
          have u2 : nv β 22 = nv β 10 := by omega
          rw [u1, u2, oL, oH]
          omega
        refine ihj _ _ _ Ha (by omega) (Or.inr (by omega)) (by rw [nv_mu (v := 28) rfl]; omega)
      · have Ha := hd_go (q := kh_wReach_a67) (n := 0) (by decide +kernel) hx H1 hxa hf
        have hst : st' = [] := by
          have := H1.2.2.2.1
          match st', this with
          | [], _ => rfl
          | _ :: _, z => exact z.elim
        subst hst
        have eg : nv α1 3 = nv α 3 := nv_le hle (by omega)
        have et : nv α1 4 = nv α 4 := nv_le hle (by omega)
        have eg1 : nv β 3 = nv α1 3 := nv_le H1.1 (by omega)
        have et1 : nv β 4 = nv α1 4 := nv_le H1.1 (by omega)
        have hb := hbd _ _ _ _ _ H2 (by decide +kernel)
        obtain ⟨f1, f2, f3, f4, f5⟩ := as_fx H1
        simp only [kh_wReach_b67_5, fx_env, fx_c, fx_ne, fx_hf, wl_S, Nat.zero_add, Nat.reduceAdd, Nat.reduceDiv, Nat.reduceMod, List.getElem?_cons_zero, List.getElem?_cons_succ, if_true, and_true, true_and] at f1 f2 f3 f4 f5
        have fe0 : nv β 0 = 805 := by omega
        have fe5 : nv β 5 = 17 := by omega
        have fe6 : nv β 6 = 840 := by omega
        have fe9 : nv β 9 = 840 := by omega
        have fe12 : nv β 12 = 1 := by omega
        have fe14 : nv β 14 = 0 := by omega
        simp only [fe0, fe5, fe6, fe9, fe12, fe14, Int.reduceToNat] at f2 f3 f4 f5
        rw [f5] at Ha ⊢
        refine ihj _ _ _ Ha (by omega) (by rw [nv_mu (v := 3) rfl]; omega) (by rw [nv_mu (v := 15) rfl]; omega)
      · have Ha := hd_go (q := kh_wReach_a67) (n := 0) (by decide +kernel) hx H1 hxa hf
        have hst : st' = [] := by
          have := H1.2.2.2.1
          match st', this with
          | [], _ => rfl
          | _ :: _, z => exact z.elim
        subst hst
        have eg : nv α1 3 = nv α 3 := nv_le hle (by omega)
        have et : nv α1 4 = nv α 4 := nv_le hle (by omega)
        have eg1 : nv β 3 = nv α1 3 := nv_le H1.1 (by omega)
        have et1 : nv β 4 = nv α1 4 := nv_le H1.1 (by omega)
        have hb := hbd _ _ _ _ _ H2 (by decide +kernel)
        obtain ⟨f1, f2, f3, f4, f5⟩ := as_fx H1
        simp only [kh_wReach_b67_6, fx_env, fx_c, fx_ne, fx_hf, wl_S, Nat.zero_add, Nat.reduceAdd, Nat.reduceDiv, Nat.reduceMod, List.getElem?_cons_zero, List.getElem?_cons_succ, if_true, and_true, true_and] at f1 f2 f3 f4 f5
        have fe0 : nv β 0 = 805 := by omega
        have fe5 : nv β 5 = 17 := by omega
        have fe6 : nv β 6 = 840 := by omega
        have fe9 : nv β 9 = 840 := by omega
        have fe12 : nv β 12 = 1 := by omega
        have fe14 : nv β 14 = 1 := by omega
        simp only [fe0, fe5, fe6, fe9, fe12, fe14, Int.reduceToNat] at f2 f3 f4 f5
        rw [f5] at Ha ⊢
        refine ihj _ _ _ Ha (by omega) (by rw [nv_mu (v := 3) rfl]; omega) (by rw [nv_mu (v := 16) rfl]; omega)
      · have Ha := hd_go (q := kh_wReach_a67) (n := 0) (by decide +kernel) hx H1 hxa hf
        have hst : st' = [] := by
          have := H1.2.2.2.1
          match st', this with
          | [], _ => rfl
          | _ :: _, z => exact z.elim
        subst hst
        have eg : nv α1 3 = nv α 3 := nv_le hle (by omega)
        have et : nv α1 4 = nv α 4 := nv_le hle (by omega)
        have eg1 : nv β 3 = nv α1 3 := nv_le H1.1 (by omega)
        have et1 : nv β 4 = nv α1 4 := nv_le H1.1 (by omega)
        have hb := hbd _ _ _ _ _ H2 (by decide +kernel)
        obtain ⟨f1, f2, f3, f4, f5⟩ := as_fx H1
        simp only [kh_wReach_b67_7, fx_env, fx_c, fx_ne, fx_hf, wl_S, Nat.zero_add, Nat.reduceAdd, Nat.reduceDiv, Nat.reduceMod, List.getElem?_cons_zero, List.getElem?_cons_succ, if_true, and_true, true_and] at f1 f2 f3 f4 f5
        have fe0 : nv β 0 = 805 := by omega
        have fe5 : nv β 5 = 17 := by omega
        have fe6 : nv β 6 = 840 := by omega
        have fe9 : nv β 9 = 840 := by omega
        have fe12 : nv β 12 = 1 := by omega
        have fe14 : nv β 14 = 1 := by omega
        have fe16 : nv β 16 = 1 := by omega
        have fe17 : nv β 17 = 840 := by omega
        have fe19 : nv β 19 = 1 := by omega
        have fe21 : nv β 21 = 840 := by omega
        have fe23 : nv β 23 = 1 := by omega
        have fe25 : nv β 25 = 1 := by omega
        simp only [fe0, fe5, fe6, fe9, fe12, fe14, fe16, fe17, fe19, fe21, fe23, fe25, Int.reduceToNat] at f2 f3 f4 f5
        obtain ⟨c0, c1, c2, c3, c4, c5, c6, c7, c8, c9, c10, c11, c12, c13, c14⟩ := f2
        have oL := old_0 c12 rfl
        have oH := old_0 c10 rfl
        have d5 := c5
        simp only [wd_fl] at d5
        have d13 := c13
        simp only [wd_fl] at d13
        have d2 := c2
        simp only [wd_fl] at d2
        have d11 := c11
        simp only [wd_fl] at d11
        have hlh : lowI (nv β 4) < highI (nv β 4) := by
          have : nv β 4 / 3 ≤ 5 := by omega
          unfold highI lowI; (repeat' split) <;> omega
        have hR2 : sm_S (S'.1 840) 12 < sm_S (S2.1 840) 12 := by
          rw [f5, sm_i (by omega), sm_i (by omega), fw_i_row, if_neg (by omega), i32_of (by omega) (by omega), i32_of (by omega) (by omega)]
          have u1 : nv β 18 = nv β 7 := by omega
          have u2 : nv β 22 = nv β 10 := by omega
          rw [u1, u2, oL, oH]
          omega
        refine ihj _ _ _ Ha (by omega) (Or.inr (by omega)) (by rw [nv_mu (v := 26) rfl]; omega)
      · have Ha := hd_go (q := kh_wReach_a67) (n := 0) (by decide +kernel) hx H1 hxa hf
        have hst : st' = [] := by
          have := H1.2.2.2.1
          match st', this with
          | [], _ => rfl
          | _ :: _, z => exact z.elim
        subst hst
        have eg : nv α1 3 = nv α 3 := nv_le hle (by omega)
        have et : nv α1 4 = nv α 4 := nv_le hle (by omega)
        have eg1 : nv β 3 = nv α1 3 := nv_le H1.1 (by omega)
        have et1 : nv β 4 = nv α1 4 := nv_le H1.1 (by omega)
        have hb := hbd _ _ _ _ _ H2 (by decide +kernel)
        obtain ⟨f1, f2, f3, f4, f5⟩ := as_fx H1
        simp only [kh_wReach_b67_8, fx_env, fx_c, fx_ne, fx_hf, wl_S, Nat.zero_add, Nat.reduceAdd, Nat.reduceDiv, Nat.reduceMod, List.getElem?_cons_zero, List.getElem?_cons_succ, if_true, and_true, true_and] at f1 f2 f3 f4 f5
        have fe0 : nv β 0 = 805 := by omega
        have fe5 : nv β 5 = 17 := by omega
        have fe6 : nv β 6 = 840 := by omega
        have fe9 : nv β 9 = 840 := by omega
        have fe12 : nv β 12 = 1 := by omega
        have fe14 : nv β 14 = 1 := by omega
        have fe16 : nv β 16 = 1 := by omega
        have fe17 : nv β 17 = 840 := by omega
        have fe19 : nv β 19 = 1 := by omega
        have fe21 : nv β 21 = 840 := by omega
        have fe23 : nv β 23 = 1 := by omega
        have fe25 : nv β 25 = 1 := by omega
        have fe27 : nv β 27 = 1 := by omega
        simp only [fe0, fe5, fe6, fe9, fe12, fe14, fe16, fe17, fe19, fe21, fe23, fe25, fe27, Int.reduceToNat] at f2 f3 f4 f5
        obtain ⟨c0, c1, c2, c3, c4, c5, c6, c7, c8, c9, c10, c11, c12, c13, c14, c15⟩ := f2
        have oL := old_0 c13 rfl
        have oH := old_0 c11 rfl
        have d6 := c6
        simp only [wd_fl] at d6
        have d14 := c14
        simp only [wd_fl] at d14
        have d3 := c3
        simp only [wd_fl] at d3
        have d12 := c12
        simp only [wd_fl] at d12
        have hlh : lowI (nv β 4) < highI (nv β 4) := by
          have : nv β 4 / 3 ≤ 5 := by omega
          unfold highI lowI; (repeat' split) <;> omega
        have hR2 : sm_S (S'.1 840) 12 < sm_S (S2.1 840) 12 := by
          rw [f5, sm_i (by omega), sm_i (by omega), fw_i_row, if_neg (by omega), i32_of (by omega) (by omega), i32_of (by omega) (by omega)]
          have u1 : nv β 18 = nv β 7 := by omega
          have u2 : nv β 22 = nv β 10 := by omega
          rw [u1, u2, oL, oH]
          omega
        refine ihj _ _ _ Ha (by omega) (Or.inr (by omega)) (by rw [nv_mu (v := 28) rfl]; omega)
      · have Ha := hd_go (q := kh_wReach_a67) (n := 0) (by decide +kernel) hx H1 hxa hf
        have hst : st' = [] := by
          have := H1.2.2.2.1
          match st', this with
          | [], _ => rfl
          | _ :: _, z => exact z.elim
        subst hst
        have eg : nv α1 3 = nv α 3 := nv_le hle (by omega)
        have et : nv α1 4 = nv α 4 := nv_le hle (by omega)
        have eg1 : nv β 3 = nv α1 3 := nv_le H1.1 (by omega)
        have et1 : nv β 4 = nv α1 4 := nv_le H1.1 (by omega)
        have hb := hbd _ _ _ _ _ H2 (by decide +kernel)
        obtain ⟨f1, f2, f3, f4, f5⟩ := as_fx H1
        simp only [kh_wReach_b67_9, fx_env, fx_c, fx_ne, fx_hf, wl_S, Nat.zero_add, Nat.reduceAdd, Nat.reduceDiv, Nat.reduceMod, List.getElem?_cons_zero, List.getElem?_cons_succ, if_true, and_true, true_and] at f1 f2 f3 f4 f5
        have fe0 : nv β 0 = 805 := by omega
        have fe5 : nv β 5 = 17 := by omega
        have fe6 : nv β 6 = 840 := by omega
        have fe9 : nv β 9 = 840 := by omega
        have fe12 : nv β 12 = 1 := by omega
        have fe14 : nv β 14 = 1 := by omega
        have fe16 : nv β 16 = 1 := by omega
        have fe17 : nv β 17 = 840 := by omega
        have fe19 : nv β 19 = 1 := by omega
        have fe21 : nv β 21 = 1 := by omega
        have fe23 : nv β 23 = 840 := by omega
        have fe25 : nv β 25 = 1 := by omega
        have fe27 : nv β 27 = 1 := by omega
        simp only [fe0, fe5, fe6, fe9, fe12, fe14, fe16, fe17, fe19, fe21, fe23, fe25, fe27, Int.reduceToNat] at f2 f3 f4 f5
        obtain ⟨c0, c1, c2, c3, c4, c5, c6, c7, c8, c9, c10, c11, c12, c13, c14, c15⟩ := f2
        have oL := old_0 c13 rfl
        have oH := old_0 c11 rfl
        have d6 := c6
        simp only [wd_fl] at d6
        have d14 := c14
        simp only [wd_fl] at d14
        have d2 := c2
        simp only [wd_fl] at d2
        have d12 := c12
        simp only [wd_fl] at d12
        have hlh : lowI (nv β 4) < highI (nv β 4) := by
          have : nv β 4 / 3 ≤ 5 := by omega
          unfold highI lowI; (repeat' split) <;> omega
        have hR2 : sm_S (S'.1 840) 12 < sm_S (S2.1 840) 12 := by
          rw [f5, sm_i (by omega), sm_i (by omega), fw_i_row, if_neg (by omega), i32_of (by omega) (by omega), i32_of (by omega) (by omega)]
          have u1 : nv β 18 = nv β 7 := by omega
          have u2 : nv β 24 = nv β 10 := by omega
          rw [u1, u2, oL, oH]
          omega
        refine ihj _ _ _ Ha (by omega) (Or.inr (by omega)) (by rw [nv_mu (v := 28) rfl]; omega)
      · have Ha := hd_go (q := kh_wReach_a67) (n := 0) (by decide +kernel) hx H1 hxa hf
        have hst : st' = [] := by
          have := H1.2.2.2.1
          match st', this with
          | [], _ => rfl
          | _ :: _, z => exact z.elim
        subst hst
        have eg : nv α1 3 = nv α 3 := nv_le hle (by omega)
        have et : nv α1 4 = nv α 4 := nv_le hle (by omega)
        have eg1 : nv β 3 = nv α1 3 := nv_le H1.1 (by omega)
        have et1 : nv β 4 = nv α1 4 := nv_le H1.1 (by omega)
        have hb := hbd _ _ _ _ _ H2 (by decide +kernel)
        obtain ⟨f1, f2, f3, f4, f5⟩ := as_fx H1
        simp only [kh_wReach_b67_10, fx_env, fx_c, fx_ne, fx_hf, wl_S, Nat.zero_add, Nat.reduceAdd, Nat.reduceDiv, Nat.reduceMod, List.getElem?_cons_zero, List.getElem?_cons_succ, if_true, and_true, true_and] at f1 f2 f3 f4 f5
        have fe0 : nv β 0 = 805 := by omega
        have fe5 : nv β 5 = 17 := by omega
        have fe6 : nv β 6 = 840 := by omega
        have fe9 : nv β 9 = 840 := by omega
        have fe12 : nv β 12 = 1 := by omega
        have fe14 : nv β 14 = 1 := by omega
        have fe16 : nv β 16 = 1 := by omega
        have fe17 : nv β 17 = 840 := by omega
        have fe19 : nv β 19 = 1 := by omega
        have fe21 : nv β 21 = 1 := by omega
        have fe23 : nv β 23 = 840 := by omega
        have fe25 : nv β 25 = 1 := by omega
        have fe27 : nv β 27 = 1 := by omega
        have fe29 : nv β 29 = 1 := by omega
        simp only [fe0, fe5, fe6, fe9, fe12, fe14, fe16, fe17, fe19, fe21, fe23, fe25, fe27, fe29, Int.reduceToNat] at f2 f3 f4 f5
        obtain ⟨c0, c1, c2, c3, c4, c5, c6, c7, c8, c9, c10, c11, c12, c13, c14, c15, c16⟩ := f2
        have oL := old_0 c14 rfl
        have oH := old_0 c12 rfl
        have d7 := c7
        simp only [wd_fl] at d7
        have d15 := c15
        simp only [wd_fl] at d15
        have d3 := c3
        simp only [wd_fl] at d3
        have d13 := c13
        simp only [wd_fl] at d13
        have hlh : lowI (nv β 4) < highI (nv β 4) := by
          have : nv β 4 / 3 ≤ 5 := by omega
          unfold highI lowI; (repeat' split) <;> omega
        have hR2 : sm_S (S'.1 840) 12 < sm_S (S2.1 840) 12 := by
          rw [f5, sm_i (by omega), sm_i (by omega), fw_i_row, if_neg (by omega), i32_of (by omega) (by omega), i32_of (by omega) (by omega)]
          have u1 : nv β 18 = nv β 7 := by omega
          have u2 : nv β 24 = nv β 10 := by omega
          rw [u1, u2, oL, oH]
          omega
        refine ihj _ _ _ Ha (by omega) (Or.inr (by omega)) (by rw [nv_mu (v := 30) rfl]; omega)
      · have Ha := hd_go (q := kh_wReach_a67) (n := 0) (by decide +kernel) hx H1 hxa hf
        have hst : st' = [] := by
          have := H1.2.2.2.1
          match st', this with
          | [], _ => rfl
          | _ :: _, z => exact z.elim
        subst hst
        have eg : nv α1 3 = nv α 3 := nv_le hle (by omega)
        have et : nv α1 4 = nv α 4 := nv_le hle (by omega)
        have eg1 : nv β 3 = nv α1 3 := nv_le H1.1 (by omega)
        have et1 : nv β 4 = nv α1 4 := nv_le H1.1 (by omega)
        have hb := hbd _ _ _ _ _ H2 (by decide +kernel)
        obtain ⟨f1, f2, f3, f4, f5⟩ := as_fx H1
        simp only [kh_wReach_b67_11, fx_env, fx_c, fx_ne, fx_hf, wl_S, Nat.zero_add, Nat.reduceAdd, Nat.reduceDiv, Nat.reduceMod, List.getElem?_cons_zero, List.getElem?_cons_succ, if_true, and_true, true_and] at f1 f2 f3 f4 f5
        have fe0 : nv β 0 = 805 := by omega
        have fe5 : nv β 5 = 17 := by omega
        have fe6 : nv β 6 = 840 := by omega
        have fe9 : nv β 9 = 840 := by omega
        have fe12 : nv β 12 = 1 := by omega
        have fe14 : nv β 14 = 1 := by omega
        have fe16 : nv β 16 = 0 := by omega
        simp only [fe0, fe5, fe6, fe9, fe12, fe14, fe16, Int.reduceToNat] at f2 f3 f4 f5
        rw [f5] at Ha ⊢
        refine ihj _ _ _ Ha (by omega) (by rw [nv_mu (v := 3) rfl]; omega) (by rw [nv_mu (v := 17) rfl]; omega)
    obtain ⟨α1, hle, Hr⟩ := as_rec_in (pl := []) rfl H
    have hf := H.2.2.2.2.2.2.2.2.2.2.1
    have hl1 : α1.length = 4 := by rw [Hr.2.1.1]; rfl
    have hxa : al_le xs α1 := H.1.trans hle
    refine hd_seg G (na := 4) (fuel := 400) (first := true) (Bs := [kh_wReach_b58_0, kh_wReach_b58_1]) (by decide +kernel) hl1 Hr ?_
    intro q hq β lv' st' S' H1
    simp only [List.mem_cons, List.not_mem_nil, or_false] at hq
    rcases hq with rfl | rfl
    · exact hd_run G (ss := []) (fuel := 10) (by decide +kernel) (as_back H1 hxa hf)
    · have Ha := hd_go (q := kh_wReach_a67) (n := 0) (by decide +kernel) hx H1 hxa hf
      have hst : st' = [] := by
        have := H1.2.2.2.1
        match st', this with
        | [], _ => rfl
        | _ :: _, z => exact z.elim
      subst hst
      obtain ⟨f1, f2, f3, f4, f5⟩ := as_fx H1
      simp only [kh_wReach_b58_1, fx_env, fx_c, fx_ne, fx_hf, wl_S, Nat.zero_add, Nat.reduceAdd, Nat.reduceDiv, Nat.reduceMod, List.getElem?_cons_zero, List.getElem?_cons_succ, if_true, and_true, true_and] at f1 f2 f3 f4 f5
      have fe0 : nv β 0 = 805 := by omega
      have fe3 : nv β 3 = 1 := by omega
      have fe4 : nv β 4 = 0 := by omega
      have fe5 : nv β 5 = 0 := by omega
      simp only [fe0, fe3, fe4, fe5, Int.reduceToNat] at f2 f3 f4 f5
      rw [f5] at Ha ⊢
      exact hI _ _ _ _ Ha (Int.le_refl _) (Or.inl (by rw [nv_mu (v := 4) rfl]; omega)) (Nat.lt_succ_self _)
  refine hd_segA G (na := 3) (K := 1) (fuel := 400) (an := [kh_wReach_a2]) (ss := []) (Bs := [kh_wReach_e0, kh_wReach_e1]) (by decide +kernel) hx H0 ?_
  intro q hq β lv' st' S' H1
  simp only [List.mem_cons, List.not_mem_nil, or_false] at hq
  rcases hq with rfl | rfl
  · have hst : st' = [] := by
      have := H1.2.2.2.1
      match st', this with
      | [], _ => rfl
      | _ :: _, z => exact z.elim
    subst hst
    exact hW _ _ _ _ (hd_go (q := kh_wReach_a58) (n := 0) (by decide +kernel) hx H1 al_le.refl H0.2.2.2.2.2.2.2.2.2.2.1) (Nat.lt_succ_self _)
  · have hst : st' = [] := by
      have := H1.2.2.2.1
      match st', this with
      | [], _ => rfl
      | _ :: _, z => exact z.elim
    subst hst
    exact hW _ _ _ _ (hd_go (q := kh_wReach_a58) (n := 0) (by decide +kernel) hx H1 al_le.refl H0.2.2.2.2.2.2.2.2.2.2.1) (Nat.lt_succ_self _))
