/-! ===== reachFrom, sideOf: what is reached only grows ===== -/
/- UtilityWorksModel link -/
def kh_0 : ct_T := (357, [(2, 805, 805, 0), (0, 0, 2, 1), (0, 0, 0, 0)], [], [], [(1, (0, 140, 276, 68), [(2, 805, 805, 0), (0, 0, 2, 1), (0, 0, 0, 0)], [], ([], []))], [], 0, 0, 0)
theorem kh_0_ok : ct_ok wd_fl kh_0 := ct_of (ff := wd_ff) (y := (⟨"UtilityWorksModel", "link", "(II)I"⟩, prog_14_method_16_code, 3, some .int, 12, 1, 2, 32207, 32206, 5005, 21014)) (Cs := []) (an := []) (ss := []) (K := 1) (fuel := 4000) wd_fl_ok rfl (List.forall_mem_nil _) (by decide +kernel)
/- UtilityWorksModel hasLink -/
def kh_1 : ct_T := (356, [(2, 805, 805, 0), (0, 0, 2, 1), (0, 0, 0, 0)], [], [], [(1, (0, 0, 0, 0), [(2, 805, 805, 0), (0, 0, 2, 1), (0, 0, 0, 0)], [], ([], [])), (1, (0, 1, 1, 0), [(2, 805, 805, 0), (0, 0, 2, 1), (0, 0, 0, 0)], [], ([], []))], [], 1, 22, 0)
theorem kh_1_ok : ct_ok wd_fl kh_1 := ct_of (ff := wd_ff) (y := (⟨"UtilityWorksModel", "hasLink", "(II)Z"⟩, prog_14_method_17_code, 3, some .boolean, 12, 1, 2, 32203, 32202, 5004, 21014)) (Cs := [kh_0]) (an := []) (ss := []) (K := 1) (fuel := 4000) wd_fl_ok rfl (List.forall_mem_cons.mpr ⟨kh_0_ok, (List.forall_mem_nil _)⟩) (by decide +kernel)
/- UtilityWorksModel isFine -/
def kh_2 : ct_T := (359, [(2, 805, 805, 0), (0, 0, 2, 1), (0, 0, 0, 0)], [], [], [(1, (0, 1, 1, 0), [(2, 805, 805, 0), (0, 0, 2, 1), (0, 0, 0, 0)], [], ([], [])), (1, (0, 0, 0, 0), [(2, 805, 805, 0), (0, 0, 2, 1), (0, 0, 0, 0)], [], ([], []))], [], 2, 44, 0)
theorem kh_2_ok : ct_ok wd_fl kh_2 := ct_of (ff := wd_ff) (y := (⟨"UtilityWorksModel", "isFine", "(II)Z"⟩, prog_14_method_19_code, 3, some .boolean, 12, 1, 2, 32215, 32214, 5007, 21014)) (Cs := [kh_1, kh_0]) (an := [(30, 0, ([((2, 805, 805, 0), none), ((0, 0, 2, 1), none), ((0, 0, 0, 0), none)], [(0, 0), (1, 1), (2, 2)], [], [], [], [], [], [], none), [(0, 0, 99970)])]) (ss := []) (K := 1) (fuel := 4000) wd_fl_ok rfl (List.forall_mem_cons.mpr ⟨kh_1_ok, (List.forall_mem_cons.mpr ⟨kh_0_ok, (List.forall_mem_nil _)⟩)⟩) (by decide +kernel)
/- UtilityWorksModel isOn -/
def kh_3 : ct_T := (360, [(2, 805, 805, 0), (0, 0, 2, 1), (0, 0, 0, 0)], [], [], [(1, (0, 1, 1, 0), [(2, 805, 805, 0), (0, 0, 2, 1), (0, 0, 0, 0)], [], ([], [])), (1, (0, 0, 0, 0), [(2, 805, 805, 0), (0, 0, 2, 1), (0, 0, 0, 0)], [], ([], []))], [], 2, 44, 0)
theorem kh_3_ok : ct_ok wd_fl kh_3 := ct_of (ff := wd_ff) (y := (⟨"UtilityWorksModel", "isOn", "(II)Z"⟩, prog_14_method_20_code, 3, some .boolean, 12, 1, 2, 32219, 32218, 5008, 21014)) (Cs := [kh_1, kh_0]) (an := [(30, 0, ([((2, 805, 805, 0), none), ((0, 0, 2, 1), none), ((0, 0, 0, 0), none)], [(0, 0), (1, 1), (2, 2)], [], [], [], [], [], [], none), [(0, 0, 99970)])]) (ss := []) (K := 1) (fuel := 4000) wd_fl_ok rfl (List.forall_mem_cons.mpr ⟨kh_1_ok, (List.forall_mem_cons.mpr ⟨kh_0_ok, (List.forall_mem_nil _)⟩)⟩) (by decide +kernel)
/- UtilityWorksModel leads -/
def kh_4 : ct_T := (358, [(2, 805, 805, 0), (0, 0, 2, 1), (0, 0, 0, 0)], [], [], [(1, (0, 1, 1, 0), [(2, 805, 805, 0), (0, 0, 2, 1), (0, 0, 0, 0)], [], ([], [])), (1, (0, 0, 0, 0), [(2, 805, 805, 0), (0, 0, 2, 1), (0, 0, 0, 0)], [], ([], []))], [], 3, 66, 0)
theorem kh_4_ok : ct_ok wd_fl kh_4 := ct_of (ff := wd_ff) (y := (⟨"UtilityWorksModel", "leads", "(II)Z"⟩, prog_14_method_21_code, 3, some .boolean, 12, 1, 2, 32211, 32210, 5006, 21014)) (Cs := [kh_2, kh_3]) (an := [(22, 0, ([((2, 805, 805, 0), none), ((0, 0, 2, 1), none), ((0, 0, 0, 0), none)], [(0, 0), (1, 1), (2, 2)], [], [], [], [], [], [], none), [(0, 0, 99978)])]) (ss := []) (K := 1) (fuel := 4000) wd_fl_ok rfl (List.forall_mem_cons.mpr ⟨kh_2_ok, (List.forall_mem_cons.mpr ⟨kh_3_ok, (List.forall_mem_nil _)⟩)⟩) (by decide +kernel)
/- UtilityWorksModel link -/
def kh_5 : ct_T := (357, [(2, 805, 805, 0), (0, 0, 2, 1), (0, 0, 1, 1)], [], [], [(1, (0, 140, 280, 4), [(2, 805, 805, 0), (0, 0, 2, 1), (0, 0, 1, 1)], [], ([], []))], [], 0, 0, 0)
theorem kh_5_ok : ct_ok wd_fl kh_5 := ct_of (ff := wd_ff) (y := (⟨"UtilityWorksModel", "link", "(II)I"⟩, prog_14_method_16_code, 3, some .int, 12, 1, 2, 32207, 32206, 5005, 21014)) (Cs := []) (an := []) (ss := []) (K := 1) (fuel := 4000) wd_fl_ok rfl (List.forall_mem_nil _) (by decide +kernel)
/- UtilityWorksModel hasLink -/
def kh_6 : ct_T := (356, [(2, 805, 805, 0), (0, 0, 2, 1), (0, 0, 1, 1)], [], [], [(1, (0, 0, 0, 0), [(2, 805, 805, 0), (0, 0, 2, 1), (0, 0, 1, 1)], [], ([], [])), (1, (0, 1, 1, 0), [(2, 805, 805, 0), (0, 0, 2, 1), (0, 0, 1, 1)], [], ([], []))], [], 1, 22, 0)
theorem kh_6_ok : ct_ok wd_fl kh_6 := ct_of (ff := wd_ff) (y := (⟨"UtilityWorksModel", "hasLink", "(II)Z"⟩, prog_14_method_17_code, 3, some .boolean, 12, 1, 2, 32203, 32202, 5004, 21014)) (Cs := [kh_5]) (an := []) (ss := []) (K := 1) (fuel := 4000) wd_fl_ok rfl (List.forall_mem_cons.mpr ⟨kh_5_ok, (List.forall_mem_nil _)⟩) (by decide +kernel)
/- UtilityWorksModel isFine -/
def kh_7 : ct_T := (359, [(2, 805, 805, 0), (0, 0, 2, 1), (0, 0, 1, 1)], [], [], [(1, (0, 1, 1, 0), [(2, 805, 805, 0), (0, 0, 2, 1), (0, 0, 1, 1)], [], ([], [])), (1, (0, 0, 0, 0), [(2, 805, 805, 0), (0, 0, 2, 1), (0, 0, 1, 1)], [], ([], []))], [], 2, 44, 0)
theorem kh_7_ok : ct_ok wd_fl kh_7 := ct_of (ff := wd_ff) (y := (⟨"UtilityWorksModel", "isFine", "(II)Z"⟩, prog_14_method_19_code, 3, some .boolean, 12, 1, 2, 32215, 32214, 5007, 21014)) (Cs := [kh_6, kh_5]) (an := [(30, 0, ([((2, 805, 805, 0), none), ((0, 0, 2, 1), none), ((0, 0, 1, 1), none)], [(0, 0), (1, 1), (2, 2)], [], [], [], [], [], [], none), [(0, 0, 99970)])]) (ss := []) (K := 1) (fuel := 4000) wd_fl_ok rfl (List.forall_mem_cons.mpr ⟨kh_6_ok, (List.forall_mem_cons.mpr ⟨kh_5_ok, (List.forall_mem_nil _)⟩)⟩) (by decide +kernel)
/- UtilityWorksModel isOn -/
def kh_8 : ct_T := (360, [(2, 805, 805, 0), (0, 0, 2, 1), (0, 0, 1, 1)], [], [], [(1, (0, 1, 1, 0), [(2, 805, 805, 0), (0, 0, 2, 1), (0, 0, 1, 1)], [], ([], [])), (1, (0, 0, 0, 0), [(2, 805, 805, 0), (0, 0, 2, 1), (0, 0, 1, 1)], [], ([], []))], [], 2, 44, 0)
theorem kh_8_ok : ct_ok wd_fl kh_8 := ct_of (ff := wd_ff) (y := (⟨"UtilityWorksModel", "isOn", "(II)Z"⟩, prog_14_method_20_code, 3, some .boolean, 12, 1, 2, 32219, 32218, 5008, 21014)) (Cs := [kh_6, kh_5]) (an := [(30, 0, ([((2, 805, 805, 0), none), ((0, 0, 2, 1), none), ((0, 0, 1, 1), none)], [(0, 0), (1, 1), (2, 2)], [], [], [], [], [], [], none), [(0, 0, 99970)])]) (ss := []) (K := 1) (fuel := 4000) wd_fl_ok rfl (List.forall_mem_cons.mpr ⟨kh_6_ok, (List.forall_mem_cons.mpr ⟨kh_5_ok, (List.forall_mem_nil _)⟩)⟩) (by decide +kernel)
/- UtilityWorksModel leads -/
def kh_9 : ct_T := (358, [(2, 805, 805, 0), (0, 0, 2, 1), (0, 0, 1, 1)], [], [], [(1, (0, 1, 1, 0), [(2, 805, 805, 0), (0, 0, 2, 1), (0, 0, 1, 1)], [], ([], [])), (1, (0, 0, 0, 0), [(2, 805, 805, 0), (0, 0, 2, 1), (0, 0, 1, 1)], [], ([], []))], [], 3, 66, 0)
theorem kh_9_ok : ct_ok wd_fl kh_9 := ct_of (ff := wd_ff) (y := (⟨"UtilityWorksModel", "leads", "(II)Z"⟩, prog_14_method_21_code, 3, some .boolean, 12, 1, 2, 32211, 32210, 5006, 21014)) (Cs := [kh_7, kh_8]) (an := [(22, 0, ([((2, 805, 805, 0), none), ((0, 0, 2, 1), none), ((0, 0, 1, 1), none)], [(0, 0), (1, 1), (2, 2)], [], [], [], [], [], [], none), [(0, 0, 99978)])]) (ss := []) (K := 1) (fuel := 4000) wd_fl_ok rfl (List.forall_mem_cons.mpr ⟨kh_7_ok, (List.forall_mem_cons.mpr ⟨kh_8_ok, (List.forall_mem_nil _)⟩)⟩) (by decide +kernel)
/- UtilityWorksModel link -/
def kh_10 : ct_T := (357, [(2, 805, 805, 0), (0, 0, 2, 1), (0, 0, 2, 1)], [], [], [(1, (0, 140, 284, 4), [(2, 805, 805, 0), (0, 0, 2, 1), (0, 0, 2, 1)], [], ([], []))], [], 0, 0, 0)
theorem kh_10_ok : ct_ok wd_fl kh_10 := ct_of (ff := wd_ff) (y := (⟨"UtilityWorksModel", "link", "(II)I"⟩, prog_14_method_16_code, 3, some .int, 12, 1, 2, 32207, 32206, 5005, 21014)) (Cs := []) (an := []) (ss := []) (K := 1) (fuel := 4000) wd_fl_ok rfl (List.forall_mem_nil _) (by decide +kernel)
/- UtilityWorksModel hasLink -/
def kh_11 : ct_T := (356, [(2, 805, 805, 0), (0, 0, 2, 1), (0, 0, 2, 1)], [], [], [(1, (0, 0, 0, 0), [(2, 805, 805, 0), (0, 0, 2, 1), (0, 0, 2, 1)], [], ([], [])), (1, (0, 1, 1, 0), [(2, 805, 805, 0), (0, 0, 2, 1), (0, 0, 2, 1)], [], ([], []))], [], 1, 22, 0)
theorem kh_11_ok : ct_ok wd_fl kh_11 := ct_of (ff := wd_ff) (y := (⟨"UtilityWorksModel", "hasLink", "(II)Z"⟩, prog_14_method_17_code, 3, some .boolean, 12, 1, 2, 32203, 32202, 5004, 21014)) (Cs := [kh_10]) (an := []) (ss := []) (K := 1) (fuel := 4000) wd_fl_ok rfl (List.forall_mem_cons.mpr ⟨kh_10_ok, (List.forall_mem_nil _)⟩) (by decide +kernel)
/- UtilityWorksModel isFine -/
def kh_12 : ct_T := (359, [(2, 805, 805, 0), (0, 0, 2, 1), (0, 0, 2, 1)], [], [], [(1, (0, 1, 1, 0), [(2, 805, 805, 0), (0, 0, 2, 1), (0, 0, 2, 1)], [], ([], [])), (1, (0, 0, 0, 0), [(2, 805, 805, 0), (0, 0, 2, 1), (0, 0, 2, 1)], [], ([], []))], [], 2, 44, 0)
theorem kh_12_ok : ct_ok wd_fl kh_12 := ct_of (ff := wd_ff) (y := (⟨"UtilityWorksModel", "isFine", "(II)Z"⟩, prog_14_method_19_code, 3, some .boolean, 12, 1, 2, 32215, 32214, 5007, 21014)) (Cs := [kh_11, kh_10]) (an := [(30, 0, ([((2, 805, 805, 0), none), ((0, 0, 2, 1), none), ((0, 0, 2, 1), none)], [(0, 0), (1, 1), (2, 2)], [], [], [], [], [], [], none), [(0, 0, 99970)])]) (ss := []) (K := 1) (fuel := 4000) wd_fl_ok rfl (List.forall_mem_cons.mpr ⟨kh_11_ok, (List.forall_mem_cons.mpr ⟨kh_10_ok, (List.forall_mem_nil _)⟩)⟩) (by decide +kernel)
/- UtilityWorksModel isOn -/
def kh_13 : ct_T := (360, [(2, 805, 805, 0), (0, 0, 2, 1), (0, 0, 2, 1)], [], [], [(1, (0, 1, 1, 0), [(2, 805, 805, 0), (0, 0, 2, 1), (0, 0, 2, 1)], [], ([], [])), (1, (0, 0, 0, 0), [(2, 805, 805, 0), (0, 0, 2, 1), (0, 0, 2, 1)], [], ([], []))], [], 2, 44, 0)
theorem kh_13_ok : ct_ok wd_fl kh_13 := ct_of (ff := wd_ff) (y := (⟨"UtilityWorksModel", "isOn", "(II)Z"⟩, prog_14_method_20_code, 3, some .boolean, 12, 1, 2, 32219, 32218, 5008, 21014)) (Cs := [kh_11, kh_10]) (an := [(30, 0, ([((2, 805, 805, 0), none), ((0, 0, 2, 1), none), ((0, 0, 2, 1), none)], [(0, 0), (1, 1), (2, 2)], [], [], [], [], [], [], none), [(0, 0, 99970)])]) (ss := []) (K := 1) (fuel := 4000) wd_fl_ok rfl (List.forall_mem_cons.mpr ⟨kh_11_ok, (List.forall_mem_cons.mpr ⟨kh_10_ok, (List.forall_mem_nil _)⟩)⟩) (by decide +kernel)
/- UtilityWorksModel leads -/
def kh_14 : ct_T := (358, [(2, 805, 805, 0), (0, 0, 2, 1), (0, 0, 2, 1)], [], [], [(1, (0, 1, 1, 0), [(2, 805, 805, 0), (0, 0, 2, 1), (0, 0, 2, 1)], [], ([], [])), (1, (0, 0, 0, 0), [(2, 805, 805, 0), (0, 0, 2, 1), (0, 0, 2, 1)], [], ([], []))], [], 3, 66, 0)
theorem kh_14_ok : ct_ok wd_fl kh_14 := ct_of (ff := wd_ff) (y := (⟨"UtilityWorksModel", "leads", "(II)Z"⟩, prog_14_method_21_code, 3, some .boolean, 12, 1, 2, 32211, 32210, 5006, 21014)) (Cs := [kh_12, kh_13]) (an := [(22, 0, ([((2, 805, 805, 0), none), ((0, 0, 2, 1), none), ((0, 0, 2, 1), none)], [(0, 0), (1, 1), (2, 2)], [], [], [], [], [], [], none), [(0, 0, 99978)])]) (ss := []) (K := 1) (fuel := 4000) wd_fl_ok rfl (List.forall_mem_cons.mpr ⟨kh_12_ok, (List.forall_mem_cons.mpr ⟨kh_13_ok, (List.forall_mem_nil _)⟩)⟩) (by decide +kernel)
/- UtilityWorksModel link -/
def kh_15 : ct_T := (357, [(2, 805, 805, 0), (0, 0, 2, 1), (0, 0, 3, 1)], [], [], [(1, (0, 140, 288, 4), [(2, 805, 805, 0), (0, 0, 2, 1), (0, 0, 3, 1)], [], ([], []))], [], 0, 0, 0)
theorem kh_15_ok : ct_ok wd_fl kh_15 := ct_of (ff := wd_ff) (y := (⟨"UtilityWorksModel", "link", "(II)I"⟩, prog_14_method_16_code, 3, some .int, 12, 1, 2, 32207, 32206, 5005, 21014)) (Cs := []) (an := []) (ss := []) (K := 1) (fuel := 4000) wd_fl_ok rfl (List.forall_mem_nil _) (by decide +kernel)
/- UtilityWorksModel hasLink -/
def kh_16 : ct_T := (356, [(2, 805, 805, 0), (0, 0, 2, 1), (0, 0, 3, 1)], [], [], [(1, (0, 0, 0, 0), [(2, 805, 805, 0), (0, 0, 2, 1), (0, 0, 3, 1)], [], ([], [])), (1, (0, 1, 1, 0), [(2, 805, 805, 0), (0, 0, 2, 1), (0, 0, 3, 1)], [], ([], []))], [], 1, 22, 0)
theorem kh_16_ok : ct_ok wd_fl kh_16 := ct_of (ff := wd_ff) (y := (⟨"UtilityWorksModel", "hasLink", "(II)Z"⟩, prog_14_method_17_code, 3, some .boolean, 12, 1, 2, 32203, 32202, 5004, 21014)) (Cs := [kh_15]) (an := []) (ss := []) (K := 1) (fuel := 4000) wd_fl_ok rfl (List.forall_mem_cons.mpr ⟨kh_15_ok, (List.forall_mem_nil _)⟩) (by decide +kernel)
/- UtilityWorksModel isFine -/
def kh_17 : ct_T := (359, [(2, 805, 805, 0), (0, 0, 2, 1), (0, 0, 3, 1)], [], [], [(1, (0, 1, 1, 0), [(2, 805, 805, 0), (0, 0, 2, 1), (0, 0, 3, 1)], [], ([], [])), (1, (0, 0, 0, 0), [(2, 805, 805, 0), (0, 0, 2, 1), (0, 0, 3, 1)], [], ([], []))], [], 2, 44, 0)
theorem kh_17_ok : ct_ok wd_fl kh_17 := ct_of (ff := wd_ff) (y := (⟨"UtilityWorksModel", "isFine", "(II)Z"⟩, prog_14_method_19_code, 3, some .boolean, 12, 1, 2, 32215, 32214, 5007, 21014)) (Cs := [kh_16, kh_15]) (an := [(30, 0, ([((2, 805, 805, 0), none), ((0, 0, 2, 1), none), ((0, 0, 3, 1), none)], [(0, 0), (1, 1), (2, 2)], [], [], [], [], [], [], none), [(0, 0, 99970)])]) (ss := []) (K := 1) (fuel := 4000) wd_fl_ok rfl (List.forall_mem_cons.mpr ⟨kh_16_ok, (List.forall_mem_cons.mpr ⟨kh_15_ok, (List.forall_mem_nil _)⟩)⟩) (by decide +kernel)
/- UtilityWorksModel isOn -/
def kh_18 : ct_T := (360, [(2, 805, 805, 0), (0, 0, 2, 1), (0, 0, 3, 1)], [], [], [(1, (0, 1, 1, 0), [(2, 805, 805, 0), (0, 0, 2, 1), (0, 0, 3, 1)], [], ([], [])), (1, (0, 0, 0, 0), [(2, 805, 805, 0), (0, 0, 2, 1), (0, 0, 3, 1)], [], ([], []))], [], 2, 44, 0)
theorem kh_18_ok : ct_ok wd_fl kh_18 := ct_of (ff := wd_ff) (y := (⟨"UtilityWorksModel", "isOn", "(II)Z"⟩, prog_14_method_20_code, 3, some .boolean, 12, 1, 2, 32219, 32218, 5008, 21014)) (Cs := [kh_16, kh_15]) (an := [(30, 0, ([((2, 805, 805, 0), none), ((0, 0, 2, 1), none), ((0, 0, 3, 1), none)], [(0, 0), (1, 1), (2, 2)], [], [], [], [], [], [], none), [(0, 0, 99970)])]) (ss := []) (K := 1) (fuel := 4000) wd_fl_ok rfl (List.forall_mem_cons.mpr ⟨kh_16_ok, (List.forall_mem_cons.mpr ⟨kh_15_ok, (List.forall_mem_nil _)⟩)⟩) (by decide +kernel)
/- UtilityWorksModel leads -/
def kh_19 : ct_T := (358, [(2, 805, 805, 0), (0, 0, 2, 1), (0, 0, 3, 1)], [], [], [(1, (0, 1, 1, 0), [(2, 805, 805, 0), (0, 0, 2, 1), (0, 0, 3, 1)], [], ([], [])), (1, (0, 0, 0, 0), [(2, 805, 805, 0), (0, 0, 2, 1), (0, 0, 3, 1)], [], ([], []))], [], 3, 66, 0)
theorem kh_19_ok : ct_ok wd_fl kh_19 := ct_of (ff := wd_ff) (y := (⟨"UtilityWorksModel", "leads", "(II)Z"⟩, prog_14_method_21_code, 3, some .boolean, 12, 1, 2, 32211, 32210, 5006, 21014)) (Cs := [kh_17, kh_18]) (an := [(22, 0, ([((2, 805, 805, 0), none), ((0, 0, 2, 1), none), ((0, 0, 3, 1), none)], [(0, 0), (1, 1), (2, 2)], [], [], [], [], [], [], none), [(0, 0, 99978)])]) (ss := []) (K := 1) (fuel := 4000) wd_fl_ok rfl (List.forall_mem_cons.mpr ⟨kh_17_ok, (List.forall_mem_cons.mpr ⟨kh_18_ok, (List.forall_mem_nil _)⟩)⟩) (by decide +kernel)
/- UtilityWorksModel link -/
def kh_20 : ct_T := (357, [(2, 805, 805, 0), (0, 0, 2, 1), (0, 0, 4, 1)], [], [], [(1, (0, 140, 292, 4), [(2, 805, 805, 0), (0, 0, 2, 1), (0, 0, 4, 1)], [], ([], []))], [], 0, 0, 0)
theorem kh_20_ok : ct_ok wd_fl kh_20 := ct_of (ff := wd_ff) (y := (⟨"UtilityWorksModel", "link", "(II)I"⟩, prog_14_method_16_code, 3, some .int, 12, 1, 2, 32207, 32206, 5005, 21014)) (Cs := []) (an := []) (ss := []) (K := 1) (fuel := 4000) wd_fl_ok rfl (List.forall_mem_nil _) (by decide +kernel)
/- UtilityWorksModel hasLink -/
def kh_21 : ct_T := (356, [(2, 805, 805, 0), (0, 0, 2, 1), (0, 0, 4, 1)], [], [], [(1, (0, 0, 0, 0), [(2, 805, 805, 0), (0, 0, 2, 1), (0, 0, 4, 1)], [], ([], [])), (1, (0, 1, 1, 0), [(2, 805, 805, 0), (0, 0, 2, 1), (0, 0, 4, 1)], [], ([], []))], [], 1, 22, 0)
theorem kh_21_ok : ct_ok wd_fl kh_21 := ct_of (ff := wd_ff) (y := (⟨"UtilityWorksModel", "hasLink", "(II)Z"⟩, prog_14_method_17_code, 3, some .boolean, 12, 1, 2, 32203, 32202, 5004, 21014)) (Cs := [kh_20]) (an := []) (ss := []) (K := 1) (fuel := 4000) wd_fl_ok rfl (List.forall_mem_cons.mpr ⟨kh_20_ok, (List.forall_mem_nil _)⟩) (by decide +kernel)
/- UtilityWorksModel isFine -/
def kh_22 : ct_T := (359, [(2, 805, 805, 0), (0, 0, 2, 1), (0, 0, 4, 1)], [], [], [(1, (0, 1, 1, 0), [(2, 805, 805, 0), (0, 0, 2, 1), (0, 0, 4, 1)], [], ([], [])), (1, (0, 0, 0, 0), [(2, 805, 805, 0), (0, 0, 2, 1), (0, 0, 4, 1)], [], ([], []))], [], 2, 44, 0)
theorem kh_22_ok : ct_ok wd_fl kh_22 := ct_of (ff := wd_ff) (y := (⟨"UtilityWorksModel", "isFine", "(II)Z"⟩, prog_14_method_19_code, 3, some .boolean, 12, 1, 2, 32215, 32214, 5007, 21014)) (Cs := [kh_21, kh_20]) (an := [(30, 0, ([((2, 805, 805, 0), none), ((0, 0, 2, 1), none), ((0, 0, 4, 1), none)], [(0, 0), (1, 1), (2, 2)], [], [], [], [], [], [], none), [(0, 0, 99970)])]) (ss := []) (K := 1) (fuel := 4000) wd_fl_ok rfl (List.forall_mem_cons.mpr ⟨kh_21_ok, (List.forall_mem_cons.mpr ⟨kh_20_ok, (List.forall_mem_nil _)⟩)⟩) (by decide +kernel)
/- UtilityWorksModel isOn -/
def kh_23 : ct_T := (360, [(2, 805, 805, 0), (0, 0, 2, 1), (0, 0, 4, 1)], [], [], [(1, (0, 1, 1, 0), [(2, 805, 805, 0), (0, 0, 2, 1), (0, 0, 4, 1)], [], ([], [])), (1, (0, 0, 0, 0), [(2, 805, 805, 0), (0, 0, 2, 1), (0, 0, 4, 1)], [], ([], []))], [], 2, 44, 0)
theorem kh_23_ok : ct_ok wd_fl kh_23 := ct_of (ff := wd_ff) (y := (⟨"UtilityWorksModel", "isOn", "(II)Z"⟩, prog_14_method_20_code, 3, some .boolean, 12, 1, 2, 32219, 32218, 5008, 21014)) (Cs := [kh_21, kh_20]) (an := [(30, 0, ([((2, 805, 805, 0), none), ((0, 0, 2, 1), none), ((0, 0, 4, 1), none)], [(0, 0), (1, 1), (2, 2)], [], [], [], [], [], [], none), [(0, 0, 99970)])]) (ss := []) (K := 1) (fuel := 4000) wd_fl_ok rfl (List.forall_mem_cons.mpr ⟨kh_21_ok, (List.forall_mem_cons.mpr ⟨kh_20_ok, (List.forall_mem_nil _)⟩)⟩) (by decide +kernel)
/- UtilityWorksModel leads -/
def kh_24 : ct_T := (358, [(2, 805, 805, 0), (0, 0, 2, 1), (0, 0, 4, 1)], [], [], [(1, (0, 1, 1, 0), [(2, 805, 805, 0), (0, 0, 2, 1), (0, 0, 4, 1)], [], ([], [])), (1, (0, 0, 0, 0), [(2, 805, 805, 0), (0, 0, 2, 1), (0, 0, 4, 1)], [], ([], []))], [], 3, 66, 0)
theorem kh_24_ok : ct_ok wd_fl kh_24 := ct_of (ff := wd_ff) (y := (⟨"UtilityWorksModel", "leads", "(II)Z"⟩, prog_14_method_21_code, 3, some .boolean, 12, 1, 2, 32211, 32210, 5006, 21014)) (Cs := [kh_22, kh_23]) (an := [(22, 0, ([((2, 805, 805, 0), none), ((0, 0, 2, 1), none), ((0, 0, 4, 1), none)], [(0, 0), (1, 1), (2, 2)], [], [], [], [], [], [], none), [(0, 0, 99978)])]) (ss := []) (K := 1) (fuel := 4000) wd_fl_ok rfl (List.forall_mem_cons.mpr ⟨kh_22_ok, (List.forall_mem_cons.mpr ⟨kh_23_ok, (List.forall_mem_nil _)⟩)⟩) (by decide +kernel)
/- UtilityWorksModel link -/
def kh_25 : ct_T := (357, [(2, 805, 805, 0), (0, 0, 2, 1), (0, 0, 5, 1)], [], [], [(1, (0, 140, 296, 4), [(2, 805, 805, 0), (0, 0, 2, 1), (0, 0, 5, 1)], [], ([], []))], [], 0, 0, 0)
theorem kh_25_ok : ct_ok wd_fl kh_25 := ct_of (ff := wd_ff) (y := (⟨"UtilityWorksModel", "link", "(II)I"⟩, prog_14_method_16_code, 3, some .int, 12, 1, 2, 32207, 32206, 5005, 21014)) (Cs := []) (an := []) (ss := []) (K := 1) (fuel := 4000) wd_fl_ok rfl (List.forall_mem_nil _) (by decide +kernel)
/- UtilityWorksModel hasLink -/
def kh_26 : ct_T := (356, [(2, 805, 805, 0), (0, 0, 2, 1), (0, 0, 5, 1)], [], [], [(1, (0, 0, 0, 0), [(2, 805, 805, 0), (0, 0, 2, 1), (0, 0, 5, 1)], [], ([], [])), (1, (0, 1, 1, 0), [(2, 805, 805, 0), (0, 0, 2, 1), (0, 0, 5, 1)], [], ([], []))], [], 1, 22, 0)
theorem kh_26_ok : ct_ok wd_fl kh_26 := ct_of (ff := wd_ff) (y := (⟨"UtilityWorksModel", "hasLink", "(II)Z"⟩, prog_14_method_17_code, 3, some .boolean, 12, 1, 2, 32203, 32202, 5004, 21014)) (Cs := [kh_25]) (an := []) (ss := []) (K := 1) (fuel := 4000) wd_fl_ok rfl (List.forall_mem_cons.mpr ⟨kh_25_ok, (List.forall_mem_nil _)⟩) (by decide +kernel)
/- UtilityWorksModel isFine -/
def kh_27 : ct_T := (359, [(2, 805, 805, 0), (0, 0, 2, 1), (0, 0, 5, 1)], [], [], [(1, (0, 1, 1, 0), [(2, 805, 805, 0), (0, 0, 2, 1), (0, 0, 5, 1)], [], ([], [])), (1, (0, 0, 0, 0), [(2, 805, 805, 0), (0, 0, 2, 1), (0, 0, 5, 1)], [], ([], []))], [], 2, 44, 0)
theorem kh_27_ok : ct_ok wd_fl kh_27 := ct_of (ff := wd_ff) (y := (⟨"UtilityWorksModel", "isFine", "(II)Z"⟩, prog_14_method_19_code, 3, some .boolean, 12, 1, 2, 32215, 32214, 5007, 21014)) (Cs := [kh_26, kh_25]) (an := [(30, 0, ([((2, 805, 805, 0), none), ((0, 0, 2, 1), none), ((0, 0, 5, 1), none)], [(0, 0), (1, 1), (2, 2)], [], [], [], [], [], [], none), [(0, 0, 99970)])]) (ss := []) (K := 1) (fuel := 4000) wd_fl_ok rfl (List.forall_mem_cons.mpr ⟨kh_26_ok, (List.forall_mem_cons.mpr ⟨kh_25_ok, (List.forall_mem_nil _)⟩)⟩) (by decide +kernel)
/- UtilityWorksModel isOn -/
def kh_28 : ct_T := (360, [(2, 805, 805, 0), (0, 0, 2, 1), (0, 0, 5, 1)], [], [], [(1, (0, 1, 1, 0), [(2, 805, 805, 0), (0, 0, 2, 1), (0, 0, 5, 1)], [], ([], [])), (1, (0, 0, 0, 0), [(2, 805, 805, 0), (0, 0, 2, 1), (0, 0, 5, 1)], [], ([], []))], [], 2, 44, 0)
theorem kh_28_ok : ct_ok wd_fl kh_28 := ct_of (ff := wd_ff) (y := (⟨"UtilityWorksModel", "isOn", "(II)Z"⟩, prog_14_method_20_code, 3, some .boolean, 12, 1, 2, 32219, 32218, 5008, 21014)) (Cs := [kh_26, kh_25]) (an := [(30, 0, ([((2, 805, 805, 0), none), ((0, 0, 2, 1), none), ((0, 0, 5, 1), none)], [(0, 0), (1, 1), (2, 2)], [], [], [], [], [], [], none), [(0, 0, 99970)])]) (ss := []) (K := 1) (fuel := 4000) wd_fl_ok rfl (List.forall_mem_cons.mpr ⟨kh_26_ok, (List.forall_mem_cons.mpr ⟨kh_25_ok, (List.forall_mem_nil _)⟩)⟩) (by decide +kernel)
/- UtilityWorksModel leads -/
def kh_29 : ct_T := (358, [(2, 805, 805, 0), (0, 0, 2, 1), (0, 0, 5, 1)], [], [], [(1, (0, 1, 1, 0), [(2, 805, 805, 0), (0, 0, 2, 1), (0, 0, 5, 1)], [], ([], [])), (1, (0, 0, 0, 0), [(2, 805, 805, 0), (0, 0, 2, 1), (0, 0, 5, 1)], [], ([], []))], [], 3, 66, 0)
theorem kh_29_ok : ct_ok wd_fl kh_29 := ct_of (ff := wd_ff) (y := (⟨"UtilityWorksModel", "leads", "(II)Z"⟩, prog_14_method_21_code, 3, some .boolean, 12, 1, 2, 32211, 32210, 5006, 21014)) (Cs := [kh_27, kh_28]) (an := [(22, 0, ([((2, 805, 805, 0), none), ((0, 0, 2, 1), none), ((0, 0, 5, 1), none)], [(0, 0), (1, 1), (2, 2)], [], [], [], [], [], [], none), [(0, 0, 99978)])]) (ss := []) (K := 1) (fuel := 4000) wd_fl_ok rfl (List.forall_mem_cons.mpr ⟨kh_27_ok, (List.forall_mem_cons.mpr ⟨kh_28_ok, (List.forall_mem_nil _)⟩)⟩) (by decide +kernel)
/- UtilityWorksModel link -/
def kh_30 : ct_T := (357, [(2, 805, 805, 0), (0, 0, 2, 1), (0, 0, 6, 1)], [], [], [(1, (0, 140, 300, 4), [(2, 805, 805, 0), (0, 0, 2, 1), (0, 0, 6, 1)], [], ([], []))], [], 0, 0, 0)
theorem kh_30_ok : ct_ok wd_fl kh_30 := ct_of (ff := wd_ff) (y := (⟨"UtilityWorksModel", "link", "(II)I"⟩, prog_14_method_16_code, 3, some .int, 12, 1, 2, 32207, 32206, 5005, 21014)) (Cs := []) (an := []) (ss := []) (K := 1) (fuel := 4000) wd_fl_ok rfl (List.forall_mem_nil _) (by decide +kernel)
/- UtilityWorksModel hasLink -/
def kh_31 : ct_T := (356, [(2, 805, 805, 0), (0, 0, 2, 1), (0, 0, 6, 1)], [], [], [(1, (0, 0, 0, 0), [(2, 805, 805, 0), (0, 0, 2, 1), (0, 0, 6, 1)], [], ([], [])), (1, (0, 1, 1, 0), [(2, 805, 805, 0), (0, 0, 2, 1), (0, 0, 6, 1)], [], ([], []))], [], 1, 22, 0)
theorem kh_31_ok : ct_ok wd_fl kh_31 := ct_of (ff := wd_ff) (y := (⟨"UtilityWorksModel", "hasLink", "(II)Z"⟩, prog_14_method_17_code, 3, some .boolean, 12, 1, 2, 32203, 32202, 5004, 21014)) (Cs := [kh_30]) (an := []) (ss := []) (K := 1) (fuel := 4000) wd_fl_ok rfl (List.forall_mem_cons.mpr ⟨kh_30_ok, (List.forall_mem_nil _)⟩) (by decide +kernel)
/- UtilityWorksModel isFine -/
def kh_32 : ct_T := (359, [(2, 805, 805, 0), (0, 0, 2, 1), (0, 0, 6, 1)], [], [], [(1, (0, 1, 1, 0), [(2, 805, 805, 0), (0, 0, 2, 1), (0, 0, 6, 1)], [], ([], [])), (1, (0, 0, 0, 0), [(2, 805, 805, 0), (0, 0, 2, 1), (0, 0, 6, 1)], [], ([], []))], [], 2, 44, 0)
theorem kh_32_ok : ct_ok wd_fl kh_32 := ct_of (ff := wd_ff) (y := (⟨"UtilityWorksModel", "isFine", "(II)Z"⟩, prog_14_method_19_code, 3, some .boolean, 12, 1, 2, 32215, 32214, 5007, 21014)) (Cs := [kh_31, kh_30]) (an := [(30, 0, ([((2, 805, 805, 0), none), ((0, 0, 2, 1), none), ((0, 0, 6, 1), none)], [(0, 0), (1, 1), (2, 2)], [], [], [], [], [], [], none), [(0, 0, 99970)])]) (ss := []) (K := 1) (fuel := 4000) wd_fl_ok rfl (List.forall_mem_cons.mpr ⟨kh_31_ok, (List.forall_mem_cons.mpr ⟨kh_30_ok, (List.forall_mem_nil _)⟩)⟩) (by decide +kernel)
/- UtilityWorksModel isOn -/
def kh_33 : ct_T := (360, [(2, 805, 805, 0), (0, 0, 2, 1), (0, 0, 6, 1)], [], [], [(1, (0, 1, 1, 0), [(2, 805, 805, 0), (0, 0, 2, 1), (0, 0, 6, 1)], [], ([], [])), (1, (0, 0, 0, 0), [(2, 805, 805, 0), (0, 0, 2, 1), (0, 0, 6, 1)], [], ([], []))], [], 2, 44, 0)
theorem kh_33_ok : ct_ok wd_fl kh_33 := ct_of (ff := wd_ff) (y := (⟨"UtilityWorksModel", "isOn", "(II)Z"⟩, prog_14_method_20_code, 3, some .boolean, 12, 1, 2, 32219, 32218, 5008, 21014)) (Cs := [kh_31, kh_30]) (an := [(30, 0, ([((2, 805, 805, 0), none), ((0, 0, 2, 1), none), ((0, 0, 6, 1), none)], [(0, 0), (1, 1), (2, 2)], [], [], [], [], [], [], none), [(0, 0, 99970)])]) (ss := []) (K := 1) (fuel := 4000) wd_fl_ok rfl (List.forall_mem_cons.mpr ⟨kh_31_ok, (List.forall_mem_cons.mpr ⟨kh_30_ok, (List.forall_mem_nil _)⟩)⟩) (by decide +kernel)
/- UtilityWorksModel leads -/
def kh_34 : ct_T := (358, [(2, 805, 805, 0), (0, 0, 2, 1), (0, 0, 6, 1)], [], [], [(1, (0, 1, 1, 0), [(2, 805, 805, 0), (0, 0, 2, 1), (0, 0, 6, 1)], [], ([], [])), (1, (0, 0, 0, 0), [(2, 805, 805, 0), (0, 0, 2, 1), (0, 0, 6, 1)], [], ([], []))], [], 3, 66, 0)
theorem kh_34_ok : ct_ok wd_fl kh_34 := ct_of (ff := wd_ff) (y := (⟨"UtilityWorksModel", "leads", "(II)Z"⟩, prog_14_method_21_code, 3, some .boolean, 12, 1, 2, 32211, 32210, 5006, 21014)) (Cs := [kh_32, kh_33]) (an := [(22, 0, ([((2, 805, 805, 0), none), ((0, 0, 2, 1), none), ((0, 0, 6, 1), none)], [(0, 0), (1, 1), (2, 2)], [], [], [], [], [], [], none), [(0, 0, 99978)])]) (ss := []) (K := 1) (fuel := 4000) wd_fl_ok rfl (List.forall_mem_cons.mpr ⟨kh_32_ok, (List.forall_mem_cons.mpr ⟨kh_33_ok, (List.forall_mem_nil _)⟩)⟩) (by decide +kernel)
/- UtilityWorksModel link -/
def kh_35 : ct_T := (357, [(2, 805, 805, 0), (0, 0, 2, 1), (0, 0, 7, 1)], [], [], [(1, (0, 140, 304, 4), [(2, 805, 805, 0), (0, 0, 2, 1), (0, 0, 7, 1)], [], ([], []))], [], 0, 0, 0)
theorem kh_35_ok : ct_ok wd_fl kh_35 := ct_of (ff := wd_ff) (y := (⟨"UtilityWorksModel", "link", "(II)I"⟩, prog_14_method_16_code, 3, some .int, 12, 1, 2, 32207, 32206, 5005, 21014)) (Cs := []) (an := []) (ss := []) (K := 1) (fuel := 4000) wd_fl_ok rfl (List.forall_mem_nil _) (by decide +kernel)
/- UtilityWorksModel hasLink -/
def kh_36 : ct_T := (356, [(2, 805, 805, 0), (0, 0, 2, 1), (0, 0, 7, 1)], [], [], [(1, (0, 0, 0, 0), [(2, 805, 805, 0), (0, 0, 2, 1), (0, 0, 7, 1)], [], ([], [])), (1, (0, 1, 1, 0), [(2, 805, 805, 0), (0, 0, 2, 1), (0, 0, 7, 1)], [], ([], []))], [], 1, 22, 0)
theorem kh_36_ok : ct_ok wd_fl kh_36 := ct_of (ff := wd_ff) (y := (⟨"UtilityWorksModel", "hasLink", "(II)Z"⟩, prog_14_method_17_code, 3, some .boolean, 12, 1, 2, 32203, 32202, 5004, 21014)) (Cs := [kh_35]) (an := []) (ss := []) (K := 1) (fuel := 4000) wd_fl_ok rfl (List.forall_mem_cons.mpr ⟨kh_35_ok, (List.forall_mem_nil _)⟩) (by decide +kernel)
/- UtilityWorksModel isFine -/
def kh_37 : ct_T := (359, [(2, 805, 805, 0), (0, 0, 2, 1), (0, 0, 7, 1)], [], [], [(1, (0, 1, 1, 0), [(2, 805, 805, 0), (0, 0, 2, 1), (0, 0, 7, 1)], [], ([], [])), (1, (0, 0, 0, 0), [(2, 805, 805, 0), (0, 0, 2, 1), (0, 0, 7, 1)], [], ([], []))], [], 2, 44, 0)
theorem kh_37_ok : ct_ok wd_fl kh_37 := ct_of (ff := wd_ff) (y := (⟨"UtilityWorksModel", "isFine", "(II)Z"⟩, prog_14_method_19_code, 3, some .boolean, 12, 1, 2, 32215, 32214, 5007, 21014)) (Cs := [kh_36, kh_35]) (an := [(30, 0, ([((2, 805, 805, 0), none), ((0, 0, 2, 1), none), ((0, 0, 7, 1), none)], [(0, 0), (1, 1), (2, 2)], [], [], [], [], [], [], none), [(0, 0, 99970)])]) (ss := []) (K := 1) (fuel := 4000) wd_fl_ok rfl (List.forall_mem_cons.mpr ⟨kh_36_ok, (List.forall_mem_cons.mpr ⟨kh_35_ok, (List.forall_mem_nil _)⟩)⟩) (by decide +kernel)
/- UtilityWorksModel isOn -/
def kh_38 : ct_T := (360, [(2, 805, 805, 0), (0, 0, 2, 1), (0, 0, 7, 1)], [], [], [(1, (0, 1, 1, 0), [(2, 805, 805, 0), (0, 0, 2, 1), (0, 0, 7, 1)], [], ([], [])), (1, (0, 0, 0, 0), [(2, 805, 805, 0), (0, 0, 2, 1), (0, 0, 7, 1)], [], ([], []))], [], 2, 44, 0)
theorem kh_38_ok : ct_ok wd_fl kh_38 := ct_of (ff := wd_ff) (y := (⟨"UtilityWorksModel", "isOn", "(II)Z"⟩, prog_14_method_20_code, 3, some .boolean, 12, 1, 2, 32219, 32218, 5008, 21014)) (Cs := [kh_36, kh_35]) (an := [(30, 0, ([((2, 805, 805, 0), none), ((0, 0, 2, 1), none), ((0, 0, 7, 1), none)], [(0, 0), (1, 1), (2, 2)], [], [], [], [], [], [], none), [(0, 0, 99970)])]) (ss := []) (K := 1) (fuel := 4000) wd_fl_ok rfl (List.forall_mem_cons.mpr ⟨kh_36_ok, (List.forall_mem_cons.mpr ⟨kh_35_ok, (List.forall_mem_nil _)⟩)⟩) (by decide +kernel)
/- UtilityWorksModel leads -/
def kh_39 : ct_T := (358, [(2, 805, 805, 0), (0, 0, 2, 1), (0, 0, 7, 1)], [], [], [(1, (0, 1, 1, 0), [(2, 805, 805, 0), (0, 0, 2, 1), (0, 0, 7, 1)], [], ([], [])), (1, (0, 0, 0, 0), [(2, 805, 805, 0), (0, 0, 2, 1), (0, 0, 7, 1)], [], ([], []))], [], 3, 66, 0)
theorem kh_39_ok : ct_ok wd_fl kh_39 := ct_of (ff := wd_ff) (y := (⟨"UtilityWorksModel", "leads", "(II)Z"⟩, prog_14_method_21_code, 3, some .boolean, 12, 1, 2, 32211, 32210, 5006, 21014)) (Cs := [kh_37, kh_38]) (an := [(22, 0, ([((2, 805, 805, 0), none), ((0, 0, 2, 1), none), ((0, 0, 7, 1), none)], [(0, 0), (1, 1), (2, 2)], [], [], [], [], [], [], none), [(0, 0, 99978)])]) (ss := []) (K := 1) (fuel := 4000) wd_fl_ok rfl (List.forall_mem_cons.mpr ⟨kh_37_ok, (List.forall_mem_cons.mpr ⟨kh_38_ok, (List.forall_mem_nil _)⟩)⟩) (by decide +kernel)
/- UtilityWorksModel link -/
def kh_40 : ct_T := (357, [(2, 805, 805, 0), (0, 0, 2, 1), (0, 0, 8, 1)], [], [], [(1, (0, 140, 308, 4), [(2, 805, 805, 0), (0, 0, 2, 1), (0, 0, 8, 1)], [], ([], []))], [], 0, 0, 0)
theorem kh_40_ok : ct_ok wd_fl kh_40 := ct_of (ff := wd_ff) (y := (⟨"UtilityWorksModel", "link", "(II)I"⟩, prog_14_method_16_code, 3, some .int, 12, 1, 2, 32207, 32206, 5005, 21014)) (Cs := []) (an := []) (ss := []) (K := 1) (fuel := 4000) wd_fl_ok rfl (List.forall_mem_nil _) (by decide +kernel)
/- UtilityWorksModel hasLink -/
def kh_41 : ct_T := (356, [(2, 805, 805, 0), (0, 0, 2, 1), (0, 0, 8, 1)], [], [], [(1, (0, 0, 0, 0), [(2, 805, 805, 0), (0, 0, 2, 1), (0, 0, 8, 1)], [], ([], [])), (1, (0, 1, 1, 0), [(2, 805, 805, 0), (0, 0, 2, 1), (0, 0, 8, 1)], [], ([], []))], [], 1, 22, 0)
theorem kh_41_ok : ct_ok wd_fl kh_41 := ct_of (ff := wd_ff) (y := (⟨"UtilityWorksModel", "hasLink", "(II)Z"⟩, prog_14_method_17_code, 3, some .boolean, 12, 1, 2, 32203, 32202, 5004, 21014)) (Cs := [kh_40]) (an := []) (ss := []) (K := 1) (fuel := 4000) wd_fl_ok rfl (List.forall_mem_cons.mpr ⟨kh_40_ok, (List.forall_mem_nil _)⟩) (by decide +kernel)
/- UtilityWorksModel isFine -/
def kh_42 : ct_T := (359, [(2, 805, 805, 0), (0, 0, 2, 1), (0, 0, 8, 1)], [], [], [(1, (0, 1, 1, 0), [(2, 805, 805, 0), (0, 0, 2, 1), (0, 0, 8, 1)], [], ([], [])), (1, (0, 0, 0, 0), [(2, 805, 805, 0), (0, 0, 2, 1), (0, 0, 8, 1)], [], ([], []))], [], 2, 44, 0)
theorem kh_42_ok : ct_ok wd_fl kh_42 := ct_of (ff := wd_ff) (y := (⟨"UtilityWorksModel", "isFine", "(II)Z"⟩, prog_14_method_19_code, 3, some .boolean, 12, 1, 2, 32215, 32214, 5007, 21014)) (Cs := [kh_41, kh_40]) (an := [(30, 0, ([((2, 805, 805, 0), none), ((0, 0, 2, 1), none), ((0, 0, 8, 1), none)], [(0, 0), (1, 1), (2, 2)], [], [], [], [], [], [], none), [(0, 0, 99970)])]) (ss := []) (K := 1) (fuel := 4000) wd_fl_ok rfl (List.forall_mem_cons.mpr ⟨kh_41_ok, (List.forall_mem_cons.mpr ⟨kh_40_ok, (List.forall_mem_nil _)⟩)⟩) (by decide +kernel)
/- UtilityWorksModel isOn -/
def kh_43 : ct_T := (360, [(2, 805, 805, 0), (0, 0, 2, 1), (0, 0, 8, 1)], [], [], [(1, (0, 1, 1, 0), [(2, 805, 805, 0), (0, 0, 2, 1), (0, 0, 8, 1)], [], ([], [])), (1, (0, 0, 0, 0), [(2, 805, 805, 0), (0, 0, 2, 1), (0, 0, 8, 1)], [], ([], []))], [], 2, 44, 0)
theorem kh_43_ok : ct_ok wd_fl kh_43 := ct_of (ff := wd_ff) (y := (⟨"UtilityWorksModel", "isOn", "(II)Z"⟩, prog_14_method_20_code, 3, some .boolean, 12, 1, 2, 32219, 32218, 5008, 21014)) (Cs := [kh_41, kh_40]) (an := [(30, 0, ([((2, 805, 805, 0), none), ((0, 0, 2, 1), none), ((0, 0, 8, 1), none)], [(0, 0), (1, 1), (2, 2)], [], [], [], [], [], [], none), [(0, 0, 99970)])]) (ss := []) (K := 1) (fuel := 4000) wd_fl_ok rfl (List.forall_mem_cons.mpr ⟨kh_41_ok, (List.forall_mem_cons.mpr ⟨kh_40_ok, (List.forall_mem_nil _)⟩)⟩) (by decide +kernel)
/- UtilityWorksModel leads -/
def kh_44 : ct_T := (358, [(2, 805, 805, 0), (0, 0, 2, 1), (0, 0, 8, 1)], [], [], [(1, (0, 1, 1, 0), [(2, 805, 805, 0), (0, 0, 2, 1), (0, 0, 8, 1)], [], ([], [])), (1, (0, 0, 0, 0), [(2, 805, 805, 0), (0, 0, 2, 1), (0, 0, 8, 1)], [], ([], []))], [], 3, 66, 0)
theorem kh_44_ok : ct_ok wd_fl kh_44 := ct_of (ff := wd_ff) (y := (⟨"UtilityWorksModel", "leads", "(II)Z"⟩, prog_14_method_21_code, 3, some .boolean, 12, 1, 2, 32211, 32210, 5006, 21014)) (Cs := [kh_42, kh_43]) (an := [(22, 0, ([((2, 805, 805, 0), none), ((0, 0, 2, 1), none), ((0, 0, 8, 1), none)], [(0, 0), (1, 1), (2, 2)], [], [], [], [], [], [], none), [(0, 0, 99978)])]) (ss := []) (K := 1) (fuel := 4000) wd_fl_ok rfl (List.forall_mem_cons.mpr ⟨kh_42_ok, (List.forall_mem_cons.mpr ⟨kh_43_ok, (List.forall_mem_nil _)⟩)⟩) (by decide +kernel)
/- UtilityWorksModel link -/
def kh_45 : ct_T := (357, [(2, 805, 805, 0), (0, 0, 2, 1), (0, 0, 9, 1)], [], [], [(1, (0, 140, 312, 4), [(2, 805, 805, 0), (0, 0, 2, 1), (0, 0, 9, 1)], [], ([], []))], [], 0, 0, 0)
theorem kh_45_ok : ct_ok wd_fl kh_45 := ct_of (ff := wd_ff) (y := (⟨"UtilityWorksModel", "link", "(II)I"⟩, prog_14_method_16_code, 3, some .int, 12, 1, 2, 32207, 32206, 5005, 21014)) (Cs := []) (an := []) (ss := []) (K := 1) (fuel := 4000) wd_fl_ok rfl (List.forall_mem_nil _) (by decide +kernel)
/- UtilityWorksModel hasLink -/
def kh_46 : ct_T := (356, [(2, 805, 805, 0), (0, 0, 2, 1), (0, 0, 9, 1)], [], [], [(1, (0, 0, 0, 0), [(2, 805, 805, 0), (0, 0, 2, 1), (0, 0, 9, 1)], [], ([], [])), (1, (0, 1, 1, 0), [(2, 805, 805, 0), (0, 0, 2, 1), (0, 0, 9, 1)], [], ([], []))], [], 1, 22, 0)
theorem kh_46_ok : ct_ok wd_fl kh_46 := ct_of (ff := wd_ff) (y := (⟨"UtilityWorksModel", "hasLink", "(II)Z"⟩, prog_14_method_17_code, 3, some .boolean, 12, 1, 2, 32203, 32202, 5004, 21014)) (Cs := [kh_45]) (an := []) (ss := []) (K := 1) (fuel := 4000) wd_fl_ok rfl (List.forall_mem_cons.mpr ⟨kh_45_ok, (List.forall_mem_nil _)⟩) (by decide +kernel)
/- UtilityWorksModel isFine -/
def kh_47 : ct_T := (359, [(2, 805, 805, 0), (0, 0, 2, 1), (0, 0, 9, 1)], [], [], [(1, (0, 1, 1, 0), [(2, 805, 805, 0), (0, 0, 2, 1), (0, 0, 9, 1)], [], ([], [])), (1, (0, 0, 0, 0), [(2, 805, 805, 0), (0, 0, 2, 1), (0, 0, 9, 1)], [], ([], []))], [], 2, 44, 0)
theorem kh_47_ok : ct_ok wd_fl kh_47 := ct_of (ff := wd_ff) (y := (⟨"UtilityWorksModel", "isFine", "(II)Z"⟩, prog_14_method_19_code, 3, some .boolean, 12, 1, 2, 32215, 32214, 5007, 21014)) (Cs := [kh_46, kh_45]) (an := [(30, 0, ([((2, 805, 805, 0), none), ((0, 0, 2, 1), none), ((0, 0, 9, 1), none)], [(0, 0), (1, 1), (2, 2)], [], [], [], [], [], [], none), [(0, 0, 99970)])]) (ss := []) (K := 1) (fuel := 4000) wd_fl_ok rfl (List.forall_mem_cons.mpr ⟨kh_46_ok, (List.forall_mem_cons.mpr ⟨kh_45_ok, (List.forall_mem_nil _)⟩)⟩) (by decide +kernel)
/- UtilityWorksModel isOn -/
def kh_48 : ct_T := (360, [(2, 805, 805, 0), (0, 0, 2, 1), (0, 0, 9, 1)], [], [], [(1, (0, 1, 1, 0), [(2, 805, 805, 0), (0, 0, 2, 1), (0, 0, 9, 1)], [], ([], [])), (1, (0, 0, 0, 0), [(2, 805, 805, 0), (0, 0, 2, 1), (0, 0, 9, 1)], [], ([], []))], [], 2, 44, 0)
theorem kh_48_ok : ct_ok wd_fl kh_48 := ct_of (ff := wd_ff) (y := (⟨"UtilityWorksModel", "isOn", "(II)Z"⟩, prog_14_method_20_code, 3, some .boolean, 12, 1, 2, 32219, 32218, 5008, 21014)) (Cs := [kh_46, kh_45]) (an := [(30, 0, ([((2, 805, 805, 0), none), ((0, 0, 2, 1), none), ((0, 0, 9, 1), none)], [(0, 0), (1, 1), (2, 2)], [], [], [], [], [], [], none), [(0, 0, 99970)])]) (ss := []) (K := 1) (fuel := 4000) wd_fl_ok rfl (List.forall_mem_cons.mpr ⟨kh_46_ok, (List.forall_mem_cons.mpr ⟨kh_45_ok, (List.forall_mem_nil _)⟩)⟩) (by decide +kernel)
/- UtilityWorksModel leads -/
def kh_49 : ct_T := (358, [(2, 805, 805, 0), (0, 0, 2, 1), (0, 0, 9, 1)], [], [], [(1, (0, 1, 1, 0), [(2, 805, 805, 0), (0, 0, 2, 1), (0, 0, 9, 1)], [], ([], [])), (1, (0, 0, 0, 0), [(2, 805, 805, 0), (0, 0, 2, 1), (0, 0, 9, 1)], [], ([], []))], [], 3, 66, 0)
theorem kh_49_ok : ct_ok wd_fl kh_49 := ct_of (ff := wd_ff) (y := (⟨"UtilityWorksModel", "leads", "(II)Z"⟩, prog_14_method_21_code, 3, some .boolean, 12, 1, 2, 32211, 32210, 5006, 21014)) (Cs := [kh_47, kh_48]) (an := [(22, 0, ([((2, 805, 805, 0), none), ((0, 0, 2, 1), none), ((0, 0, 9, 1), none)], [(0, 0), (1, 1), (2, 2)], [], [], [], [], [], [], none), [(0, 0, 99978)])]) (ss := []) (K := 1) (fuel := 4000) wd_fl_ok rfl (List.forall_mem_cons.mpr ⟨kh_47_ok, (List.forall_mem_cons.mpr ⟨kh_48_ok, (List.forall_mem_nil _)⟩)⟩) (by decide +kernel)
/- UtilityWorksModel link -/
def kh_50 : ct_T := (357, [(2, 805, 805, 0), (0, 0, 2, 1), (0, 0, 10, 1)], [], [], [(1, (0, 140, 316, 4), [(2, 805, 805, 0), (0, 0, 2, 1), (0, 0, 10, 1)], [], ([], []))], [], 0, 0, 0)
theorem kh_50_ok : ct_ok wd_fl kh_50 := ct_of (ff := wd_ff) (y := (⟨"UtilityWorksModel", "link", "(II)I"⟩, prog_14_method_16_code, 3, some .int, 12, 1, 2, 32207, 32206, 5005, 21014)) (Cs := []) (an := []) (ss := []) (K := 1) (fuel := 4000) wd_fl_ok rfl (List.forall_mem_nil _) (by decide +kernel)
/- UtilityWorksModel hasLink -/
def kh_51 : ct_T := (356, [(2, 805, 805, 0), (0, 0, 2, 1), (0, 0, 10, 1)], [], [], [(1, (0, 0, 0, 0), [(2, 805, 805, 0), (0, 0, 2, 1), (0, 0, 10, 1)], [], ([], [])), (1, (0, 1, 1, 0), [(2, 805, 805, 0), (0, 0, 2, 1), (0, 0, 10, 1)], [], ([], []))], [], 1, 22, 0)
theorem kh_51_ok : ct_ok wd_fl kh_51 := ct_of (ff := wd_ff) (y := (⟨"UtilityWorksModel", "hasLink", "(II)Z"⟩, prog_14_method_17_code, 3, some .boolean, 12, 1, 2, 32203, 32202, 5004, 21014)) (Cs := [kh_50]) (an := []) (ss := []) (K := 1) (fuel := 4000) wd_fl_ok rfl (List.forall_mem_cons.mpr ⟨kh_50_ok, (List.forall_mem_nil _)⟩) (by decide +kernel)
/- UtilityWorksModel isFine -/
def kh_52 : ct_T := (359, [(2, 805, 805, 0), (0, 0, 2, 1), (0, 0, 10, 1)], [], [], [(1, (0, 1, 1, 0), [(2, 805, 805, 0), (0, 0, 2, 1), (0, 0, 10, 1)], [], ([], [])), (1, (0, 0, 0, 0), [(2, 805, 805, 0), (0, 0, 2, 1), (0, 0, 10, 1)], [], ([], []))], [], 2, 44, 0)
theorem kh_52_ok : ct_ok wd_fl kh_52 := ct_of (ff := wd_ff) (y := (⟨"UtilityWorksModel", "isFine", "(II)Z"⟩, prog_14_method_19_code, 3, some .boolean, 12, 1, 2, 32215, 32214, 5007, 21014)) (Cs := [kh_51, kh_50]) (an := [(30, 0, ([((2, 805, 805, 0), none), ((0, 0, 2, 1), none), ((0, 0, 10, 1), none)], [(0, 0), (1, 1), (2, 2)], [], [], [], [], [], [], none), [(0, 0, 99970)])]) (ss := []) (K := 1) (fuel := 4000) wd_fl_ok rfl (List.forall_mem_cons.mpr ⟨kh_51_ok, (List.forall_mem_cons.mpr ⟨kh_50_ok, (List.forall_mem_nil _)⟩)⟩) (by decide +kernel)
/- UtilityWorksModel isOn -/
def kh_53 : ct_T := (360, [(2, 805, 805, 0), (0, 0, 2, 1), (0, 0, 10, 1)], [], [], [(1, (0, 1, 1, 0), [(2, 805, 805, 0), (0, 0, 2, 1), (0, 0, 10, 1)], [], ([], [])), (1, (0, 0, 0, 0), [(2, 805, 805, 0), (0, 0, 2, 1), (0, 0, 10, 1)], [], ([], []))], [], 2, 44, 0)
theorem kh_53_ok : ct_ok wd_fl kh_53 := ct_of (ff := wd_ff) (y := (⟨"UtilityWorksModel", "isOn", "(II)Z"⟩, prog_14_method_20_code, 3, some .boolean, 12, 1, 2, 32219, 32218, 5008, 21014)) (Cs := [kh_51, kh_50]) (an := [(30, 0, ([((2, 805, 805, 0), none), ((0, 0, 2, 1), none), ((0, 0, 10, 1), none)], [(0, 0), (1, 1), (2, 2)], [], [], [], [], [], [], none), [(0, 0, 99970)])]) (ss := []) (K := 1) (fuel := 4000) wd_fl_ok rfl (List.forall_mem_cons.mpr ⟨kh_51_ok, (List.forall_mem_cons.mpr ⟨kh_50_ok, (List.forall_mem_nil _)⟩)⟩) (by decide +kernel)
/- UtilityWorksModel leads -/
def kh_54 : ct_T := (358, [(2, 805, 805, 0), (0, 0, 2, 1), (0, 0, 10, 1)], [], [], [(1, (0, 1, 1, 0), [(2, 805, 805, 0), (0, 0, 2, 1), (0, 0, 10, 1)], [], ([], [])), (1, (0, 0, 0, 0), [(2, 805, 805, 0), (0, 0, 2, 1), (0, 0, 10, 1)], [], ([], []))], [], 3, 66, 0)
theorem kh_54_ok : ct_ok wd_fl kh_54 := ct_of (ff := wd_ff) (y := (⟨"UtilityWorksModel", "leads", "(II)Z"⟩, prog_14_method_21_code, 3, some .boolean, 12, 1, 2, 32211, 32210, 5006, 21014)) (Cs := [kh_52, kh_53]) (an := [(22, 0, ([((2, 805, 805, 0), none), ((0, 0, 2, 1), none), ((0, 0, 10, 1), none)], [(0, 0), (1, 1), (2, 2)], [], [], [], [], [], [], none), [(0, 0, 99978)])]) (ss := []) (K := 1) (fuel := 4000) wd_fl_ok rfl (List.forall_mem_cons.mpr ⟨kh_52_ok, (List.forall_mem_cons.mpr ⟨kh_53_ok, (List.forall_mem_nil _)⟩)⟩) (by decide +kernel)
/- UtilityWorksModel link -/
def kh_55 : ct_T := (357, [(2, 805, 805, 0), (0, 0, 2, 1), (0, 0, 11, 1)], [], [], [(1, (0, 140, 320, 4), [(2, 805, 805, 0), (0, 0, 2, 1), (0, 0, 11, 1)], [], ([], []))], [], 0, 0, 0)
theorem kh_55_ok : ct_ok wd_fl kh_55 := ct_of (ff := wd_ff) (y := (⟨"UtilityWorksModel", "link", "(II)I"⟩, prog_14_method_16_code, 3, some .int, 12, 1, 2, 32207, 32206, 5005, 21014)) (Cs := []) (an := []) (ss := []) (K := 1) (fuel := 4000) wd_fl_ok rfl (List.forall_mem_nil _) (by decide +kernel)
/- UtilityWorksModel hasLink -/
def kh_56 : ct_T := (356, [(2, 805, 805, 0), (0, 0, 2, 1), (0, 0, 11, 1)], [], [], [(1, (0, 0, 0, 0), [(2, 805, 805, 0), (0, 0, 2, 1), (0, 0, 11, 1)], [], ([], [])), (1, (0, 1, 1, 0), [(2, 805, 805, 0), (0, 0, 2, 1), (0, 0, 11, 1)], [], ([], []))], [], 1, 22, 0)
theorem kh_56_ok : ct_ok wd_fl kh_56 := ct_of (ff := wd_ff) (y := (⟨"UtilityWorksModel", "hasLink", "(II)Z"⟩, prog_14_method_17_code, 3, some .boolean, 12, 1, 2, 32203, 32202, 5004, 21014)) (Cs := [kh_55]) (an := []) (ss := []) (K := 1) (fuel := 4000) wd_fl_ok rfl (List.forall_mem_cons.mpr ⟨kh_55_ok, (List.forall_mem_nil _)⟩) (by decide +kernel)
/- UtilityWorksModel isFine -/
def kh_57 : ct_T := (359, [(2, 805, 805, 0), (0, 0, 2, 1), (0, 0, 11, 1)], [], [], [(1, (0, 1, 1, 0), [(2, 805, 805, 0), (0, 0, 2, 1), (0, 0, 11, 1)], [], ([], [])), (1, (0, 0, 0, 0), [(2, 805, 805, 0), (0, 0, 2, 1), (0, 0, 11, 1)], [], ([], []))], [], 2, 44, 0)
theorem kh_57_ok : ct_ok wd_fl kh_57 := ct_of (ff := wd_ff) (y := (⟨"UtilityWorksModel", "isFine", "(II)Z"⟩, prog_14_method_19_code, 3, some .boolean, 12, 1, 2, 32215, 32214, 5007, 21014)) (Cs := [kh_56, kh_55]) (an := [(30, 0, ([((2, 805, 805, 0), none), ((0, 0, 2, 1), none), ((0, 0, 11, 1), none)], [(0, 0), (1, 1), (2, 2)], [], [], [], [], [], [], none), [(0, 0, 99970)])]) (ss := []) (K := 1) (fuel := 4000) wd_fl_ok rfl (List.forall_mem_cons.mpr ⟨kh_56_ok, (List.forall_mem_cons.mpr ⟨kh_55_ok, (List.forall_mem_nil _)⟩)⟩) (by decide +kernel)
/- UtilityWorksModel isOn -/
def kh_58 : ct_T := (360, [(2, 805, 805, 0), (0, 0, 2, 1), (0, 0, 11, 1)], [], [], [(1, (0, 1, 1, 0), [(2, 805, 805, 0), (0, 0, 2, 1), (0, 0, 11, 1)], [], ([], [])), (1, (0, 0, 0, 0), [(2, 805, 805, 0), (0, 0, 2, 1), (0, 0, 11, 1)], [], ([], []))], [], 2, 44, 0)
theorem kh_58_ok : ct_ok wd_fl kh_58 := ct_of (ff := wd_ff) (y := (⟨"UtilityWorksModel", "isOn", "(II)Z"⟩, prog_14_method_20_code, 3, some .boolean, 12, 1, 2, 32219, 32218, 5008, 21014)) (Cs := [kh_56, kh_55]) (an := [(30, 0, ([((2, 805, 805, 0), none), ((0, 0, 2, 1), none), ((0, 0, 11, 1), none)], [(0, 0), (1, 1), (2, 2)], [], [], [], [], [], [], none), [(0, 0, 99970)])]) (ss := []) (K := 1) (fuel := 4000) wd_fl_ok rfl (List.forall_mem_cons.mpr ⟨kh_56_ok, (List.forall_mem_cons.mpr ⟨kh_55_ok, (List.forall_mem_nil _)⟩)⟩) (by decide +kernel)
/- UtilityWorksModel leads -/
def kh_59 : ct_T := (358, [(2, 805, 805, 0), (0, 0, 2, 1), (0, 0, 11, 1)], [], [], [(1, (0, 1, 1, 0), [(2, 805, 805, 0), (0, 0, 2, 1), (0, 0, 11, 1)], [], ([], [])), (1, (0, 0, 0, 0), [(2, 805, 805, 0), (0, 0, 2, 1), (0, 0, 11, 1)], [], ([], []))], [], 3, 66, 0)
theorem kh_59_ok : ct_ok wd_fl kh_59 := ct_of (ff := wd_ff) (y := (⟨"UtilityWorksModel", "leads", "(II)Z"⟩, prog_14_method_21_code, 3, some .boolean, 12, 1, 2, 32211, 32210, 5006, 21014)) (Cs := [kh_57, kh_58]) (an := [(22, 0, ([((2, 805, 805, 0), none), ((0, 0, 2, 1), none), ((0, 0, 11, 1), none)], [(0, 0), (1, 1), (2, 2)], [], [], [], [], [], [], none), [(0, 0, 99978)])]) (ss := []) (K := 1) (fuel := 4000) wd_fl_ok rfl (List.forall_mem_cons.mpr ⟨kh_57_ok, (List.forall_mem_cons.mpr ⟨kh_58_ok, (List.forall_mem_nil _)⟩)⟩) (by decide +kernel)
/- UtilityWorksModel link -/
def kh_60 : ct_T := (357, [(2, 805, 805, 0), (0, 0, 2, 1), (0, 0, 12, 1)], [], [], [(1, (0, 140, 324, 4), [(2, 805, 805, 0), (0, 0, 2, 1), (0, 0, 12, 1)], [], ([], []))], [], 0, 0, 0)
theorem kh_60_ok : ct_ok wd_fl kh_60 := ct_of (ff := wd_ff) (y := (⟨"UtilityWorksModel", "link", "(II)I"⟩, prog_14_method_16_code, 3, some .int, 12, 1, 2, 32207, 32206, 5005, 21014)) (Cs := []) (an := []) (ss := []) (K := 1) (fuel := 4000) wd_fl_ok rfl (List.forall_mem_nil _) (by decide +kernel)
/- UtilityWorksModel hasLink -/
def kh_61 : ct_T := (356, [(2, 805, 805, 0), (0, 0, 2, 1), (0, 0, 12, 1)], [], [], [(1, (0, 0, 0, 0), [(2, 805, 805, 0), (0, 0, 2, 1), (0, 0, 12, 1)], [], ([], [])), (1, (0, 1, 1, 0), [(2, 805, 805, 0), (0, 0, 2, 1), (0, 0, 12, 1)], [], ([], []))], [], 1, 22, 0)
theorem kh_61_ok : ct_ok wd_fl kh_61 := ct_of (ff := wd_ff) (y := (⟨"UtilityWorksModel", "hasLink", "(II)Z"⟩, prog_14_method_17_code, 3, some .boolean, 12, 1, 2, 32203, 32202, 5004, 21014)) (Cs := [kh_60]) (an := []) (ss := []) (K := 1) (fuel := 4000) wd_fl_ok rfl (List.forall_mem_cons.mpr ⟨kh_60_ok, (List.forall_mem_nil _)⟩) (by decide +kernel)
/- UtilityWorksModel isFine -/
def kh_62 : ct_T := (359, [(2, 805, 805, 0), (0, 0, 2, 1), (0, 0, 12, 1)], [], [], [(1, (0, 1, 1, 0), [(2, 805, 805, 0), (0, 0, 2, 1), (0, 0, 12, 1)], [], ([], [])), (1, (0, 0, 0, 0), [(2, 805, 805, 0), (0, 0, 2, 1), (0, 0, 12, 1)], [], ([], []))], [], 2, 44, 0)
theorem kh_62_ok : ct_ok wd_fl kh_62 := ct_of (ff := wd_ff) (y := (⟨"UtilityWorksModel", "isFine", "(II)Z"⟩, prog_14_method_19_code, 3, some .boolean, 12, 1, 2, 32215, 32214, 5007, 21014)) (Cs := [kh_61, kh_60]) (an := [(30, 0, ([((2, 805, 805, 0), none), ((0, 0, 2, 1), none), ((0, 0, 12, 1), none)], [(0, 0), (1, 1), (2, 2)], [], [], [], [], [], [], none), [(0, 0, 99970)])]) (ss := []) (K := 1) (fuel := 4000) wd_fl_ok rfl (List.forall_mem_cons.mpr ⟨kh_61_ok, (List.forall_mem_cons.mpr ⟨kh_60_ok, (List.forall_mem_nil _)⟩)⟩) (by decide +kernel)
/- UtilityWorksModel isOn -/
def kh_63 : ct_T := (360, [(2, 805, 805, 0), (0, 0, 2, 1), (0, 0, 12, 1)], [], [], [(1, (0, 1, 1, 0), [(2, 805, 805, 0), (0, 0, 2, 1), (0, 0, 12, 1)], [], ([], [])), (1, (0, 0, 0, 0), [(2, 805, 805, 0), (0, 0, 2, 1), (0, 0, 12, 1)], [], ([], []))], [], 2, 44, 0)
theorem kh_63_ok : ct_ok wd_fl kh_63 := ct_of (ff := wd_ff) (y := (⟨"UtilityWorksModel", "isOn", "(II)Z"⟩, prog_14_method_20_code, 3, some .boolean, 12, 1, 2, 32219, 32218, 5008, 21014)) (Cs := [kh_61, kh_60]) (an := [(30, 0, ([((2, 805, 805, 0), none), ((0, 0, 2, 1), none), ((0, 0, 12, 1), none)], [(0, 0), (1, 1), (2, 2)], [], [], [], [], [], [], none), [(0, 0, 99970)])]) (ss := []) (K := 1) (fuel := 4000) wd_fl_ok rfl (List.forall_mem_cons.mpr ⟨kh_61_ok, (List.forall_mem_cons.mpr ⟨kh_60_ok, (List.forall_mem_nil _)⟩)⟩) (by decide +kernel)
/- UtilityWorksModel leads -/
def kh_64 : ct_T := (358, [(2, 805, 805, 0), (0, 0, 2, 1), (0, 0, 12, 1)], [], [], [(1, (0, 1, 1, 0), [(2, 805, 805, 0), (0, 0, 2, 1), (0, 0, 12, 1)], [], ([], [])), (1, (0, 0, 0, 0), [(2, 805, 805, 0), (0, 0, 2, 1), (0, 0, 12, 1)], [], ([], []))], [], 3, 66, 0)
theorem kh_64_ok : ct_ok wd_fl kh_64 := ct_of (ff := wd_ff) (y := (⟨"UtilityWorksModel", "leads", "(II)Z"⟩, prog_14_method_21_code, 3, some .boolean, 12, 1, 2, 32211, 32210, 5006, 21014)) (Cs := [kh_62, kh_63]) (an := [(22, 0, ([((2, 805, 805, 0), none), ((0, 0, 2, 1), none), ((0, 0, 12, 1), none)], [(0, 0), (1, 1), (2, 2)], [], [], [], [], [], [], none), [(0, 0, 99978)])]) (ss := []) (K := 1) (fuel := 4000) wd_fl_ok rfl (List.forall_mem_cons.mpr ⟨kh_62_ok, (List.forall_mem_cons.mpr ⟨kh_63_ok, (List.forall_mem_nil _)⟩)⟩) (by decide +kernel)
/- UtilityWorksModel link -/
def kh_65 : ct_T := (357, [(2, 805, 805, 0), (0, 0, 2, 1), (0, 0, 16, 1)], [], [], [(1, (0, 140, 340, 4), [(2, 805, 805, 0), (0, 0, 2, 1), (0, 0, 16, 1)], [], ([], []))], [], 0, 0, 0)
theorem kh_65_ok : ct_ok wd_fl kh_65 := ct_of (ff := wd_ff) (y := (⟨"UtilityWorksModel", "link", "(II)I"⟩, prog_14_method_16_code, 3, some .int, 12, 1, 2, 32207, 32206, 5005, 21014)) (Cs := []) (an := []) (ss := []) (K := 1) (fuel := 4000) wd_fl_ok rfl (List.forall_mem_nil _) (by decide +kernel)
/- UtilityWorksModel hasLink -/
def kh_66 : ct_T := (356, [(2, 805, 805, 0), (0, 0, 2, 1), (0, 0, 16, 1)], [], [], [(1, (0, 0, 0, 0), [(2, 805, 805, 0), (0, 0, 2, 1), (0, 0, 16, 1)], [], ([], [])), (1, (0, 1, 1, 0), [(2, 805, 805, 0), (0, 0, 2, 1), (0, 0, 16, 1)], [], ([], []))], [], 1, 22, 0)
theorem kh_66_ok : ct_ok wd_fl kh_66 := ct_of (ff := wd_ff) (y := (⟨"UtilityWorksModel", "hasLink", "(II)Z"⟩, prog_14_method_17_code, 3, some .boolean, 12, 1, 2, 32203, 32202, 5004, 21014)) (Cs := [kh_65]) (an := []) (ss := []) (K := 1) (fuel := 4000) wd_fl_ok rfl (List.forall_mem_cons.mpr ⟨kh_65_ok, (List.forall_mem_nil _)⟩) (by decide +kernel)
/- UtilityWorksModel isFine -/
def kh_67 : ct_T := (359, [(2, 805, 805, 0), (0, 0, 2, 1), (0, 0, 16, 1)], [], [], [(1, (0, 1, 1, 0), [(2, 805, 805, 0), (0, 0, 2, 1), (0, 0, 16, 1)], [], ([], [])), (1, (0, 0, 0, 0), [(2, 805, 805, 0), (0, 0, 2, 1), (0, 0, 16, 1)], [], ([], []))], [], 2, 44, 0)
theorem kh_67_ok : ct_ok wd_fl kh_67 := ct_of (ff := wd_ff) (y := (⟨"UtilityWorksModel", "isFine", "(II)Z"⟩, prog_14_method_19_code, 3, some .boolean, 12, 1, 2, 32215, 32214, 5007, 21014)) (Cs := [kh_66, kh_65]) (an := [(30, 0, ([((2, 805, 805, 0), none), ((0, 0, 2, 1), none), ((0, 0, 16, 1), none)], [(0, 0), (1, 1), (2, 2)], [], [], [], [], [], [], none), [(0, 0, 99970)])]) (ss := []) (K := 1) (fuel := 4000) wd_fl_ok rfl (List.forall_mem_cons.mpr ⟨kh_66_ok, (List.forall_mem_cons.mpr ⟨kh_65_ok, (List.forall_mem_nil _)⟩)⟩) (by decide +kernel)
/- UtilityWorksModel isOn -/
def kh_68 : ct_T := (360, [(2, 805, 805, 0), (0, 0, 2, 1), (0, 0, 16, 1)], [], [], [(1, (0, 1, 1, 0), [(2, 805, 805, 0), (0, 0, 2, 1), (0, 0, 16, 1)], [], ([], [])), (1, (0, 0, 0, 0), [(2, 805, 805, 0), (0, 0, 2, 1), (0, 0, 16, 1)], [], ([], []))], [], 2, 44, 0)
theorem kh_68_ok : ct_ok wd_fl kh_68 := ct_of (ff := wd_ff) (y := (⟨"UtilityWorksModel", "isOn", "(II)Z"⟩, prog_14_method_20_code, 3, some .boolean, 12, 1, 2, 32219, 32218, 5008, 21014)) (Cs := [kh_66, kh_65]) (an := [(30, 0, ([((2, 805, 805, 0), none), ((0, 0, 2, 1), none), ((0, 0, 16, 1), none)], [(0, 0), (1, 1), (2, 2)], [], [], [], [], [], [], none), [(0, 0, 99970)])]) (ss := []) (K := 1) (fuel := 4000) wd_fl_ok rfl (List.forall_mem_cons.mpr ⟨kh_66_ok, (List.forall_mem_cons.mpr ⟨kh_65_ok, (List.forall_mem_nil _)⟩)⟩) (by decide +kernel)
/- UtilityWorksModel leads -/
def kh_69 : ct_T := (358, [(2, 805, 805, 0), (0, 0, 2, 1), (0, 0, 16, 1)], [], [], [(1, (0, 1, 1, 0), [(2, 805, 805, 0), (0, 0, 2, 1), (0, 0, 16, 1)], [], ([], [])), (1, (0, 0, 0, 0), [(2, 805, 805, 0), (0, 0, 2, 1), (0, 0, 16, 1)], [], ([], []))], [], 3, 66, 0)
theorem kh_69_ok : ct_ok wd_fl kh_69 := ct_of (ff := wd_ff) (y := (⟨"UtilityWorksModel", "leads", "(II)Z"⟩, prog_14_method_21_code, 3, some .boolean, 12, 1, 2, 32211, 32210, 5006, 21014)) (Cs := [kh_67, kh_68]) (an := [(22, 0, ([((2, 805, 805, 0), none), ((0, 0, 2, 1), none), ((0, 0, 16, 1), none)], [(0, 0), (1, 1), (2, 2)], [], [], [], [], [], [], none), [(0, 0, 99978)])]) (ss := []) (K := 1) (fuel := 4000) wd_fl_ok rfl (List.forall_mem_cons.mpr ⟨kh_67_ok, (List.forall_mem_cons.mpr ⟨kh_68_ok, (List.forall_mem_nil _)⟩)⟩) (by decide +kernel)
abbrev kh_reachFrom_y : mt_T := (⟨"UtilityWorksModel", "reachFrom", "(III)V"⟩, prog_14_method_22_code, 7, none, 12, 1, 3, 32234, 32233, 5010, 21014)
def kh_reachFrom : ct_T := (364, [(2, 805, 805, 0), (0, 0, 2, 1), (0, 0, 11, 1), (0, (-1), 16, 1)], [], [], [(0, (0, 0, 0, 0), [(2, 805, 805, 0), (0, 0, 2, 1), (0, 0, 11, 1), (0, (-1), 16, 1)], [], ([], []))], [((813, 813), (0, 11, 1))], 4, 88, 0)
def kh_reachFrom_a37 : an_T := (37, 0, ([((2, 805, 805, 0), none), ((0, 0, 2, 1), none), ((0, 0, 11, 1), none), ((0, (-1), 16, 1), none), ((0, 0, 1, 1), none)], [(0, 0), (1, 1), (2, 2), (3, 3), (4, 4)], [], [], [], [], [], [], none), [])
def kh_reachFrom_a48 : an_T := (48, 0, ([((2, 805, 805, 0), none), ((0, 0, 2, 1), none), ((0, 0, 11, 1), none), ((0, (-1), 16, 1), none), ((0, 0, 1, 1), none), ((0, 0, 17, 1), none)], [(0, 0), (1, 1), (2, 2), (3, 3), (4, 4), (5, 5)], [], [], [], [], [], [], none), [])
def kh_reachFrom_a3 : an_T := (3, 0, ([((2, 805, 805, 0), none), ((0, 0, 2, 1), none), ((0, 0, 11, 1), none), ((0, (-1), 16, 1), none), ((0, 0, 12, 1), none)], [(0, 0), (1, 1), (2, 2), (3, 3), (4, 4)], [], [], [], [], [], [], none), [(1, 4, 13)])
def kh_reachFrom_b48_0 : sg_T := (37, 0, ([((2, 805, 805, 0), none), ((0, 0, 2, 1), none), ((0, 0, 11, 1), none), ((0, (-1), 16, 1), none), ((0, 0, 1, 1), none), ((0, 17, 17, 1), none), ((0, 17, 17, 0), none)], [(0, 0), (1, 1), (2, 2), (3, 3), (4, 4), (5, 5)], [], [], [], [(200000, 6, 5)], [], [], some []))
def kh_reachFrom_b48_1 : sg_T := (48, 0, ([((2, 805, 805, 0), none), ((0, 0, 2, 1), none), ((0, 0, 11, 1), none), ((0, (-1), 16, 1), none), ((0, 0, 1, 1), none), ((0, 0, 16, 1), none), ((0, 17, 17, 0), none), ((2, 813, 813, 1), none), ((0, 0, 10, 1), none), ((0, 0, 1, 1), none), ((2, 813, 813, 1), none), ((0, 1, 11, 1), none), ((0, 0, 1, 1), none), ((0, 0, 0, 0), none), ((0, 1, 17, 1), some (5, 1))], [(5, 14), (6, 13), (0, 0), (1, 1), (2, 2), (3, 3), (4, 4)], [], [(10, 11, 12), (7, 8, 9)], [], [(300000, 9, 12), (800012, 10, 11), (1100011, 5, 5), (800009, 7, 8), (1000008, 5, 5), (100000, 5, 6)], [], [], some []))
def kh_reachFrom_b48_2 : sg_T := (48, 0, ([((2, 805, 805, 0), none), ((0, 0, 2, 1), none), ((0, 0, 11, 1), none), ((0, 0, 16, 1), none), ((0, 0, 1, 1), none), ((0, 0, 16, 1), none), ((0, 17, 17, 0), none), ((2, 813, 813, 1), none), ((0, 0, 10, 1), none), ((0, 0, 1, 1), none), ((2, 813, 813, 1), none), ((0, 1, 11, 1), none), ((0, 0, 1, 1), none), ((0, 1, 1, 0), none), ((0, 1, 17, 1), some (5, 1))], [(5, 14), (6, 13), (0, 0), (1, 1), (2, 2), (3, 3), (4, 4)], [], [(10, 11, 12), (7, 8, 9)], [(13, 0)], [(300000, 5, 3), (400000, 9, 12), (800012, 10, 11), (1100011, 5, 5), (800009, 7, 8), (1000008, 5, 5), (100000, 5, 6)], [], [], some []))
def kh_reachFrom_b48_3 : sg_T := (48, 0, ([((2, 805, 805, 0), none), ((0, 0, 2, 1), none), ((0, 0, 11, 1), none), ((0, (-1), 16, 1), none), ((0, 0, 1, 1), none), ((0, 0, 16, 1), none), ((0, 17, 17, 0), none), ((2, 813, 813, 1), none), ((0, 0, 10, 1), none), ((0, 0, 1, 1), none), ((2, 813, 813, 1), none), ((0, 1, 11, 1), none), ((0, 0, 1, 1), none), ((0, 1, 1, 0), none), ((0, 1, 1, 0), none), ((2, 813, 813, 1), none), ((0, 0, 10, 1), none), ((0, 1, 1, 0), none), ((2, 813, 813, 1), none), ((0, 1, 11, 1), none), ((0, 1, 1, 0), none), ((0, 1, 1, 0), none), ((0, 1, 17, 1), some (5, 1))], [(5, 22), (4, 21), (6, 13), (0, 0), (1, 1), (2, 2), (3, 3)], [], [(18, 19, 20)], [(14, 0), (13, 0)], [(1100019, 5, 5), (1000016, 5, 5), (400000, 5, 3), (400000, 9, 12), (800012, 10, 11), (1100011, 5, 5), (800009, 7, 8), (1000008, 5, 5), (100000, 5, 6)], [], [], some [(18, 19, 20), (15, 16, 17)]))
def kh_reachFrom_b48_4 : sg_T := (48, 0, ([((2, 805, 805, 0), none), ((0, 0, 2, 1), none), ((0, 0, 11, 1), none), ((0, (-1), 16, 1), none), ((0, 0, 1, 1), none), ((0, 0, 16, 1), none), ((0, 17, 17, 0), none), ((2, 813, 813, 1), none), ((0, 0, 10, 1), none), ((0, 0, 1, 1), none), ((2, 813, 813, 1), none), ((0, 1, 11, 1), none), ((0, 0, 1, 1), none), ((0, 1, 1, 0), none), ((0, 0, 0, 0), none), ((0, 1, 17, 1), some (5, 1))], [(5, 15), (6, 13), (0, 0), (1, 1), (2, 2), (3, 3), (4, 4)], [], [(10, 11, 12), (7, 8, 9)], [(13, 0)], [(400000, 5, 3), (400000, 9, 12), (800012, 10, 11), (1100011, 5, 5), (800009, 7, 8), (1000008, 5, 5), (100000, 5, 6)], [], [], some []))
def kh_reachFrom_e0 : sg_T := (37, 0, ([((2, 805, 805, 0), none), ((0, 0, 2, 1), none), ((0, 0, 11, 1), none), ((0, (-1), 16, 1), none), ((0, 12, 12, 1), none), ((0, 12, 12, 0), none), ((0, 1, 1, 0), none)], [(4, 6), (0, 0), (1, 1), (2, 2), (3, 3)], [], [], [], [], [], [], none))
def kh_reachFrom_b37_0 : sg_T := (140, 0, ([((2, 805, 805, 0), none), ((0, 0, 2, 1), none), ((0, 0, 11, 1), none), ((0, (-1), 16, 1), none), ((0, 0, 0, 1), none)], [(0, 0), (1, 1), (2, 2), (3, 3), (4, 4)], [], [], [], [], [], [], some []))
def kh_reachFrom_b37_1 : sg_T := (48, 0, ([((2, 805, 805, 0), none), ((0, 0, 2, 1), none), ((0, 0, 11, 1), none), ((0, (-1), 16, 1), none), ((0, 1, 1, 1), none), ((0, 0, 0, 0), none), ((0, 0, 0, 0), none)], [(5, 6), (4, 5), (0, 0), (1, 1), (2, 2), (3, 3)], [], [], [(4, 0)], [], [], [], some []))
theorem kh_reachFrom_ok : ct_ok wd_fl kh_reachFrom := ct_hand (ff := wd_ff) (y := kh_reachFrom_y) (Cs := [kh_low, kh_high, kh_4, kh_9, kh_14, kh_19, kh_24, kh_29, kh_34, kh_39, kh_44, kh_49, kh_54, kh_59, kh_64, kh_69]) wd_fl_ok rfl (List.forall_mem_cons.mpr ⟨kh_low_ok, (List.forall_mem_cons.mpr ⟨kh_high_ok, (List.forall_mem_cons.mpr ⟨kh_4_ok, (List.forall_mem_cons.mpr ⟨kh_9_ok, (List.forall_mem_cons.mpr ⟨kh_14_ok, (List.forall_mem_cons.mpr ⟨kh_19_ok, (List.forall_mem_cons.mpr ⟨kh_24_ok, (List.forall_mem_cons.mpr ⟨kh_29_ok, (List.forall_mem_cons.mpr ⟨kh_34_ok, (List.forall_mem_cons.mpr ⟨kh_39_ok, (List.forall_mem_cons.mpr ⟨kh_44_ok, (List.forall_mem_cons.mpr ⟨kh_49_ok, (List.forall_mem_cons.mpr ⟨kh_54_ok, (List.forall_mem_cons.mpr ⟨kh_59_ok, (List.forall_mem_cons.mpr ⟨kh_64_ok, (List.forall_mem_cons.mpr ⟨kh_69_ok, (List.forall_mem_nil _)⟩)⟩)⟩)⟩)⟩)⟩)⟩)⟩)⟩)⟩)⟩)⟩)⟩)⟩)⟩)⟩) (by decide +kernel) (fun l D tc ad kd N sm xs S p e s m args below meth c sz lv G H0 => by
  have hx : xs.length = 4 := by rw [H0.2.1.1]; rfl
  have hbd : ∀ (α : List av_X) (A : as_T) (lv : List (Nat × Value)) (st : List Value) (S1 : fw_S), as_in ad sm wd_fl xs S kh_reachFrom.2.2.2.2.2.1 α A lv st S1 → q_rg A ((813, 813), (0, 11, 1), (0, 0, 1, 1)) = true → 0 ≤ sm_S (S1.1 813) 12 ∧ sm_S (S1.1 813) 12 ≤ 12 := by
    intro α A lv st S1 H hq
    have h1 := q_rg_in hq H
    have := sm_bd (f := S1.1 813) (lo := 0) (hi := 1) (n := 12) (fun j hj => rg_bd h1 (by omega))
    omega
  have hX : ∀ (α : List av_X) (lv : List (Nat × Value)) (S1 : fw_S), as_in ad sm wd_fl xs S kh_reachFrom.2.2.2.2.2.1 α kh_reachFrom_a37.2.2.1 lv [] S1 → nv α 4 = 0 → hd_W wd_fl kh_reachFrom kh_reachFrom_y l D tc ad kd N sm xs S p e s m args below meth c sz 37 lv [] S1 0 := by
    intro α lv S1 H h0
    have hg := (en_nv (i := 4) H.2.1 rfl).1
    rw [h0] at hg
    exact hd_run G (ss := []) (A := ([((2, 805, 805, 0), none), ((0, 0, 2, 1), none), ((0, 0, 11, 1), none), ((0, (-1), 16, 1), none), ((0, 0, 0, 0), none)], [(0, 0), (1, 1), (2, 2), (3, 3), (4, 4)], [], [], [], [], [], [], none)) (fuel := 20) (by decide +kernel) (as_set (i := 4) (q := ((0, 0, 1, 1), none)) (a := (0, 0, 0, 0)) H hg rfl ⟨rfl, ⟨by decide, by decide⟩, Int.le_refl _, Int.le_refl _, Int.dvd_refl _⟩)
  have hW : ∀ (k : Nat) (α : List av_X) (lv : List (Nat × Value)) (S1 : fw_S), as_in ad sm wd_fl xs S kh_reachFrom.2.2.2.2.2.1 α kh_reachFrom_a37.2.2.1 lv [] S1 → (12 - sm_S (S1.1 813) 12).toNat < k → hd_W wd_fl kh_reachFrom kh_reachFrom_y l D tc ad kd N sm xs S p e s m args below meth c sz 37 lv [] S1 0 := by
    intro k
    induction k with
    | zero => intro α lv S1 _ h; omega
    | succ k ih =>
    intro α lv S1 H hk
    have hI : ∀ (j : Nat) (α : List av_X) (lv : List (Nat × Value)) (S2 : fw_S), as_in ad sm wd_fl xs S kh_reachFrom.2.2.2.2.2.1 α kh_reachFrom_a48.2.2.1 lv [] S2 → sm_S (S1.1 813) 12 ≤ sm_S (S2.1 813) 12 → (nv α 4 = 0 ∨ sm_S (S1.1 813) 12 < sm_S (S2.1 813) 12) → (17 - nv α 5).toNat < j → hd_W wd_fl kh_reachFrom kh_reachFrom_y l D tc ad kd N sm xs S p e s m args below meth c sz 48 lv [] S2 0 := by
      intro j
      induction j with
      | zero => intro α lv S2 _ _ _ h; omega
      | succ j ihj =>
      intro α lv S2 H2 hR hg hj
      obtain ⟨α1, hle, Hr⟩ := as_rec_in (pl := []) rfl H2
      have hf := H2.2.2.2.2.2.2.2.2.2.2.1
      have hl1 : α1.length = 6 := by rw [Hr.2.1.1]; rfl
      have hl0 : α.length = 6 := by rw [H2.2.1.1]; rfl
      have hxa : al_le xs α1 := H2.1.trans hle
      refine hd_seg G (na := 6) (fuel := 400) (first := true) (Bs := [kh_reachFrom_b48_0, kh_reachFrom_b48_1, kh_reachFrom_b48_2, kh_reachFrom_b48_3, kh_reachFrom_b48_4]) (by decide +kernel) hl1 Hr ?_
      intro q hq β lv' st' S' H1
      simp only [List.mem_cons, List.not_mem_nil, or_false] at hq
      rcases hq with rfl | rfl | rfl | rfl | rfl
      · have Ha := hd_go (q := kh_reachFrom_a37) (n := 0) (by decide +kernel) hx H1 hxa hf
        have hst : st' = [] := by
          have := H1.2.2.2.1
          match st', this with
          | [], _ => rfl
          | _ :: _, z => exact z.elim
        subst hst
        have eg : nv α1 4 = nv α 4 := nv_le hle (by omega)
        have et : nv α1 5 = nv α 5 := nv_le hle (by omega)
        have eg1 : nv β 4 = nv α1 4 := nv_le H1.1 (by omega)
        have et1 : nv β 5 = nv α1 5 := nv_le H1.1 (by omega)
        have hb := hbd _ _ _ _ _ H2 (by decide +kernel)
        obtain ⟨f1, f2, f3, f4, f5⟩ := as_fx H1
        simp only [kh_reachFrom_b48_0, fx_env, fx_c, fx_ne, fx_hf, wl_S, Nat.zero_add, Nat.reduceAdd, Nat.reduceDiv, Nat.reduceMod, List.getElem?_cons_zero, List.getElem?_cons_succ, if_true, and_true, true_and] at f1 f2 f3 f4 f5
        have fe0 : nv β 0 = 805 := by omega
        have fe5 : nv β 5 = 17 := by omega
        have fe6 : nv β 6 = 17 := by omega
        try simp only [fe0, fe5, fe6, Int.reduceToNat] at f2 f3 f4 f5
        rw [f5] at Ha ⊢
        rcases hg with hg | hg
        · exact hX _ _ _ Ha (by rw [nv_mu (v := 4) rfl]; omega)
        · exact ih _ _ _ Ha (by omega)
      · have Ha := hd_go (q := kh_reachFrom_a48) (n := 0) (by decide +kernel) hx H1 hxa hf
        have hst : st' = [] := by
          have := H1.2.2.2.1
          match st', this with
          | [], _ => rfl
          | _ :: _, z => exact z.elim
        subst hst
        have eg : nv α1 4 = nv α 4 := nv_le hle (by omega)
        have et : nv α1 5 = nv α 5 := nv_le hle (by omega)
        have eg1 : nv β 4 = nv α1 4 := nv_le H1.1 (by omega)
        have et1 : nv β 5 = nv α1 5 := nv_le H1.1 (by omega)
        have hb := hbd _ _ _ _ _ H2 (by decide +kernel)
        obtain ⟨f1, f2, f3, f4, f5⟩ := as_fx H1
        simp only [kh_reachFrom_b48_1, fx_env, fx_c, fx_ne, fx_hf, wl_S, Nat.zero_add, Nat.reduceAdd, Nat.reduceDiv, Nat.reduceMod, List.getElem?_cons_zero, List.getElem?_cons_succ, if_true, and_true, true_and] at f1 f2 f3 f4 f5
        have fe0 : nv β 0 = 805 := by omega
        have fe6 : nv β 6 = 17 := by omega
        have fe7 : nv β 7 = 813 := by omega
        have fe10 : nv β 10 = 813 := by omega
        have fe13 : nv β 13 = 0 := by omega
        try simp only [fe0, fe6, fe7, fe10, fe13, Int.reduceToNat] at f2 f3 f4 f5
        rw [f5] at Ha ⊢
        refine ihj _ _ _ Ha (by omega) (by rw [nv_mu (v := 4) rfl]; omega) (by rw [nv_mu (v := 14) rfl]; omega)
      · have Ha := hd_go (q := kh_reachFrom_a48) (n := 0) (by decide +kernel) hx H1 hxa hf
        have hst : st' = [] := by
          have := H1.2.2.2.1
          match st', this with
          | [], _ => rfl
          | _ :: _, z => exact z.elim
        subst hst
        have eg : nv α1 4 = nv α 4 := nv_le hle (by omega)
        have et : nv α1 5 = nv α 5 := nv_le hle (by omega)
        have eg1 : nv β 4 = nv α1 4 := nv_le H1.1 (by omega)
        have et1 : nv β 5 = nv α1 5 := nv_le H1.1 (by omega)
        have hb := hbd _ _ _ _ _ H2 (by decide +kernel)
        obtain ⟨f1, f2, f3, f4, f5⟩ := as_fx H1
        simp only [kh_reachFrom_b48_2, fx_env, fx_c, fx_ne, fx_hf, wl_S, Nat.zero_add, Nat.reduceAdd, Nat.reduceDiv, Nat.reduceMod, List.getElem?_cons_zero, List.getElem?_cons_succ, if_true, and_true, true_and] at f1 f2 f3 f4 f5
        have fe0 : nv β 0 = 805 := by omega
        have fe6 : nv β 6 = 17 := by omega
        have fe7 : nv β 7 = 813 := by omega
        have fe10 : nv β 10 = 813 := by omega
        have fe13 : nv β 13 = 1 := by omega
        try simp only [fe0, fe6, fe7, fe10, fe13, Int.reduceToNat] at f2 f3 f4 f5
        rw [f5] at Ha ⊢
        refine ihj _ _ _ Ha (by omega) (by rw [nv_mu (v := 4) rfl]; omega) (by rw [nv_mu (v := 14) rfl]; omega)
      · have Ha := hd_go (q := kh_reachFrom_a48) (n := 0) (by decide +kernel) hx H1 hxa hf
        have hst : st' = [] := by
          have := H1.2.2.2.1
          match st', this with
          | [], _ => rfl
          | _ :: _, z => exact z.elim
        subst hst
        have eg : nv α1 4 = nv α 4 := nv_le hle (by omega)
        have et : nv α1 5 = nv α 5 := nv_le hle (by omega)
        have eg1 : nv β 4 = nv α1 4 := nv_le H1.1 (by omega)
        have et1 : nv β 5 = nv α1 5 := nv_le H1.1 (by omega)
        have hb := hbd _ _ _ _ _ H2 (by decide +kernel)
        obtain ⟨f1, f2, f3, f4, f5⟩ := as_fx H1
        simp only [kh_reachFrom_b48_3, fx_env, fx_c, fx_ne, fx_hf, wl_S, Nat.zero_add, Nat.reduceAdd, Nat.reduceDiv, Nat.reduceMod, List.getElem?_cons_zero, List.getElem?_cons_succ, if_true, and_true, true_and] at f1 f2 f3 f4 f5
        have fe0 : nv β 0 = 805 := by omega
        have fe6 : nv β 6 = 17 := by omega
        have fe7 : nv β 7 = 813 := by omega
        have fe10 : nv β 10 = 813 := by omega
        have fe13 : nv β 13 = 1 := by omega
        have fe14 : nv β 14 = 1 := by omega
        have fe15 : nv β 15 = 813 := by omega
        have fe17 : nv β 17 = 1 := by omega
        have fe18 : nv β 18 = 813 := by omega
        have fe20 : nv β 20 = 1 := by omega
        have fe21 : nv β 21 = 1 := by omega
        try simp only [fe0, fe6, fe7, fe10, fe13, fe14, fe15, fe17, fe18, fe20, fe21, Int.reduceToNat] at f2 f3 f4 f5
        obtain ⟨c0, c1, c2, c3, c4, c5, c6, c7, c8⟩ := f2
        have oL := old_0 c6 rfl
        have oH := old_0 c4 rfl
        have d1 := c1
        simp only [wd_fl] at d1
        have d7 := c7
        simp only [wd_fl] at d7
        have d0 := c0
        simp only [wd_fl] at d0
        have d5 := c5
        simp only [wd_fl] at d5
        have hlh : lowI (nv β 5) < highI (nv β 5) := by
          have : nv β 5 / 3 ≤ 5 := by omega
          unfold highI lowI; (repeat' split) <;> omega
        have hR2 : sm_S (S2.1 813) 12 < sm_S (S'.1 813) 12 := by
          rw [f5, sm_i (by omega), sm_i (by omega), fw_i_row, if_neg (by omega), i32_of (by omega) (by omega)]
          have u1 : nv β 16 = nv β 8 := by omega
          have u2 : nv β 19 = nv β 11 := by omega
          rw [u1, u2, oL, oH]
          omega
        refine ihj _ _ _ Ha (by omega) (Or.inr (by omega)) (by rw [nv_mu (v := 22) rfl]; omega)
      · have Ha := hd_go (q := kh_reachFrom_a48) (n := 0) (by decide +kernel) hx H1 hxa hf
        have hst : st' = [] := by
          have := H1.2.2.2.1
          match st', this with
          | [], _ => rfl
          | _ :: _, z => exact z.elim
        subst hst
        have eg : nv α1 4 = nv α 4 := nv_le hle (by omega)
        have et : nv α1 5 = nv α 5 := nv_le hle (by omega)
        have eg1 : nv β 4 = nv α1 4 := nv_le H1.1 (by omega)
        have et1 : nv β 5 = nv α1 5 := nv_le H1.1 (by omega)
        have hb := hbd _ _ _ _ _ H2 (by decide +kernel)
        obtain ⟨f1, f2, f3, f4, f5⟩ := as_fx H1
        simp only [kh_reachFrom_b48_4, fx_env, fx_c, fx_ne, fx_hf, wl_S, Nat.zero_add, Nat.reduceAdd, Nat.reduceDiv, Nat.reduceMod, List.getElem?_cons_zero, List.getElem?_cons_succ, if_true, and_true, true_and] at f1 f2 f3 f4 f5
        have fe0 : nv β 0 = 805 := by omega
        have fe6 : nv β 6 = 17 := by omega
        have fe7 : nv β 7 = 813 := by omega
        have fe10 : nv β 10 = 813 := by omega
        have fe13 : nv β 13 = 1 := by omega
        have fe14 : nv β 14 = 0 := by omega
        try simp only [fe0, fe6, fe7, fe10, fe13, fe14, Int.reduceToNat] at f2 f3 f4 f5
        rw [f5] at Ha ⊢
        refine ihj _ _ _ Ha (by omega) (by rw [nv_mu (v := 4) rfl]; omega) (by rw [nv_mu (v := 15) rfl]; omega)
    obtain ⟨α1, hle, Hr⟩ := as_rec_in (pl := []) rfl H
    have hf := H.2.2.2.2.2.2.2.2.2.2.1
    have hl1 : α1.length = 5 := by rw [Hr.2.1.1]; rfl
    have hxa : al_le xs α1 := H.1.trans hle
    refine hd_seg G (na := 5) (fuel := 400) (first := true) (Bs := [kh_reachFrom_b37_0, kh_reachFrom_b37_1]) (by decide +kernel) hl1 Hr ?_
    intro q hq β lv' st' S' H1
    simp only [List.mem_cons, List.not_mem_nil, or_false] at hq
    rcases hq with rfl | rfl
    · exact hd_run G (ss := []) (fuel := 10) (by decide +kernel) (as_back H1 hxa hf)
    · have Ha := hd_go (q := kh_reachFrom_a48) (n := 0) (by decide +kernel) hx H1 hxa hf
      have hst : st' = [] := by
        have := H1.2.2.2.1
        match st', this with
        | [], _ => rfl
        | _ :: _, z => exact z.elim
      subst hst
      obtain ⟨f1, f2, f3, f4, f5⟩ := as_fx H1
      simp only [kh_reachFrom_b37_1, fx_env, fx_c, fx_ne, fx_hf, wl_S, Nat.zero_add, Nat.reduceAdd, Nat.reduceDiv, Nat.reduceMod, List.getElem?_cons_zero, List.getElem?_cons_succ, if_true, and_true, true_and] at f1 f2 f3 f4 f5
      have fe0 : nv β 0 = 805 := by omega
      have fe4 : nv β 4 = 1 := by omega
      have fe5 : nv β 5 = 0 := by omega
      have fe6 : nv β 6 = 0 := by omega
      try simp only [fe0, fe4, fe5, fe6, Int.reduceToNat] at f2 f3 f4 f5
      rw [f5] at Ha ⊢
      exact hI _ _ _ _ Ha (Int.le_refl _) (Or.inl (by rw [nv_mu (v := 5) rfl]; omega)) (Nat.lt_succ_self _)
  refine hd_segA G (na := 4) (K := 1) (fuel := 400) (an := [kh_reachFrom_a3]) (ss := []) (Bs := [kh_reachFrom_e0]) (by decide +kernel) hx H0 ?_
  intro q hq β lv' st' S' H1
  simp only [List.mem_cons, List.not_mem_nil, or_false] at hq
  rcases hq with rfl
  · have hst : st' = [] := by
      have := H1.2.2.2.1
      match st', this with
      | [], _ => rfl
      | _ :: _, z => exact z.elim
    subst hst
    exact hW _ _ _ _ (hd_go (q := kh_reachFrom_a37) (n := 0) (by decide +kernel) hx H1 al_le.refl H0.2.2.2.2.2.2.2.2.2.2.1) (Nat.lt_succ_self _))
