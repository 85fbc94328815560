/-! hReach -/
/- UtilityWorksModel link -/
def kh_70 : ct_T := (357, [(2, 805, 805, 0), (0, 2, 2, 0), (0, 0, 0, 0)], [], [], [(1, (0, 276, 276, 0), [(2, 805, 805, 0), (0, 2, 2, 0), (0, 0, 0, 0)], [], ([], []))], [], 0, 0, 0)
theorem kh_70_ok : ct_ok wd_fl kh_70 := ct_of (ff := wd_ff) (y := (⟨"UtilityWorksModel", "link", "(II)I"⟩, prog_14_method_16_code, 3, some .int, 12, 1, 2, 32207, 32206, 5005, 21014)) (Cs := []) (an := []) (ss := []) (K := 1) (fuel := 4000) wd_fl_ok rfl (List.forall_mem_nil _) (by decide +kernel)
/- UtilityWorksModel hasLink -/
def kh_71 : ct_T := (356, [(2, 805, 805, 0), (0, 2, 2, 0), (0, 0, 0, 0)], [], [], [(1, (0, 0, 0, 0), [(2, 805, 805, 0), (0, 2, 2, 0), (0, 0, 0, 0)], [], ([], [])), (1, (0, 1, 1, 0), [(2, 805, 805, 0), (0, 2, 2, 0), (0, 0, 0, 0)], [((806, 806), (276, 276, 0), (0, 1, 1, 1))], ([], []))], [], 1, 22, 0)
theorem kh_71_ok : ct_ok wd_fl kh_71 := ct_of (ff := wd_ff) (y := (⟨"UtilityWorksModel", "hasLink", "(II)Z"⟩, prog_14_method_17_code, 3, some .boolean, 12, 1, 2, 32203, 32202, 5004, 21014)) (Cs := [kh_70]) (an := []) (ss := []) (K := 1) (fuel := 4000) wd_fl_ok rfl (List.forall_mem_cons.mpr ⟨kh_70_ok, (List.forall_mem_nil _)⟩) (by decide +kernel)
/- UtilityWorksModel isFine -/
def kh_72 : ct_T := (359, [(2, 805, 805, 0), (0, 2, 2, 0), (0, 0, 0, 0)], [], [], [(1, (0, 1, 1, 0), [(2, 805, 805, 0), (0, 2, 2, 0), (0, 0, 0, 0)], [((806, 806), (276, 276, 0), (0, 1, 1, 1)), ((806, 806), (278, 278, 0), (0, 1, 1, 1))], ([], [])), (1, (0, 0, 0, 0), [(2, 805, 805, 0), (0, 2, 2, 0), (0, 0, 0, 0)], [], ([], []))], [], 2, 44, 0)
theorem kh_72_ok : ct_ok wd_fl kh_72 := ct_of (ff := wd_ff) (y := (⟨"UtilityWorksModel", "isFine", "(II)Z"⟩, prog_14_method_19_code, 3, some .boolean, 12, 1, 2, 32215, 32214, 5007, 21014)) (Cs := [kh_71, kh_70]) (an := [(30, 0, ([((2, 805, 805, 0), none), ((0, 2, 2, 0), none), ((0, 0, 0, 0), none)], [(0, 0), (1, 1), (2, 2)], [], [], [], [], [], [], none), [(0, 0, 99970)])]) (ss := []) (K := 1) (fuel := 4000) wd_fl_ok rfl (List.forall_mem_cons.mpr ⟨kh_71_ok, (List.forall_mem_cons.mpr ⟨kh_70_ok, (List.forall_mem_nil _)⟩)⟩) (by decide +kernel)
/- UtilityWorksModel isOn -/
def kh_73 : ct_T := (360, [(2, 805, 805, 0), (0, 2, 2, 0), (0, 0, 0, 0)], [], [], [(1, (0, 1, 1, 0), [(2, 805, 805, 0), (0, 2, 2, 0), (0, 0, 0, 0)], [((806, 806), (276, 276, 0), (0, 1, 1, 1)), ((806, 806), (279, 279, 0), (0, 1, 1, 1))], ([], [])), (1, (0, 0, 0, 0), [(2, 805, 805, 0), (0, 2, 2, 0), (0, 0, 0, 0)], [], ([], []))], [], 2, 44, 0)
theorem kh_73_ok : ct_ok wd_fl kh_73 := ct_of (ff := wd_ff) (y := (⟨"UtilityWorksModel", "isOn", "(II)Z"⟩, prog_14_method_20_code, 3, some .boolean, 12, 1, 2, 32219, 32218, 5008, 21014)) (Cs := [kh_71, kh_70]) (an := [(30, 0, ([((2, 805, 805, 0), none), ((0, 2, 2, 0), none), ((0, 0, 0, 0), none)], [(0, 0), (1, 1), (2, 2)], [], [], [], [], [], [], none), [(0, 0, 99970)])]) (ss := []) (K := 1) (fuel := 4000) wd_fl_ok rfl (List.forall_mem_cons.mpr ⟨kh_71_ok, (List.forall_mem_cons.mpr ⟨kh_70_ok, (List.forall_mem_nil _)⟩)⟩) (by decide +kernel)
/- UtilityWorksModel leads -/
def kh_74 : ct_T := (358, [(2, 805, 805, 0), (0, 2, 2, 0), (0, 0, 0, 0)], [], [], [(1, (0, 1, 1, 0), [(2, 805, 805, 0), (0, 2, 2, 0), (0, 0, 0, 0)], [((806, 806), (276, 276, 0), (0, 1, 1, 1)), ((806, 806), (278, 278, 0), (0, 1, 1, 1)), ((806, 806), (279, 279, 0), (0, 1, 1, 1))], ([], [])), (1, (0, 0, 0, 0), [(2, 805, 805, 0), (0, 2, 2, 0), (0, 0, 0, 0)], [], ([], []))], [], 3, 66, 0)
theorem kh_74_ok : ct_ok wd_fl kh_74 := ct_of (ff := wd_ff) (y := (⟨"UtilityWorksModel", "leads", "(II)Z"⟩, prog_14_method_21_code, 3, some .boolean, 12, 1, 2, 32211, 32210, 5006, 21014)) (Cs := [kh_72, kh_73]) (an := [(22, 0, ([((2, 805, 805, 0), none), ((0, 2, 2, 0), none), ((0, 0, 0, 0), none)], [(0, 0), (1, 1), (2, 2)], [], [], [], [], [], [], none), [(0, 0, 99978)])]) (ss := []) (K := 1) (fuel := 4000) wd_fl_ok rfl (List.forall_mem_cons.mpr ⟨kh_72_ok, (List.forall_mem_cons.mpr ⟨kh_73_ok, (List.forall_mem_nil _)⟩)⟩) (by decide +kernel)
/- UtilityWorksModel link -/
def kh_75 : ct_T := (357, [(2, 805, 805, 0), (0, 2, 2, 0), (0, 0, 1, 1)], [], [], [(1, (0, 276, 280, 4), [(2, 805, 805, 0), (0, 2, 2, 0), (0, 0, 1, 1)], [], ([], []))], [], 0, 0, 0)
theorem kh_75_ok : ct_ok wd_fl kh_75 := ct_of (ff := wd_ff) (y := (⟨"UtilityWorksModel", "link", "(II)I"⟩, prog_14_method_16_code, 3, some .int, 12, 1, 2, 32207, 32206, 5005, 21014)) (Cs := []) (an := []) (ss := []) (K := 1) (fuel := 4000) wd_fl_ok rfl (List.forall_mem_nil _) (by decide +kernel)
/- UtilityWorksModel hasLink -/
def kh_76 : ct_T := (356, [(2, 805, 805, 0), (0, 2, 2, 0), (0, 0, 1, 1)], [], [], [(1, (0, 0, 0, 0), [(2, 805, 805, 0), (0, 2, 2, 0), (0, 0, 1, 1)], [], ([], [])), (1, (0, 1, 1, 0), [(2, 805, 805, 0), (0, 2, 2, 0), (0, 0, 1, 1)], [], ([], []))], [], 1, 22, 0)
theorem kh_76_ok : ct_ok wd_fl kh_76 := ct_of (ff := wd_ff) (y := (⟨"UtilityWorksModel", "hasLink", "(II)Z"⟩, prog_14_method_17_code, 3, some .boolean, 12, 1, 2, 32203, 32202, 5004, 21014)) (Cs := [kh_75]) (an := []) (ss := []) (K := 1) (fuel := 4000) wd_fl_ok rfl (List.forall_mem_cons.mpr ⟨kh_75_ok, (List.forall_mem_nil _)⟩) (by decide +kernel)
/- UtilityWorksModel isFine -/
def kh_77 : ct_T := (359, [(2, 805, 805, 0), (0, 2, 2, 0), (0, 0, 1, 1)], [], [], [(1, (0, 1, 1, 0), [(2, 805, 805, 0), (0, 2, 2, 0), (0, 0, 1, 1)], [], ([], [])), (1, (0, 0, 0, 0), [(2, 805, 805, 0), (0, 2, 2, 0), (0, 0, 1, 1)], [], ([], []))], [], 2, 44, 0)
theorem kh_77_ok : ct_ok wd_fl kh_77 := ct_of (ff := wd_ff) (y := (⟨"UtilityWorksModel", "isFine", "(II)Z"⟩, prog_14_method_19_code, 3, some .boolean, 12, 1, 2, 32215, 32214, 5007, 21014)) (Cs := [kh_76, kh_75]) (an := [(30, 0, ([((2, 805, 805, 0), none), ((0, 2, 2, 0), none), ((0, 0, 1, 1), none)], [(0, 0), (1, 1), (2, 2)], [], [], [], [], [], [], none), [(0, 0, 99970)])]) (ss := []) (K := 1) (fuel := 4000) wd_fl_ok rfl (List.forall_mem_cons.mpr ⟨kh_76_ok, (List.forall_mem_cons.mpr ⟨kh_75_ok, (List.forall_mem_nil _)⟩)⟩) (by decide +kernel)
/- UtilityWorksModel isOn -/
def kh_78 : ct_T := (360, [(2, 805, 805, 0), (0, 2, 2, 0), (0, 0, 1, 1)], [], [], [(1, (0, 1, 1, 0), [(2, 805, 805, 0), (0, 2, 2, 0), (0, 0, 1, 1)], [], ([], [])), (1, (0, 0, 0, 0), [(2, 805, 805, 0), (0, 2, 2, 0), (0, 0, 1, 1)], [], ([], []))], [], 2, 44, 0)
theorem kh_78_ok : ct_ok wd_fl kh_78 := ct_of (ff := wd_ff) (y := (⟨"UtilityWorksModel", "isOn", "(II)Z"⟩, prog_14_method_20_code, 3, some .boolean, 12, 1, 2, 32219, 32218, 5008, 21014)) (Cs := [kh_76, kh_75]) (an := [(30, 0, ([((2, 805, 805, 0), none), ((0, 2, 2, 0), none), ((0, 0, 1, 1), none)], [(0, 0), (1, 1), (2, 2)], [], [], [], [], [], [], none), [(0, 0, 99970)])]) (ss := []) (K := 1) (fuel := 4000) wd_fl_ok rfl (List.forall_mem_cons.mpr ⟨kh_76_ok, (List.forall_mem_cons.mpr ⟨kh_75_ok, (List.forall_mem_nil _)⟩)⟩) (by decide +kernel)
/- UtilityWorksModel leads -/
def kh_79 : ct_T := (358, [(2, 805, 805, 0), (0, 2, 2, 0), (0, 0, 1, 1)], [], [], [(1, (0, 1, 1, 0), [(2, 805, 805, 0), (0, 2, 2, 0), (0, 0, 1, 1)], [], ([], [])), (1, (0, 0, 0, 0), [(2, 805, 805, 0), (0, 2, 2, 0), (0, 0, 1, 1)], [], ([], []))], [], 3, 66, 0)
theorem kh_79_ok : ct_ok wd_fl kh_79 := ct_of (ff := wd_ff) (y := (⟨"UtilityWorksModel", "leads", "(II)Z"⟩, prog_14_method_21_code, 3, some .boolean, 12, 1, 2, 32211, 32210, 5006, 21014)) (Cs := [kh_77, kh_78]) (an := [(22, 0, ([((2, 805, 805, 0), none), ((0, 2, 2, 0), none), ((0, 0, 1, 1), none)], [(0, 0), (1, 1), (2, 2)], [], [], [], [], [], [], none), [(0, 0, 99978)])]) (ss := []) (K := 1) (fuel := 4000) wd_fl_ok rfl (List.forall_mem_cons.mpr ⟨kh_77_ok, (List.forall_mem_cons.mpr ⟨kh_78_ok, (List.forall_mem_nil _)⟩)⟩) (by decide +kernel)
/- UtilityWorksModel link -/
def kh_80 : ct_T := (357, [(2, 805, 805, 0), (0, 2, 2, 0), (0, 0, 2, 1)], [], [], [(1, (0, 276, 284, 4), [(2, 805, 805, 0), (0, 2, 2, 0), (0, 0, 2, 1)], [], ([], []))], [], 0, 0, 0)
theorem kh_80_ok : ct_ok wd_fl kh_80 := ct_of (ff := wd_ff) (y := (⟨"UtilityWorksModel", "link", "(II)I"⟩, prog_14_method_16_code, 3, some .int, 12, 1, 2, 32207, 32206, 5005, 21014)) (Cs := []) (an := []) (ss := []) (K := 1) (fuel := 4000) wd_fl_ok rfl (List.forall_mem_nil _) (by decide +kernel)
/- UtilityWorksModel hasLink -/
def kh_81 : ct_T := (356, [(2, 805, 805, 0), (0, 2, 2, 0), (0, 0, 2, 1)], [], [], [(1, (0, 0, 0, 0), [(2, 805, 805, 0), (0, 2, 2, 0), (0, 0, 2, 1)], [], ([], [])), (1, (0, 1, 1, 0), [(2, 805, 805, 0), (0, 2, 2, 0), (0, 0, 2, 1)], [], ([], []))], [], 1, 22, 0)
theorem kh_81_ok : ct_ok wd_fl kh_81 := ct_of (ff := wd_ff) (y := (⟨"UtilityWorksModel", "hasLink", "(II)Z"⟩, prog_14_method_17_code, 3, some .boolean, 12, 1, 2, 32203, 32202, 5004, 21014)) (Cs := [kh_80]) (an := []) (ss := []) (K := 1) (fuel := 4000) wd_fl_ok rfl (List.forall_mem_cons.mpr ⟨kh_80_ok, (List.forall_mem_nil _)⟩) (by decide +kernel)
/- UtilityWorksModel isFine -/
def kh_82 : ct_T := (359, [(2, 805, 805, 0), (0, 2, 2, 0), (0, 0, 2, 1)], [], [], [(1, (0, 1, 1, 0), [(2, 805, 805, 0), (0, 2, 2, 0), (0, 0, 2, 1)], [], ([], [])), (1, (0, 0, 0, 0), [(2, 805, 805, 0), (0, 2, 2, 0), (0, 0, 2, 1)], [], ([], []))], [], 2, 44, 0)
theorem kh_82_ok : ct_ok wd_fl kh_82 := ct_of (ff := wd_ff) (y := (⟨"UtilityWorksModel", "isFine", "(II)Z"⟩, prog_14_method_19_code, 3, some .boolean, 12, 1, 2, 32215, 32214, 5007, 21014)) (Cs := [kh_81, kh_80]) (an := [(30, 0, ([((2, 805, 805, 0), none), ((0, 2, 2, 0), none), ((0, 0, 2, 1), none)], [(0, 0), (1, 1), (2, 2)], [], [], [], [], [], [], none), [(0, 0, 99970)])]) (ss := []) (K := 1) (fuel := 4000) wd_fl_ok rfl (List.forall_mem_cons.mpr ⟨kh_81_ok, (List.forall_mem_cons.mpr ⟨kh_80_ok, (List.forall_mem_nil _)⟩)⟩) (by decide +kernel)
/- UtilityWorksModel isOn -/
def kh_83 : ct_T := (360, [(2, 805, 805, 0), (0, 2, 2, 0), (0, 0, 2, 1)], [], [], [(1, (0, 1, 1, 0), [(2, 805, 805, 0), (0, 2, 2, 0), (0, 0, 2, 1)], [], ([], [])), (1, (0, 0, 0, 0), [(2, 805, 805, 0), (0, 2, 2, 0), (0, 0, 2, 1)], [], ([], []))], [], 2, 44, 0)
theorem kh_83_ok : ct_ok wd_fl kh_83 := ct_of (ff := wd_ff) (y := (⟨"UtilityWorksModel", "isOn", "(II)Z"⟩, prog_14_method_20_code, 3, some .boolean, 12, 1, 2, 32219, 32218, 5008, 21014)) (Cs := [kh_81, kh_80]) (an := [(30, 0, ([((2, 805, 805, 0), none), ((0, 2, 2, 0), none), ((0, 0, 2, 1), none)], [(0, 0), (1, 1), (2, 2)], [], [], [], [], [], [], none), [(0, 0, 99970)])]) (ss := []) (K := 1) (fuel := 4000) wd_fl_ok rfl (List.forall_mem_cons.mpr ⟨kh_81_ok, (List.forall_mem_cons.mpr ⟨kh_80_ok, (List.forall_mem_nil _)⟩)⟩) (by decide +kernel)
/- UtilityWorksModel leads -/
def kh_84 : ct_T := (358, [(2, 805, 805, 0), (0, 2, 2, 0), (0, 0, 2, 1)], [], [], [(1, (0, 1, 1, 0), [(2, 805, 805, 0), (0, 2, 2, 0), (0, 0, 2, 1)], [], ([], [])), (1, (0, 0, 0, 0), [(2, 805, 805, 0), (0, 2, 2, 0), (0, 0, 2, 1)], [], ([], []))], [], 3, 66, 0)
theorem kh_84_ok : ct_ok wd_fl kh_84 := ct_of (ff := wd_ff) (y := (⟨"UtilityWorksModel", "leads", "(II)Z"⟩, prog_14_method_21_code, 3, some .boolean, 12, 1, 2, 32211, 32210, 5006, 21014)) (Cs := [kh_82, kh_83]) (an := [(22, 0, ([((2, 805, 805, 0), none), ((0, 2, 2, 0), none), ((0, 0, 2, 1), none)], [(0, 0), (1, 1), (2, 2)], [], [], [], [], [], [], none), [(0, 0, 99978)])]) (ss := []) (K := 1) (fuel := 4000) wd_fl_ok rfl (List.forall_mem_cons.mpr ⟨kh_82_ok, (List.forall_mem_cons.mpr ⟨kh_83_ok, (List.forall_mem_nil _)⟩)⟩) (by decide +kernel)
/- UtilityWorksModel link -/
def kh_85 : ct_T := (357, [(2, 805, 805, 0), (0, 2, 2, 0), (0, 0, 3, 1)], [], [], [(1, (0, 276, 288, 4), [(2, 805, 805, 0), (0, 2, 2, 0), (0, 0, 3, 1)], [], ([], []))], [], 0, 0, 0)
theorem kh_85_ok : ct_ok wd_fl kh_85 := ct_of (ff := wd_ff) (y := (⟨"UtilityWorksModel", "link", "(II)I"⟩, prog_14_method_16_code, 3, some .int, 12, 1, 2, 32207, 32206, 5005, 21014)) (Cs := []) (an := []) (ss := []) (K := 1) (fuel := 4000) wd_fl_ok rfl (List.forall_mem_nil _) (by decide +kernel)
/- UtilityWorksModel hasLink -/
def kh_86 : ct_T := (356, [(2, 805, 805, 0), (0, 2, 2, 0), (0, 0, 3, 1)], [], [], [(1, (0, 0, 0, 0), [(2, 805, 805, 0), (0, 2, 2, 0), (0, 0, 3, 1)], [], ([], [])), (1, (0, 1, 1, 0), [(2, 805, 805, 0), (0, 2, 2, 0), (0, 0, 3, 1)], [], ([], []))], [], 1, 22, 0)
theorem kh_86_ok : ct_ok wd_fl kh_86 := ct_of (ff := wd_ff) (y := (⟨"UtilityWorksModel", "hasLink", "(II)Z"⟩, prog_14_method_17_code, 3, some .boolean, 12, 1, 2, 32203, 32202, 5004, 21014)) (Cs := [kh_85]) (an := []) (ss := []) (K := 1) (fuel := 4000) wd_fl_ok rfl (List.forall_mem_cons.mpr ⟨kh_85_ok, (List.forall_mem_nil _)⟩) (by decide +kernel)
/- UtilityWorksModel isFine -/
def kh_87 : ct_T := (359, [(2, 805, 805, 0), (0, 2, 2, 0), (0, 0, 3, 1)], [], [], [(1, (0, 1, 1, 0), [(2, 805, 805, 0), (0, 2, 2, 0), (0, 0, 3, 1)], [], ([], [])), (1, (0, 0, 0, 0), [(2, 805, 805, 0), (0, 2, 2, 0), (0, 0, 3, 1)], [], ([], []))], [], 2, 44, 0)
theorem kh_87_ok : ct_ok wd_fl kh_87 := ct_of (ff := wd_ff) (y := (⟨"UtilityWorksModel", "isFine", "(II)Z"⟩, prog_14_method_19_code, 3, some .boolean, 12, 1, 2, 32215, 32214, 5007, 21014)) (Cs := [kh_86, kh_85]) (an := [(30, 0, ([((2, 805, 805, 0), none), ((0, 2, 2, 0), none), ((0, 0, 3, 1), none)], [(0, 0), (1, 1), (2, 2)], [], [], [], [], [], [], none), [(0, 0, 99970)])]) (ss := []) (K := 1) (fuel := 4000) wd_fl_ok rfl (List.forall_mem_cons.mpr ⟨kh_86_ok, (List.forall_mem_cons.mpr ⟨kh_85_ok, (List.forall_mem_nil _)⟩)⟩) (by decide +kernel)
/- UtilityWorksModel isOn -/
def kh_88 : ct_T := (360, [(2, 805, 805, 0), (0, 2, 2, 0), (0, 0, 3, 1)], [], [], [(1, (0, 1, 1, 0), [(2, 805, 805, 0), (0, 2, 2, 0), (0, 0, 3, 1)], [], ([], [])), (1, (0, 0, 0, 0), [(2, 805, 805, 0), (0, 2, 2, 0), (0, 0, 3, 1)], [], ([], []))], [], 2, 44, 0)
theorem kh_88_ok : ct_ok wd_fl kh_88 := ct_of (ff := wd_ff) (y := (⟨"UtilityWorksModel", "isOn", "(II)Z"⟩, prog_14_method_20_code, 3, some .boolean, 12, 1, 2, 32219, 32218, 5008, 21014)) (Cs := [kh_86, kh_85]) (an := [(30, 0, ([((2, 805, 805, 0), none), ((0, 2, 2, 0), none), ((0, 0, 3, 1), none)], [(0, 0), (1, 1), (2, 2)], [], [], [], [], [], [], none), [(0, 0, 99970)])]) (ss := []) (K := 1) (fuel := 4000) wd_fl_ok rfl (List.forall_mem_cons.mpr ⟨kh_86_ok, (List.forall_mem_cons.mpr ⟨kh_85_ok, (List.forall_mem_nil _)⟩)⟩) (by decide +kernel)
/- UtilityWorksModel leads -/
def kh_89 : ct_T := (358, [(2, 805, 805, 0), (0, 2, 2, 0), (0, 0, 3, 1)], [], [], [(1, (0, 1, 1, 0), [(2, 805, 805, 0), (0, 2, 2, 0), (0, 0, 3, 1)], [], ([], [])), (1, (0, 0, 0, 0), [(2, 805, 805, 0), (0, 2, 2, 0), (0, 0, 3, 1)], [], ([], []))], [], 3, 66, 0)
theorem kh_89_ok : ct_ok wd_fl kh_89 := ct_of (ff := wd_ff) (y := (⟨"UtilityWorksModel", "leads", "(II)Z"⟩, prog_14_method_21_code, 3, some .boolean, 12, 1, 2, 32211, 32210, 5006, 21014)) (Cs := [kh_87, kh_88]) (an := [(22, 0, ([((2, 805, 805, 0), none), ((0, 2, 2, 0), none), ((0, 0, 3, 1), none)], [(0, 0), (1, 1), (2, 2)], [], [], [], [], [], [], none), [(0, 0, 99978)])]) (ss := []) (K := 1) (fuel := 4000) wd_fl_ok rfl (List.forall_mem_cons.mpr ⟨kh_87_ok, (List.forall_mem_cons.mpr ⟨kh_88_ok, (List.forall_mem_nil _)⟩)⟩) (by decide +kernel)
/- UtilityWorksModel link -/
def kh_90 : ct_T := (357, [(2, 805, 805, 0), (0, 2, 2, 0), (0, 0, 4, 1)], [], [], [(1, (0, 276, 292, 4), [(2, 805, 805, 0), (0, 2, 2, 0), (0, 0, 4, 1)], [], ([], []))], [], 0, 0, 0)
theorem kh_90_ok : ct_ok wd_fl kh_90 := ct_of (ff := wd_ff) (y := (⟨"UtilityWorksModel", "link", "(II)I"⟩, prog_14_method_16_code, 3, some .int, 12, 1, 2, 32207, 32206, 5005, 21014)) (Cs := []) (an := []) (ss := []) (K := 1) (fuel := 4000) wd_fl_ok rfl (List.forall_mem_nil _) (by decide +kernel)
/- UtilityWorksModel hasLink -/
def kh_91 : ct_T := (356, [(2, 805, 805, 0), (0, 2, 2, 0), (0, 0, 4, 1)], [], [], [(1, (0, 0, 0, 0), [(2, 805, 805, 0), (0, 2, 2, 0), (0, 0, 4, 1)], [], ([], [])), (1, (0, 1, 1, 0), [(2, 805, 805, 0), (0, 2, 2, 0), (0, 0, 4, 1)], [], ([], []))], [], 1, 22, 0)
theorem kh_91_ok : ct_ok wd_fl kh_91 := ct_of (ff := wd_ff) (y := (⟨"UtilityWorksModel", "hasLink", "(II)Z"⟩, prog_14_method_17_code, 3, some .boolean, 12, 1, 2, 32203, 32202, 5004, 21014)) (Cs := [kh_90]) (an := []) (ss := []) (K := 1) (fuel := 4000) wd_fl_ok rfl (List.forall_mem_cons.mpr ⟨kh_90_ok, (List.forall_mem_nil _)⟩) (by decide +kernel)
/- UtilityWorksModel isFine -/
def kh_92 : ct_T := (359, [(2, 805, 805, 0), (0, 2, 2, 0), (0, 0, 4, 1)], [], [], [(1, (0, 1, 1, 0), [(2, 805, 805, 0), (0, 2, 2, 0), (0, 0, 4, 1)], [], ([], [])), (1, (0, 0, 0, 0), [(2, 805, 805, 0), (0, 2, 2, 0), (0, 0, 4, 1)], [], ([], []))], [], 2, 44, 0)
theorem kh_92_ok : ct_ok wd_fl kh_92 := ct_of (ff := wd_ff) (y := (⟨"UtilityWorksModel", "isFine", "(II)Z"⟩, prog_14_method_19_code, 3, some .boolean, 12, 1, 2, 32215, 32214, 5007, 21014)) (Cs := [kh_91, kh_90]) (an := [(30, 0, ([((2, 805, 805, 0), none), ((0, 2, 2, 0), none), ((0, 0, 4, 1), none)], [(0, 0), (1, 1), (2, 2)], [], [], [], [], [], [], none), [(0, 0, 99970)])]) (ss := []) (K := 1) (fuel := 4000) wd_fl_ok rfl (List.forall_mem_cons.mpr ⟨kh_91_ok, (List.forall_mem_cons.mpr ⟨kh_90_ok, (List.forall_mem_nil _)⟩)⟩) (by decide +kernel)
/- UtilityWorksModel isOn -/
def kh_93 : ct_T := (360, [(2, 805, 805, 0), (0, 2, 2, 0), (0, 0, 4, 1)], [], [], [(1, (0, 1, 1, 0), [(2, 805, 805, 0), (0, 2, 2, 0), (0, 0, 4, 1)], [], ([], [])), (1, (0, 0, 0, 0), [(2, 805, 805, 0), (0, 2, 2, 0), (0, 0, 4, 1)], [], ([], []))], [], 2, 44, 0)
theorem kh_93_ok : ct_ok wd_fl kh_93 := ct_of (ff := wd_ff) (y := (⟨"UtilityWorksModel", "isOn", "(II)Z"⟩, prog_14_method_20_code, 3, some .boolean, 12, 1, 2, 32219, 32218, 5008, 21014)) (Cs := [kh_91, kh_90]) (an := [(30, 0, ([((2, 805, 805, 0), none), ((0, 2, 2, 0), none), ((0, 0, 4, 1), none)], [(0, 0), (1, 1), (2, 2)], [], [], [], [], [], [], none), [(0, 0, 99970)])]) (ss := []) (K := 1) (fuel := 4000) wd_fl_ok rfl (List.forall_mem_cons.mpr ⟨kh_91_ok, (List.forall_mem_cons.mpr ⟨kh_90_ok, (List.forall_mem_nil _)⟩)⟩) (by decide +kernel)
/- UtilityWorksModel leads -/
def kh_94 : ct_T := (358, [(2, 805, 805, 0), (0, 2, 2, 0), (0, 0, 4, 1)], [], [], [(1, (0, 1, 1, 0), [(2, 805, 805, 0), (0, 2, 2, 0), (0, 0, 4, 1)], [], ([], [])), (1, (0, 0, 0, 0), [(2, 805, 805, 0), (0, 2, 2, 0), (0, 0, 4, 1)], [], ([], []))], [], 3, 66, 0)
theorem kh_94_ok : ct_ok wd_fl kh_94 := ct_of (ff := wd_ff) (y := (⟨"UtilityWorksModel", "leads", "(II)Z"⟩, prog_14_method_21_code, 3, some .boolean, 12, 1, 2, 32211, 32210, 5006, 21014)) (Cs := [kh_92, kh_93]) (an := [(22, 0, ([((2, 805, 805, 0), none), ((0, 2, 2, 0), none), ((0, 0, 4, 1), none)], [(0, 0), (1, 1), (2, 2)], [], [], [], [], [], [], none), [(0, 0, 99978)])]) (ss := []) (K := 1) (fuel := 4000) wd_fl_ok rfl (List.forall_mem_cons.mpr ⟨kh_92_ok, (List.forall_mem_cons.mpr ⟨kh_93_ok, (List.forall_mem_nil _)⟩)⟩) (by decide +kernel)
/- UtilityWorksModel link -/
def kh_95 : ct_T := (357, [(2, 805, 805, 0), (0, 2, 2, 0), (0, 0, 5, 1)], [], [], [(1, (0, 276, 296, 4), [(2, 805, 805, 0), (0, 2, 2, 0), (0, 0, 5, 1)], [], ([], []))], [], 0, 0, 0)
theorem kh_95_ok : ct_ok wd_fl kh_95 := ct_of (ff := wd_ff) (y := (⟨"UtilityWorksModel", "link", "(II)I"⟩, prog_14_method_16_code, 3, some .int, 12, 1, 2, 32207, 32206, 5005, 21014)) (Cs := []) (an := []) (ss := []) (K := 1) (fuel := 4000) wd_fl_ok rfl (List.forall_mem_nil _) (by decide +kernel)
/- UtilityWorksModel hasLink -/
def kh_96 : ct_T := (356, [(2, 805, 805, 0), (0, 2, 2, 0), (0, 0, 5, 1)], [], [], [(1, (0, 0, 0, 0), [(2, 805, 805, 0), (0, 2, 2, 0), (0, 0, 5, 1)], [], ([], [])), (1, (0, 1, 1, 0), [(2, 805, 805, 0), (0, 2, 2, 0), (0, 0, 5, 1)], [], ([], []))], [], 1, 22, 0)
theorem kh_96_ok : ct_ok wd_fl kh_96 := ct_of (ff := wd_ff) (y := (⟨"UtilityWorksModel", "hasLink", "(II)Z"⟩, prog_14_method_17_code, 3, some .boolean, 12, 1, 2, 32203, 32202, 5004, 21014)) (Cs := [kh_95]) (an := []) (ss := []) (K := 1) (fuel := 4000) wd_fl_ok rfl (List.forall_mem_cons.mpr ⟨kh_95_ok, (List.forall_mem_nil _)⟩) (by decide +kernel)
/- UtilityWorksModel isFine -/
def kh_97 : ct_T := (359, [(2, 805, 805, 0), (0, 2, 2, 0), (0, 0, 5, 1)], [], [], [(1, (0, 1, 1, 0), [(2, 805, 805, 0), (0, 2, 2, 0), (0, 0, 5, 1)], [], ([], [])), (1, (0, 0, 0, 0), [(2, 805, 805, 0), (0, 2, 2, 0), (0, 0, 5, 1)], [], ([], []))], [], 2, 44, 0)
theorem kh_97_ok : ct_ok wd_fl kh_97 := ct_of (ff := wd_ff) (y := (⟨"UtilityWorksModel", "isFine", "(II)Z"⟩, prog_14_method_19_code, 3, some .boolean, 12, 1, 2, 32215, 32214, 5007, 21014)) (Cs := [kh_96, kh_95]) (an := [(30, 0, ([((2, 805, 805, 0), none), ((0, 2, 2, 0), none), ((0, 0, 5, 1), none)], [(0, 0), (1, 1), (2, 2)], [], [], [], [], [], [], none), [(0, 0, 99970)])]) (ss := []) (K := 1) (fuel := 4000) wd_fl_ok rfl (List.forall_mem_cons.mpr ⟨kh_96_ok, (List.forall_mem_cons.mpr ⟨kh_95_ok, (List.forall_mem_nil _)⟩)⟩) (by decide +kernel)
/- UtilityWorksModel isOn -/
def kh_98 : ct_T := (360, [(2, 805, 805, 0), (0, 2, 2, 0), (0, 0, 5, 1)], [], [], [(1, (0, 1, 1, 0), [(2, 805, 805, 0), (0, 2, 2, 0), (0, 0, 5, 1)], [], ([], [])), (1, (0, 0, 0, 0), [(2, 805, 805, 0), (0, 2, 2, 0), (0, 0, 5, 1)], [], ([], []))], [], 2, 44, 0)
theorem kh_98_ok : ct_ok wd_fl kh_98 := ct_of (ff := wd_ff) (y := (⟨"UtilityWorksModel", "isOn", "(II)Z"⟩, prog_14_method_20_code, 3, some .boolean, 12, 1, 2, 32219, 32218, 5008, 21014)) (Cs := [kh_96, kh_95]) (an := [(30, 0, ([((2, 805, 805, 0), none), ((0, 2, 2, 0), none), ((0, 0, 5, 1), none)], [(0, 0), (1, 1), (2, 2)], [], [], [], [], [], [], none), [(0, 0, 99970)])]) (ss := []) (K := 1) (fuel := 4000) wd_fl_ok rfl (List.forall_mem_cons.mpr ⟨kh_96_ok, (List.forall_mem_cons.mpr ⟨kh_95_ok, (List.forall_mem_nil _)⟩)⟩) (by decide +kernel)
/- UtilityWorksModel leads -/
def kh_99 : ct_T := (358, [(2, 805, 805, 0), (0, 2, 2, 0), (0, 0, 5, 1)], [], [], [(1, (0, 1, 1, 0), [(2, 805, 805, 0), (0, 2, 2, 0), (0, 0, 5, 1)], [], ([], [])), (1, (0, 0, 0, 0), [(2, 805, 805, 0), (0, 2, 2, 0), (0, 0, 5, 1)], [], ([], []))], [], 3, 66, 0)
theorem kh_99_ok : ct_ok wd_fl kh_99 := ct_of (ff := wd_ff) (y := (⟨"UtilityWorksModel", "leads", "(II)Z"⟩, prog_14_method_21_code, 3, some .boolean, 12, 1, 2, 32211, 32210, 5006, 21014)) (Cs := [kh_97, kh_98]) (an := [(22, 0, ([((2, 805, 805, 0), none), ((0, 2, 2, 0), none), ((0, 0, 5, 1), none)], [(0, 0), (1, 1), (2, 2)], [], [], [], [], [], [], none), [(0, 0, 99978)])]) (ss := []) (K := 1) (fuel := 4000) wd_fl_ok rfl (List.forall_mem_cons.mpr ⟨kh_97_ok, (List.forall_mem_cons.mpr ⟨kh_98_ok, (List.forall_mem_nil _)⟩)⟩) (by decide +kernel)
/- UtilityWorksModel link -/
def kh_100 : ct_T := (357, [(2, 805, 805, 0), (0, 2, 2, 0), (0, 0, 6, 1)], [], [], [(1, (0, 276, 300, 4), [(2, 805, 805, 0), (0, 2, 2, 0), (0, 0, 6, 1)], [], ([], []))], [], 0, 0, 0)
theorem kh_100_ok : ct_ok wd_fl kh_100 := ct_of (ff := wd_ff) (y := (⟨"UtilityWorksModel", "link", "(II)I"⟩, prog_14_method_16_code, 3, some .int, 12, 1, 2, 32207, 32206, 5005, 21014)) (Cs := []) (an := []) (ss := []) (K := 1) (fuel := 4000) wd_fl_ok rfl (List.forall_mem_nil _) (by decide +kernel)
/- UtilityWorksModel hasLink -/
def kh_101 : ct_T := (356, [(2, 805, 805, 0), (0, 2, 2, 0), (0, 0, 6, 1)], [], [], [(1, (0, 0, 0, 0), [(2, 805, 805, 0), (0, 2, 2, 0), (0, 0, 6, 1)], [], ([], [])), (1, (0, 1, 1, 0), [(2, 805, 805, 0), (0, 2, 2, 0), (0, 0, 6, 1)], [], ([], []))], [], 1, 22, 0)
theorem kh_101_ok : ct_ok wd_fl kh_101 := ct_of (ff := wd_ff) (y := (⟨"UtilityWorksModel", "hasLink", "(II)Z"⟩, prog_14_method_17_code, 3, some .boolean, 12, 1, 2, 32203, 32202, 5004, 21014)) (Cs := [kh_100]) (an := []) (ss := []) (K := 1) (fuel := 4000) wd_fl_ok rfl (List.forall_mem_cons.mpr ⟨kh_100_ok, (List.forall_mem_nil _)⟩) (by decide +kernel)
/- UtilityWorksModel isFine -/
def kh_102 : ct_T := (359, [(2, 805, 805, 0), (0, 2, 2, 0), (0, 0, 6, 1)], [], [], [(1, (0, 1, 1, 0), [(2, 805, 805, 0), (0, 2, 2, 0), (0, 0, 6, 1)], [], ([], [])), (1, (0, 0, 0, 0), [(2, 805, 805, 0), (0, 2, 2, 0), (0, 0, 6, 1)], [], ([], []))], [], 2, 44, 0)
theorem kh_102_ok : ct_ok wd_fl kh_102 := ct_of (ff := wd_ff) (y := (⟨"UtilityWorksModel", "isFine", "(II)Z"⟩, prog_14_method_19_code, 3, some .boolean, 12, 1, 2, 32215, 32214, 5007, 21014)) (Cs := [kh_101, kh_100]) (an := [(30, 0, ([((2, 805, 805, 0), none), ((0, 2, 2, 0), none), ((0, 0, 6, 1), none)], [(0, 0), (1, 1), (2, 2)], [], [], [], [], [], [], none), [(0, 0, 99970)])]) (ss := []) (K := 1) (fuel := 4000) wd_fl_ok rfl (List.forall_mem_cons.mpr ⟨kh_101_ok, (List.forall_mem_cons.mpr ⟨kh_100_ok, (List.forall_mem_nil _)⟩)⟩) (by decide +kernel)
/- UtilityWorksModel isOn -/
def kh_103 : ct_T := (360, [(2, 805, 805, 0), (0, 2, 2, 0), (0, 0, 6, 1)], [], [], [(1, (0, 1, 1, 0), [(2, 805, 805, 0), (0, 2, 2, 0), (0, 0, 6, 1)], [], ([], [])), (1, (0, 0, 0, 0), [(2, 805, 805, 0), (0, 2, 2, 0), (0, 0, 6, 1)], [], ([], []))], [], 2, 44, 0)
theorem kh_103_ok : ct_ok wd_fl kh_103 := ct_of (ff := wd_ff) (y := (⟨"UtilityWorksModel", "isOn", "(II)Z"⟩, prog_14_method_20_code, 3, some .boolean, 12, 1, 2, 32219, 32218, 5008, 21014)) (Cs := [kh_101, kh_100]) (an := [(30, 0, ([((2, 805, 805, 0), none), ((0, 2, 2, 0), none), ((0, 0, 6, 1), none)], [(0, 0), (1, 1), (2, 2)], [], [], [], [], [], [], none), [(0, 0, 99970)])]) (ss := []) (K := 1) (fuel := 4000) wd_fl_ok rfl (List.forall_mem_cons.mpr ⟨kh_101_ok, (List.forall_mem_cons.mpr ⟨kh_100_ok, (List.forall_mem_nil _)⟩)⟩) (by decide +kernel)
/- UtilityWorksModel leads -/
def kh_104 : ct_T := (358, [(2, 805, 805, 0), (0, 2, 2, 0), (0, 0, 6, 1)], [], [], [(1, (0, 1, 1, 0), [(2, 805, 805, 0), (0, 2, 2, 0), (0, 0, 6, 1)], [], ([], [])), (1, (0, 0, 0, 0), [(2, 805, 805, 0), (0, 2, 2, 0), (0, 0, 6, 1)], [], ([], []))], [], 3, 66, 0)
theorem kh_104_ok : ct_ok wd_fl kh_104 := ct_of (ff := wd_ff) (y := (⟨"UtilityWorksModel", "leads", "(II)Z"⟩, prog_14_method_21_code, 3, some .boolean, 12, 1, 2, 32211, 32210, 5006, 21014)) (Cs := [kh_102, kh_103]) (an := [(22, 0, ([((2, 805, 805, 0), none), ((0, 2, 2, 0), none), ((0, 0, 6, 1), none)], [(0, 0), (1, 1), (2, 2)], [], [], [], [], [], [], none), [(0, 0, 99978)])]) (ss := []) (K := 1) (fuel := 4000) wd_fl_ok rfl (List.forall_mem_cons.mpr ⟨kh_102_ok, (List.forall_mem_cons.mpr ⟨kh_103_ok, (List.forall_mem_nil _)⟩)⟩) (by decide +kernel)
/- UtilityWorksModel link -/
def kh_105 : ct_T := (357, [(2, 805, 805, 0), (0, 2, 2, 0), (0, 0, 7, 1)], [], [], [(1, (0, 276, 304, 4), [(2, 805, 805, 0), (0, 2, 2, 0), (0, 0, 7, 1)], [], ([], []))], [], 0, 0, 0)
theorem kh_105_ok : ct_ok wd_fl kh_105 := ct_of (ff := wd_ff) (y := (⟨"UtilityWorksModel", "link", "(II)I"⟩, prog_14_method_16_code, 3, some .int, 12, 1, 2, 32207, 32206, 5005, 21014)) (Cs := []) (an := []) (ss := []) (K := 1) (fuel := 4000) wd_fl_ok rfl (List.forall_mem_nil _) (by decide +kernel)
/- UtilityWorksModel hasLink -/
def kh_106 : ct_T := (356, [(2, 805, 805, 0), (0, 2, 2, 0), (0, 0, 7, 1)], [], [], [(1, (0, 0, 0, 0), [(2, 805, 805, 0), (0, 2, 2, 0), (0, 0, 7, 1)], [], ([], [])), (1, (0, 1, 1, 0), [(2, 805, 805, 0), (0, 2, 2, 0), (0, 0, 7, 1)], [], ([], []))], [], 1, 22, 0)
theorem kh_106_ok : ct_ok wd_fl kh_106 := ct_of (ff := wd_ff) (y := (⟨"UtilityWorksModel", "hasLink", "(II)Z"⟩, prog_14_method_17_code, 3, some .boolean, 12, 1, 2, 32203, 32202, 5004, 21014)) (Cs := [kh_105]) (an := []) (ss := []) (K := 1) (fuel := 4000) wd_fl_ok rfl (List.forall_mem_cons.mpr ⟨kh_105_ok, (List.forall_mem_nil _)⟩) (by decide +kernel)
/- UtilityWorksModel isFine -/
def kh_107 : ct_T := (359, [(2, 805, 805, 0), (0, 2, 2, 0), (0, 0, 7, 1)], [], [], [(1, (0, 1, 1, 0), [(2, 805, 805, 0), (0, 2, 2, 0), (0, 0, 7, 1)], [], ([], [])), (1, (0, 0, 0, 0), [(2, 805, 805, 0), (0, 2, 2, 0), (0, 0, 7, 1)], [], ([], []))], [], 2, 44, 0)
theorem kh_107_ok : ct_ok wd_fl kh_107 := ct_of (ff := wd_ff) (y := (⟨"UtilityWorksModel", "isFine", "(II)Z"⟩, prog_14_method_19_code, 3, some .boolean, 12, 1, 2, 32215, 32214, 5007, 21014)) (Cs := [kh_106, kh_105]) (an := [(30, 0, ([((2, 805, 805, 0), none), ((0, 2, 2, 0), none), ((0, 0, 7, 1), none)], [(0, 0), (1, 1), (2, 2)], [], [], [], [], [], [], none), [(0, 0, 99970)])]) (ss := []) (K := 1) (fuel := 4000) wd_fl_ok rfl (List.forall_mem_cons.mpr ⟨kh_106_ok, (List.forall_mem_cons.mpr ⟨kh_105_ok, (List.forall_mem_nil _)⟩)⟩) (by decide +kernel)
/- UtilityWorksModel isOn -/
def kh_108 : ct_T := (360, [(2, 805, 805, 0), (0, 2, 2, 0), (0, 0, 7, 1)], [], [], [(1, (0, 1, 1, 0), [(2, 805, 805, 0), (0, 2, 2, 0), (0, 0, 7, 1)], [], ([], [])), (1, (0, 0, 0, 0), [(2, 805, 805, 0), (0, 2, 2, 0), (0, 0, 7, 1)], [], ([], []))], [], 2, 44, 0)
theorem kh_108_ok : ct_ok wd_fl kh_108 := ct_of (ff := wd_ff) (y := (⟨"UtilityWorksModel", "isOn", "(II)Z"⟩, prog_14_method_20_code, 3, some .boolean, 12, 1, 2, 32219, 32218, 5008, 21014)) (Cs := [kh_106, kh_105]) (an := [(30, 0, ([((2, 805, 805, 0), none), ((0, 2, 2, 0), none), ((0, 0, 7, 1), none)], [(0, 0), (1, 1), (2, 2)], [], [], [], [], [], [], none), [(0, 0, 99970)])]) (ss := []) (K := 1) (fuel := 4000) wd_fl_ok rfl (List.forall_mem_cons.mpr ⟨kh_106_ok, (List.forall_mem_cons.mpr ⟨kh_105_ok, (List.forall_mem_nil _)⟩)⟩) (by decide +kernel)
/- UtilityWorksModel leads -/
def kh_109 : ct_T := (358, [(2, 805, 805, 0), (0, 2, 2, 0), (0, 0, 7, 1)], [], [], [(1, (0, 1, 1, 0), [(2, 805, 805, 0), (0, 2, 2, 0), (0, 0, 7, 1)], [], ([], [])), (1, (0, 0, 0, 0), [(2, 805, 805, 0), (0, 2, 2, 0), (0, 0, 7, 1)], [], ([], []))], [], 3, 66, 0)
theorem kh_109_ok : ct_ok wd_fl kh_109 := ct_of (ff := wd_ff) (y := (⟨"UtilityWorksModel", "leads", "(II)Z"⟩, prog_14_method_21_code, 3, some .boolean, 12, 1, 2, 32211, 32210, 5006, 21014)) (Cs := [kh_107, kh_108]) (an := [(22, 0, ([((2, 805, 805, 0), none), ((0, 2, 2, 0), none), ((0, 0, 7, 1), none)], [(0, 0), (1, 1), (2, 2)], [], [], [], [], [], [], none), [(0, 0, 99978)])]) (ss := []) (K := 1) (fuel := 4000) wd_fl_ok rfl (List.forall_mem_cons.mpr ⟨kh_107_ok, (List.forall_mem_cons.mpr ⟨kh_108_ok, (List.forall_mem_nil _)⟩)⟩) (by decide +kernel)
/- UtilityWorksModel link -/
def kh_110 : ct_T := (357, [(2, 805, 805, 0), (0, 2, 2, 0), (0, 0, 8, 1)], [], [], [(1, (0, 276, 308, 4), [(2, 805, 805, 0), (0, 2, 2, 0), (0, 0, 8, 1)], [], ([], []))], [], 0, 0, 0)
theorem kh_110_ok : ct_ok wd_fl kh_110 := ct_of (ff := wd_ff) (y := (⟨"UtilityWorksModel", "link", "(II)I"⟩, prog_14_method_16_code, 3, some .int, 12, 1, 2, 32207, 32206, 5005, 21014)) (Cs := []) (an := []) (ss := []) (K := 1) (fuel := 4000) wd_fl_ok rfl (List.forall_mem_nil _) (by decide +kernel)
/- UtilityWorksModel hasLink -/
def kh_111 : ct_T := (356, [(2, 805, 805, 0), (0, 2, 2, 0), (0, 0, 8, 1)], [], [], [(1, (0, 0, 0, 0), [(2, 805, 805, 0), (0, 2, 2, 0), (0, 0, 8, 1)], [], ([], [])), (1, (0, 1, 1, 0), [(2, 805, 805, 0), (0, 2, 2, 0), (0, 0, 8, 1)], [], ([], []))], [], 1, 22, 0)
theorem kh_111_ok : ct_ok wd_fl kh_111 := ct_of (ff := wd_ff) (y := (⟨"UtilityWorksModel", "hasLink", "(II)Z"⟩, prog_14_method_17_code, 3, some .boolean, 12, 1, 2, 32203, 32202, 5004, 21014)) (Cs := [kh_110]) (an := []) (ss := []) (K := 1) (fuel := 4000) wd_fl_ok rfl (List.forall_mem_cons.mpr ⟨kh_110_ok, (List.forall_mem_nil _)⟩) (by decide +kernel)
/- UtilityWorksModel isFine -/
def kh_112 : ct_T := (359, [(2, 805, 805, 0), (0, 2, 2, 0), (0, 0, 8, 1)], [], [], [(1, (0, 1, 1, 0), [(2, 805, 805, 0), (0, 2, 2, 0), (0, 0, 8, 1)], [], ([], [])), (1, (0, 0, 0, 0), [(2, 805, 805, 0), (0, 2, 2, 0), (0, 0, 8, 1)], [], ([], []))], [], 2, 44, 0)
theorem kh_112_ok : ct_ok wd_fl kh_112 := ct_of (ff := wd_ff) (y := (⟨"UtilityWorksModel", "isFine", "(II)Z"⟩, prog_14_method_19_code, 3, some .boolean, 12, 1, 2, 32215, 32214, 5007, 21014)) (Cs := [kh_111, kh_110]) (an := [(30, 0, ([((2, 805, 805, 0), none), ((0, 2, 2, 0), none), ((0, 0, 8, 1), none)], [(0, 0), (1, 1), (2, 2)], [], [], [], [], [], [], none), [(0, 0, 99970)])]) (ss := []) (K := 1) (fuel := 4000) wd_fl_ok rfl (List.forall_mem_cons.mpr ⟨kh_111_ok, (List.forall_mem_cons.mpr ⟨kh_110_ok, (List.forall_mem_nil _)⟩)⟩) (by decide +kernel)
/- UtilityWorksModel isOn -/
def kh_113 : ct_T := (360, [(2, 805, 805, 0), (0, 2, 2, 0), (0, 0, 8, 1)], [], [], [(1, (0, 1, 1, 0), [(2, 805, 805, 0), (0, 2, 2, 0), (0, 0, 8, 1)], [], ([], [])), (1, (0, 0, 0, 0), [(2, 805, 805, 0), (0, 2, 2, 0), (0, 0, 8, 1)], [], ([], []))], [], 2, 44, 0)
theorem kh_113_ok : ct_ok wd_fl kh_113 := ct_of (ff := wd_ff) (y := (⟨"UtilityWorksModel", "isOn", "(II)Z"⟩, prog_14_method_20_code, 3, some .boolean, 12, 1, 2, 32219, 32218, 5008, 21014)) (Cs := [kh_111, kh_110]) (an := [(30, 0, ([((2, 805, 805, 0), none), ((0, 2, 2, 0), none), ((0, 0, 8, 1), none)], [(0, 0), (1, 1), (2, 2)], [], [], [], [], [], [], none), [(0, 0, 99970)])]) (ss := []) (K := 1) (fuel := 4000) wd_fl_ok rfl (List.forall_mem_cons.mpr ⟨kh_111_ok, (List.forall_mem_cons.mpr ⟨kh_110_ok, (List.forall_mem_nil _)⟩)⟩) (by decide +kernel)
/- UtilityWorksModel leads -/
def kh_114 : ct_T := (358, [(2, 805, 805, 0), (0, 2, 2, 0), (0, 0, 8, 1)], [], [], [(1, (0, 1, 1, 0), [(2, 805, 805, 0), (0, 2, 2, 0), (0, 0, 8, 1)], [], ([], [])), (1, (0, 0, 0, 0), [(2, 805, 805, 0), (0, 2, 2, 0), (0, 0, 8, 1)], [], ([], []))], [], 3, 66, 0)
theorem kh_114_ok : ct_ok wd_fl kh_114 := ct_of (ff := wd_ff) (y := (⟨"UtilityWorksModel", "leads", "(II)Z"⟩, prog_14_method_21_code, 3, some .boolean, 12, 1, 2, 32211, 32210, 5006, 21014)) (Cs := [kh_112, kh_113]) (an := [(22, 0, ([((2, 805, 805, 0), none), ((0, 2, 2, 0), none), ((0, 0, 8, 1), none)], [(0, 0), (1, 1), (2, 2)], [], [], [], [], [], [], none), [(0, 0, 99978)])]) (ss := []) (K := 1) (fuel := 4000) wd_fl_ok rfl (List.forall_mem_cons.mpr ⟨kh_112_ok, (List.forall_mem_cons.mpr ⟨kh_113_ok, (List.forall_mem_nil _)⟩)⟩) (by decide +kernel)
/- UtilityWorksModel link -/
def kh_115 : ct_T := (357, [(2, 805, 805, 0), (0, 2, 2, 0), (0, 0, 9, 1)], [], [], [(1, (0, 276, 312, 4), [(2, 805, 805, 0), (0, 2, 2, 0), (0, 0, 9, 1)], [], ([], []))], [], 0, 0, 0)
theorem kh_115_ok : ct_ok wd_fl kh_115 := ct_of (ff := wd_ff) (y := (⟨"UtilityWorksModel", "link", "(II)I"⟩, prog_14_method_16_code, 3, some .int, 12, 1, 2, 32207, 32206, 5005, 21014)) (Cs := []) (an := []) (ss := []) (K := 1) (fuel := 4000) wd_fl_ok rfl (List.forall_mem_nil _) (by decide +kernel)
/- UtilityWorksModel hasLink -/
def kh_116 : ct_T := (356, [(2, 805, 805, 0), (0, 2, 2, 0), (0, 0, 9, 1)], [], [], [(1, (0, 0, 0, 0), [(2, 805, 805, 0), (0, 2, 2, 0), (0, 0, 9, 1)], [], ([], [])), (1, (0, 1, 1, 0), [(2, 805, 805, 0), (0, 2, 2, 0), (0, 0, 9, 1)], [], ([], []))], [], 1, 22, 0)
theorem kh_116_ok : ct_ok wd_fl kh_116 := ct_of (ff := wd_ff) (y := (⟨"UtilityWorksModel", "hasLink", "(II)Z"⟩, prog_14_method_17_code, 3, some .boolean, 12, 1, 2, 32203, 32202, 5004, 21014)) (Cs := [kh_115]) (an := []) (ss := []) (K := 1) (fuel := 4000) wd_fl_ok rfl (List.forall_mem_cons.mpr ⟨kh_115_ok, (List.forall_mem_nil _)⟩) (by decide +kernel)
/- UtilityWorksModel isFine -/
def kh_117 : ct_T := (359, [(2, 805, 805, 0), (0, 2, 2, 0), (0, 0, 9, 1)], [], [], [(1, (0, 1, 1, 0), [(2, 805, 805, 0), (0, 2, 2, 0), (0, 0, 9, 1)], [], ([], [])), (1, (0, 0, 0, 0), [(2, 805, 805, 0), (0, 2, 2, 0), (0, 0, 9, 1)], [], ([], []))], [], 2, 44, 0)
theorem kh_117_ok : ct_ok wd_fl kh_117 := ct_of (ff := wd_ff) (y := (⟨"UtilityWorksModel", "isFine", "(II)Z"⟩, prog_14_method_19_code, 3, some .boolean, 12, 1, 2, 32215, 32214, 5007, 21014)) (Cs := [kh_116, kh_115]) (an := [(30, 0, ([((2, 805, 805, 0), none), ((0, 2, 2, 0), none), ((0, 0, 9, 1), none)], [(0, 0), (1, 1), (2, 2)], [], [], [], [], [], [], none), [(0, 0, 99970)])]) (ss := []) (K := 1) (fuel := 4000) wd_fl_ok rfl (List.forall_mem_cons.mpr ⟨kh_116_ok, (List.forall_mem_cons.mpr ⟨kh_115_ok, (List.forall_mem_nil _)⟩)⟩) (by decide +kernel)
/- UtilityWorksModel isOn -/
def kh_118 : ct_T := (360, [(2, 805, 805, 0), (0, 2, 2, 0), (0, 0, 9, 1)], [], [], [(1, (0, 1, 1, 0), [(2, 805, 805, 0), (0, 2, 2, 0), (0, 0, 9, 1)], [], ([], [])), (1, (0, 0, 0, 0), [(2, 805, 805, 0), (0, 2, 2, 0), (0, 0, 9, 1)], [], ([], []))], [], 2, 44, 0)
theorem kh_118_ok : ct_ok wd_fl kh_118 := ct_of (ff := wd_ff) (y := (⟨"UtilityWorksModel", "isOn", "(II)Z"⟩, prog_14_method_20_code, 3, some .boolean, 12, 1, 2, 32219, 32218, 5008, 21014)) (Cs := [kh_116, kh_115]) (an := [(30, 0, ([((2, 805, 805, 0), none), ((0, 2, 2, 0), none), ((0, 0, 9, 1), none)], [(0, 0), (1, 1), (2, 2)], [], [], [], [], [], [], none), [(0, 0, 99970)])]) (ss := []) (K := 1) (fuel := 4000) wd_fl_ok rfl (List.forall_mem_cons.mpr ⟨kh_116_ok, (List.forall_mem_cons.mpr ⟨kh_115_ok, (List.forall_mem_nil _)⟩)⟩) (by decide +kernel)
/- UtilityWorksModel leads -/
def kh_119 : ct_T := (358, [(2, 805, 805, 0), (0, 2, 2, 0), (0, 0, 9, 1)], [], [], [(1, (0, 1, 1, 0), [(2, 805, 805, 0), (0, 2, 2, 0), (0, 0, 9, 1)], [], ([], [])), (1, (0, 0, 0, 0), [(2, 805, 805, 0), (0, 2, 2, 0), (0, 0, 9, 1)], [], ([], []))], [], 3, 66, 0)
theorem kh_119_ok : ct_ok wd_fl kh_119 := ct_of (ff := wd_ff) (y := (⟨"UtilityWorksModel", "leads", "(II)Z"⟩, prog_14_method_21_code, 3, some .boolean, 12, 1, 2, 32211, 32210, 5006, 21014)) (Cs := [kh_117, kh_118]) (an := [(22, 0, ([((2, 805, 805, 0), none), ((0, 2, 2, 0), none), ((0, 0, 9, 1), none)], [(0, 0), (1, 1), (2, 2)], [], [], [], [], [], [], none), [(0, 0, 99978)])]) (ss := []) (K := 1) (fuel := 4000) wd_fl_ok rfl (List.forall_mem_cons.mpr ⟨kh_117_ok, (List.forall_mem_cons.mpr ⟨kh_118_ok, (List.forall_mem_nil _)⟩)⟩) (by decide +kernel)
/- UtilityWorksModel link -/
def kh_120 : ct_T := (357, [(2, 805, 805, 0), (0, 2, 2, 0), (0, 0, 10, 1)], [], [], [(1, (0, 276, 316, 4), [(2, 805, 805, 0), (0, 2, 2, 0), (0, 0, 10, 1)], [], ([], []))], [], 0, 0, 0)
theorem kh_120_ok : ct_ok wd_fl kh_120 := ct_of (ff := wd_ff) (y := (⟨"UtilityWorksModel", "link", "(II)I"⟩, prog_14_method_16_code, 3, some .int, 12, 1, 2, 32207, 32206, 5005, 21014)) (Cs := []) (an := []) (ss := []) (K := 1) (fuel := 4000) wd_fl_ok rfl (List.forall_mem_nil _) (by decide +kernel)
/- UtilityWorksModel hasLink -/
def kh_121 : ct_T := (356, [(2, 805, 805, 0), (0, 2, 2, 0), (0, 0, 10, 1)], [], [], [(1, (0, 0, 0, 0), [(2, 805, 805, 0), (0, 2, 2, 0), (0, 0, 10, 1)], [], ([], [])), (1, (0, 1, 1, 0), [(2, 805, 805, 0), (0, 2, 2, 0), (0, 0, 10, 1)], [], ([], []))], [], 1, 22, 0)
theorem kh_121_ok : ct_ok wd_fl kh_121 := ct_of (ff := wd_ff) (y := (⟨"UtilityWorksModel", "hasLink", "(II)Z"⟩, prog_14_method_17_code, 3, some .boolean, 12, 1, 2, 32203, 32202, 5004, 21014)) (Cs := [kh_120]) (an := []) (ss := []) (K := 1) (fuel := 4000) wd_fl_ok rfl (List.forall_mem_cons.mpr ⟨kh_120_ok, (List.forall_mem_nil _)⟩) (by decide +kernel)
/- UtilityWorksModel isFine -/
def kh_122 : ct_T := (359, [(2, 805, 805, 0), (0, 2, 2, 0), (0, 0, 10, 1)], [], [], [(1, (0, 1, 1, 0), [(2, 805, 805, 0), (0, 2, 2, 0), (0, 0, 10, 1)], [], ([], [])), (1, (0, 0, 0, 0), [(2, 805, 805, 0), (0, 2, 2, 0), (0, 0, 10, 1)], [], ([], []))], [], 2, 44, 0)
theorem kh_122_ok : ct_ok wd_fl kh_122 := ct_of (ff := wd_ff) (y := (⟨"UtilityWorksModel", "isFine", "(II)Z"⟩, prog_14_method_19_code, 3, some .boolean, 12, 1, 2, 32215, 32214, 5007, 21014)) (Cs := [kh_121, kh_120]) (an := [(30, 0, ([((2, 805, 805, 0), none), ((0, 2, 2, 0), none), ((0, 0, 10, 1), none)], [(0, 0), (1, 1), (2, 2)], [], [], [], [], [], [], none), [(0, 0, 99970)])]) (ss := []) (K := 1) (fuel := 4000) wd_fl_ok rfl (List.forall_mem_cons.mpr ⟨kh_121_ok, (List.forall_mem_cons.mpr ⟨kh_120_ok, (List.forall_mem_nil _)⟩)⟩) (by decide +kernel)
/- UtilityWorksModel isOn -/
def kh_123 : ct_T := (360, [(2, 805, 805, 0), (0, 2, 2, 0), (0, 0, 10, 1)], [], [], [(1, (0, 1, 1, 0), [(2, 805, 805, 0), (0, 2, 2, 0), (0, 0, 10, 1)], [], ([], [])), (1, (0, 0, 0, 0), [(2, 805, 805, 0), (0, 2, 2, 0), (0, 0, 10, 1)], [], ([], []))], [], 2, 44, 0)
theorem kh_123_ok : ct_ok wd_fl kh_123 := ct_of (ff := wd_ff) (y := (⟨"UtilityWorksModel", "isOn", "(II)Z"⟩, prog_14_method_20_code, 3, some .boolean, 12, 1, 2, 32219, 32218, 5008, 21014)) (Cs := [kh_121, kh_120]) (an := [(30, 0, ([((2, 805, 805, 0), none), ((0, 2, 2, 0), none), ((0, 0, 10, 1), none)], [(0, 0), (1, 1), (2, 2)], [], [], [], [], [], [], none), [(0, 0, 99970)])]) (ss := []) (K := 1) (fuel := 4000) wd_fl_ok rfl (List.forall_mem_cons.mpr ⟨kh_121_ok, (List.forall_mem_cons.mpr ⟨kh_120_ok, (List.forall_mem_nil _)⟩)⟩) (by decide +kernel)
/- UtilityWorksModel leads -/
def kh_124 : ct_T := (358, [(2, 805, 805, 0), (0, 2, 2, 0), (0, 0, 10, 1)], [], [], [(1, (0, 1, 1, 0), [(2, 805, 805, 0), (0, 2, 2, 0), (0, 0, 10, 1)], [], ([], [])), (1, (0, 0, 0, 0), [(2, 805, 805, 0), (0, 2, 2, 0), (0, 0, 10, 1)], [], ([], []))], [], 3, 66, 0)
theorem kh_124_ok : ct_ok wd_fl kh_124 := ct_of (ff := wd_ff) (y := (⟨"UtilityWorksModel", "leads", "(II)Z"⟩, prog_14_method_21_code, 3, some .boolean, 12, 1, 2, 32211, 32210, 5006, 21014)) (Cs := [kh_122, kh_123]) (an := [(22, 0, ([((2, 805, 805, 0), none), ((0, 2, 2, 0), none), ((0, 0, 10, 1), none)], [(0, 0), (1, 1), (2, 2)], [], [], [], [], [], [], none), [(0, 0, 99978)])]) (ss := []) (K := 1) (fuel := 4000) wd_fl_ok rfl (List.forall_mem_cons.mpr ⟨kh_122_ok, (List.forall_mem_cons.mpr ⟨kh_123_ok, (List.forall_mem_nil _)⟩)⟩) (by decide +kernel)
/- UtilityWorksModel link -/
def kh_125 : ct_T := (357, [(2, 805, 805, 0), (0, 2, 2, 0), (0, 0, 11, 1)], [], [], [(1, (0, 276, 320, 4), [(2, 805, 805, 0), (0, 2, 2, 0), (0, 0, 11, 1)], [], ([], []))], [], 0, 0, 0)
theorem kh_125_ok : ct_ok wd_fl kh_125 := ct_of (ff := wd_ff) (y := (⟨"UtilityWorksModel", "link", "(II)I"⟩, prog_14_method_16_code, 3, some .int, 12, 1, 2, 32207, 32206, 5005, 21014)) (Cs := []) (an := []) (ss := []) (K := 1) (fuel := 4000) wd_fl_ok rfl (List.forall_mem_nil _) (by decide +kernel)
/- UtilityWorksModel hasLink -/
def kh_126 : ct_T := (356, [(2, 805, 805, 0), (0, 2, 2, 0), (0, 0, 11, 1)], [], [], [(1, (0, 0, 0, 0), [(2, 805, 805, 0), (0, 2, 2, 0), (0, 0, 11, 1)], [], ([], [])), (1, (0, 1, 1, 0), [(2, 805, 805, 0), (0, 2, 2, 0), (0, 0, 11, 1)], [], ([], []))], [], 1, 22, 0)
theorem kh_126_ok : ct_ok wd_fl kh_126 := ct_of (ff := wd_ff) (y := (⟨"UtilityWorksModel", "hasLink", "(II)Z"⟩, prog_14_method_17_code, 3, some .boolean, 12, 1, 2, 32203, 32202, 5004, 21014)) (Cs := [kh_125]) (an := []) (ss := []) (K := 1) (fuel := 4000) wd_fl_ok rfl (List.forall_mem_cons.mpr ⟨kh_125_ok, (List.forall_mem_nil _)⟩) (by decide +kernel)
/- UtilityWorksModel isFine -/
def kh_127 : ct_T := (359, [(2, 805, 805, 0), (0, 2, 2, 0), (0, 0, 11, 1)], [], [], [(1, (0, 1, 1, 0), [(2, 805, 805, 0), (0, 2, 2, 0), (0, 0, 11, 1)], [], ([], [])), (1, (0, 0, 0, 0), [(2, 805, 805, 0), (0, 2, 2, 0), (0, 0, 11, 1)], [], ([], []))], [], 2, 44, 0)
theorem kh_127_ok : ct_ok wd_fl kh_127 := ct_of (ff := wd_ff) (y := (⟨"UtilityWorksModel", "isFine", "(II)Z"⟩, prog_14_method_19_code, 3, some .boolean, 12, 1, 2, 32215, 32214, 5007, 21014)) (Cs := [kh_126, kh_125]) (an := [(30, 0, ([((2, 805, 805, 0), none), ((0, 2, 2, 0), none), ((0, 0, 11, 1), none)], [(0, 0), (1, 1), (2, 2)], [], [], [], [], [], [], none), [(0, 0, 99970)])]) (ss := []) (K := 1) (fuel := 4000) wd_fl_ok rfl (List.forall_mem_cons.mpr ⟨kh_126_ok, (List.forall_mem_cons.mpr ⟨kh_125_ok, (List.forall_mem_nil _)⟩)⟩) (by decide +kernel)
/- UtilityWorksModel isOn -/
def kh_128 : ct_T := (360, [(2, 805, 805, 0), (0, 2, 2, 0), (0, 0, 11, 1)], [], [], [(1, (0, 1, 1, 0), [(2, 805, 805, 0), (0, 2, 2, 0), (0, 0, 11, 1)], [], ([], [])), (1, (0, 0, 0, 0), [(2, 805, 805, 0), (0, 2, 2, 0), (0, 0, 11, 1)], [], ([], []))], [], 2, 44, 0)
theorem kh_128_ok : ct_ok wd_fl kh_128 := ct_of (ff := wd_ff) (y := (⟨"UtilityWorksModel", "isOn", "(II)Z"⟩, prog_14_method_20_code, 3, some .boolean, 12, 1, 2, 32219, 32218, 5008, 21014)) (Cs := [kh_126, kh_125]) (an := [(30, 0, ([((2, 805, 805, 0), none), ((0, 2, 2, 0), none), ((0, 0, 11, 1), none)], [(0, 0), (1, 1), (2, 2)], [], [], [], [], [], [], none), [(0, 0, 99970)])]) (ss := []) (K := 1) (fuel := 4000) wd_fl_ok rfl (List.forall_mem_cons.mpr ⟨kh_126_ok, (List.forall_mem_cons.mpr ⟨kh_125_ok, (List.forall_mem_nil _)⟩)⟩) (by decide +kernel)
/- UtilityWorksModel leads -/
def kh_129 : ct_T := (358, [(2, 805, 805, 0), (0, 2, 2, 0), (0, 0, 11, 1)], [], [], [(1, (0, 1, 1, 0), [(2, 805, 805, 0), (0, 2, 2, 0), (0, 0, 11, 1)], [], ([], [])), (1, (0, 0, 0, 0), [(2, 805, 805, 0), (0, 2, 2, 0), (0, 0, 11, 1)], [], ([], []))], [], 3, 66, 0)
theorem kh_129_ok : ct_ok wd_fl kh_129 := ct_of (ff := wd_ff) (y := (⟨"UtilityWorksModel", "leads", "(II)Z"⟩, prog_14_method_21_code, 3, some .boolean, 12, 1, 2, 32211, 32210, 5006, 21014)) (Cs := [kh_127, kh_128]) (an := [(22, 0, ([((2, 805, 805, 0), none), ((0, 2, 2, 0), none), ((0, 0, 11, 1), none)], [(0, 0), (1, 1), (2, 2)], [], [], [], [], [], [], none), [(0, 0, 99978)])]) (ss := []) (K := 1) (fuel := 4000) wd_fl_ok rfl (List.forall_mem_cons.mpr ⟨kh_127_ok, (List.forall_mem_cons.mpr ⟨kh_128_ok, (List.forall_mem_nil _)⟩)⟩) (by decide +kernel)
/- UtilityWorksModel link -/
def kh_130 : ct_T := (357, [(2, 805, 805, 0), (0, 2, 2, 0), (0, 0, 12, 1)], [], [], [(1, (0, 276, 324, 4), [(2, 805, 805, 0), (0, 2, 2, 0), (0, 0, 12, 1)], [], ([], []))], [], 0, 0, 0)
theorem kh_130_ok : ct_ok wd_fl kh_130 := ct_of (ff := wd_ff) (y := (⟨"UtilityWorksModel", "link", "(II)I"⟩, prog_14_method_16_code, 3, some .int, 12, 1, 2, 32207, 32206, 5005, 21014)) (Cs := []) (an := []) (ss := []) (K := 1) (fuel := 4000) wd_fl_ok rfl (List.forall_mem_nil _) (by decide +kernel)
/- UtilityWorksModel hasLink -/
def kh_131 : ct_T := (356, [(2, 805, 805, 0), (0, 2, 2, 0), (0, 0, 12, 1)], [], [], [(1, (0, 0, 0, 0), [(2, 805, 805, 0), (0, 2, 2, 0), (0, 0, 12, 1)], [], ([], [])), (1, (0, 1, 1, 0), [(2, 805, 805, 0), (0, 2, 2, 0), (0, 0, 12, 1)], [], ([], []))], [], 1, 22, 0)
theorem kh_131_ok : ct_ok wd_fl kh_131 := ct_of (ff := wd_ff) (y := (⟨"UtilityWorksModel", "hasLink", "(II)Z"⟩, prog_14_method_17_code, 3, some .boolean, 12, 1, 2, 32203, 32202, 5004, 21014)) (Cs := [kh_130]) (an := []) (ss := []) (K := 1) (fuel := 4000) wd_fl_ok rfl (List.forall_mem_cons.mpr ⟨kh_130_ok, (List.forall_mem_nil _)⟩) (by decide +kernel)
/- UtilityWorksModel isFine -/
def kh_132 : ct_T := (359, [(2, 805, 805, 0), (0, 2, 2, 0), (0, 0, 12, 1)], [], [], [(1, (0, 1, 1, 0), [(2, 805, 805, 0), (0, 2, 2, 0), (0, 0, 12, 1)], [], ([], [])), (1, (0, 0, 0, 0), [(2, 805, 805, 0), (0, 2, 2, 0), (0, 0, 12, 1)], [], ([], []))], [], 2, 44, 0)
theorem kh_132_ok : ct_ok wd_fl kh_132 := ct_of (ff := wd_ff) (y := (⟨"UtilityWorksModel", "isFine", "(II)Z"⟩, prog_14_method_19_code, 3, some .boolean, 12, 1, 2, 32215, 32214, 5007, 21014)) (Cs := [kh_131, kh_130]) (an := [(30, 0, ([((2, 805, 805, 0), none), ((0, 2, 2, 0), none), ((0, 0, 12, 1), none)], [(0, 0), (1, 1), (2, 2)], [], [], [], [], [], [], none), [(0, 0, 99970)])]) (ss := []) (K := 1) (fuel := 4000) wd_fl_ok rfl (List.forall_mem_cons.mpr ⟨kh_131_ok, (List.forall_mem_cons.mpr ⟨kh_130_ok, (List.forall_mem_nil _)⟩)⟩) (by decide +kernel)
/- UtilityWorksModel isOn -/
def kh_133 : ct_T := (360, [(2, 805, 805, 0), (0, 2, 2, 0), (0, 0, 12, 1)], [], [], [(1, (0, 1, 1, 0), [(2, 805, 805, 0), (0, 2, 2, 0), (0, 0, 12, 1)], [], ([], [])), (1, (0, 0, 0, 0), [(2, 805, 805, 0), (0, 2, 2, 0), (0, 0, 12, 1)], [], ([], []))], [], 2, 44, 0)
theorem kh_133_ok : ct_ok wd_fl kh_133 := ct_of (ff := wd_ff) (y := (⟨"UtilityWorksModel", "isOn", "(II)Z"⟩, prog_14_method_20_code, 3, some .boolean, 12, 1, 2, 32219, 32218, 5008, 21014)) (Cs := [kh_131, kh_130]) (an := [(30, 0, ([((2, 805, 805, 0), none), ((0, 2, 2, 0), none), ((0, 0, 12, 1), none)], [(0, 0), (1, 1), (2, 2)], [], [], [], [], [], [], none), [(0, 0, 99970)])]) (ss := []) (K := 1) (fuel := 4000) wd_fl_ok rfl (List.forall_mem_cons.mpr ⟨kh_131_ok, (List.forall_mem_cons.mpr ⟨kh_130_ok, (List.forall_mem_nil _)⟩)⟩) (by decide +kernel)
/- UtilityWorksModel leads -/
def kh_134 : ct_T := (358, [(2, 805, 805, 0), (0, 2, 2, 0), (0, 0, 12, 1)], [], [], [(1, (0, 1, 1, 0), [(2, 805, 805, 0), (0, 2, 2, 0), (0, 0, 12, 1)], [], ([], [])), (1, (0, 0, 0, 0), [(2, 805, 805, 0), (0, 2, 2, 0), (0, 0, 12, 1)], [], ([], []))], [], 3, 66, 0)
theorem kh_134_ok : ct_ok wd_fl kh_134 := ct_of (ff := wd_ff) (y := (⟨"UtilityWorksModel", "leads", "(II)Z"⟩, prog_14_method_21_code, 3, some .boolean, 12, 1, 2, 32211, 32210, 5006, 21014)) (Cs := [kh_132, kh_133]) (an := [(22, 0, ([((2, 805, 805, 0), none), ((0, 2, 2, 0), none), ((0, 0, 12, 1), none)], [(0, 0), (1, 1), (2, 2)], [], [], [], [], [], [], none), [(0, 0, 99978)])]) (ss := []) (K := 1) (fuel := 4000) wd_fl_ok rfl (List.forall_mem_cons.mpr ⟨kh_132_ok, (List.forall_mem_cons.mpr ⟨kh_133_ok, (List.forall_mem_nil _)⟩)⟩) (by decide +kernel)
/- UtilityWorksModel link -/
def kh_135 : ct_T := (357, [(2, 805, 805, 0), (0, 2, 2, 0), (0, 0, 16, 1)], [], [], [(1, (0, 276, 340, 4), [(2, 805, 805, 0), (0, 2, 2, 0), (0, 0, 16, 1)], [], ([], []))], [], 0, 0, 0)
theorem kh_135_ok : ct_ok wd_fl kh_135 := ct_of (ff := wd_ff) (y := (⟨"UtilityWorksModel", "link", "(II)I"⟩, prog_14_method_16_code, 3, some .int, 12, 1, 2, 32207, 32206, 5005, 21014)) (Cs := []) (an := []) (ss := []) (K := 1) (fuel := 4000) wd_fl_ok rfl (List.forall_mem_nil _) (by decide +kernel)
/- UtilityWorksModel hasLink -/
def kh_136 : ct_T := (356, [(2, 805, 805, 0), (0, 2, 2, 0), (0, 0, 16, 1)], [], [], [(1, (0, 0, 0, 0), [(2, 805, 805, 0), (0, 2, 2, 0), (0, 0, 16, 1)], [], ([], [])), (1, (0, 1, 1, 0), [(2, 805, 805, 0), (0, 2, 2, 0), (0, 0, 16, 1)], [], ([], []))], [], 1, 22, 0)
theorem kh_136_ok : ct_ok wd_fl kh_136 := ct_of (ff := wd_ff) (y := (⟨"UtilityWorksModel", "hasLink", "(II)Z"⟩, prog_14_method_17_code, 3, some .boolean, 12, 1, 2, 32203, 32202, 5004, 21014)) (Cs := [kh_135]) (an := []) (ss := []) (K := 1) (fuel := 4000) wd_fl_ok rfl (List.forall_mem_cons.mpr ⟨kh_135_ok, (List.forall_mem_nil _)⟩) (by decide +kernel)
/- UtilityWorksModel isFine -/
def kh_137 : ct_T := (359, [(2, 805, 805, 0), (0, 2, 2, 0), (0, 0, 16, 1)], [], [], [(1, (0, 1, 1, 0), [(2, 805, 805, 0), (0, 2, 2, 0), (0, 0, 16, 1)], [], ([], [])), (1, (0, 0, 0, 0), [(2, 805, 805, 0), (0, 2, 2, 0), (0, 0, 16, 1)], [], ([], []))], [], 2, 44, 0)
theorem kh_137_ok : ct_ok wd_fl kh_137 := ct_of (ff := wd_ff) (y := (⟨"UtilityWorksModel", "isFine", "(II)Z"⟩, prog_14_method_19_code, 3, some .boolean, 12, 1, 2, 32215, 32214, 5007, 21014)) (Cs := [kh_136, kh_135]) (an := [(30, 0, ([((2, 805, 805, 0), none), ((0, 2, 2, 0), none), ((0, 0, 16, 1), none)], [(0, 0), (1, 1), (2, 2)], [], [], [], [], [], [], none), [(0, 0, 99970)])]) (ss := []) (K := 1) (fuel := 4000) wd_fl_ok rfl (List.forall_mem_cons.mpr ⟨kh_136_ok, (List.forall_mem_cons.mpr ⟨kh_135_ok, (List.forall_mem_nil _)⟩)⟩) (by decide +kernel)
/- UtilityWorksModel isOn -/
def kh_138 : ct_T := (360, [(2, 805, 805, 0), (0, 2, 2, 0), (0, 0, 16, 1)], [], [], [(1, (0, 1, 1, 0), [(2, 805, 805, 0), (0, 2, 2, 0), (0, 0, 16, 1)], [], ([], [])), (1, (0, 0, 0, 0), [(2, 805, 805, 0), (0, 2, 2, 0), (0, 0, 16, 1)], [], ([], []))], [], 2, 44, 0)
theorem kh_138_ok : ct_ok wd_fl kh_138 := ct_of (ff := wd_ff) (y := (⟨"UtilityWorksModel", "isOn", "(II)Z"⟩, prog_14_method_20_code, 3, some .boolean, 12, 1, 2, 32219, 32218, 5008, 21014)) (Cs := [kh_136, kh_135]) (an := [(30, 0, ([((2, 805, 805, 0), none), ((0, 2, 2, 0), none), ((0, 0, 16, 1), none)], [(0, 0), (1, 1), (2, 2)], [], [], [], [], [], [], none), [(0, 0, 99970)])]) (ss := []) (K := 1) (fuel := 4000) wd_fl_ok rfl (List.forall_mem_cons.mpr ⟨kh_136_ok, (List.forall_mem_cons.mpr ⟨kh_135_ok, (List.forall_mem_nil _)⟩)⟩) (by decide +kernel)
/- UtilityWorksModel leads -/
def kh_139 : ct_T := (358, [(2, 805, 805, 0), (0, 2, 2, 0), (0, 0, 16, 1)], [], [], [(1, (0, 1, 1, 0), [(2, 805, 805, 0), (0, 2, 2, 0), (0, 0, 16, 1)], [], ([], [])), (1, (0, 0, 0, 0), [(2, 805, 805, 0), (0, 2, 2, 0), (0, 0, 16, 1)], [], ([], []))], [], 3, 66, 0)
theorem kh_139_ok : ct_ok wd_fl kh_139 := ct_of (ff := wd_ff) (y := (⟨"UtilityWorksModel", "leads", "(II)Z"⟩, prog_14_method_21_code, 3, some .boolean, 12, 1, 2, 32211, 32210, 5006, 21014)) (Cs := [kh_137, kh_138]) (an := [(22, 0, ([((2, 805, 805, 0), none), ((0, 2, 2, 0), none), ((0, 0, 16, 1), none)], [(0, 0), (1, 1), (2, 2)], [], [], [], [], [], [], none), [(0, 0, 99978)])]) (ss := []) (K := 1) (fuel := 4000) wd_fl_ok rfl (List.forall_mem_cons.mpr ⟨kh_137_ok, (List.forall_mem_cons.mpr ⟨kh_138_ok, (List.forall_mem_nil _)⟩)⟩) (by decide +kernel)
abbrev kh_hReach_y : mt_T := (⟨"UtilityWorksModel", "hReach", "(I)V"⟩, prog_14_method_165_code, 6, none, 12, 1, 1, 35001, 35000, 12010, 21014)
def kh_hReach : ct_T := (487, [(2, 805, 805, 0), (0, 0, 11, 1)], [], [], [(0, (0, 0, 0, 0), [(2, 805, 805, 0), (0, 0, 11, 1)], [], ([], []))], [((854, 854), (0, 11, 1))], 4, 88, 0)
def kh_hReach_a31 : an_T := (31, 0, ([((2, 805, 805, 0), none), ((0, 0, 11, 1), none), ((0, 0, 1, 1), none)], [(0, 0), (1, 1), (2, 2)], [], [], [], [], [], [], none), [])
def kh_hReach_a39 : an_T := (39, 0, ([((2, 805, 805, 0), none), ((0, 0, 11, 1), none), ((0, 0, 1, 1), none), ((0, 0, 17, 1), none)], [(0, 0), (1, 1), (2, 2), (3, 3)], [], [], [], [], [], [], none), [])
def kh_hReach_a2 : an_T := (2, 0, ([((2, 805, 805, 0), none), ((0, 0, 11, 1), none), ((0, 0, 12, 1), none)], [(0, 0), (1, 1), (2, 2)], [], [], [], [], [], [], none), [(1, 2, 13)])
def kh_hReach_b39_0 : sg_T := (31, 0, ([((2, 805, 805, 0), none), ((0, 0, 11, 1), none), ((0, 0, 1, 1), none), ((0, 17, 17, 1), none), ((0, 17, 17, 0), none)], [(0, 0), (1, 1), (2, 2), (3, 3)], [], [], [], [(200000, 4, 3)], [], [], some []))
def kh_hReach_b39_1 : sg_T := (39, 0, ([((2, 805, 805, 0), none), ((0, 0, 11, 1), none), ((0, 0, 1, 1), none), ((0, 0, 16, 1), none), ((0, 17, 17, 0), none), ((2, 854, 854, 1), none), ((0, 0, 10, 1), none), ((0, 1, 97, 1), none), ((2, 854, 854, 1), none), ((0, 1, 11, 1), none), ((0, 2, 98, 1), none), ((0, 2, 2, 0), none), ((0, 1, 1, 0), none), ((0, 1, 1, 0), none), ((0, 1, 98, 1), some (7, 1)), ((2, 854, 854, 1), none), ((0, 0, 10, 1), none), ((0, 1, 1, 0), none), ((0, 3, 100, 1), some (10, 1)), ((2, 854, 854, 1), none), ((0, 1, 11, 1), none), ((0, 1, 1, 0), none), ((0, 2, 98, 1), some (7, 1)), ((0, 1, 1, 0), none), ((0, 1, 17, 1), some (3, 1))], [(3, 24), (2, 23), (5, 10), (4, 7), (0, 0), (1, 1)], [], [(19, 20, 10)], [(12, 0)], [(200000, 10, 22), (500022, 7, 21), (1100020, 3, 3), (200000, 7, 18), (500018, 10, 17), (1000016, 3, 3), (100000, 14, 10), (500014, 7, 13), (800010, 8, 9), (1100009, 3, 3), (800007, 5, 6), (1000006, 3, 3), (100000, 3, 4)], [], [], some [(19, 20, 10), (15, 16, 7)]))
def kh_hReach_b39_2 : sg_T := (39, 0, ([((2, 805, 805, 0), none), ((0, 0, 11, 1), none), ((0, 0, 1, 1), none), ((0, 0, 16, 1), none), ((0, 17, 17, 0), none), ((2, 854, 854, 1), none), ((0, 0, 10, 1), none), ((0, 0, 97, 1), none), ((2, 854, 854, 1), none), ((0, 1, 11, 1), none), ((0, 2, 99, 1), none), ((0, 2, 2, 0), none), ((0, 1, 1, 0), none), ((0, 1, 1, 0), none), ((0, 1, 98, 1), some (7, 1)), ((2, 854, 854, 1), none), ((0, 0, 10, 1), none), ((0, 1, 1, 0), none), ((0, 3, 100, 1), some (10, 1)), ((2, 854, 854, 1), none), ((0, 1, 11, 1), none), ((0, 1, 1, 0), none), ((0, 1, 98, 1), some (7, 1)), ((0, 1, 1, 0), none), ((0, 1, 98, 1), some (7, 1)), ((0, 1, 1, 0), none), ((0, 1, 17, 1), some (3, 1))], [(3, 26), (2, 25), (5, 10), (4, 7), (0, 0), (1, 1)], [], [(19, 20, 24)], [(12, 0)], [(500024, 7, 23), (100000, 22, 10), (500022, 7, 21), (1100020, 3, 3), (200000, 7, 18), (500018, 10, 17), (1000016, 3, 3), (100000, 14, 10), (500014, 7, 13), (800010, 8, 9), (1100009, 3, 3), (800007, 5, 6), (1000006, 3, 3), (100000, 3, 4)], [], [], some [(19, 20, 24), (15, 16, 7)]))
def kh_hReach_b39_3 : sg_T := (39, 0, ([((2, 805, 805, 0), none), ((0, 0, 11, 1), none), ((0, 0, 1, 1), none), ((0, 0, 16, 1), none), ((0, 17, 17, 0), none), ((2, 854, 854, 1), none), ((0, 0, 10, 1), none), ((0, 4, 97, 1), none), ((2, 854, 854, 1), none), ((0, 1, 11, 1), none), ((0, 2, 95, 1), none), ((0, 2, 2, 0), none), ((0, 1, 1, 0), none), ((0, 1, 1, 0), none), ((0, 1, 98, 1), some (7, 1)), ((2, 854, 854, 1), none), ((0, 0, 10, 1), none), ((0, 1, 1, 0), none), ((0, 3, 96, 1), some (10, 1)), ((0, 1, 1, 0), none), ((0, 3, 96, 1), some (10, 1)), ((2, 854, 854, 1), none), ((0, 1, 11, 1), none), ((0, 1, 1, 0), none), ((0, 5, 98, 1), some (7, 1)), ((0, 1, 1, 0), none), ((0, 1, 17, 1), some (3, 1))], [(3, 26), (2, 25), (5, 10), (4, 7), (0, 0), (1, 1)], [], [(21, 22, 10)], [(12, 0)], [(200000, 10, 24), (500024, 7, 23), (1100022, 3, 3), (500020, 10, 19), (100000, 18, 7), (500018, 10, 17), (1000016, 3, 3), (100000, 14, 10), (500014, 7, 13), (800010, 8, 9), (1100009, 3, 3), (800007, 5, 6), (1000006, 3, 3), (100000, 3, 4)], [], [], some [(21, 22, 10), (15, 16, 20)]))
def kh_hReach_b39_4 : sg_T := (39, 0, ([((2, 805, 805, 0), none), ((0, 0, 11, 1), none), ((0, 0, 1, 1), none), ((0, 0, 16, 1), none), ((0, 17, 17, 0), none), ((2, 854, 854, 1), none), ((0, 0, 10, 1), none), ((0, 4, 93, 1), none), ((2, 854, 854, 1), none), ((0, 1, 11, 1), none), ((0, 6, 95, 1), none), ((0, 2, 2, 0), none), ((0, 1, 1, 0), none), ((0, 1, 1, 0), none), ((0, 1, 98, 1), some (7, 1)), ((2, 854, 854, 1), none), ((0, 0, 10, 1), none), ((0, 1, 1, 0), none), ((0, 3, 96, 1), some (10, 1)), ((0, 1, 1, 0), none), ((0, 3, 96, 1), some (10, 1)), ((2, 854, 854, 1), none), ((0, 1, 11, 1), none), ((0, 1, 1, 0), none), ((0, 5, 94, 1), some (7, 1)), ((0, 1, 1, 0), none), ((0, 5, 94, 1), some (7, 1)), ((0, 1, 1, 0), none), ((0, 1, 17, 1), some (3, 1))], [(3, 28), (2, 27), (5, 10), (4, 7), (0, 0), (1, 1)], [], [(21, 22, 26)], [(12, 0)], [(500026, 7, 25), (100000, 24, 10), (500024, 7, 23), (1100022, 3, 3), (500020, 10, 19), (100000, 18, 7), (500018, 10, 17), (1000016, 3, 3), (100000, 14, 10), (500014, 7, 13), (800010, 8, 9), (1100009, 3, 3), (800007, 5, 6), (1000006, 3, 3), (100000, 3, 4)], [], [], some [(21, 22, 26), (15, 16, 20)]))
def kh_hReach_b39_5 : sg_T := (39, 0, ([((2, 805, 805, 0), none), ((0, 0, 11, 1), none), ((0, 0, 1, 1), none), ((0, 0, 16, 1), none), ((0, 17, 17, 0), none), ((2, 854, 854, 1), none), ((0, 0, 10, 1), none), ((0, 0, 99, 1), none), ((2, 854, 854, 1), none), ((0, 1, 11, 1), none), ((0, 0, 99, 1), none), ((0, 2, 2, 0), none), ((0, 1, 1, 0), none), ((0, 1, 1, 0), none), ((0, 1, 100, 1), some (7, 1)), ((0, 1, 1, 0), none), ((0, 1, 100, 1), some (10, 1)), ((0, 1, 17, 1), some (3, 1))], [(3, 17), (5, 10), (4, 7), (0, 0), (1, 1), (2, 2)], [], [(8, 9, 10), (5, 6, 7)], [(12, 0)], [(200000, 7, 16), (500016, 10, 15), (200000, 10, 14), (500014, 7, 13), (800010, 8, 9), (1100009, 3, 3), (800007, 5, 6), (1000006, 3, 3), (100000, 3, 4)], [], [], some []))
def kh_hReach_b39_6 : sg_T := (39, 0, ([((2, 805, 805, 0), none), ((0, 0, 11, 1), none), ((0, 0, 1, 1), none), ((0, 0, 16, 1), none), ((0, 17, 17, 0), none), ((2, 854, 854, 1), none), ((0, 0, 10, 1), none), ((0, 2, 98, 1), none), ((2, 854, 854, 1), none), ((0, 1, 11, 1), none), ((0, 1, 97, 1), none), ((0, 2, 2, 0), none), ((0, 1, 1, 0), none), ((0, 1, 1, 0), none), ((0, 1, 100, 1), some (7, 1)), ((0, 1, 1, 0), none), ((0, 1, 98, 1), some (10, 1)), ((2, 854, 854, 1), none), ((0, 0, 10, 1), none), ((0, 1, 1, 0), none), ((0, 2, 98, 1), some (10, 1)), ((2, 854, 854, 1), none), ((0, 1, 11, 1), none), ((0, 1, 1, 0), none), ((0, 3, 99, 1), some (7, 1)), ((0, 1, 1, 0), none), ((0, 1, 17, 1), some (3, 1))], [(3, 26), (2, 25), (5, 10), (4, 7), (0, 0), (1, 1)], [], [(21, 22, 10)], [(12, 0)], [(200000, 10, 24), (500024, 7, 23), (1100022, 3, 3), (200000, 7, 20), (500020, 10, 19), (1000018, 3, 3), (100000, 16, 7), (500016, 10, 15), (200000, 10, 14), (500014, 7, 13), (800010, 8, 9), (1100009, 3, 3), (800007, 5, 6), (1000006, 3, 3), (100000, 3, 4)], [], [], some [(21, 22, 10), (17, 18, 7)]))
def kh_hReach_b39_7 : sg_T := (39, 0, ([((2, 805, 805, 0), none), ((0, 0, 11, 1), none), ((0, 0, 1, 1), none), ((0, 0, 16, 1), none), ((0, 17, 17, 0), none), ((2, 854, 854, 1), none), ((0, 0, 10, 1), none), ((0, 2, 95, 1), none), ((2, 854, 854, 1), none), ((0, 1, 11, 1), none), ((0, 4, 97, 1), none), ((0, 2, 2, 0), none), ((0, 1, 1, 0), none), ((0, 1, 1, 0), none), ((0, 1, 100, 1), some (7, 1)), ((0, 1, 1, 0), none), ((0, 1, 98, 1), some (10, 1)), ((2, 854, 854, 1), none), ((0, 0, 10, 1), none), ((0, 1, 1, 0), none), ((0, 2, 98, 1), some (10, 1)), ((2, 854, 854, 1), none), ((0, 1, 11, 1), none), ((0, 1, 1, 0), none), ((0, 3, 96, 1), some (7, 1)), ((0, 1, 1, 0), none), ((0, 3, 96, 1), some (7, 1)), ((0, 1, 1, 0), none), ((0, 1, 17, 1), some (3, 1))], [(3, 28), (2, 27), (5, 10), (4, 7), (0, 0), (1, 1)], [], [(21, 22, 26)], [(12, 0)], [(500026, 7, 25), (100000, 24, 10), (500024, 7, 23), (1100022, 3, 3), (200000, 7, 20), (500020, 10, 19), (1000018, 3, 3), (100000, 16, 7), (500016, 10, 15), (200000, 10, 14), (500014, 7, 13), (800010, 8, 9), (1100009, 3, 3), (800007, 5, 6), (1000006, 3, 3), (100000, 3, 4)], [], [], some [(21, 22, 26), (17, 18, 7)]))
def kh_hReach_b39_8 : sg_T := (39, 0, ([((2, 805, 805, 0), none), ((0, 0, 11, 1), none), ((0, 0, 1, 1), none), ((0, 0, 16, 1), none), ((0, 17, 17, 0), none), ((2, 854, 854, 1), none), ((0, 0, 10, 1), none), ((0, 2, 99, 1), none), ((2, 854, 854, 1), none), ((0, 1, 11, 1), none), ((0, 0, 97, 1), none), ((0, 2, 2, 0), none), ((0, 1, 1, 0), none), ((0, 1, 1, 0), none), ((0, 1, 100, 1), some (7, 1)), ((0, 1, 1, 0), none), ((0, 1, 98, 1), some (10, 1)), ((2, 854, 854, 1), none), ((0, 0, 10, 1), none), ((0, 1, 1, 0), none), ((0, 1, 98, 1), some (10, 1)), ((0, 1, 1, 0), none), ((0, 1, 98, 1), some (10, 1)), ((2, 854, 854, 1), none), ((0, 1, 11, 1), none), ((0, 1, 1, 0), none), ((0, 3, 100, 1), some (7, 1)), ((0, 1, 1, 0), none), ((0, 1, 17, 1), some (3, 1))], [(3, 28), (2, 27), (5, 10), (4, 7), (0, 0), (1, 1)], [], [(23, 24, 10)], [(12, 0)], [(200000, 10, 26), (500026, 7, 25), (1100024, 3, 3), (500022, 10, 21), (100000, 20, 7), (500020, 10, 19), (1000018, 3, 3), (100000, 16, 7), (500016, 10, 15), (200000, 10, 14), (500014, 7, 13), (800010, 8, 9), (1100009, 3, 3), (800007, 5, 6), (1000006, 3, 3), (100000, 3, 4)], [], [], some [(23, 24, 10), (17, 18, 22)]))
def kh_hReach_b39_9 : sg_T := (39, 0, ([((2, 805, 805, 0), none), ((0, 0, 11, 1), none), ((0, 0, 1, 1), none), ((0, 0, 16, 1), none), ((0, 17, 17, 0), none), ((2, 854, 854, 1), none), ((0, 0, 10, 1), none), ((0, 2, 95, 1), none), ((2, 854, 854, 1), none), ((0, 1, 11, 1), none), ((0, 4, 97, 1), none), ((0, 2, 2, 0), none), ((0, 1, 1, 0), none), ((0, 1, 1, 0), none), ((0, 1, 100, 1), some (7, 1)), ((0, 1, 1, 0), none), ((0, 1, 98, 1), some (10, 1)), ((2, 854, 854, 1), none), ((0, 0, 10, 1), none), ((0, 1, 1, 0), none), ((0, 1, 98, 1), some (10, 1)), ((0, 1, 1, 0), none), ((0, 1, 98, 1), some (10, 1)), ((2, 854, 854, 1), none), ((0, 1, 11, 1), none), ((0, 1, 1, 0), none), ((0, 3, 96, 1), some (7, 1)), ((0, 1, 1, 0), none), ((0, 3, 96, 1), some (7, 1)), ((0, 1, 1, 0), none), ((0, 1, 17, 1), some (3, 1))], [(3, 30), (2, 29), (5, 10), (4, 7), (0, 0), (1, 1)], [], [(23, 24, 28)], [(12, 0)], [(500028, 7, 27), (100000, 26, 10), (500026, 7, 25), (1100024, 3, 3), (500022, 10, 21), (100000, 20, 7), (500020, 10, 19), (1000018, 3, 3), (100000, 16, 7), (500016, 10, 15), (200000, 10, 14), (500014, 7, 13), (800010, 8, 9), (1100009, 3, 3), (800007, 5, 6), (1000006, 3, 3), (100000, 3, 4)], [], [], some [(23, 24, 28), (17, 18, 22)]))
def kh_hReach_b39_10 : sg_T := (39, 0, ([((2, 805, 805, 0), none), ((0, 0, 11, 1), none), ((0, 0, 1, 1), none), ((0, 0, 16, 1), none), ((0, 17, 17, 0), none), ((2, 854, 854, 1), none), ((0, 0, 10, 1), none), ((0, 0, 99, 1), none), ((2, 854, 854, 1), none), ((0, 1, 11, 1), none), ((0, 0, 99, 1), none), ((0, 2, 2, 0), none), ((0, 0, 0, 0), none), ((0, 1, 17, 1), some (3, 1))], [(3, 13), (5, 10), (4, 7), (0, 0), (1, 1), (2, 2)], [], [(8, 9, 10), (5, 6, 7)], [], [(800010, 8, 9), (1100009, 3, 3), (800007, 5, 6), (1000006, 3, 3), (100000, 3, 4)], [], [], some []))
def kh_hReach_e0 : sg_T := (31, 0, ([((2, 805, 805, 0), none), ((0, 0, 11, 1), none), ((0, 12, 12, 1), none), ((0, 12, 12, 0), none), ((2, 854, 854, 1), none), ((0, 0, 0, 0), none), ((0, 1, 1, 0), none)], [(2, 6), (0, 0), (1, 1)], [], [], [], [], [], [], none))
def kh_hReach_b31_0 : sg_T := (159, 0, ([((2, 805, 805, 0), none), ((0, 0, 11, 1), none), ((0, 0, 0, 1), none)], [(0, 0), (1, 1), (2, 2)], [], [], [], [], [], [], some []))
def kh_hReach_b31_1 : sg_T := (39, 0, ([((2, 805, 805, 0), none), ((0, 0, 11, 1), none), ((0, 1, 1, 1), none), ((0, 0, 0, 0), none), ((0, 0, 0, 0), none)], [(3, 4), (2, 3), (0, 0), (1, 1)], [], [], [(2, 0)], [], [], [], some []))
theorem kh_hReach_ok : ct_ok wd_fl kh_hReach := ct_hand (ff := wd_ff) (y := kh_hReach_y) (Cs := [kh_low, kh_high, kh_74, kh_79, kh_84, kh_89, kh_94, kh_99, kh_104, kh_109, kh_114, kh_119, kh_124, kh_129, kh_134, kh_139]) wd_fl_ok rfl (List.forall_mem_cons.mpr ⟨kh_low_ok, (List.forall_mem_cons.mpr ⟨kh_high_ok, (List.forall_mem_cons.mpr ⟨kh_74_ok, (List.forall_mem_cons.mpr ⟨kh_79_ok, (List.forall_mem_cons.mpr ⟨kh_84_ok, (List.forall_mem_cons.mpr ⟨kh_89_ok, (List.forall_mem_cons.mpr ⟨kh_94_ok, (List.forall_mem_cons.mpr ⟨kh_99_ok, (List.forall_mem_cons.mpr ⟨kh_104_ok, (List.forall_mem_cons.mpr ⟨kh_109_ok, (List.forall_mem_cons.mpr ⟨kh_114_ok, (List.forall_mem_cons.mpr ⟨kh_119_ok, (List.forall_mem_cons.mpr ⟨kh_124_ok, (List.forall_mem_cons.mpr ⟨kh_129_ok, (List.forall_mem_cons.mpr ⟨kh_134_ok, (List.forall_mem_cons.mpr ⟨kh_139_ok, (List.forall_mem_nil _)⟩)⟩)⟩)⟩)⟩)⟩)⟩)⟩)⟩)⟩)⟩)⟩)⟩)⟩)⟩)⟩) (by decide +kernel) (fun l D tc ad kd N sm xs S p e s m args below meth c sz lv G H0 => by
  have hx : xs.length = 2 := by rw [H0.2.1.1]; rfl
  have hbd : ∀ (α : List av_X) (A : as_T) (lv : List (Nat × Value)) (st : List Value) (S1 : fw_S), as_in ad sm wd_fl xs S kh_hReach.2.2.2.2.2.1 α A lv st S1 → q_rg A ((854, 854), (0, 11, 1), (0, 0, 99, 1)) = true → 0 ≤ sm_S (S1.1 854) 12 ∧ sm_S (S1.1 854) 12 ≤ 1188 := by
    intro α A lv st S1 H hq
    have h1 := q_rg_in hq H
    have := sm_bd (f := S1.1 854) (lo := 0) (hi := 99) (n := 12) (fun j hj => rg_bd h1 (by omega))
    omega
  have hX : ∀ (α : List av_X) (lv : List (Nat × Value)) (S1 : fw_S), as_in ad sm wd_fl xs S kh_hReach.2.2.2.2.2.1 α kh_hReach_a31.2.2.1 lv [] S1 → nv α 2 = 0 → hd_W wd_fl kh_hReach kh_hReach_y l D tc ad kd N sm xs S p e s m args below meth c sz 31 lv [] S1 0 := by
    intro α lv S1 H h0
    have hg := (en_nv (i := 2) H.2.1 rfl).1
    rw [h0] at hg
    exact hd_run G (ss := []) (A := ([((2, 805, 805, 0), none), ((0, 0, 11, 1), none), ((0, 0, 0, 0), none)], [(0, 0), (1, 1), (2, 2)], [], [], [], [], [], [], none)) (fuel := 20) (by decide +kernel) (as_set (i := 2) (q := ((0, 0, 1, 1), none)) (a := (0, 0, 0, 0)) H hg rfl ⟨rfl, ⟨by decide, by decide⟩, Int.le_refl _, Int.le_refl _, Int.dvd_refl _⟩)
  have hW : ∀ (k : Nat) (α : List av_X) (lv : List (Nat × Value)) (S1 : fw_S), as_in ad sm wd_fl xs S kh_hReach.2.2.2.2.2.1 α kh_hReach_a31.2.2.1 lv [] S1 → (sm_S (S1.1 854) 12).toNat < k → hd_W wd_fl kh_hReach kh_hReach_y l D tc ad kd N sm xs S p e s m args below meth c sz 31 lv [] S1 0 := by
    intro k
    induction k with
    | zero => intro α lv S1 _ h; omega
    | succ k ih =>
    intro α lv S1 H hk
    have hI : ∀ (j : Nat) (α : List av_X) (lv : List (Nat × Value)) (S2 : fw_S), as_in ad sm wd_fl xs S kh_hReach.2.2.2.2.2.1 α kh_hReach_a39.2.2.1 lv [] S2 → sm_S (S2.1 854) 12 ≤ sm_S (S1.1 854) 12 → (nv α 2 = 0 ∨ sm_S (S2.1 854) 12 < sm_S (S1.1 854) 12) → (17 - nv α 3).toNat < j → hd_W wd_fl kh_hReach kh_hReach_y l D tc ad kd N sm xs S p e s m args below meth c sz 39 lv [] S2 0 := by
      intro j
      induction j with
      | zero => intro α lv S2 _ _ _ h; omega
      | succ j ihj =>
      intro α lv S2 H2 hR hg hj
      obtain ⟨α1, hle, Hr⟩ := as_rec_in (pl := []) rfl H2
      have hf := H2.2.2.2.2.2.2.2.2.2.2.1
      have hl1 : α1.length = 4 := by rw [Hr.2.1.1]; rfl
      have hl0 : α.length = 4 := by rw [H2.2.1.1]; rfl
      have hxa : al_le xs α1 := H2.1.trans hle
      refine hd_seg G (na := 4) (fuel := 400) (first := true) (Bs := [kh_hReach_b39_0, kh_hReach_b39_1, kh_hReach_b39_2, kh_hReach_b39_3, kh_hReach_b39_4, kh_hReach_b39_5, kh_hReach_b39_6, kh_hReach_b39_7, kh_hReach_b39_8, kh_hReach_b39_9, kh_hReach_b39_10]) (by decide +kernel) hl1 Hr ?_
      intro q hq β lv' st' S' H1
      simp only [List.mem_cons, List.not_mem_nil, or_false] at hq
      rcases hq with rfl | rfl | rfl | rfl | rfl | rfl | rfl | rfl | rfl | rfl | rfl
      · have Ha := hd_go (q := kh_hReach_a31) (n := 0) (by decide +kernel) hx H1 hxa hf
        have hst : st' = [] := by
          have := H1.2.2.2.1
          match st', this with
          | [], _ => rfl
          | _ :: _, z => exact z.elim
        subst hst
        have eg : nv α1 2 = nv α 2 := nv_le hle (by omega)
        have et : nv α1 3 = nv α 3 := nv_le hle (by omega)
        have eg1 : nv β 2 = nv α1 2 := nv_le H1.1 (by omega)
        have et1 : nv β 3 = nv α1 3 := nv_le H1.1 (by omega)
        have hb := hbd _ _ _ _ _ H2 (by decide +kernel)
        obtain ⟨f1, f2, f3, f4, f5⟩ := as_fx H1
        simp only [kh_hReach_b39_0, fx_env, fx_c, fx_ne, fx_hf, wl_S, Nat.zero_add, Nat.reduceAdd, Nat.reduceDiv, Nat.reduceMod, List.getElem?_cons_zero, List.getElem?_cons_succ, if_true, and_true, true_and] at f1 f2 f3 f4 f5
        have fe0 : nv β 0 = 805 := by omega
        have fe3 : nv β 3 = 17 := by omega
        have fe4 : nv β 4 = 17 := by omega
        try simp only [fe0, fe3, fe4, Int.reduceToNat] at f2 f3 f4 f5
        rw [f5] at Ha ⊢
        rcases hg with hg | hg
        · exact hX _ _ _ Ha (by rw [nv_mu (v := 2) rfl]; omega)
        · exact ih _ _ _ Ha (by omega)
      · have Ha := hd_go (q := kh_hReach_a39) (n := 0) (by decide +kernel) hx H1 hxa hf
        have hst : st' = [] := by
          have := H1.2.2.2.1
          match st', this with
          | [], _ => rfl
          | _ :: _, z => exact z.elim
        subst hst
        have eg : nv α1 2 = nv α 2 := nv_le hle (by omega)
        have et : nv α1 3 = nv α 3 := nv_le hle (by omega)
        have eg1 : nv β 2 = nv α1 2 := nv_le H1.1 (by omega)
        have et1 : nv β 3 = nv α1 3 := nv_le H1.1 (by omega)
        have hb := hbd _ _ _ _ _ H2 (by decide +kernel)
        obtain ⟨f1, f2, f3, f4, f5⟩ := as_fx H1
        simp only [kh_hReach_b39_1, fx_env, fx_c, fx_ne, fx_hf, wl_S, Nat.zero_add, Nat.reduceAdd, Nat.reduceDiv, Nat.reduceMod, List.getElem?_cons_zero, List.getElem?_cons_succ, if_true, and_true, true_and] at f1 f2 f3 f4 f5
        have fe0 : nv β 0 = 805 := by omega
        have fe4 : nv β 4 = 17 := by omega
        have fe5 : nv β 5 = 854 := by omega
        have fe8 : nv β 8 = 854 := by omega
        have fe11 : nv β 11 = 2 := by omega
        have fe12 : nv β 12 = 1 := by omega
        have fe13 : nv β 13 = 1 := by omega
        have fe15 : nv β 15 = 854 := by omega
        have fe17 : nv β 17 = 1 := by omega
        have fe19 : nv β 19 = 854 := by omega
        have fe21 : nv β 21 = 1 := by omega
        have fe23 : nv β 23 = 1 := by omega
        try simp only [fe0, fe4, fe5, fe8, fe11, fe12, fe13, fe15, fe17, fe19, fe21, fe23, Int.reduceToNat] at f2 f3 f4 f5
        obtain ⟨c0, c1, c2, c3, c4, c5, c6, c7, c8, c9, c10, c11, c12⟩ := f2
        have oL := old_0 c10 rfl
        have oH := old_0 c8 rfl
        have d5 := c5
        simp only [wd_fl] at d5
        have d11 := c11
        simp only [wd_fl] at d11
        have d2 := c2
        simp only [wd_fl] at d2
        have d9 := c9
        simp only [wd_fl] at d9
        have hlh : lowI (nv β 3) < highI (nv β 3) := by
          have : nv β 3 / 3 ≤ 5 := by omega
          unfold highI lowI; (repeat' split) <;> omega
        have hR2 : sm_S (S'.1 854) 12 < sm_S (S2.1 854) 12 := by
          rw [f5, sm_i (by omega), sm_i (by omega), fw_i_row, if_neg (by omega), i32_of (by omega) (by omega), i32_of (by omega) (by omega)]
          have u1 : nv β 16 = nv β 6 := by omega
          have u2 : nv β 20 = nv β 9 := by omega
          rw [u1, u2, oL, oH]
          omega
        refine ihj _ _ _ Ha (by omega) (Or.inr (by omega)) (by rw [nv_mu (v := 24) rfl]; omega)
      · have Ha := hd_go (q := kh_hReach_a39) (n := 0) (by decide +kernel) hx H1 hxa hf
        have hst : st' = [] := by
          have := H1.2.2.2.1
          match st', this with
          | [], _ => rfl
          | _ :: _, z => exact z.elim
        subst hst
        have eg : nv α1 2 = nv α 2 := nv_le hle (by omega)
        have et : nv α1 3 = nv α 3 := nv_le hle (by omega)
        have eg1 : nv β 2 = nv α1 2 := nv_le H1.1 (by omega)
        have et1 : nv β 3 = nv α1 3 := nv_le H1.1 (by omega)
        have hb := hbd _ _ _ _ _ H2 (by decide +kernel)
        obtain ⟨f1, f2, f3, f4, f5⟩ := as_fx H1
        simp only [kh_hReach_b39_2, fx_env, fx_c, fx_ne, fx_hf, wl_S, Nat.zero_add, Nat.reduceAdd, Nat.reduceDiv, Nat.reduceMod, List.getElem?_cons_zero, List.getElem?_cons_succ, if_true, and_true, true_and] at f1 f2 f3 f4 f5
        have fe0 : nv β 0 = 805 := by omega
        have fe4 : nv β 4 = 17 := by omega
        have fe5 : nv β 5 = 854 := by omega
        have fe8 : nv β 8 = 854 := by omega
        have fe11 : nv β 11 = 2 := by omega
        have fe12 : nv β 12 = 1 := by omega
        have fe13 : nv β 13 = 1 := by omega
        have fe15 : nv β 15 = 854 := by omega
        have fe17 : nv β 17 = 1 := by omega
        have fe19 : nv β 19 = 854 := by omega
        have fe21 : nv β 21 = 1 := by omega
        have fe23 : nv β 23 = 1 := by omega
        have fe25 : nv β 25 = 1 := by omega
        try simp only [fe0, fe4, fe5, fe8, fe11, fe12, fe13, fe15, fe17, fe19, fe21, fe23, fe25, Int.reduceToNat] at f2 f3 f4 f5
        obtain ⟨c0, c1, c2, c3, c4, c5, c6, c7, c8, c9, c10, c11, c12, c13⟩ := f2
        have oL := old_0 c11 rfl
        have oH := old_0 c9 rfl
        have d6 := c6
        simp only [wd_fl] at d6
        have d12 := c12
        simp only [wd_fl] at d12
        have d3 := c3
        simp only [wd_fl] at d3
        have d10 := c10
        simp only [wd_fl] at d10
        have hlh : lowI (nv β 3) < highI (nv β 3) := by
          have : nv β 3 / 3 ≤ 5 := by omega
          unfold highI lowI; (repeat' split) <;> omega
        have hR2 : sm_S (S'.1 854) 12 < sm_S (S2.1 854) 12 := by
          rw [f5, sm_i (by omega), sm_i (by omega), fw_i_row, if_neg (by omega), i32_of (by omega) (by omega), i32_of (by omega) (by omega)]
          have u1 : nv β 16 = nv β 6 := by omega
          have u2 : nv β 20 = nv β 9 := by omega
          rw [u1, u2, oL, oH]
          omega
        refine ihj _ _ _ Ha (by omega) (Or.inr (by omega)) (by rw [nv_mu (v := 26) rfl]; omega)
      · have Ha := hd_go (q := kh_hReach_a39) (n := 0) (by decide +kernel) hx H1 hxa hf
        have hst : st' = [] := by
          have := H1.2.2.2.1
          match st', this with
          | [], _ => rfl
          | _ :: _, z => exact z.elim
        subst hst
        have eg : nv α1 2 = nv α 2 := nv_le hle (by omega)
        have et : nv α1 3 = nv α 3 := nv_le hle (by omega)
        have eg1 : nv β 2 = nv α1 2 := nv_le H1.1 (by omega)
        have et1 : nv β 3 = nv α1 3 := nv_le H1.1 (by omega)
        have hb := hbd _ _ _ _ _ H2 (by decide +kernel)
        obtain ⟨f1, f2, f3, f4, f5⟩ := as_fx H1
        simp only [kh_hReach_b39_3, fx_env, fx_c, fx_ne, fx_hf, wl_S, Nat.zero_add, Nat.reduceAdd, Nat.reduceDiv, Nat.reduceMod, List.getElem?_cons_zero, List.getElem?_cons_succ, if_true, and_true, true_and] at f1 f2 f3 f4 f5
        have fe0 : nv β 0 = 805 := by omega
        have fe4 : nv β 4 = 17 := by omega
        have fe5 : nv β 5 = 854 := by omega
        have fe8 : nv β 8 = 854 := by omega
        have fe11 : nv β 11 = 2 := by omega
        have fe12 : nv β 12 = 1 := by omega
        have fe13 : nv β 13 = 1 := by omega
        have fe15 : nv β 15 = 854 := by omega
        have fe17 : nv β 17 = 1 := by omega
        have fe19 : nv β 19 = 1 := by omega
        have fe21 : nv β 21 = 854 := by omega
        have fe23 : nv β 23 = 1 := by omega
        have fe25 : nv β 25 = 1 := by omega
        try simp only [fe0, fe4, fe5, fe8, fe11, fe12, fe13, fe15, fe17, fe19, fe21, fe23, fe25, Int.reduceToNat] at f2 f3 f4 f5
        obtain ⟨c0, c1, c2, c3, c4, c5, c6, c7, c8, c9, c10, c11, c12, c13⟩ := f2
        have oL := old_0 c11 rfl
        have oH := old_0 c9 rfl
        have d6 := c6
        simp only [wd_fl] at d6
        have d12 := c12
        simp only [wd_fl] at d12
        have d2 := c2
        simp only [wd_fl] at d2
        have d10 := c10
        simp only [wd_fl] at d10
        have hlh : lowI (nv β 3) < highI (nv β 3) := by
          have : nv β 3 / 3 ≤ 5 := by omega
          unfold highI lowI; (repeat' split) <;> omega
        have hR2 : sm_S (S'.1 854) 12 < sm_S (S2.1 854) 12 := by
          rw [f5, sm_i (by omega), sm_i (by omega), fw_i_row, if_neg (by omega), i32_of (by omega) (by omega), i32_of (by omega) (by omega)]
          have u1 : nv β 16 = nv β 6 := by omega
          have u2 : nv β 22 = nv β 9 := by omega
          rw [u1, u2, oL, oH]
          omega
        refine ihj _ _ _ Ha (by omega) (Or.inr (by omega)) (by rw [nv_mu (v := 26) rfl]; omega)
      · have Ha := hd_go (q := kh_hReach_a39) (n := 0) (by decide +kernel) hx H1 hxa hf
        have hst : st' = [] := by
          have := H1.2.2.2.1
          match st', this with
          | [], _ => rfl
          | _ :: _, z => exact z.elim
        subst hst
        have eg : nv α1 2 = nv α 2 := nv_le hle (by omega)
        have et : nv α1 3 = nv α 3 := nv_le hle (by omega)
        have eg1 : nv β 2 = nv α1 2 := nv_le H1.1 (by omega)
        have et1 : nv β 3 = nv α1 3 := nv_le H1.1 (by omega)
        have hb := hbd _ _ _ _ _ H2 (by decide +kernel)
        obtain ⟨f1, f2, f3, f4, f5⟩ := as_fx H1
        simp only [kh_hReach_b39_4, fx_env, fx_c, fx_ne, fx_hf, wl_S, Nat.zero_add, Nat.reduceAdd, Nat.reduceDiv, Nat.reduceMod, List.getElem?_cons_zero, List.getElem?_cons_succ, if_true, and_true, true_and] at f1 f2 f3 f4 f5
        have fe0 : nv β 0 = 805 := by omega
        have fe4 : nv β 4 = 17 := by omega
        have fe5 : nv β 5 = 854 := by omega
        have fe8 : nv β 8 = 854 := by omega
        have fe11 : nv β 11 = 2 := by omega
        have fe12 : nv β 12 = 1 := by omega
        have fe13 : nv β 13 = 1 := by omega
        have fe15 : nv β 15 = 854 := by omega
        have fe17 : nv β 17 = 1 := by omega
        have fe19 : nv β 19 = 1 := by omega
        have fe21 : nv β 21 = 854 := by omega
        have fe23 : nv β 23 = 1 := by omega
        have fe25 : nv β 25 = 1 := by omega
        have fe27 : nv β 27 = 1 := by omega
        try simp only [fe0, fe4, fe5, fe8, fe11, fe12, fe13, fe15, fe17, fe19, fe21, fe23, fe25, fe27, Int.reduceToNat] at f2 f3 f4 f5
        obtain ⟨c0, c1, c2, c3, c4, c5, c6, c7, c8, c9, c10, c11, c12, c13, c14⟩ := f2
        have oL := old_0 c12 rfl
        have oH := old_0 c10 rfl
        have d7 := c7
        simp only [wd_fl] at d7
        have d13 := c13
        simp only [wd_fl] at d13
        have d3 := c3
        simp only [wd_fl] at d3
        have d11 := c11
        simp only [wd_fl] at d11
        have hlh : lowI (nv β 3) < highI (nv β 3) := by
          have : nv β 3 / 3 ≤ 5 := by omega
          unfold highI lowI; (repeat' split) <;> omega
        have hR2 : sm_S (S'.1 854) 12 < sm_S (S2.1 854) 12 := by
          rw [f5, sm_i (by omega), sm_i (by omega), fw_i_row, if_neg (by omega), i32_of (by omega) (by omega), i32_of (by omega) (by omega)]
          have u1 : nv β 16 = nv β 6 := by omega
          have u2 : nv β 22 = nv β 9 := by omega
          rw [u1, u2, oL, oH]
          omega
        refine ihj _ _ _ Ha (by omega) (Or.inr (by omega)) (by rw [nv_mu (v := 28) rfl]; omega)
      · have Ha := hd_go (q := kh_hReach_a39) (n := 0) (by decide +kernel) hx H1 hxa hf
        have hst : st' = [] := by
          have := H1.2.2.2.1
          match st', this with
          | [], _ => rfl
          | _ :: _, z => exact z.elim
        subst hst
        have eg : nv α1 2 = nv α 2 := nv_le hle (by omega)
        have et : nv α1 3 = nv α 3 := nv_le hle (by omega)
        have eg1 : nv β 2 = nv α1 2 := nv_le H1.1 (by omega)
        have et1 : nv β 3 = nv α1 3 := nv_le H1.1 (by omega)
        have hb := hbd _ _ _ _ _ H2 (by decide +kernel)
        obtain ⟨f1, f2, f3, f4, f5⟩ := as_fx H1
        simp only [kh_hReach_b39_5, fx_env, fx_c, fx_ne, fx_hf, wl_S, Nat.zero_add, Nat.reduceAdd, Nat.reduceDiv, Nat.reduceMod, List.getElem?_cons_zero, List.getElem?_cons_succ, if_true, and_true, true_and] at f1 f2 f3 f4 f5
        have fe0 : nv β 0 = 805 := by omega
        have fe4 : nv β 4 = 17 := by omega
        have fe5 : nv β 5 = 854 := by omega
        have fe8 : nv β 8 = 854 := by omega
        have fe11 : nv β 11 = 2 := by omega
        have fe12 : nv β 12 = 1 := by omega
        have fe13 : nv β 13 = 1 := by omega
        have fe15 : nv β 15 = 1 := by omega
        try simp only [fe0, fe4, fe5, fe8, fe11, fe12, fe13, fe15, Int.reduceToNat] at f2 f3 f4 f5
        rw [f5] at Ha ⊢
        refine ihj _ _ _ Ha (by omega) (by rw [nv_mu (v := 2) rfl]; omega) (by rw [nv_mu (v := 17) rfl]; omega)
      · have Ha := hd_go (q := kh_hReach_a39) (n := 0) (by decide +kernel) hx H1 hxa hf
        have hst : st' = [] := by
          have := H1.2.2.2.1
          match st', this with
          | [], _ => rfl
          | _ :: _, z => exact z.elim
        subst hst
        have eg : nv α1 2 = nv α 2 := nv_le hle (by omega)
        have et : nv α1 3 = nv α 3 := nv_le hle (by omega)
        have eg1 : nv β 2 = nv α1 2 := nv_le H1.1 (by omega)
        have et1 : nv β 3 = nv α1 3 := nv_le H1.1 (by omega)
        have hb := hbd _ _ _ _ _ H2 (by decide +kernel)
        obtain ⟨f1, f2, f3, f4, f5⟩ := as_fx H1
        simp only [kh_hReach_b39_6, fx_env, fx_c, fx_ne, fx_hf, wl_S, Nat.zero_add, Nat.reduceAdd, Nat.reduceDiv, Nat.reduceMod, List.getElem?_cons_zero, List.getElem?_cons_succ, if_true, and_true, true_and] at f1 f2 f3 f4 f5
        have fe0 : nv β 0 = 805 := by omega
        have fe4 : nv β 4 = 17 := by omega
        have fe5 : nv β 5 = 854 := by omega
        have fe8 : nv β 8 = 854 := by omega
        have fe11 : nv β 11 = 2 := by omega
        have fe12 : nv β 12 = 1 := by omega
        have fe13 : nv β 13 = 1 := by omega
        have fe15 : nv β 15 = 1 := by omega
        have fe17 : nv β 17 = 854 := by omega
        have fe19 : nv β 19 = 1 := by omega
        have fe21 : nv β 21 = 854 := by omega
        have fe23 : nv β 23 = 1 := by omega
        have fe25 : nv β 25 = 1 := by omega
        try simp only [fe0, fe4, fe5, fe8, fe11, fe12, fe13, fe15, fe17, fe19, fe21, fe23, fe25, Int.reduceToNat] at f2 f3 f4 f5
        obtain ⟨c0, c1, c2, c3, c4, c5, c6, c7, c8, c9, c10, c11, c12, c13, c14⟩ := f2
        have oL := old_0 c12 rfl
        have oH := old_0 c10 rfl
        have d5 := c5
        simp only [wd_fl] at d5
        have d13 := c13
        simp only [wd_fl] at d13
        have d2 := c2
        simp only [wd_fl] at d2
        have d11 := c11
        simp only [wd_fl] at d11
        have hlh : lowI (nv β 3) < highI (nv β 3) := by
          have : nv β 3 / 3 ≤ 5 := by omega
          unfold highI lowI; (repeat' split) <;> omega
        have hR2 : sm_S (S'.1 854) 12 < sm_S (S2.1 854) 12 := by
          rw [f5, sm_i (by omega), sm_i (by omega), fw_i_row, if_neg (by omega), i32_of (by omega) (by omega), i32_of (by omega) (by omega)]
          have u1 : nv β 18 = nv β 6 := by omega
          have u2 : nv β 22 = nv β 9 := by omega
          rw [u1, u2, oL, oH]
          omega
        refine ihj _ _ _ Ha (by omega) (Or.inr (by omega)) (by rw [nv_mu (v := 26) rfl]; omega)
      · have Ha := hd_go (q := kh_hReach_a39) (n := 0) (by decide +kernel) hx H1 hxa hf
        have hst : st' = [] := by
          have := H1.2.2.2.1
          match st', this with
          | [], _ => rfl
          | _ :: _, z => exact z.elim
        subst hst
        have eg : nv α1 2 = nv α 2 := nv_le hle (by omega)
        have et : nv α1 3 = nv α 3 := nv_le hle (by omega)
        have eg1 : nv β 2 = nv α1 2 := nv_le H1.1 (by omega)
        have et1 : nv β 3 = nv α1 3 := nv_le H1.1 (by omega)
        have hb := hbd _ _ _ _ _ H2 (by decide +kernel)
        obtain ⟨f1, f2, f3, f4, f5⟩ := as_fx H1
        simp only [kh_hReach_b39_7, fx_env, fx_c, fx_ne, fx_hf, wl_S, Nat.zero_add, Nat.reduceAdd, Nat.reduceDiv, Nat.reduceMod, List.getElem?_cons_zero, List.getElem?_cons_succ, if_true, and_true, true_and] at f1 f2 f3 f4 f5
        have fe0 : nv β 0 = 805 := by omega
        have fe4 : nv β 4 = 17 := by omega
        have fe5 : nv β 5 = 854 := by omega
        have fe8 : nv β 8 = 854 := by omega
        have fe11 : nv β 11 = 2 := by omega
        have fe12 : nv β 12 = 1 := by omega
        have fe13 : nv β 13 = 1 := by omega
        have fe15 : nv β 15 = 1 := by omega
        have fe17 : nv β 17 = 854 := by omega
        have fe19 : nv β 19 = 1 := by omega
        have fe21 : nv β 21 = 854 := by omega
        have fe23 : nv β 23 = 1 := by omega
        have fe25 : nv β 25 = 1 := by omega
        have fe27 : nv β 27 = 1 := by omega
        try simp only [fe0, fe4, fe5, fe8, fe11, fe12, fe13, fe15, fe17, fe19, fe21, fe23, fe25, fe27, Int.reduceToNat] at f2 f3 f4 f5
        obtain ⟨c0, c1, c2, c3, c4, c5, c6, c7, c8, c9, c10, c11, c12, c13, c14, c15⟩ := f2
        have oL := old_0 c13 rfl
        have oH := old_0 c11 rfl
        have d6 := c6
        simp only [wd_fl] at d6
        have d14 := c14
        simp only [wd_fl] at d14
        have d3 := c3
        simp only [wd_fl] at d3
        have d12 := c12
        simp only [wd_fl] at d12
        have hlh : lowI (nv β 3) < highI (nv β 3) := by
          have : nv β 3 / 3 ≤ 5 := by omega
          unfold highI lowI; (repeat' split) <;> omega
        have hR2 : sm_S (S'.1 854) 12 < sm_S (S2.1 854) 12 := by
          rw [f5, sm_i (by omega), sm_i (by omega), fw_i_row, if_neg (by omega), i32_of (by omega) (by omega), i32_of (by omega) (by omega)]
          have u1 : nv β 18 = nv β 6 := by omega
          have u2 : nv β 22 = nv β 9 := by omega
          rw [u1, u2, oL, oH]
          omega
        refine ihj _ _ _ Ha (by omega) (Or.inr (by omega)) (by rw [nv_mu (v := 28) rfl]; omega)
      · have Ha := hd_go (q := kh_hReach_a39) (n := 0) (by decide +kernel) hx H1 hxa hf
        have hst : st' = [] := by
          have := H1.2.2.2.1
          match st', this with
          | [], _ => rfl
          | _ :: _, z => exact z.elim
        subst hst
        have eg : nv α1 2 = nv α 2 := nv_le hle (by omega)
        have et : nv α1 3 = nv α 3 := nv_le hle (by omega)
        have eg1 : nv β 2 = nv α1 2 := nv_le H1.1 (by omega)
        have et1 : nv β 3 = nv α1 3 := nv_le H1.1 (by omega)
        have hb := hbd _ _ _ _ _ H2 (by decide +kernel)
        obtain ⟨f1, f2, f3, f4, f5⟩ := as_fx H1
        simp only [kh_hReach_b39_8, fx_env, fx_c, fx_ne, fx_hf, wl_S, Nat.zero_add, Nat.reduceAdd, Nat.reduceDiv, Nat.reduceMod, List.getElem?_cons_zero, List.getElem?_cons_succ, if_true, and_true, true_and] at f1 f2 f3 f4 f5
        have fe0 : nv β 0 = 805 := by omega
        have fe4 : nv β 4 = 17 := by omega
        have fe5 : nv β 5 = 854 := by omega
        have fe8 : nv β 8 = 854 := by omega
        have fe11 : nv β 11 = 2 := by omega
        have fe12 : nv β 12 = 1 := by omega
        have fe13 : nv β 13 = 1 := by omega
        have fe15 : nv β 15 = 1 := by omega
        have fe17 : nv β 17 = 854 := by omega
        have fe19 : nv β 19 = 1 := by omega
        have fe21 : nv β 21 = 1 := by omega
        have fe23 : nv β 23 = 854 := by omega
        have fe25 : nv β 25 = 1 := by omega
        have fe27 : nv β 27 = 1 := by omega
        try simp only [fe0, fe4, fe5, fe8, fe11, fe12, fe13, fe15, fe17, fe19, fe21, fe23, fe25, fe27, Int.reduceToNat] at f2 f3 f4 f5
        obtain ⟨c0, c1, c2, c3, c4, c5, c6, c7, c8, c9, c10, c11, c12, c13, c14, c15⟩ := f2
        have oL := old_0 c13 rfl
        have oH := old_0 c11 rfl
        have d6 := c6
        simp only [wd_fl] at d6
        have d14 := c14
        simp only [wd_fl] at d14
        have d2 := c2
        simp only [wd_fl] at d2
        have d12 := c12
        simp only [wd_fl] at d12
        have hlh : lowI (nv β 3) < highI (nv β 3) := by
          have : nv β 3 / 3 ≤ 5 := by omega
          unfold highI lowI; (repeat' split) <;> omega
        have hR2 : sm_S (S'.1 854) 12 < sm_S (S2.1 854) 12 := by
          rw [f5, sm_i (by omega), sm_i (by omega), fw_i_row, if_neg (by omega), i32_of (by omega) (by omega), i32_of (by omega) (by omega)]
          have u1 : nv β 18 = nv β 6 := by omega
          have u2 : nv β 24 = nv β 9 := by omega
          rw [u1, u2, oL, oH]
          omega
        refine ihj _ _ _ Ha (by omega) (Or.inr (by omega)) (by rw [nv_mu (v := 28) rfl]; omega)
      · have Ha := hd_go (q := kh_hReach_a39) (n := 0) (by decide +kernel) hx H1 hxa hf
        have hst : st' = [] := by
          have := H1.2.2.2.1
          match st', this with
          | [], _ => rfl
          | _ :: _, z => exact z.elim
        subst hst
        have eg : nv α1 2 = nv α 2 := nv_le hle (by omega)
        have et : nv α1 3 = nv α 3 := nv_le hle (by omega)
        have eg1 : nv β 2 = nv α1 2 := nv_le H1.1 (by omega)
        have et1 : nv β 3 = nv α1 3 := nv_le H1.1 (by omega)
        have hb := hbd _ _ _ _ _ H2 (by decide +kernel)
        obtain ⟨f1, f2, f3, f4, f5⟩ := as_fx H1
        simp only [kh_hReach_b39_9, fx_env, fx_c, fx_ne, fx_hf, wl_S, Nat.zero_add, Nat.reduceAdd, Nat.reduceDiv, Nat.reduceMod, List.getElem?_cons_zero, List.getElem?_cons_succ, if_true, and_true, true_and] at f1 f2 f3 f4 f5
        have fe0 : nv β 0 = 805 := by omega
        have fe4 : nv β 4 = 17 := by omega
        have fe5 : nv β 5 = 854 := by omega
        have fe8 : nv β 8 = 854 := by omega
        have fe11 : nv β 11 = 2 := by omega
        have fe12 : nv β 12 = 1 := by omega
        have fe13 : nv β 13 = 1 := by omega
        have fe15 : nv β 15 = 1 := by omega
        have fe17 : nv β 17 = 854 := by omega
        have fe19 : nv β 19 = 1 := by omega
        have fe21 : nv β 21 = 1 := by omega
        have fe23 : nv β 23 = 854 := by omega
        have fe25 : nv β 25 = 1 := by omega
        have fe27 : nv β 27 = 1 := by omega
        have fe29 : nv β 29 = 1 := by omega
        try simp only [fe0, fe4, fe5, fe8, fe11, fe12, fe13, fe15, fe17, fe19, fe21, fe23, fe25, fe27, fe29, Int.reduceToNat] at f2 f3 f4 f5
        obtain ⟨c0, c1, c2, c3, c4, c5, c6, c7, c8, c9, c10, c11, c12, c13, c14, c15, c16⟩ := f2
        have oL := old_0 c14 rfl
        have oH := old_0 c12 rfl
        have d7 := c7
        simp only [wd_fl] at d7
        have d15 := c15
        simp only [wd_fl] at d15
        have d3 := c3
        simp only [wd_fl] at d3
        have d13 := c13
        simp only [wd_fl] at d13
        have hlh : lowI (nv β 3) < highI (nv β 3) := by
          have : nv β 3 / 3 ≤ 5 := by omega
          unfold highI lowI; (repeat' split) <;> omega
        have hR2 : sm_S (S'.1 854) 12 < sm_S (S2.1 854) 12 := by
          rw [f5, sm_i (by omega), sm_i (by omega), fw_i_row, if_neg (by omega), i32_of (by omega) (by omega), i32_of (by omega) (by omega)]
          have u1 : nv β 18 = nv β 6 := by omega
          have u2 : nv β 24 = nv β 9 := by omega
          rw [u1, u2, oL, oH]
          omega
        refine ihj _ _ _ Ha (by omega) (Or.inr (by omega)) (by rw [nv_mu (v := 30) rfl]; omega)
      · have Ha := hd_go (q := kh_hReach_a39) (n := 0) (by decide +kernel) hx H1 hxa hf
        have hst : st' = [] := by
          have := H1.2.2.2.1
          match st', this with
          | [], _ => rfl
          | _ :: _, z => exact z.elim
        subst hst
        have eg : nv α1 2 = nv α 2 := nv_le hle (by omega)
        have et : nv α1 3 = nv α 3 := nv_le hle (by omega)
        have eg1 : nv β 2 = nv α1 2 := nv_le H1.1 (by omega)
        have et1 : nv β 3 = nv α1 3 := nv_le H1.1 (by omega)
        have hb := hbd _ _ _ _ _ H2 (by decide +kernel)
        obtain ⟨f1, f2, f3, f4, f5⟩ := as_fx H1
        simp only [kh_hReach_b39_10, fx_env, fx_c, fx_ne, fx_hf, wl_S, Nat.zero_add, Nat.reduceAdd, Nat.reduceDiv, Nat.reduceMod, List.getElem?_cons_zero, List.getElem?_cons_succ, if_true, and_true, true_and] at f1 f2 f3 f4 f5
        have fe0 : nv β 0 = 805 := by omega
        have fe4 : nv β 4 = 17 := by omega
        have fe5 : nv β 5 = 854 := by omega
        have fe8 : nv β 8 = 854 := by omega
        have fe11 : nv β 11 = 2 := by omega
        have fe12 : nv β 12 = 0 := by omega
        try simp only [fe0, fe4, fe5, fe8, fe11, fe12, Int.reduceToNat] at f2 f3 f4 f5
        rw [f5] at Ha ⊢
        refine ihj _ _ _ Ha (by omega) (by rw [nv_mu (v := 2) rfl]; omega) (by rw [nv_mu (v := 13) rfl]; omega)
    obtain ⟨α1, hle, Hr⟩ := as_rec_in (pl := []) rfl H
    have hf := H.2.2.2.2.2.2.2.2.2.2.1
    have hl1 : α1.length = 3 := by rw [Hr.2.1.1]; rfl
    have hxa : al_le xs α1 := H.1.trans hle
    refine hd_seg G (na := 3) (fuel := 400) (first := true) (Bs := [kh_hReach_b31_0, kh_hReach_b31_1]) (by decide +kernel) hl1 Hr ?_
    intro q hq β lv' st' S' H1
    simp only [List.mem_cons, List.not_mem_nil, or_false] at hq
    rcases hq with rfl | rfl
    · exact hd_run G (ss := []) (fuel := 10) (by decide +kernel) (as_back H1 hxa hf)
    · have Ha := hd_go (q := kh_hReach_a39) (n := 0) (by decide +kernel) hx H1 hxa hf
      have hst : st' = [] := by
        have := H1.2.2.2.1
        match st', this with
        | [], _ => rfl
        | _ :: _, z => exact z.elim
      subst hst
      obtain ⟨f1, f2, f3, f4, f5⟩ := as_fx H1
      simp only [kh_hReach_b31_1, fx_env, fx_c, fx_ne, fx_hf, wl_S, Nat.zero_add, Nat.reduceAdd, Nat.reduceDiv, Nat.reduceMod, List.getElem?_cons_zero, List.getElem?_cons_succ, if_true, and_true, true_and] at f1 f2 f3 f4 f5
      have fe0 : nv β 0 = 805 := by omega
      have fe2 : nv β 2 = 1 := by omega
      have fe3 : nv β 3 = 0 := by omega
      have fe4 : nv β 4 = 0 := by omega
      try simp only [fe0, fe2, fe3, fe4, Int.reduceToNat] at f2 f3 f4 f5
      rw [f5] at Ha ⊢
      exact hI _ _ _ _ Ha (Int.le_refl _) (Or.inl (by rw [nv_mu (v := 3) rfl]; omega)) (Nat.lt_succ_self _)
  refine hd_segA G (na := 2) (K := 1) (fuel := 400) (an := [kh_hReach_a2]) (ss := []) (Bs := [kh_hReach_e0]) (by decide +kernel) hx H0 ?_
  intro q hq β lv' st' S' H1
  simp only [List.mem_cons, List.not_mem_nil, or_false] at hq
  rcases hq with rfl
  · have hst : st' = [] := by
      have := H1.2.2.2.1
      match st', this with
      | [], _ => rfl
      | _ :: _, z => exact z.elim
    subst hst
    exact hW _ _ _ _ (hd_go (q := kh_hReach_a31) (n := 0) (by decide +kernel) hx H1 al_le.refl H0.2.2.2.2.2.2.2.2.2.2.1) (Nat.lt_succ_self _))
