/-! wReach -/
/- UtilityWorksModel heightOf -/
def kh_140 : ct_T := (389, [(2, 805, 805, 0), (0, 0, 11, 1)], [], [], [(1, (0, 0, 99, 1), [(2, 805, 805, 0), (0, 0, 11, 1)], [], ([], []))], [], 0, 0, 0)
theorem kh_140_ok : ct_ok wd_fl kh_140 := ct_of (ff := wd_ff) (y := (⟨"UtilityWorksModel", "heightOf", "(I)I"⟩, prog_14_method_30_code, 2, some .int, 12, 1, 1, 33093, 33092, 6012, 21014)) (Cs := []) (an := []) (ss := []) (K := 1) (fuel := 4000) wd_fl_ok rfl (List.forall_mem_nil _) (by decide +kernel)
/- UtilityWorksModel link -/
def kh_141 : ct_T := (357, [(2, 805, 805, 0), (0, 1, 1, 0), (0, 0, 0, 0)], [], [], [(1, (0, 208, 208, 0), [(2, 805, 805, 0), (0, 1, 1, 0), (0, 0, 0, 0)], [], ([], []))], [], 0, 0, 0)
theorem kh_141_ok : ct_ok wd_fl kh_141 := ct_of (ff := wd_ff) (y := (⟨"UtilityWorksModel", "link", "(II)I"⟩, prog_14_method_16_code, 3, some .int, 12, 1, 2, 32207, 32206, 5005, 21014)) (Cs := []) (an := []) (ss := []) (K := 1) (fuel := 4000) wd_fl_ok rfl (List.forall_mem_nil _) (by decide +kernel)
/- UtilityWorksModel hasLink -/
def kh_142 : ct_T := (356, [(2, 805, 805, 0), (0, 1, 1, 0), (0, 0, 0, 0)], [], [], [(1, (0, 0, 0, 0), [(2, 805, 805, 0), (0, 1, 1, 0), (0, 0, 0, 0)], [], ([], [])), (1, (0, 1, 1, 0), [(2, 805, 805, 0), (0, 1, 1, 0), (0, 0, 0, 0)], [((806, 806), (208, 208, 0), (0, 1, 1, 1))], ([], []))], [], 1, 22, 0)
theorem kh_142_ok : ct_ok wd_fl kh_142 := ct_of (ff := wd_ff) (y := (⟨"UtilityWorksModel", "hasLink", "(II)Z"⟩, prog_14_method_17_code, 3, some .boolean, 12, 1, 2, 32203, 32202, 5004, 21014)) (Cs := [kh_141]) (an := []) (ss := []) (K := 1) (fuel := 4000) wd_fl_ok rfl (List.forall_mem_cons.mpr ⟨kh_141_ok, (List.forall_mem_nil _)⟩) (by decide +kernel)
/- UtilityWorksModel isFine -/
def kh_143 : ct_T := (359, [(2, 805, 805, 0), (0, 1, 1, 0), (0, 0, 0, 0)], [], [], [(1, (0, 1, 1, 0), [(2, 805, 805, 0), (0, 1, 1, 0), (0, 0, 0, 0)], [((806, 806), (208, 208, 0), (0, 1, 1, 1)), ((806, 806), (210, 210, 0), (0, 1, 1, 1))], ([], [])), (1, (0, 0, 0, 0), [(2, 805, 805, 0), (0, 1, 1, 0), (0, 0, 0, 0)], [], ([], []))], [], 2, 44, 0)
theorem kh_143_ok : ct_ok wd_fl kh_143 := ct_of (ff := wd_ff) (y := (⟨"UtilityWorksModel", "isFine", "(II)Z"⟩, prog_14_method_19_code, 3, some .boolean, 12, 1, 2, 32215, 32214, 5007, 21014)) (Cs := [kh_142, kh_141]) (an := [(30, 0, ([((2, 805, 805, 0), none), ((0, 1, 1, 0), none), ((0, 0, 0, 0), none)], [(0, 0), (1, 1), (2, 2)], [], [], [], [], [], [], none), [(0, 0, 99970)])]) (ss := []) (K := 1) (fuel := 4000) wd_fl_ok rfl (List.forall_mem_cons.mpr ⟨kh_142_ok, (List.forall_mem_cons.mpr ⟨kh_141_ok, (List.forall_mem_nil _)⟩)⟩) (by decide +kernel)
/- UtilityWorksModel isOn -/
def kh_144 : ct_T := (360, [(2, 805, 805, 0), (0, 1, 1, 0), (0, 0, 0, 0)], [], [], [(1, (0, 1, 1, 0), [(2, 805, 805, 0), (0, 1, 1, 0), (0, 0, 0, 0)], [((806, 806), (208, 208, 0), (0, 1, 1, 1)), ((806, 806), (211, 211, 0), (0, 1, 1, 1))], ([], [])), (1, (0, 0, 0, 0), [(2, 805, 805, 0), (0, 1, 1, 0), (0, 0, 0, 0)], [], ([], []))], [], 2, 44, 0)
theorem kh_144_ok : ct_ok wd_fl kh_144 := ct_of (ff := wd_ff) (y := (⟨"UtilityWorksModel", "isOn", "(II)Z"⟩, prog_14_method_20_code, 3, some .boolean, 12, 1, 2, 32219, 32218, 5008, 21014)) (Cs := [kh_142, kh_141]) (an := [(30, 0, ([((2, 805, 805, 0), none), ((0, 1, 1, 0), none), ((0, 0, 0, 0), none)], [(0, 0), (1, 1), (2, 2)], [], [], [], [], [], [], none), [(0, 0, 99970)])]) (ss := []) (K := 1) (fuel := 4000) wd_fl_ok rfl (List.forall_mem_cons.mpr ⟨kh_142_ok, (List.forall_mem_cons.mpr ⟨kh_141_ok, (List.forall_mem_nil _)⟩)⟩) (by decide +kernel)
/- UtilityWorksModel leads -/
def kh_145 : ct_T := (358, [(2, 805, 805, 0), (0, 1, 1, 0), (0, 0, 0, 0)], [], [], [(1, (0, 1, 1, 0), [(2, 805, 805, 0), (0, 1, 1, 0), (0, 0, 0, 0)], [((806, 806), (208, 208, 0), (0, 1, 1, 1)), ((806, 806), (210, 210, 0), (0, 1, 1, 1)), ((806, 806), (211, 211, 0), (0, 1, 1, 1))], ([], [])), (1, (0, 0, 0, 0), [(2, 805, 805, 0), (0, 1, 1, 0), (0, 0, 0, 0)], [], ([], []))], [], 3, 66, 0)
theorem kh_145_ok : ct_ok wd_fl kh_145 := ct_of (ff := wd_ff) (y := (⟨"UtilityWorksModel", "leads", "(II)Z"⟩, prog_14_method_21_code, 3, some .boolean, 12, 1, 2, 32211, 32210, 5006, 21014)) (Cs := [kh_143, kh_144]) (an := [(22, 0, ([((2, 805, 805, 0), none), ((0, 1, 1, 0), none), ((0, 0, 0, 0), none)], [(0, 0), (1, 1), (2, 2)], [], [], [], [], [], [], none), [(0, 0, 99978)])]) (ss := []) (K := 1) (fuel := 4000) wd_fl_ok rfl (List.forall_mem_cons.mpr ⟨kh_143_ok, (List.forall_mem_cons.mpr ⟨kh_144_ok, (List.forall_mem_nil _)⟩)⟩) (by decide +kernel)
/- UtilityWorksModel boundOf -/
def kh_146 : ct_T := (367, [(2, 805, 805, 0), (0, 1, 1, 0), (0, 0, 0, 0)], [], [], [(1, (0, 0, 999, 1), [(2, 805, 805, 0), (0, 1, 1, 0), (0, 0, 0, 0)], [], ([], []))], [], 1, 22, 0)
theorem kh_146_ok : ct_ok wd_fl kh_146 := ct_of (ff := wd_ff) (y := (⟨"UtilityWorksModel", "boundOf", "(II)I"⟩, prog_14_method_18_code, 3, some .int, 12, 1, 2, 33005, 33004, 5011, 21014)) (Cs := [kh_141]) (an := []) (ss := []) (K := 1) (fuel := 4000) wd_fl_ok rfl (List.forall_mem_cons.mpr ⟨kh_141_ok, (List.forall_mem_nil _)⟩) (by decide +kernel)
/- UtilityWorksModel wRoom -/
def kh_147 : ct_T := (473, [(2, 805, 805, 0), (0, 0, 0, 0)], [], [], [(1, (0, (-1998), 999, 1), [(2, 805, 805, 0), (0, 0, 0, 0)], [], ([], []))], [], 2, 44, 0)
theorem kh_147_ok : ct_ok wd_fl kh_147 := ct_of (ff := wd_ff) (y := (⟨"UtilityWorksModel", "wRoom", "(I)I"⟩, prog_14_method_117_code, 2, some .int, 12, 1, 1, 34185, 34184, 11012, 21014)) (Cs := [kh_146]) (an := []) (ss := []) (K := 1) (fuel := 4000) wd_fl_ok rfl (List.forall_mem_cons.mpr ⟨kh_146_ok, (List.forall_mem_nil _)⟩) (by decide +kernel)
/- UtilityWorksModel low -/
def kh_148 : ct_T := (363, [(0, 0, 0, 0)], [], [], [(1, (0, 0, 0, 0), [(0, 0, 0, 0)], [], ([], []))], [], 0, 0, 0)
theorem kh_148_ok : ct_ok wd_fl kh_148 := ct_of (ff := wd_ff) (y := (⟨"UtilityWorksModel", "low", "(I)I"⟩, prog_14_method_13_code, 1, some .int, 12, 0, 1, 32230, 32229, 0, 21014)) (Cs := []) (an := []) (ss := []) (K := 1) (fuel := 4000) wd_fl_ok rfl (List.forall_mem_nil _) (by decide +kernel)
/- UtilityWorksModel heightOf -/
def kh_149 : ct_T := (389, [(2, 805, 805, 0), (0, 0, 0, 0)], [], [], [(1, (0, 0, 99, 1), [(2, 805, 805, 0), (0, 0, 0, 0)], [], ([], []))], [], 0, 0, 0)
theorem kh_149_ok : ct_ok wd_fl kh_149 := ct_of (ff := wd_ff) (y := (⟨"UtilityWorksModel", "heightOf", "(I)I"⟩, prog_14_method_30_code, 2, some .int, 12, 1, 1, 33093, 33092, 6012, 21014)) (Cs := []) (an := []) (ss := []) (K := 1) (fuel := 4000) wd_fl_ok rfl (List.forall_mem_nil _) (by decide +kernel)
/- UtilityWorksModel high -/
def kh_150 : ct_T := (365, [(0, 0, 0, 0)], [], [], [(1, (0, 1, 1, 0), [(0, 0, 0, 0)], [], ([], []))], [], 1, 20, 0)
theorem kh_150_ok : ct_ok wd_fl kh_150 := ct_of (ff := wd_ff) (y := (⟨"UtilityWorksModel", "high", "(I)I"⟩, prog_14_method_14_code, 1, some .int, 12, 0, 1, 32237, 32236, 0, 21014)) (Cs := [kh_148]) (an := []) (ss := []) (K := 1) (fuel := 4000) wd_fl_ok rfl (List.forall_mem_cons.mpr ⟨kh_148_ok, (List.forall_mem_nil _)⟩) (by decide +kernel)
/- UtilityWorksModel heightOf -/
def kh_151 : ct_T := (389, [(2, 805, 805, 0), (0, 1, 1, 0)], [], [], [(1, (0, 0, 99, 1), [(2, 805, 805, 0), (0, 1, 1, 0)], [], ([], []))], [], 0, 0, 0)
theorem kh_151_ok : ct_ok wd_fl kh_151 := ct_of (ff := wd_ff) (y := (⟨"UtilityWorksModel", "heightOf", "(I)I"⟩, prog_14_method_30_code, 2, some .int, 12, 1, 1, 33093, 33092, 6012, 21014)) (Cs := []) (an := []) (ss := []) (K := 1) (fuel := 4000) wd_fl_ok rfl (List.forall_mem_nil _) (by decide +kernel)
/- UtilityWorksModel wOpen -/
def kh_152 : ct_T := (472, [(2, 805, 805, 0), (0, 0, 0, 0), (0, (-2147483648), 2147483647, 1)], [], [], [(1, (0, 1, 1, 0), [(2, 805, 805, 0), (0, 0, 0, 0), (0, 0, 2147483647, 1)], [((806, 806), (208, 208, 0), (0, 1, 1, 1)), ((806, 806), (210, 210, 0), (0, 1, 1, 1)), ((806, 806), (211, 211, 0), (0, 1, 1, 1))], ([], [])), (1, (0, 0, 0, 0), [(2, 805, 805, 0), (0, 0, 0, 0), (0, (-2147483648), 2147483647, 1)], [], ([], []))], [], 4, 88, 0)
theorem kh_152_ok : ct_ok wd_fl kh_152 := ct_of (ff := wd_ff) (y := (⟨"UtilityWorksModel", "wOpen", "(II)Z"⟩, prog_14_method_118_code, 3, some .boolean, 12, 1, 2, 34181, 34180, 11011, 21014)) (Cs := [kh_145, kh_147, kh_148, kh_149, kh_150, kh_151]) (an := [(45, 0, ([((2, 805, 805, 0), none), ((0, 0, 0, 0), none), ((0, (-2147483648), 2147483647, 1), none)], [(0, 0), (1, 1), (2, 2)], [], [], [], [], [], [], none), [(0, 0, 99955)])]) (ss := []) (K := 1) (fuel := 4000) wd_fl_ok rfl (List.forall_mem_cons.mpr ⟨kh_145_ok, (List.forall_mem_cons.mpr ⟨kh_147_ok, (List.forall_mem_cons.mpr ⟨kh_148_ok, (List.forall_mem_cons.mpr ⟨kh_149_ok, (List.forall_mem_cons.mpr ⟨kh_150_ok, (List.forall_mem_cons.mpr ⟨kh_151_ok, (List.forall_mem_nil _)⟩)⟩)⟩)⟩)⟩)⟩) (by decide +kernel)
/- UtilityWorksModel link -/
def kh_153 : ct_T := (357, [(2, 805, 805, 0), (0, 1, 1, 0), (0, 0, 1, 1)], [], [], [(1, (0, 208, 212, 4), [(2, 805, 805, 0), (0, 1, 1, 0), (0, 0, 1, 1)], [], ([], []))], [], 0, 0, 0)
theorem kh_153_ok : ct_ok wd_fl kh_153 := ct_of (ff := wd_ff) (y := (⟨"UtilityWorksModel", "link", "(II)I"⟩, prog_14_method_16_code, 3, some .int, 12, 1, 2, 32207, 32206, 5005, 21014)) (Cs := []) (an := []) (ss := []) (K := 1) (fuel := 4000) wd_fl_ok rfl (List.forall_mem_nil _) (by decide +kernel)
/- UtilityWorksModel hasLink -/
def kh_154 : ct_T := (356, [(2, 805, 805, 0), (0, 1, 1, 0), (0, 0, 1, 1)], [], [], [(1, (0, 0, 0, 0), [(2, 805, 805, 0), (0, 1, 1, 0), (0, 0, 1, 1)], [], ([], [])), (1, (0, 1, 1, 0), [(2, 805, 805, 0), (0, 1, 1, 0), (0, 0, 1, 1)], [], ([], []))], [], 1, 22, 0)
theorem kh_154_ok : ct_ok wd_fl kh_154 := ct_of (ff := wd_ff) (y := (⟨"UtilityWorksModel", "hasLink", "(II)Z"⟩, prog_14_method_17_code, 3, some .boolean, 12, 1, 2, 32203, 32202, 5004, 21014)) (Cs := [kh_153]) (an := []) (ss := []) (K := 1) (fuel := 4000) wd_fl_ok rfl (List.forall_mem_cons.mpr ⟨kh_153_ok, (List.forall_mem_nil _)⟩) (by decide +kernel)
/- UtilityWorksModel isFine -/
def kh_155 : ct_T := (359, [(2, 805, 805, 0), (0, 1, 1, 0), (0, 0, 1, 1)], [], [], [(1, (0, 1, 1, 0), [(2, 805, 805, 0), (0, 1, 1, 0), (0, 0, 1, 1)], [], ([], [])), (1, (0, 0, 0, 0), [(2, 805, 805, 0), (0, 1, 1, 0), (0, 0, 1, 1)], [], ([], []))], [], 2, 44, 0)
theorem kh_155_ok : ct_ok wd_fl kh_155 := ct_of (ff := wd_ff) (y := (⟨"UtilityWorksModel", "isFine", "(II)Z"⟩, prog_14_method_19_code, 3, some .boolean, 12, 1, 2, 32215, 32214, 5007, 21014)) (Cs := [kh_154, kh_153]) (an := [(30, 0, ([((2, 805, 805, 0), none), ((0, 1, 1, 0), none), ((0, 0, 1, 1), none)], [(0, 0), (1, 1), (2, 2)], [], [], [], [], [], [], none), [(0, 0, 99970)])]) (ss := []) (K := 1) (fuel := 4000) wd_fl_ok rfl (List.forall_mem_cons.mpr ⟨kh_154_ok, (List.forall_mem_cons.mpr ⟨kh_153_ok, (List.forall_mem_nil _)⟩)⟩) (by decide +kernel)
/- UtilityWorksModel isOn -/
def kh_156 : ct_T := (360, [(2, 805, 805, 0), (0, 1, 1, 0), (0, 0, 1, 1)], [], [], [(1, (0, 1, 1, 0), [(2, 805, 805, 0), (0, 1, 1, 0), (0, 0, 1, 1)], [], ([], [])), (1, (0, 0, 0, 0), [(2, 805, 805, 0), (0, 1, 1, 0), (0, 0, 1, 1)], [], ([], []))], [], 2, 44, 0)
theorem kh_156_ok : ct_ok wd_fl kh_156 := ct_of (ff := wd_ff) (y := (⟨"UtilityWorksModel", "isOn", "(II)Z"⟩, prog_14_method_20_code, 3, some .boolean, 12, 1, 2, 32219, 32218, 5008, 21014)) (Cs := [kh_154, kh_153]) (an := [(30, 0, ([((2, 805, 805, 0), none), ((0, 1, 1, 0), none), ((0, 0, 1, 1), none)], [(0, 0), (1, 1), (2, 2)], [], [], [], [], [], [], none), [(0, 0, 99970)])]) (ss := []) (K := 1) (fuel := 4000) wd_fl_ok rfl (List.forall_mem_cons.mpr ⟨kh_154_ok, (List.forall_mem_cons.mpr ⟨kh_153_ok, (List.forall_mem_nil _)⟩)⟩) (by decide +kernel)
/- UtilityWorksModel leads -/
def kh_157 : ct_T := (358, [(2, 805, 805, 0), (0, 1, 1, 0), (0, 0, 1, 1)], [], [], [(1, (0, 1, 1, 0), [(2, 805, 805, 0), (0, 1, 1, 0), (0, 0, 1, 1)], [], ([], [])), (1, (0, 0, 0, 0), [(2, 805, 805, 0), (0, 1, 1, 0), (0, 0, 1, 1)], [], ([], []))], [], 3, 66, 0)
theorem kh_157_ok : ct_ok wd_fl kh_157 := ct_of (ff := wd_ff) (y := (⟨"UtilityWorksModel", "leads", "(II)Z"⟩, prog_14_method_21_code, 3, some .boolean, 12, 1, 2, 32211, 32210, 5006, 21014)) (Cs := [kh_155, kh_156]) (an := [(22, 0, ([((2, 805, 805, 0), none), ((0, 1, 1, 0), none), ((0, 0, 1, 1), none)], [(0, 0), (1, 1), (2, 2)], [], [], [], [], [], [], none), [(0, 0, 99978)])]) (ss := []) (K := 1) (fuel := 4000) wd_fl_ok rfl (List.forall_mem_cons.mpr ⟨kh_155_ok, (List.forall_mem_cons.mpr ⟨kh_156_ok, (List.forall_mem_nil _)⟩)⟩) (by decide +kernel)
/- UtilityWorksModel boundOf -/
def kh_158 : ct_T := (367, [(2, 805, 805, 0), (0, 1, 1, 0), (0, 0, 1, 1)], [], [], [(1, (0, 0, 999, 1), [(2, 805, 805, 0), (0, 1, 1, 0), (0, 0, 1, 1)], [], ([], []))], [], 1, 22, 0)
theorem kh_158_ok : ct_ok wd_fl kh_158 := ct_of (ff := wd_ff) (y := (⟨"UtilityWorksModel", "boundOf", "(II)I"⟩, prog_14_method_18_code, 3, some .int, 12, 1, 2, 33005, 33004, 5011, 21014)) (Cs := [kh_153]) (an := []) (ss := []) (K := 1) (fuel := 4000) wd_fl_ok rfl (List.forall_mem_cons.mpr ⟨kh_153_ok, (List.forall_mem_nil _)⟩) (by decide +kernel)
/- UtilityWorksModel wRoom -/
def kh_159 : ct_T := (473, [(2, 805, 805, 0), (0, 0, 1, 1)], [], [], [(1, (0, (-1998), 999, 1), [(2, 805, 805, 0), (0, 0, 1, 1)], [], ([], []))], [], 2, 44, 0)
theorem kh_159_ok : ct_ok wd_fl kh_159 := ct_of (ff := wd_ff) (y := (⟨"UtilityWorksModel", "wRoom", "(I)I"⟩, prog_14_method_117_code, 2, some .int, 12, 1, 1, 34185, 34184, 11012, 21014)) (Cs := [kh_158]) (an := []) (ss := []) (K := 1) (fuel := 4000) wd_fl_ok rfl (List.forall_mem_cons.mpr ⟨kh_158_ok, (List.forall_mem_nil _)⟩) (by decide +kernel)
/- UtilityWorksModel low -/
def kh_160 : ct_T := (363, [(0, 0, 1, 1)], [], [], [(1, (0, 0, 1, 1), [(0, 0, 1, 1)], [], ([], []))], [], 0, 0, 0)
theorem kh_160_ok : ct_ok wd_fl kh_160 := ct_of (ff := wd_ff) (y := (⟨"UtilityWorksModel", "low", "(I)I"⟩, prog_14_method_13_code, 1, some .int, 12, 0, 1, 32230, 32229, 0, 21014)) (Cs := []) (an := []) (ss := []) (K := 1) (fuel := 4000) wd_fl_ok rfl (List.forall_mem_nil _) (by decide +kernel)
/- UtilityWorksModel heightOf -/
def kh_161 : ct_T := (389, [(2, 805, 805, 0), (0, 0, 1, 1)], [], [], [(1, (0, 0, 99, 1), [(2, 805, 805, 0), (0, 0, 1, 1)], [], ([], []))], [], 0, 0, 0)
theorem kh_161_ok : ct_ok wd_fl kh_161 := ct_of (ff := wd_ff) (y := (⟨"UtilityWorksModel", "heightOf", "(I)I"⟩, prog_14_method_30_code, 2, some .int, 12, 1, 1, 33093, 33092, 6012, 21014)) (Cs := []) (an := []) (ss := []) (K := 1) (fuel := 4000) wd_fl_ok rfl (List.forall_mem_nil _) (by decide +kernel)
/- UtilityWorksModel high -/
def kh_162 : ct_T := (365, [(0, 0, 1, 1)], [], [], [(1, (0, 1, 2, 1), [(0, 0, 1, 1)], [], ([], []))], [], 1, 20, 0)
theorem kh_162_ok : ct_ok wd_fl kh_162 := ct_of (ff := wd_ff) (y := (⟨"UtilityWorksModel", "high", "(I)I"⟩, prog_14_method_14_code, 1, some .int, 12, 0, 1, 32237, 32236, 0, 21014)) (Cs := [kh_160]) (an := []) (ss := []) (K := 1) (fuel := 4000) wd_fl_ok rfl (List.forall_mem_cons.mpr ⟨kh_160_ok, (List.forall_mem_nil _)⟩) (by decide +kernel)
/- UtilityWorksModel heightOf -/
def kh_163 : ct_T := (389, [(2, 805, 805, 0), (0, 1, 2, 1)], [], [], [(1, (0, 0, 99, 1), [(2, 805, 805, 0), (0, 1, 2, 1)], [], ([], []))], [], 0, 0, 0)
theorem kh_163_ok : ct_ok wd_fl kh_163 := ct_of (ff := wd_ff) (y := (⟨"UtilityWorksModel", "heightOf", "(I)I"⟩, prog_14_method_30_code, 2, some .int, 12, 1, 1, 33093, 33092, 6012, 21014)) (Cs := []) (an := []) (ss := []) (K := 1) (fuel := 4000) wd_fl_ok rfl (List.forall_mem_nil _) (by decide +kernel)
/- UtilityWorksModel wOpen -/
def kh_164 : ct_T := (472, [(2, 805, 805, 0), (0, 0, 1, 1), (0, (-2147483648), 2147483647, 1)], [], [], [(1, (0, 1, 1, 0), [(2, 805, 805, 0), (0, 0, 1, 1), (0, 0, 2147483647, 1)], [], ([], [])), (1, (0, 0, 0, 0), [(2, 805, 805, 0), (0, 0, 1, 1), (0, (-2147483648), 2147483647, 1)], [], ([], []))], [], 4, 88, 0)
theorem kh_164_ok : ct_ok wd_fl kh_164 := ct_of (ff := wd_ff) (y := (⟨"UtilityWorksModel", "wOpen", "(II)Z"⟩, prog_14_method_118_code, 3, some .boolean, 12, 1, 2, 34181, 34180, 11011, 21014)) (Cs := [kh_157, kh_159, kh_160, kh_161, kh_162, kh_163]) (an := [(45, 0, ([((2, 805, 805, 0), none), ((0, 0, 1, 1), none), ((0, (-2147483648), 2147483647, 1), none)], [(0, 0), (1, 1), (2, 2)], [], [], [], [], [], [], none), [(0, 0, 99955)])]) (ss := []) (K := 1) (fuel := 4000) wd_fl_ok rfl (List.forall_mem_cons.mpr ⟨kh_157_ok, (List.forall_mem_cons.mpr ⟨kh_159_ok, (List.forall_mem_cons.mpr ⟨kh_160_ok, (List.forall_mem_cons.mpr ⟨kh_161_ok, (List.forall_mem_cons.mpr ⟨kh_162_ok, (List.forall_mem_cons.mpr ⟨kh_163_ok, (List.forall_mem_nil _)⟩)⟩)⟩)⟩)⟩)⟩) (by decide +kernel)
/- UtilityWorksModel link -/
def kh_165 : ct_T := (357, [(2, 805, 805, 0), (0, 1, 1, 0), (0, 0, 2, 1)], [], [], [(1, (0, 208, 216, 4), [(2, 805, 805, 0), (0, 1, 1, 0), (0, 0, 2, 1)], [], ([], []))], [], 0, 0, 0)
theorem kh_165_ok : ct_ok wd_fl kh_165 := ct_of (ff := wd_ff) (y := (⟨"UtilityWorksModel", "link", "(II)I"⟩, prog_14_method_16_code, 3, some .int, 12, 1, 2, 32207, 32206, 5005, 21014)) (Cs := []) (an := []) (ss := []) (K := 1) (fuel := 4000) wd_fl_ok rfl (List.forall_mem_nil _) (by decide +kernel)
/- UtilityWorksModel hasLink -/
def kh_166 : ct_T := (356, [(2, 805, 805, 0), (0, 1, 1, 0), (0, 0, 2, 1)], [], [], [(1, (0, 0, 0, 0), [(2, 805, 805, 0), (0, 1, 1, 0), (0, 0, 2, 1)], [], ([], [])), (1, (0, 1, 1, 0), [(2, 805, 805, 0), (0, 1, 1, 0), (0, 0, 2, 1)], [], ([], []))], [], 1, 22, 0)
theorem kh_166_ok : ct_ok wd_fl kh_166 := ct_of (ff := wd_ff) (y := (⟨"UtilityWorksModel", "hasLink", "(II)Z"⟩, prog_14_method_17_code, 3, some .boolean, 12, 1, 2, 32203, 32202, 5004, 21014)) (Cs := [kh_165]) (an := []) (ss := []) (K := 1) (fuel := 4000) wd_fl_ok rfl (List.forall_mem_cons.mpr ⟨kh_165_ok, (List.forall_mem_nil _)⟩) (by decide +kernel)
/- UtilityWorksModel isFine -/
def kh_167 : ct_T := (359, [(2, 805, 805, 0), (0, 1, 1, 0), (0, 0, 2, 1)], [], [], [(1, (0, 1, 1, 0), [(2, 805, 805, 0), (0, 1, 1, 0), (0, 0, 2, 1)], [], ([], [])), (1, (0, 0, 0, 0), [(2, 805, 805, 0), (0, 1, 1, 0), (0, 0, 2, 1)], [], ([], []))], [], 2, 44, 0)
theorem kh_167_ok : ct_ok wd_fl kh_167 := ct_of (ff := wd_ff) (y := (⟨"UtilityWorksModel", "isFine", "(II)Z"⟩, prog_14_method_19_code, 3, some .boolean, 12, 1, 2, 32215, 32214, 5007, 21014)) (Cs := [kh_166, kh_165]) (an := [(30, 0, ([((2, 805, 805, 0), none), ((0, 1, 1, 0), none), ((0, 0, 2, 1), none)], [(0, 0), (1, 1), (2, 2)], [], [], [], [], [], [], none), [(0, 0, 99970)])]) (ss := []) (K := 1) (fuel := 4000) wd_fl_ok rfl (List.forall_mem_cons.mpr ⟨kh_166_ok, (List.forall_mem_cons.mpr ⟨kh_165_ok, (List.forall_mem_nil _)⟩)⟩) (by decide +kernel)
/- UtilityWorksModel isOn -/
def kh_168 : ct_T := (360, [(2, 805, 805, 0), (0, 1, 1, 0), (0, 0, 2, 1)], [], [], [(1, (0, 1, 1, 0), [(2, 805, 805, 0), (0, 1, 1, 0), (0, 0, 2, 1)], [], ([], [])), (1, (0, 0, 0, 0), [(2, 805, 805, 0), (0, 1, 1, 0), (0, 0, 2, 1)], [], ([], []))], [], 2, 44, 0)
theorem kh_168_ok : ct_ok wd_fl kh_168 := ct_of (ff := wd_ff) (y := (⟨"UtilityWorksModel", "isOn", "(II)Z"⟩, prog_14_method_20_code, 3, some .boolean, 12, 1, 2, 32219, 32218, 5008, 21014)) (Cs := [kh_166, kh_165]) (an := [(30, 0, ([((2, 805, 805, 0), none), ((0, 1, 1, 0), none), ((0, 0, 2, 1), none)], [(0, 0), (1, 1), (2, 2)], [], [], [], [], [], [], none), [(0, 0, 99970)])]) (ss := []) (K := 1) (fuel := 4000) wd_fl_ok rfl (List.forall_mem_cons.mpr ⟨kh_166_ok, (List.forall_mem_cons.mpr ⟨kh_165_ok, (List.forall_mem_nil _)⟩)⟩) (by decide +kernel)
/- UtilityWorksModel leads -/
def kh_169 : ct_T := (358, [(2, 805, 805, 0), (0, 1, 1, 0), (0, 0, 2, 1)], [], [], [(1, (0, 1, 1, 0), [(2, 805, 805, 0), (0, 1, 1, 0), (0, 0, 2, 1)], [], ([], [])), (1, (0, 0, 0, 0), [(2, 805, 805, 0), (0, 1, 1, 0), (0, 0, 2, 1)], [], ([], []))], [], 3, 66, 0)
theorem kh_169_ok : ct_ok wd_fl kh_169 := ct_of (ff := wd_ff) (y := (⟨"UtilityWorksModel", "leads", "(II)Z"⟩, prog_14_method_21_code, 3, some .boolean, 12, 1, 2, 32211, 32210, 5006, 21014)) (Cs := [kh_167, kh_168]) (an := [(22, 0, ([((2, 805, 805, 0), none), ((0, 1, 1, 0), none), ((0, 0, 2, 1), none)], [(0, 0), (1, 1), (2, 2)], [], [], [], [], [], [], none), [(0, 0, 99978)])]) (ss := []) (K := 1) (fuel := 4000) wd_fl_ok rfl (List.forall_mem_cons.mpr ⟨kh_167_ok, (List.forall_mem_cons.mpr ⟨kh_168_ok, (List.forall_mem_nil _)⟩)⟩) (by decide +kernel)
/- UtilityWorksModel boundOf -/
def kh_170 : ct_T := (367, [(2, 805, 805, 0), (0, 1, 1, 0), (0, 0, 2, 1)], [], [], [(1, (0, 0, 999, 1), [(2, 805, 805, 0), (0, 1, 1, 0), (0, 0, 2, 1)], [], ([], []))], [], 1, 22, 0)
theorem kh_170_ok : ct_ok wd_fl kh_170 := ct_of (ff := wd_ff) (y := (⟨"UtilityWorksModel", "boundOf", "(II)I"⟩, prog_14_method_18_code, 3, some .int, 12, 1, 2, 33005, 33004, 5011, 21014)) (Cs := [kh_165]) (an := []) (ss := []) (K := 1) (fuel := 4000) wd_fl_ok rfl (List.forall_mem_cons.mpr ⟨kh_165_ok, (List.forall_mem_nil _)⟩) (by decide +kernel)
/- UtilityWorksModel wRoom -/
def kh_171 : ct_T := (473, [(2, 805, 805, 0), (0, 0, 2, 1)], [], [], [(1, (0, (-1998), 999, 1), [(2, 805, 805, 0), (0, 0, 2, 1)], [], ([], []))], [], 2, 44, 0)
theorem kh_171_ok : ct_ok wd_fl kh_171 := ct_of (ff := wd_ff) (y := (⟨"UtilityWorksModel", "wRoom", "(I)I"⟩, prog_14_method_117_code, 2, some .int, 12, 1, 1, 34185, 34184, 11012, 21014)) (Cs := [kh_170]) (an := []) (ss := []) (K := 1) (fuel := 4000) wd_fl_ok rfl (List.forall_mem_cons.mpr ⟨kh_170_ok, (List.forall_mem_nil _)⟩) (by decide +kernel)
/- UtilityWorksModel low -/
def kh_172 : ct_T := (363, [(0, 0, 2, 1)], [], [], [(1, (0, 0, 2, 1), [(0, 0, 2, 1)], [], ([], []))], [], 0, 0, 0)
theorem kh_172_ok : ct_ok wd_fl kh_172 := ct_of (ff := wd_ff) (y := (⟨"UtilityWorksModel", "low", "(I)I"⟩, prog_14_method_13_code, 1, some .int, 12, 0, 1, 32230, 32229, 0, 21014)) (Cs := []) (an := []) (ss := []) (K := 1) (fuel := 4000) wd_fl_ok rfl (List.forall_mem_nil _) (by decide +kernel)
/- UtilityWorksModel heightOf -/
def kh_173 : ct_T := (389, [(2, 805, 805, 0), (0, 0, 2, 1)], [], [], [(1, (0, 0, 99, 1), [(2, 805, 805, 0), (0, 0, 2, 1)], [], ([], []))], [], 0, 0, 0)
theorem kh_173_ok : ct_ok wd_fl kh_173 := ct_of (ff := wd_ff) (y := (⟨"UtilityWorksModel", "heightOf", "(I)I"⟩, prog_14_method_30_code, 2, some .int, 12, 1, 1, 33093, 33092, 6012, 21014)) (Cs := []) (an := []) (ss := []) (K := 1) (fuel := 4000) wd_fl_ok rfl (List.forall_mem_nil _) (by decide +kernel)
/- UtilityWorksModel high -/
def kh_174 : ct_T := (365, [(0, 0, 2, 1)], [], [], [(1, (0, 1, 3, 1), [(0, 0, 2, 1)], [], ([], []))], [], 1, 20, 0)
theorem kh_174_ok : ct_ok wd_fl kh_174 := ct_of (ff := wd_ff) (y := (⟨"UtilityWorksModel", "high", "(I)I"⟩, prog_14_method_14_code, 1, some .int, 12, 0, 1, 32237, 32236, 0, 21014)) (Cs := [kh_172]) (an := []) (ss := []) (K := 1) (fuel := 4000) wd_fl_ok rfl (List.forall_mem_cons.mpr ⟨kh_172_ok, (List.forall_mem_nil _)⟩) (by decide +kernel)
/- UtilityWorksModel heightOf -/
def kh_175 : ct_T := (389, [(2, 805, 805, 0), (0, 1, 3, 1)], [], [], [(1, (0, 0, 99, 1), [(2, 805, 805, 0), (0, 1, 3, 1)], [], ([], []))], [], 0, 0, 0)
theorem kh_175_ok : ct_ok wd_fl kh_175 := ct_of (ff := wd_ff) (y := (⟨"UtilityWorksModel", "heightOf", "(I)I"⟩, prog_14_method_30_code, 2, some .int, 12, 1, 1, 33093, 33092, 6012, 21014)) (Cs := []) (an := []) (ss := []) (K := 1) (fuel := 4000) wd_fl_ok rfl (List.forall_mem_nil _) (by decide +kernel)
/- UtilityWorksModel wOpen -/
def kh_176 : ct_T := (472, [(2, 805, 805, 0), (0, 0, 2, 1), (0, (-2147483648), 2147483647, 1)], [], [], [(1, (0, 1, 1, 0), [(2, 805, 805, 0), (0, 0, 2, 1), (0, 0, 2147483647, 1)], [], ([], [])), (1, (0, 0, 0, 0), [(2, 805, 805, 0), (0, 0, 2, 1), (0, (-2147483648), 2147483647, 1)], [], ([], []))], [], 4, 88, 0)
theorem kh_176_ok : ct_ok wd_fl kh_176 := ct_of (ff := wd_ff) (y := (⟨"UtilityWorksModel", "wOpen", "(II)Z"⟩, prog_14_method_118_code, 3, some .boolean, 12, 1, 2, 34181, 34180, 11011, 21014)) (Cs := [kh_169, kh_171, kh_172, kh_173, kh_174, kh_175]) (an := [(45, 0, ([((2, 805, 805, 0), none), ((0, 0, 2, 1), none), ((0, (-2147483648), 2147483647, 1), none)], [(0, 0), (1, 1), (2, 2)], [], [], [], [], [], [], none), [(0, 0, 99955)])]) (ss := []) (K := 1) (fuel := 4000) wd_fl_ok rfl (List.forall_mem_cons.mpr ⟨kh_169_ok, (List.forall_mem_cons.mpr ⟨kh_171_ok, (List.forall_mem_cons.mpr ⟨kh_172_ok, (List.forall_mem_cons.mpr ⟨kh_173_ok, (List.forall_mem_cons.mpr ⟨kh_174_ok, (List.forall_mem_cons.mpr ⟨kh_175_ok, (List.forall_mem_nil _)⟩)⟩)⟩)⟩)⟩)⟩) (by decide +kernel)
/- UtilityWorksModel link -/
def kh_177 : ct_T := (357, [(2, 805, 805, 0), (0, 1, 1, 0), (0, 0, 3, 1)], [], [], [(1, (0, 208, 220, 4), [(2, 805, 805, 0), (0, 1, 1, 0), (0, 0, 3, 1)], [], ([], []))], [], 0, 0, 0)
theorem kh_177_ok : ct_ok wd_fl kh_177 := ct_of (ff := wd_ff) (y := (⟨"UtilityWorksModel", "link", "(II)I"⟩, prog_14_method_16_code, 3, some .int, 12, 1, 2, 32207, 32206, 5005, 21014)) (Cs := []) (an := []) (ss := []) (K := 1) (fuel := 4000) wd_fl_ok rfl (List.forall_mem_nil _) (by decide +kernel)
/- UtilityWorksModel hasLink -/
def kh_178 : ct_T := (356, [(2, 805, 805, 0), (0, 1, 1, 0), (0, 0, 3, 1)], [], [], [(1, (0, 0, 0, 0), [(2, 805, 805, 0), (0, 1, 1, 0), (0, 0, 3, 1)], [], ([], [])), (1, (0, 1, 1, 0), [(2, 805, 805, 0), (0, 1, 1, 0), (0, 0, 3, 1)], [], ([], []))], [], 1, 22, 0)
theorem kh_178_ok : ct_ok wd_fl kh_178 := ct_of (ff := wd_ff) (y := (⟨"UtilityWorksModel", "hasLink", "(II)Z"⟩, prog_14_method_17_code, 3, some .boolean, 12, 1, 2, 32203, 32202, 5004, 21014)) (Cs := [kh_177]) (an := []) (ss := []) (K := 1) (fuel := 4000) wd_fl_ok rfl (List.forall_mem_cons.mpr ⟨kh_177_ok, (List.forall_mem_nil _)⟩) (by decide +kernel)
/- UtilityWorksModel isFine -/
def kh_179 : ct_T := (359, [(2, 805, 805, 0), (0, 1, 1, 0), (0, 0, 3, 1)], [], [], [(1, (0, 1, 1, 0), [(2, 805, 805, 0), (0, 1, 1, 0), (0, 0, 3, 1)], [], ([], [])), (1, (0, 0, 0, 0), [(2, 805, 805, 0), (0, 1, 1, 0), (0, 0, 3, 1)], [], ([], []))], [], 2, 44, 0)
theorem kh_179_ok : ct_ok wd_fl kh_179 := ct_of (ff := wd_ff) (y := (⟨"UtilityWorksModel", "isFine", "(II)Z"⟩, prog_14_method_19_code, 3, some .boolean, 12, 1, 2, 32215, 32214, 5007, 21014)) (Cs := [kh_178, kh_177]) (an := [(30, 0, ([((2, 805, 805, 0), none), ((0, 1, 1, 0), none), ((0, 0, 3, 1), none)], [(0, 0), (1, 1), (2, 2)], [], [], [], [], [], [], none), [(0, 0, 99970)])]) (ss := []) (K := 1) (fuel := 4000) wd_fl_ok rfl (List.forall_mem_cons.mpr ⟨kh_178_ok, (List.forall_mem_cons.mpr ⟨kh_177_ok, (List.forall_mem_nil _)⟩)⟩) (by decide +kernel)
/- UtilityWorksModel isOn -/
def kh_180 : ct_T := (360, [(2, 805, 805, 0), (0, 1, 1, 0), (0, 0, 3, 1)], [], [], [(1, (0, 1, 1, 0), [(2, 805, 805, 0), (0, 1, 1, 0), (0, 0, 3, 1)], [], ([], [])), (1, (0, 0, 0, 0), [(2, 805, 805, 0), (0, 1, 1, 0), (0, 0, 3, 1)], [], ([], []))], [], 2, 44, 0)
theorem kh_180_ok : ct_ok wd_fl kh_180 := ct_of (ff := wd_ff) (y := (⟨"UtilityWorksModel", "isOn", "(II)Z"⟩, prog_14_method_20_code, 3, some .boolean, 12, 1, 2, 32219, 32218, 5008, 21014)) (Cs := [kh_178, kh_177]) (an := [(30, 0, ([((2, 805, 805, 0), none), ((0, 1, 1, 0), none), ((0, 0, 3, 1), none)], [(0, 0), (1, 1), (2, 2)], [], [], [], [], [], [], none), [(0, 0, 99970)])]) (ss := []) (K := 1) (fuel := 4000) wd_fl_ok rfl (List.forall_mem_cons.mpr ⟨kh_178_ok, (List.forall_mem_cons.mpr ⟨kh_177_ok, (List.forall_mem_nil _)⟩)⟩) (by decide +kernel)
/- UtilityWorksModel leads -/
def kh_181 : ct_T := (358, [(2, 805, 805, 0), (0, 1, 1, 0), (0, 0, 3, 1)], [], [], [(1, (0, 1, 1, 0), [(2, 805, 805, 0), (0, 1, 1, 0), (0, 0, 3, 1)], [], ([], [])), (1, (0, 0, 0, 0), [(2, 805, 805, 0), (0, 1, 1, 0), (0, 0, 3, 1)], [], ([], []))], [], 3, 66, 0)
theorem kh_181_ok : ct_ok wd_fl kh_181 := ct_of (ff := wd_ff) (y := (⟨"UtilityWorksModel", "leads", "(II)Z"⟩, prog_14_method_21_code, 3, some .boolean, 12, 1, 2, 32211, 32210, 5006, 21014)) (Cs := [kh_179, kh_180]) (an := [(22, 0, ([((2, 805, 805, 0), none), ((0, 1, 1, 0), none), ((0, 0, 3, 1), none)], [(0, 0), (1, 1), (2, 2)], [], [], [], [], [], [], none), [(0, 0, 99978)])]) (ss := []) (K := 1) (fuel := 4000) wd_fl_ok rfl (List.forall_mem_cons.mpr ⟨kh_179_ok, (List.forall_mem_cons.mpr ⟨kh_180_ok, (List.forall_mem_nil _)⟩)⟩) (by decide +kernel)
/- UtilityWorksModel boundOf -/
def kh_182 : ct_T := (367, [(2, 805, 805, 0), (0, 1, 1, 0), (0, 0, 3, 1)], [], [], [(1, (0, 0, 999, 1), [(2, 805, 805, 0), (0, 1, 1, 0), (0, 0, 3, 1)], [], ([], []))], [], 1, 22, 0)
theorem kh_182_ok : ct_ok wd_fl kh_182 := ct_of (ff := wd_ff) (y := (⟨"UtilityWorksModel", "boundOf", "(II)I"⟩, prog_14_method_18_code, 3, some .int, 12, 1, 2, 33005, 33004, 5011, 21014)) (Cs := [kh_177]) (an := []) (ss := []) (K := 1) (fuel := 4000) wd_fl_ok rfl (List.forall_mem_cons.mpr ⟨kh_177_ok, (List.forall_mem_nil _)⟩) (by decide +kernel)
/- UtilityWorksModel wRoom -/
def kh_183 : ct_T := (473, [(2, 805, 805, 0), (0, 0, 3, 1)], [], [], [(1, (0, (-1998), 999, 1), [(2, 805, 805, 0), (0, 0, 3, 1)], [], ([], []))], [], 2, 44, 0)
theorem kh_183_ok : ct_ok wd_fl kh_183 := ct_of (ff := wd_ff) (y := (⟨"UtilityWorksModel", "wRoom", "(I)I"⟩, prog_14_method_117_code, 2, some .int, 12, 1, 1, 34185, 34184, 11012, 21014)) (Cs := [kh_182]) (an := []) (ss := []) (K := 1) (fuel := 4000) wd_fl_ok rfl (List.forall_mem_cons.mpr ⟨kh_182_ok, (List.forall_mem_nil _)⟩) (by decide +kernel)
/- UtilityWorksModel low -/
def kh_184 : ct_T := (363, [(0, 0, 3, 1)], [], [], [(1, (0, 0, 6, 1), [(0, 0, 3, 1)], [], ([], []))], [], 0, 0, 0)
theorem kh_184_ok : ct_ok wd_fl kh_184 := ct_of (ff := wd_ff) (y := (⟨"UtilityWorksModel", "low", "(I)I"⟩, prog_14_method_13_code, 1, some .int, 12, 0, 1, 32230, 32229, 0, 21014)) (Cs := []) (an := []) (ss := []) (K := 1) (fuel := 4000) wd_fl_ok rfl (List.forall_mem_nil _) (by decide +kernel)
/- UtilityWorksModel heightOf -/
def kh_185 : ct_T := (389, [(2, 805, 805, 0), (0, 0, 6, 1)], [], [], [(1, (0, 0, 99, 1), [(2, 805, 805, 0), (0, 0, 6, 1)], [], ([], []))], [], 0, 0, 0)
theorem kh_185_ok : ct_ok wd_fl kh_185 := ct_of (ff := wd_ff) (y := (⟨"UtilityWorksModel", "heightOf", "(I)I"⟩, prog_14_method_30_code, 2, some .int, 12, 1, 1, 33093, 33092, 6012, 21014)) (Cs := []) (an := []) (ss := []) (K := 1) (fuel := 4000) wd_fl_ok rfl (List.forall_mem_nil _) (by decide +kernel)
/- UtilityWorksModel high -/
def kh_186 : ct_T := (365, [(0, 0, 3, 1)], [], [], [(1, (0, 1, 7, 1), [(0, 0, 3, 1)], [], ([], []))], [], 1, 20, 0)
theorem kh_186_ok : ct_ok wd_fl kh_186 := ct_of (ff := wd_ff) (y := (⟨"UtilityWorksModel", "high", "(I)I"⟩, prog_14_method_14_code, 1, some .int, 12, 0, 1, 32237, 32236, 0, 21014)) (Cs := [kh_184]) (an := []) (ss := []) (K := 1) (fuel := 4000) wd_fl_ok rfl (List.forall_mem_cons.mpr ⟨kh_184_ok, (List.forall_mem_nil _)⟩) (by decide +kernel)
/- UtilityWorksModel heightOf -/
def kh_187 : ct_T := (389, [(2, 805, 805, 0), (0, 1, 7, 1)], [], [], [(1, (0, 0, 99, 1), [(2, 805, 805, 0), (0, 1, 7, 1)], [], ([], []))], [], 0, 0, 0)
theorem kh_187_ok : ct_ok wd_fl kh_187 := ct_of (ff := wd_ff) (y := (⟨"UtilityWorksModel", "heightOf", "(I)I"⟩, prog_14_method_30_code, 2, some .int, 12, 1, 1, 33093, 33092, 6012, 21014)) (Cs := []) (an := []) (ss := []) (K := 1) (fuel := 4000) wd_fl_ok rfl (List.forall_mem_nil _) (by decide +kernel)
/- UtilityWorksModel wOpen -/
def kh_188 : ct_T := (472, [(2, 805, 805, 0), (0, 0, 3, 1), (0, (-2147483648), 2147483647, 1)], [], [], [(1, (0, 1, 1, 0), [(2, 805, 805, 0), (0, 0, 3, 1), (0, 0, 2147483647, 1)], [], ([], [])), (1, (0, 0, 0, 0), [(2, 805, 805, 0), (0, 0, 3, 1), (0, (-2147483648), 2147483647, 1)], [], ([], []))], [], 4, 88, 0)
theorem kh_188_ok : ct_ok wd_fl kh_188 := ct_of (ff := wd_ff) (y := (⟨"UtilityWorksModel", "wOpen", "(II)Z"⟩, prog_14_method_118_code, 3, some .boolean, 12, 1, 2, 34181, 34180, 11011, 21014)) (Cs := [kh_181, kh_183, kh_184, kh_185, kh_186, kh_187]) (an := [(45, 0, ([((2, 805, 805, 0), none), ((0, 0, 3, 1), none), ((0, (-2147483648), 2147483647, 1), none)], [(0, 0), (1, 1), (2, 2)], [], [], [], [], [], [], none), [(0, 0, 99955)])]) (ss := []) (K := 1) (fuel := 4000) wd_fl_ok rfl (List.forall_mem_cons.mpr ⟨kh_181_ok, (List.forall_mem_cons.mpr ⟨kh_183_ok, (List.forall_mem_cons.mpr ⟨kh_184_ok, (List.forall_mem_cons.mpr ⟨kh_185_ok, (List.forall_mem_cons.mpr ⟨kh_186_ok, (List.forall_mem_cons.mpr ⟨kh_187_ok, (List.forall_mem_nil _)⟩)⟩)⟩)⟩)⟩)⟩) (by decide +kernel)
/- UtilityWorksModel link -/
def kh_189 : ct_T := (357, [(2, 805, 805, 0), (0, 1, 1, 0), (0, 0, 4, 1)], [], [], [(1, (0, 208, 224, 4), [(2, 805, 805, 0), (0, 1, 1, 0), (0, 0, 4, 1)], [], ([], []))], [], 0, 0, 0)
theorem kh_189_ok : ct_ok wd_fl kh_189 := ct_of (ff := wd_ff) (y := (⟨"UtilityWorksModel", "link", "(II)I"⟩, prog_14_method_16_code, 3, some .int, 12, 1, 2, 32207, 32206, 5005, 21014)) (Cs := []) (an := []) (ss := []) (K := 1) (fuel := 4000) wd_fl_ok rfl (List.forall_mem_nil _) (by decide +kernel)
/- UtilityWorksModel hasLink -/
def kh_190 : ct_T := (356, [(2, 805, 805, 0), (0, 1, 1, 0), (0, 0, 4, 1)], [], [], [(1, (0, 0, 0, 0), [(2, 805, 805, 0), (0, 1, 1, 0), (0, 0, 4, 1)], [], ([], [])), (1, (0, 1, 1, 0), [(2, 805, 805, 0), (0, 1, 1, 0), (0, 0, 4, 1)], [], ([], []))], [], 1, 22, 0)
theorem kh_190_ok : ct_ok wd_fl kh_190 := ct_of (ff := wd_ff) (y := (⟨"UtilityWorksModel", "hasLink", "(II)Z"⟩, prog_14_method_17_code, 3, some .boolean, 12, 1, 2, 32203, 32202, 5004, 21014)) (Cs := [kh_189]) (an := []) (ss := []) (K := 1) (fuel := 4000) wd_fl_ok rfl (List.forall_mem_cons.mpr ⟨kh_189_ok, (List.forall_mem_nil _)⟩) (by decide +kernel)
/- UtilityWorksModel isFine -/
def kh_191 : ct_T := (359, [(2, 805, 805, 0), (0, 1, 1, 0), (0, 0, 4, 1)], [], [], [(1, (0, 1, 1, 0), [(2, 805, 805, 0), (0, 1, 1, 0), (0, 0, 4, 1)], [], ([], [])), (1, (0, 0, 0, 0), [(2, 805, 805, 0), (0, 1, 1, 0), (0, 0, 4, 1)], [], ([], []))], [], 2, 44, 0)
theorem kh_191_ok : ct_ok wd_fl kh_191 := ct_of (ff := wd_ff) (y := (⟨"UtilityWorksModel", "isFine", "(II)Z"⟩, prog_14_method_19_code, 3, some .boolean, 12, 1, 2, 32215, 32214, 5007, 21014)) (Cs := [kh_190, kh_189]) (an := [(30, 0, ([((2, 805, 805, 0), none), ((0, 1, 1, 0), none), ((0, 0, 4, 1), none)], [(0, 0), (1, 1), (2, 2)], [], [], [], [], [], [], none), [(0, 0, 99970)])]) (ss := []) (K := 1) (fuel := 4000) wd_fl_ok rfl (List.forall_mem_cons.mpr ⟨kh_190_ok, (List.forall_mem_cons.mpr ⟨kh_189_ok, (List.forall_mem_nil _)⟩)⟩) (by decide +kernel)
/- UtilityWorksModel isOn -/
def kh_192 : ct_T := (360, [(2, 805, 805, 0), (0, 1, 1, 0), (0, 0, 4, 1)], [], [], [(1, (0, 1, 1, 0), [(2, 805, 805, 0), (0, 1, 1, 0), (0, 0, 4, 1)], [], ([], [])), (1, (0, 0, 0, 0), [(2, 805, 805, 0), (0, 1, 1, 0), (0, 0, 4, 1)], [], ([], []))], [], 2, 44, 0)
theorem kh_192_ok : ct_ok wd_fl kh_192 := ct_of (ff := wd_ff) (y := (⟨"UtilityWorksModel", "isOn", "(II)Z"⟩, prog_14_method_20_code, 3, some .boolean, 12, 1, 2, 32219, 32218, 5008, 21014)) (Cs := [kh_190, kh_189]) (an := [(30, 0, ([((2, 805, 805, 0), none), ((0, 1, 1, 0), none), ((0, 0, 4, 1), none)], [(0, 0), (1, 1), (2, 2)], [], [], [], [], [], [], none), [(0, 0, 99970)])]) (ss := []) (K := 1) (fuel := 4000) wd_fl_ok rfl (List.forall_mem_cons.mpr ⟨kh_190_ok, (List.forall_mem_cons.mpr ⟨kh_189_ok, (List.forall_mem_nil _)⟩)⟩) (by decide +kernel)
/- UtilityWorksModel leads -/
def kh_193 : ct_T := (358, [(2, 805, 805, 0), (0, 1, 1, 0), (0, 0, 4, 1)], [], [], [(1, (0, 1, 1, 0), [(2, 805, 805, 0), (0, 1, 1, 0), (0, 0, 4, 1)], [], ([], [])), (1, (0, 0, 0, 0), [(2, 805, 805, 0), (0, 1, 1, 0), (0, 0, 4, 1)], [], ([], []))], [], 3, 66, 0)
theorem kh_193_ok : ct_ok wd_fl kh_193 := ct_of (ff := wd_ff) (y := (⟨"UtilityWorksModel", "leads", "(II)Z"⟩, prog_14_method_21_code, 3, some .boolean, 12, 1, 2, 32211, 32210, 5006, 21014)) (Cs := [kh_191, kh_192]) (an := [(22, 0, ([((2, 805, 805, 0), none), ((0, 1, 1, 0), none), ((0, 0, 4, 1), none)], [(0, 0), (1, 1), (2, 2)], [], [], [], [], [], [], none), [(0, 0, 99978)])]) (ss := []) (K := 1) (fuel := 4000) wd_fl_ok rfl (List.forall_mem_cons.mpr ⟨kh_191_ok, (List.forall_mem_cons.mpr ⟨kh_192_ok, (List.forall_mem_nil _)⟩)⟩) (by decide +kernel)
/- UtilityWorksModel boundOf -/
def kh_194 : ct_T := (367, [(2, 805, 805, 0), (0, 1, 1, 0), (0, 0, 4, 1)], [], [], [(1, (0, 0, 999, 1), [(2, 805, 805, 0), (0, 1, 1, 0), (0, 0, 4, 1)], [], ([], []))], [], 1, 22, 0)
theorem kh_194_ok : ct_ok wd_fl kh_194 := ct_of (ff := wd_ff) (y := (⟨"UtilityWorksModel", "boundOf", "(II)I"⟩, prog_14_method_18_code, 3, some .int, 12, 1, 2, 33005, 33004, 5011, 21014)) (Cs := [kh_189]) (an := []) (ss := []) (K := 1) (fuel := 4000) wd_fl_ok rfl (List.forall_mem_cons.mpr ⟨kh_189_ok, (List.forall_mem_nil _)⟩) (by decide +kernel)
/- UtilityWorksModel wRoom -/
def kh_195 : ct_T := (473, [(2, 805, 805, 0), (0, 0, 4, 1)], [], [], [(1, (0, (-1998), 999, 1), [(2, 805, 805, 0), (0, 0, 4, 1)], [], ([], []))], [], 2, 44, 0)
theorem kh_195_ok : ct_ok wd_fl kh_195 := ct_of (ff := wd_ff) (y := (⟨"UtilityWorksModel", "wRoom", "(I)I"⟩, prog_14_method_117_code, 2, some .int, 12, 1, 1, 34185, 34184, 11012, 21014)) (Cs := [kh_194]) (an := []) (ss := []) (K := 1) (fuel := 4000) wd_fl_ok rfl (List.forall_mem_cons.mpr ⟨kh_194_ok, (List.forall_mem_nil _)⟩) (by decide +kernel)
/- UtilityWorksModel low -/
def kh_196 : ct_T := (363, [(0, 0, 4, 1)], [], [], [(1, (0, 0, 6, 1), [(0, 0, 4, 1)], [], ([], []))], [], 0, 0, 0)
theorem kh_196_ok : ct_ok wd_fl kh_196 := ct_of (ff := wd_ff) (y := (⟨"UtilityWorksModel", "low", "(I)I"⟩, prog_14_method_13_code, 1, some .int, 12, 0, 1, 32230, 32229, 0, 21014)) (Cs := []) (an := []) (ss := []) (K := 1) (fuel := 4000) wd_fl_ok rfl (List.forall_mem_nil _) (by decide +kernel)
/- UtilityWorksModel high -/
def kh_197 : ct_T := (365, [(0, 0, 4, 1)], [], [], [(1, (0, 1, 7, 1), [(0, 0, 4, 1)], [], ([], []))], [], 1, 20, 0)
theorem kh_197_ok : ct_ok wd_fl kh_197 := ct_of (ff := wd_ff) (y := (⟨"UtilityWorksModel", "high", "(I)I"⟩, prog_14_method_14_code, 1, some .int, 12, 0, 1, 32237, 32236, 0, 21014)) (Cs := [kh_196]) (an := []) (ss := []) (K := 1) (fuel := 4000) wd_fl_ok rfl (List.forall_mem_cons.mpr ⟨kh_196_ok, (List.forall_mem_nil _)⟩) (by decide +kernel)
/- UtilityWorksModel wOpen -/
def kh_198 : ct_T := (472, [(2, 805, 805, 0), (0, 0, 4, 1), (0, (-2147483648), 2147483647, 1)], [], [], [(1, (0, 1, 1, 0), [(2, 805, 805, 0), (0, 0, 4, 1), (0, 0, 2147483647, 1)], [], ([], [])), (1, (0, 0, 0, 0), [(2, 805, 805, 0), (0, 0, 4, 1), (0, (-2147483648), 2147483647, 1)], [], ([], []))], [], 4, 88, 0)
theorem kh_198_ok : ct_ok wd_fl kh_198 := ct_of (ff := wd_ff) (y := (⟨"UtilityWorksModel", "wOpen", "(II)Z"⟩, prog_14_method_118_code, 3, some .boolean, 12, 1, 2, 34181, 34180, 11011, 21014)) (Cs := [kh_193, kh_195, kh_196, kh_185, kh_197, kh_187]) (an := [(45, 0, ([((2, 805, 805, 0), none), ((0, 0, 4, 1), none), ((0, (-2147483648), 2147483647, 1), none)], [(0, 0), (1, 1), (2, 2)], [], [], [], [], [], [], none), [(0, 0, 99955)])]) (ss := []) (K := 1) (fuel := 4000) wd_fl_ok rfl (List.forall_mem_cons.mpr ⟨kh_193_ok, (List.forall_mem_cons.mpr ⟨kh_195_ok, (List.forall_mem_cons.mpr ⟨kh_196_ok, (List.forall_mem_cons.mpr ⟨kh_185_ok, (List.forall_mem_cons.mpr ⟨kh_197_ok, (List.forall_mem_cons.mpr ⟨kh_187_ok, (List.forall_mem_nil _)⟩)⟩)⟩)⟩)⟩)⟩) (by decide +kernel)
/- UtilityWorksModel link -/
def kh_199 : ct_T := (357, [(2, 805, 805, 0), (0, 1, 1, 0), (0, 0, 5, 1)], [], [], [(1, (0, 208, 228, 4), [(2, 805, 805, 0), (0, 1, 1, 0), (0, 0, 5, 1)], [], ([], []))], [], 0, 0, 0)
theorem kh_199_ok : ct_ok wd_fl kh_199 := ct_of (ff := wd_ff) (y := (⟨"UtilityWorksModel", "link", "(II)I"⟩, prog_14_method_16_code, 3, some .int, 12, 1, 2, 32207, 32206, 5005, 21014)) (Cs := []) (an := []) (ss := []) (K := 1) (fuel := 4000) wd_fl_ok rfl (List.forall_mem_nil _) (by decide +kernel)
/- UtilityWorksModel hasLink -/
def kh_200 : ct_T := (356, [(2, 805, 805, 0), (0, 1, 1, 0), (0, 0, 5, 1)], [], [], [(1, (0, 0, 0, 0), [(2, 805, 805, 0), (0, 1, 1, 0), (0, 0, 5, 1)], [], ([], [])), (1, (0, 1, 1, 0), [(2, 805, 805, 0), (0, 1, 1, 0), (0, 0, 5, 1)], [], ([], []))], [], 1, 22, 0)
theorem kh_200_ok : ct_ok wd_fl kh_200 := ct_of (ff := wd_ff) (y := (⟨"UtilityWorksModel", "hasLink", "(II)Z"⟩, prog_14_method_17_code, 3, some .boolean, 12, 1, 2, 32203, 32202, 5004, 21014)) (Cs := [kh_199]) (an := []) (ss := []) (K := 1) (fuel := 4000) wd_fl_ok rfl (List.forall_mem_cons.mpr ⟨kh_199_ok, (List.forall_mem_nil _)⟩) (by decide +kernel)
/- UtilityWorksModel isFine -/
def kh_201 : ct_T := (359, [(2, 805, 805, 0), (0, 1, 1, 0), (0, 0, 5, 1)], [], [], [(1, (0, 1, 1, 0), [(2, 805, 805, 0), (0, 1, 1, 0), (0, 0, 5, 1)], [], ([], [])), (1, (0, 0, 0, 0), [(2, 805, 805, 0), (0, 1, 1, 0), (0, 0, 5, 1)], [], ([], []))], [], 2, 44, 0)
theorem kh_201_ok : ct_ok wd_fl kh_201 := ct_of (ff := wd_ff) (y := (⟨"UtilityWorksModel", "isFine", "(II)Z"⟩, prog_14_method_19_code, 3, some .boolean, 12, 1, 2, 32215, 32214, 5007, 21014)) (Cs := [kh_200, kh_199]) (an := [(30, 0, ([((2, 805, 805, 0), none), ((0, 1, 1, 0), none), ((0, 0, 5, 1), none)], [(0, 0), (1, 1), (2, 2)], [], [], [], [], [], [], none), [(0, 0, 99970)])]) (ss := []) (K := 1) (fuel := 4000) wd_fl_ok rfl (List.forall_mem_cons.mpr ⟨kh_200_ok, (List.forall_mem_cons.mpr ⟨kh_199_ok, (List.forall_mem_nil _)⟩)⟩) (by decide +kernel)
/- UtilityWorksModel isOn -/
def kh_202 : ct_T := (360, [(2, 805, 805, 0), (0, 1, 1, 0), (0, 0, 5, 1)], [], [], [(1, (0, 1, 1, 0), [(2, 805, 805, 0), (0, 1, 1, 0), (0, 0, 5, 1)], [], ([], [])), (1, (0, 0, 0, 0), [(2, 805, 805, 0), (0, 1, 1, 0), (0, 0, 5, 1)], [], ([], []))], [], 2, 44, 0)
theorem kh_202_ok : ct_ok wd_fl kh_202 := ct_of (ff := wd_ff) (y := (⟨"UtilityWorksModel", "isOn", "(II)Z"⟩, prog_14_method_20_code, 3, some .boolean, 12, 1, 2, 32219, 32218, 5008, 21014)) (Cs := [kh_200, kh_199]) (an := [(30, 0, ([((2, 805, 805, 0), none), ((0, 1, 1, 0), none), ((0, 0, 5, 1), none)], [(0, 0), (1, 1), (2, 2)], [], [], [], [], [], [], none), [(0, 0, 99970)])]) (ss := []) (K := 1) (fuel := 4000) wd_fl_ok rfl (List.forall_mem_cons.mpr ⟨kh_200_ok, (List.forall_mem_cons.mpr ⟨kh_199_ok, (List.forall_mem_nil _)⟩)⟩) (by decide +kernel)
/- UtilityWorksModel leads -/
def kh_203 : ct_T := (358, [(2, 805, 805, 0), (0, 1, 1, 0), (0, 0, 5, 1)], [], [], [(1, (0, 1, 1, 0), [(2, 805, 805, 0), (0, 1, 1, 0), (0, 0, 5, 1)], [], ([], [])), (1, (0, 0, 0, 0), [(2, 805, 805, 0), (0, 1, 1, 0), (0, 0, 5, 1)], [], ([], []))], [], 3, 66, 0)
theorem kh_203_ok : ct_ok wd_fl kh_203 := ct_of (ff := wd_ff) (y := (⟨"UtilityWorksModel", "leads", "(II)Z"⟩, prog_14_method_21_code, 3, some .boolean, 12, 1, 2, 32211, 32210, 5006, 21014)) (Cs := [kh_201, kh_202]) (an := [(22, 0, ([((2, 805, 805, 0), none), ((0, 1, 1, 0), none), ((0, 0, 5, 1), none)], [(0, 0), (1, 1), (2, 2)], [], [], [], [], [], [], none), [(0, 0, 99978)])]) (ss := []) (K := 1) (fuel := 4000) wd_fl_ok rfl (List.forall_mem_cons.mpr ⟨kh_201_ok, (List.forall_mem_cons.mpr ⟨kh_202_ok, (List.forall_mem_nil _)⟩)⟩) (by decide +kernel)
/- UtilityWorksModel boundOf -/
def kh_204 : ct_T := (367, [(2, 805, 805, 0), (0, 1, 1, 0), (0, 0, 5, 1)], [], [], [(1, (0, 0, 999, 1), [(2, 805, 805, 0), (0, 1, 1, 0), (0, 0, 5, 1)], [], ([], []))], [], 1, 22, 0)
theorem kh_204_ok : ct_ok wd_fl kh_204 := ct_of (ff := wd_ff) (y := (⟨"UtilityWorksModel", "boundOf", "(II)I"⟩, prog_14_method_18_code, 3, some .int, 12, 1, 2, 33005, 33004, 5011, 21014)) (Cs := [kh_199]) (an := []) (ss := []) (K := 1) (fuel := 4000) wd_fl_ok rfl (List.forall_mem_cons.mpr ⟨kh_199_ok, (List.forall_mem_nil _)⟩) (by decide +kernel)
/- UtilityWorksModel wRoom -/
def kh_205 : ct_T := (473, [(2, 805, 805, 0), (0, 0, 5, 1)], [], [], [(1, (0, (-1998), 999, 1), [(2, 805, 805, 0), (0, 0, 5, 1)], [], ([], []))], [], 2, 44, 0)
theorem kh_205_ok : ct_ok wd_fl kh_205 := ct_of (ff := wd_ff) (y := (⟨"UtilityWorksModel", "wRoom", "(I)I"⟩, prog_14_method_117_code, 2, some .int, 12, 1, 1, 34185, 34184, 11012, 21014)) (Cs := [kh_204]) (an := []) (ss := []) (K := 1) (fuel := 4000) wd_fl_ok rfl (List.forall_mem_cons.mpr ⟨kh_204_ok, (List.forall_mem_nil _)⟩) (by decide +kernel)
/- UtilityWorksModel low -/
def kh_206 : ct_T := (363, [(0, 0, 5, 1)], [], [], [(1, (0, 0, 6, 1), [(0, 0, 5, 1)], [], ([], []))], [], 0, 0, 0)
theorem kh_206_ok : ct_ok wd_fl kh_206 := ct_of (ff := wd_ff) (y := (⟨"UtilityWorksModel", "low", "(I)I"⟩, prog_14_method_13_code, 1, some .int, 12, 0, 1, 32230, 32229, 0, 21014)) (Cs := []) (an := []) (ss := []) (K := 1) (fuel := 4000) wd_fl_ok rfl (List.forall_mem_nil _) (by decide +kernel)
/- UtilityWorksModel high -/
def kh_207 : ct_T := (365, [(0, 0, 5, 1)], [], [], [(1, (0, 1, 7, 1), [(0, 0, 5, 1)], [], ([], []))], [], 1, 20, 0)
theorem kh_207_ok : ct_ok wd_fl kh_207 := ct_of (ff := wd_ff) (y := (⟨"UtilityWorksModel", "high", "(I)I"⟩, prog_14_method_14_code, 1, some .int, 12, 0, 1, 32237, 32236, 0, 21014)) (Cs := [kh_206]) (an := []) (ss := []) (K := 1) (fuel := 4000) wd_fl_ok rfl (List.forall_mem_cons.mpr ⟨kh_206_ok, (List.forall_mem_nil _)⟩) (by decide +kernel)
/- UtilityWorksModel wOpen -/
def kh_208 : ct_T := (472, [(2, 805, 805, 0), (0, 0, 5, 1), (0, (-2147483648), 2147483647, 1)], [], [], [(1, (0, 1, 1, 0), [(2, 805, 805, 0), (0, 0, 5, 1), (0, 0, 2147483647, 1)], [], ([], [])), (1, (0, 0, 0, 0), [(2, 805, 805, 0), (0, 0, 5, 1), (0, (-2147483648), 2147483647, 1)], [], ([], []))], [], 4, 88, 0)
theorem kh_208_ok : ct_ok wd_fl kh_208 := ct_of (ff := wd_ff) (y := (⟨"UtilityWorksModel", "wOpen", "(II)Z"⟩, prog_14_method_118_code, 3, some .boolean, 12, 1, 2, 34181, 34180, 11011, 21014)) (Cs := [kh_203, kh_205, kh_206, kh_185, kh_207, kh_187]) (an := [(45, 0, ([((2, 805, 805, 0), none), ((0, 0, 5, 1), none), ((0, (-2147483648), 2147483647, 1), none)], [(0, 0), (1, 1), (2, 2)], [], [], [], [], [], [], none), [(0, 0, 99955)])]) (ss := []) (K := 1) (fuel := 4000) wd_fl_ok rfl (List.forall_mem_cons.mpr ⟨kh_203_ok, (List.forall_mem_cons.mpr ⟨kh_205_ok, (List.forall_mem_cons.mpr ⟨kh_206_ok, (List.forall_mem_cons.mpr ⟨kh_185_ok, (List.forall_mem_cons.mpr ⟨kh_207_ok, (List.forall_mem_cons.mpr ⟨kh_187_ok, (List.forall_mem_nil _)⟩)⟩)⟩)⟩)⟩)⟩) (by decide +kernel)
/- UtilityWorksModel link -/
def kh_209 : ct_T := (357, [(2, 805, 805, 0), (0, 1, 1, 0), (0, 0, 6, 1)], [], [], [(1, (0, 208, 232, 4), [(2, 805, 805, 0), (0, 1, 1, 0), (0, 0, 6, 1)], [], ([], []))], [], 0, 0, 0)
theorem kh_209_ok : ct_ok wd_fl kh_209 := ct_of (ff := wd_ff) (y := (⟨"UtilityWorksModel", "link", "(II)I"⟩, prog_14_method_16_code, 3, some .int, 12, 1, 2, 32207, 32206, 5005, 21014)) (Cs := []) (an := []) (ss := []) (K := 1) (fuel := 4000) wd_fl_ok rfl (List.forall_mem_nil _) (by decide +kernel)
/- UtilityWorksModel hasLink -/
def kh_210 : ct_T := (356, [(2, 805, 805, 0), (0, 1, 1, 0), (0, 0, 6, 1)], [], [], [(1, (0, 0, 0, 0), [(2, 805, 805, 0), (0, 1, 1, 0), (0, 0, 6, 1)], [], ([], [])), (1, (0, 1, 1, 0), [(2, 805, 805, 0), (0, 1, 1, 0), (0, 0, 6, 1)], [], ([], []))], [], 1, 22, 0)
theorem kh_210_ok : ct_ok wd_fl kh_210 := ct_of (ff := wd_ff) (y := (⟨"UtilityWorksModel", "hasLink", "(II)Z"⟩, prog_14_method_17_code, 3, some .boolean, 12, 1, 2, 32203, 32202, 5004, 21014)) (Cs := [kh_209]) (an := []) (ss := []) (K := 1) (fuel := 4000) wd_fl_ok rfl (List.forall_mem_cons.mpr ⟨kh_209_ok, (List.forall_mem_nil _)⟩) (by decide +kernel)
/- UtilityWorksModel isFine -/
def kh_211 : ct_T := (359, [(2, 805, 805, 0), (0, 1, 1, 0), (0, 0, 6, 1)], [], [], [(1, (0, 1, 1, 0), [(2, 805, 805, 0), (0, 1, 1, 0), (0, 0, 6, 1)], [], ([], [])), (1, (0, 0, 0, 0), [(2, 805, 805, 0), (0, 1, 1, 0), (0, 0, 6, 1)], [], ([], []))], [], 2, 44, 0)
theorem kh_211_ok : ct_ok wd_fl kh_211 := ct_of (ff := wd_ff) (y := (⟨"UtilityWorksModel", "isFine", "(II)Z"⟩, prog_14_method_19_code, 3, some .boolean, 12, 1, 2, 32215, 32214, 5007, 21014)) (Cs := [kh_210, kh_209]) (an := [(30, 0, ([((2, 805, 805, 0), none), ((0, 1, 1, 0), none), ((0, 0, 6, 1), none)], [(0, 0), (1, 1), (2, 2)], [], [], [], [], [], [], none), [(0, 0, 99970)])]) (ss := []) (K := 1) (fuel := 4000) wd_fl_ok rfl (List.forall_mem_cons.mpr ⟨kh_210_ok, (List.forall_mem_cons.mpr ⟨kh_209_ok, (List.forall_mem_nil _)⟩)⟩) (by decide +kernel)
/- UtilityWorksModel isOn -/
def kh_212 : ct_T := (360, [(2, 805, 805, 0), (0, 1, 1, 0), (0, 0, 6, 1)], [], [], [(1, (0, 1, 1, 0), [(2, 805, 805, 0), (0, 1, 1, 0), (0, 0, 6, 1)], [], ([], [])), (1, (0, 0, 0, 0), [(2, 805, 805, 0), (0, 1, 1, 0), (0, 0, 6, 1)], [], ([], []))], [], 2, 44, 0)
theorem kh_212_ok : ct_ok wd_fl kh_212 := ct_of (ff := wd_ff) (y := (⟨"UtilityWorksModel", "isOn", "(II)Z"⟩, prog_14_method_20_code, 3, some .boolean, 12, 1, 2, 32219, 32218, 5008, 21014)) (Cs := [kh_210, kh_209]) (an := [(30, 0, ([((2, 805, 805, 0), none), ((0, 1, 1, 0), none), ((0, 0, 6, 1), none)], [(0, 0), (1, 1), (2, 2)], [], [], [], [], [], [], none), [(0, 0, 99970)])]) (ss := []) (K := 1) (fuel := 4000) wd_fl_ok rfl (List.forall_mem_cons.mpr ⟨kh_210_ok, (List.forall_mem_cons.mpr ⟨kh_209_ok, (List.forall_mem_nil _)⟩)⟩) (by decide +kernel)
/- UtilityWorksModel leads -/
def kh_213 : ct_T := (358, [(2, 805, 805, 0), (0, 1, 1, 0), (0, 0, 6, 1)], [], [], [(1, (0, 1, 1, 0), [(2, 805, 805, 0), (0, 1, 1, 0), (0, 0, 6, 1)], [], ([], [])), (1, (0, 0, 0, 0), [(2, 805, 805, 0), (0, 1, 1, 0), (0, 0, 6, 1)], [], ([], []))], [], 3, 66, 0)
theorem kh_213_ok : ct_ok wd_fl kh_213 := ct_of (ff := wd_ff) (y := (⟨"UtilityWorksModel", "leads", "(II)Z"⟩, prog_14_method_21_code, 3, some .boolean, 12, 1, 2, 32211, 32210, 5006, 21014)) (Cs := [kh_211, kh_212]) (an := [(22, 0, ([((2, 805, 805, 0), none), ((0, 1, 1, 0), none), ((0, 0, 6, 1), none)], [(0, 0), (1, 1), (2, 2)], [], [], [], [], [], [], none), [(0, 0, 99978)])]) (ss := []) (K := 1) (fuel := 4000) wd_fl_ok rfl (List.forall_mem_cons.mpr ⟨kh_211_ok, (List.forall_mem_cons.mpr ⟨kh_212_ok, (List.forall_mem_nil _)⟩)⟩) (by decide +kernel)
/- UtilityWorksModel boundOf -/
def kh_214 : ct_T := (367, [(2, 805, 805, 0), (0, 1, 1, 0), (0, 0, 6, 1)], [], [], [(1, (0, 0, 999, 1), [(2, 805, 805, 0), (0, 1, 1, 0), (0, 0, 6, 1)], [], ([], []))], [], 1, 22, 0)
theorem kh_214_ok : ct_ok wd_fl kh_214 := ct_of (ff := wd_ff) (y := (⟨"UtilityWorksModel", "boundOf", "(II)I"⟩, prog_14_method_18_code, 3, some .int, 12, 1, 2, 33005, 33004, 5011, 21014)) (Cs := [kh_209]) (an := []) (ss := []) (K := 1) (fuel := 4000) wd_fl_ok rfl (List.forall_mem_cons.mpr ⟨kh_209_ok, (List.forall_mem_nil _)⟩) (by decide +kernel)
/- UtilityWorksModel wRoom -/
def kh_215 : ct_T := (473, [(2, 805, 805, 0), (0, 0, 6, 1)], [], [], [(1, (0, (-1998), 999, 1), [(2, 805, 805, 0), (0, 0, 6, 1)], [], ([], []))], [], 2, 44, 0)
theorem kh_215_ok : ct_ok wd_fl kh_215 := ct_of (ff := wd_ff) (y := (⟨"UtilityWorksModel", "wRoom", "(I)I"⟩, prog_14_method_117_code, 2, some .int, 12, 1, 1, 34185, 34184, 11012, 21014)) (Cs := [kh_214]) (an := []) (ss := []) (K := 1) (fuel := 4000) wd_fl_ok rfl (List.forall_mem_cons.mpr ⟨kh_214_ok, (List.forall_mem_nil _)⟩) (by decide +kernel)
/- UtilityWorksModel low -/
def kh_216 : ct_T := (363, [(0, 0, 6, 1)], [], [], [(1, (0, 0, 10, 1), [(0, 0, 6, 1)], [], ([], []))], [], 0, 0, 0)
theorem kh_216_ok : ct_ok wd_fl kh_216 := ct_of (ff := wd_ff) (y := (⟨"UtilityWorksModel", "low", "(I)I"⟩, prog_14_method_13_code, 1, some .int, 12, 0, 1, 32230, 32229, 0, 21014)) (Cs := []) (an := []) (ss := []) (K := 1) (fuel := 4000) wd_fl_ok rfl (List.forall_mem_nil _) (by decide +kernel)
/- UtilityWorksModel heightOf -/
def kh_217 : ct_T := (389, [(2, 805, 805, 0), (0, 0, 10, 1)], [], [], [(1, (0, 0, 99, 1), [(2, 805, 805, 0), (0, 0, 10, 1)], [], ([], []))], [], 0, 0, 0)
theorem kh_217_ok : ct_ok wd_fl kh_217 := ct_of (ff := wd_ff) (y := (⟨"UtilityWorksModel", "heightOf", "(I)I"⟩, prog_14_method_30_code, 2, some .int, 12, 1, 1, 33093, 33092, 6012, 21014)) (Cs := []) (an := []) (ss := []) (K := 1) (fuel := 4000) wd_fl_ok rfl (List.forall_mem_nil _) (by decide +kernel)
/- UtilityWorksModel high -/
def kh_218 : ct_T := (365, [(0, 0, 6, 1)], [], [], [(1, (0, 1, 11, 1), [(0, 0, 6, 1)], [], ([], []))], [], 1, 20, 0)
theorem kh_218_ok : ct_ok wd_fl kh_218 := ct_of (ff := wd_ff) (y := (⟨"UtilityWorksModel", "high", "(I)I"⟩, prog_14_method_14_code, 1, some .int, 12, 0, 1, 32237, 32236, 0, 21014)) (Cs := [kh_216]) (an := []) (ss := []) (K := 1) (fuel := 4000) wd_fl_ok rfl (List.forall_mem_cons.mpr ⟨kh_216_ok, (List.forall_mem_nil _)⟩) (by decide +kernel)
/- UtilityWorksModel heightOf -/
def kh_219 : ct_T := (389, [(2, 805, 805, 0), (0, 1, 11, 1)], [], [], [(1, (0, 0, 99, 1), [(2, 805, 805, 0), (0, 1, 11, 1)], [], ([], []))], [], 0, 0, 0)
theorem kh_219_ok : ct_ok wd_fl kh_219 := ct_of (ff := wd_ff) (y := (⟨"UtilityWorksModel", "heightOf", "(I)I"⟩, prog_14_method_30_code, 2, some .int, 12, 1, 1, 33093, 33092, 6012, 21014)) (Cs := []) (an := []) (ss := []) (K := 1) (fuel := 4000) wd_fl_ok rfl (List.forall_mem_nil _) (by decide +kernel)
/- UtilityWorksModel wOpen -/
def kh_220 : ct_T := (472, [(2, 805, 805, 0), (0, 0, 6, 1), (0, (-2147483648), 2147483647, 1)], [], [], [(1, (0, 1, 1, 0), [(2, 805, 805, 0), (0, 0, 6, 1), (0, 0, 2147483647, 1)], [], ([], [])), (1, (0, 0, 0, 0), [(2, 805, 805, 0), (0, 0, 6, 1), (0, (-2147483648), 2147483647, 1)], [], ([], []))], [], 4, 88, 0)
theorem kh_220_ok : ct_ok wd_fl kh_220 := ct_of (ff := wd_ff) (y := (⟨"UtilityWorksModel", "wOpen", "(II)Z"⟩, prog_14_method_118_code, 3, some .boolean, 12, 1, 2, 34181, 34180, 11011, 21014)) (Cs := [kh_213, kh_215, kh_216, kh_217, kh_218, kh_219]) (an := [(45, 0, ([((2, 805, 805, 0), none), ((0, 0, 6, 1), none), ((0, (-2147483648), 2147483647, 1), none)], [(0, 0), (1, 1), (2, 2)], [], [], [], [], [], [], none), [(0, 0, 99955)])]) (ss := []) (K := 1) (fuel := 4000) wd_fl_ok rfl (List.forall_mem_cons.mpr ⟨kh_213_ok, (List.forall_mem_cons.mpr ⟨kh_215_ok, (List.forall_mem_cons.mpr ⟨kh_216_ok, (List.forall_mem_cons.mpr ⟨kh_217_ok, (List.forall_mem_cons.mpr ⟨kh_218_ok, (List.forall_mem_cons.mpr ⟨kh_219_ok, (List.forall_mem_nil _)⟩)⟩)⟩)⟩)⟩)⟩) (by decide +kernel)
/- UtilityWorksModel link -/
def kh_221 : ct_T := (357, [(2, 805, 805, 0), (0, 1, 1, 0), (0, 0, 7, 1)], [], [], [(1, (0, 208, 236, 4), [(2, 805, 805, 0), (0, 1, 1, 0), (0, 0, 7, 1)], [], ([], []))], [], 0, 0, 0)
theorem kh_221_ok : ct_ok wd_fl kh_221 := ct_of (ff := wd_ff) (y := (⟨"UtilityWorksModel", "link", "(II)I"⟩, prog_14_method_16_code, 3, some .int, 12, 1, 2, 32207, 32206, 5005, 21014)) (Cs := []) (an := []) (ss := []) (K := 1) (fuel := 4000) wd_fl_ok rfl (List.forall_mem_nil _) (by decide +kernel)
/- UtilityWorksModel hasLink -/
def kh_222 : ct_T := (356, [(2, 805, 805, 0), (0, 1, 1, 0), (0, 0, 7, 1)], [], [], [(1, (0, 0, 0, 0), [(2, 805, 805, 0), (0, 1, 1, 0), (0, 0, 7, 1)], [], ([], [])), (1, (0, 1, 1, 0), [(2, 805, 805, 0), (0, 1, 1, 0), (0, 0, 7, 1)], [], ([], []))], [], 1, 22, 0)
theorem kh_222_ok : ct_ok wd_fl kh_222 := ct_of (ff := wd_ff) (y := (⟨"UtilityWorksModel", "hasLink", "(II)Z"⟩, prog_14_method_17_code, 3, some .boolean, 12, 1, 2, 32203, 32202, 5004, 21014)) (Cs := [kh_221]) (an := []) (ss := []) (K := 1) (fuel := 4000) wd_fl_ok rfl (List.forall_mem_cons.mpr ⟨kh_221_ok, (List.forall_mem_nil _)⟩) (by decide +kernel)
/- UtilityWorksModel isFine -/
def kh_223 : ct_T := (359, [(2, 805, 805, 0), (0, 1, 1, 0), (0, 0, 7, 1)], [], [], [(1, (0, 1, 1, 0), [(2, 805, 805, 0), (0, 1, 1, 0), (0, 0, 7, 1)], [], ([], [])), (1, (0, 0, 0, 0), [(2, 805, 805, 0), (0, 1, 1, 0), (0, 0, 7, 1)], [], ([], []))], [], 2, 44, 0)
theorem kh_223_ok : ct_ok wd_fl kh_223 := ct_of (ff := wd_ff) (y := (⟨"UtilityWorksModel", "isFine", "(II)Z"⟩, prog_14_method_19_code, 3, some .boolean, 12, 1, 2, 32215, 32214, 5007, 21014)) (Cs := [kh_222, kh_221]) (an := [(30, 0, ([((2, 805, 805, 0), none), ((0, 1, 1, 0), none), ((0, 0, 7, 1), none)], [(0, 0), (1, 1), (2, 2)], [], [], [], [], [], [], none), [(0, 0, 99970)])]) (ss := []) (K := 1) (fuel := 4000) wd_fl_ok rfl (List.forall_mem_cons.mpr ⟨kh_222_ok, (List.forall_mem_cons.mpr ⟨kh_221_ok, (List.forall_mem_nil _)⟩)⟩) (by decide +kernel)
/- UtilityWorksModel isOn -/
def kh_224 : ct_T := (360, [(2, 805, 805, 0), (0, 1, 1, 0), (0, 0, 7, 1)], [], [], [(1, (0, 1, 1, 0), [(2, 805, 805, 0), (0, 1, 1, 0), (0, 0, 7, 1)], [], ([], [])), (1, (0, 0, 0, 0), [(2, 805, 805, 0), (0, 1, 1, 0), (0, 0, 7, 1)], [], ([], []))], [], 2, 44, 0)
theorem kh_224_ok : ct_ok wd_fl kh_224 := ct_of (ff := wd_ff) (y := (⟨"UtilityWorksModel", "isOn", "(II)Z"⟩, prog_14_method_20_code, 3, some .boolean, 12, 1, 2, 32219, 32218, 5008, 21014)) (Cs := [kh_222, kh_221]) (an := [(30, 0, ([((2, 805, 805, 0), none), ((0, 1, 1, 0), none), ((0, 0, 7, 1), none)], [(0, 0), (1, 1), (2, 2)], [], [], [], [], [], [], none), [(0, 0, 99970)])]) (ss := []) (K := 1) (fuel := 4000) wd_fl_ok rfl (List.forall_mem_cons.mpr ⟨kh_222_ok, (List.forall_mem_cons.mpr ⟨kh_221_ok, (List.forall_mem_nil _)⟩)⟩) (by decide +kernel)
/- UtilityWorksModel leads -/
def kh_225 : ct_T := (358, [(2, 805, 805, 0), (0, 1, 1, 0), (0, 0, 7, 1)], [], [], [(1, (0, 1, 1, 0), [(2, 805, 805, 0), (0, 1, 1, 0), (0, 0, 7, 1)], [], ([], [])), (1, (0, 0, 0, 0), [(2, 805, 805, 0), (0, 1, 1, 0), (0, 0, 7, 1)], [], ([], []))], [], 3, 66, 0)
theorem kh_225_ok : ct_ok wd_fl kh_225 := ct_of (ff := wd_ff) (y := (⟨"UtilityWorksModel", "leads", "(II)Z"⟩, prog_14_method_21_code, 3, some .boolean, 12, 1, 2, 32211, 32210, 5006, 21014)) (Cs := [kh_223, kh_224]) (an := [(22, 0, ([((2, 805, 805, 0), none), ((0, 1, 1, 0), none), ((0, 0, 7, 1), none)], [(0, 0), (1, 1), (2, 2)], [], [], [], [], [], [], none), [(0, 0, 99978)])]) (ss := []) (K := 1) (fuel := 4000) wd_fl_ok rfl (List.forall_mem_cons.mpr ⟨kh_223_ok, (List.forall_mem_cons.mpr ⟨kh_224_ok, (List.forall_mem_nil _)⟩)⟩) (by decide +kernel)
/- UtilityWorksModel boundOf -/
def kh_226 : ct_T := (367, [(2, 805, 805, 0), (0, 1, 1, 0), (0, 0, 7, 1)], [], [], [(1, (0, 0, 999, 1), [(2, 805, 805, 0), (0, 1, 1, 0), (0, 0, 7, 1)], [], ([], []))], [], 1, 22, 0)
theorem kh_226_ok : ct_ok wd_fl kh_226 := ct_of (ff := wd_ff) (y := (⟨"UtilityWorksModel", "boundOf", "(II)I"⟩, prog_14_method_18_code, 3, some .int, 12, 1, 2, 33005, 33004, 5011, 21014)) (Cs := [kh_221]) (an := []) (ss := []) (K := 1) (fuel := 4000) wd_fl_ok rfl (List.forall_mem_cons.mpr ⟨kh_221_ok, (List.forall_mem_nil _)⟩) (by decide +kernel)
/- UtilityWorksModel wRoom -/
def kh_227 : ct_T := (473, [(2, 805, 805, 0), (0, 0, 7, 1)], [], [], [(1, (0, (-1998), 999, 1), [(2, 805, 805, 0), (0, 0, 7, 1)], [], ([], []))], [], 2, 44, 0)
theorem kh_227_ok : ct_ok wd_fl kh_227 := ct_of (ff := wd_ff) (y := (⟨"UtilityWorksModel", "wRoom", "(I)I"⟩, prog_14_method_117_code, 2, some .int, 12, 1, 1, 34185, 34184, 11012, 21014)) (Cs := [kh_226]) (an := []) (ss := []) (K := 1) (fuel := 4000) wd_fl_ok rfl (List.forall_mem_cons.mpr ⟨kh_226_ok, (List.forall_mem_nil _)⟩) (by decide +kernel)
/- UtilityWorksModel low -/
def kh_228 : ct_T := (363, [(0, 0, 7, 1)], [], [], [(1, (0, 0, 10, 1), [(0, 0, 7, 1)], [], ([], []))], [], 0, 0, 0)
theorem kh_228_ok : ct_ok wd_fl kh_228 := ct_of (ff := wd_ff) (y := (⟨"UtilityWorksModel", "low", "(I)I"⟩, prog_14_method_13_code, 1, some .int, 12, 0, 1, 32230, 32229, 0, 21014)) (Cs := []) (an := []) (ss := []) (K := 1) (fuel := 4000) wd_fl_ok rfl (List.forall_mem_nil _) (by decide +kernel)
/- UtilityWorksModel high -/
def kh_229 : ct_T := (365, [(0, 0, 7, 1)], [], [], [(1, (0, 1, 11, 1), [(0, 0, 7, 1)], [], ([], []))], [], 1, 20, 0)
theorem kh_229_ok : ct_ok wd_fl kh_229 := ct_of (ff := wd_ff) (y := (⟨"UtilityWorksModel", "high", "(I)I"⟩, prog_14_method_14_code, 1, some .int, 12, 0, 1, 32237, 32236, 0, 21014)) (Cs := [kh_228]) (an := []) (ss := []) (K := 1) (fuel := 4000) wd_fl_ok rfl (List.forall_mem_cons.mpr ⟨kh_228_ok, (List.forall_mem_nil _)⟩) (by decide +kernel)
/- UtilityWorksModel wOpen -/
def kh_230 : ct_T := (472, [(2, 805, 805, 0), (0, 0, 7, 1), (0, (-2147483648), 2147483647, 1)], [], [], [(1, (0, 1, 1, 0), [(2, 805, 805, 0), (0, 0, 7, 1), (0, 0, 2147483647, 1)], [], ([], [])), (1, (0, 0, 0, 0), [(2, 805, 805, 0), (0, 0, 7, 1), (0, (-2147483648), 2147483647, 1)], [], ([], []))], [], 4, 88, 0)
theorem kh_230_ok : ct_ok wd_fl kh_230 := ct_of (ff := wd_ff) (y := (⟨"UtilityWorksModel", "wOpen", "(II)Z"⟩, prog_14_method_118_code, 3, some .boolean, 12, 1, 2, 34181, 34180, 11011, 21014)) (Cs := [kh_225, kh_227, kh_228, kh_217, kh_229, kh_219]) (an := [(45, 0, ([((2, 805, 805, 0), none), ((0, 0, 7, 1), none), ((0, (-2147483648), 2147483647, 1), none)], [(0, 0), (1, 1), (2, 2)], [], [], [], [], [], [], none), [(0, 0, 99955)])]) (ss := []) (K := 1) (fuel := 4000) wd_fl_ok rfl (List.forall_mem_cons.mpr ⟨kh_225_ok, (List.forall_mem_cons.mpr ⟨kh_227_ok, (List.forall_mem_cons.mpr ⟨kh_228_ok, (List.forall_mem_cons.mpr ⟨kh_217_ok, (List.forall_mem_cons.mpr ⟨kh_229_ok, (List.forall_mem_cons.mpr ⟨kh_219_ok, (List.forall_mem_nil _)⟩)⟩)⟩)⟩)⟩)⟩) (by decide +kernel)
/- UtilityWorksModel link -/
def kh_231 : ct_T := (357, [(2, 805, 805, 0), (0, 1, 1, 0), (0, 0, 8, 1)], [], [], [(1, (0, 208, 240, 4), [(2, 805, 805, 0), (0, 1, 1, 0), (0, 0, 8, 1)], [], ([], []))], [], 0, 0, 0)
theorem kh_231_ok : ct_ok wd_fl kh_231 := ct_of (ff := wd_ff) (y := (⟨"UtilityWorksModel", "link", "(II)I"⟩, prog_14_method_16_code, 3, some .int, 12, 1, 2, 32207, 32206, 5005, 21014)) (Cs := []) (an := []) (ss := []) (K := 1) (fuel := 4000) wd_fl_ok rfl (List.forall_mem_nil _) (by decide +kernel)
/- UtilityWorksModel hasLink -/
def kh_232 : ct_T := (356, [(2, 805, 805, 0), (0, 1, 1, 0), (0, 0, 8, 1)], [], [], [(1, (0, 0, 0, 0), [(2, 805, 805, 0), (0, 1, 1, 0), (0, 0, 8, 1)], [], ([], [])), (1, (0, 1, 1, 0), [(2, 805, 805, 0), (0, 1, 1, 0), (0, 0, 8, 1)], [], ([], []))], [], 1, 22, 0)
theorem kh_232_ok : ct_ok wd_fl kh_232 := ct_of (ff := wd_ff) (y := (⟨"UtilityWorksModel", "hasLink", "(II)Z"⟩, prog_14_method_17_code, 3, some .boolean, 12, 1, 2, 32203, 32202, 5004, 21014)) (Cs := [kh_231]) (an := []) (ss := []) (K := 1) (fuel := 4000) wd_fl_ok rfl (List.forall_mem_cons.mpr ⟨kh_231_ok, (List.forall_mem_nil _)⟩) (by decide +kernel)
/- UtilityWorksModel isFine -/
def kh_233 : ct_T := (359, [(2, 805, 805, 0), (0, 1, 1, 0), (0, 0, 8, 1)], [], [], [(1, (0, 1, 1, 0), [(2, 805, 805, 0), (0, 1, 1, 0), (0, 0, 8, 1)], [], ([], [])), (1, (0, 0, 0, 0), [(2, 805, 805, 0), (0, 1, 1, 0), (0, 0, 8, 1)], [], ([], []))], [], 2, 44, 0)
theorem kh_233_ok : ct_ok wd_fl kh_233 := ct_of (ff := wd_ff) (y := (⟨"UtilityWorksModel", "isFine", "(II)Z"⟩, prog_14_method_19_code, 3, some .boolean, 12, 1, 2, 32215, 32214, 5007, 21014)) (Cs := [kh_232, kh_231]) (an := [(30, 0, ([((2, 805, 805, 0), none), ((0, 1, 1, 0), none), ((0, 0, 8, 1), none)], [(0, 0), (1, 1), (2, 2)], [], [], [], [], [], [], none), [(0, 0, 99970)])]) (ss := []) (K := 1) (fuel := 4000) wd_fl_ok rfl (List.forall_mem_cons.mpr ⟨kh_232_ok, (List.forall_mem_cons.mpr ⟨kh_231_ok, (List.forall_mem_nil _)⟩)⟩) (by decide +kernel)
/- UtilityWorksModel isOn -/
def kh_234 : ct_T := (360, [(2, 805, 805, 0), (0, 1, 1, 0), (0, 0, 8, 1)], [], [], [(1, (0, 1, 1, 0), [(2, 805, 805, 0), (0, 1, 1, 0), (0, 0, 8, 1)], [], ([], [])), (1, (0, 0, 0, 0), [(2, 805, 805, 0), (0, 1, 1, 0), (0, 0, 8, 1)], [], ([], []))], [], 2, 44, 0)
theorem kh_234_ok : ct_ok wd_fl kh_234 := ct_of (ff := wd_ff) (y := (⟨"UtilityWorksModel", "isOn", "(II)Z"⟩, prog_14_method_20_code, 3, some .boolean, 12, 1, 2, 32219, 32218, 5008, 21014)) (Cs := [kh_232, kh_231]) (an := [(30, 0, ([((2, 805, 805, 0), none), ((0, 1, 1, 0), none), ((0, 0, 8, 1), none)], [(0, 0), (1, 1), (2, 2)], [], [], [], [], [], [], none), [(0, 0, 99970)])]) (ss := []) (K := 1) (fuel := 4000) wd_fl_ok rfl (List.forall_mem_cons.mpr ⟨kh_232_ok, (List.forall_mem_cons.mpr ⟨kh_231_ok, (List.forall_mem_nil _)⟩)⟩) (by decide +kernel)
/- UtilityWorksModel leads -/
def kh_235 : ct_T := (358, [(2, 805, 805, 0), (0, 1, 1, 0), (0, 0, 8, 1)], [], [], [(1, (0, 1, 1, 0), [(2, 805, 805, 0), (0, 1, 1, 0), (0, 0, 8, 1)], [], ([], [])), (1, (0, 0, 0, 0), [(2, 805, 805, 0), (0, 1, 1, 0), (0, 0, 8, 1)], [], ([], []))], [], 3, 66, 0)
theorem kh_235_ok : ct_ok wd_fl kh_235 := ct_of (ff := wd_ff) (y := (⟨"UtilityWorksModel", "leads", "(II)Z"⟩, prog_14_method_21_code, 3, some .boolean, 12, 1, 2, 32211, 32210, 5006, 21014)) (Cs := [kh_233, kh_234]) (an := [(22, 0, ([((2, 805, 805, 0), none), ((0, 1, 1, 0), none), ((0, 0, 8, 1), none)], [(0, 0), (1, 1), (2, 2)], [], [], [], [], [], [], none), [(0, 0, 99978)])]) (ss := []) (K := 1) (fuel := 4000) wd_fl_ok rfl (List.forall_mem_cons.mpr ⟨kh_233_ok, (List.forall_mem_cons.mpr ⟨kh_234_ok, (List.forall_mem_nil _)⟩)⟩) (by decide +kernel)
/- UtilityWorksModel boundOf -/
def kh_236 : ct_T := (367, [(2, 805, 805, 0), (0, 1, 1, 0), (0, 0, 8, 1)], [], [], [(1, (0, 0, 999, 1), [(2, 805, 805, 0), (0, 1, 1, 0), (0, 0, 8, 1)], [], ([], []))], [], 1, 22, 0)
theorem kh_236_ok : ct_ok wd_fl kh_236 := ct_of (ff := wd_ff) (y := (⟨"UtilityWorksModel", "boundOf", "(II)I"⟩, prog_14_method_18_code, 3, some .int, 12, 1, 2, 33005, 33004, 5011, 21014)) (Cs := [kh_231]) (an := []) (ss := []) (K := 1) (fuel := 4000) wd_fl_ok rfl (List.forall_mem_cons.mpr ⟨kh_231_ok, (List.forall_mem_nil _)⟩) (by decide +kernel)
/- UtilityWorksModel wRoom -/
def kh_237 : ct_T := (473, [(2, 805, 805, 0), (0, 0, 8, 1)], [], [], [(1, (0, (-1998), 999, 1), [(2, 805, 805, 0), (0, 0, 8, 1)], [], ([], []))], [], 2, 44, 0)
theorem kh_237_ok : ct_ok wd_fl kh_237 := ct_of (ff := wd_ff) (y := (⟨"UtilityWorksModel", "wRoom", "(I)I"⟩, prog_14_method_117_code, 2, some .int, 12, 1, 1, 34185, 34184, 11012, 21014)) (Cs := [kh_236]) (an := []) (ss := []) (K := 1) (fuel := 4000) wd_fl_ok rfl (List.forall_mem_cons.mpr ⟨kh_236_ok, (List.forall_mem_nil _)⟩) (by decide +kernel)
/- UtilityWorksModel low -/
def kh_238 : ct_T := (363, [(0, 0, 8, 1)], [], [], [(1, (0, 0, 10, 1), [(0, 0, 8, 1)], [], ([], []))], [], 0, 0, 0)
theorem kh_238_ok : ct_ok wd_fl kh_238 := ct_of (ff := wd_ff) (y := (⟨"UtilityWorksModel", "low", "(I)I"⟩, prog_14_method_13_code, 1, some .int, 12, 0, 1, 32230, 32229, 0, 21014)) (Cs := []) (an := []) (ss := []) (K := 1) (fuel := 4000) wd_fl_ok rfl (List.forall_mem_nil _) (by decide +kernel)
/- UtilityWorksModel high -/
def kh_239 : ct_T := (365, [(0, 0, 8, 1)], [], [], [(1, (0, 1, 11, 1), [(0, 0, 8, 1)], [], ([], []))], [], 1, 20, 0)
theorem kh_239_ok : ct_ok wd_fl kh_239 := ct_of (ff := wd_ff) (y := (⟨"UtilityWorksModel", "high", "(I)I"⟩, prog_14_method_14_code, 1, some .int, 12, 0, 1, 32237, 32236, 0, 21014)) (Cs := [kh_238]) (an := []) (ss := []) (K := 1) (fuel := 4000) wd_fl_ok rfl (List.forall_mem_cons.mpr ⟨kh_238_ok, (List.forall_mem_nil _)⟩) (by decide +kernel)
/- UtilityWorksModel wOpen -/
def kh_240 : ct_T := (472, [(2, 805, 805, 0), (0, 0, 8, 1), (0, (-2147483648), 2147483647, 1)], [], [], [(1, (0, 1, 1, 0), [(2, 805, 805, 0), (0, 0, 8, 1), (0, 0, 2147483647, 1)], [], ([], [])), (1, (0, 0, 0, 0), [(2, 805, 805, 0), (0, 0, 8, 1), (0, (-2147483648), 2147483647, 1)], [], ([], []))], [], 4, 88, 0)
theorem kh_240_ok : ct_ok wd_fl kh_240 := ct_of (ff := wd_ff) (y := (⟨"UtilityWorksModel", "wOpen", "(II)Z"⟩, prog_14_method_118_code, 3, some .boolean, 12, 1, 2, 34181, 34180, 11011, 21014)) (Cs := [kh_235, kh_237, kh_238, kh_217, kh_239, kh_219]) (an := [(45, 0, ([((2, 805, 805, 0), none), ((0, 0, 8, 1), none), ((0, (-2147483648), 2147483647, 1), none)], [(0, 0), (1, 1), (2, 2)], [], [], [], [], [], [], none), [(0, 0, 99955)])]) (ss := []) (K := 1) (fuel := 4000) wd_fl_ok rfl (List.forall_mem_cons.mpr ⟨kh_235_ok, (List.forall_mem_cons.mpr ⟨kh_237_ok, (List.forall_mem_cons.mpr ⟨kh_238_ok, (List.forall_mem_cons.mpr ⟨kh_217_ok, (List.forall_mem_cons.mpr ⟨kh_239_ok, (List.forall_mem_cons.mpr ⟨kh_219_ok, (List.forall_mem_nil _)⟩)⟩)⟩)⟩)⟩)⟩) (by decide +kernel)
/- UtilityWorksModel link -/
def kh_241 : ct_T := (357, [(2, 805, 805, 0), (0, 1, 1, 0), (0, 0, 9, 1)], [], [], [(1, (0, 208, 244, 4), [(2, 805, 805, 0), (0, 1, 1, 0), (0, 0, 9, 1)], [], ([], []))], [], 0, 0, 0)
theorem kh_241_ok : ct_ok wd_fl kh_241 := ct_of (ff := wd_ff) (y := (⟨"UtilityWorksModel", "link", "(II)I"⟩, prog_14_method_16_code, 3, some .int, 12, 1, 2, 32207, 32206, 5005, 21014)) (Cs := []) (an := []) (ss := []) (K := 1) (fuel := 4000) wd_fl_ok rfl (List.forall_mem_nil _) (by decide +kernel)
/- UtilityWorksModel hasLink -/
def kh_242 : ct_T := (356, [(2, 805, 805, 0), (0, 1, 1, 0), (0, 0, 9, 1)], [], [], [(1, (0, 0, 0, 0), [(2, 805, 805, 0), (0, 1, 1, 0), (0, 0, 9, 1)], [], ([], [])), (1, (0, 1, 1, 0), [(2, 805, 805, 0), (0, 1, 1, 0), (0, 0, 9, 1)], [], ([], []))], [], 1, 22, 0)
theorem kh_242_ok : ct_ok wd_fl kh_242 := ct_of (ff := wd_ff) (y := (⟨"UtilityWorksModel", "hasLink", "(II)Z"⟩, prog_14_method_17_code, 3, some .boolean, 12, 1, 2, 32203, 32202, 5004, 21014)) (Cs := [kh_241]) (an := []) (ss := []) (K := 1) (fuel := 4000) wd_fl_ok rfl (List.forall_mem_cons.mpr ⟨kh_241_ok, (List.forall_mem_nil _)⟩) (by decide +kernel)
/- UtilityWorksModel isFine -/
def kh_243 : ct_T := (359, [(2, 805, 805, 0), (0, 1, 1, 0), (0, 0, 9, 1)], [], [], [(1, (0, 1, 1, 0), [(2, 805, 805, 0), (0, 1, 1, 0), (0, 0, 9, 1)], [], ([], [])), (1, (0, 0, 0, 0), [(2, 805, 805, 0), (0, 1, 1, 0), (0, 0, 9, 1)], [], ([], []))], [], 2, 44, 0)
theorem kh_243_ok : ct_ok wd_fl kh_243 := ct_of (ff := wd_ff) (y := (⟨"UtilityWorksModel", "isFine", "(II)Z"⟩, prog_14_method_19_code, 3, some .boolean, 12, 1, 2, 32215, 32214, 5007, 21014)) (Cs := [kh_242, kh_241]) (an := [(30, 0, ([((2, 805, 805, 0), none), ((0, 1, 1, 0), none), ((0, 0, 9, 1), none)], [(0, 0), (1, 1), (2, 2)], [], [], [], [], [], [], none), [(0, 0, 99970)])]) (ss := []) (K := 1) (fuel := 4000) wd_fl_ok rfl (List.forall_mem_cons.mpr ⟨kh_242_ok, (List.forall_mem_cons.mpr ⟨kh_241_ok, (List.forall_mem_nil _)⟩)⟩) (by decide +kernel)
/- UtilityWorksModel isOn -/
def kh_244 : ct_T := (360, [(2, 805, 805, 0), (0, 1, 1, 0), (0, 0, 9, 1)], [], [], [(1, (0, 1, 1, 0), [(2, 805, 805, 0), (0, 1, 1, 0), (0, 0, 9, 1)], [], ([], [])), (1, (0, 0, 0, 0), [(2, 805, 805, 0), (0, 1, 1, 0), (0, 0, 9, 1)], [], ([], []))], [], 2, 44, 0)
theorem kh_244_ok : ct_ok wd_fl kh_244 := ct_of (ff := wd_ff) (y := (⟨"UtilityWorksModel", "isOn", "(II)Z"⟩, prog_14_method_20_code, 3, some .boolean, 12, 1, 2, 32219, 32218, 5008, 21014)) (Cs := [kh_242, kh_241]) (an := [(30, 0, ([((2, 805, 805, 0), none), ((0, 1, 1, 0), none), ((0, 0, 9, 1), none)], [(0, 0), (1, 1), (2, 2)], [], [], [], [], [], [], none), [(0, 0, 99970)])]) (ss := []) (K := 1) (fuel := 4000) wd_fl_ok rfl (List.forall_mem_cons.mpr ⟨kh_242_ok, (List.forall_mem_cons.mpr ⟨kh_241_ok, (List.forall_mem_nil _)⟩)⟩) (by decide +kernel)
/- UtilityWorksModel leads -/
def kh_245 : ct_T := (358, [(2, 805, 805, 0), (0, 1, 1, 0), (0, 0, 9, 1)], [], [], [(1, (0, 1, 1, 0), [(2, 805, 805, 0), (0, 1, 1, 0), (0, 0, 9, 1)], [], ([], [])), (1, (0, 0, 0, 0), [(2, 805, 805, 0), (0, 1, 1, 0), (0, 0, 9, 1)], [], ([], []))], [], 3, 66, 0)
theorem kh_245_ok : ct_ok wd_fl kh_245 := ct_of (ff := wd_ff) (y := (⟨"UtilityWorksModel", "leads", "(II)Z"⟩, prog_14_method_21_code, 3, some .boolean, 12, 1, 2, 32211, 32210, 5006, 21014)) (Cs := [kh_243, kh_244]) (an := [(22, 0, ([((2, 805, 805, 0), none), ((0, 1, 1, 0), none), ((0, 0, 9, 1), none)], [(0, 0), (1, 1), (2, 2)], [], [], [], [], [], [], none), [(0, 0, 99978)])]) (ss := []) (K := 1) (fuel := 4000) wd_fl_ok rfl (List.forall_mem_cons.mpr ⟨kh_243_ok, (List.forall_mem_cons.mpr ⟨kh_244_ok, (List.forall_mem_nil _)⟩)⟩) (by decide +kernel)
/- UtilityWorksModel boundOf -/
def kh_246 : ct_T := (367, [(2, 805, 805, 0), (0, 1, 1, 0), (0, 0, 9, 1)], [], [], [(1, (0, 0, 999, 1), [(2, 805, 805, 0), (0, 1, 1, 0), (0, 0, 9, 1)], [], ([], []))], [], 1, 22, 0)
theorem kh_246_ok : ct_ok wd_fl kh_246 := ct_of (ff := wd_ff) (y := (⟨"UtilityWorksModel", "boundOf", "(II)I"⟩, prog_14_method_18_code, 3, some .int, 12, 1, 2, 33005, 33004, 5011, 21014)) (Cs := [kh_241]) (an := []) (ss := []) (K := 1) (fuel := 4000) wd_fl_ok rfl (List.forall_mem_cons.mpr ⟨kh_241_ok, (List.forall_mem_nil _)⟩) (by decide +kernel)
/- UtilityWorksModel wRoom -/
def kh_247 : ct_T := (473, [(2, 805, 805, 0), (0, 0, 9, 1)], [], [], [(1, (0, (-1998), 999, 1), [(2, 805, 805, 0), (0, 0, 9, 1)], [], ([], []))], [], 2, 44, 0)
theorem kh_247_ok : ct_ok wd_fl kh_247 := ct_of (ff := wd_ff) (y := (⟨"UtilityWorksModel", "wRoom", "(I)I"⟩, prog_14_method_117_code, 2, some .int, 12, 1, 1, 34185, 34184, 11012, 21014)) (Cs := [kh_246]) (an := []) (ss := []) (K := 1) (fuel := 4000) wd_fl_ok rfl (List.forall_mem_cons.mpr ⟨kh_246_ok, (List.forall_mem_nil _)⟩) (by decide +kernel)
/- UtilityWorksModel low -/
def kh_248 : ct_T := (363, [(0, 0, 9, 1)], [], [], [(1, (0, 0, 0, 1), [(0, 9, 9, 1)], [], ([], [])), (1, (0, 0, 10, 1), [(0, 0, 8, 1)], [], ([], []))], [], 0, 0, 0)
theorem kh_248_ok : ct_ok wd_fl kh_248 := ct_of (ff := wd_ff) (y := (⟨"UtilityWorksModel", "low", "(I)I"⟩, prog_14_method_13_code, 1, some .int, 12, 0, 1, 32230, 32229, 0, 21014)) (Cs := []) (an := []) (ss := []) (K := 1) (fuel := 4000) wd_fl_ok rfl (List.forall_mem_nil _) (by decide +kernel)
/- UtilityWorksModel heightOf -/
def kh_249 : ct_T := (389, [(2, 805, 805, 0), (0, 0, 0, 1)], [], [], [(1, (0, 0, 99, 1), [(2, 805, 805, 0), (0, 0, 0, 1)], [], ([], []))], [], 0, 0, 0)
theorem kh_249_ok : ct_ok wd_fl kh_249 := ct_of (ff := wd_ff) (y := (⟨"UtilityWorksModel", "heightOf", "(I)I"⟩, prog_14_method_30_code, 2, some .int, 12, 1, 1, 33093, 33092, 6012, 21014)) (Cs := []) (an := []) (ss := []) (K := 1) (fuel := 4000) wd_fl_ok rfl (List.forall_mem_nil _) (by decide +kernel)
/- UtilityWorksModel high -/
def kh_250 : ct_T := (365, [(0, 9, 9, 1)], [], [], [(1, (0, 4, 4, 1), [(0, 9, 9, 1)], [], ([], []))], [], 0, 0, 0)
theorem kh_250_ok : ct_ok wd_fl kh_250 := ct_of (ff := wd_ff) (y := (⟨"UtilityWorksModel", "high", "(I)I"⟩, prog_14_method_14_code, 1, some .int, 12, 0, 1, 32237, 32236, 0, 21014)) (Cs := []) (an := []) (ss := []) (K := 1) (fuel := 4000) wd_fl_ok rfl (List.forall_mem_nil _) (by decide +kernel)
/- UtilityWorksModel heightOf -/
def kh_251 : ct_T := (389, [(2, 805, 805, 0), (0, 4, 4, 1)], [], [], [(1, (0, 0, 99, 1), [(2, 805, 805, 0), (0, 4, 4, 1)], [], ([], []))], [], 0, 0, 0)
theorem kh_251_ok : ct_ok wd_fl kh_251 := ct_of (ff := wd_ff) (y := (⟨"UtilityWorksModel", "heightOf", "(I)I"⟩, prog_14_method_30_code, 2, some .int, 12, 1, 1, 33093, 33092, 6012, 21014)) (Cs := []) (an := []) (ss := []) (K := 1) (fuel := 4000) wd_fl_ok rfl (List.forall_mem_nil _) (by decide +kernel)
/- UtilityWorksModel wOpen -/
def kh_252 : ct_T := (472, [(2, 805, 805, 0), (0, 0, 9, 1), (0, (-2147483648), 2147483647, 1)], [], [], [(1, (0, 1, 1, 0), [(2, 805, 805, 0), (0, 0, 9, 1), (0, 0, 2147483647, 1)], [], ([], [])), (1, (0, 0, 0, 0), [(2, 805, 805, 0), (0, 0, 9, 1), (0, (-2147483648), 2147483647, 1)], [], ([], []))], [], 4, 88, 0)
theorem kh_252_ok : ct_ok wd_fl kh_252 := ct_of (ff := wd_ff) (y := (⟨"UtilityWorksModel", "wOpen", "(II)Z"⟩, prog_14_method_118_code, 3, some .boolean, 12, 1, 2, 34181, 34180, 11011, 21014)) (Cs := [kh_245, kh_247, kh_248, kh_249, kh_250, kh_251, kh_217, kh_239, kh_219]) (an := [(45, 0, ([((2, 805, 805, 0), none), ((0, 0, 9, 1), none), ((0, (-2147483648), 2147483647, 1), none)], [(0, 0), (1, 1), (2, 2)], [], [], [], [], [], [], none), [(0, 0, 99955)])]) (ss := []) (K := 1) (fuel := 4000) wd_fl_ok rfl (List.forall_mem_cons.mpr ⟨kh_245_ok, (List.forall_mem_cons.mpr ⟨kh_247_ok, (List.forall_mem_cons.mpr ⟨kh_248_ok, (List.forall_mem_cons.mpr ⟨kh_249_ok, (List.forall_mem_cons.mpr ⟨kh_250_ok, (List.forall_mem_cons.mpr ⟨kh_251_ok, (List.forall_mem_cons.mpr ⟨kh_217_ok, (List.forall_mem_cons.mpr ⟨kh_239_ok, (List.forall_mem_cons.mpr ⟨kh_219_ok, (List.forall_mem_nil _)⟩)⟩)⟩)⟩)⟩)⟩)⟩)⟩)⟩) (by decide +kernel)
/- UtilityWorksModel link -/
def kh_253 : ct_T := (357, [(2, 805, 805, 0), (0, 1, 1, 0), (0, 0, 10, 1)], [], [], [(1, (0, 208, 248, 4), [(2, 805, 805, 0), (0, 1, 1, 0), (0, 0, 10, 1)], [], ([], []))], [], 0, 0, 0)
theorem kh_253_ok : ct_ok wd_fl kh_253 := ct_of (ff := wd_ff) (y := (⟨"UtilityWorksModel", "link", "(II)I"⟩, prog_14_method_16_code, 3, some .int, 12, 1, 2, 32207, 32206, 5005, 21014)) (Cs := []) (an := []) (ss := []) (K := 1) (fuel := 4000) wd_fl_ok rfl (List.forall_mem_nil _) (by decide +kernel)
/- UtilityWorksModel hasLink -/
def kh_254 : ct_T := (356, [(2, 805, 805, 0), (0, 1, 1, 0), (0, 0, 10, 1)], [], [], [(1, (0, 0, 0, 0), [(2, 805, 805, 0), (0, 1, 1, 0), (0, 0, 10, 1)], [], ([], [])), (1, (0, 1, 1, 0), [(2, 805, 805, 0), (0, 1, 1, 0), (0, 0, 10, 1)], [], ([], []))], [], 1, 22, 0)
theorem kh_254_ok : ct_ok wd_fl kh_254 := ct_of (ff := wd_ff) (y := (⟨"UtilityWorksModel", "hasLink", "(II)Z"⟩, prog_14_method_17_code, 3, some .boolean, 12, 1, 2, 32203, 32202, 5004, 21014)) (Cs := [kh_253]) (an := []) (ss := []) (K := 1) (fuel := 4000) wd_fl_ok rfl (List.forall_mem_cons.mpr ⟨kh_253_ok, (List.forall_mem_nil _)⟩) (by decide +kernel)
/- UtilityWorksModel isFine -/
def kh_255 : ct_T := (359, [(2, 805, 805, 0), (0, 1, 1, 0), (0, 0, 10, 1)], [], [], [(1, (0, 1, 1, 0), [(2, 805, 805, 0), (0, 1, 1, 0), (0, 0, 10, 1)], [], ([], [])), (1, (0, 0, 0, 0), [(2, 805, 805, 0), (0, 1, 1, 0), (0, 0, 10, 1)], [], ([], []))], [], 2, 44, 0)
theorem kh_255_ok : ct_ok wd_fl kh_255 := ct_of (ff := wd_ff) (y := (⟨"UtilityWorksModel", "isFine", "(II)Z"⟩, prog_14_method_19_code, 3, some .boolean, 12, 1, 2, 32215, 32214, 5007, 21014)) (Cs := [kh_254, kh_253]) (an := [(30, 0, ([((2, 805, 805, 0), none), ((0, 1, 1, 0), none), ((0, 0, 10, 1), none)], [(0, 0), (1, 1), (2, 2)], [], [], [], [], [], [], none), [(0, 0, 99970)])]) (ss := []) (K := 1) (fuel := 4000) wd_fl_ok rfl (List.forall_mem_cons.mpr ⟨kh_254_ok, (List.forall_mem_cons.mpr ⟨kh_253_ok, (List.forall_mem_nil _)⟩)⟩) (by decide +kernel)
/- UtilityWorksModel isOn -/
def kh_256 : ct_T := (360, [(2, 805, 805, 0), (0, 1, 1, 0), (0, 0, 10, 1)], [], [], [(1, (0, 1, 1, 0), [(2, 805, 805, 0), (0, 1, 1, 0), (0, 0, 10, 1)], [], ([], [])), (1, (0, 0, 0, 0), [(2, 805, 805, 0), (0, 1, 1, 0), (0, 0, 10, 1)], [], ([], []))], [], 2, 44, 0)
theorem kh_256_ok : ct_ok wd_fl kh_256 := ct_of (ff := wd_ff) (y := (⟨"UtilityWorksModel", "isOn", "(II)Z"⟩, prog_14_method_20_code, 3, some .boolean, 12, 1, 2, 32219, 32218, 5008, 21014)) (Cs := [kh_254, kh_253]) (an := [(30, 0, ([((2, 805, 805, 0), none), ((0, 1, 1, 0), none), ((0, 0, 10, 1), none)], [(0, 0), (1, 1), (2, 2)], [], [], [], [], [], [], none), [(0, 0, 99970)])]) (ss := []) (K := 1) (fuel := 4000) wd_fl_ok rfl (List.forall_mem_cons.mpr ⟨kh_254_ok, (List.forall_mem_cons.mpr ⟨kh_253_ok, (List.forall_mem_nil _)⟩)⟩) (by decide +kernel)
/- UtilityWorksModel leads -/
def kh_257 : ct_T := (358, [(2, 805, 805, 0), (0, 1, 1, 0), (0, 0, 10, 1)], [], [], [(1, (0, 1, 1, 0), [(2, 805, 805, 0), (0, 1, 1, 0), (0, 0, 10, 1)], [], ([], [])), (1, (0, 0, 0, 0), [(2, 805, 805, 0), (0, 1, 1, 0), (0, 0, 10, 1)], [], ([], []))], [], 3, 66, 0)
theorem kh_257_ok : ct_ok wd_fl kh_257 := ct_of (ff := wd_ff) (y := (⟨"UtilityWorksModel", "leads", "(II)Z"⟩, prog_14_method_21_code, 3, some .boolean, 12, 1, 2, 32211, 32210, 5006, 21014)) (Cs := [kh_255, kh_256]) (an := [(22, 0, ([((2, 805, 805, 0), none), ((0, 1, 1, 0), none), ((0, 0, 10, 1), none)], [(0, 0), (1, 1), (2, 2)], [], [], [], [], [], [], none), [(0, 0, 99978)])]) (ss := []) (K := 1) (fuel := 4000) wd_fl_ok rfl (List.forall_mem_cons.mpr ⟨kh_255_ok, (List.forall_mem_cons.mpr ⟨kh_256_ok, (List.forall_mem_nil _)⟩)⟩) (by decide +kernel)
/- UtilityWorksModel boundOf -/
def kh_258 : ct_T := (367, [(2, 805, 805, 0), (0, 1, 1, 0), (0, 0, 10, 1)], [], [], [(1, (0, 0, 999, 1), [(2, 805, 805, 0), (0, 1, 1, 0), (0, 0, 10, 1)], [], ([], []))], [], 1, 22, 0)
theorem kh_258_ok : ct_ok wd_fl kh_258 := ct_of (ff := wd_ff) (y := (⟨"UtilityWorksModel", "boundOf", "(II)I"⟩, prog_14_method_18_code, 3, some .int, 12, 1, 2, 33005, 33004, 5011, 21014)) (Cs := [kh_253]) (an := []) (ss := []) (K := 1) (fuel := 4000) wd_fl_ok rfl (List.forall_mem_cons.mpr ⟨kh_253_ok, (List.forall_mem_nil _)⟩) (by decide +kernel)
/- UtilityWorksModel wRoom -/
def kh_259 : ct_T := (473, [(2, 805, 805, 0), (0, 0, 10, 1)], [], [], [(1, (0, (-1998), 999, 1), [(2, 805, 805, 0), (0, 0, 10, 1)], [], ([], []))], [], 2, 44, 0)
theorem kh_259_ok : ct_ok wd_fl kh_259 := ct_of (ff := wd_ff) (y := (⟨"UtilityWorksModel", "wRoom", "(I)I"⟩, prog_14_method_117_code, 2, some .int, 12, 1, 1, 34185, 34184, 11012, 21014)) (Cs := [kh_258]) (an := []) (ss := []) (K := 1) (fuel := 4000) wd_fl_ok rfl (List.forall_mem_cons.mpr ⟨kh_258_ok, (List.forall_mem_nil _)⟩) (by decide +kernel)
/- UtilityWorksModel low -/
def kh_260 : ct_T := (363, [(0, 0, 10, 1)], [], [], [(1, (0, 0, 10, 1), [(0, 0, 10, 1)], [], ([], []))], [], 0, 0, 0)
theorem kh_260_ok : ct_ok wd_fl kh_260 := ct_of (ff := wd_ff) (y := (⟨"UtilityWorksModel", "low", "(I)I"⟩, prog_14_method_13_code, 1, some .int, 12, 0, 1, 32230, 32229, 0, 21014)) (Cs := []) (an := []) (ss := []) (K := 1) (fuel := 4000) wd_fl_ok rfl (List.forall_mem_nil _) (by decide +kernel)
/- UtilityWorksModel high -/
def kh_261 : ct_T := (365, [(0, 0, 10, 1)], [], [], [(1, (0, 1, 11, 1), [(0, 0, 10, 1)], [], ([], []))], [], 1, 20, 0)
theorem kh_261_ok : ct_ok wd_fl kh_261 := ct_of (ff := wd_ff) (y := (⟨"UtilityWorksModel", "high", "(I)I"⟩, prog_14_method_14_code, 1, some .int, 12, 0, 1, 32237, 32236, 0, 21014)) (Cs := [kh_238]) (an := []) (ss := []) (K := 1) (fuel := 4000) wd_fl_ok rfl (List.forall_mem_cons.mpr ⟨kh_238_ok, (List.forall_mem_nil _)⟩) (by decide +kernel)
/- UtilityWorksModel wOpen -/
def kh_262 : ct_T := (472, [(2, 805, 805, 0), (0, 0, 10, 1), (0, (-2147483648), 2147483647, 1)], [], [], [(1, (0, 1, 1, 0), [(2, 805, 805, 0), (0, 0, 10, 1), (0, 0, 2147483647, 1)], [], ([], [])), (1, (0, 0, 0, 0), [(2, 805, 805, 0), (0, 0, 10, 1), (0, (-2147483648), 2147483647, 1)], [], ([], []))], [], 4, 88, 0)
theorem kh_262_ok : ct_ok wd_fl kh_262 := ct_of (ff := wd_ff) (y := (⟨"UtilityWorksModel", "wOpen", "(II)Z"⟩, prog_14_method_118_code, 3, some .boolean, 12, 1, 2, 34181, 34180, 11011, 21014)) (Cs := [kh_257, kh_259, kh_260, kh_217, kh_261, kh_219]) (an := [(45, 0, ([((2, 805, 805, 0), none), ((0, 0, 10, 1), none), ((0, (-2147483648), 2147483647, 1), none)], [(0, 0), (1, 1), (2, 2)], [], [], [], [], [], [], none), [(0, 0, 99955)])]) (ss := []) (K := 1) (fuel := 4000) wd_fl_ok rfl (List.forall_mem_cons.mpr ⟨kh_257_ok, (List.forall_mem_cons.mpr ⟨kh_259_ok, (List.forall_mem_cons.mpr ⟨kh_260_ok, (List.forall_mem_cons.mpr ⟨kh_217_ok, (List.forall_mem_cons.mpr ⟨kh_261_ok, (List.forall_mem_cons.mpr ⟨kh_219_ok, (List.forall_mem_nil _)⟩)⟩)⟩)⟩)⟩)⟩) (by decide +kernel)
/- UtilityWorksModel link -/
def kh_263 : ct_T := (357, [(2, 805, 805, 0), (0, 1, 1, 0), (0, 0, 11, 1)], [], [], [(1, (0, 208, 252, 4), [(2, 805, 805, 0), (0, 1, 1, 0), (0, 0, 11, 1)], [], ([], []))], [], 0, 0, 0)
theorem kh_263_ok : ct_ok wd_fl kh_263 := ct_of (ff := wd_ff) (y := (⟨"UtilityWorksModel", "link", "(II)I"⟩, prog_14_method_16_code, 3, some .int, 12, 1, 2, 32207, 32206, 5005, 21014)) (Cs := []) (an := []) (ss := []) (K := 1) (fuel := 4000) wd_fl_ok rfl (List.forall_mem_nil _) (by decide +kernel)
/- UtilityWorksModel hasLink -/
def kh_264 : ct_T := (356, [(2, 805, 805, 0), (0, 1, 1, 0), (0, 0, 11, 1)], [], [], [(1, (0, 0, 0, 0), [(2, 805, 805, 0), (0, 1, 1, 0), (0, 0, 11, 1)], [], ([], [])), (1, (0, 1, 1, 0), [(2, 805, 805, 0), (0, 1, 1, 0), (0, 0, 11, 1)], [], ([], []))], [], 1, 22, 0)
theorem kh_264_ok : ct_ok wd_fl kh_264 := ct_of (ff := wd_ff) (y := (⟨"UtilityWorksModel", "hasLink", "(II)Z"⟩, prog_14_method_17_code, 3, some .boolean, 12, 1, 2, 32203, 32202, 5004, 21014)) (Cs := [kh_263]) (an := []) (ss := []) (K := 1) (fuel := 4000) wd_fl_ok rfl (List.forall_mem_cons.mpr ⟨kh_263_ok, (List.forall_mem_nil _)⟩) (by decide +kernel)
/- UtilityWorksModel isFine -/
def kh_265 : ct_T := (359, [(2, 805, 805, 0), (0, 1, 1, 0), (0, 0, 11, 1)], [], [], [(1, (0, 1, 1, 0), [(2, 805, 805, 0), (0, 1, 1, 0), (0, 0, 11, 1)], [], ([], [])), (1, (0, 0, 0, 0), [(2, 805, 805, 0), (0, 1, 1, 0), (0, 0, 11, 1)], [], ([], []))], [], 2, 44, 0)
theorem kh_265_ok : ct_ok wd_fl kh_265 := ct_of (ff := wd_ff) (y := (⟨"UtilityWorksModel", "isFine", "(II)Z"⟩, prog_14_method_19_code, 3, some .boolean, 12, 1, 2, 32215, 32214, 5007, 21014)) (Cs := [kh_264, kh_263]) (an := [(30, 0, ([((2, 805, 805, 0), none), ((0, 1, 1, 0), none), ((0, 0, 11, 1), none)], [(0, 0), (1, 1), (2, 2)], [], [], [], [], [], [], none), [(0, 0, 99970)])]) (ss := []) (K := 1) (fuel := 4000) wd_fl_ok rfl (List.forall_mem_cons.mpr ⟨kh_264_ok, (List.forall_mem_cons.mpr ⟨kh_263_ok, (List.forall_mem_nil _)⟩)⟩) (by decide +kernel)
/- UtilityWorksModel isOn -/
def kh_266 : ct_T := (360, [(2, 805, 805, 0), (0, 1, 1, 0), (0, 0, 11, 1)], [], [], [(1, (0, 1, 1, 0), [(2, 805, 805, 0), (0, 1, 1, 0), (0, 0, 11, 1)], [], ([], [])), (1, (0, 0, 0, 0), [(2, 805, 805, 0), (0, 1, 1, 0), (0, 0, 11, 1)], [], ([], []))], [], 2, 44, 0)
theorem kh_266_ok : ct_ok wd_fl kh_266 := ct_of (ff := wd_ff) (y := (⟨"UtilityWorksModel", "isOn", "(II)Z"⟩, prog_14_method_20_code, 3, some .boolean, 12, 1, 2, 32219, 32218, 5008, 21014)) (Cs := [kh_264, kh_263]) (an := [(30, 0, ([((2, 805, 805, 0), none), ((0, 1, 1, 0), none), ((0, 0, 11, 1), none)], [(0, 0), (1, 1), (2, 2)], [], [], [], [], [], [], none), [(0, 0, 99970)])]) (ss := []) (K := 1) (fuel := 4000) wd_fl_ok rfl (List.forall_mem_cons.mpr ⟨kh_264_ok, (List.forall_mem_cons.mpr ⟨kh_263_ok, (List.forall_mem_nil _)⟩)⟩) (by decide +kernel)
/- UtilityWorksModel leads -/
def kh_267 : ct_T := (358, [(2, 805, 805, 0), (0, 1, 1, 0), (0, 0, 11, 1)], [], [], [(1, (0, 1, 1, 0), [(2, 805, 805, 0), (0, 1, 1, 0), (0, 0, 11, 1)], [], ([], [])), (1, (0, 0, 0, 0), [(2, 805, 805, 0), (0, 1, 1, 0), (0, 0, 11, 1)], [], ([], []))], [], 3, 66, 0)
theorem kh_267_ok : ct_ok wd_fl kh_267 := ct_of (ff := wd_ff) (y := (⟨"UtilityWorksModel", "leads", "(II)Z"⟩, prog_14_method_21_code, 3, some .boolean, 12, 1, 2, 32211, 32210, 5006, 21014)) (Cs := [kh_265, kh_266]) (an := [(22, 0, ([((2, 805, 805, 0), none), ((0, 1, 1, 0), none), ((0, 0, 11, 1), none)], [(0, 0), (1, 1), (2, 2)], [], [], [], [], [], [], none), [(0, 0, 99978)])]) (ss := []) (K := 1) (fuel := 4000) wd_fl_ok rfl (List.forall_mem_cons.mpr ⟨kh_265_ok, (List.forall_mem_cons.mpr ⟨kh_266_ok, (List.forall_mem_nil _)⟩)⟩) (by decide +kernel)
/- UtilityWorksModel boundOf -/
def kh_268 : ct_T := (367, [(2, 805, 805, 0), (0, 1, 1, 0), (0, 0, 11, 1)], [], [], [(1, (0, 0, 999, 1), [(2, 805, 805, 0), (0, 1, 1, 0), (0, 0, 11, 1)], [], ([], []))], [], 1, 22, 0)
theorem kh_268_ok : ct_ok wd_fl kh_268 := ct_of (ff := wd_ff) (y := (⟨"UtilityWorksModel", "boundOf", "(II)I"⟩, prog_14_method_18_code, 3, some .int, 12, 1, 2, 33005, 33004, 5011, 21014)) (Cs := [kh_263]) (an := []) (ss := []) (K := 1) (fuel := 4000) wd_fl_ok rfl (List.forall_mem_cons.mpr ⟨kh_263_ok, (List.forall_mem_nil _)⟩) (by decide +kernel)
/- UtilityWorksModel wRoom -/
def kh_269 : ct_T := (473, [(2, 805, 805, 0), (0, 0, 11, 1)], [], [], [(1, (0, (-1998), 999, 1), [(2, 805, 805, 0), (0, 0, 11, 1)], [], ([], []))], [], 2, 44, 0)
theorem kh_269_ok : ct_ok wd_fl kh_269 := ct_of (ff := wd_ff) (y := (⟨"UtilityWorksModel", "wRoom", "(I)I"⟩, prog_14_method_117_code, 2, some .int, 12, 1, 1, 34185, 34184, 11012, 21014)) (Cs := [kh_268]) (an := []) (ss := []) (K := 1) (fuel := 4000) wd_fl_ok rfl (List.forall_mem_cons.mpr ⟨kh_268_ok, (List.forall_mem_nil _)⟩) (by decide +kernel)
/- UtilityWorksModel low -/
def kh_270 : ct_T := (363, [(0, 0, 11, 1)], [], [], [(1, (0, 0, 10, 1), [(0, 0, 11, 1)], [], ([], []))], [], 0, 0, 0)
theorem kh_270_ok : ct_ok wd_fl kh_270 := ct_of (ff := wd_ff) (y := (⟨"UtilityWorksModel", "low", "(I)I"⟩, prog_14_method_13_code, 1, some .int, 12, 0, 1, 32230, 32229, 0, 21014)) (Cs := []) (an := []) (ss := []) (K := 1) (fuel := 4000) wd_fl_ok rfl (List.forall_mem_nil _) (by decide +kernel)
/- UtilityWorksModel high -/
def kh_271 : ct_T := (365, [(0, 0, 11, 1)], [], [], [(1, (0, 1, 11, 1), [(0, 0, 11, 1)], [], ([], []))], [], 1, 20, 0)
theorem kh_271_ok : ct_ok wd_fl kh_271 := ct_of (ff := wd_ff) (y := (⟨"UtilityWorksModel", "high", "(I)I"⟩, prog_14_method_14_code, 1, some .int, 12, 0, 1, 32237, 32236, 0, 21014)) (Cs := [kh_238]) (an := []) (ss := []) (K := 1) (fuel := 4000) wd_fl_ok rfl (List.forall_mem_cons.mpr ⟨kh_238_ok, (List.forall_mem_nil _)⟩) (by decide +kernel)
/- UtilityWorksModel wOpen -/
def kh_272 : ct_T := (472, [(2, 805, 805, 0), (0, 0, 11, 1), (0, (-2147483648), 2147483647, 1)], [], [], [(1, (0, 1, 1, 0), [(2, 805, 805, 0), (0, 0, 11, 1), (0, 0, 2147483647, 1)], [], ([], [])), (1, (0, 0, 0, 0), [(2, 805, 805, 0), (0, 0, 11, 1), (0, (-2147483648), 2147483647, 1)], [], ([], []))], [], 4, 88, 0)
theorem kh_272_ok : ct_ok wd_fl kh_272 := ct_of (ff := wd_ff) (y := (⟨"UtilityWorksModel", "wOpen", "(II)Z"⟩, prog_14_method_118_code, 3, some .boolean, 12, 1, 2, 34181, 34180, 11011, 21014)) (Cs := [kh_267, kh_269, kh_270, kh_217, kh_271, kh_219]) (an := [(45, 0, ([((2, 805, 805, 0), none), ((0, 0, 11, 1), none), ((0, (-2147483648), 2147483647, 1), none)], [(0, 0), (1, 1), (2, 2)], [], [], [], [], [], [], none), [(0, 0, 99955)])]) (ss := []) (K := 1) (fuel := 4000) wd_fl_ok rfl (List.forall_mem_cons.mpr ⟨kh_267_ok, (List.forall_mem_cons.mpr ⟨kh_269_ok, (List.forall_mem_cons.mpr ⟨kh_270_ok, (List.forall_mem_cons.mpr ⟨kh_217_ok, (List.forall_mem_cons.mpr ⟨kh_271_ok, (List.forall_mem_cons.mpr ⟨kh_219_ok, (List.forall_mem_nil _)⟩)⟩)⟩)⟩)⟩)⟩) (by decide +kernel)
/- UtilityWorksModel link -/
def kh_273 : ct_T := (357, [(2, 805, 805, 0), (0, 1, 1, 0), (0, 0, 12, 1)], [], [], [(1, (0, 208, 256, 4), [(2, 805, 805, 0), (0, 1, 1, 0), (0, 0, 12, 1)], [], ([], []))], [], 0, 0, 0)
theorem kh_273_ok : ct_ok wd_fl kh_273 := ct_of (ff := wd_ff) (y := (⟨"UtilityWorksModel", "link", "(II)I"⟩, prog_14_method_16_code, 3, some .int, 12, 1, 2, 32207, 32206, 5005, 21014)) (Cs := []) (an := []) (ss := []) (K := 1) (fuel := 4000) wd_fl_ok rfl (List.forall_mem_nil _) (by decide +kernel)
/- UtilityWorksModel hasLink -/
def kh_274 : ct_T := (356, [(2, 805, 805, 0), (0, 1, 1, 0), (0, 0, 12, 1)], [], [], [(1, (0, 0, 0, 0), [(2, 805, 805, 0), (0, 1, 1, 0), (0, 0, 12, 1)], [], ([], [])), (1, (0, 1, 1, 0), [(2, 805, 805, 0), (0, 1, 1, 0), (0, 0, 12, 1)], [], ([], []))], [], 1, 22, 0)
theorem kh_274_ok : ct_ok wd_fl kh_274 := ct_of (ff := wd_ff) (y := (⟨"UtilityWorksModel", "hasLink", "(II)Z"⟩, prog_14_method_17_code, 3, some .boolean, 12, 1, 2, 32203, 32202, 5004, 21014)) (Cs := [kh_273]) (an := []) (ss := []) (K := 1) (fuel := 4000) wd_fl_ok rfl (List.forall_mem_cons.mpr ⟨kh_273_ok, (List.forall_mem_nil _)⟩) (by decide +kernel)
/- UtilityWorksModel isFine -/
def kh_275 : ct_T := (359, [(2, 805, 805, 0), (0, 1, 1, 0), (0, 0, 12, 1)], [], [], [(1, (0, 1, 1, 0), [(2, 805, 805, 0), (0, 1, 1, 0), (0, 0, 12, 1)], [], ([], [])), (1, (0, 0, 0, 0), [(2, 805, 805, 0), (0, 1, 1, 0), (0, 0, 12, 1)], [], ([], []))], [], 2, 44, 0)
theorem kh_275_ok : ct_ok wd_fl kh_275 := ct_of (ff := wd_ff) (y := (⟨"UtilityWorksModel", "isFine", "(II)Z"⟩, prog_14_method_19_code, 3, some .boolean, 12, 1, 2, 32215, 32214, 5007, 21014)) (Cs := [kh_274, kh_273]) (an := [(30, 0, ([((2, 805, 805, 0), none), ((0, 1, 1, 0), none), ((0, 0, 12, 1), none)], [(0, 0), (1, 1), (2, 2)], [], [], [], [], [], [], none), [(0, 0, 99970)])]) (ss := []) (K := 1) (fuel := 4000) wd_fl_ok rfl (List.forall_mem_cons.mpr ⟨kh_274_ok, (List.forall_mem_cons.mpr ⟨kh_273_ok, (List.forall_mem_nil _)⟩)⟩) (by decide +kernel)
/- UtilityWorksModel isOn -/
def kh_276 : ct_T := (360, [(2, 805, 805, 0), (0, 1, 1, 0), (0, 0, 12, 1)], [], [], [(1, (0, 1, 1, 0), [(2, 805, 805, 0), (0, 1, 1, 0), (0, 0, 12, 1)], [], ([], [])), (1, (0, 0, 0, 0), [(2, 805, 805, 0), (0, 1, 1, 0), (0, 0, 12, 1)], [], ([], []))], [], 2, 44, 0)
theorem kh_276_ok : ct_ok wd_fl kh_276 := ct_of (ff := wd_ff) (y := (⟨"UtilityWorksModel", "isOn", "(II)Z"⟩, prog_14_method_20_code, 3, some .boolean, 12, 1, 2, 32219, 32218, 5008, 21014)) (Cs := [kh_274, kh_273]) (an := [(30, 0, ([((2, 805, 805, 0), none), ((0, 1, 1, 0), none), ((0, 0, 12, 1), none)], [(0, 0), (1, 1), (2, 2)], [], [], [], [], [], [], none), [(0, 0, 99970)])]) (ss := []) (K := 1) (fuel := 4000) wd_fl_ok rfl (List.forall_mem_cons.mpr ⟨kh_274_ok, (List.forall_mem_cons.mpr ⟨kh_273_ok, (List.forall_mem_nil _)⟩)⟩) (by decide +kernel)
/- UtilityWorksModel leads -/
def kh_277 : ct_T := (358, [(2, 805, 805, 0), (0, 1, 1, 0), (0, 0, 12, 1)], [], [], [(1, (0, 1, 1, 0), [(2, 805, 805, 0), (0, 1, 1, 0), (0, 0, 12, 1)], [], ([], [])), (1, (0, 0, 0, 0), [(2, 805, 805, 0), (0, 1, 1, 0), (0, 0, 12, 1)], [], ([], []))], [], 3, 66, 0)
theorem kh_277_ok : ct_ok wd_fl kh_277 := ct_of (ff := wd_ff) (y := (⟨"UtilityWorksModel", "leads", "(II)Z"⟩, prog_14_method_21_code, 3, some .boolean, 12, 1, 2, 32211, 32210, 5006, 21014)) (Cs := [kh_275, kh_276]) (an := [(22, 0, ([((2, 805, 805, 0), none), ((0, 1, 1, 0), none), ((0, 0, 12, 1), none)], [(0, 0), (1, 1), (2, 2)], [], [], [], [], [], [], none), [(0, 0, 99978)])]) (ss := []) (K := 1) (fuel := 4000) wd_fl_ok rfl (List.forall_mem_cons.mpr ⟨kh_275_ok, (List.forall_mem_cons.mpr ⟨kh_276_ok, (List.forall_mem_nil _)⟩)⟩) (by decide +kernel)
/- UtilityWorksModel boundOf -/
def kh_278 : ct_T := (367, [(2, 805, 805, 0), (0, 1, 1, 0), (0, 0, 12, 1)], [], [], [(1, (0, 0, 999, 1), [(2, 805, 805, 0), (0, 1, 1, 0), (0, 0, 12, 1)], [], ([], []))], [], 1, 22, 0)
theorem kh_278_ok : ct_ok wd_fl kh_278 := ct_of (ff := wd_ff) (y := (⟨"UtilityWorksModel", "boundOf", "(II)I"⟩, prog_14_method_18_code, 3, some .int, 12, 1, 2, 33005, 33004, 5011, 21014)) (Cs := [kh_273]) (an := []) (ss := []) (K := 1) (fuel := 4000) wd_fl_ok rfl (List.forall_mem_cons.mpr ⟨kh_273_ok, (List.forall_mem_nil _)⟩) (by decide +kernel)
/- UtilityWorksModel wRoom -/
def kh_279 : ct_T := (473, [(2, 805, 805, 0), (0, 0, 12, 1)], [], [], [(1, (0, (-1998), 999, 1), [(2, 805, 805, 0), (0, 0, 12, 1)], [], ([], []))], [], 2, 44, 0)
theorem kh_279_ok : ct_ok wd_fl kh_279 := ct_of (ff := wd_ff) (y := (⟨"UtilityWorksModel", "wRoom", "(I)I"⟩, prog_14_method_117_code, 2, some .int, 12, 1, 1, 34185, 34184, 11012, 21014)) (Cs := [kh_278]) (an := []) (ss := []) (K := 1) (fuel := 4000) wd_fl_ok rfl (List.forall_mem_cons.mpr ⟨kh_278_ok, (List.forall_mem_nil _)⟩) (by decide +kernel)
/- UtilityWorksModel low -/
def kh_280 : ct_T := (363, [(0, 0, 12, 1)], [], [], [(1, (0, 0, 10, 1), [(0, 0, 12, 1)], [], ([], []))], [], 0, 0, 0)
theorem kh_280_ok : ct_ok wd_fl kh_280 := ct_of (ff := wd_ff) (y := (⟨"UtilityWorksModel", "low", "(I)I"⟩, prog_14_method_13_code, 1, some .int, 12, 0, 1, 32230, 32229, 0, 21014)) (Cs := []) (an := []) (ss := []) (K := 1) (fuel := 4000) wd_fl_ok rfl (List.forall_mem_nil _) (by decide +kernel)
/- UtilityWorksModel high -/
def kh_281 : ct_T := (365, [(0, 0, 12, 1)], [], [], [(1, (0, 1, 11, 1), [(0, 0, 12, 1)], [], ([], []))], [], 1, 20, 0)
theorem kh_281_ok : ct_ok wd_fl kh_281 := ct_of (ff := wd_ff) (y := (⟨"UtilityWorksModel", "high", "(I)I"⟩, prog_14_method_14_code, 1, some .int, 12, 0, 1, 32237, 32236, 0, 21014)) (Cs := [kh_238]) (an := []) (ss := []) (K := 1) (fuel := 4000) wd_fl_ok rfl (List.forall_mem_cons.mpr ⟨kh_238_ok, (List.forall_mem_nil _)⟩) (by decide +kernel)
/- UtilityWorksModel wOpen -/
def kh_282 : ct_T := (472, [(2, 805, 805, 0), (0, 0, 12, 1), (0, (-2147483648), 2147483647, 1)], [], [], [(1, (0, 1, 1, 0), [(2, 805, 805, 0), (0, 0, 12, 1), (0, 0, 2147483647, 1)], [], ([], [])), (1, (0, 0, 0, 0), [(2, 805, 805, 0), (0, 0, 12, 1), (0, (-2147483648), 2147483647, 1)], [], ([], []))], [], 4, 88, 0)
theorem kh_282_ok : ct_ok wd_fl kh_282 := ct_of (ff := wd_ff) (y := (⟨"UtilityWorksModel", "wOpen", "(II)Z"⟩, prog_14_method_118_code, 3, some .boolean, 12, 1, 2, 34181, 34180, 11011, 21014)) (Cs := [kh_277, kh_279, kh_280, kh_217, kh_281, kh_219]) (an := [(45, 0, ([((2, 805, 805, 0), none), ((0, 0, 12, 1), none), ((0, (-2147483648), 2147483647, 1), none)], [(0, 0), (1, 1), (2, 2)], [], [], [], [], [], [], none), [(0, 0, 99955)])]) (ss := []) (K := 1) (fuel := 4000) wd_fl_ok rfl (List.forall_mem_cons.mpr ⟨kh_277_ok, (List.forall_mem_cons.mpr ⟨kh_279_ok, (List.forall_mem_cons.mpr ⟨kh_280_ok, (List.forall_mem_cons.mpr ⟨kh_217_ok, (List.forall_mem_cons.mpr ⟨kh_281_ok, (List.forall_mem_cons.mpr ⟨kh_219_ok, (List.forall_mem_nil _)⟩)⟩)⟩)⟩)⟩)⟩) (by decide +kernel)
/- UtilityWorksModel link -/
def kh_283 : ct_T := (357, [(2, 805, 805, 0), (0, 1, 1, 0), (0, 0, 16, 1)], [], [], [(1, (0, 208, 272, 4), [(2, 805, 805, 0), (0, 1, 1, 0), (0, 0, 16, 1)], [], ([], []))], [], 0, 0, 0)
theorem kh_283_ok : ct_ok wd_fl kh_283 := ct_of (ff := wd_ff) (y := (⟨"UtilityWorksModel", "link", "(II)I"⟩, prog_14_method_16_code, 3, some .int, 12, 1, 2, 32207, 32206, 5005, 21014)) (Cs := []) (an := []) (ss := []) (K := 1) (fuel := 4000) wd_fl_ok rfl (List.forall_mem_nil _) (by decide +kernel)
/- UtilityWorksModel hasLink -/
def kh_284 : ct_T := (356, [(2, 805, 805, 0), (0, 1, 1, 0), (0, 0, 16, 1)], [], [], [(1, (0, 0, 0, 0), [(2, 805, 805, 0), (0, 1, 1, 0), (0, 0, 16, 1)], [], ([], [])), (1, (0, 1, 1, 0), [(2, 805, 805, 0), (0, 1, 1, 0), (0, 0, 16, 1)], [], ([], []))], [], 1, 22, 0)
theorem kh_284_ok : ct_ok wd_fl kh_284 := ct_of (ff := wd_ff) (y := (⟨"UtilityWorksModel", "hasLink", "(II)Z"⟩, prog_14_method_17_code, 3, some .boolean, 12, 1, 2, 32203, 32202, 5004, 21014)) (Cs := [kh_283]) (an := []) (ss := []) (K := 1) (fuel := 4000) wd_fl_ok rfl (List.forall_mem_cons.mpr ⟨kh_283_ok, (List.forall_mem_nil _)⟩) (by decide +kernel)
/- UtilityWorksModel isFine -/
def kh_285 : ct_T := (359, [(2, 805, 805, 0), (0, 1, 1, 0), (0, 0, 16, 1)], [], [], [(1, (0, 1, 1, 0), [(2, 805, 805, 0), (0, 1, 1, 0), (0, 0, 16, 1)], [], ([], [])), (1, (0, 0, 0, 0), [(2, 805, 805, 0), (0, 1, 1, 0), (0, 0, 16, 1)], [], ([], []))], [], 2, 44, 0)
theorem kh_285_ok : ct_ok wd_fl kh_285 := ct_of (ff := wd_ff) (y := (⟨"UtilityWorksModel", "isFine", "(II)Z"⟩, prog_14_method_19_code, 3, some .boolean, 12, 1, 2, 32215, 32214, 5007, 21014)) (Cs := [kh_284, kh_283]) (an := [(30, 0, ([((2, 805, 805, 0), none), ((0, 1, 1, 0), none), ((0, 0, 16, 1), none)], [(0, 0), (1, 1), (2, 2)], [], [], [], [], [], [], none), [(0, 0, 99970)])]) (ss := []) (K := 1) (fuel := 4000) wd_fl_ok rfl (List.forall_mem_cons.mpr ⟨kh_284_ok, (List.forall_mem_cons.mpr ⟨kh_283_ok, (List.forall_mem_nil _)⟩)⟩) (by decide +kernel)
/- UtilityWorksModel isOn -/
def kh_286 : ct_T := (360, [(2, 805, 805, 0), (0, 1, 1, 0), (0, 0, 16, 1)], [], [], [(1, (0, 1, 1, 0), [(2, 805, 805, 0), (0, 1, 1, 0), (0, 0, 16, 1)], [], ([], [])), (1, (0, 0, 0, 0), [(2, 805, 805, 0), (0, 1, 1, 0), (0, 0, 16, 1)], [], ([], []))], [], 2, 44, 0)
theorem kh_286_ok : ct_ok wd_fl kh_286 := ct_of (ff := wd_ff) (y := (⟨"UtilityWorksModel", "isOn", "(II)Z"⟩, prog_14_method_20_code, 3, some .boolean, 12, 1, 2, 32219, 32218, 5008, 21014)) (Cs := [kh_284, kh_283]) (an := [(30, 0, ([((2, 805, 805, 0), none), ((0, 1, 1, 0), none), ((0, 0, 16, 1), none)], [(0, 0), (1, 1), (2, 2)], [], [], [], [], [], [], none), [(0, 0, 99970)])]) (ss := []) (K := 1) (fuel := 4000) wd_fl_ok rfl (List.forall_mem_cons.mpr ⟨kh_284_ok, (List.forall_mem_cons.mpr ⟨kh_283_ok, (List.forall_mem_nil _)⟩)⟩) (by decide +kernel)
/- UtilityWorksModel leads -/
def kh_287 : ct_T := (358, [(2, 805, 805, 0), (0, 1, 1, 0), (0, 0, 16, 1)], [], [], [(1, (0, 1, 1, 0), [(2, 805, 805, 0), (0, 1, 1, 0), (0, 0, 16, 1)], [], ([], [])), (1, (0, 0, 0, 0), [(2, 805, 805, 0), (0, 1, 1, 0), (0, 0, 16, 1)], [], ([], []))], [], 3, 66, 0)
theorem kh_287_ok : ct_ok wd_fl kh_287 := ct_of (ff := wd_ff) (y := (⟨"UtilityWorksModel", "leads", "(II)Z"⟩, prog_14_method_21_code, 3, some .boolean, 12, 1, 2, 32211, 32210, 5006, 21014)) (Cs := [kh_285, kh_286]) (an := [(22, 0, ([((2, 805, 805, 0), none), ((0, 1, 1, 0), none), ((0, 0, 16, 1), none)], [(0, 0), (1, 1), (2, 2)], [], [], [], [], [], [], none), [(0, 0, 99978)])]) (ss := []) (K := 1) (fuel := 4000) wd_fl_ok rfl (List.forall_mem_cons.mpr ⟨kh_285_ok, (List.forall_mem_cons.mpr ⟨kh_286_ok, (List.forall_mem_nil _)⟩)⟩) (by decide +kernel)
/- UtilityWorksModel boundOf -/
def kh_288 : ct_T := (367, [(2, 805, 805, 0), (0, 1, 1, 0), (0, 0, 16, 1)], [], [], [(1, (0, 0, 999, 1), [(2, 805, 805, 0), (0, 1, 1, 0), (0, 0, 16, 1)], [], ([], []))], [], 1, 22, 0)
theorem kh_288_ok : ct_ok wd_fl kh_288 := ct_of (ff := wd_ff) (y := (⟨"UtilityWorksModel", "boundOf", "(II)I"⟩, prog_14_method_18_code, 3, some .int, 12, 1, 2, 33005, 33004, 5011, 21014)) (Cs := [kh_283]) (an := []) (ss := []) (K := 1) (fuel := 4000) wd_fl_ok rfl (List.forall_mem_cons.mpr ⟨kh_283_ok, (List.forall_mem_nil _)⟩) (by decide +kernel)
/- UtilityWorksModel wRoom -/
def kh_289 : ct_T := (473, [(2, 805, 805, 0), (0, 0, 16, 1)], [], [], [(1, (0, (-1998), 999, 1), [(2, 805, 805, 0), (0, 0, 16, 1)], [], ([], []))], [], 2, 44, 0)
theorem kh_289_ok : ct_ok wd_fl kh_289 := ct_of (ff := wd_ff) (y := (⟨"UtilityWorksModel", "wRoom", "(I)I"⟩, prog_14_method_117_code, 2, some .int, 12, 1, 1, 34185, 34184, 11012, 21014)) (Cs := [kh_288]) (an := []) (ss := []) (K := 1) (fuel := 4000) wd_fl_ok rfl (List.forall_mem_cons.mpr ⟨kh_288_ok, (List.forall_mem_nil _)⟩) (by decide +kernel)
/- UtilityWorksModel low -/
def kh_290 : ct_T := (363, [(0, 0, 16, 1)], [], [], [(1, (0, 0, 10, 1), [(0, 0, 16, 1)], [], ([], []))], [], 0, 0, 0)
theorem kh_290_ok : ct_ok wd_fl kh_290 := ct_of (ff := wd_ff) (y := (⟨"UtilityWorksModel", "low", "(I)I"⟩, prog_14_method_13_code, 1, some .int, 12, 0, 1, 32230, 32229, 0, 21014)) (Cs := []) (an := []) (ss := []) (K := 1) (fuel := 4000) wd_fl_ok rfl (List.forall_mem_nil _) (by decide +kernel)
/- UtilityWorksModel high -/
def kh_291 : ct_T := (365, [(0, 0, 16, 1)], [], [], [(1, (0, 1, 11, 1), [(0, 0, 16, 1)], [], ([], []))], [], 1, 20, 0)
theorem kh_291_ok : ct_ok wd_fl kh_291 := ct_of (ff := wd_ff) (y := (⟨"UtilityWorksModel", "high", "(I)I"⟩, prog_14_method_14_code, 1, some .int, 12, 0, 1, 32237, 32236, 0, 21014)) (Cs := [kh_238]) (an := []) (ss := []) (K := 1) (fuel := 4000) wd_fl_ok rfl (List.forall_mem_cons.mpr ⟨kh_238_ok, (List.forall_mem_nil _)⟩) (by decide +kernel)
/- UtilityWorksModel wOpen -/
def kh_292 : ct_T := (472, [(2, 805, 805, 0), (0, 0, 16, 1), (0, (-2147483648), 2147483647, 1)], [], [], [(1, (0, 1, 1, 0), [(2, 805, 805, 0), (0, 0, 16, 1), (0, 0, 2147483647, 1)], [], ([], [])), (1, (0, 0, 0, 0), [(2, 805, 805, 0), (0, 0, 16, 1), (0, (-2147483648), 2147483647, 1)], [], ([], []))], [], 4, 88, 0)
theorem kh_292_ok : ct_ok wd_fl kh_292 := ct_of (ff := wd_ff) (y := (⟨"UtilityWorksModel", "wOpen", "(II)Z"⟩, prog_14_method_118_code, 3, some .boolean, 12, 1, 2, 34181, 34180, 11011, 21014)) (Cs := [kh_287, kh_289, kh_290, kh_217, kh_291, kh_219]) (an := [(45, 0, ([((2, 805, 805, 0), none), ((0, 0, 16, 1), none), ((0, (-2147483648), 2147483647, 1), none)], [(0, 0), (1, 1), (2, 2)], [], [], [], [], [], [], none), [(0, 0, 99955)])]) (ss := []) (K := 1) (fuel := 4000) wd_fl_ok rfl (List.forall_mem_cons.mpr ⟨kh_287_ok, (List.forall_mem_cons.mpr ⟨kh_289_ok, (List.forall_mem_cons.mpr ⟨kh_290_ok, (List.forall_mem_cons.mpr ⟨kh_217_ok, (List.forall_mem_cons.mpr ⟨kh_291_ok, (List.forall_mem_cons.mpr ⟨kh_219_ok, (List.forall_mem_nil _)⟩)⟩)⟩)⟩)⟩)⟩) (by decide +kernel)
abbrev kh_wReach_y : mt_T := (⟨"UtilityWorksModel", "wReach", "(II)V"⟩, prog_14_method_119_code, 7, none, 12, 1, 2, 34177, 34176, 11010, 21014)
def kh_wReach : ct_T := (471, [(2, 805, 805, 0), (0, 0, 11, 1), (0, (-2147483648), 2147483647, 1)], [], [], [(0, (0, 0, 0, 0), [(2, 805, 805, 0), (0, 0, 11, 1), (0, (-2147483648), 2147483647, 1)], [], ([], []))], [((840, 840), (0, 11, 1))], 5, 110, 0)
def kh_wReach_a58 : an_T := (58, 0, ([((2, 805, 805, 0), none), ((0, 0, 11, 1), none), ((0, (-2147483648), 2147483647, 1), none), ((0, 0, 1, 1), none)], [(0, 0), (1, 1), (2, 2), (3, 3)], [], [], [], [], [], [], none), [])
def kh_wReach_a67 : an_T := (67, 0, ([((2, 805, 805, 0), none), ((0, 0, 11, 1), none), ((0, (-2147483648), 2147483647, 1), none), ((0, 0, 1, 1), none), ((0, 0, 17, 1), none)], [(0, 0), (1, 1), (2, 2), (3, 3), (4, 4)], [], [], [], [], [], [], none), [])
def kh_wReach_a2 : an_T := (2, 0, ([((2, 805, 805, 0), none), ((0, 0, 11, 1), none), ((0, (-2147483648), 2147483647, 1), none), ((0, 0, 12, 1), none)], [(0, 0), (1, 1), (2, 2), (3, 3)], [], [], [], [], [], [], none), [(1, 3, 13)])
def kh_wReach_b67_0 : sg_T := (58, 0, ([((2, 805, 805, 0), none), ((0, 0, 11, 1), none), ((0, (-2147483648), 2147483647, 1), none), ((0, 0, 1, 1), none), ((0, 17, 17, 1), none), ((0, 17, 17, 0), none)], [(0, 0), (1, 1), (2, 2), (3, 3), (4, 4)], [], [], [], [(200000, 5, 4)], [], [], some []))
def kh_wReach_b67_1 : sg_T := (67, 0, ([((2, 805, 805, 0), none), ((0, 0, 11, 1), none), ((0, 0, 2147483647, 1), none), ((0, 0, 1, 1), none), ((0, 0, 16, 1), none), ((0, 17, 17, 0), none), ((2, 840, 840, 1), none), ((0, 0, 10, 1), none), ((0, 1, 97, 1), none), ((2, 840, 840, 1), none), ((0, 1, 11, 1), none), ((0, 2, 98, 1), none), ((0, 1, 1, 0), none), ((0, 1, 98, 1), some (8, 1)), ((0, 1, 1, 0), none), ((2, 840, 840, 1), none), ((0, 0, 10, 1), none), ((0, 1, 1, 0), none), ((0, 3, 100, 1), some (11, 1)), ((2, 840, 840, 1), none), ((0, 1, 11, 1), none), ((0, 1, 1, 0), none), ((0, 2, 98, 1), some (8, 1)), ((0, 1, 1, 0), none), ((0, 1, 17, 1), some (4, 1))], [(4, 24), (3, 23), (6, 11), (5, 8), (0, 0), (1, 1), (2, 2)], [], [(19, 20, 11)], [(14, 0)], [(200000, 11, 22), (500022, 8, 21), (1100020, 4, 4), (200000, 8, 18), (500018, 11, 17), (1000016, 4, 4), (100000, 13, 11), (500013, 8, 12), (800011, 9, 10), (1100010, 4, 4), (800008, 6, 7), (1000007, 4, 4), (100000, 4, 5)], [], [], some [(19, 20, 11), (15, 16, 8)]))
def kh_wReach_b67_2 : sg_T := (67, 0, ([((2, 805, 805, 0), none), ((0, 0, 11, 1), none), ((0, 0, 2147483647, 1), none), ((0, 0, 1, 1), none), ((0, 0, 16, 1), none), ((0, 17, 17, 0), none), ((2, 840, 840, 1), none), ((0, 0, 10, 1), none), ((0, 0, 97, 1), none), ((2, 840, 840, 1), none), ((0, 1, 11, 1), none), ((0, 2, 99, 1), none), ((0, 1, 1, 0), none), ((0, 1, 98, 1), some (8, 1)), ((0, 1, 1, 0), none), ((2, 840, 840, 1), none), ((0, 0, 10, 1), none), ((0, 1, 1, 0), none), ((0, 3, 100, 1), some (11, 1)), ((2, 840, 840, 1), none), ((0, 1, 11, 1), none), ((0, 1, 1, 0), none), ((0, 1, 98, 1), some (8, 1)), ((0, 1, 1, 0), none), ((0, 1, 98, 1), some (8, 1)), ((0, 1, 1, 0), none), ((0, 1, 17, 1), some (4, 1))], [(4, 26), (3, 25), (6, 11), (5, 8), (0, 0), (1, 1), (2, 2)], [], [(19, 20, 24)], [(14, 0)], [(500024, 8, 23), (100000, 22, 11), (500022, 8, 21), (1100020, 4, 4), (200000, 8, 18), (500018, 11, 17), (1000016, 4, 4), (100000, 13, 11), (500013, 8, 12), (800011, 9, 10), (1100010, 4, 4), (800008, 6, 7), (1000007, 4, 4), (100000, 4, 5)], [], [], some [(19, 20, 24), (15, 16, 8)]))
def kh_wReach_b67_3 : sg_T := (67, 0, ([((2, 805, 805, 0), none), ((0, 0, 11, 1), none), ((0, 0, 2147483647, 1), none), ((0, 0, 1, 1), none), ((0, 0, 16, 1), none), ((0, 17, 17, 0), none), ((2, 840, 840, 1), none), ((0, 0, 10, 1), none), ((0, 4, 97, 1), none), ((2, 840, 840, 1), none), ((0, 1, 11, 1), none), ((0, 2, 95, 1), none), ((0, 1, 1, 0), none), ((0, 1, 98, 1), some (8, 1)), ((0, 1, 1, 0), none), ((2, 840, 840, 1), none), ((0, 0, 10, 1), none), ((0, 1, 1, 0), none), ((0, 3, 96, 1), some (11, 1)), ((0, 1, 1, 0), none), ((0, 3, 96, 1), some (11, 1)), ((2, 840, 840, 1), none), ((0, 1, 11, 1), none), ((0, 1, 1, 0), none), ((0, 5, 98, 1), some (8, 1)), ((0, 1, 1, 0), none), ((0, 1, 17, 1), some (4, 1))], [(4, 26), (3, 25), (6, 11), (5, 8), (0, 0), (1, 1), (2, 2)], [], [(21, 22, 11)], [(14, 0)], [(200000, 11, 24), (500024, 8, 23), (1100022, 4, 4), (500020, 11, 19), (100000, 18, 8), (500018, 11, 17), (1000016, 4, 4), (100000, 13, 11), (500013, 8, 12), (800011, 9, 10), (1100010, 4, 4), (800008, 6, 7), (1000007, 4, 4), (100000, 4, 5)], [], [], some [(21, 22, 11), (15, 16, 20)]))
def kh_wReach_b67_4 : sg_T := (67, 0, ([((2, 805, 805, 0), none), ((0, 0, 11, 1), none), ((0, 0, 2147483647, 1), none), ((0, 0, 1, 1), none), ((0, 0, 16, 1), none), ((0, 17, 17, 0), none), ((2, 840, 840, 1), none), ((0, 0, 10, 1), none), ((0, 4, 93, 1), none), ((2, 840, 840, 1), none), ((0, 1, 11, 1), none), ((0, 6, 95, 1), none), ((0, 1, 1, 0), none), ((0, 1, 98, 1), some (8, 1)), ((0, 1, 1, 0), none), ((2, 840, 840, 1), none), ((0, 0, 10, 1), none), ((0, 1, 1, 0), none), ((0, 3, 96, 1), some (11, 1)), ((0, 1, 1, 0), none), ((0, 3, 96, 1), some (11, 1)), ((2, 840, 840, 1), none), ((0, 1, 11, 1), none), ((0, 1, 1, 0), none), ((0, 5, 94, 1), some (8, 1)), ((0, 1, 1, 0), none), ((0, 5, 94, 1), some (8, 1)), ((0, 1, 1, 0), none), ((0, 1, 17, 1), some (4, 1))], [(4, 28), (3, 27), (6, 11), (5, 8), (0, 0), (1, 1), (2, 2)], [], [(21, 22, 26)], [(14, 0)], [(500026, 8, 25), (100000, 24, 11), (500024, 8, 23), (1100022, 4, 4), (500020, 11, 19), (100000, 18, 8), (500018, 11, 17), (1000016, 4, 4), (100000, 13, 11), (500013, 8, 12), (800011, 9, 10), (1100010, 4, 4), (800008, 6, 7), (1000007, 4, 4), (100000, 4, 5)], [], [], some [(21, 22, 26), (15, 16, 20)]))
def kh_wReach_b67_5 : sg_T := (67, 0, ([((2, 805, 805, 0), none), ((0, 0, 11, 1), none), ((0, (-2147483648), 2147483647, 1), none), ((0, 0, 1, 1), none), ((0, 0, 16, 1), none), ((0, 17, 17, 0), none), ((2, 840, 840, 1), none), ((0, 0, 10, 1), none), ((0, 0, 97, 1), none), ((2, 840, 840, 1), none), ((0, 1, 11, 1), none), ((0, 2, 99, 1), none), ((0, 1, 1, 0), none), ((0, 1, 98, 1), some (8, 1)), ((0, 0, 0, 0), none), ((0, 1, 17, 1), some (4, 1))], [(4, 15), (6, 11), (5, 8), (0, 0), (1, 1), (2, 2), (3, 3)], [], [(9, 10, 11), (6, 7, 8)], [], [(100000, 13, 11), (500013, 8, 12), (800011, 9, 10), (1100010, 4, 4), (800008, 6, 7), (1000007, 4, 4), (100000, 4, 5)], [], [], some []))
def kh_wReach_b67_6 : sg_T := (67, 0, ([((2, 805, 805, 0), none), ((0, 0, 11, 1), none), ((0, (-2147483648), 2147483647, 1), none), ((0, 0, 1, 1), none), ((0, 0, 16, 1), none), ((0, 17, 17, 0), none), ((2, 840, 840, 1), none), ((0, 0, 10, 1), none), ((0, 0, 99, 1), none), ((2, 840, 840, 1), none), ((0, 1, 11, 1), none), ((0, 0, 99, 1), none), ((0, 1, 1, 0), none), ((0, 1, 100, 1), some (8, 1)), ((0, 1, 1, 0), none), ((0, 1, 100, 1), some (11, 1)), ((0, 1, 17, 1), some (4, 1))], [(4, 16), (6, 11), (5, 8), (0, 0), (1, 1), (2, 2), (3, 3)], [], [(9, 10, 11), (6, 7, 8)], [], [(200000, 8, 15), (500015, 11, 14), (200000, 11, 13), (500013, 8, 12), (800011, 9, 10), (1100010, 4, 4), (800008, 6, 7), (1000007, 4, 4), (100000, 4, 5)], [], [], some []))
def kh_wReach_b67_7 : sg_T := (67, 0, ([((2, 805, 805, 0), none), ((0, 0, 11, 1), none), ((0, 0, 2147483647, 1), none), ((0, 0, 1, 1), none), ((0, 0, 16, 1), none), ((0, 17, 17, 0), none), ((2, 840, 840, 1), none), ((0, 0, 10, 1), none), ((0, 2, 98, 1), none), ((2, 840, 840, 1), none), ((0, 1, 11, 1), none), ((0, 1, 97, 1), none), ((0, 1, 1, 0), none), ((0, 1, 100, 1), some (8, 1)), ((0, 1, 1, 0), none), ((0, 1, 98, 1), some (11, 1)), ((0, 1, 1, 0), none), ((2, 840, 840, 1), none), ((0, 0, 10, 1), none), ((0, 1, 1, 0), none), ((0, 2, 98, 1), some (11, 1)), ((2, 840, 840, 1), none), ((0, 1, 11, 1), none), ((0, 1, 1, 0), none), ((0, 3, 99, 1), some (8, 1)), ((0, 1, 1, 0), none), ((0, 1, 17, 1), some (4, 1))], [(4, 26), (3, 25), (6, 11), (5, 8), (0, 0), (1, 1), (2, 2)], [], [(21, 22, 11)], [(16, 0)], [(200000, 11, 24), (500024, 8, 23), (1100022, 4, 4), (200000, 8, 20), (500020, 11, 19), (1000018, 4, 4), (100000, 15, 8), (500015, 11, 14), (200000, 11, 13), (500013, 8, 12), (800011, 9, 10), (1100010, 4, 4), (800008, 6, 7), (1000007, 4, 4), (100000, 4, 5)], [], [], some [(21, 22, 11), (17, 18, 8)]))
def kh_wReach_b67_8 : sg_T := (67, 0, ([((2, 805, 805, 0), none), ((0, 0, 11, 1), none), ((0, 0, 2147483647, 1), none), ((0, 0, 1, 1), none), ((0, 0, 16, 1), none), ((0, 17, 17, 0), none), ((2, 840, 840, 1), none), ((0, 0, 10, 1), none), ((0, 2, 95, 1), none), ((2, 840, 840, 1), none), ((0, 1, 11, 1), none), ((0, 4, 97, 1), none), ((0, 1, 1, 0), none), ((0, 1, 100, 1), some (8, 1)), ((0, 1, 1, 0), none), ((0, 1, 98, 1), some (11, 1)), ((0, 1, 1, 0), none), ((2, 840, 840, 1), none), ((0, 0, 10, 1), none), ((0, 1, 1, 0), none), ((0, 2, 98, 1), some (11, 1)), ((2, 840, 840, 1), none), ((0, 1, 11, 1), none), ((0, 1, 1, 0), none), ((0, 3, 96, 1), some (8, 1)), ((0, 1, 1, 0), none), ((0, 3, 96, 1), some (8, 1)), ((0, 1, 1, 0), none), ((0, 1, 17, 1), some (4, 1))], [(4, 28), (3, 27), (6, 11), (5, 8), (0, 0), (1, 1), (2, 2)], [], [(21, 22, 26)], [(16, 0)], [(500026, 8, 25), (100000, 24, 11), (500024, 8, 23), (1100022, 4, 4), (200000, 8, 20), (500020, 11, 19), (1000018, 4, 4), (100000, 15, 8), (500015, 11, 14), (200000, 11, 13), (500013, 8, 12), (800011, 9, 10), (1100010, 4, 4), (800008, 6, 7), (1000007, 4, 4), (100000, 4, 5)], [], [], some [(21, 22, 26), (17, 18, 8)]))
def kh_wReach_b67_9 : sg_T := (67, 0, ([((2, 805, 805, 0), none), ((0, 0, 11, 1), none), ((0, 0, 2147483647, 1), none), ((0, 0, 1, 1), none), ((0, 0, 16, 1), none), ((0, 17, 17, 0), none), ((2, 840, 840, 1), none), ((0, 0, 10, 1), none), ((0, 2, 99, 1), none), ((2, 840, 840, 1), none), ((0, 1, 11, 1), none), ((0, 0, 97, 1), none), ((0, 1, 1, 0), none), ((0, 1, 100, 1), some (8, 1)), ((0, 1, 1, 0), none), ((0, 1, 98, 1), some (11, 1)), ((0, 1, 1, 0), none), ((2, 840, 840, 1), none), ((0, 0, 10, 1), none), ((0, 1, 1, 0), none), ((0, 1, 98, 1), some (11, 1)), ((0, 1, 1, 0), none), ((0, 1, 98, 1), some (11, 1)), ((2, 840, 840, 1), none), ((0, 1, 11, 1), none), ((0, 1, 1, 0), none), ((0, 3, 100, 1), some (8, 1)), ((0, 1, 1, 0), none), ((0, 1, 17, 1), some (4, 1))], [(4, 28), (3, 27), (6, 11), (5, 8), (0, 0), (1, 1), (2, 2)], [], [(23, 24, 11)], [(16, 0)], [(200000, 11, 26), (500026, 8, 25), (1100024, 4, 4), (500022, 11, 21), (100000, 20, 8), (500020, 11, 19), (1000018, 4, 4), (100000, 15, 8), (500015, 11, 14), (200000, 11, 13), (500013, 8, 12), (800011, 9, 10), (1100010, 4, 4), (800008, 6, 7), (1000007, 4, 4), (100000, 4, 5)], [], [], some [(23, 24, 11), (17, 18, 22)]))
def kh_wReach_b67_10 : sg_T := (67, 0, ([((2, 805, 805, 0), none), ((0, 0, 11, 1), none), ((0, 0, 2147483647, 1), none), ((0, 0, 1, 1), none), ((0, 0, 16, 1), none), ((0, 17, 17, 0), none), ((2, 840, 840, 1), none), ((0, 0, 10, 1), none), ((0, 2, 95, 1), none), ((2, 840, 840, 1), none), ((0, 1, 11, 1), none), ((0, 4, 97, 1), none), ((0, 1, 1, 0), none), ((0, 1, 100, 1), some (8, 1)), ((0, 1, 1, 0), none), ((0, 1, 98, 1), some (11, 1)), ((0, 1, 1, 0), none), ((2, 840, 840, 1), none), ((0, 0, 10, 1), none), ((0, 1, 1, 0), none), ((0, 1, 98, 1), some (11, 1)), ((0, 1, 1, 0), none), ((0, 1, 98, 1), some (11, 1)), ((2, 840, 840, 1), none), ((0, 1, 11, 1), none), ((0, 1, 1, 0), none), ((0, 3, 96, 1), some (8, 1)), ((0, 1, 1, 0), none), ((0, 3, 96, 1), some (8, 1)), ((0, 1, 1, 0), none), ((0, 1, 17, 1), some (4, 1))], [(4, 30), (3, 29), (6, 11), (5, 8), (0, 0), (1, 1), (2, 2)], [], [(23, 24, 28)], [(16, 0)], [(500028, 8, 27), (100000, 26, 11), (500026, 8, 25), (1100024, 4, 4), (500022, 11, 21), (100000, 20, 8), (500020, 11, 19), (1000018, 4, 4), (100000, 15, 8), (500015, 11, 14), (200000, 11, 13), (500013, 8, 12), (800011, 9, 10), (1100010, 4, 4), (800008, 6, 7), (1000007, 4, 4), (100000, 4, 5)], [], [], some [(23, 24, 28), (17, 18, 22)]))
def kh_wReach_b67_11 : sg_T := (67, 0, ([((2, 805, 805, 0), none), ((0, 0, 11, 1), none), ((0, (-2147483648), 2147483647, 1), none), ((0, 0, 1, 1), none), ((0, 0, 16, 1), none), ((0, 17, 17, 0), none), ((2, 840, 840, 1), none), ((0, 0, 10, 1), none), ((0, 2, 99, 1), none), ((2, 840, 840, 1), none), ((0, 1, 11, 1), none), ((0, 0, 97, 1), none), ((0, 1, 1, 0), none), ((0, 1, 100, 1), some (8, 1)), ((0, 1, 1, 0), none), ((0, 1, 98, 1), some (11, 1)), ((0, 0, 0, 0), none), ((0, 1, 17, 1), some (4, 1))], [(4, 17), (6, 11), (5, 8), (0, 0), (1, 1), (2, 2), (3, 3)], [], [(9, 10, 11), (6, 7, 8)], [], [(100000, 15, 8), (500015, 11, 14), (200000, 11, 13), (500013, 8, 12), (800011, 9, 10), (1100010, 4, 4), (800008, 6, 7), (1000007, 4, 4), (100000, 4, 5)], [], [], some []))
def kh_wReach_e0 : sg_T := (58, 0, ([((2, 805, 805, 0), none), ((0, 0, 11, 1), none), ((0, (-2147483648), 98, 1), none), ((0, 12, 12, 1), none), ((0, 12, 12, 0), none), ((2, 840, 840, 1), none), ((0, 0, 99, 1), none), ((0, 99, 99, 0), none), ((2, 840, 840, 1), none), ((0, 0, 0, 0), none)], [(3, 9), (0, 0), (1, 1), (2, 2)], [], [], [], [], [], [], none))
def kh_wReach_e1 : sg_T := (58, 0, ([((2, 805, 805, 0), none), ((0, 0, 11, 1), none), ((0, 0, 2147483647, 1), none), ((0, 12, 12, 1), none), ((0, 12, 12, 0), none), ((2, 840, 840, 1), none), ((0, 0, 99, 1), none), ((0, 0, 0, 0), none), ((2, 840, 840, 1), none), ((0, 1, 1, 0), none)], [(3, 9), (0, 0), (1, 1), (2, 2)], [], [], [], [], [], [], none))
def kh_wReach_b58_0 : sg_T := (193, 0, ([((2, 805, 805, 0), none), ((0, 0, 11, 1), none), ((0, (-2147483648), 2147483647, 1), none), ((0, 0, 0, 1), none)], [(0, 0), (1, 1), (2, 2), (3, 3)], [], [], [], [], [], [], some []))
def kh_wReach_b58_1 : sg_T := (67, 0, ([((2, 805, 805, 0), none), ((0, 0, 11, 1), none), ((0, (-2147483648), 2147483647, 1), none), ((0, 1, 1, 1), none), ((0, 0, 0, 0), none), ((0, 0, 0, 0), none)], [(4, 5), (3, 4), (0, 0), (1, 1), (2, 2)], [], [], [(3, 0)], [], [], [], some []))
theorem kh_wReach_ok : ct_ok wd_fl kh_wReach := ct_hand (ff := wd_ff) (y := kh_wReach_y) (Cs := [kh_140, kh_low, kh_high, kh_152, kh_164, kh_176, kh_188, kh_198, kh_208, kh_220, kh_230, kh_240, kh_252, kh_262, kh_272, kh_282, kh_292]) wd_fl_ok rfl (List.forall_mem_cons.mpr ⟨kh_140_ok, (List.forall_mem_cons.mpr ⟨kh_low_ok, (List.forall_mem_cons.mpr ⟨kh_high_ok, (List.forall_mem_cons.mpr ⟨kh_152_ok, (List.forall_mem_cons.mpr ⟨kh_164_ok, (List.forall_mem_cons.mpr ⟨kh_176_ok, (List.forall_mem_cons.mpr ⟨kh_188_ok, (List.forall_mem_cons.mpr ⟨kh_198_ok, (List.forall_mem_cons.mpr ⟨kh_208_ok, (List.forall_mem_cons.mpr ⟨kh_220_ok, (List.forall_mem_cons.mpr ⟨kh_230_ok, (List.forall_mem_cons.mpr ⟨kh_240_ok, (List.forall_mem_cons.mpr ⟨kh_252_ok, (List.forall_mem_cons.mpr ⟨kh_262_ok, (List.forall_mem_cons.mpr ⟨kh_272_ok, (List.forall_mem_cons.mpr ⟨kh_282_ok, (List.forall_mem_cons.mpr ⟨kh_292_ok, (List.forall_mem_nil _)⟩)⟩)⟩)⟩)⟩)⟩)⟩)⟩)⟩)⟩)⟩)⟩)⟩)⟩)⟩)⟩)⟩) (by decide +kernel) (fun l D tc ad kd N sm xs S p e s m args below meth c sz lv G H0 => by
  have hx : xs.length = 3 := by rw [H0.2.1.1]; rfl
  have hbd : ∀ (α : List av_X) (A : as_T) (lv : List (Nat × Value)) (st : List Value) (S1 : fw_S), as_in ad sm wd_fl xs S kh_wReach.2.2.2.2.2.1 α A lv st S1 → q_rg A ((840, 840), (0, 11, 1), (0, 0, 99, 1)) = true → 0 ≤ sm_S (S1.1 840) 12 ∧ sm_S (S1.1 840) 12 ≤ 1188 := by
    intro α A lv st S1 H hq
    have h1 := q_rg_in hq H
    have := sm_bd (f := S1.1 840) (lo := 0) (hi := 99) (n := 12) (fun j hj => rg_bd h1 (by omega))
    omega
  have hX : ∀ (α : List av_X) (lv : List (Nat × Value)) (S1 : fw_S), as_in ad sm wd_fl xs S kh_wReach.2.2.2.2.2.1 α kh_wReach_a58.2.2.1 lv [] S1 → nv α 3 = 0 → hd_W wd_fl kh_wReach kh_wReach_y l D tc ad kd N sm xs S p e s m args below meth c sz 58 lv [] S1 0 := by
    intro α lv S1 H h0
    have hg := (en_nv (i := 3) H.2.1 rfl).1
    rw [h0] at hg
    exact hd_run G (ss := []) (A := ([((2, 805, 805, 0), none), ((0, 0, 11, 1), none), ((0, (-2147483648), 2147483647, 1), none), ((0, 0, 0, 0), none)], [(0, 0), (1, 1), (2, 2), (3, 3)], [], [], [], [], [], [], none)) (fuel := 20) (by decide +kernel) (as_set (i := 3) (q := ((0, 0, 1, 1), none)) (a := (0, 0, 0, 0)) H hg rfl ⟨rfl, ⟨by decide, by decide⟩, Int.le_refl _, Int.le_refl _, Int.dvd_refl _⟩)
  have hW : ∀ (k : Nat) (α : List av_X) (lv : List (Nat × Value)) (S1 : fw_S), as_in ad sm wd_fl xs S kh_wReach.2.2.2.2.2.1 α kh_wReach_a58.2.2.1 lv [] S1 → (sm_S (S1.1 840) 12).toNat < k → hd_W wd_fl kh_wReach kh_wReach_y l D tc ad kd N sm xs S p e s m args below meth c sz 58 lv [] S1 0 := by
    intro k
    induction k with
    | zero => intro α lv S1 _ h; omega
    | succ k ih =>
    intro α lv S1 H hk
    have hI : ∀ (j : Nat) (α : List av_X) (lv : List (Nat × Value)) (S2 : fw_S), as_in ad sm wd_fl xs S kh_wReach.2.2.2.2.2.1 α kh_wReach_a67.2.2.1 lv [] S2 → sm_S (S2.1 840) 12 ≤ sm_S (S1.1 840) 12 → (nv α 3 = 0 ∨ sm_S (S2.1 840) 12 < sm_S (S1.1 840) 12) → (17 - nv α 4).toNat < j → hd_W wd_fl kh_wReach kh_wReach_y l D tc ad kd N sm xs S p e s m args below meth c sz 67 lv [] S2 0 := by
      intro j
      induction j with
      | zero => intro α lv S2 _ _ _ h; omega
      | succ j ihj =>
      intro α lv S2 H2 hR hg hj
      obtain ⟨α1, hle, Hr⟩ := as_rec_in (pl := []) rfl H2
      have hf := H2.2.2.2.2.2.2.2.2.2.2.1
      have hl1 : α1.length = 5 := by rw [Hr.2.1.1]; rfl
      have hl0 : α.length = 5 := by rw [H2.2.1.1]; rfl
      have hxa : al_le xs α1 := H2.1.trans hle
      refine hd_seg G (na := 5) (fuel := 400) (first := true) (Bs := [kh_wReach_b67_0, kh_wReach_b67_1, kh_wReach_b67_2, kh_wReach_b67_3, kh_wReach_b67_4, kh_wReach_b67_5, kh_wReach_b67_6, kh_wReach_b67_7, kh_wReach_b67_8, kh_wReach_b67_9, kh_wReach_b67_10, kh_wReach_b67_11]) (by decide +kernel) hl1 Hr ?_
      intro q hq β lv' st' S' H1
      simp only [List.mem_cons, List.not_mem_nil, or_false] at hq
      rcases hq with rfl | rfl | rfl | rfl | rfl | rfl | rfl | rfl | rfl | rfl | rfl | rfl
      · have Ha := hd_go (q := kh_wReach_a58) (n := 0) (by decide +kernel) hx H1 hxa hf
        have hst : st' = [] := by
          have := H1.2.2.2.1
          match st', this with
          | [], _ => rfl
          | _ :: _, z => exact z.elim
        subst hst
        have eg : nv α1 3 = nv α 3 := nv_le hle (by omega)
        have et : nv α1 4 = nv α 4 := nv_le hle (by omega)
        have eg1 : nv β 3 = nv α1 3 := nv_le H1.1 (by omega)
        have et1 : nv β 4 = nv α1 4 := nv_le H1.1 (by omega)
        have hb := hbd _ _ _ _ _ H2 (by decide +kernel)
        obtain ⟨f1, f2, f3, f4, f5⟩ := as_fx H1
        simp only [kh_wReach_b67_0, fx_env, fx_c, fx_ne, fx_hf, wl_S, Nat.zero_add, Nat.reduceAdd, Nat.reduceDiv, Nat.reduceMod, List.getElem?_cons_zero, List.getElem?_cons_succ, if_true, and_true, true_and] at f1 f2 f3 f4 f5
        have fe0 : nv β 0 = 805 := by omega
        have fe4 : nv β 4 = 17 := by omega
        have fe5 : nv β 5 = 17 := by omega
        try simp only [fe0, fe4, fe5, Int.reduceToNat] at f2 f3 f4 f5
        rw [f5] at Ha ⊢
        rcases hg with hg | hg
        · exact hX _ _ _ Ha (by rw [nv_mu (v := 3) rfl]; omega)
        · exact ih _ _ _ Ha (by omega)
      · have Ha := hd_go (q := kh_wReach_a67) (n := 0) (by decide +kernel) hx H1 hxa hf
        have hst : st' = [] := by
          have := H1.2.2.2.1
          match st', this with
          | [], _ => rfl
          | _ :: _, z => exact z.elim
        subst hst
        have eg : nv α1 3 = nv α 3 := nv_le hle (by omega)
        have et : nv α1 4 = nv α 4 := nv_le hle (by omega)
        have eg1 : nv β 3 = nv α1 3 := nv_le H1.1 (by omega)
        have et1 : nv β 4 = nv α1 4 := nv_le H1.1 (by omega)
        have hb := hbd _ _ _ _ _ H2 (by decide +kernel)
        obtain ⟨f1, f2, f3, f4, f5⟩ := as_fx H1
        simp only [kh_wReach_b67_1, fx_env, fx_c, fx_ne, fx_hf, wl_S, Nat.zero_add, Nat.reduceAdd, Nat.reduceDiv, Nat.reduceMod, List.getElem?_cons_zero, List.getElem?_cons_succ, if_true, and_true, true_and] at f1 f2 f3 f4 f5
        have fe0 : nv β 0 = 805 := by omega
        have fe5 : nv β 5 = 17 := by omega
        have fe6 : nv β 6 = 840 := by omega
        have fe9 : nv β 9 = 840 := by omega
        have fe12 : nv β 12 = 1 := by omega
        have fe14 : nv β 14 = 1 := by omega
        have fe15 : nv β 15 = 840 := by omega
        have fe17 : nv β 17 = 1 := by omega
        have fe19 : nv β 19 = 840 := by omega
        have fe21 : nv β 21 = 1 := by omega
        have fe23 : nv β 23 = 1 := by omega
        try simp only [fe0, fe5, fe6, fe9, fe12, fe14, fe15, fe17, fe19, fe21, fe23, Int.reduceToNat] at f2 f3 f4 f5
        obtain ⟨c0, c1, c2, c3, c4, c5, c6, c7, c8, c9, c10, c11, c12⟩ := f2
        have oL := old_0 c10 rfl
        have oH := old_0 c8 rfl
        have d5 := c5
        simp only [wd_fl] at d5
        have d11 := c11
        simp only [wd_fl] at d11
        have d2 := c2
        simp only [wd_fl] at d2
        have d9 := c9
        simp only [wd_fl] at d9
        have hlh : lowI (nv β 4) < highI (nv β 4) := by
          have : nv β 4 / 3 ≤ 5 := by omega
          unfold highI lowI; (repeat' split) <;> omega
        have hR2 : sm_S (S'.1 840) 12 < sm_S (S2.1 840) 12 := by
          rw [f5, sm_i (by omega), sm_i (by omega), fw_i_row, if_neg (by omega), i32_of (by omega) (by omega), i32_of (by omega) (by omega)]
          have u1 : nv β 16 = nv β 7 := by omega
          have u2 : nv β 20 = nv β 10 := by omega
          rw [u1, u2, oL, oH]
          omega
        refine ihj _ _ _ Ha (by omega) (Or.inr (by omega)) (by rw [nv_mu (v := 24) rfl]; omega)
      · have Ha := hd_go (q := kh_wReach_a67) (n := 0) (by decide +kernel) hx H1 hxa hf
        have hst : st' = [] := by
          have := H1.2.2.2.1
          match st', this with
          | [], _ => rfl
          | _ :: _, z => exact z.elim
        subst hst
        have eg : nv α1 3 = nv α 3 := nv_le hle (by omega)
        have et : nv α1 4 = nv α 4 := nv_le hle (by omega)
        have eg1 : nv β 3 = nv α1 3 := nv_le H1.1 (by omega)
        have et1 : nv β 4 = nv α1 4 := nv_le H1.1 (by omega)
        have hb := hbd _ _ _ _ _ H2 (by decide +kernel)
        obtain ⟨f1, f2, f3, f4, f5⟩ := as_fx H1
        simp only [kh_wReach_b67_2, fx_env, fx_c, fx_ne, fx_hf, wl_S, Nat.zero_add, Nat.reduceAdd, Nat.reduceDiv, Nat.reduceMod, List.getElem?_cons_zero, List.getElem?_cons_succ, if_true, and_true, true_and] at f1 f2 f3 f4 f5
        have fe0 : nv β 0 = 805 := by omega
        have fe5 : nv β 5 = 17 := by omega
        have fe6 : nv β 6 = 840 := by omega
        have fe9 : nv β 9 = 840 := by omega
        have fe12 : nv β 12 = 1 := by omega
        have fe14 : nv β 14 = 1 := by omega
        have fe15 : nv β 15 = 840 := by omega
        have fe17 : nv β 17 = 1 := by omega
        have fe19 : nv β 19 = 840 := by omega
        have fe21 : nv β 21 = 1 := by omega
        have fe23 : nv β 23 = 1 := by omega
        have fe25 : nv β 25 = 1 := by omega
        try simp only [fe0, fe5, fe6, fe9, fe12, fe14, fe15, fe17, fe19, fe21, fe23, fe25, Int.reduceToNat] at f2 f3 f4 f5
        obtain ⟨c0, c1, c2, c3, c4, c5, c6, c7, c8, c9, c10, c11, c12, c13⟩ := f2
        have oL := old_0 c11 rfl
        have oH := old_0 c9 rfl
        have d6 := c6
        simp only [wd_fl] at d6
        have d12 := c12
        simp only [wd_fl] at d12
        have d3 := c3
        simp only [wd_fl] at d3
        have d10 := c10
        simp only [wd_fl] at d10
        have hlh : lowI (nv β 4) < highI (nv β 4) := by
          have : nv β 4 / 3 ≤ 5 := by omega
          unfold highI lowI; (repeat' split) <;> omega
        have hR2 : sm_S (S'.1 840) 12 < sm_S (S2.1 840) 12 := by
          rw [f5, sm_i (by omega), sm_i (by omega), fw_i_row, if_neg (by omega), i32_of (by omega) (by omega), i32_of (by omega) (by omega)]
          have u1 : nv β 16 = nv β 7 := by omega
          have u2 : nv β 20 = nv β 10 := by omega
          rw [u1, u2, oL, oH]
          omega
        refine ihj _ _ _ Ha (by omega) (Or.inr (by omega)) (by rw [nv_mu (v := 26) rfl]; omega)
      · have Ha := hd_go (q := kh_wReach_a67) (n := 0) (by decide +kernel) hx H1 hxa hf
        have hst : st' = [] := by
          have := H1.2.2.2.1
          match st', this with
          | [], _ => rfl
          | _ :: _, z => exact z.elim
        subst hst
        have eg : nv α1 3 = nv α 3 := nv_le hle (by omega)
        have et : nv α1 4 = nv α 4 := nv_le hle (by omega)
        have eg1 : nv β 3 = nv α1 3 := nv_le H1.1 (by omega)
        have et1 : nv β 4 = nv α1 4 := nv_le H1.1 (by omega)
        have hb := hbd _ _ _ _ _ H2 (by decide +kernel)
        obtain ⟨f1, f2, f3, f4, f5⟩ := as_fx H1
        simp only [kh_wReach_b67_3, fx_env, fx_c, fx_ne, fx_hf, wl_S, Nat.zero_add, Nat.reduceAdd, Nat.reduceDiv, Nat.reduceMod, List.getElem?_cons_zero, List.getElem?_cons_succ, if_true, and_true, true_and] at f1 f2 f3 f4 f5
        have fe0 : nv β 0 = 805 := by omega
        have fe5 : nv β 5 = 17 := by omega
        have fe6 : nv β 6 = 840 := by omega
        have fe9 : nv β 9 = 840 := by omega
        have fe12 : nv β 12 = 1 := by omega
        have fe14 : nv β 14 = 1 := by omega
        have fe15 : nv β 15 = 840 := by omega
        have fe17 : nv β 17 = 1 := by omega
        have fe19 : nv β 19 = 1 := by omega
        have fe21 : nv β 21 = 840 := by omega
        have fe23 : nv β 23 = 1 := by omega
        have fe25 : nv β 25 = 1 := by omega
        try simp only [fe0, fe5, fe6, fe9, fe12, fe14, fe15, fe17, fe19, fe21, fe23, fe25, Int.reduceToNat] at f2 f3 f4 f5
        obtain ⟨c0, c1, c2, c3, c4, c5, c6, c7, c8, c9, c10, c11, c12, c13⟩ := f2
        have oL := old_0 c11 rfl
        have oH := old_0 c9 rfl
        have d6 := c6
        simp only [wd_fl] at d6
        have d12 := c12
        simp only [wd_fl] at d12
        have d2 := c2
        simp only [wd_fl] at d2
        have d10 := c10
        simp only [wd_fl] at d10
        have hlh : lowI (nv β 4) < highI (nv β 4) := by
          have : nv β 4 / 3 ≤ 5 := by omega
          unfold highI lowI; (repeat' split) <;> omega
        have hR2 : sm_S (S'.1 840) 12 < sm_S (S2.1 840) 12 := by
          rw [f5, sm_i (by omega), sm_i (by omega), fw_i_row, if_neg (by omega), i32_of (by omega) (by omega), i32_of (by omega) (by omega)]
          have u1 : nv β 16 = nv β 7 := by omega
          have u2 : nv β 22 = nv β 10 := by omega
          rw [u1, u2, oL, oH]
          omega
        refine ihj _ _ _ Ha (by omega) (Or.inr (by omega)) (by rw [nv_mu (v := 26) rfl]; omega)
      · have Ha := hd_go (q := kh_wReach_a67) (n := 0) (by decide +kernel) hx H1 hxa hf
        have hst : st' = [] := by
          have := H1.2.2.2.1
          match st', this with
          | [], _ => rfl
          | _ :: _, z => exact z.elim
        subst hst
        have eg : nv α1 3 = nv α 3 := nv_le hle (by omega)
        have et : nv α1 4 = nv α 4 := nv_le hle (by omega)
        have eg1 : nv β 3 = nv α1 3 := nv_le H1.1 (by omega)
        have et1 : nv β 4 = nv α1 4 := nv_le H1.1 (by omega)
        have hb := hbd _ _ _ _ _ H2 (by decide +kernel)
        obtain ⟨f1, f2, f3, f4, f5⟩ := as_fx H1
        simp only [kh_wReach_b67_4, fx_env, fx_c, fx_ne, fx_hf, wl_S, Nat.zero_add, Nat.reduceAdd, Nat.reduceDiv, Nat.reduceMod, List.getElem?_cons_zero, List.getElem?_cons_succ, if_true, and_true, true_and] at f1 f2 f3 f4 f5
        have fe0 : nv β 0 = 805 := by omega
        have fe5 : nv β 5 = 17 := by omega
        have fe6 : nv β 6 = 840 := by omega
        have fe9 : nv β 9 = 840 := by omega
        have fe12 : nv β 12 = 1 := by omega
        have fe14 : nv β 14 = 1 := by omega
        have fe15 : nv β 15 = 840 := by omega
        have fe17 : nv β 17 = 1 := by omega
        have fe19 : nv β 19 = 1 := by omega
        have fe21 : nv β 21 = 840 := by omega
        have fe23 : nv β 23 = 1 := by omega
        have fe25 : nv β 25 = 1 := by omega
        have fe27 : nv β 27 = 1 := by omega
        try simp only [fe0, fe5, fe6, fe9, fe12, fe14, fe15, fe17, fe19, fe21, fe23, fe25, fe27, Int.reduceToNat] at f2 f3 f4 f5
        obtain ⟨c0, c1, c2, c3, c4, c5, c6, c7, c8, c9, c10, c11, c12, c13, c14⟩ := f2
        have oL := old_0 c12 rfl
        have oH := old_0 c10 rfl
        have d7 := c7
        simp only [wd_fl] at d7
        have d13 := c13
        simp only [wd_fl] at d13
        have d3 := c3
        simp only [wd_fl] at d3
        have d11 := c11
        simp only [wd_fl] at d11
        have hlh : lowI (nv β 4) < highI (nv β 4) := by
          have : nv β 4 / 3 ≤ 5 := by omega
          unfold highI lowI; (repeat' split) <;> omega
        have hR2 : sm_S (S'.1 840) 12 < sm_S (S2.1 840) 12 := by
          rw [f5, sm_i (by omega), sm_i (by omega), fw_i_row, if_neg (by omega), i32_of (by omega) (by omega), i32_of (by omega) (by omega)]
          have u1 : nv β 16 = nv β 7 := by omega
          have u2 : nv β 22 = nv β 10 := by omega
          rw [u1, u2, oL, oH]
          omega
        refine ihj _ _ _ Ha (by omega) (Or.inr (by omega)) (by rw [nv_mu (v := 28) rfl]; omega)
      · have Ha := hd_go (q := kh_wReach_a67) (n := 0) (by decide +kernel) hx H1 hxa hf
        have hst : st' = [] := by
          have := H1.2.2.2.1
          match st', this with
          | [], _ => rfl
          | _ :: _, z => exact z.elim
        subst hst
        have eg : nv α1 3 = nv α 3 := nv_le hle (by omega)
        have et : nv α1 4 = nv α 4 := nv_le hle (by omega)
        have eg1 : nv β 3 = nv α1 3 := nv_le H1.1 (by omega)
        have et1 : nv β 4 = nv α1 4 := nv_le H1.1 (by omega)
        have hb := hbd _ _ _ _ _ H2 (by decide +kernel)
        obtain ⟨f1, f2, f3, f4, f5⟩ := as_fx H1
        simp only [kh_wReach_b67_5, fx_env, fx_c, fx_ne, fx_hf, wl_S, Nat.zero_add, Nat.reduceAdd, Nat.reduceDiv, Nat.reduceMod, List.getElem?_cons_zero, List.getElem?_cons_succ, if_true, and_true, true_and] at f1 f2 f3 f4 f5
        have fe0 : nv β 0 = 805 := by omega
        have fe5 : nv β 5 = 17 := by omega
        have fe6 : nv β 6 = 840 := by omega
        have fe9 : nv β 9 = 840 := by omega
        have fe12 : nv β 12 = 1 := by omega
        have fe14 : nv β 14 = 0 := by omega
        try simp only [fe0, fe5, fe6, fe9, fe12, fe14, Int.reduceToNat] at f2 f3 f4 f5
        rw [f5] at Ha ⊢
        refine ihj _ _ _ Ha (by omega) (by rw [nv_mu (v := 3) rfl]; omega) (by rw [nv_mu (v := 15) rfl]; omega)
      · have Ha := hd_go (q := kh_wReach_a67) (n := 0) (by decide +kernel) hx H1 hxa hf
        have hst : st' = [] := by
          have := H1.2.2.2.1
          match st', this with
          | [], _ => rfl
          | _ :: _, z => exact z.elim
        subst hst
        have eg : nv α1 3 = nv α 3 := nv_le hle (by omega)
        have et : nv α1 4 = nv α 4 := nv_le hle (by omega)
        have eg1 : nv β 3 = nv α1 3 := nv_le H1.1 (by omega)
        have et1 : nv β 4 = nv α1 4 := nv_le H1.1 (by omega)
        have hb := hbd _ _ _ _ _ H2 (by decide +kernel)
        obtain ⟨f1, f2, f3, f4, f5⟩ := as_fx H1
        simp only [kh_wReach_b67_6, fx_env, fx_c, fx_ne, fx_hf, wl_S, Nat.zero_add, Nat.reduceAdd, Nat.reduceDiv, Nat.reduceMod, List.getElem?_cons_zero, List.getElem?_cons_succ, if_true, and_true, true_and] at f1 f2 f3 f4 f5
        have fe0 : nv β 0 = 805 := by omega
        have fe5 : nv β 5 = 17 := by omega
        have fe6 : nv β 6 = 840 := by omega
        have fe9 : nv β 9 = 840 := by omega
        have fe12 : nv β 12 = 1 := by omega
        have fe14 : nv β 14 = 1 := by omega
        try simp only [fe0, fe5, fe6, fe9, fe12, fe14, Int.reduceToNat] at f2 f3 f4 f5
        rw [f5] at Ha ⊢
        refine ihj _ _ _ Ha (by omega) (by rw [nv_mu (v := 3) rfl]; omega) (by rw [nv_mu (v := 16) rfl]; omega)
      · have Ha := hd_go (q := kh_wReach_a67) (n := 0) (by decide +kernel) hx H1 hxa hf
        have hst : st' = [] := by
          have := H1.2.2.2.1
          match st', this with
          | [], _ => rfl
          | _ :: _, z => exact z.elim
        subst hst
        have eg : nv α1 3 = nv α 3 := nv_le hle (by omega)
        have et : nv α1 4 = nv α 4 := nv_le hle (by omega)
        have eg1 : nv β 3 = nv α1 3 := nv_le H1.1 (by omega)
        have et1 : nv β 4 = nv α1 4 := nv_le H1.1 (by omega)
        have hb := hbd _ _ _ _ _ H2 (by decide +kernel)
        obtain ⟨f1, f2, f3, f4, f5⟩ := as_fx H1
        simp only [kh_wReach_b67_7, fx_env, fx_c, fx_ne, fx_hf, wl_S, Nat.zero_add, Nat.reduceAdd, Nat.reduceDiv, Nat.reduceMod, List.getElem?_cons_zero, List.getElem?_cons_succ, if_true, and_true, true_and] at f1 f2 f3 f4 f5
        have fe0 : nv β 0 = 805 := by omega
        have fe5 : nv β 5 = 17 := by omega
        have fe6 : nv β 6 = 840 := by omega
        have fe9 : nv β 9 = 840 := by omega
        have fe12 : nv β 12 = 1 := by omega
        have fe14 : nv β 14 = 1 := by omega
        have fe16 : nv β 16 = 1 := by omega
        have fe17 : nv β 17 = 840 := by omega
        have fe19 : nv β 19 = 1 := by omega
        have fe21 : nv β 21 = 840 := by omega
        have fe23 : nv β 23 = 1 := by omega
        have fe25 : nv β 25 = 1 := by omega
        try simp only [fe0, fe5, fe6, fe9, fe12, fe14, fe16, fe17, fe19, fe21, fe23, fe25, Int.reduceToNat] at f2 f3 f4 f5
        obtain ⟨c0, c1, c2, c3, c4, c5, c6, c7, c8, c9, c10, c11, c12, c13, c14⟩ := f2
        have oL := old_0 c12 rfl
        have oH := old_0 c10 rfl
        have d5 := c5
        simp only [wd_fl] at d5
        have d13 := c13
        simp only [wd_fl] at d13
        have d2 := c2
        simp only [wd_fl] at d2
        have d11 := c11
        simp only [wd_fl] at d11
        have hlh : lowI (nv β 4) < highI (nv β 4) := by
          have : nv β 4 / 3 ≤ 5 := by omega
          unfold highI lowI; (repeat' split) <;> omega
        have hR2 : sm_S (S'.1 840) 12 < sm_S (S2.1 840) 12 := by
          rw [f5, sm_i (by omega), sm_i (by omega), fw_i_row, if_neg (by omega), i32_of (by omega) (by omega), i32_of (by omega) (by omega)]
          have u1 : nv β 18 = nv β 7 := by omega
          have u2 : nv β 22 = nv β 10 := by omega
          rw [u1, u2, oL, oH]
          omega
        refine ihj _ _ _ Ha (by omega) (Or.inr (by omega)) (by rw [nv_mu (v := 26) rfl]; omega)
      · have Ha := hd_go (q := kh_wReach_a67) (n := 0) (by decide +kernel) hx H1 hxa hf
        have hst : st' = [] := by
          have := H1.2.2.2.1
          match st', this with
          | [], _ => rfl
          | _ :: _, z => exact z.elim
        subst hst
        have eg : nv α1 3 = nv α 3 := nv_le hle (by omega)
        have et : nv α1 4 = nv α 4 := nv_le hle (by omega)
        have eg1 : nv β 3 = nv α1 3 := nv_le H1.1 (by omega)
        have et1 : nv β 4 = nv α1 4 := nv_le H1.1 (by omega)
        have hb := hbd _ _ _ _ _ H2 (by decide +kernel)
        obtain ⟨f1, f2, f3, f4, f5⟩ := as_fx H1
        simp only [kh_wReach_b67_8, fx_env, fx_c, fx_ne, fx_hf, wl_S, Nat.zero_add, Nat.reduceAdd, Nat.reduceDiv, Nat.reduceMod, List.getElem?_cons_zero, List.getElem?_cons_succ, if_true, and_true, true_and] at f1 f2 f3 f4 f5
        have fe0 : nv β 0 = 805 := by omega
        have fe5 : nv β 5 = 17 := by omega
        have fe6 : nv β 6 = 840 := by omega
        have fe9 : nv β 9 = 840 := by omega
        have fe12 : nv β 12 = 1 := by omega
        have fe14 : nv β 14 = 1 := by omega
        have fe16 : nv β 16 = 1 := by omega
        have fe17 : nv β 17 = 840 := by omega
        have fe19 : nv β 19 = 1 := by omega
        have fe21 : nv β 21 = 840 := by omega
        have fe23 : nv β 23 = 1 := by omega
        have fe25 : nv β 25 = 1 := by omega
        have fe27 : nv β 27 = 1 := by omega
        try simp only [fe0, fe5, fe6, fe9, fe12, fe14, fe16, fe17, fe19, fe21, fe23, fe25, fe27, Int.reduceToNat] at f2 f3 f4 f5
        obtain ⟨c0, c1, c2, c3, c4, c5, c6, c7, c8, c9, c10, c11, c12, c13, c14, c15⟩ := f2
        have oL := old_0 c13 rfl
        have oH := old_0 c11 rfl
        have d6 := c6
        simp only [wd_fl] at d6
        have d14 := c14
        simp only [wd_fl] at d14
        have d3 := c3
        simp only [wd_fl] at d3
        have d12 := c12
        simp only [wd_fl] at d12
        have hlh : lowI (nv β 4) < highI (nv β 4) := by
          have : nv β 4 / 3 ≤ 5 := by omega
          unfold highI lowI; (repeat' split) <;> omega
        have hR2 : sm_S (S'.1 840) 12 < sm_S (S2.1 840) 12 := by
          rw [f5, sm_i (by omega), sm_i (by omega), fw_i_row, if_neg (by omega), i32_of (by omega) (by omega), i32_of (by omega) (by omega)]
          have u1 : nv β 18 = nv β 7 := by omega
          have u2 : nv β 22 = nv β 10 := by omega
          rw [u1, u2, oL, oH]
          omega
        refine ihj _ _ _ Ha (by omega) (Or.inr (by omega)) (by rw [nv_mu (v := 28) rfl]; omega)
      · have Ha := hd_go (q := kh_wReach_a67) (n := 0) (by decide +kernel) hx H1 hxa hf
        have hst : st' = [] := by
          have := H1.2.2.2.1
          match st', this with
          | [], _ => rfl
          | _ :: _, z => exact z.elim
        subst hst
        have eg : nv α1 3 = nv α 3 := nv_le hle (by omega)
        have et : nv α1 4 = nv α 4 := nv_le hle (by omega)
        have eg1 : nv β 3 = nv α1 3 := nv_le H1.1 (by omega)
        have et1 : nv β 4 = nv α1 4 := nv_le H1.1 (by omega)
        have hb := hbd _ _ _ _ _ H2 (by decide +kernel)
        obtain ⟨f1, f2, f3, f4, f5⟩ := as_fx H1
        simp only [kh_wReach_b67_9, fx_env, fx_c, fx_ne, fx_hf, wl_S, Nat.zero_add, Nat.reduceAdd, Nat.reduceDiv, Nat.reduceMod, List.getElem?_cons_zero, List.getElem?_cons_succ, if_true, and_true, true_and] at f1 f2 f3 f4 f5
        have fe0 : nv β 0 = 805 := by omega
        have fe5 : nv β 5 = 17 := by omega
        have fe6 : nv β 6 = 840 := by omega
        have fe9 : nv β 9 = 840 := by omega
        have fe12 : nv β 12 = 1 := by omega
        have fe14 : nv β 14 = 1 := by omega
        have fe16 : nv β 16 = 1 := by omega
        have fe17 : nv β 17 = 840 := by omega
        have fe19 : nv β 19 = 1 := by omega
        have fe21 : nv β 21 = 1 := by omega
        have fe23 : nv β 23 = 840 := by omega
        have fe25 : nv β 25 = 1 := by omega
        have fe27 : nv β 27 = 1 := by omega
        try simp only [fe0, fe5, fe6, fe9, fe12, fe14, fe16, fe17, fe19, fe21, fe23, fe25, fe27, Int.reduceToNat] at f2 f3 f4 f5
        obtain ⟨c0, c1, c2, c3, c4, c5, c6, c7, c8, c9, c10, c11, c12, c13, c14, c15⟩ := f2
        have oL := old_0 c13 rfl
        have oH := old_0 c11 rfl
        have d6 := c6
        simp only [wd_fl] at d6
        have d14 := c14
        simp only [wd_fl] at d14
        have d2 := c2
        simp only [wd_fl] at d2
        have d12 := c12
        simp only [wd_fl] at d12
        have hlh : lowI (nv β 4) < highI (nv β 4) := by
          have : nv β 4 / 3 ≤ 5 := by omega
          unfold highI lowI; (repeat' split) <;> omega
        have hR2 : sm_S (S'.1 840) 12 < sm_S (S2.1 840) 12 := by
          rw [f5, sm_i (by omega), sm_i (by omega), fw_i_row, if_neg (by omega), i32_of (by omega) (by omega), i32_of (by omega) (by omega)]
          have u1 : nv β 18 = nv β 7 := by omega
          have u2 : nv β 24 = nv β 10 := by omega
          rw [u1, u2, oL, oH]
          omega
        refine ihj _ _ _ Ha (by omega) (Or.inr (by omega)) (by rw [nv_mu (v := 28) rfl]; omega)
      · have Ha := hd_go (q := kh_wReach_a67) (n := 0) (by decide +kernel) hx H1 hxa hf
        have hst : st' = [] := by
          have := H1.2.2.2.1
          match st', this with
          | [], _ => rfl
          | _ :: _, z => exact z.elim
        subst hst
        have eg : nv α1 3 = nv α 3 := nv_le hle (by omega)
        have et : nv α1 4 = nv α 4 := nv_le hle (by omega)
        have eg1 : nv β 3 = nv α1 3 := nv_le H1.1 (by omega)
        have et1 : nv β 4 = nv α1 4 := nv_le H1.1 (by omega)
        have hb := hbd _ _ _ _ _ H2 (by decide +kernel)
        obtain ⟨f1, f2, f3, f4, f5⟩ := as_fx H1
        simp only [kh_wReach_b67_10, fx_env, fx_c, fx_ne, fx_hf, wl_S, Nat.zero_add, Nat.reduceAdd, Nat.reduceDiv, Nat.reduceMod, List.getElem?_cons_zero, List.getElem?_cons_succ, if_true, and_true, true_and] at f1 f2 f3 f4 f5
        have fe0 : nv β 0 = 805 := by omega
        have fe5 : nv β 5 = 17 := by omega
        have fe6 : nv β 6 = 840 := by omega
        have fe9 : nv β 9 = 840 := by omega
        have fe12 : nv β 12 = 1 := by omega
        have fe14 : nv β 14 = 1 := by omega
        have fe16 : nv β 16 = 1 := by omega
        have fe17 : nv β 17 = 840 := by omega
        have fe19 : nv β 19 = 1 := by omega
        have fe21 : nv β 21 = 1 := by omega
        have fe23 : nv β 23 = 840 := by omega
        have fe25 : nv β 25 = 1 := by omega
        have fe27 : nv β 27 = 1 := by omega
        have fe29 : nv β 29 = 1 := by omega
        try simp only [fe0, fe5, fe6, fe9, fe12, fe14, fe16, fe17, fe19, fe21, fe23, fe25, fe27, fe29, Int.reduceToNat] at f2 f3 f4 f5
        obtain ⟨c0, c1, c2, c3, c4, c5, c6, c7, c8, c9, c10, c11, c12, c13, c14, c15, c16⟩ := f2
        have oL := old_0 c14 rfl
        have oH := old_0 c12 rfl
        have d7 := c7
        simp only [wd_fl] at d7
        have d15 := c15
        simp only [wd_fl] at d15
        have d3 := c3
        simp only [wd_fl] at d3
        have d13 := c13
        simp only [wd_fl] at d13
        have hlh : lowI (nv β 4) < highI (nv β 4) := by
          have : nv β 4 / 3 ≤ 5 := by omega
          unfold highI lowI; (repeat' split) <;> omega
        have hR2 : sm_S (S'.1 840) 12 < sm_S (S2.1 840) 12 := by
          rw [f5, sm_i (by omega), sm_i (by omega), fw_i_row, if_neg (by omega), i32_of (by omega) (by omega), i32_of (by omega) (by omega)]
          have u1 : nv β 18 = nv β 7 := by omega
          have u2 : nv β 24 = nv β 10 := by omega
          rw [u1, u2, oL, oH]
          omega
        refine ihj _ _ _ Ha (by omega) (Or.inr (by omega)) (by rw [nv_mu (v := 30) rfl]; omega)
      · have Ha := hd_go (q := kh_wReach_a67) (n := 0) (by decide +kernel) hx H1 hxa hf
        have hst : st' = [] := by
          have := H1.2.2.2.1
          match st', this with
          | [], _ => rfl
          | _ :: _, z => exact z.elim
        subst hst
        have eg : nv α1 3 = nv α 3 := nv_le hle (by omega)
        have et : nv α1 4 = nv α 4 := nv_le hle (by omega)
        have eg1 : nv β 3 = nv α1 3 := nv_le H1.1 (by omega)
        have et1 : nv β 4 = nv α1 4 := nv_le H1.1 (by omega)
        have hb := hbd _ _ _ _ _ H2 (by decide +kernel)
        obtain ⟨f1, f2, f3, f4, f5⟩ := as_fx H1
        simp only [kh_wReach_b67_11, fx_env, fx_c, fx_ne, fx_hf, wl_S, Nat.zero_add, Nat.reduceAdd, Nat.reduceDiv, Nat.reduceMod, List.getElem?_cons_zero, List.getElem?_cons_succ, if_true, and_true, true_and] at f1 f2 f3 f4 f5
        have fe0 : nv β 0 = 805 := by omega
        have fe5 : nv β 5 = 17 := by omega
        have fe6 : nv β 6 = 840 := by omega
        have fe9 : nv β 9 = 840 := by omega
        have fe12 : nv β 12 = 1 := by omega
        have fe14 : nv β 14 = 1 := by omega
        have fe16 : nv β 16 = 0 := by omega
        try simp only [fe0, fe5, fe6, fe9, fe12, fe14, fe16, Int.reduceToNat] at f2 f3 f4 f5
        rw [f5] at Ha ⊢
        refine ihj _ _ _ Ha (by omega) (by rw [nv_mu (v := 3) rfl]; omega) (by rw [nv_mu (v := 17) rfl]; omega)
    obtain ⟨α1, hle, Hr⟩ := as_rec_in (pl := []) rfl H
    have hf := H.2.2.2.2.2.2.2.2.2.2.1
    have hl1 : α1.length = 4 := by rw [Hr.2.1.1]; rfl
    have hxa : al_le xs α1 := H.1.trans hle
    refine hd_seg G (na := 4) (fuel := 400) (first := true) (Bs := [kh_wReach_b58_0, kh_wReach_b58_1]) (by decide +kernel) hl1 Hr ?_
    intro q hq β lv' st' S' H1
    simp only [List.mem_cons, List.not_mem_nil, or_false] at hq
    rcases hq with rfl | rfl
    · exact hd_run G (ss := []) (fuel := 10) (by decide +kernel) (as_back H1 hxa hf)
    · have Ha := hd_go (q := kh_wReach_a67) (n := 0) (by decide +kernel) hx H1 hxa hf
      have hst : st' = [] := by
        have := H1.2.2.2.1
        match st', this with
        | [], _ => rfl
        | _ :: _, z => exact z.elim
      subst hst
      obtain ⟨f1, f2, f3, f4, f5⟩ := as_fx H1
      simp only [kh_wReach_b58_1, fx_env, fx_c, fx_ne, fx_hf, wl_S, Nat.zero_add, Nat.reduceAdd, Nat.reduceDiv, Nat.reduceMod, List.getElem?_cons_zero, List.getElem?_cons_succ, if_true, and_true, true_and] at f1 f2 f3 f4 f5
      have fe0 : nv β 0 = 805 := by omega
      have fe3 : nv β 3 = 1 := by omega
      have fe4 : nv β 4 = 0 := by omega
      have fe5 : nv β 5 = 0 := by omega
      try simp only [fe0, fe3, fe4, fe5, Int.reduceToNat] at f2 f3 f4 f5
      rw [f5] at Ha ⊢
      exact hI _ _ _ _ Ha (Int.le_refl _) (Or.inl (by rw [nv_mu (v := 4) rfl]; omega)) (Nat.lt_succ_self _)
  refine hd_segA G (na := 3) (K := 1) (fuel := 400) (an := [kh_wReach_a2]) (ss := []) (Bs := [kh_wReach_e0, kh_wReach_e1]) (by decide +kernel) hx H0 ?_
  intro q hq β lv' st' S' H1
  simp only [List.mem_cons, List.not_mem_nil, or_false] at hq
  rcases hq with rfl | rfl
  · have hst : st' = [] := by
      have := H1.2.2.2.1
      match st', this with
      | [], _ => rfl
      | _ :: _, z => exact z.elim
    subst hst
    exact hW _ _ _ _ (hd_go (q := kh_wReach_a58) (n := 0) (by decide +kernel) hx H1 al_le.refl H0.2.2.2.2.2.2.2.2.2.2.1) (Nat.lt_succ_self _)
  · have hst : st' = [] := by
      have := H1.2.2.2.1
      match st', this with
      | [], _ => rfl
      | _ :: _, z => exact z.elim
    subst hst
    exact hW _ _ _ _ (hd_go (q := kh_wReach_a58) (n := 0) (by decide +kernel) hx H1 al_le.refl H0.2.2.2.2.2.2.2.2.2.2.1) (Nat.lt_succ_self _))
