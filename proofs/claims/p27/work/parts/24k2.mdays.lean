/-! ===== the model: a day's weather, days go by ===== -/
def dayM (S : fw_S) : Int := (S.1 806 0).toInt
def R_mDay : List av_X → fw_S → fw_O → fw_S → Prop := fun _ S _ S' => dayM S' = dayM S + 1 ∧ skM S' = skN (skM S)
def R_mPass : List av_X → fw_S → fw_O → fw_S → Prop := fun xs S _ S' => (dayM S + nv xs 1 ≤ 999 ∧ dayM S' = dayM S + nv xs 1 ∧ skM S' = skI (nv xs 1).toNat (skM S)) ∨ (999 < dayM S + nv xs 1 ∧ dayM S' = dayM S ∧ skM S' = skM S)
/- UtilityWorksModel isWet -/
def kh_1218 : ct_T := (391, [(2, 805, 805, 0), (0, 0, 0, 0), (0, (-2147483648), 2147483647, 1)], [], [], [(1, (0, 1, 1, 0), [(2, 805, 805, 0), (0, 0, 0, 0), (0, (-2147483648), 2147483647, 1)], [], ([], [])), (1, (0, 0, 0, 0), [(2, 805, 805, 0), (0, 0, 0, 0), (0, (-2147483648), 2147483647, 1)], [], ([], []))], [], 2, 40, 0)
theorem kh_1218_ok : ct_ok wd_fl2 kh_1218 := ct_of (ff := wd_ff2) (y := (⟨"UtilityWorksModel", "isWet", "(II)Z"⟩, prog_14_method_322_code, 3, some .boolean, 12, 1, 2, 33101, 33100, 6014, 21014)) (Cs := [kh_148, kh_heightOf, kh_150]) (an := [(32, 0, ([((2, 805, 805, 0), none), ((0, 0, 0, 0), none), ((0, (-2147483648), 2147483647, 1), none)], [(0, 0), (1, 1), (2, 2)], [], [], [], [], [], [], none), [(0, 0, 99968)])]) (ss := []) (K := 1) (fuel := 4000) wd_fl2_ok rfl (List.forall_mem_cons.mpr ⟨kh_148_l2, (List.forall_mem_cons.mpr ⟨kh_heightOf_ok, (List.forall_mem_cons.mpr ⟨kh_150_l2, (List.forall_mem_nil _)⟩)⟩)⟩) (by decide +kernel)
/- UtilityWorksModel isWet -/
def kh_1219 : ct_T := (391, [(2, 805, 805, 0), (0, 0, 1, 1), (0, (-2147483648), 2147483647, 1)], [], [], [(1, (0, 1, 1, 0), [(2, 805, 805, 0), (0, 0, 1, 1), (0, (-2147483648), 2147483647, 1)], [], ([], [])), (1, (0, 0, 0, 0), [(2, 805, 805, 0), (0, 0, 1, 1), (0, (-2147483648), 2147483647, 1)], [], ([], []))], [], 2, 40, 0)
theorem kh_1219_ok : ct_ok wd_fl2 kh_1219 := ct_of (ff := wd_ff2) (y := (⟨"UtilityWorksModel", "isWet", "(II)Z"⟩, prog_14_method_322_code, 3, some .boolean, 12, 1, 2, 33101, 33100, 6014, 21014)) (Cs := [kh_160, kh_heightOf, kh_162]) (an := [(32, 0, ([((2, 805, 805, 0), none), ((0, 0, 1, 1), none), ((0, (-2147483648), 2147483647, 1), none)], [(0, 0), (1, 1), (2, 2)], [], [], [], [], [], [], none), [(0, 0, 99968)])]) (ss := []) (K := 1) (fuel := 4000) wd_fl2_ok rfl (List.forall_mem_cons.mpr ⟨kh_160_l2, (List.forall_mem_cons.mpr ⟨kh_heightOf_ok, (List.forall_mem_cons.mpr ⟨kh_162_l2, (List.forall_mem_nil _)⟩)⟩)⟩) (by decide +kernel)
/- UtilityWorksModel isWet -/
def kh_1220 : ct_T := (391, [(2, 805, 805, 0), (0, 0, 2, 1), (0, (-2147483648), 2147483647, 1)], [], [], [(1, (0, 1, 1, 0), [(2, 805, 805, 0), (0, 0, 2, 1), (0, (-2147483648), 2147483647, 1)], [], ([], [])), (1, (0, 0, 0, 0), [(2, 805, 805, 0), (0, 0, 2, 1), (0, (-2147483648), 2147483647, 1)], [], ([], []))], [], 2, 40, 0)
theorem kh_1220_ok : ct_ok wd_fl2 kh_1220 := ct_of (ff := wd_ff2) (y := (⟨"UtilityWorksModel", "isWet", "(II)Z"⟩, prog_14_method_322_code, 3, some .boolean, 12, 1, 2, 33101, 33100, 6014, 21014)) (Cs := [kh_172, kh_heightOf, kh_174]) (an := [(32, 0, ([((2, 805, 805, 0), none), ((0, 0, 2, 1), none), ((0, (-2147483648), 2147483647, 1), none)], [(0, 0), (1, 1), (2, 2)], [], [], [], [], [], [], none), [(0, 0, 99968)])]) (ss := []) (K := 1) (fuel := 4000) wd_fl2_ok rfl (List.forall_mem_cons.mpr ⟨kh_172_l2, (List.forall_mem_cons.mpr ⟨kh_heightOf_ok, (List.forall_mem_cons.mpr ⟨kh_174_l2, (List.forall_mem_nil _)⟩)⟩)⟩) (by decide +kernel)
/- UtilityWorksModel isWet -/
def kh_1221 : ct_T := (391, [(2, 805, 805, 0), (0, 0, 3, 1), (0, (-2147483648), 2147483647, 1)], [], [], [(1, (0, 1, 1, 0), [(2, 805, 805, 0), (0, 0, 3, 1), (0, (-2147483648), 2147483647, 1)], [], ([], [])), (1, (0, 0, 0, 0), [(2, 805, 805, 0), (0, 0, 3, 1), (0, (-2147483648), 2147483647, 1)], [], ([], []))], [], 2, 40, 0)
theorem kh_1221_ok : ct_ok wd_fl2 kh_1221 := ct_of (ff := wd_ff2) (y := (⟨"UtilityWorksModel", "isWet", "(II)Z"⟩, prog_14_method_322_code, 3, some .boolean, 12, 1, 2, 33101, 33100, 6014, 21014)) (Cs := [kh_184, kh_heightOf, kh_186]) (an := [(32, 0, ([((2, 805, 805, 0), none), ((0, 0, 3, 1), none), ((0, (-2147483648), 2147483647, 1), none)], [(0, 0), (1, 1), (2, 2)], [], [], [], [], [], [], none), [(0, 0, 99968)])]) (ss := []) (K := 1) (fuel := 4000) wd_fl2_ok rfl (List.forall_mem_cons.mpr ⟨kh_184_l2, (List.forall_mem_cons.mpr ⟨kh_heightOf_ok, (List.forall_mem_cons.mpr ⟨kh_186_l2, (List.forall_mem_nil _)⟩)⟩)⟩) (by decide +kernel)
/- UtilityWorksModel isWet -/
def kh_1222 : ct_T := (391, [(2, 805, 805, 0), (0, 0, 4, 1), (0, (-2147483648), 2147483647, 1)], [], [], [(1, (0, 1, 1, 0), [(2, 805, 805, 0), (0, 0, 4, 1), (0, (-2147483648), 2147483647, 1)], [], ([], [])), (1, (0, 0, 0, 0), [(2, 805, 805, 0), (0, 0, 4, 1), (0, (-2147483648), 2147483647, 1)], [], ([], []))], [], 2, 40, 0)
theorem kh_1222_ok : ct_ok wd_fl2 kh_1222 := ct_of (ff := wd_ff2) (y := (⟨"UtilityWorksModel", "isWet", "(II)Z"⟩, prog_14_method_322_code, 3, some .boolean, 12, 1, 2, 33101, 33100, 6014, 21014)) (Cs := [kh_196, kh_heightOf, kh_197]) (an := [(32, 0, ([((2, 805, 805, 0), none), ((0, 0, 4, 1), none), ((0, (-2147483648), 2147483647, 1), none)], [(0, 0), (1, 1), (2, 2)], [], [], [], [], [], [], none), [(0, 0, 99968)])]) (ss := []) (K := 1) (fuel := 4000) wd_fl2_ok rfl (List.forall_mem_cons.mpr ⟨kh_196_l2, (List.forall_mem_cons.mpr ⟨kh_heightOf_ok, (List.forall_mem_cons.mpr ⟨kh_197_l2, (List.forall_mem_nil _)⟩)⟩)⟩) (by decide +kernel)
/- UtilityWorksModel isWet -/
def kh_1223 : ct_T := (391, [(2, 805, 805, 0), (0, 0, 5, 1), (0, (-2147483648), 2147483647, 1)], [], [], [(1, (0, 1, 1, 0), [(2, 805, 805, 0), (0, 0, 5, 1), (0, (-2147483648), 2147483647, 1)], [], ([], [])), (1, (0, 0, 0, 0), [(2, 805, 805, 0), (0, 0, 5, 1), (0, (-2147483648), 2147483647, 1)], [], ([], []))], [], 2, 40, 0)
theorem kh_1223_ok : ct_ok wd_fl2 kh_1223 := ct_of (ff := wd_ff2) (y := (⟨"UtilityWorksModel", "isWet", "(II)Z"⟩, prog_14_method_322_code, 3, some .boolean, 12, 1, 2, 33101, 33100, 6014, 21014)) (Cs := [kh_206, kh_heightOf, kh_207]) (an := [(32, 0, ([((2, 805, 805, 0), none), ((0, 0, 5, 1), none), ((0, (-2147483648), 2147483647, 1), none)], [(0, 0), (1, 1), (2, 2)], [], [], [], [], [], [], none), [(0, 0, 99968)])]) (ss := []) (K := 1) (fuel := 4000) wd_fl2_ok rfl (List.forall_mem_cons.mpr ⟨kh_206_l2, (List.forall_mem_cons.mpr ⟨kh_heightOf_ok, (List.forall_mem_cons.mpr ⟨kh_207_l2, (List.forall_mem_nil _)⟩)⟩)⟩) (by decide +kernel)
/- UtilityWorksModel isWet -/
def kh_1224 : ct_T := (391, [(2, 805, 805, 0), (0, 0, 6, 1), (0, (-2147483648), 2147483647, 1)], [], [], [(1, (0, 1, 1, 0), [(2, 805, 805, 0), (0, 0, 6, 1), (0, (-2147483648), 2147483647, 1)], [], ([], [])), (1, (0, 0, 0, 0), [(2, 805, 805, 0), (0, 0, 6, 1), (0, (-2147483648), 2147483647, 1)], [], ([], []))], [], 2, 40, 0)
theorem kh_1224_ok : ct_ok wd_fl2 kh_1224 := ct_of (ff := wd_ff2) (y := (⟨"UtilityWorksModel", "isWet", "(II)Z"⟩, prog_14_method_322_code, 3, some .boolean, 12, 1, 2, 33101, 33100, 6014, 21014)) (Cs := [kh_216, kh_heightOf, kh_218]) (an := [(32, 0, ([((2, 805, 805, 0), none), ((0, 0, 6, 1), none), ((0, (-2147483648), 2147483647, 1), none)], [(0, 0), (1, 1), (2, 2)], [], [], [], [], [], [], none), [(0, 0, 99968)])]) (ss := []) (K := 1) (fuel := 4000) wd_fl2_ok rfl (List.forall_mem_cons.mpr ⟨kh_216_l2, (List.forall_mem_cons.mpr ⟨kh_heightOf_ok, (List.forall_mem_cons.mpr ⟨kh_218_l2, (List.forall_mem_nil _)⟩)⟩)⟩) (by decide +kernel)
/- UtilityWorksModel isWet -/
def kh_1225 : ct_T := (391, [(2, 805, 805, 0), (0, 0, 7, 1), (0, (-2147483648), 2147483647, 1)], [], [], [(1, (0, 1, 1, 0), [(2, 805, 805, 0), (0, 0, 7, 1), (0, (-2147483648), 2147483647, 1)], [], ([], [])), (1, (0, 0, 0, 0), [(2, 805, 805, 0), (0, 0, 7, 1), (0, (-2147483648), 2147483647, 1)], [], ([], []))], [], 2, 40, 0)
theorem kh_1225_ok : ct_ok wd_fl2 kh_1225 := ct_of (ff := wd_ff2) (y := (⟨"UtilityWorksModel", "isWet", "(II)Z"⟩, prog_14_method_322_code, 3, some .boolean, 12, 1, 2, 33101, 33100, 6014, 21014)) (Cs := [kh_228, kh_heightOf, kh_229]) (an := [(32, 0, ([((2, 805, 805, 0), none), ((0, 0, 7, 1), none), ((0, (-2147483648), 2147483647, 1), none)], [(0, 0), (1, 1), (2, 2)], [], [], [], [], [], [], none), [(0, 0, 99968)])]) (ss := []) (K := 1) (fuel := 4000) wd_fl2_ok rfl (List.forall_mem_cons.mpr ⟨kh_228_l2, (List.forall_mem_cons.mpr ⟨kh_heightOf_ok, (List.forall_mem_cons.mpr ⟨kh_229_l2, (List.forall_mem_nil _)⟩)⟩)⟩) (by decide +kernel)
/- UtilityWorksModel isWet -/
def kh_1226 : ct_T := (391, [(2, 805, 805, 0), (0, 0, 8, 1), (0, (-2147483648), 2147483647, 1)], [], [], [(1, (0, 1, 1, 0), [(2, 805, 805, 0), (0, 0, 8, 1), (0, (-2147483648), 2147483647, 1)], [], ([], [])), (1, (0, 0, 0, 0), [(2, 805, 805, 0), (0, 0, 8, 1), (0, (-2147483648), 2147483647, 1)], [], ([], []))], [], 2, 40, 0)
theorem kh_1226_ok : ct_ok wd_fl2 kh_1226 := ct_of (ff := wd_ff2) (y := (⟨"UtilityWorksModel", "isWet", "(II)Z"⟩, prog_14_method_322_code, 3, some .boolean, 12, 1, 2, 33101, 33100, 6014, 21014)) (Cs := [kh_238, kh_heightOf, kh_239]) (an := [(32, 0, ([((2, 805, 805, 0), none), ((0, 0, 8, 1), none), ((0, (-2147483648), 2147483647, 1), none)], [(0, 0), (1, 1), (2, 2)], [], [], [], [], [], [], none), [(0, 0, 99968)])]) (ss := []) (K := 1) (fuel := 4000) wd_fl2_ok rfl (List.forall_mem_cons.mpr ⟨kh_238_l2, (List.forall_mem_cons.mpr ⟨kh_heightOf_ok, (List.forall_mem_cons.mpr ⟨kh_239_l2, (List.forall_mem_nil _)⟩)⟩)⟩) (by decide +kernel)
/- UtilityWorksModel isWet -/
def kh_1227 : ct_T := (391, [(2, 805, 805, 0), (0, 0, 9, 1), (0, (-2147483648), 2147483647, 1)], [], [], [(1, (0, 1, 1, 0), [(2, 805, 805, 0), (0, 0, 9, 1), (0, (-2147483648), 2147483647, 1)], [], ([], [])), (1, (0, 0, 0, 0), [(2, 805, 805, 0), (0, 0, 9, 1), (0, (-2147483648), 2147483647, 1)], [], ([], []))], [], 2, 40, 0)
theorem kh_1227_ok : ct_ok wd_fl2 kh_1227 := ct_of (ff := wd_ff2) (y := (⟨"UtilityWorksModel", "isWet", "(II)Z"⟩, prog_14_method_322_code, 3, some .boolean, 12, 1, 2, 33101, 33100, 6014, 21014)) (Cs := [kh_248, kh_heightOf, kh_250, kh_239]) (an := [(32, 0, ([((2, 805, 805, 0), none), ((0, 0, 9, 1), none), ((0, (-2147483648), 2147483647, 1), none)], [(0, 0), (1, 1), (2, 2)], [], [], [], [], [], [], none), [(0, 0, 99968)])]) (ss := []) (K := 1) (fuel := 4000) wd_fl2_ok rfl (List.forall_mem_cons.mpr ⟨kh_248_l2, (List.forall_mem_cons.mpr ⟨kh_heightOf_ok, (List.forall_mem_cons.mpr ⟨kh_250_l2, (List.forall_mem_cons.mpr ⟨kh_239_l2, (List.forall_mem_nil _)⟩)⟩)⟩)⟩) (by decide +kernel)
/- UtilityWorksModel isWet -/
def kh_1228 : ct_T := (391, [(2, 805, 805, 0), (0, 0, 10, 1), (0, (-2147483648), 2147483647, 1)], [], [], [(1, (0, 1, 1, 0), [(2, 805, 805, 0), (0, 0, 10, 1), (0, (-2147483648), 2147483647, 1)], [], ([], [])), (1, (0, 0, 0, 0), [(2, 805, 805, 0), (0, 0, 10, 1), (0, (-2147483648), 2147483647, 1)], [], ([], []))], [], 2, 40, 0)
theorem kh_1228_ok : ct_ok wd_fl2 kh_1228 := ct_of (ff := wd_ff2) (y := (⟨"UtilityWorksModel", "isWet", "(II)Z"⟩, prog_14_method_322_code, 3, some .boolean, 12, 1, 2, 33101, 33100, 6014, 21014)) (Cs := [kh_260, kh_heightOf, kh_261]) (an := [(32, 0, ([((2, 805, 805, 0), none), ((0, 0, 10, 1), none), ((0, (-2147483648), 2147483647, 1), none)], [(0, 0), (1, 1), (2, 2)], [], [], [], [], [], [], none), [(0, 0, 99968)])]) (ss := []) (K := 1) (fuel := 4000) wd_fl2_ok rfl (List.forall_mem_cons.mpr ⟨kh_260_l2, (List.forall_mem_cons.mpr ⟨kh_heightOf_ok, (List.forall_mem_cons.mpr ⟨kh_261_l2, (List.forall_mem_nil _)⟩)⟩)⟩) (by decide +kernel)
/- UtilityWorksModel isWet -/
def kh_1229 : ct_T := (391, [(2, 805, 805, 0), (0, 0, 11, 1), (0, (-2147483648), 2147483647, 1)], [], [], [(1, (0, 1, 1, 0), [(2, 805, 805, 0), (0, 0, 11, 1), (0, (-2147483648), 2147483647, 1)], [], ([], [])), (1, (0, 0, 0, 0), [(2, 805, 805, 0), (0, 0, 11, 1), (0, (-2147483648), 2147483647, 1)], [], ([], []))], [], 2, 40, 0)
theorem kh_1229_ok : ct_ok wd_fl2 kh_1229 := ct_of (ff := wd_ff2) (y := (⟨"UtilityWorksModel", "isWet", "(II)Z"⟩, prog_14_method_322_code, 3, some .boolean, 12, 1, 2, 33101, 33100, 6014, 21014)) (Cs := [kh_270, kh_heightOf, kh_271]) (an := [(32, 0, ([((2, 805, 805, 0), none), ((0, 0, 11, 1), none), ((0, (-2147483648), 2147483647, 1), none)], [(0, 0), (1, 1), (2, 2)], [], [], [], [], [], [], none), [(0, 0, 99968)])]) (ss := []) (K := 1) (fuel := 4000) wd_fl2_ok rfl (List.forall_mem_cons.mpr ⟨kh_270_l2, (List.forall_mem_cons.mpr ⟨kh_heightOf_ok, (List.forall_mem_cons.mpr ⟨kh_271_l2, (List.forall_mem_nil _)⟩)⟩)⟩) (by decide +kernel)
/- UtilityWorksModel isWet -/
def kh_1230 : ct_T := (391, [(2, 805, 805, 0), (0, 0, 12, 1), (0, (-2147483648), 2147483647, 1)], [], [], [(1, (0, 1, 1, 0), [(2, 805, 805, 0), (0, 0, 12, 1), (0, (-2147483648), 2147483647, 1)], [], ([], [])), (1, (0, 0, 0, 0), [(2, 805, 805, 0), (0, 0, 12, 1), (0, (-2147483648), 2147483647, 1)], [], ([], []))], [], 2, 40, 0)
theorem kh_1230_ok : ct_ok wd_fl2 kh_1230 := ct_of (ff := wd_ff2) (y := (⟨"UtilityWorksModel", "isWet", "(II)Z"⟩, prog_14_method_322_code, 3, some .boolean, 12, 1, 2, 33101, 33100, 6014, 21014)) (Cs := [kh_280, kh_heightOf, kh_281]) (an := [(32, 0, ([((2, 805, 805, 0), none), ((0, 0, 12, 1), none), ((0, (-2147483648), 2147483647, 1), none)], [(0, 0), (1, 1), (2, 2)], [], [], [], [], [], [], none), [(0, 0, 99968)])]) (ss := []) (K := 1) (fuel := 4000) wd_fl2_ok rfl (List.forall_mem_cons.mpr ⟨kh_280_l2, (List.forall_mem_cons.mpr ⟨kh_heightOf_ok, (List.forall_mem_cons.mpr ⟨kh_281_l2, (List.forall_mem_nil _)⟩)⟩)⟩) (by decide +kernel)
abbrev kh_weatherDay_y : mt_T := (⟨"UtilityWorksModel", "weatherDay", "()V"⟩, prog_14_method_327_code, 3, none, 12, 1, 0, 33052, 33051, 6002, 21014)
def kh_weatherDay : ct_T := (379, [(2, 805, 805, 0)], [], [510, 513, 515], [(0, (0, 0, 0, 0), [(2, 805, 805, 0)], [], ([510, 513, 515], []))], [((806, 806), (1, 1, 0)), ((806, 806), (2, 2, 0)), ((806, 806), (3, 3, 0)), ((806, 806), (5, 5, 0)), ((806, 806), (7, 7, 0)), ((806, 806), (12, 12, 0)), ((806, 806), (83, 99, 1)), ((806, 806), (142, 342, 4)), ((806, 806), (500, 512, 4)), ((806, 806), (502, 514, 4)), ((806, 806), (503, 515, 4))], 6, 133, 0)
def kh_weatherDay_a11 : an_T := (11, 0, ([((2, 805, 805, 0), none)], [(0, 0)], [0], [], [], [], [], [510, 513, 515], none), [])
def kh_weatherDay_a14 : an_T := (14, 0, ([((2, 805, 805, 0), none)], [(0, 0)], [], [], [], [], [], [510, 513, 515], none), [])
def kh_weatherDay_a15 : an_T := (15, 0, ([((2, 805, 805, 0), none)], [(0, 0)], [0], [], [], [], [], [510, 513, 515], none), [])
def kh_weatherDay_a18 : an_T := (18, 0, ([((2, 805, 805, 0), none)], [(0, 0)], [], [], [], [], [], [510, 513, 515], none), [])
def kh_weatherDay_a24 : an_T := (24, 0, ([((2, 805, 805, 0), none), ((0, 0, 17, 1), none)], [(0, 0), (1, 1)], [], [], [], [], [], [510, 513, 515], none), [])
def kh_weatherDay_b0_0 : sg_T := (14, 0, ([((2, 805, 805, 0), none), ((2, 806, 806, 1), none), ((0, 4, 4, 0), none), ((0, 0, 0, 1), none), ((0, 1, 1, 0), none)], [(0, 0)], [], [(1, 2, 3)], [(3, 1)], [(400000, 3, 4), (800003, 1, 2)], [], [510, 513, 515], some []))
def kh_weatherDay_b0_1 : sg_T := (11, 0, ([((2, 805, 805, 0), none), ((2, 806, 806, 1), none), ((0, 4, 4, 0), none), ((0, 1, 1, 1), none), ((0, 1, 1, 0), none)], [(0, 0)], [0], [(1, 2, 3)], [], [(300000, 3, 4), (800003, 1, 2)], [], [510, 513, 515], some []))
def kh_weatherDay_b11_0 : sg_T := (14, 0, ([((2, 805, 805, 0), none)], [(0, 0)], [], [], [], [], [], [510, 513, 515], none))
def kh_weatherDay_b14_0 : sg_T := (15, 0, ([((2, 805, 805, 0), none)], [(0, 0)], [0], [], [], [], [], [510, 513, 515], some []))
def kh_weatherDay_b15_0 : sg_T := (18, 0, ([((2, 805, 805, 0), none)], [(0, 0)], [], [], [], [], [], [510, 513, 515], none))
def kh_weatherDay_b18_0 : sg_T := (24, 0, ([((2, 805, 805, 0), none), ((0, 0, 0, 0), none)], [(1, 1), (0, 0)], [], [], [], [], [], [510, 513, 515], none))
def kh_weatherDay_b24_0 : sg_T := (80, 0, ([((2, 805, 805, 0), none), ((0, 17, 17, 1), none), ((0, 17, 17, 0), none)], [(0, 0), (1, 1)], [], [], [], [(200000, 2, 1)], [], [510, 513, 515], some []))
def kh_weatherDay_b24_1 : sg_T := (24, 0, ([((2, 805, 805, 0), none), ((0, 0, 16, 1), none), ((0, 17, 17, 0), none), ((2, 806, 806, 1), none), ((0, 3, 3, 0), none), ((0, (-2147483648), 2147483647, 1), none), ((0, 1, 1, 0), none), ((2, 806, 806, 1), none), ((0, 83, 83, 0), none), ((0, 83, 99, 1), none), ((0, 1, 1, 0), none), ((0, 5, 5, 0), none), ((0, 1, 1, 0), none), ((0, 1, 17, 1), some (1, 1))], [(1, 13), (2, 6), (0, 0)], [], [(7, 9, 10), (3, 4, 5)], [(6, 0)], [(500009, 8, 1), (800005, 3, 4), (100000, 1, 2)], [], [510, 513, 515], none))
def kh_weatherDay_b24_2 : sg_T := (24, 0, ([((2, 805, 805, 0), none), ((0, 0, 16, 1), none), ((0, 17, 17, 0), none), ((2, 806, 806, 1), none), ((0, 3, 3, 0), none), ((0, (-2147483648), 2147483647, 1), none), ((0, 0, 0, 0), none), ((2, 806, 806, 1), none), ((0, 83, 83, 0), none), ((0, 83, 99, 1), none), ((0, 0, 0, 0), none), ((0, 5, 5, 0), none), ((0, 0, 0, 0), none), ((0, 1, 17, 1), some (1, 1))], [(1, 13), (2, 6), (0, 0)], [], [(7, 9, 10), (3, 4, 5)], [], [(500009, 8, 1), (800005, 3, 4), (100000, 1, 2)], [], [510, 513, 515], none))
def kh_weatherDay_I (l : Launch) (D : va_G) (tc : Nat → ClassId) (ad : Nat → Nat) (kd : Nat → Nat × Nat) (N : Nat) (sm : Nat → Nat) (xs : List av_X) (S : fw_S) (p : Program) (e : Env) (s : State) (m : MethodId) (args : Array Value) (below : List Frame) (meth : Method) (c : Code) (sz : Nat) (k : Nat) : Prop := (∀ (α : List av_X) (lv : List (Nat × Value)) (st : List Value) (S1 : fw_S), as_in ad sm wd_fl2 xs S kh_weatherDay.2.2.2.2.2.1 α kh_weatherDay_a11.2.2.1 lv st S1 → (S1 = S ∧ (S.1 806 4).toInt = 1) → 500 < k → hd_WR R_wDay wd_fl2 kh_weatherDay kh_weatherDay_y l D tc ad kd N sm xs S p e s m args below meth c sz 11 lv st S1 0) ∧ (∀ (α : List av_X) (lv : List (Nat × Value)) (st : List Value) (S1 : fw_S), as_in ad sm wd_fl2 xs S kh_weatherDay.2.2.2.2.2.1 α kh_weatherDay_a14.2.2.1 lv st S1 → (mT S S1 ∧ ∀ k : Nat, k < 4 → mK S S1 k) → 450 < k → hd_WR R_wDay wd_fl2 kh_weatherDay kh_weatherDay_y l D tc ad kd N sm xs S p e s m args below meth c sz 14 lv st S1 0) ∧ (∀ (α : List av_X) (lv : List (Nat × Value)) (st : List Value) (S1 : fw_S), as_in ad sm wd_fl2 xs S kh_weatherDay.2.2.2.2.2.1 α kh_weatherDay_a15.2.2.1 lv st S1 → (mT S S1 ∧ ∀ k : Nat, k < 4 → mK S S1 k) → 400 < k → hd_WR R_wDay wd_fl2 kh_weatherDay kh_weatherDay_y l D tc ad kd N sm xs S p e s m args below meth c sz 15 lv st S1 0) ∧ (∀ (α : List av_X) (lv : List (Nat × Value)) (st : List Value) (S1 : fw_S), as_in ad sm wd_fl2 xs S kh_weatherDay.2.2.2.2.2.1 α kh_weatherDay_a18.2.2.1 lv st S1 → (mT S S1 ∧ ∀ k : Nat, k < 4 → mM S S1 k) → 300 < k → hd_WR R_wDay wd_fl2 kh_weatherDay kh_weatherDay_y l D tc ad kd N sm xs S p e s m args below meth c sz 18 lv st S1 0) ∧ (∀ (α : List av_X) (lv : List (Nat × Value)) (st : List Value) (S1 : fw_S), as_in ad sm wd_fl2 xs S kh_weatherDay.2.2.2.2.2.1 α kh_weatherDay_a24.2.2.1 lv st S1 → (mT S S1 ∧ ∀ k : Nat, k < 4 → mM S S1 k) → (17 - nv α 1).toNat < k → hd_WR R_wDay wd_fl2 kh_weatherDay kh_weatherDay_y l D tc ad kd N sm xs S p e s m args below meth c sz 24 lv st S1 0) ∧ True
set_option maxHeartbeats 16000000 in
set_option maxRecDepth 8000 in
theorem kh_weatherDay_h11 {l : Launch} {D : va_G} {tc : Nat → ClassId} {ad : Nat → Nat} {kd : Nat → Nat × Nat} {N : Nat} {sm : Nat → Nat} {xs : List av_X} {S : fw_S} {p : Program} {e : Env} {s : State} {m : MethodId} {args : Array Value} {below : List Frame} {meth : Method} {c : Code} {sz : Nat} {lvE : List (Nat × Value)} (G : hd_C wd_ff2 wd_fl2 kh_weatherDay [kh_draw, kh_stormsGo, kh_884, kh_1218, kh_886, kh_887, kh_1219, kh_1220, kh_1221, kh_1222, kh_1223, kh_1224, kh_1225, kh_1226, kh_1227, kh_1228, kh_1229, kh_1230, kh_885] kh_weatherDay_y l D tc ad kd N sm xs p s m args meth c sz) (H0 : as_in ad sm wd_fl2 xs S kh_weatherDay.2.2.2.2.2.1 xs (hd_0 kh_weatherDay) lvE [] S) {k : Nat} (ih : kh_weatherDay_I l D tc ad kd N sm xs S p e s m args below meth c sz k) : (∀ (α : List av_X) (lv : List (Nat × Value)) (st : List Value) (S1 : fw_S), as_in ad sm wd_fl2 xs S kh_weatherDay.2.2.2.2.2.1 α kh_weatherDay_a11.2.2.1 lv st S1 → (S1 = S ∧ (S.1 806 4).toInt = 1) → 500 < k + 1 → hd_WR R_wDay wd_fl2 kh_weatherDay kh_weatherDay_y l D tc ad kd N sm xs S p e s m args below meth c sz 11 lv st S1 0) := by
  have hx : xs.length = 1 := by rw [H0.2.1.1]; rfl
  intro α lv st S1 H hp hk
  obtain ⟨α1, hle, Hr⟩ := as_recM (pl := []) [((806, 806), (1, 1, 0)), ((806, 806), (2, 2, 0)), ((806, 806), (3, 3, 0)), ((806, 806), (5, 5, 0))] (by decide +kernel) H
  have hf := H.2.2.2.2.2.2.2.2.2.2.1
  have hl1 : α1.length = 1 := by rw [Hr.2.1.1]; rfl
  have hl0 : α.length = 1 := by rw [H.2.1.1]; rfl
  have hxa : al_le xs α1 := H.1.trans hle
  obtain ⟨g1, -, g3, g4, -⟩ := as_fx Hr
  have g0 : (805 ≤ nv α1 0 ∧ nv α1 0 ≤ 805) ∧ True := by
    refine ⟨by have h := (en_nv (i := 0) Hr.2.1 rfl).2; exact h, trivial⟩
  have r0 : nv α1 0 = nv α 0 := nv_le hle (by omega)
  refine hd_callRR (Rr := R_draw) (Rs := [kh_draw]) (idx := 942) G (List.forall_mem_cons.mpr ⟨kh_draw_okR, List.forall_mem_nil _⟩) (na := 1) (Bs := [kh_weatherDay_b11_0]) (by decide +kernel) (by decide +kernel) hl1 Hr ?_
  intro q hq β lv' st' S' H1 hRx
  simp only [List.mem_cons, List.not_mem_nil, or_false] at hq
  rcases hq with rfl
  · obtain ⟨f1, f2, f3, f4, f5⟩ := as_fx H1
    simp only [kh_weatherDay_b11_0, Nat.reduceEqDiff, if_false, fx_env, fx_c, fx_ne, fx_hf, wl_S, Nat.zero_add, Nat.reduceAdd, Nat.reduceDiv, Nat.reduceMod, List.getElem?_cons_zero, List.getElem?_cons_succ, if_true, and_true, true_and] at f1 f2 f3 f4 f5
    have fe0 : nv β 0 = 805 := by omega
    try simp only [fe0, Int.reduceToNat] at f2 f3 f4 f5
    have s0 : nv β 0 = nv α1 0 := nv_le H1.1 (by omega)
    obtain ⟨α', Ha, hm⟩ := hd_gpM (q := kh_weatherDay_a14) (n := 0) (by decide +kernel) hx H1 (by decide +kernel) hxa hf
    have hfr := H1.2.2.2.2.2.2.2.2.2.2.1
    have m0 : nv α' 0 = nv β 0 := hm 0 0 rfl
    have hR2 : R_draw ([] : List av_X) S1 (.inl none) S' := (by obtain ⟨Cc, hCc, ys, rr, hnm, hR, rest, hre⟩ := hRx; exact hR)
    obtain ⟨q1, q2⟩ := hR2
    have e4 := fr_pl hfr 806 4 (by decide +kernel)
    have er : ∀ k : Nat, k < 4 → mrw S' k = mrw S1 k ∧ mcl S' k = mcl S1 k := fun k hk => ⟨congrArg Int32.toInt (fr_pg hfr 806 (500, 512, 4) (by decide +kernel) (pg_mk (by omega) (by omega) (by omega))), congrArg Int32.toInt (fr_pg hfr 806 (502, 514, 4) (by decide +kernel) (pg_mk (by omega) (by omega) (by omega)))⟩
    obtain ⟨p1, p2⟩ := hp
    rw [p1] at q1 q2 e4 er
    have e0 : (skM S).2.1 = 1 := p2
    refine ih.2.1 _ _ _ _ Ha ?_ ?_
    · refine ⟨⟨?_, ?_, ?_⟩, er⟩
      · show _ = if (skM S).2.1 = 1 then nxtS (S.1 806 5).toInt % 31 - 10 else _
        rw [if_pos e0]; exact q1
      · show _ = (S.1 806 4).toInt
        rw [e4]
      · show _ = if (skM S).2.1 = 1 then nxtS (S.1 806 5).toInt else _
        rw [if_pos e0]; exact q2
    · omega
set_option maxHeartbeats 16000000 in
set_option maxRecDepth 8000 in
theorem kh_weatherDay_h14 {l : Launch} {D : va_G} {tc : Nat → ClassId} {ad : Nat → Nat} {kd : Nat → Nat × Nat} {N : Nat} {sm : Nat → Nat} {xs : List av_X} {S : fw_S} {p : Program} {e : Env} {s : State} {m : MethodId} {args : Array Value} {below : List Frame} {meth : Method} {c : Code} {sz : Nat} {lvE : List (Nat × Value)} (G : hd_C wd_ff2 wd_fl2 kh_weatherDay [kh_draw, kh_stormsGo, kh_884, kh_1218, kh_886, kh_887, kh_1219, kh_1220, kh_1221, kh_1222, kh_1223, kh_1224, kh_1225, kh_1226, kh_1227, kh_1228, kh_1229, kh_1230, kh_885] kh_weatherDay_y l D tc ad kd N sm xs p s m args meth c sz) (H0 : as_in ad sm wd_fl2 xs S kh_weatherDay.2.2.2.2.2.1 xs (hd_0 kh_weatherDay) lvE [] S) {k : Nat} (ih : kh_weatherDay_I l D tc ad kd N sm xs S p e s m args below meth c sz k) : (∀ (α : List av_X) (lv : List (Nat × Value)) (st : List Value) (S1 : fw_S), as_in ad sm wd_fl2 xs S kh_weatherDay.2.2.2.2.2.1 α kh_weatherDay_a14.2.2.1 lv st S1 → (mT S S1 ∧ ∀ k : Nat, k < 4 → mK S S1 k) → 450 < k + 1 → hd_WR R_wDay wd_fl2 kh_weatherDay kh_weatherDay_y l D tc ad kd N sm xs S p e s m args below meth c sz 14 lv st S1 0) := by
  have hx : xs.length = 1 := by rw [H0.2.1.1]; rfl
  intro α lv st S1 H hp hk
  obtain ⟨α1, hle, Hr⟩ := as_recM (pl := []) [] (by decide +kernel) H
  have hf := H.2.2.2.2.2.2.2.2.2.2.1
  have hl1 : α1.length = 1 := by rw [Hr.2.1.1]; rfl
  have hl0 : α.length = 1 := by rw [H.2.1.1]; rfl
  have hxa : al_le xs α1 := H.1.trans hle
  obtain ⟨g1, -, g3, g4, -⟩ := as_fx Hr
  have g0 : (805 ≤ nv α1 0 ∧ nv α1 0 ≤ 805) ∧ True := by
    refine ⟨by have h := (en_nv (i := 0) Hr.2.1 rfl).2; exact h, trivial⟩
  have r0 : nv α1 0 = nv α 0 := nv_le hle (by omega)
  refine hd_segMR G (na := 1) (fuel := 600) (first := true) (Bs := [kh_weatherDay_b14_0]) (by decide +kernel) hl1 Hr ?_
  intro q hq β lv' st' S' H1
  simp only [List.mem_cons, List.not_mem_nil, or_false] at hq
  rcases hq with rfl
  · obtain ⟨f1, f2, f3, f4, f5⟩ := as_fx H1
    simp only [kh_weatherDay_b14_0, Nat.reduceEqDiff, if_false, fx_env, fx_c, fx_ne, fx_hf, wl_S, Nat.zero_add, Nat.reduceAdd, Nat.reduceDiv, Nat.reduceMod, List.getElem?_cons_zero, List.getElem?_cons_succ, if_true, and_true, true_and] at f1 f2 f3 f4 f5
    have fe0 : nv β 0 = 805 := by omega
    try simp only [fe0, Int.reduceToNat] at f2 f3 f4 f5
    have s0 : nv β 0 = nv α1 0 := nv_le H1.1 (by omega)
    obtain ⟨α', Ha, hm⟩ := hd_gpM (q := kh_weatherDay_a15) (n := 0) (by decide +kernel) hx H1 (by decide +kernel) hxa hf
    have hfr := H1.2.2.2.2.2.2.2.2.2.2.1
    have m0 : nv α' 0 = nv β 0 := hm 0 0 rfl

    refine ih.2.2.1 _ _ _ _ Ha ?_ ?_
    · rw [show S' = S1 from f5]; exact hp
    · omega
set_option maxHeartbeats 16000000 in
set_option maxRecDepth 8000 in
theorem kh_weatherDay_h15 {l : Launch} {D : va_G} {tc : Nat → ClassId} {ad : Nat → Nat} {kd : Nat → Nat × Nat} {N : Nat} {sm : Nat → Nat} {xs : List av_X} {S : fw_S} {p : Program} {e : Env} {s : State} {m : MethodId} {args : Array Value} {below : List Frame} {meth : Method} {c : Code} {sz : Nat} {lvE : List (Nat × Value)} (G : hd_C wd_ff2 wd_fl2 kh_weatherDay [kh_draw, kh_stormsGo, kh_884, kh_1218, kh_886, kh_887, kh_1219, kh_1220, kh_1221, kh_1222, kh_1223, kh_1224, kh_1225, kh_1226, kh_1227, kh_1228, kh_1229, kh_1230, kh_885] kh_weatherDay_y l D tc ad kd N sm xs p s m args meth c sz) (H0 : as_in ad sm wd_fl2 xs S kh_weatherDay.2.2.2.2.2.1 xs (hd_0 kh_weatherDay) lvE [] S) {k : Nat} (ih : kh_weatherDay_I l D tc ad kd N sm xs S p e s m args below meth c sz k) : (∀ (α : List av_X) (lv : List (Nat × Value)) (st : List Value) (S1 : fw_S), as_in ad sm wd_fl2 xs S kh_weatherDay.2.2.2.2.2.1 α kh_weatherDay_a15.2.2.1 lv st S1 → (mT S S1 ∧ ∀ k : Nat, k < 4 → mK S S1 k) → 400 < k + 1 → hd_WR R_wDay wd_fl2 kh_weatherDay kh_weatherDay_y l D tc ad kd N sm xs S p e s m args below meth c sz 15 lv st S1 0) := by
  have hx : xs.length = 1 := by rw [H0.2.1.1]; rfl
  intro α lv st S1 H hp hk
  obtain ⟨α1, hle, Hr⟩ := as_recM (pl := []) [((806, 806), (500, 512, 4)), ((806, 806), (502, 514, 4))] (by decide +kernel) H
  have hf := H.2.2.2.2.2.2.2.2.2.2.1
  have hl1 : α1.length = 1 := by rw [Hr.2.1.1]; rfl
  have hl0 : α.length = 1 := by rw [H.2.1.1]; rfl
  have hxa : al_le xs α1 := H.1.trans hle
  obtain ⟨g1, -, g3, g4, -⟩ := as_fx Hr
  have g0 : (805 ≤ nv α1 0 ∧ nv α1 0 ≤ 805) ∧ True := by
    refine ⟨by have h := (en_nv (i := 0) Hr.2.1 rfl).2; exact h, trivial⟩
  have r0 : nv α1 0 = nv α 0 := nv_le hle (by omega)
  refine hd_callRR (Rr := R_stormsGo) (Rs := [kh_stormsGo]) (idx := 945) G (List.forall_mem_cons.mpr ⟨kh_stormsGo_okR, List.forall_mem_nil _⟩) (na := 1) (Bs := [kh_weatherDay_b15_0]) (by decide +kernel) (by decide +kernel) hl1 Hr ?_
  intro q hq β lv' st' S' H1 hRx
  simp only [List.mem_cons, List.not_mem_nil, or_false] at hq
  rcases hq with rfl
  · obtain ⟨f1, f2, f3, f4, f5⟩ := as_fx H1
    simp only [kh_weatherDay_b15_0, Nat.reduceEqDiff, if_false, fx_env, fx_c, fx_ne, fx_hf, wl_S, Nat.zero_add, Nat.reduceAdd, Nat.reduceDiv, Nat.reduceMod, List.getElem?_cons_zero, List.getElem?_cons_succ, if_true, and_true, true_and] at f1 f2 f3 f4 f5
    have fe0 : nv β 0 = 805 := by omega
    try simp only [fe0, Int.reduceToNat] at f2 f3 f4 f5
    have s0 : nv β 0 = nv α1 0 := nv_le H1.1 (by omega)
    obtain ⟨α', Ha, hm⟩ := hd_gpM (q := kh_weatherDay_a18) (n := 0) (by decide +kernel) hx H1 (by decide +kernel) hxa hf
    have hfr := H1.2.2.2.2.2.2.2.2.2.2.1
    have m0 : nv α' 0 = nv β 0 := hm 0 0 rfl
    have hR2 : ∀ k : Nat, k < 4 → mM S1 S' k := (by obtain ⟨Cc, hCc, ys, rr, hnm, hR, rest, hre⟩ := hRx; exact hR)
    have e1 := fr_pl hfr 806 1 (by decide +kernel)
    have e4 := fr_pl hfr 806 4 (by decide +kernel)
    have e5' := fr_pl hfr 806 5 (by decide +kernel)
    obtain ⟨p1, p2⟩ := hp
    refine ih.2.2.2.1 _ _ _ _ Ha ?_ ?_
    · refine ⟨?_, fun k hk => ?_⟩
      · unfold mT at p1 ⊢
        rw [e1, e4, e5']; exact p1
      · have g := hR2 k hk
        unfold mM at g ⊢
        rw [(p2 k hk).1, (p2 k hk).2] at g
        exact g
    · omega
set_option maxHeartbeats 16000000 in
set_option maxRecDepth 8000 in
theorem kh_weatherDay_h18 {l : Launch} {D : va_G} {tc : Nat → ClassId} {ad : Nat → Nat} {kd : Nat → Nat × Nat} {N : Nat} {sm : Nat → Nat} {xs : List av_X} {S : fw_S} {p : Program} {e : Env} {s : State} {m : MethodId} {args : Array Value} {below : List Frame} {meth : Method} {c : Code} {sz : Nat} {lvE : List (Nat × Value)} (G : hd_C wd_ff2 wd_fl2 kh_weatherDay [kh_draw, kh_stormsGo, kh_884, kh_1218, kh_886, kh_887, kh_1219, kh_1220, kh_1221, kh_1222, kh_1223, kh_1224, kh_1225, kh_1226, kh_1227, kh_1228, kh_1229, kh_1230, kh_885] kh_weatherDay_y l D tc ad kd N sm xs p s m args meth c sz) (H0 : as_in ad sm wd_fl2 xs S kh_weatherDay.2.2.2.2.2.1 xs (hd_0 kh_weatherDay) lvE [] S) {k : Nat} (ih : kh_weatherDay_I l D tc ad kd N sm xs S p e s m args below meth c sz k) : (∀ (α : List av_X) (lv : List (Nat × Value)) (st : List Value) (S1 : fw_S), as_in ad sm wd_fl2 xs S kh_weatherDay.2.2.2.2.2.1 α kh_weatherDay_a18.2.2.1 lv st S1 → (mT S S1 ∧ ∀ k : Nat, k < 4 → mM S S1 k) → 300 < k + 1 → hd_WR R_wDay wd_fl2 kh_weatherDay kh_weatherDay_y l D tc ad kd N sm xs S p e s m args below meth c sz 18 lv st S1 0) := by
  have hx : xs.length = 1 := by rw [H0.2.1.1]; rfl
  intro α lv st S1 H hp hk
  obtain ⟨α1, hle, Hr⟩ := as_recM (pl := []) [((806, 806), (7, 7, 0)), ((806, 806), (142, 342, 4)), ((806, 806), (503, 515, 4))] (by decide +kernel) H
  have hf := H.2.2.2.2.2.2.2.2.2.2.1
  have hl1 : α1.length = 1 := by rw [Hr.2.1.1]; rfl
  have hl0 : α.length = 1 := by rw [H.2.1.1]; rfl
  have hxa : al_le xs α1 := H.1.trans hle
  obtain ⟨g1, -, g3, g4, -⟩ := as_fx Hr
  have g0 : (805 ≤ nv α1 0 ∧ nv α1 0 ≤ 805) ∧ True := by
    refine ⟨by have h := (en_nv (i := 0) Hr.2.1 rfl).2; exact h, trivial⟩
  have r0 : nv α1 0 = nv α 0 := nv_le hle (by omega)
  refine hd_segMR G (na := 1) (fuel := 600) (first := true) (Bs := [kh_weatherDay_b18_0]) (by decide +kernel) hl1 Hr ?_
  intro q hq β lv' st' S' H1
  simp only [List.mem_cons, List.not_mem_nil, or_false] at hq
  rcases hq with rfl
  · obtain ⟨f1, f2, f3, f4, f5⟩ := as_fx H1
    simp only [kh_weatherDay_b18_0, Nat.reduceEqDiff, if_false, fx_env, fx_c, fx_ne, fx_hf, wl_S, Nat.zero_add, Nat.reduceAdd, Nat.reduceDiv, Nat.reduceMod, List.getElem?_cons_zero, List.getElem?_cons_succ, if_true, and_true, true_and] at f1 f2 f3 f4 f5
    have fe0 : nv β 0 = 805 := by omega
    have fe1 : nv β 1 = 0 := by omega
    try simp only [fe0, fe1, Int.reduceToNat] at f2 f3 f4 f5
    have s0 : nv β 0 = nv α1 0 := nv_le H1.1 (by omega)
    obtain ⟨α', Ha, hm⟩ := hd_gpM (q := kh_weatherDay_a24) (n := 0) (by decide +kernel) hx H1 (by decide +kernel) hxa hf
    have hfr := H1.2.2.2.2.2.2.2.2.2.2.1
    have m0 : nv α' 0 = nv β 0 := hm 0 0 rfl
    have m1 : nv α' 1 = nv β 1 := hm 1 1 rfl
    have e1 := fr_pl hfr 806 1 (by decide +kernel)
    have e4 := fr_pl hfr 806 4 (by decide +kernel)
    have e5' := fr_pl hfr 806 5 (by decide +kernel)
    have er : ∀ k : Nat, k < 4 → mrw S' k = mrw S1 k ∧ mcl S' k = mcl S1 k := fun k hk => ⟨congrArg Int32.toInt (fr_pg hfr 806 (500, 512, 4) (by decide +kernel) (pg_mk (by omega) (by omega) (by omega))), congrArg Int32.toInt (fr_pg hfr 806 (502, 514, 4) (by decide +kernel) (pg_mk (by omega) (by omega) (by omega)))⟩
    obtain ⟨p1, p2⟩ := hp
    refine ih.2.2.2.2.1 _ _ _ _ Ha ?_ ?_
    · refine ⟨?_, fun k hk => ?_⟩
      · unfold mT at p1 ⊢
        rw [e1, e4, e5']; exact p1
      · have g := p2 k hk
        unfold mM at g ⊢
        rw [(er k hk).1, (er k hk).2]
        exact g
    · omega
set_option maxHeartbeats 16000000 in
set_option maxRecDepth 8000 in
theorem kh_weatherDay_h24 {l : Launch} {D : va_G} {tc : Nat → ClassId} {ad : Nat → Nat} {kd : Nat → Nat × Nat} {N : Nat} {sm : Nat → Nat} {xs : List av_X} {S : fw_S} {p : Program} {e : Env} {s : State} {m : MethodId} {args : Array Value} {below : List Frame} {meth : Method} {c : Code} {sz : Nat} {lvE : List (Nat × Value)} (G : hd_C wd_ff2 wd_fl2 kh_weatherDay [kh_draw, kh_stormsGo, kh_884, kh_1218, kh_886, kh_887, kh_1219, kh_1220, kh_1221, kh_1222, kh_1223, kh_1224, kh_1225, kh_1226, kh_1227, kh_1228, kh_1229, kh_1230, kh_885] kh_weatherDay_y l D tc ad kd N sm xs p s m args meth c sz) (H0 : as_in ad sm wd_fl2 xs S kh_weatherDay.2.2.2.2.2.1 xs (hd_0 kh_weatherDay) lvE [] S) {k : Nat} (ih : kh_weatherDay_I l D tc ad kd N sm xs S p e s m args below meth c sz k) : (∀ (α : List av_X) (lv : List (Nat × Value)) (st : List Value) (S1 : fw_S), as_in ad sm wd_fl2 xs S kh_weatherDay.2.2.2.2.2.1 α kh_weatherDay_a24.2.2.1 lv st S1 → (mT S S1 ∧ ∀ k : Nat, k < 4 → mM S S1 k) → (17 - nv α 1).toNat < k + 1 → hd_WR R_wDay wd_fl2 kh_weatherDay kh_weatherDay_y l D tc ad kd N sm xs S p e s m args below meth c sz 24 lv st S1 0) := by
  have hx : xs.length = 1 := by rw [H0.2.1.1]; rfl
  intro α lv st S1 H hp hk
  obtain ⟨α1, hle, Hr⟩ := as_recM (pl := []) [((806, 806), (12, 12, 0)), ((806, 806), (83, 99, 1))] (by decide +kernel) H
  have hf := H.2.2.2.2.2.2.2.2.2.2.1
  have hl1 : α1.length = 2 := by rw [Hr.2.1.1]; rfl
  have hl0 : α.length = 2 := by rw [H.2.1.1]; rfl
  have hxa : al_le xs α1 := H.1.trans hle
  obtain ⟨g1, -, g3, g4, -⟩ := as_fx Hr
  have g0 : (805 ≤ nv α1 0 ∧ nv α1 0 ≤ 805) ∧ (0 ≤ nv α1 1 ∧ nv α1 1 ≤ 17) ∧ True := by
    refine ⟨by have h := (en_nv (i := 0) Hr.2.1 rfl).2; exact h, by have h := (en_nv (i := 1) Hr.2.1 rfl).2; exact h, trivial⟩
  have r0 : nv α1 0 = nv α 0 := nv_le hle (by omega)
  have r1 : nv α1 1 = nv α 1 := nv_le hle (by omega)
  refine hd_segMR G (na := 2) (fuel := 600) (first := true) (Bs := [kh_weatherDay_b24_0, kh_weatherDay_b24_1, kh_weatherDay_b24_2]) (by decide +kernel) hl1 Hr ?_
  intro q hq β lv' st' S' H1
  simp only [List.mem_cons, List.not_mem_nil, or_false] at hq
  rcases hq with rfl | rfl | rfl
  · obtain ⟨f1, f2, f3, f4, f5⟩ := as_fx H1
    simp only [kh_weatherDay_b24_0, Nat.reduceEqDiff, if_false, fx_env, fx_c, fx_ne, fx_hf, wl_S, Nat.zero_add, Nat.reduceAdd, Nat.reduceDiv, Nat.reduceMod, List.getElem?_cons_zero, List.getElem?_cons_succ, if_true, and_true, true_and] at f1 f2 f3 f4 f5
    have fe0 : nv β 0 = 805 := by omega
    have fe1 : nv β 1 = 17 := by omega
    have fe2 : nv β 2 = 17 := by omega
    try simp only [fe0, fe1, fe2, Int.reduceToNat] at f2 f3 f4 f5
    have s0 : nv β 0 = nv α1 0 := nv_le H1.1 (by omega)
    have s1 : nv β 1 = nv α1 1 := nv_le H1.1 (by omega)
    have c0 := f2
    exact hd_retVR G (by decide +kernel) (as_backM H1 (by decide +kernel) hxa hf) (by decide +kernel) (by decide) (by rw [show S' = S1 from f5]; exact mT_in hp.1 hp.2)
  · obtain ⟨f1, f2, f3, f4, f5⟩ := as_fx H1
    simp only [kh_weatherDay_b24_1, Nat.reduceEqDiff, if_false, fx_env, fx_c, fx_ne, fx_hf, wl_S, Nat.zero_add, Nat.reduceAdd, Nat.reduceDiv, Nat.reduceMod, List.getElem?_cons_zero, List.getElem?_cons_succ, if_true, and_true, true_and] at f1 f2 f3 f4 f5
    have fe0 : nv β 0 = 805 := by omega
    have fe2 : nv β 2 = 17 := by omega
    have fe3 : nv β 3 = 806 := by omega
    have fe4 : nv β 4 = 3 := by omega
    have fe6 : nv β 6 = 1 := by omega
    have fe7 : nv β 7 = 806 := by omega
    have fe8 : nv β 8 = 83 := by omega
    have fe10 : nv β 10 = 1 := by omega
    have fe11 : nv β 11 = 5 := by omega
    have fe12 : nv β 12 = 1 := by omega
    try simp only [fe0, fe2, fe3, fe4, fe6, fe7, fe8, fe10, fe11, fe12, Int.reduceToNat] at f2 f3 f4 f5
    have s0 : nv β 0 = nv α1 0 := nv_le H1.1 (by omega)
    have s1 : nv β 1 = nv α1 1 := nv_le H1.1 (by omega)
    obtain ⟨c0, c1, c2⟩ := f2
    obtain ⟨α', Ha, hm⟩ := hd_gpM (q := kh_weatherDay_a24) (n := 0) (by decide +kernel) hx H1 (by decide +kernel) hxa hf
    have hfr := H1.2.2.2.2.2.2.2.2.2.2.1
    have m0 : nv α' 0 = nv β 0 := hm 0 0 rfl
    have m1 : nv α' 1 = nv β 13 := hm 1 13 rfl
    have e1 := fr_pl hfr 806 1 (by decide +kernel)
    have e4 := fr_pl hfr 806 4 (by decide +kernel)
    have e5' := fr_pl hfr 806 5 (by decide +kernel)
    have er : ∀ k : Nat, k < 4 → mrw S' k = mrw S1 k ∧ mcl S' k = mcl S1 k := fun k hk => ⟨congrArg Int32.toInt (fr_pg hfr 806 (500, 512, 4) (by decide +kernel) (pg_mk (by omega) (by omega) (by omega))), congrArg Int32.toInt (fr_pg hfr 806 (502, 514, 4) (by decide +kernel) (pg_mk (by omega) (by omega) (by omega)))⟩
    obtain ⟨p1, p2⟩ := hp
    refine ih.2.2.2.2.1 _ _ _ _ Ha ?_ ?_
    · refine ⟨?_, fun k hk => ?_⟩
      · unfold mT at p1 ⊢
        rw [e1, e4, e5']; exact p1
      · have g := p2 k hk
        unfold mM at g ⊢
        rw [(er k hk).1, (er k hk).2]
        exact g
    · omega
  · obtain ⟨f1, f2, f3, f4, f5⟩ := as_fx H1
    simp only [kh_weatherDay_b24_2, Nat.reduceEqDiff, if_false, fx_env, fx_c, fx_ne, fx_hf, wl_S, Nat.zero_add, Nat.reduceAdd, Nat.reduceDiv, Nat.reduceMod, List.getElem?_cons_zero, List.getElem?_cons_succ, if_true, and_true, true_and] at f1 f2 f3 f4 f5
    have fe0 : nv β 0 = 805 := by omega
    have fe2 : nv β 2 = 17 := by omega
    have fe3 : nv β 3 = 806 := by omega
    have fe4 : nv β 4 = 3 := by omega
    have fe6 : nv β 6 = 0 := by omega
    have fe7 : nv β 7 = 806 := by omega
    have fe8 : nv β 8 = 83 := by omega
    have fe10 : nv β 10 = 0 := by omega
    have fe11 : nv β 11 = 5 := by omega
    have fe12 : nv β 12 = 0 := by omega
    try simp only [fe0, fe2, fe3, fe4, fe6, fe7, fe8, fe10, fe11, fe12, Int.reduceToNat] at f2 f3 f4 f5
    have s0 : nv β 0 = nv α1 0 := nv_le H1.1 (by omega)
    have s1 : nv β 1 = nv α1 1 := nv_le H1.1 (by omega)
    obtain ⟨c0, c1, c2⟩ := f2
    obtain ⟨α', Ha, hm⟩ := hd_gpM (q := kh_weatherDay_a24) (n := 0) (by decide +kernel) hx H1 (by decide +kernel) hxa hf
    have hfr := H1.2.2.2.2.2.2.2.2.2.2.1
    have m0 : nv α' 0 = nv β 0 := hm 0 0 rfl
    have m1 : nv α' 1 = nv β 13 := hm 1 13 rfl
    have e1 := fr_pl hfr 806 1 (by decide +kernel)
    have e4 := fr_pl hfr 806 4 (by decide +kernel)
    have e5' := fr_pl hfr 806 5 (by decide +kernel)
    have er : ∀ k : Nat, k < 4 → mrw S' k = mrw S1 k ∧ mcl S' k = mcl S1 k := fun k hk => ⟨congrArg Int32.toInt (fr_pg hfr 806 (500, 512, 4) (by decide +kernel) (pg_mk (by omega) (by omega) (by omega))), congrArg Int32.toInt (fr_pg hfr 806 (502, 514, 4) (by decide +kernel) (pg_mk (by omega) (by omega) (by omega)))⟩
    obtain ⟨p1, p2⟩ := hp
    refine ih.2.2.2.2.1 _ _ _ _ Ha ?_ ?_
    · refine ⟨?_, fun k hk => ?_⟩
      · unfold mT at p1 ⊢
        rw [e1, e4, e5']; exact p1
      · have g := p2 k hk
        unfold mM at g ⊢
        rw [(er k hk).1, (er k hk).2]
        exact g
    · omega
set_option maxHeartbeats 16000000 in
set_option maxRecDepth 8000 in
theorem kh_weatherDay_okR : ct_okR wd_fl2 kh_weatherDay R_wDay := ct_handR (R := R_wDay) (ff := wd_ff2) (y := kh_weatherDay_y) (Cs := [kh_draw, kh_stormsGo, kh_884, kh_1218, kh_886, kh_887, kh_1219, kh_1220, kh_1221, kh_1222, kh_1223, kh_1224, kh_1225, kh_1226, kh_1227, kh_1228, kh_1229, kh_1230, kh_885]) wd_fl2_ok rfl (List.forall_mem_cons.mpr ⟨kh_draw_ok, (List.forall_mem_cons.mpr ⟨kh_stormsGo_ok, (List.forall_mem_cons.mpr ⟨kh_884_ok, (List.forall_mem_cons.mpr ⟨kh_1218_ok, (List.forall_mem_cons.mpr ⟨kh_886_ok, (List.forall_mem_cons.mpr ⟨kh_887_ok, (List.forall_mem_cons.mpr ⟨kh_1219_ok, (List.forall_mem_cons.mpr ⟨kh_1220_ok, (List.forall_mem_cons.mpr ⟨kh_1221_ok, (List.forall_mem_cons.mpr ⟨kh_1222_ok, (List.forall_mem_cons.mpr ⟨kh_1223_ok, (List.forall_mem_cons.mpr ⟨kh_1224_ok, (List.forall_mem_cons.mpr ⟨kh_1225_ok, (List.forall_mem_cons.mpr ⟨kh_1226_ok, (List.forall_mem_cons.mpr ⟨kh_1227_ok, (List.forall_mem_cons.mpr ⟨kh_1228_ok, (List.forall_mem_cons.mpr ⟨kh_1229_ok, (List.forall_mem_cons.mpr ⟨kh_1230_ok, (List.forall_mem_cons.mpr ⟨kh_885_ok, (List.forall_mem_nil _)⟩)⟩)⟩)⟩)⟩)⟩)⟩)⟩)⟩)⟩)⟩)⟩)⟩)⟩)⟩)⟩)⟩)⟩)⟩) (by decide +kernel) (fun l D tc ad kd N sm xs S p e s m args below meth c sz lv G H0 => by
  have hx : xs.length = 1 := by rw [H0.2.1.1]; rfl
  have hP : ∀ (k : Nat), kh_weatherDay_I l D tc ad kd N sm xs S p e s m args below meth c sz k := by
    intro k
    induction k with
    | zero => exact ⟨fun _ _ _ _ _ _ h => absurd h (Nat.not_lt_zero _), fun _ _ _ _ _ _ h => absurd h (Nat.not_lt_zero _), fun _ _ _ _ _ _ h => absurd h (Nat.not_lt_zero _), fun _ _ _ _ _ _ h => absurd h (Nat.not_lt_zero _), fun _ _ _ _ _ _ h => absurd h (Nat.not_lt_zero _), trivial⟩
    | succ k ih => exact ⟨kh_weatherDay_h11 G H0 ih, kh_weatherDay_h14 G H0 ih, kh_weatherDay_h15 G H0 ih, kh_weatherDay_h18 G H0 ih, kh_weatherDay_h24 G H0 ih, trivial⟩
  obtain ⟨α1, hle, Hr⟩ := as_recM (pl := []) [] (by decide +kernel) H0
  have hf := H0.2.2.2.2.2.2.2.2.2.2.1
  have hl1 : α1.length = 1 := by rw [Hr.2.1.1]; rfl
  have hl0 : xs.length = 1 := by rw [H0.2.1.1]; rfl
  have hxa : al_le xs α1 := H0.1.trans hle
  obtain ⟨g1, -, g3, g4, -⟩ := as_fx Hr
  have g0 : (805 ≤ nv α1 0 ∧ nv α1 0 ≤ 805) ∧ True := by
    refine ⟨by have h := (en_nv (i := 0) Hr.2.1 rfl).2; exact h, trivial⟩
  have r0 : nv α1 0 = nv xs 0 := nv_le hle (by omega)
  refine hd_segMR G (na := 1) (fuel := 600) (first := true) (Bs := [kh_weatherDay_b0_0, kh_weatherDay_b0_1]) (by decide +kernel) hl1 Hr ?_
  intro q hq β lv' st' S' H1
  simp only [List.mem_cons, List.not_mem_nil, or_false] at hq
  rcases hq with rfl | rfl
  · obtain ⟨f1, f2, f3, f4, f5⟩ := as_fx H1
    simp only [kh_weatherDay_b0_0, Nat.reduceEqDiff, if_false, fx_env, fx_c, fx_ne, fx_hf, wl_S, Nat.zero_add, Nat.reduceAdd, Nat.reduceDiv, Nat.reduceMod, List.getElem?_cons_zero, List.getElem?_cons_succ, if_true, and_true, true_and] at f1 f2 f3 f4 f5
    have fe0 : nv β 0 = 805 := by omega
    have fe1 : nv β 1 = 806 := by omega
    have fe2 : nv β 2 = 4 := by omega
    have fe3 : nv β 3 = 0 := by omega
    have fe4 : nv β 4 = 1 := by omega
    try simp only [fe0, fe1, fe2, fe3, fe4, Int.reduceToNat] at f2 f3 f4 f5
    have s0 : nv β 0 = nv α1 0 := nv_le H1.1 (by omega)
    obtain ⟨c0, c1⟩ := f2
    obtain ⟨α', Ha, hm⟩ := hd_gpM (q := kh_weatherDay_a14) (n := 0) (by decide +kernel) hx H1 (by decide +kernel) hxa hf
    have hfr := H1.2.2.2.2.2.2.2.2.2.2.1
    have m0 : nv α' 0 = nv β 0 := hm 0 0 rfl
    have o1 := old_0 c1 rfl
    refine (hP _).2.1 _ _ _ _ Ha ?_ (Nat.lt_succ_self _)
    · rw [show S' = S from f5]
      have e0 : ¬ (skM S).2.1 = 1 := by show ¬ (S.1 806 4).toInt = 1; rw [o1]; omega
      refine ⟨⟨?_, rfl, ?_⟩, fun k hk => ⟨rfl, rfl⟩⟩
      · show _ = if (skM S).2.1 = 1 then _ else _
        rw [if_neg e0]; rfl
      · show _ = if (skM S).2.1 = 1 then _ else _
        rw [if_neg e0]; rfl
  · obtain ⟨f1, f2, f3, f4, f5⟩ := as_fx H1
    simp only [kh_weatherDay_b0_1, Nat.reduceEqDiff, if_false, fx_env, fx_c, fx_ne, fx_hf, wl_S, Nat.zero_add, Nat.reduceAdd, Nat.reduceDiv, Nat.reduceMod, List.getElem?_cons_zero, List.getElem?_cons_succ, if_true, and_true, true_and] at f1 f2 f3 f4 f5
    have fe0 : nv β 0 = 805 := by omega
    have fe1 : nv β 1 = 806 := by omega
    have fe2 : nv β 2 = 4 := by omega
    have fe3 : nv β 3 = 1 := by omega
    have fe4 : nv β 4 = 1 := by omega
    try simp only [fe0, fe1, fe2, fe3, fe4, Int.reduceToNat] at f2 f3 f4 f5
    have s0 : nv β 0 = nv α1 0 := nv_le H1.1 (by omega)
    obtain ⟨c0, c1⟩ := f2
    obtain ⟨α', Ha, hm⟩ := hd_gpM (q := kh_weatherDay_a11) (n := 0) (by decide +kernel) hx H1 (by decide +kernel) hxa hf
    have hfr := H1.2.2.2.2.2.2.2.2.2.2.1
    have m0 : nv α' 0 = nv β 0 := hm 0 0 rfl
    have o1 := old_0 c1 rfl
    refine (hP _).1 _ _ _ _ Ha ?_ (Nat.lt_succ_self _)
    · exact ⟨f5, o1.trans (by omega)⟩)
theorem kh_weatherDay_ok : ct_ok wd_fl2 kh_weatherDay := ct_okR_ok kh_weatherDay_okR
abbrev kh_mDay_y : mt_T := (⟨"UtilityWorksModel", "dayGoes", "()V"⟩, prog_14_method_38_code, 1, none, 12, 1, 0, 33048, 33047, 6001, 21014)
def kh_mDay : ct_T := (378, [(2, 805, 805, 0)], [], [510, 513, 515], [(0, (0, 0, 0, 0), [(2, 805, 805, 0)], [], ([510, 513, 515], []))], [((805, 805), (21, 65, 1)), ((806, 806), (0, 0, 0)), ((806, 806), (1, 1, 0)), ((806, 806), (2, 2, 0)), ((806, 806), (3, 3, 0)), ((806, 806), (5, 5, 0)), ((806, 806), (7, 7, 0)), ((806, 806), (8, 499, 1)), ((806, 806), (500, 512, 4)), ((806, 806), (502, 514, 4)), ((806, 806), (503, 515, 4)), ((806, 806), (516, 4104, 1)), ((807, 807), (0, 3501, 1)), ((813, 813), (0, 11, 1)), ((814, 814), (0, 11, 1)), ((815, 815), (0, 16, 1)), ((816, 816), (0, 16, 1)), ((817, 817), (0, 11, 1)), ((818, 818), (0, 3, 1)), ((819, 819), (0, 11, 1)), ((820, 820), (0, 16, 1)), ((821, 821), (0, 2, 1)), ((822, 822), (0, 1, 1)), ((823, 823), (0, 9, 1)), ((824, 824), (0, 9, 1)), ((825, 825), (0, 11, 1)), ((827, 827), (0, 2, 1)), ((827, 827), (3, 6, 1)), ((828, 828), (0, 2, 1)), ((828, 828), (3, 6, 1)), ((829, 829), (0, 6, 1)), ((830, 830), (0, 6, 1)), ((831, 831), (0, 11, 1)), ((832, 832), (0, 11, 1)), ((833, 833), (0, 11, 1)), ((834, 834), (0, 11, 1)), ((835, 835), (0, 11, 1)), ((836, 836), (0, 11, 1)), ((837, 837), (0, 11, 1)), ((838, 838), (0, 11, 1)), ((839, 839), (0, 33, 1)), ((840, 840), (0, 11, 1)), ((841, 841), (0, 10, 1)), ((843, 843), (0, 1, 1)), ((844, 844), (0, 9, 1)), ((845, 845), (0, 11, 1)), ((846, 846), (0, 1, 1)), ((847, 847), (0, 1, 1)), ((848, 848), (0, 33, 1)), ((849, 849), (0, 16, 1)), ((850, 850), (0, 11, 1)), ((851, 851), (0, 11, 1)), ((852, 852), (0, 11, 1)), ((854, 854), (0, 11, 1)), ((855, 855), (0, 23, 1)), ((856, 856), (0, 287, 1)), ((857, 857), (0, 9, 1)), ((858, 858), (0, 9, 1)), ((859, 859), (0, 2, 1))], 10, 231, 0)
def kh_mDay_a1 : an_T := (1, 0, ([((2, 805, 805, 0), none)], [(0, 0)], [0], [], [], [], [], [510, 513, 515], none), [])
def kh_mDay_a4 : an_T := (4, 0, ([((2, 805, 805, 0), none)], [(0, 0)], [], [], [], [], [], [510, 513, 515], none), [])
def kh_mDay_a36 : an_T := (36, 0, ([((2, 805, 805, 0), none)], [(0, 0)], [], [], [], [], [], [510, 513], none), [])
def kh_mDay_a45 : an_T := (45, 0, ([((2, 805, 805, 0), none), ((0, 1, 1000, 1), none), ((0, 0, 0, 0), none), ((2, 806, 806, 1), none)], [(0, 0)], [1, 2, 3], [], [], [], [], [510, 513], none), [])
def kh_mDay_b0_0 : sg_T := (1, 0, ([((2, 805, 805, 0), none)], [(0, 0)], [0], [], [], [], [], [510, 513, 515], some []))
def kh_mDay_b1_0 : sg_T := (4, 0, ([((2, 805, 805, 0), none)], [(0, 0)], [], [], [], [], [], [510, 513, 515, 510, 513, 515], none))
def kh_mDay_b4_0 : sg_T := (36, 0, ([((2, 805, 805, 0), none)], [(0, 0)], [], [], [], [], [], [513, 510, 516], none))
def kh_mDay_b36_0 : sg_T := (45, 0, ([((2, 805, 805, 0), none), ((2, 806, 806, 1), none), ((0, 0, 0, 0), none), ((0, 0, 999, 1), none), ((0, 1, 1, 0), none), ((0, 1, 1000, 1), some (3, 1))], [(0, 0)], [5, 2, 1], [(1, 2, 3)], [], [(500005, 3, 4), (800003, 1, 2)], [], [510, 513], some []))
def kh_mDay_b45_0 : sg_T := (46, 0, ([((2, 805, 805, 0), none), ((0, 1, 999, 1), none), ((0, 0, 0, 0), none), ((2, 806, 806, 1), none)], [(0, 0)], [], [(3, 2, 1)], [], [], [], [510, 513], some [(3, 2, 1)]))
def kh_mDay_I (l : Launch) (D : va_G) (tc : Nat → ClassId) (ad : Nat → Nat) (kd : Nat → Nat × Nat) (N : Nat) (sm : Nat → Nat) (xs : List av_X) (S : fw_S) (p : Program) (e : Env) (s : State) (m : MethodId) (args : Array Value) (below : List Frame) (meth : Method) (c : Code) (sz : Nat) (k : Nat) : Prop := (∀ (α : List av_X) (lv : List (Nat × Value)) (st : List Value) (S1 : fw_S), as_in ad sm wd_fl2 xs S kh_mDay.2.2.2.2.2.1 α kh_mDay_a1.2.2.1 lv st S1 → (S1 = S) → 9 < k → hd_WR R_mDay wd_fl2 kh_mDay kh_mDay_y l D tc ad kd N sm xs S p e s m args below meth c sz 1 lv st S1 0) ∧ (∀ (α : List av_X) (lv : List (Nat × Value)) (st : List Value) (S1 : fw_S), as_in ad sm wd_fl2 xs S kh_mDay.2.2.2.2.2.1 α kh_mDay_a4.2.2.1 lv st S1 → (S1.1 806 0 = S.1 806 0 ∧ skM S1 = skN (skM S)) → 7 < k → hd_WR R_mDay wd_fl2 kh_mDay kh_mDay_y l D tc ad kd N sm xs S p e s m args below meth c sz 4 lv st S1 0) ∧ (∀ (α : List av_X) (lv : List (Nat × Value)) (st : List Value) (S1 : fw_S), as_in ad sm wd_fl2 xs S kh_mDay.2.2.2.2.2.1 α kh_mDay_a36.2.2.1 lv st S1 → (S1.1 806 0 = S.1 806 0 ∧ blF (S1.1 806) 1 ∧ skM S1 = skN (skM S)) → 5 < k → hd_WR R_mDay wd_fl2 kh_mDay kh_mDay_y l D tc ad kd N sm xs S p e s m args below meth c sz 36 lv st S1 0) ∧ (∀ (α : List av_X) (lv : List (Nat × Value)) (st : List Value) (S1 : fw_S), as_in ad sm wd_fl2 xs S kh_mDay.2.2.2.2.2.1 α kh_mDay_a45.2.2.1 lv st S1 → (S1.1 806 0 = S.1 806 0 ∧ blF (S1.1 806) 1 ∧ nv α 1 = (S.1 806 0).toInt + 1 ∧ nv α 1 ≤ 999 ∧ skM S1 = skN (skM S)) → 1 < k → hd_WR R_mDay wd_fl2 kh_mDay kh_mDay_y l D tc ad kd N sm xs S p e s m args below meth c sz 45 lv st S1 0) ∧ True
set_option maxHeartbeats 16000000 in
set_option maxRecDepth 8000 in
theorem kh_mDay_h1 {l : Launch} {D : va_G} {tc : Nat → ClassId} {ad : Nat → Nat} {kd : Nat → Nat × Nat} {N : Nat} {sm : Nat → Nat} {xs : List av_X} {S : fw_S} {p : Program} {e : Env} {s : State} {m : MethodId} {args : Array Value} {below : List Frame} {meth : Method} {c : Code} {sz : Nat} {lvE : List (Nat × Value)} (G : hd_C wd_ff2 wd_fl2 kh_mDay [kh_weatherDay, kh_crewsDay, kh_891, kh_898, kh_heatDay, kh_916, kh_booksDay, kh_storesDay2, kh_918] kh_mDay_y l D tc ad kd N sm xs p s m args meth c sz) (H0 : as_in ad sm wd_fl2 xs S kh_mDay.2.2.2.2.2.1 xs (hd_0 kh_mDay) lvE [] S) (hpre : P_dayGoes xs S) {k : Nat} (ih : kh_mDay_I l D tc ad kd N sm xs S p e s m args below meth c sz k) : (∀ (α : List av_X) (lv : List (Nat × Value)) (st : List Value) (S1 : fw_S), as_in ad sm wd_fl2 xs S kh_mDay.2.2.2.2.2.1 α kh_mDay_a1.2.2.1 lv st S1 → (S1 = S) → 9 < k + 1 → hd_WR R_mDay wd_fl2 kh_mDay kh_mDay_y l D tc ad kd N sm xs S p e s m args below meth c sz 1 lv st S1 0) := by
  have hx : xs.length = 1 := by rw [H0.2.1.1]; rfl
  intro α lv st S1 H hp hk
  obtain ⟨α1, hle, Hr⟩ := as_recM (pl := []) [((806, 806), (1, 1, 0)), ((806, 806), (2, 2, 0)), ((806, 806), (3, 3, 0)), ((806, 806), (5, 5, 0)), ((806, 806), (7, 7, 0)), ((806, 806), (12, 12, 0)), ((806, 806), (83, 99, 1)), ((806, 806), (142, 342, 4)), ((806, 806), (500, 512, 4)), ((806, 806), (502, 514, 4)), ((806, 806), (503, 515, 4))] (by decide +kernel) H
  have hf := H.2.2.2.2.2.2.2.2.2.2.1
  have hl1 : α1.length = 1 := by rw [Hr.2.1.1]; rfl
  have hl0 : α.length = 1 := by rw [H.2.1.1]; rfl
  have hxa : al_le xs α1 := H.1.trans hle
  obtain ⟨g1, -, g3, g4, -⟩ := as_fx Hr
  have g0 : (805 ≤ nv α1 0 ∧ nv α1 0 ≤ 805) ∧ True := by
    refine ⟨by have h := (en_nv (i := 0) Hr.2.1 rfl).2; exact h, trivial⟩
  have r0 : nv α1 0 = nv α 0 := nv_le hle (by omega)
  refine hd_callRR (Rr := R_wDay) (Rs := [kh_weatherDay]) (idx := 290) G (List.forall_mem_cons.mpr ⟨kh_weatherDay_okR, List.forall_mem_nil _⟩) (na := 1) (Bs := [kh_mDay_b1_0]) (by decide +kernel) (by decide +kernel) hl1 Hr ?_
  intro q hq β lv' st' S' H1 hRx
  simp only [List.mem_cons, List.not_mem_nil, or_false] at hq
  rcases hq with rfl
  · obtain ⟨f1, f2, f3, f4, f5⟩ := as_fx H1
    simp only [kh_mDay_b1_0, Nat.reduceEqDiff, if_false, fx_env, fx_c, fx_ne, fx_hf, wl_S, Nat.zero_add, Nat.reduceAdd, Nat.reduceDiv, Nat.reduceMod, List.getElem?_cons_zero, List.getElem?_cons_succ, if_true, and_true, true_and] at f1 f2 f3 f4 f5
    have fe0 : nv β 0 = 805 := by omega
    try simp only [fe0, Int.reduceToNat] at f2 f3 f4 f5
    have s0 : nv β 0 = nv α1 0 := nv_le H1.1 (by omega)
    obtain ⟨α', Ha, hm⟩ := hd_gpM (q := kh_mDay_a4) (n := 0) (by decide +kernel) hx H1 (by decide +kernel) hxa hf
    have hfr := H1.2.2.2.2.2.2.2.2.2.2.1
    have m0 : nv α' 0 = nv β 0 := hm 0 0 rfl
    have hR2 : skM S' = skN (skM S1) := (by obtain ⟨Cc, hCc, ys, rr, hnm, hR, rest, hre⟩ := hRx; exact hR)
    have e0 := fr_pl hfr 806 0 (by decide +kernel)
    rw [hp] at hR2 e0
    refine ih.2.1 _ _ _ _ Ha ?_ ?_
    · exact ⟨e0, hR2⟩
    · omega
set_option maxHeartbeats 16000000 in
set_option maxRecDepth 8000 in
theorem kh_mDay_h4 {l : Launch} {D : va_G} {tc : Nat → ClassId} {ad : Nat → Nat} {kd : Nat → Nat × Nat} {N : Nat} {sm : Nat → Nat} {xs : List av_X} {S : fw_S} {p : Program} {e : Env} {s : State} {m : MethodId} {args : Array Value} {below : List Frame} {meth : Method} {c : Code} {sz : Nat} {lvE : List (Nat × Value)} (G : hd_C wd_ff2 wd_fl2 kh_mDay [kh_weatherDay, kh_crewsDay, kh_891, kh_898, kh_heatDay, kh_916, kh_booksDay, kh_storesDay2, kh_918] kh_mDay_y l D tc ad kd N sm xs p s m args meth c sz) (H0 : as_in ad sm wd_fl2 xs S kh_mDay.2.2.2.2.2.1 xs (hd_0 kh_mDay) lvE [] S) (hpre : P_dayGoes xs S) {k : Nat} (ih : kh_mDay_I l D tc ad kd N sm xs S p e s m args below meth c sz k) : (∀ (α : List av_X) (lv : List (Nat × Value)) (st : List Value) (S1 : fw_S), as_in ad sm wd_fl2 xs S kh_mDay.2.2.2.2.2.1 α kh_mDay_a4.2.2.1 lv st S1 → (S1.1 806 0 = S.1 806 0 ∧ skM S1 = skN (skM S)) → 7 < k + 1 → hd_WR R_mDay wd_fl2 kh_mDay kh_mDay_y l D tc ad kd N sm xs S p e s m args below meth c sz 4 lv st S1 0) := by
  have hx : xs.length = 1 := by rw [H0.2.1.1]; rfl
  intro α lv st S1 H hp hk
  obtain ⟨α1, hle, Hr⟩ := as_recM (pl := []) [((805, 805), (21, 65, 1)), ((806, 806), (8, 499, 1)), ((806, 806), (516, 4104, 1)), ((807, 807), (0, 3501, 1)), ((813, 813), (0, 11, 1)), ((814, 814), (0, 11, 1)), ((815, 815), (0, 16, 1)), ((816, 816), (0, 16, 1)), ((817, 817), (0, 11, 1)), ((818, 818), (0, 3, 1)), ((819, 819), (0, 11, 1)), ((820, 820), (0, 16, 1)), ((821, 821), (0, 2, 1)), ((822, 822), (0, 1, 1)), ((823, 823), (0, 9, 1)), ((824, 824), (0, 9, 1)), ((825, 825), (0, 11, 1)), ((827, 827), (0, 2, 1)), ((827, 827), (3, 6, 1)), ((828, 828), (0, 2, 1)), ((828, 828), (3, 6, 1)), ((829, 829), (0, 6, 1)), ((830, 830), (0, 6, 1)), ((831, 831), (0, 11, 1)), ((832, 832), (0, 11, 1)), ((833, 833), (0, 11, 1)), ((834, 834), (0, 11, 1)), ((835, 835), (0, 11, 1)), ((836, 836), (0, 11, 1)), ((837, 837), (0, 11, 1)), ((838, 838), (0, 11, 1)), ((839, 839), (0, 33, 1)), ((840, 840), (0, 11, 1)), ((841, 841), (0, 10, 1)), ((843, 843), (0, 1, 1)), ((844, 844), (0, 9, 1)), ((845, 845), (0, 11, 1)), ((846, 846), (0, 1, 1)), ((847, 847), (0, 1, 1)), ((848, 848), (0, 33, 1)), ((849, 849), (0, 16, 1)), ((850, 850), (0, 11, 1)), ((851, 851), (0, 11, 1)), ((852, 852), (0, 11, 1)), ((854, 854), (0, 11, 1)), ((855, 855), (0, 23, 1)), ((856, 856), (0, 287, 1)), ((857, 857), (0, 9, 1)), ((858, 858), (0, 9, 1)), ((859, 859), (0, 2, 1))] (by decide +kernel) H
  have hf := H.2.2.2.2.2.2.2.2.2.2.1
  have hl1 : α1.length = 1 := by rw [Hr.2.1.1]; rfl
  have hl0 : α.length = 1 := by rw [H.2.1.1]; rfl
  have hxa : al_le xs α1 := H.1.trans hle
  obtain ⟨g1, -, g3, g4, -⟩ := as_fx Hr
  have g0 : (805 ≤ nv α1 0 ∧ nv α1 0 ≤ 805) ∧ True := by
    refine ⟨by have h := (en_nv (i := 0) Hr.2.1 rfl).2; exact h, trivial⟩
  have r0 : nv α1 0 = nv α 0 := nv_le hle (by omega)
  refine hd_segMR G (na := 1) (fuel := 600) (first := true) (Bs := [kh_mDay_b4_0]) (by decide +kernel) hl1 Hr ?_
  intro q hq β lv' st' S' H1
  simp only [List.mem_cons, List.not_mem_nil, or_false] at hq
  rcases hq with rfl
  · obtain ⟨f1, f2, f3, f4, f5⟩ := as_fx H1
    simp only [kh_mDay_b4_0, Nat.reduceEqDiff, if_false, fx_env, fx_c, fx_ne, fx_hf, wl_S, Nat.zero_add, Nat.reduceAdd, Nat.reduceDiv, Nat.reduceMod, List.getElem?_cons_zero, List.getElem?_cons_succ, if_true, and_true, true_and] at f1 f2 f3 f4 f5
    have fe0 : nv β 0 = 805 := by omega
    try simp only [fe0, Int.reduceToNat] at f2 f3 f4 f5
    have s0 : nv β 0 = nv α1 0 := nv_le H1.1 (by omega)
    obtain ⟨α', Ha, hm⟩ := hd_gpM (q := kh_mDay_a36) (n := 0) (by decide +kernel) hx H1 (by decide +kernel) hxa hf
    have hfr := H1.2.2.2.2.2.2.2.2.2.2.1
    have m0 : nv α' 0 = nv β 0 := hm 0 0 rfl
    have hq : blF (S'.1 806) 1 := by
      have h := H1.2.2.2.2.2.2.2.2.1 516 (by decide +kernel)
      rw [wd_fl2, if_neg (by decide)] at h
      exact h
    have e0 := fr_pl hfr 806 0 (by decide +kernel)
    have e1 := fr_pl hfr 806 1 (by decide +kernel)
    have e4 := fr_pl hfr 806 4 (by decide +kernel)
    have e5' := fr_pl hfr 806 5 (by decide +kernel)
    have er : ∀ k : Nat, k < 4 → mrw S' k = mrw S1 k ∧ mcl S' k = mcl S1 k := fun k hk => ⟨congrArg Int32.toInt (fr_pg hfr 806 (500, 512, 4) (by decide +kernel) (pg_mk (by omega) (by omega) (by omega))), congrArg Int32.toInt (fr_pg hfr 806 (502, 514, 4) (by decide +kernel) (pg_mk (by omega) (by omega) (by omega)))⟩
    refine ih.2.2.1 _ _ _ _ Ha ?_ ?_
    · exact ⟨e0.trans hp.1, hq, (skM_eq e1 e4 e5' er).trans hp.2⟩
    · omega
set_option maxHeartbeats 16000000 in
set_option maxRecDepth 8000 in
theorem kh_mDay_h36 {l : Launch} {D : va_G} {tc : Nat → ClassId} {ad : Nat → Nat} {kd : Nat → Nat × Nat} {N : Nat} {sm : Nat → Nat} {xs : List av_X} {S : fw_S} {p : Program} {e : Env} {s : State} {m : MethodId} {args : Array Value} {below : List Frame} {meth : Method} {c : Code} {sz : Nat} {lvE : List (Nat × Value)} (G : hd_C wd_ff2 wd_fl2 kh_mDay [kh_weatherDay, kh_crewsDay, kh_891, kh_898, kh_heatDay, kh_916, kh_booksDay, kh_storesDay2, kh_918] kh_mDay_y l D tc ad kd N sm xs p s m args meth c sz) (H0 : as_in ad sm wd_fl2 xs S kh_mDay.2.2.2.2.2.1 xs (hd_0 kh_mDay) lvE [] S) (hpre : P_dayGoes xs S) {k : Nat} (ih : kh_mDay_I l D tc ad kd N sm xs S p e s m args below meth c sz k) : (∀ (α : List av_X) (lv : List (Nat × Value)) (st : List Value) (S1 : fw_S), as_in ad sm wd_fl2 xs S kh_mDay.2.2.2.2.2.1 α kh_mDay_a36.2.2.1 lv st S1 → (S1.1 806 0 = S.1 806 0 ∧ blF (S1.1 806) 1 ∧ skM S1 = skN (skM S)) → 5 < k + 1 → hd_WR R_mDay wd_fl2 kh_mDay kh_mDay_y l D tc ad kd N sm xs S p e s m args below meth c sz 36 lv st S1 0) := by
  have hx : xs.length = 1 := by rw [H0.2.1.1]; rfl
  intro α lv st S1 H hp hk
  obtain ⟨α1, hle, Hr⟩ := as_recM (pl := []) [] (by decide +kernel) H
  have hf := H.2.2.2.2.2.2.2.2.2.2.1
  have hl1 : α1.length = 1 := by rw [Hr.2.1.1]; rfl
  have hl0 : α.length = 1 := by rw [H.2.1.1]; rfl
  have hxa : al_le xs α1 := H.1.trans hle
  obtain ⟨g1, -, g3, g4, -⟩ := as_fx Hr
  have g0 : (805 ≤ nv α1 0 ∧ nv α1 0 ≤ 805) ∧ True := by
    refine ⟨by have h := (en_nv (i := 0) Hr.2.1 rfl).2; exact h, trivial⟩
  have r0 : nv α1 0 = nv α 0 := nv_le hle (by omega)
  refine hd_segMR G (na := 1) (fuel := 600) (first := true) (Bs := [kh_mDay_b36_0]) (by decide +kernel) hl1 Hr ?_
  intro q hq β lv' st' S' H1
  simp only [List.mem_cons, List.not_mem_nil, or_false] at hq
  rcases hq with rfl
  · obtain ⟨f1, f2, f3, f4, f5⟩ := as_fx H1
    simp only [kh_mDay_b36_0, Nat.reduceEqDiff, if_false, fx_env, fx_c, fx_ne, fx_hf, wl_S, Nat.zero_add, Nat.reduceAdd, Nat.reduceDiv, Nat.reduceMod, List.getElem?_cons_zero, List.getElem?_cons_succ, if_true, and_true, true_and] at f1 f2 f3 f4 f5
    have fe0 : nv β 0 = 805 := by omega
    have fe1 : nv β 1 = 806 := by omega
    have fe2 : nv β 2 = 0 := by omega
    have fe4 : nv β 4 = 1 := by omega
    try simp only [fe0, fe1, fe2, fe4, Int.reduceToNat] at f2 f3 f4 f5
    have s0 : nv β 0 = nv α1 0 := nv_le H1.1 (by omega)
    obtain ⟨c0, c1⟩ := f2
    obtain ⟨α', Ha, hm⟩ := hd_gpM (q := kh_mDay_a45) (n := 0) (by decide +kernel) hx H1 (by decide +kernel) hxa hf
    have hfr := H1.2.2.2.2.2.2.2.2.2.2.1
    have m0 : nv α' 0 = nv β 0 := hm 0 0 rfl
    have m1 : nv α' 1 = nv β 5 := hm 1 5 rfl
    have m2 : nv α' 2 = nv β 2 := hm 2 2 rfl
    have m3 : nv α' 3 = nv β 1 := hm 3 1 rfl
    have o1 := old_0 c1 rfl
    have h9 : (S.1 806 0).toInt ≤ 998 := hpre
    obtain ⟨p1, p2, p3⟩ := hp
    rw [p1] at o1
    refine ih.2.2.2.1 _ _ _ _ Ha ?_ ?_
    · rw [m1, show S' = S1 from f5]
      exact ⟨p1, p2, by rw [o1]; omega, by omega, p3⟩
    · omega
set_option maxHeartbeats 16000000 in
set_option maxRecDepth 8000 in
theorem kh_mDay_h45 {l : Launch} {D : va_G} {tc : Nat → ClassId} {ad : Nat → Nat} {kd : Nat → Nat × Nat} {N : Nat} {sm : Nat → Nat} {xs : List av_X} {S : fw_S} {p : Program} {e : Env} {s : State} {m : MethodId} {args : Array Value} {below : List Frame} {meth : Method} {c : Code} {sz : Nat} {lvE : List (Nat × Value)} (G : hd_C wd_ff2 wd_fl2 kh_mDay [kh_weatherDay, kh_crewsDay, kh_891, kh_898, kh_heatDay, kh_916, kh_booksDay, kh_storesDay2, kh_918] kh_mDay_y l D tc ad kd N sm xs p s m args meth c sz) (H0 : as_in ad sm wd_fl2 xs S kh_mDay.2.2.2.2.2.1 xs (hd_0 kh_mDay) lvE [] S) (hpre : P_dayGoes xs S) {k : Nat} (ih : kh_mDay_I l D tc ad kd N sm xs S p e s m args below meth c sz k) : (∀ (α : List av_X) (lv : List (Nat × Value)) (st : List Value) (S1 : fw_S), as_in ad sm wd_fl2 xs S kh_mDay.2.2.2.2.2.1 α kh_mDay_a45.2.2.1 lv st S1 → (S1.1 806 0 = S.1 806 0 ∧ blF (S1.1 806) 1 ∧ nv α 1 = (S.1 806 0).toInt + 1 ∧ nv α 1 ≤ 999 ∧ skM S1 = skN (skM S)) → 1 < k + 1 → hd_WR R_mDay wd_fl2 kh_mDay kh_mDay_y l D tc ad kd N sm xs S p e s m args below meth c sz 45 lv st S1 0) := by
  have hx : xs.length = 1 := by rw [H0.2.1.1]; rfl
  intro α lv st S1 H hp hk
  have bp := (en_nv (i := 1) H.2.1 rfl).2
  change 1 ≤ nv α 1 ∧ nv α 1 ≤ 1000 at bp
  replace H := as_clamp (i := 1) (lo := 1) (hi := 999) H rfl rfl (by omega) (by exact hp.2.2.2.1) (by decide)
  obtain ⟨α1, hle, Hr⟩ := as_recM (pl := []) [((806, 806), (0, 0, 0))] (by decide +kernel) H
  have hf := H.2.2.2.2.2.2.2.2.2.2.1
  have hl1 : α1.length = 4 := by rw [Hr.2.1.1]; rfl
  have hl0 : α.length = 4 := by rw [H.2.1.1]; rfl
  have hxa : al_le xs α1 := H.1.trans hle
  obtain ⟨g1, -, g3, g4, -⟩ := as_fx Hr
  have g0 : (805 ≤ nv α1 0 ∧ nv α1 0 ≤ 805) ∧ (1 ≤ nv α1 1 ∧ nv α1 1 ≤ 999) ∧ (0 ≤ nv α1 2 ∧ nv α1 2 ≤ 0) ∧ (806 ≤ nv α1 3 ∧ nv α1 3 ≤ 806) ∧ True := by
    refine ⟨by have h := (en_nv (i := 0) Hr.2.1 rfl).2; exact h, by have h := (en_nv (i := 1) Hr.2.1 rfl).2; exact h, by have h := (en_nv (i := 2) Hr.2.1 rfl).2; exact h, by have h := (en_nv (i := 3) Hr.2.1 rfl).2; exact h, trivial⟩
  have r0 : nv α1 0 = nv α 0 := nv_le hle (by omega)
  have r1 : nv α1 1 = nv α 1 := nv_le hle (by omega)
  have r2 : nv α1 2 = nv α 2 := nv_le hle (by omega)
  have r3 : nv α1 3 = nv α 3 := nv_le hle (by omega)
  refine hd_segMR G (na := 4) (fuel := 600) (first := true) (Bs := [kh_mDay_b45_0]) (by decide +kernel) hl1 Hr ?_
  intro q hq β lv' st' S' H1
  simp only [List.mem_cons, List.not_mem_nil, or_false] at hq
  rcases hq with rfl
  · obtain ⟨f1, f2, f3, f4, f5⟩ := as_fx H1
    simp only [kh_mDay_b45_0, Nat.reduceEqDiff, if_false, fx_env, fx_c, fx_ne, fx_hf, wl_S, Nat.zero_add, Nat.reduceAdd, Nat.reduceDiv, Nat.reduceMod, List.getElem?_cons_zero, List.getElem?_cons_succ, if_true, and_true, true_and] at f1 f2 f3 f4 f5
    have fe0 : nv β 0 = 805 := by omega
    have fe2 : nv β 2 = 0 := by omega
    have fe3 : nv β 3 = 806 := by omega
    try simp only [fe0, fe2, fe3, Int.reduceToNat] at f2 f3 f4 f5
    have s0 : nv β 0 = nv α1 0 := nv_le H1.1 (by omega)
    have s1 : nv β 1 = nv α1 1 := nv_le H1.1 (by omega)
    have s2 : nv β 2 = nv α1 2 := nv_le H1.1 (by omega)
    have s3 : nv β 3 = nv α1 3 := nv_le H1.1 (by omega)
    have wA : ∀ a b : Nat, S'.1 a b = (if a = 806 ∧ b = 0 then Int32.ofInt (nv β 1) else (S1.1 a b)) := fun a b => by rw [f5]; rfl
    obtain ⟨p1, p2, p3, p4, p5⟩ := hp
    have hv : (S'.1 806 0).toInt = nv β 1 := by rw [wA, if_pos ⟨rfl, by omega⟩, i32_of (by omega) (by omega)]
    have hb : blF (S'.1 806) 0 := by
      intro c' hc'
      have h := p2 c' hc'
      rw [hv, wA, if_neg (by omega)]
      rw [p1] at h
      omega
    have eK : skM S' = skM S1 := skM_eq (by rw [wA, if_neg (by omega)]) (by rw [wA, if_neg (by omega)]) (by rw [wA, if_neg (by omega)]) (fun k hk => ⟨by unfold mrw; rw [wA, if_neg (by omega)], by unfold mcl; rw [wA, if_neg (by omega)]⟩)
    exact hd_retVR G (by decide +kernel) (as_fl_in (f := [515]) (as_backM H1 (by decide +kernel) hxa hf) (fun g hg' => by
      rcases List.mem_singleton.mp hg' with rfl
      rw [wd_fl2, if_neg (by decide)]
      exact hb)) (by decide +kernel) (by decide) ⟨by show (S'.1 806 0).toInt = (S.1 806 0).toInt + 1; rw [hv]; omega, eK.trans p5⟩
set_option maxHeartbeats 16000000 in
set_option maxRecDepth 8000 in
theorem kh_mDay_okP : ct_okPR wd_fl2 kh_mDay P_dayGoes R_mDay := ct_handPR (P := P_dayGoes) (R := R_mDay) (ff := wd_ff2) (y := kh_mDay_y) (Cs := [kh_weatherDay, kh_crewsDay, kh_891, kh_898, kh_heatDay, kh_916, kh_booksDay, kh_storesDay2, kh_918]) wd_fl2_ok rfl (List.forall_mem_cons.mpr ⟨kh_weatherDay_ok, (List.forall_mem_cons.mpr ⟨kh_crewsDay_ok, (List.forall_mem_cons.mpr ⟨kh_891_ok, (List.forall_mem_cons.mpr ⟨kh_898_ok, (List.forall_mem_cons.mpr ⟨kh_heatDay_l2, (List.forall_mem_cons.mpr ⟨kh_916_ok, (List.forall_mem_cons.mpr ⟨kh_booksDay_ok, (List.forall_mem_cons.mpr ⟨kh_storesDay2_ok, (List.forall_mem_cons.mpr ⟨kh_918_ok, (List.forall_mem_nil _)⟩)⟩)⟩)⟩)⟩)⟩)⟩)⟩)⟩) (by decide +kernel) (fun l D tc ad kd N sm xs S p e s m args below meth c sz lv G H0 hpre => by
  have hx : xs.length = 1 := by rw [H0.2.1.1]; rfl
  have hP : ∀ (k : Nat), kh_mDay_I l D tc ad kd N sm xs S p e s m args below meth c sz k := by
    intro k
    induction k with
    | zero => exact ⟨fun _ _ _ _ _ _ h => absurd h (Nat.not_lt_zero _), fun _ _ _ _ _ _ h => absurd h (Nat.not_lt_zero _), fun _ _ _ _ _ _ h => absurd h (Nat.not_lt_zero _), fun _ _ _ _ _ _ h => absurd h (Nat.not_lt_zero _), trivial⟩
    | succ k ih => exact ⟨kh_mDay_h1 G H0 hpre ih, kh_mDay_h4 G H0 hpre ih, kh_mDay_h36 G H0 hpre ih, kh_mDay_h45 G H0 hpre ih, trivial⟩
  obtain ⟨α1, hle, Hr⟩ := as_recM (pl := []) [] (by decide +kernel) H0
  have hf := H0.2.2.2.2.2.2.2.2.2.2.1
  have hl1 : α1.length = 1 := by rw [Hr.2.1.1]; rfl
  have hl0 : xs.length = 1 := by rw [H0.2.1.1]; rfl
  have hxa : al_le xs α1 := H0.1.trans hle
  obtain ⟨g1, -, g3, g4, -⟩ := as_fx Hr
  have g0 : (805 ≤ nv α1 0 ∧ nv α1 0 ≤ 805) ∧ True := by
    refine ⟨by have h := (en_nv (i := 0) Hr.2.1 rfl).2; exact h, trivial⟩
  have r0 : nv α1 0 = nv xs 0 := nv_le hle (by omega)
  refine hd_segMR G (na := 1) (fuel := 600) (first := true) (Bs := [kh_mDay_b0_0]) (by decide +kernel) hl1 Hr ?_
  intro q hq β lv' st' S' H1
  simp only [List.mem_cons, List.not_mem_nil, or_false] at hq
  rcases hq with rfl
  · obtain ⟨f1, f2, f3, f4, f5⟩ := as_fx H1
    simp only [kh_mDay_b0_0, Nat.reduceEqDiff, if_false, fx_env, fx_c, fx_ne, fx_hf, wl_S, Nat.zero_add, Nat.reduceAdd, Nat.reduceDiv, Nat.reduceMod, List.getElem?_cons_zero, List.getElem?_cons_succ, if_true, and_true, true_and] at f1 f2 f3 f4 f5
    have fe0 : nv β 0 = 805 := by omega
    try simp only [fe0, Int.reduceToNat] at f2 f3 f4 f5
    have s0 : nv β 0 = nv α1 0 := nv_le H1.1 (by omega)
    obtain ⟨α', Ha, hm⟩ := hd_gpM (q := kh_mDay_a1) (n := 0) (by decide +kernel) hx H1 (by decide +kernel) hxa hf
    have hfr := H1.2.2.2.2.2.2.2.2.2.2.1
    have m0 : nv α' 0 = nv β 0 := hm 0 0 rfl
    refine (hP _).1 _ _ _ _ Ha ?_ (Nat.lt_succ_self _)
    · exact f5)
abbrev kh_mPass_y : mt_T := (⟨"UtilityWorksModel", "pass", "(I)I"⟩, prog_14_method_39_code, 3, some .int, 12, 1, 1, 33044, 33042, 33043, 21014)
def kh_mPass : ct_T := (377, [(2, 805, 805, 0), (0, 1, 60, 1)], [], [510, 513, 515], [(1, (0, 0, 999, 1), [(2, 805, 805, 0), (0, 1, 60, 1)], [], ([510, 513, 515], []))], [((805, 805), (8, 8, 0)), ((805, 805), (21, 65, 1)), ((806, 806), (0, 0, 0)), ((806, 806), (1, 1, 0)), ((806, 806), (2, 2, 0)), ((806, 806), (3, 3, 0)), ((806, 806), (5, 5, 0)), ((806, 806), (7, 7, 0)), ((806, 806), (8, 499, 1)), ((806, 806), (500, 512, 4)), ((806, 806), (502, 514, 4)), ((806, 806), (503, 515, 4)), ((806, 806), (516, 4104, 1)), ((807, 807), (0, 3501, 1)), ((813, 813), (0, 11, 1)), ((814, 814), (0, 11, 1)), ((815, 815), (0, 16, 1)), ((816, 816), (0, 16, 1)), ((817, 817), (0, 11, 1)), ((818, 818), (0, 3, 1)), ((819, 819), (0, 11, 1)), ((820, 820), (0, 16, 1)), ((821, 821), (0, 2, 1)), ((822, 822), (0, 1, 1)), ((823, 823), (0, 9, 1)), ((824, 824), (0, 9, 1)), ((825, 825), (0, 11, 1)), ((827, 827), (0, 2, 1)), ((827, 827), (3, 6, 1)), ((828, 828), (0, 2, 1)), ((828, 828), (3, 6, 1)), ((829, 829), (0, 6, 1)), ((830, 830), (0, 6, 1)), ((831, 831), (0, 11, 1)), ((832, 832), (0, 11, 1)), ((833, 833), (0, 11, 1)), ((834, 834), (0, 11, 1)), ((835, 835), (0, 11, 1)), ((836, 836), (0, 11, 1)), ((837, 837), (0, 11, 1)), ((838, 838), (0, 11, 1)), ((839, 839), (0, 33, 1)), ((840, 840), (0, 11, 1)), ((841, 841), (0, 10, 1)), ((843, 843), (0, 1, 1)), ((844, 844), (0, 9, 1)), ((845, 845), (0, 11, 1)), ((846, 846), (0, 1, 1)), ((847, 847), (0, 1, 1)), ((848, 848), (0, 33, 1)), ((849, 849), (0, 16, 1)), ((850, 850), (0, 11, 1)), ((851, 851), (0, 11, 1)), ((852, 852), (0, 11, 1)), ((854, 854), (0, 11, 1)), ((855, 855), (0, 23, 1)), ((856, 856), (0, 287, 1)), ((857, 857), (0, 9, 1)), ((858, 858), (0, 9, 1)), ((859, 859), (0, 2, 1))], 11, 251, 0)
def kh_mPass_a17 : an_T := (17, 0, ([((2, 805, 805, 0), none), ((0, 1, 60, 1), none)], [(0, 0), (1, 1)], [], [], [], [], [], [510, 513, 515], none), [])
def kh_mPass_a46 : an_T := (46, 0, ([((2, 805, 805, 0), none), ((0, 1, 60, 1), none), ((0, 0, 60, 1), none)], [(0, 0), (1, 1), (2, 2)], [], [], [], [], [], [510, 513, 515], none), [])
def kh_mPass_a52 : an_T := (52, 0, ([((2, 805, 805, 0), none), ((0, 1, 60, 1), none), ((0, 0, 59, 1), none)], [(0, 0), (1, 1), (2, 2)], [0], [], [], [], [], [510, 513, 515], none), [])
def kh_mPass_a55 : an_T := (55, 0, ([((2, 805, 805, 0), none), ((0, 1, 60, 1), none), ((0, 0, 59, 1), none)], [(0, 0), (1, 1), (2, 2)], [], [], [], [], [], [510, 513, 515], none), [])
def kh_mPass_b0_0 : sg_T := (16, 0, ([((2, 805, 805, 0), none), ((0, 1, 60, 1), none), ((0, 1, 1, 0), none), ((0, 60, 60, 0), none), ((0, 0, 0, 0), none), ((0, 1, 1, 0), none), ((0, 1, 1, 0), none), ((0, 0, 0, 0), none)], [(0, 0), (1, 1)], [7], [], [(6, 0)], [(4600004, 1, 1)], [], [510, 513, 515], none))
def kh_mPass_b0_1 : sg_T := (17, 0, ([((2, 805, 805, 0), none), ((0, 1, 60, 1), none), ((0, 1, 1, 0), none), ((0, 60, 60, 0), none), ((0, 1, 1, 0), none), ((0, 1, 1, 0), none), ((0, 0, 0, 0), none)], [(0, 0), (1, 1)], [], [], [], [(4600004, 1, 1)], [], [510, 513, 515], none))
def kh_mPass_b17_0 : sg_T := (43, 0, ([((2, 805, 805, 0), none), ((0, 1, 60, 1), none), ((0, 0, 999, 1), none), ((0, 1000, 1059, 1), none), ((0, 999, 999, 0), none), ((0, 0, 0, 0), none), ((0, 2, 2, 0), none), ((0, 1, 1, 0), none), ((0, 0, 0, 0), none)], [(0, 0), (1, 1)], [8], [], [(7, 0)], [(100000, 4, 3), (500003, 2, 1), (103300002, 0, 0)], [], [510, 513, 515], none))
def kh_mPass_b17_1 : sg_T := (46, 0, ([((2, 805, 805, 0), none), ((0, 1, 60, 1), none), ((0, 0, 999, 1), none), ((0, 1, 999, 1), none), ((0, 999, 999, 0), none), ((0, 1, 1, 0), none), ((0, 2, 2, 0), none), ((0, 0, 0, 0), none), ((0, 0, 0, 0), none)], [(2, 8), (0, 0), (1, 1)], [], [], [], [(200000, 3, 4), (500003, 2, 1), (103300002, 0, 0)], [], [510, 513, 515], none))
def kh_mPass_b46_0 : sg_T := (69, 0, ([((2, 805, 805, 0), none), ((0, 1, 60, 1), none), ((0, 1, 60, 1), none), ((0, 0, 999, 1), none)], [(0, 0), (1, 1), (2, 2)], [3], [], [], [(200000, 1, 2)], [], [510, 513, 515], none))
def kh_mPass_b46_1 : sg_T := (52, 0, ([((2, 805, 805, 0), none), ((0, 1, 60, 1), none), ((0, 0, 59, 1), none)], [(0, 0), (1, 1), (2, 2)], [0], [], [], [(100000, 2, 1)], [], [510, 513, 515], some []))
def kh_mPass_b52_0 : sg_T := (55, 0, ([((2, 805, 805, 0), none), ((0, 1, 60, 1), none), ((0, 0, 59, 1), none)], [(0, 0), (1, 1), (2, 2)], [], [], [], [], [], [510, 513, 515], none))
def kh_mPass_b55_0 : sg_T := (46, 0, ([((2, 805, 805, 0), none), ((0, 1, 60, 1), none), ((0, 0, 59, 1), none), ((0, 1, 60, 1), some (2, 1))], [(2, 3), (0, 0), (1, 1)], [], [], [], [], [], [510, 513, 515], some []))
def kh_mPass_I (l : Launch) (D : va_G) (tc : Nat → ClassId) (ad : Nat → Nat) (kd : Nat → Nat × Nat) (N : Nat) (sm : Nat → Nat) (xs : List av_X) (S : fw_S) (p : Program) (e : Env) (s : State) (m : MethodId) (args : Array Value) (below : List Frame) (meth : Method) (c : Code) (sz : Nat) (k : Nat) : Prop := (∀ (α : List av_X) (lv : List (Nat × Value)) (st : List Value) (S1 : fw_S), as_in ad sm wd_fl2 xs S kh_mPass.2.2.2.2.2.1 α kh_mPass_a17.2.2.1 lv st S1 → (dayM S1 = dayM S ∧ skM S1 = skM S) → 10000 < k → hd_WR R_mPass wd_fl2 kh_mPass kh_mPass_y l D tc ad kd N sm xs S p e s m args below meth c sz 17 lv st S1 0) ∧ (∀ (α : List av_X) (lv : List (Nat × Value)) (st : List Value) (S1 : fw_S), as_in ad sm wd_fl2 xs S kh_mPass.2.2.2.2.2.1 α kh_mPass_a46.2.2.1 lv st S1 → ((0 ≤ nv α 2 ∧ nv α 2 ≤ nv xs 1) ∧ dayM S + nv xs 1 ≤ 999 ∧ dayM S1 = dayM S + nv α 2 ∧ skM S1 = skI ((nv α 2).toNat) (skM S)) → (100 - nv α 2).toNat * 10 + 9 < k → hd_WR R_mPass wd_fl2 kh_mPass kh_mPass_y l D tc ad kd N sm xs S p e s m args below meth c sz 46 lv st S1 0) ∧ (∀ (α : List av_X) (lv : List (Nat × Value)) (st : List Value) (S1 : fw_S), as_in ad sm wd_fl2 xs S kh_mPass.2.2.2.2.2.1 α kh_mPass_a52.2.2.1 lv st S1 → ((0 ≤ nv α 2 ∧ nv α 2 < nv xs 1) ∧ dayM S + nv xs 1 ≤ 999 ∧ dayM S1 = dayM S + nv α 2 ∧ skM S1 = skI ((nv α 2).toNat) (skM S)) → (100 - nv α 2).toNat * 10 + 8 < k → hd_WR R_mPass wd_fl2 kh_mPass kh_mPass_y l D tc ad kd N sm xs S p e s m args below meth c sz 52 lv st S1 0) ∧ (∀ (α : List av_X) (lv : List (Nat × Value)) (st : List Value) (S1 : fw_S), as_in ad sm wd_fl2 xs S kh_mPass.2.2.2.2.2.1 α kh_mPass_a55.2.2.1 lv st S1 → ((0 ≤ nv α 2 ∧ nv α 2 < nv xs 1) ∧ dayM S + nv xs 1 ≤ 999 ∧ dayM S1 = dayM S + nv α 2 + 1 ∧ skM S1 = skI ((nv α 2).toNat + 1) (skM S)) → (100 - nv α 2).toNat * 10 + 7 < k → hd_WR R_mPass wd_fl2 kh_mPass kh_mPass_y l D tc ad kd N sm xs S p e s m args below meth c sz 55 lv st S1 0) ∧ True
set_option maxHeartbeats 16000000 in
set_option maxRecDepth 8000 in
theorem kh_mPass_h17 {l : Launch} {D : va_G} {tc : Nat → ClassId} {ad : Nat → Nat} {kd : Nat → Nat × Nat} {N : Nat} {sm : Nat → Nat} {xs : List av_X} {S : fw_S} {p : Program} {e : Env} {s : State} {m : MethodId} {args : Array Value} {below : List Frame} {meth : Method} {c : Code} {sz : Nat} {lvE : List (Nat × Value)} (G : hd_C wd_ff2 wd_fl2 kh_mPass [kh_in6, kh_592, kh_588, kh_day, kh_591, kh_590, kh_645] kh_mPass_y l D tc ad kd N sm xs p s m args meth c sz) (H0 : as_in ad sm wd_fl2 xs S kh_mPass.2.2.2.2.2.1 xs (hd_0 kh_mPass) lvE [] S) {k : Nat} (ih : kh_mPass_I l D tc ad kd N sm xs S p e s m args below meth c sz k) : (∀ (α : List av_X) (lv : List (Nat × Value)) (st : List Value) (S1 : fw_S), as_in ad sm wd_fl2 xs S kh_mPass.2.2.2.2.2.1 α kh_mPass_a17.2.2.1 lv st S1 → (dayM S1 = dayM S ∧ skM S1 = skM S) → 10000 < k + 1 → hd_WR R_mPass wd_fl2 kh_mPass kh_mPass_y l D tc ad kd N sm xs S p e s m args below meth c sz 17 lv st S1 0) := by
  have hx : xs.length = 2 := by rw [H0.2.1.1]; rfl
  intro α lv st S1 H hp hk
  obtain ⟨α1, hle, Hr⟩ := as_recM (pl := []) [((805, 805), (8, 8, 0))] (by decide +kernel) H
  have hf := H.2.2.2.2.2.2.2.2.2.2.1
  have hl1 : α1.length = 2 := by rw [Hr.2.1.1]; rfl
  have hl0 : α.length = 2 := by rw [H.2.1.1]; rfl
  have hxa : al_le xs α1 := H.1.trans hle
  obtain ⟨g1, -, g3, g4, -⟩ := as_fx Hr
  have g0 : (805 ≤ nv α1 0 ∧ nv α1 0 ≤ 805) ∧ (1 ≤ nv α1 1 ∧ nv α1 1 ≤ 60) ∧ True := by
    refine ⟨by have h := (en_nv (i := 0) Hr.2.1 rfl).2; exact h, by have h := (en_nv (i := 1) Hr.2.1 rfl).2; exact h, trivial⟩
  have r0 : nv α1 0 = nv α 0 := nv_le hle (by omega)
  have r1 : nv α1 1 = nv α 1 := nv_le hle (by omega)
  refine hd_segMR G (na := 2) (fuel := 600) (first := true) (Bs := [kh_mPass_b17_0, kh_mPass_b17_1]) (by decide +kernel) hl1 Hr ?_
  intro q hq β lv' st' S' H1
  simp only [List.mem_cons, List.not_mem_nil, or_false] at hq
  rcases hq with rfl | rfl
  · obtain ⟨f1, f2, f3, f4, f5⟩ := as_fx H1
    simp only [kh_mPass_b17_0, Nat.reduceEqDiff, if_false, fx_env, fx_c, fx_ne, fx_hf, wl_S, Nat.zero_add, Nat.reduceAdd, Nat.reduceDiv, Nat.reduceMod, List.getElem?_cons_zero, List.getElem?_cons_succ, if_true, and_true, true_and] at f1 f2 f3 f4 f5
    have fe0 : nv β 0 = 805 := by omega
    have fe4 : nv β 4 = 999 := by omega
    have fe5 : nv β 5 = 0 := by omega
    have fe6 : nv β 6 = 2 := by omega
    have fe7 : nv β 7 = 1 := by omega
    have fe8 : nv β 8 = 0 := by omega
    try simp only [fe0, fe4, fe5, fe6, fe7, fe8, Int.reduceToNat] at f2 f3 f4 f5
    have s0 : nv β 0 = nv α1 0 := nv_le H1.1 (by omega)
    have s1 : nv β 1 = nv α1 1 := nv_le H1.1 (by omega)
    obtain ⟨c0, c1, c2⟩ := f2
    have z1 : nv α 1 = nv xs 1 := nv_le H.1 (by omega)
    have hfr := H1.2.2.2.2.2.2.2.2.2.2.1
    have d2 := c2
    simp only [wd_fl2, if_neg (show ¬ (wd_base1 1033 = true) by decide)] at d2
    have e1 := fr_pl hfr 806 1 (by decide +kernel)
    have e4 := fr_pl hfr 806 4 (by decide +kernel)
    have e5' := fr_pl hfr 806 5 (by decide +kernel)
    have er : ∀ k : Nat, k < 4 → mrw S' k = mrw S1 k ∧ mcl S' k = mcl S1 k := fun k hk => ⟨congrArg Int32.toInt (fr_pg hfr 806 (500, 512, 4) (by decide +kernel) (pg_mk (by omega) (by omega) (by omega))), congrArg Int32.toInt (fr_pg hfr 806 (502, 514, 4) (by decide +kernel) (pg_mk (by omega) (by omega) (by omega)))⟩
    have e0 := fr_pl hfr 806 0 (by decide +kernel)
    have u : dayM S1 = nv β 2 := d2.symm
    have v : dayM S' = dayM S1 := congrArg Int32.toInt e0
    obtain ⟨p1, p2⟩ := hp
    exact hd_retIR G (v := 8) (by decide +kernel) (as_backM H1 (by decide +kernel) hxa hf) _ List.mem_cons_self rfl (by decide +kernel) (by decide) (fun w hw => by cases hw) (fun y hy => Or.inr ⟨by omega, by omega, (skM_eq e1 e4 e5' er).trans p2⟩)
  · obtain ⟨f1, f2, f3, f4, f5⟩ := as_fx H1
    simp only [kh_mPass_b17_1, Nat.reduceEqDiff, if_false, fx_env, fx_c, fx_ne, fx_hf, wl_S, Nat.zero_add, Nat.reduceAdd, Nat.reduceDiv, Nat.reduceMod, List.getElem?_cons_zero, List.getElem?_cons_succ, if_true, and_true, true_and] at f1 f2 f3 f4 f5
    have fe0 : nv β 0 = 805 := by omega
    have fe4 : nv β 4 = 999 := by omega
    have fe5 : nv β 5 = 1 := by omega
    have fe6 : nv β 6 = 2 := by omega
    have fe7 : nv β 7 = 0 := by omega
    have fe8 : nv β 8 = 0 := by omega
    try simp only [fe0, fe4, fe5, fe6, fe7, fe8, Int.reduceToNat] at f2 f3 f4 f5
    have s0 : nv β 0 = nv α1 0 := nv_le H1.1 (by omega)
    have s1 : nv β 1 = nv α1 1 := nv_le H1.1 (by omega)
    obtain ⟨c0, c1, c2⟩ := f2
    obtain ⟨α', Ha, hm⟩ := hd_gpM (q := kh_mPass_a46) (n := 0) (by decide +kernel) hx H1 (by decide +kernel) hxa hf
    have hfr := H1.2.2.2.2.2.2.2.2.2.2.1
    have m0 : nv α' 0 = nv β 0 := hm 0 0 rfl
    have m1 : nv α' 1 = nv β 1 := hm 1 1 rfl
    have m2 : nv α' 2 = nv β 8 := hm 2 8 rfl
    have z1 : nv α 1 = nv xs 1 := nv_le H.1 (by omega)
    have d2 := c2
    simp only [wd_fl2, if_neg (show ¬ (wd_base1 1033 = true) by decide)] at d2
    have e1 := fr_pl hfr 806 1 (by decide +kernel)
    have e4 := fr_pl hfr 806 4 (by decide +kernel)
    have e5' := fr_pl hfr 806 5 (by decide +kernel)
    have er : ∀ k : Nat, k < 4 → mrw S' k = mrw S1 k ∧ mcl S' k = mcl S1 k := fun k hk => ⟨congrArg Int32.toInt (fr_pg hfr 806 (500, 512, 4) (by decide +kernel) (pg_mk (by omega) (by omega) (by omega))), congrArg Int32.toInt (fr_pg hfr 806 (502, 514, 4) (by decide +kernel) (pg_mk (by omega) (by omega) (by omega)))⟩
    have e0 := fr_pl hfr 806 0 (by decide +kernel)
    have u : dayM S1 = nv β 2 := d2.symm
    have v : dayM S' = dayM S1 := congrArg Int32.toInt e0
    obtain ⟨p1, p2⟩ := hp
    refine ih.2.1 _ _ _ _ Ha ?_ ?_
    · rw [m2]
      refine ⟨⟨by omega, by omega⟩, by omega, by omega, ?_⟩
      rw [show (nv β 8).toNat = 0 by omega]
      exact (skM_eq e1 e4 e5' er).trans p2
    · omega
set_option maxHeartbeats 16000000 in
set_option maxRecDepth 8000 in
theorem kh_mPass_h46 {l : Launch} {D : va_G} {tc : Nat → ClassId} {ad : Nat → Nat} {kd : Nat → Nat × Nat} {N : Nat} {sm : Nat → Nat} {xs : List av_X} {S : fw_S} {p : Program} {e : Env} {s : State} {m : MethodId} {args : Array Value} {below : List Frame} {meth : Method} {c : Code} {sz : Nat} {lvE : List (Nat × Value)} (G : hd_C wd_ff2 wd_fl2 kh_mPass [kh_in6, kh_592, kh_588, kh_day, kh_591, kh_590, kh_645] kh_mPass_y l D tc ad kd N sm xs p s m args meth c sz) (H0 : as_in ad sm wd_fl2 xs S kh_mPass.2.2.2.2.2.1 xs (hd_0 kh_mPass) lvE [] S) {k : Nat} (ih : kh_mPass_I l D tc ad kd N sm xs S p e s m args below meth c sz k) : (∀ (α : List av_X) (lv : List (Nat × Value)) (st : List Value) (S1 : fw_S), as_in ad sm wd_fl2 xs S kh_mPass.2.2.2.2.2.1 α kh_mPass_a46.2.2.1 lv st S1 → ((0 ≤ nv α 2 ∧ nv α 2 ≤ nv xs 1) ∧ dayM S + nv xs 1 ≤ 999 ∧ dayM S1 = dayM S + nv α 2 ∧ skM S1 = skI ((nv α 2).toNat) (skM S)) → (100 - nv α 2).toNat * 10 + 9 < k + 1 → hd_WR R_mPass wd_fl2 kh_mPass kh_mPass_y l D tc ad kd N sm xs S p e s m args below meth c sz 46 lv st S1 0) := by
  have hx : xs.length = 2 := by rw [H0.2.1.1]; rfl
  intro α lv st S1 H hp hk
  obtain ⟨α1, hle, Hr⟩ := as_recM (pl := []) [((805, 805), (8, 8, 0))] (by decide +kernel) H
  have hf := H.2.2.2.2.2.2.2.2.2.2.1
  have hl1 : α1.length = 3 := by rw [Hr.2.1.1]; rfl
  have hl0 : α.length = 3 := by rw [H.2.1.1]; rfl
  have hxa : al_le xs α1 := H.1.trans hle
  obtain ⟨g1, -, g3, g4, -⟩ := as_fx Hr
  have g0 : (805 ≤ nv α1 0 ∧ nv α1 0 ≤ 805) ∧ (1 ≤ nv α1 1 ∧ nv α1 1 ≤ 60) ∧ (0 ≤ nv α1 2 ∧ nv α1 2 ≤ 60) ∧ True := by
    refine ⟨by have h := (en_nv (i := 0) Hr.2.1 rfl).2; exact h, by have h := (en_nv (i := 1) Hr.2.1 rfl).2; exact h, by have h := (en_nv (i := 2) Hr.2.1 rfl).2; exact h, trivial⟩
  have r0 : nv α1 0 = nv α 0 := nv_le hle (by omega)
  have r1 : nv α1 1 = nv α 1 := nv_le hle (by omega)
  have r2 : nv α1 2 = nv α 2 := nv_le hle (by omega)
  refine hd_segMR G (na := 3) (fuel := 600) (first := true) (Bs := [kh_mPass_b46_0, kh_mPass_b46_1]) (by decide +kernel) hl1 Hr ?_
  intro q hq β lv' st' S' H1
  simp only [List.mem_cons, List.not_mem_nil, or_false] at hq
  rcases hq with rfl | rfl
  · obtain ⟨f1, f2, f3, f4, f5⟩ := as_fx H1
    simp only [kh_mPass_b46_0, Nat.reduceEqDiff, if_false, fx_env, fx_c, fx_ne, fx_hf, wl_S, Nat.zero_add, Nat.reduceAdd, Nat.reduceDiv, Nat.reduceMod, List.getElem?_cons_zero, List.getElem?_cons_succ, if_true, and_true, true_and] at f1 f2 f3 f4 f5
    have fe0 : nv β 0 = 805 := by omega
    try simp only [fe0, Int.reduceToNat] at f2 f3 f4 f5
    have s0 : nv β 0 = nv α1 0 := nv_le H1.1 (by omega)
    have s1 : nv β 1 = nv α1 1 := nv_le H1.1 (by omega)
    have s2 : nv β 2 = nv α1 2 := nv_le H1.1 (by omega)
    have c0 := f2
    have z1 : nv α 1 = nv xs 1 := nv_le H.1 (by omega)
    have hfr := H1.2.2.2.2.2.2.2.2.2.2.1
    have e1 := fr_pl hfr 806 1 (by decide +kernel)
    have e4 := fr_pl hfr 806 4 (by decide +kernel)
    have e5' := fr_pl hfr 806 5 (by decide +kernel)
    have er : ∀ k : Nat, k < 4 → mrw S' k = mrw S1 k ∧ mcl S' k = mcl S1 k := fun k hk => ⟨congrArg Int32.toInt (fr_pg hfr 806 (500, 512, 4) (by decide +kernel) (pg_mk (by omega) (by omega) (by omega))), congrArg Int32.toInt (fr_pg hfr 806 (502, 514, 4) (by decide +kernel) (pg_mk (by omega) (by omega) (by omega)))⟩
    have e0 := fr_pl hfr 806 0 (by decide +kernel)
    have v : dayM S' = dayM S1 := congrArg Int32.toInt e0
    obtain ⟨⟨p0, p1⟩, p2, p3, p4⟩ := hp
    exact hd_retIR G (v := 3) (by decide +kernel) (as_backM H1 (by decide +kernel) hxa hf) _ List.mem_cons_self rfl (by decide +kernel) (by decide) (fun w hw => by cases hw) (fun y hy => Or.inl ⟨p2, by omega, by rw [skM_eq e1 e4 e5' er, p4, show (nv α 2).toNat = (nv xs 1).toNat by omega]⟩)
  · obtain ⟨f1, f2, f3, f4, f5⟩ := as_fx H1
    simp only [kh_mPass_b46_1, Nat.reduceEqDiff, if_false, fx_env, fx_c, fx_ne, fx_hf, wl_S, Nat.zero_add, Nat.reduceAdd, Nat.reduceDiv, Nat.reduceMod, List.getElem?_cons_zero, List.getElem?_cons_succ, if_true, and_true, true_and] at f1 f2 f3 f4 f5
    have fe0 : nv β 0 = 805 := by omega
    try simp only [fe0, Int.reduceToNat] at f2 f3 f4 f5
    have s0 : nv β 0 = nv α1 0 := nv_le H1.1 (by omega)
    have s1 : nv β 1 = nv α1 1 := nv_le H1.1 (by omega)
    have s2 : nv β 2 = nv α1 2 := nv_le H1.1 (by omega)
    have c0 := f2
    obtain ⟨α', Ha, hm⟩ := hd_gpM (q := kh_mPass_a52) (n := 0) (by decide +kernel) hx H1 (by decide +kernel) hxa hf
    have hfr := H1.2.2.2.2.2.2.2.2.2.2.1
    have m0 : nv α' 0 = nv β 0 := hm 0 0 rfl
    have m1 : nv α' 1 = nv β 1 := hm 1 1 rfl
    have m2 : nv α' 2 = nv β 2 := hm 2 2 rfl
    have z1 : nv α 1 = nv xs 1 := nv_le H.1 (by omega)
    obtain ⟨⟨p0, p1⟩, p2, p3, p4⟩ := hp
    refine ih.2.2.1 _ _ _ _ Ha ?_ ?_
    · rw [m2, s2, r2, show S' = S1 from f5]
      exact ⟨⟨p0, by omega⟩, p2, p3, p4⟩
    · omega
set_option maxHeartbeats 16000000 in
set_option maxRecDepth 8000 in
theorem kh_mPass_h52 {l : Launch} {D : va_G} {tc : Nat → ClassId} {ad : Nat → Nat} {kd : Nat → Nat × Nat} {N : Nat} {sm : Nat → Nat} {xs : List av_X} {S : fw_S} {p : Program} {e : Env} {s : State} {m : MethodId} {args : Array Value} {below : List Frame} {meth : Method} {c : Code} {sz : Nat} {lvE : List (Nat × Value)} (G : hd_C wd_ff2 wd_fl2 kh_mPass [kh_in6, kh_592, kh_588, kh_day, kh_591, kh_590, kh_645] kh_mPass_y l D tc ad kd N sm xs p s m args meth c sz) (H0 : as_in ad sm wd_fl2 xs S kh_mPass.2.2.2.2.2.1 xs (hd_0 kh_mPass) lvE [] S) {k : Nat} (ih : kh_mPass_I l D tc ad kd N sm xs S p e s m args below meth c sz k) : (∀ (α : List av_X) (lv : List (Nat × Value)) (st : List Value) (S1 : fw_S), as_in ad sm wd_fl2 xs S kh_mPass.2.2.2.2.2.1 α kh_mPass_a52.2.2.1 lv st S1 → ((0 ≤ nv α 2 ∧ nv α 2 < nv xs 1) ∧ dayM S + nv xs 1 ≤ 999 ∧ dayM S1 = dayM S + nv α 2 ∧ skM S1 = skI ((nv α 2).toNat) (skM S)) → (100 - nv α 2).toNat * 10 + 8 < k + 1 → hd_WR R_mPass wd_fl2 kh_mPass kh_mPass_y l D tc ad kd N sm xs S p e s m args below meth c sz 52 lv st S1 0) := by
  have hx : xs.length = 2 := by rw [H0.2.1.1]; rfl
  intro α lv st S1 H hp hk
  obtain ⟨α1, hle, Hr⟩ := as_recM (pl := []) [((805, 805), (21, 65, 1)), ((806, 806), (0, 0, 0)), ((806, 806), (1, 1, 0)), ((806, 806), (2, 2, 0)), ((806, 806), (3, 3, 0)), ((806, 806), (5, 5, 0)), ((806, 806), (7, 7, 0)), ((806, 806), (8, 499, 1)), ((806, 806), (500, 512, 4)), ((806, 806), (502, 514, 4)), ((806, 806), (503, 515, 4)), ((806, 806), (516, 4104, 1)), ((807, 807), (0, 3501, 1)), ((813, 813), (0, 11, 1)), ((814, 814), (0, 11, 1)), ((815, 815), (0, 16, 1)), ((816, 816), (0, 16, 1)), ((817, 817), (0, 11, 1)), ((818, 818), (0, 3, 1)), ((819, 819), (0, 11, 1)), ((820, 820), (0, 16, 1)), ((821, 821), (0, 2, 1)), ((822, 822), (0, 1, 1)), ((823, 823), (0, 9, 1)), ((824, 824), (0, 9, 1)), ((825, 825), (0, 11, 1)), ((827, 827), (0, 2, 1)), ((827, 827), (3, 6, 1)), ((828, 828), (0, 2, 1)), ((828, 828), (3, 6, 1)), ((829, 829), (0, 6, 1)), ((830, 830), (0, 6, 1)), ((831, 831), (0, 11, 1)), ((832, 832), (0, 11, 1)), ((833, 833), (0, 11, 1)), ((834, 834), (0, 11, 1)), ((835, 835), (0, 11, 1)), ((836, 836), (0, 11, 1)), ((837, 837), (0, 11, 1)), ((838, 838), (0, 11, 1)), ((839, 839), (0, 33, 1)), ((840, 840), (0, 11, 1)), ((841, 841), (0, 10, 1)), ((843, 843), (0, 1, 1)), ((844, 844), (0, 9, 1)), ((845, 845), (0, 11, 1)), ((846, 846), (0, 1, 1)), ((847, 847), (0, 1, 1)), ((848, 848), (0, 33, 1)), ((849, 849), (0, 16, 1)), ((850, 850), (0, 11, 1)), ((851, 851), (0, 11, 1)), ((852, 852), (0, 11, 1)), ((854, 854), (0, 11, 1)), ((855, 855), (0, 23, 1)), ((856, 856), (0, 287, 1)), ((857, 857), (0, 9, 1)), ((858, 858), (0, 9, 1)), ((859, 859), (0, 2, 1))] (by decide +kernel) H
  have hf := H.2.2.2.2.2.2.2.2.2.2.1
  have hl1 : α1.length = 3 := by rw [Hr.2.1.1]; rfl
  have hl0 : α.length = 3 := by rw [H.2.1.1]; rfl
  have hxa : al_le xs α1 := H.1.trans hle
  obtain ⟨g1, -, g3, g4, -⟩ := as_fx Hr
  have g0 : (805 ≤ nv α1 0 ∧ nv α1 0 ≤ 805) ∧ (1 ≤ nv α1 1 ∧ nv α1 1 ≤ 60) ∧ (0 ≤ nv α1 2 ∧ nv α1 2 ≤ 59) ∧ True := by
    refine ⟨by have h := (en_nv (i := 0) Hr.2.1 rfl).2; exact h, by have h := (en_nv (i := 1) Hr.2.1 rfl).2; exact h, by have h := (en_nv (i := 2) Hr.2.1 rfl).2; exact h, trivial⟩
  have r0 : nv α1 0 = nv α 0 := nv_le hle (by omega)
  have r1 : nv α1 1 = nv α 1 := nv_le hle (by omega)
  have r2 : nv α1 2 = nv α 2 := nv_le hle (by omega)
  refine hd_callPR (Rr := R_mDay) (Rs := [kh_mDay]) (idx := 321) G (List.forall_mem_cons.mpr ⟨kh_mDay_okP, List.forall_mem_nil _⟩) (fun Cc hCc ys hnm => by
      have z1 : nv α 1 = nv xs 1 := nv_le H.1 (by omega)
      obtain ⟨⟨p0, p1⟩, p2, p3, p4⟩ := hp
      show (S1.1 806 0).toInt ≤ 998
      have : dayM S1 = (S1.1 806 0).toInt := rfl
      omega) (na := 3) (Bs := [kh_mPass_b52_0]) (by decide +kernel) (by decide +kernel) hl1 Hr ?_
  intro q hq β lv' st' S' H1 hRx
  simp only [List.mem_cons, List.not_mem_nil, or_false] at hq
  rcases hq with rfl
  · obtain ⟨f1, f2, f3, f4, f5⟩ := as_fx H1
    simp only [kh_mPass_b52_0, Nat.reduceEqDiff, if_false, fx_env, fx_c, fx_ne, fx_hf, wl_S, Nat.zero_add, Nat.reduceAdd, Nat.reduceDiv, Nat.reduceMod, List.getElem?_cons_zero, List.getElem?_cons_succ, if_true, and_true, true_and] at f1 f2 f3 f4 f5
    have fe0 : nv β 0 = 805 := by omega
    try simp only [fe0, Int.reduceToNat] at f2 f3 f4 f5
    have s0 : nv β 0 = nv α1 0 := nv_le H1.1 (by omega)
    have s1 : nv β 1 = nv α1 1 := nv_le H1.1 (by omega)
    have s2 : nv β 2 = nv α1 2 := nv_le H1.1 (by omega)
    obtain ⟨α', Ha, hm⟩ := hd_gpM (q := kh_mPass_a55) (n := 0) (by decide +kernel) hx H1 (by decide +kernel) hxa hf
    have hfr := H1.2.2.2.2.2.2.2.2.2.2.1
    have m0 : nv α' 0 = nv β 0 := hm 0 0 rfl
    have m1 : nv α' 1 = nv β 1 := hm 1 1 rfl
    have m2 : nv α' 2 = nv β 2 := hm 2 2 rfl
    have z1 : nv α 1 = nv xs 1 := nv_le H.1 (by omega)
    obtain ⟨Cc, hCc, ys, rr, hnm, hR, rest, hre⟩ := hRx
    rcases List.mem_singleton.mp hCc with rfl
    obtain ⟨q1, q2⟩ := hR
    obtain ⟨⟨p0, p1⟩, p2, p3, p4⟩ := hp
    refine ih.2.2.2.1 _ _ _ _ Ha ?_ ?_
    · rw [m2, s2, r2, q1, q2, p3, p4]
      exact ⟨⟨p0, by omega⟩, p2, rfl, rfl⟩
    · omega
set_option maxHeartbeats 16000000 in
set_option maxRecDepth 8000 in
theorem kh_mPass_h55 {l : Launch} {D : va_G} {tc : Nat → ClassId} {ad : Nat → Nat} {kd : Nat → Nat × Nat} {N : Nat} {sm : Nat → Nat} {xs : List av_X} {S : fw_S} {p : Program} {e : Env} {s : State} {m : MethodId} {args : Array Value} {below : List Frame} {meth : Method} {c : Code} {sz : Nat} {lvE : List (Nat × Value)} (G : hd_C wd_ff2 wd_fl2 kh_mPass [kh_in6, kh_592, kh_588, kh_day, kh_591, kh_590, kh_645] kh_mPass_y l D tc ad kd N sm xs p s m args meth c sz) (H0 : as_in ad sm wd_fl2 xs S kh_mPass.2.2.2.2.2.1 xs (hd_0 kh_mPass) lvE [] S) {k : Nat} (ih : kh_mPass_I l D tc ad kd N sm xs S p e s m args below meth c sz k) : (∀ (α : List av_X) (lv : List (Nat × Value)) (st : List Value) (S1 : fw_S), as_in ad sm wd_fl2 xs S kh_mPass.2.2.2.2.2.1 α kh_mPass_a55.2.2.1 lv st S1 → ((0 ≤ nv α 2 ∧ nv α 2 < nv xs 1) ∧ dayM S + nv xs 1 ≤ 999 ∧ dayM S1 = dayM S + nv α 2 + 1 ∧ skM S1 = skI ((nv α 2).toNat + 1) (skM S)) → (100 - nv α 2).toNat * 10 + 7 < k + 1 → hd_WR R_mPass wd_fl2 kh_mPass kh_mPass_y l D tc ad kd N sm xs S p e s m args below meth c sz 55 lv st S1 0) := by
  have hx : xs.length = 2 := by rw [H0.2.1.1]; rfl
  intro α lv st S1 H hp hk
  obtain ⟨α1, hle, Hr⟩ := as_recM (pl := []) [] (by decide +kernel) H
  have hf := H.2.2.2.2.2.2.2.2.2.2.1
  have hl1 : α1.length = 3 := by rw [Hr.2.1.1]; rfl
  have hl0 : α.length = 3 := by rw [H.2.1.1]; rfl
  have hxa : al_le xs α1 := H.1.trans hle
  obtain ⟨g1, -, g3, g4, -⟩ := as_fx Hr
  have g0 : (805 ≤ nv α1 0 ∧ nv α1 0 ≤ 805) ∧ (1 ≤ nv α1 1 ∧ nv α1 1 ≤ 60) ∧ (0 ≤ nv α1 2 ∧ nv α1 2 ≤ 59) ∧ True := by
    refine ⟨by have h := (en_nv (i := 0) Hr.2.1 rfl).2; exact h, by have h := (en_nv (i := 1) Hr.2.1 rfl).2; exact h, by have h := (en_nv (i := 2) Hr.2.1 rfl).2; exact h, trivial⟩
  have r0 : nv α1 0 = nv α 0 := nv_le hle (by omega)
  have r1 : nv α1 1 = nv α 1 := nv_le hle (by omega)
  have r2 : nv α1 2 = nv α 2 := nv_le hle (by omega)
  refine hd_segMR G (na := 3) (fuel := 600) (first := true) (Bs := [kh_mPass_b55_0]) (by decide +kernel) hl1 Hr ?_
  intro q hq β lv' st' S' H1
  simp only [List.mem_cons, List.not_mem_nil, or_false] at hq
  rcases hq with rfl
  · obtain ⟨f1, f2, f3, f4, f5⟩ := as_fx H1
    simp only [kh_mPass_b55_0, Nat.reduceEqDiff, if_false, fx_env, fx_c, fx_ne, fx_hf, wl_S, Nat.zero_add, Nat.reduceAdd, Nat.reduceDiv, Nat.reduceMod, List.getElem?_cons_zero, List.getElem?_cons_succ, if_true, and_true, true_and] at f1 f2 f3 f4 f5
    have fe0 : nv β 0 = 805 := by omega
    try simp only [fe0, Int.reduceToNat] at f2 f3 f4 f5
    have s0 : nv β 0 = nv α1 0 := nv_le H1.1 (by omega)
    have s1 : nv β 1 = nv α1 1 := nv_le H1.1 (by omega)
    have s2 : nv β 2 = nv α1 2 := nv_le H1.1 (by omega)
    obtain ⟨α', Ha, hm⟩ := hd_gpM (q := kh_mPass_a46) (n := 0) (by decide +kernel) hx H1 (by decide +kernel) hxa hf
    have hfr := H1.2.2.2.2.2.2.2.2.2.2.1
    have m0 : nv α' 0 = nv β 0 := hm 0 0 rfl
    have m1 : nv α' 1 = nv β 1 := hm 1 1 rfl
    have m2 : nv α' 2 = nv β 3 := hm 2 3 rfl
    have z1 : nv α 1 = nv xs 1 := nv_le H.1 (by omega)
    obtain ⟨⟨p0, p1⟩, p2, p3, p4⟩ := hp
    refine ih.2.1 _ _ _ _ Ha ?_ ?_
    · rw [m2, show S' = S1 from f5, p4, show (nv β 3).toNat = (nv α 2).toNat + 1 by omega]
      exact ⟨⟨by omega, by omega⟩, p2, by omega, rfl⟩
    · omega
set_option maxHeartbeats 16000000 in
set_option maxRecDepth 8000 in
theorem kh_mPass_okR : ct_okR wd_fl2 kh_mPass R_mPass := ct_handR (R := R_mPass) (ff := wd_ff2) (y := kh_mPass_y) (Cs := [kh_in6, kh_592, kh_588, kh_day, kh_591, kh_590, kh_645]) wd_fl2_ok rfl (List.forall_mem_cons.mpr ⟨kh_in6_ok, (List.forall_mem_cons.mpr ⟨kh_592_ok, (List.forall_mem_cons.mpr ⟨kh_588_ok, (List.forall_mem_cons.mpr ⟨kh_day_ok, (List.forall_mem_cons.mpr ⟨kh_591_ok, (List.forall_mem_cons.mpr ⟨kh_590_ok, (List.forall_mem_cons.mpr ⟨kh_645_ok, (List.forall_mem_nil _)⟩)⟩)⟩)⟩)⟩)⟩)⟩) (by decide +kernel) (fun l D tc ad kd N sm xs S p e s m args below meth c sz lv G H0 => by
  have hx : xs.length = 2 := by rw [H0.2.1.1]; rfl
  have hP : ∀ (k : Nat), kh_mPass_I l D tc ad kd N sm xs S p e s m args below meth c sz k := by
    intro k
    induction k with
    | zero => exact ⟨fun _ _ _ _ _ _ h => absurd h (Nat.not_lt_zero _), fun _ _ _ _ _ _ h => absurd h (Nat.not_lt_zero _), fun _ _ _ _ _ _ h => absurd h (Nat.not_lt_zero _), fun _ _ _ _ _ _ h => absurd h (Nat.not_lt_zero _), trivial⟩
    | succ k ih => exact ⟨kh_mPass_h17 G H0 ih, kh_mPass_h46 G H0 ih, kh_mPass_h52 G H0 ih, kh_mPass_h55 G H0 ih, trivial⟩
  obtain ⟨α1, hle, Hr⟩ := as_recM (pl := []) [((805, 805), (8, 8, 0))] (by decide +kernel) H0
  have hf := H0.2.2.2.2.2.2.2.2.2.2.1
  have hl1 : α1.length = 2 := by rw [Hr.2.1.1]; rfl
  have hl0 : xs.length = 2 := by rw [H0.2.1.1]; rfl
  have hxa : al_le xs α1 := H0.1.trans hle
  obtain ⟨g1, -, g3, g4, -⟩ := as_fx Hr
  have g0 : (805 ≤ nv α1 0 ∧ nv α1 0 ≤ 805) ∧ (1 ≤ nv α1 1 ∧ nv α1 1 ≤ 60) ∧ True := by
    refine ⟨by have h := (en_nv (i := 0) Hr.2.1 rfl).2; exact h, by have h := (en_nv (i := 1) Hr.2.1 rfl).2; exact h, trivial⟩
  have r0 : nv α1 0 = nv xs 0 := nv_le hle (by omega)
  have r1 : nv α1 1 = nv xs 1 := nv_le hle (by omega)
  refine hd_segMR G (na := 2) (fuel := 600) (first := true) (Bs := [kh_mPass_b0_0, kh_mPass_b0_1]) (by decide +kernel) hl1 Hr ?_
  intro q hq β lv' st' S' H1
  simp only [List.mem_cons, List.not_mem_nil, or_false] at hq
  rcases hq with rfl | rfl
  · obtain ⟨f1, f2, f3, f4, f5⟩ := as_fx H1
    simp only [kh_mPass_b0_0, Nat.reduceEqDiff, if_false, fx_env, fx_c, fx_ne, fx_hf, wl_S, Nat.zero_add, Nat.reduceAdd, Nat.reduceDiv, Nat.reduceMod, List.getElem?_cons_zero, List.getElem?_cons_succ, if_true, and_true, true_and] at f1 f2 f3 f4 f5
    have fe0 : nv β 0 = 805 := by omega
    have fe2 : nv β 2 = 1 := by omega
    have fe3 : nv β 3 = 60 := by omega
    have fe4 : nv β 4 = 0 := by omega
    have fe5 : nv β 5 = 1 := by omega
    have fe6 : nv β 6 = 1 := by omega
    have fe7 : nv β 7 = 0 := by omega
    try simp only [fe0, fe2, fe3, fe4, fe5, fe6, fe7, Int.reduceToNat] at f2 f3 f4 f5
    have s0 : nv β 0 = nv α1 0 := nv_le H1.1 (by omega)
    have s1 : nv β 1 = nv α1 1 := nv_le H1.1 (by omega)
    have c0 := f2
    have d0 := c0
    simp only [wd_fl2, if_neg (show ¬ (wd_base1 46 = true) by decide)] at d0
    exfalso
    unfold b2i at d0
    rw [if_pos ⟨by omega, by omega⟩] at d0
    omega
  · obtain ⟨f1, f2, f3, f4, f5⟩ := as_fx H1
    simp only [kh_mPass_b0_1, Nat.reduceEqDiff, if_false, fx_env, fx_c, fx_ne, fx_hf, wl_S, Nat.zero_add, Nat.reduceAdd, Nat.reduceDiv, Nat.reduceMod, List.getElem?_cons_zero, List.getElem?_cons_succ, if_true, and_true, true_and] at f1 f2 f3 f4 f5
    have fe0 : nv β 0 = 805 := by omega
    have fe2 : nv β 2 = 1 := by omega
    have fe3 : nv β 3 = 60 := by omega
    have fe4 : nv β 4 = 1 := by omega
    have fe5 : nv β 5 = 1 := by omega
    have fe6 : nv β 6 = 0 := by omega
    try simp only [fe0, fe2, fe3, fe4, fe5, fe6, Int.reduceToNat] at f2 f3 f4 f5
    have s0 : nv β 0 = nv α1 0 := nv_le H1.1 (by omega)
    have s1 : nv β 1 = nv α1 1 := nv_le H1.1 (by omega)
    have c0 := f2
    obtain ⟨α', Ha, hm⟩ := hd_gpM (q := kh_mPass_a17) (n := 0) (by decide +kernel) hx H1 (by decide +kernel) hxa hf
    have hfr := H1.2.2.2.2.2.2.2.2.2.2.1
    have m0 : nv α' 0 = nv β 0 := hm 0 0 rfl
    have m1 : nv α' 1 = nv β 1 := hm 1 1 rfl
    have e1 := fr_pl hfr 806 1 (by decide +kernel)
    have e4 := fr_pl hfr 806 4 (by decide +kernel)
    have e5' := fr_pl hfr 806 5 (by decide +kernel)
    have er : ∀ k : Nat, k < 4 → mrw S' k = mrw S k ∧ mcl S' k = mcl S k := fun k hk => ⟨congrArg Int32.toInt (fr_pg hfr 806 (500, 512, 4) (by decide +kernel) (pg_mk (by omega) (by omega) (by omega))), congrArg Int32.toInt (fr_pg hfr 806 (502, 514, 4) (by decide +kernel) (pg_mk (by omega) (by omega) (by omega)))⟩
    refine (hP _).1 _ _ _ _ Ha ?_ (Nat.lt_succ_self _)
    · exact ⟨congrArg Int32.toInt (fr_pl hfr 806 0 (by decide +kernel)), skM_eq e1 e4 e5' er⟩)
theorem kh_mPass_ok : ct_ok wd_fl2 kh_mPass := ct_okR_ok kh_mPass_okR
