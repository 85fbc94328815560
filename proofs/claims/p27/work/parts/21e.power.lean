/-! ===== powerDeal: of the lines that lead, fewer each time ===== -/
/- UtilityWorksModel hasLink -/
def kh_322 : ct_T := (356, [(2, 805, 805, 0), (0, 0, 0, 0), (0, 0, 0, 0)], [], [], [(1, (0, 0, 0, 0), [(2, 805, 805, 0), (0, 0, 0, 0), (0, 0, 0, 0)], [], ([], [])), (1, (0, 1, 1, 0), [(2, 805, 805, 0), (0, 0, 0, 0), (0, 0, 0, 0)], [((806, 806), (140, 140, 0), (0, 1, 1, 1))], ([], []))], [], 1, 22, 0)
theorem kh_322_ok : ct_ok wd_fl kh_322 := ct_of (ff := wd_ff) (y := (⟨"UtilityWorksModel", "hasLink", "(II)Z"⟩, prog_14_method_17_code, 3, some .boolean, 12, 1, 2, 32203, 32202, 5004, 21014)) (Cs := [kh_294]) (an := []) (ss := []) (K := 1) (fuel := 4000) wd_fl_ok rfl (List.forall_mem_cons.mpr ⟨kh_294_ok, (List.forall_mem_nil _)⟩) (by decide +kernel)
/- UtilityWorksModel isFine -/
def kh_323 : ct_T := (359, [(2, 805, 805, 0), (0, 0, 0, 0), (0, 0, 0, 0)], [], [], [(1, (0, 1, 1, 0), [(2, 805, 805, 0), (0, 0, 0, 0), (0, 0, 0, 0)], [((806, 806), (140, 140, 0), (0, 1, 1, 1)), ((806, 806), (142, 142, 0), (0, 1, 1, 1))], ([], [])), (1, (0, 0, 0, 0), [(2, 805, 805, 0), (0, 0, 0, 0), (0, 0, 0, 0)], [], ([], []))], [], 2, 44, 0)
theorem kh_323_ok : ct_ok wd_fl kh_323 := ct_of (ff := wd_ff) (y := (⟨"UtilityWorksModel", "isFine", "(II)Z"⟩, prog_14_method_19_code, 3, some .boolean, 12, 1, 2, 32215, 32214, 5007, 21014)) (Cs := [kh_322, kh_294]) (an := [(30, 0, ([((2, 805, 805, 0), none), ((0, 0, 0, 0), none), ((0, 0, 0, 0), none)], [(0, 0), (1, 1), (2, 2)], [], [], [], [], [], [], none), [(0, 0, 99970)])]) (ss := []) (K := 1) (fuel := 4000) wd_fl_ok rfl (List.forall_mem_cons.mpr ⟨kh_322_ok, (List.forall_mem_cons.mpr ⟨kh_294_ok, (List.forall_mem_nil _)⟩)⟩) (by decide +kernel)
/- UtilityWorksModel isOn -/
def kh_324 : ct_T := (360, [(2, 805, 805, 0), (0, 0, 0, 0), (0, 0, 0, 0)], [], [], [(1, (0, 1, 1, 0), [(2, 805, 805, 0), (0, 0, 0, 0), (0, 0, 0, 0)], [((806, 806), (140, 140, 0), (0, 1, 1, 1)), ((806, 806), (143, 143, 0), (0, 1, 1, 1))], ([], [])), (1, (0, 0, 0, 0), [(2, 805, 805, 0), (0, 0, 0, 0), (0, 0, 0, 0)], [], ([], []))], [], 2, 44, 0)
theorem kh_324_ok : ct_ok wd_fl kh_324 := ct_of (ff := wd_ff) (y := (⟨"UtilityWorksModel", "isOn", "(II)Z"⟩, prog_14_method_20_code, 3, some .boolean, 12, 1, 2, 32219, 32218, 5008, 21014)) (Cs := [kh_322, kh_294]) (an := [(30, 0, ([((2, 805, 805, 0), none), ((0, 0, 0, 0), none), ((0, 0, 0, 0), none)], [(0, 0), (1, 1), (2, 2)], [], [], [], [], [], [], none), [(0, 0, 99970)])]) (ss := []) (K := 1) (fuel := 4000) wd_fl_ok rfl (List.forall_mem_cons.mpr ⟨kh_322_ok, (List.forall_mem_cons.mpr ⟨kh_294_ok, (List.forall_mem_nil _)⟩)⟩) (by decide +kernel)
/- UtilityWorksModel leads -/
def kh_325 : ct_T := (358, [(2, 805, 805, 0), (0, 0, 0, 0), (0, 0, 0, 0)], [], [], [(1, (0, 1, 1, 0), [(2, 805, 805, 0), (0, 0, 0, 0), (0, 0, 0, 0)], [((806, 806), (140, 140, 0), (0, 1, 1, 1)), ((806, 806), (142, 142, 0), (0, 1, 1, 1)), ((806, 806), (143, 143, 0), (0, 1, 1, 1))], ([], [])), (1, (0, 0, 0, 0), [(2, 805, 805, 0), (0, 0, 0, 0), (0, 0, 0, 0)], [], ([], []))], [], 3, 66, 0)
theorem kh_325_ok : ct_ok wd_fl kh_325 := ct_of (ff := wd_ff) (y := (⟨"UtilityWorksModel", "leads", "(II)Z"⟩, prog_14_method_21_code, 3, some .boolean, 12, 1, 2, 32211, 32210, 5006, 21014)) (Cs := [kh_323, kh_324]) (an := [(22, 0, ([((2, 805, 805, 0), none), ((0, 0, 0, 0), none), ((0, 0, 0, 0), none)], [(0, 0), (1, 1), (2, 2)], [], [], [], [], [], [], none), [(0, 0, 99978)])]) (ss := []) (K := 1) (fuel := 4000) wd_fl_ok rfl (List.forall_mem_cons.mpr ⟨kh_323_ok, (List.forall_mem_cons.mpr ⟨kh_324_ok, (List.forall_mem_nil _)⟩)⟩) (by decide +kernel)
/- UtilityWorksModel hasLink -/
def kh_326 : ct_T := (356, [(2, 805, 805, 0), (0, 0, 0, 0), (0, 0, 1, 1)], [], [], [(1, (0, 0, 0, 0), [(2, 805, 805, 0), (0, 0, 0, 0), (0, 0, 1, 1)], [], ([], [])), (1, (0, 1, 1, 0), [(2, 805, 805, 0), (0, 0, 0, 0), (0, 0, 1, 1)], [], ([], []))], [], 1, 22, 0)
theorem kh_326_ok : ct_ok wd_fl kh_326 := ct_of (ff := wd_ff) (y := (⟨"UtilityWorksModel", "hasLink", "(II)Z"⟩, prog_14_method_17_code, 3, some .boolean, 12, 1, 2, 32203, 32202, 5004, 21014)) (Cs := [kh_296]) (an := []) (ss := []) (K := 1) (fuel := 4000) wd_fl_ok rfl (List.forall_mem_cons.mpr ⟨kh_296_ok, (List.forall_mem_nil _)⟩) (by decide +kernel)
/- UtilityWorksModel isFine -/
def kh_327 : ct_T := (359, [(2, 805, 805, 0), (0, 0, 0, 0), (0, 0, 1, 1)], [], [], [(1, (0, 1, 1, 0), [(2, 805, 805, 0), (0, 0, 0, 0), (0, 0, 1, 1)], [], ([], [])), (1, (0, 0, 0, 0), [(2, 805, 805, 0), (0, 0, 0, 0), (0, 0, 1, 1)], [], ([], []))], [], 2, 44, 0)
theorem kh_327_ok : ct_ok wd_fl kh_327 := ct_of (ff := wd_ff) (y := (⟨"UtilityWorksModel", "isFine", "(II)Z"⟩, prog_14_method_19_code, 3, some .boolean, 12, 1, 2, 32215, 32214, 5007, 21014)) (Cs := [kh_326, kh_296]) (an := [(30, 0, ([((2, 805, 805, 0), none), ((0, 0, 0, 0), none), ((0, 0, 1, 1), none)], [(0, 0), (1, 1), (2, 2)], [], [], [], [], [], [], none), [(0, 0, 99970)])]) (ss := []) (K := 1) (fuel := 4000) wd_fl_ok rfl (List.forall_mem_cons.mpr ⟨kh_326_ok, (List.forall_mem_cons.mpr ⟨kh_296_ok, (List.forall_mem_nil _)⟩)⟩) (by decide +kernel)
/- UtilityWorksModel isOn -/
def kh_328 : ct_T := (360, [(2, 805, 805, 0), (0, 0, 0, 0), (0, 0, 1, 1)], [], [], [(1, (0, 1, 1, 0), [(2, 805, 805, 0), (0, 0, 0, 0), (0, 0, 1, 1)], [], ([], [])), (1, (0, 0, 0, 0), [(2, 805, 805, 0), (0, 0, 0, 0), (0, 0, 1, 1)], [], ([], []))], [], 2, 44, 0)
theorem kh_328_ok : ct_ok wd_fl kh_328 := ct_of (ff := wd_ff) (y := (⟨"UtilityWorksModel", "isOn", "(II)Z"⟩, prog_14_method_20_code, 3, some .boolean, 12, 1, 2, 32219, 32218, 5008, 21014)) (Cs := [kh_326, kh_296]) (an := [(30, 0, ([((2, 805, 805, 0), none), ((0, 0, 0, 0), none), ((0, 0, 1, 1), none)], [(0, 0), (1, 1), (2, 2)], [], [], [], [], [], [], none), [(0, 0, 99970)])]) (ss := []) (K := 1) (fuel := 4000) wd_fl_ok rfl (List.forall_mem_cons.mpr ⟨kh_326_ok, (List.forall_mem_cons.mpr ⟨kh_296_ok, (List.forall_mem_nil _)⟩)⟩) (by decide +kernel)
/- UtilityWorksModel leads -/
def kh_329 : ct_T := (358, [(2, 805, 805, 0), (0, 0, 0, 0), (0, 0, 1, 1)], [], [], [(1, (0, 1, 1, 0), [(2, 805, 805, 0), (0, 0, 0, 0), (0, 0, 1, 1)], [], ([], [])), (1, (0, 0, 0, 0), [(2, 805, 805, 0), (0, 0, 0, 0), (0, 0, 1, 1)], [], ([], []))], [], 3, 66, 0)
theorem kh_329_ok : ct_ok wd_fl kh_329 := ct_of (ff := wd_ff) (y := (⟨"UtilityWorksModel", "leads", "(II)Z"⟩, prog_14_method_21_code, 3, some .boolean, 12, 1, 2, 32211, 32210, 5006, 21014)) (Cs := [kh_327, kh_328]) (an := [(22, 0, ([((2, 805, 805, 0), none), ((0, 0, 0, 0), none), ((0, 0, 1, 1), none)], [(0, 0), (1, 1), (2, 2)], [], [], [], [], [], [], none), [(0, 0, 99978)])]) (ss := []) (K := 1) (fuel := 4000) wd_fl_ok rfl (List.forall_mem_cons.mpr ⟨kh_327_ok, (List.forall_mem_cons.mpr ⟨kh_328_ok, (List.forall_mem_nil _)⟩)⟩) (by decide +kernel)
/- UtilityWorksModel hasLink -/
def kh_330 : ct_T := (356, [(2, 805, 805, 0), (0, 0, 0, 0), (0, 0, 2, 1)], [], [], [(1, (0, 0, 0, 0), [(2, 805, 805, 0), (0, 0, 0, 0), (0, 0, 2, 1)], [], ([], [])), (1, (0, 1, 1, 0), [(2, 805, 805, 0), (0, 0, 0, 0), (0, 0, 2, 1)], [], ([], []))], [], 1, 22, 0)
theorem kh_330_ok : ct_ok wd_fl kh_330 := ct_of (ff := wd_ff) (y := (⟨"UtilityWorksModel", "hasLink", "(II)Z"⟩, prog_14_method_17_code, 3, some .boolean, 12, 1, 2, 32203, 32202, 5004, 21014)) (Cs := [kh_298]) (an := []) (ss := []) (K := 1) (fuel := 4000) wd_fl_ok rfl (List.forall_mem_cons.mpr ⟨kh_298_ok, (List.forall_mem_nil _)⟩) (by decide +kernel)
/- UtilityWorksModel isFine -/
def kh_331 : ct_T := (359, [(2, 805, 805, 0), (0, 0, 0, 0), (0, 0, 2, 1)], [], [], [(1, (0, 1, 1, 0), [(2, 805, 805, 0), (0, 0, 0, 0), (0, 0, 2, 1)], [], ([], [])), (1, (0, 0, 0, 0), [(2, 805, 805, 0), (0, 0, 0, 0), (0, 0, 2, 1)], [], ([], []))], [], 2, 44, 0)
theorem kh_331_ok : ct_ok wd_fl kh_331 := ct_of (ff := wd_ff) (y := (⟨"UtilityWorksModel", "isFine", "(II)Z"⟩, prog_14_method_19_code, 3, some .boolean, 12, 1, 2, 32215, 32214, 5007, 21014)) (Cs := [kh_330, kh_298]) (an := [(30, 0, ([((2, 805, 805, 0), none), ((0, 0, 0, 0), none), ((0, 0, 2, 1), none)], [(0, 0), (1, 1), (2, 2)], [], [], [], [], [], [], none), [(0, 0, 99970)])]) (ss := []) (K := 1) (fuel := 4000) wd_fl_ok rfl (List.forall_mem_cons.mpr ⟨kh_330_ok, (List.forall_mem_cons.mpr ⟨kh_298_ok, (List.forall_mem_nil _)⟩)⟩) (by decide +kernel)
/- UtilityWorksModel isOn -/
def kh_332 : ct_T := (360, [(2, 805, 805, 0), (0, 0, 0, 0), (0, 0, 2, 1)], [], [], [(1, (0, 1, 1, 0), [(2, 805, 805, 0), (0, 0, 0, 0), (0, 0, 2, 1)], [], ([], [])), (1, (0, 0, 0, 0), [(2, 805, 805, 0), (0, 0, 0, 0), (0, 0, 2, 1)], [], ([], []))], [], 2, 44, 0)
theorem kh_332_ok : ct_ok wd_fl kh_332 := ct_of (ff := wd_ff) (y := (⟨"UtilityWorksModel", "isOn", "(II)Z"⟩, prog_14_method_20_code, 3, some .boolean, 12, 1, 2, 32219, 32218, 5008, 21014)) (Cs := [kh_330, kh_298]) (an := [(30, 0, ([((2, 805, 805, 0), none), ((0, 0, 0, 0), none), ((0, 0, 2, 1), none)], [(0, 0), (1, 1), (2, 2)], [], [], [], [], [], [], none), [(0, 0, 99970)])]) (ss := []) (K := 1) (fuel := 4000) wd_fl_ok rfl (List.forall_mem_cons.mpr ⟨kh_330_ok, (List.forall_mem_cons.mpr ⟨kh_298_ok, (List.forall_mem_nil _)⟩)⟩) (by decide +kernel)
/- UtilityWorksModel leads -/
def kh_333 : ct_T := (358, [(2, 805, 805, 0), (0, 0, 0, 0), (0, 0, 2, 1)], [], [], [(1, (0, 1, 1, 0), [(2, 805, 805, 0), (0, 0, 0, 0), (0, 0, 2, 1)], [], ([], [])), (1, (0, 0, 0, 0), [(2, 805, 805, 0), (0, 0, 0, 0), (0, 0, 2, 1)], [], ([], []))], [], 3, 66, 0)
theorem kh_333_ok : ct_ok wd_fl kh_333 := ct_of (ff := wd_ff) (y := (⟨"UtilityWorksModel", "leads", "(II)Z"⟩, prog_14_method_21_code, 3, some .boolean, 12, 1, 2, 32211, 32210, 5006, 21014)) (Cs := [kh_331, kh_332]) (an := [(22, 0, ([((2, 805, 805, 0), none), ((0, 0, 0, 0), none), ((0, 0, 2, 1), none)], [(0, 0), (1, 1), (2, 2)], [], [], [], [], [], [], none), [(0, 0, 99978)])]) (ss := []) (K := 1) (fuel := 4000) wd_fl_ok rfl (List.forall_mem_cons.mpr ⟨kh_331_ok, (List.forall_mem_cons.mpr ⟨kh_332_ok, (List.forall_mem_nil _)⟩)⟩) (by decide +kernel)
/- UtilityWorksModel hasLink -/
def kh_334 : ct_T := (356, [(2, 805, 805, 0), (0, 0, 0, 0), (0, 0, 3, 1)], [], [], [(1, (0, 0, 0, 0), [(2, 805, 805, 0), (0, 0, 0, 0), (0, 0, 3, 1)], [], ([], [])), (1, (0, 1, 1, 0), [(2, 805, 805, 0), (0, 0, 0, 0), (0, 0, 3, 1)], [], ([], []))], [], 1, 22, 0)
theorem kh_334_ok : ct_ok wd_fl kh_334 := ct_of (ff := wd_ff) (y := (⟨"UtilityWorksModel", "hasLink", "(II)Z"⟩, prog_14_method_17_code, 3, some .boolean, 12, 1, 2, 32203, 32202, 5004, 21014)) (Cs := [kh_300]) (an := []) (ss := []) (K := 1) (fuel := 4000) wd_fl_ok rfl (List.forall_mem_cons.mpr ⟨kh_300_ok, (List.forall_mem_nil _)⟩) (by decide +kernel)
/- UtilityWorksModel isFine -/
def kh_335 : ct_T := (359, [(2, 805, 805, 0), (0, 0, 0, 0), (0, 0, 3, 1)], [], [], [(1, (0, 1, 1, 0), [(2, 805, 805, 0), (0, 0, 0, 0), (0, 0, 3, 1)], [], ([], [])), (1, (0, 0, 0, 0), [(2, 805, 805, 0), (0, 0, 0, 0), (0, 0, 3, 1)], [], ([], []))], [], 2, 44, 0)
theorem kh_335_ok : ct_ok wd_fl kh_335 := ct_of (ff := wd_ff) (y := (⟨"UtilityWorksModel", "isFine", "(II)Z"⟩, prog_14_method_19_code, 3, some .boolean, 12, 1, 2, 32215, 32214, 5007, 21014)) (Cs := [kh_334, kh_300]) (an := [(30, 0, ([((2, 805, 805, 0), none), ((0, 0, 0, 0), none), ((0, 0, 3, 1), none)], [(0, 0), (1, 1), (2, 2)], [], [], [], [], [], [], none), [(0, 0, 99970)])]) (ss := []) (K := 1) (fuel := 4000) wd_fl_ok rfl (List.forall_mem_cons.mpr ⟨kh_334_ok, (List.forall_mem_cons.mpr ⟨kh_300_ok, (List.forall_mem_nil _)⟩)⟩) (by decide +kernel)
/- UtilityWorksModel isOn -/
def kh_336 : ct_T := (360, [(2, 805, 805, 0), (0, 0, 0, 0), (0, 0, 3, 1)], [], [], [(1, (0, 1, 1, 0), [(2, 805, 805, 0), (0, 0, 0, 0), (0, 0, 3, 1)], [], ([], [])), (1, (0, 0, 0, 0), [(2, 805, 805, 0), (0, 0, 0, 0), (0, 0, 3, 1)], [], ([], []))], [], 2, 44, 0)
theorem kh_336_ok : ct_ok wd_fl kh_336 := ct_of (ff := wd_ff) (y := (⟨"UtilityWorksModel", "isOn", "(II)Z"⟩, prog_14_method_20_code, 3, some .boolean, 12, 1, 2, 32219, 32218, 5008, 21014)) (Cs := [kh_334, kh_300]) (an := [(30, 0, ([((2, 805, 805, 0), none), ((0, 0, 0, 0), none), ((0, 0, 3, 1), none)], [(0, 0), (1, 1), (2, 2)], [], [], [], [], [], [], none), [(0, 0, 99970)])]) (ss := []) (K := 1) (fuel := 4000) wd_fl_ok rfl (List.forall_mem_cons.mpr ⟨kh_334_ok, (List.forall_mem_cons.mpr ⟨kh_300_ok, (List.forall_mem_nil _)⟩)⟩) (by decide +kernel)
/- UtilityWorksModel leads -/
def kh_337 : ct_T := (358, [(2, 805, 805, 0), (0, 0, 0, 0), (0, 0, 3, 1)], [], [], [(1, (0, 1, 1, 0), [(2, 805, 805, 0), (0, 0, 0, 0), (0, 0, 3, 1)], [], ([], [])), (1, (0, 0, 0, 0), [(2, 805, 805, 0), (0, 0, 0, 0), (0, 0, 3, 1)], [], ([], []))], [], 3, 66, 0)
theorem kh_337_ok : ct_ok wd_fl kh_337 := ct_of (ff := wd_ff) (y := (⟨"UtilityWorksModel", "leads", "(II)Z"⟩, prog_14_method_21_code, 3, some .boolean, 12, 1, 2, 32211, 32210, 5006, 21014)) (Cs := [kh_335, kh_336]) (an := [(22, 0, ([((2, 805, 805, 0), none), ((0, 0, 0, 0), none), ((0, 0, 3, 1), none)], [(0, 0), (1, 1), (2, 2)], [], [], [], [], [], [], none), [(0, 0, 99978)])]) (ss := []) (K := 1) (fuel := 4000) wd_fl_ok rfl (List.forall_mem_cons.mpr ⟨kh_335_ok, (List.forall_mem_cons.mpr ⟨kh_336_ok, (List.forall_mem_nil _)⟩)⟩) (by decide +kernel)
/- UtilityWorksModel hasLink -/
def kh_338 : ct_T := (356, [(2, 805, 805, 0), (0, 0, 0, 0), (0, 0, 4, 1)], [], [], [(1, (0, 0, 0, 0), [(2, 805, 805, 0), (0, 0, 0, 0), (0, 0, 4, 1)], [], ([], [])), (1, (0, 1, 1, 0), [(2, 805, 805, 0), (0, 0, 0, 0), (0, 0, 4, 1)], [], ([], []))], [], 1, 22, 0)
theorem kh_338_ok : ct_ok wd_fl kh_338 := ct_of (ff := wd_ff) (y := (⟨"UtilityWorksModel", "hasLink", "(II)Z"⟩, prog_14_method_17_code, 3, some .boolean, 12, 1, 2, 32203, 32202, 5004, 21014)) (Cs := [kh_302]) (an := []) (ss := []) (K := 1) (fuel := 4000) wd_fl_ok rfl (List.forall_mem_cons.mpr ⟨kh_302_ok, (List.forall_mem_nil _)⟩) (by decide +kernel)
/- UtilityWorksModel isFine -/
def kh_339 : ct_T := (359, [(2, 805, 805, 0), (0, 0, 0, 0), (0, 0, 4, 1)], [], [], [(1, (0, 1, 1, 0), [(2, 805, 805, 0), (0, 0, 0, 0), (0, 0, 4, 1)], [], ([], [])), (1, (0, 0, 0, 0), [(2, 805, 805, 0), (0, 0, 0, 0), (0, 0, 4, 1)], [], ([], []))], [], 2, 44, 0)
theorem kh_339_ok : ct_ok wd_fl kh_339 := ct_of (ff := wd_ff) (y := (⟨"UtilityWorksModel", "isFine", "(II)Z"⟩, prog_14_method_19_code, 3, some .boolean, 12, 1, 2, 32215, 32214, 5007, 21014)) (Cs := [kh_338, kh_302]) (an := [(30, 0, ([((2, 805, 805, 0), none), ((0, 0, 0, 0), none), ((0, 0, 4, 1), none)], [(0, 0), (1, 1), (2, 2)], [], [], [], [], [], [], none), [(0, 0, 99970)])]) (ss := []) (K := 1) (fuel := 4000) wd_fl_ok rfl (List.forall_mem_cons.mpr ⟨kh_338_ok, (List.forall_mem_cons.mpr ⟨kh_302_ok, (List.forall_mem_nil _)⟩)⟩) (by decide +kernel)
/- UtilityWorksModel isOn -/
def kh_340 : ct_T := (360, [(2, 805, 805, 0), (0, 0, 0, 0), (0, 0, 4, 1)], [], [], [(1, (0, 1, 1, 0), [(2, 805, 805, 0), (0, 0, 0, 0), (0, 0, 4, 1)], [], ([], [])), (1, (0, 0, 0, 0), [(2, 805, 805, 0), (0, 0, 0, 0), (0, 0, 4, 1)], [], ([], []))], [], 2, 44, 0)
theorem kh_340_ok : ct_ok wd_fl kh_340 := ct_of (ff := wd_ff) (y := (⟨"UtilityWorksModel", "isOn", "(II)Z"⟩, prog_14_method_20_code, 3, some .boolean, 12, 1, 2, 32219, 32218, 5008, 21014)) (Cs := [kh_338, kh_302]) (an := [(30, 0, ([((2, 805, 805, 0), none), ((0, 0, 0, 0), none), ((0, 0, 4, 1), none)], [(0, 0), (1, 1), (2, 2)], [], [], [], [], [], [], none), [(0, 0, 99970)])]) (ss := []) (K := 1) (fuel := 4000) wd_fl_ok rfl (List.forall_mem_cons.mpr ⟨kh_338_ok, (List.forall_mem_cons.mpr ⟨kh_302_ok, (List.forall_mem_nil _)⟩)⟩) (by decide +kernel)
/- UtilityWorksModel leads -/
def kh_341 : ct_T := (358, [(2, 805, 805, 0), (0, 0, 0, 0), (0, 0, 4, 1)], [], [], [(1, (0, 1, 1, 0), [(2, 805, 805, 0), (0, 0, 0, 0), (0, 0, 4, 1)], [], ([], [])), (1, (0, 0, 0, 0), [(2, 805, 805, 0), (0, 0, 0, 0), (0, 0, 4, 1)], [], ([], []))], [], 3, 66, 0)
theorem kh_341_ok : ct_ok wd_fl kh_341 := ct_of (ff := wd_ff) (y := (⟨"UtilityWorksModel", "leads", "(II)Z"⟩, prog_14_method_21_code, 3, some .boolean, 12, 1, 2, 32211, 32210, 5006, 21014)) (Cs := [kh_339, kh_340]) (an := [(22, 0, ([((2, 805, 805, 0), none), ((0, 0, 0, 0), none), ((0, 0, 4, 1), none)], [(0, 0), (1, 1), (2, 2)], [], [], [], [], [], [], none), [(0, 0, 99978)])]) (ss := []) (K := 1) (fuel := 4000) wd_fl_ok rfl (List.forall_mem_cons.mpr ⟨kh_339_ok, (List.forall_mem_cons.mpr ⟨kh_340_ok, (List.forall_mem_nil _)⟩)⟩) (by decide +kernel)
/- UtilityWorksModel hasLink -/
def kh_342 : ct_T := (356, [(2, 805, 805, 0), (0, 0, 0, 0), (0, 0, 5, 1)], [], [], [(1, (0, 0, 0, 0), [(2, 805, 805, 0), (0, 0, 0, 0), (0, 0, 5, 1)], [], ([], [])), (1, (0, 1, 1, 0), [(2, 805, 805, 0), (0, 0, 0, 0), (0, 0, 5, 1)], [], ([], []))], [], 1, 22, 0)
theorem kh_342_ok : ct_ok wd_fl kh_342 := ct_of (ff := wd_ff) (y := (⟨"UtilityWorksModel", "hasLink", "(II)Z"⟩, prog_14_method_17_code, 3, some .boolean, 12, 1, 2, 32203, 32202, 5004, 21014)) (Cs := [kh_304]) (an := []) (ss := []) (K := 1) (fuel := 4000) wd_fl_ok rfl (List.forall_mem_cons.mpr ⟨kh_304_ok, (List.forall_mem_nil _)⟩) (by decide +kernel)
/- UtilityWorksModel isFine -/
def kh_343 : ct_T := (359, [(2, 805, 805, 0), (0, 0, 0, 0), (0, 0, 5, 1)], [], [], [(1, (0, 1, 1, 0), [(2, 805, 805, 0), (0, 0, 0, 0), (0, 0, 5, 1)], [], ([], [])), (1, (0, 0, 0, 0), [(2, 805, 805, 0), (0, 0, 0, 0), (0, 0, 5, 1)], [], ([], []))], [], 2, 44, 0)
theorem kh_343_ok : ct_ok wd_fl kh_343 := ct_of (ff := wd_ff) (y := (⟨"UtilityWorksModel", "isFine", "(II)Z"⟩, prog_14_method_19_code, 3, some .boolean, 12, 1, 2, 32215, 32214, 5007, 21014)) (Cs := [kh_342, kh_304]) (an := [(30, 0, ([((2, 805, 805, 0), none), ((0, 0, 0, 0), none), ((0, 0, 5, 1), none)], [(0, 0), (1, 1), (2, 2)], [], [], [], [], [], [], none), [(0, 0, 99970)])]) (ss := []) (K := 1) (fuel := 4000) wd_fl_ok rfl (List.forall_mem_cons.mpr ⟨kh_342_ok, (List.forall_mem_cons.mpr ⟨kh_304_ok, (List.forall_mem_nil _)⟩)⟩) (by decide +kernel)
/- UtilityWorksModel isOn -/
def kh_344 : ct_T := (360, [(2, 805, 805, 0), (0, 0, 0, 0), (0, 0, 5, 1)], [], [], [(1, (0, 1, 1, 0), [(2, 805, 805, 0), (0, 0, 0, 0), (0, 0, 5, 1)], [], ([], [])), (1, (0, 0, 0, 0), [(2, 805, 805, 0), (0, 0, 0, 0), (0, 0, 5, 1)], [], ([], []))], [], 2, 44, 0)
theorem kh_344_ok : ct_ok wd_fl kh_344 := ct_of (ff := wd_ff) (y := (⟨"UtilityWorksModel", "isOn", "(II)Z"⟩, prog_14_method_20_code, 3, some .boolean, 12, 1, 2, 32219, 32218, 5008, 21014)) (Cs := [kh_342, kh_304]) (an := [(30, 0, ([((2, 805, 805, 0), none), ((0, 0, 0, 0), none), ((0, 0, 5, 1), none)], [(0, 0), (1, 1), (2, 2)], [], [], [], [], [], [], none), [(0, 0, 99970)])]) (ss := []) (K := 1) (fuel := 4000) wd_fl_ok rfl (List.forall_mem_cons.mpr ⟨kh_342_ok, (List.forall_mem_cons.mpr ⟨kh_304_ok, (List.forall_mem_nil _)⟩)⟩) (by decide +kernel)
/- UtilityWorksModel leads -/
def kh_345 : ct_T := (358, [(2, 805, 805, 0), (0, 0, 0, 0), (0, 0, 5, 1)], [], [], [(1, (0, 1, 1, 0), [(2, 805, 805, 0), (0, 0, 0, 0), (0, 0, 5, 1)], [], ([], [])), (1, (0, 0, 0, 0), [(2, 805, 805, 0), (0, 0, 0, 0), (0, 0, 5, 1)], [], ([], []))], [], 3, 66, 0)
theorem kh_345_ok : ct_ok wd_fl kh_345 := ct_of (ff := wd_ff) (y := (⟨"UtilityWorksModel", "leads", "(II)Z"⟩, prog_14_method_21_code, 3, some .boolean, 12, 1, 2, 32211, 32210, 5006, 21014)) (Cs := [kh_343, kh_344]) (an := [(22, 0, ([((2, 805, 805, 0), none), ((0, 0, 0, 0), none), ((0, 0, 5, 1), none)], [(0, 0), (1, 1), (2, 2)], [], [], [], [], [], [], none), [(0, 0, 99978)])]) (ss := []) (K := 1) (fuel := 4000) wd_fl_ok rfl (List.forall_mem_cons.mpr ⟨kh_343_ok, (List.forall_mem_cons.mpr ⟨kh_344_ok, (List.forall_mem_nil _)⟩)⟩) (by decide +kernel)
/- UtilityWorksModel hasLink -/
def kh_346 : ct_T := (356, [(2, 805, 805, 0), (0, 0, 0, 0), (0, 0, 6, 1)], [], [], [(1, (0, 0, 0, 0), [(2, 805, 805, 0), (0, 0, 0, 0), (0, 0, 6, 1)], [], ([], [])), (1, (0, 1, 1, 0), [(2, 805, 805, 0), (0, 0, 0, 0), (0, 0, 6, 1)], [], ([], []))], [], 1, 22, 0)
theorem kh_346_ok : ct_ok wd_fl kh_346 := ct_of (ff := wd_ff) (y := (⟨"UtilityWorksModel", "hasLink", "(II)Z"⟩, prog_14_method_17_code, 3, some .boolean, 12, 1, 2, 32203, 32202, 5004, 21014)) (Cs := [kh_306]) (an := []) (ss := []) (K := 1) (fuel := 4000) wd_fl_ok rfl (List.forall_mem_cons.mpr ⟨kh_306_ok, (List.forall_mem_nil _)⟩) (by decide +kernel)
/- UtilityWorksModel isFine -/
def kh_347 : ct_T := (359, [(2, 805, 805, 0), (0, 0, 0, 0), (0, 0, 6, 1)], [], [], [(1, (0, 1, 1, 0), [(2, 805, 805, 0), (0, 0, 0, 0), (0, 0, 6, 1)], [], ([], [])), (1, (0, 0, 0, 0), [(2, 805, 805, 0), (0, 0, 0, 0), (0, 0, 6, 1)], [], ([], []))], [], 2, 44, 0)
theorem kh_347_ok : ct_ok wd_fl kh_347 := ct_of (ff := wd_ff) (y := (⟨"UtilityWorksModel", "isFine", "(II)Z"⟩, prog_14_method_19_code, 3, some .boolean, 12, 1, 2, 32215, 32214, 5007, 21014)) (Cs := [kh_346, kh_306]) (an := [(30, 0, ([((2, 805, 805, 0), none), ((0, 0, 0, 0), none), ((0, 0, 6, 1), none)], [(0, 0), (1, 1), (2, 2)], [], [], [], [], [], [], none), [(0, 0, 99970)])]) (ss := []) (K := 1) (fuel := 4000) wd_fl_ok rfl (List.forall_mem_cons.mpr ⟨kh_346_ok, (List.forall_mem_cons.mpr ⟨kh_306_ok, (List.forall_mem_nil _)⟩)⟩) (by decide +kernel)
/- UtilityWorksModel isOn -/
def kh_348 : ct_T := (360, [(2, 805, 805, 0), (0, 0, 0, 0), (0, 0, 6, 1)], [], [], [(1, (0, 1, 1, 0), [(2, 805, 805, 0), (0, 0, 0, 0), (0, 0, 6, 1)], [], ([], [])), (1, (0, 0, 0, 0), [(2, 805, 805, 0), (0, 0, 0, 0), (0, 0, 6, 1)], [], ([], []))], [], 2, 44, 0)
theorem kh_348_ok : ct_ok wd_fl kh_348 := ct_of (ff := wd_ff) (y := (⟨"UtilityWorksModel", "isOn", "(II)Z"⟩, prog_14_method_20_code, 3, some .boolean, 12, 1, 2, 32219, 32218, 5008, 21014)) (Cs := [kh_346, kh_306]) (an := [(30, 0, ([((2, 805, 805, 0), none), ((0, 0, 0, 0), none), ((0, 0, 6, 1), none)], [(0, 0), (1, 1), (2, 2)], [], [], [], [], [], [], none), [(0, 0, 99970)])]) (ss := []) (K := 1) (fuel := 4000) wd_fl_ok rfl (List.forall_mem_cons.mpr ⟨kh_346_ok, (List.forall_mem_cons.mpr ⟨kh_306_ok, (List.forall_mem_nil _)⟩)⟩) (by decide +kernel)
/- UtilityWorksModel leads -/
def kh_349 : ct_T := (358, [(2, 805, 805, 0), (0, 0, 0, 0), (0, 0, 6, 1)], [], [], [(1, (0, 1, 1, 0), [(2, 805, 805, 0), (0, 0, 0, 0), (0, 0, 6, 1)], [], ([], [])), (1, (0, 0, 0, 0), [(2, 805, 805, 0), (0, 0, 0, 0), (0, 0, 6, 1)], [], ([], []))], [], 3, 66, 0)
theorem kh_349_ok : ct_ok wd_fl kh_349 := ct_of (ff := wd_ff) (y := (⟨"UtilityWorksModel", "leads", "(II)Z"⟩, prog_14_method_21_code, 3, some .boolean, 12, 1, 2, 32211, 32210, 5006, 21014)) (Cs := [kh_347, kh_348]) (an := [(22, 0, ([((2, 805, 805, 0), none), ((0, 0, 0, 0), none), ((0, 0, 6, 1), none)], [(0, 0), (1, 1), (2, 2)], [], [], [], [], [], [], none), [(0, 0, 99978)])]) (ss := []) (K := 1) (fuel := 4000) wd_fl_ok rfl (List.forall_mem_cons.mpr ⟨kh_347_ok, (List.forall_mem_cons.mpr ⟨kh_348_ok, (List.forall_mem_nil _)⟩)⟩) (by decide +kernel)
/- UtilityWorksModel hasLink -/
def kh_350 : ct_T := (356, [(2, 805, 805, 0), (0, 0, 0, 0), (0, 0, 7, 1)], [], [], [(1, (0, 0, 0, 0), [(2, 805, 805, 0), (0, 0, 0, 0), (0, 0, 7, 1)], [], ([], [])), (1, (0, 1, 1, 0), [(2, 805, 805, 0), (0, 0, 0, 0), (0, 0, 7, 1)], [], ([], []))], [], 1, 22, 0)
theorem kh_350_ok : ct_ok wd_fl kh_350 := ct_of (ff := wd_ff) (y := (⟨"UtilityWorksModel", "hasLink", "(II)Z"⟩, prog_14_method_17_code, 3, some .boolean, 12, 1, 2, 32203, 32202, 5004, 21014)) (Cs := [kh_308]) (an := []) (ss := []) (K := 1) (fuel := 4000) wd_fl_ok rfl (List.forall_mem_cons.mpr ⟨kh_308_ok, (List.forall_mem_nil _)⟩) (by decide +kernel)
/- UtilityWorksModel isFine -/
def kh_351 : ct_T := (359, [(2, 805, 805, 0), (0, 0, 0, 0), (0, 0, 7, 1)], [], [], [(1, (0, 1, 1, 0), [(2, 805, 805, 0), (0, 0, 0, 0), (0, 0, 7, 1)], [], ([], [])), (1, (0, 0, 0, 0), [(2, 805, 805, 0), (0, 0, 0, 0), (0, 0, 7, 1)], [], ([], []))], [], 2, 44, 0)
theorem kh_351_ok : ct_ok wd_fl kh_351 := ct_of (ff := wd_ff) (y := (⟨"UtilityWorksModel", "isFine", "(II)Z"⟩, prog_14_method_19_code, 3, some .boolean, 12, 1, 2, 32215, 32214, 5007, 21014)) (Cs := [kh_350, kh_308]) (an := [(30, 0, ([((2, 805, 805, 0), none), ((0, 0, 0, 0), none), ((0, 0, 7, 1), none)], [(0, 0), (1, 1), (2, 2)], [], [], [], [], [], [], none), [(0, 0, 99970)])]) (ss := []) (K := 1) (fuel := 4000) wd_fl_ok rfl (List.forall_mem_cons.mpr ⟨kh_350_ok, (List.forall_mem_cons.mpr ⟨kh_308_ok, (List.forall_mem_nil _)⟩)⟩) (by decide +kernel)
/- UtilityWorksModel isOn -/
def kh_352 : ct_T := (360, [(2, 805, 805, 0), (0, 0, 0, 0), (0, 0, 7, 1)], [], [], [(1, (0, 1, 1, 0), [(2, 805, 805, 0), (0, 0, 0, 0), (0, 0, 7, 1)], [], ([], [])), (1, (0, 0, 0, 0), [(2, 805, 805, 0), (0, 0, 0, 0), (0, 0, 7, 1)], [], ([], []))], [], 2, 44, 0)
theorem kh_352_ok : ct_ok wd_fl kh_352 := ct_of (ff := wd_ff) (y := (⟨"UtilityWorksModel", "isOn", "(II)Z"⟩, prog_14_method_20_code, 3, some .boolean, 12, 1, 2, 32219, 32218, 5008, 21014)) (Cs := [kh_350, kh_308]) (an := [(30, 0, ([((2, 805, 805, 0), none), ((0, 0, 0, 0), none), ((0, 0, 7, 1), none)], [(0, 0), (1, 1), (2, 2)], [], [], [], [], [], [], none), [(0, 0, 99970)])]) (ss := []) (K := 1) (fuel := 4000) wd_fl_ok rfl (List.forall_mem_cons.mpr ⟨kh_350_ok, (List.forall_mem_cons.mpr ⟨kh_308_ok, (List.forall_mem_nil _)⟩)⟩) (by decide +kernel)
/- UtilityWorksModel leads -/
def kh_353 : ct_T := (358, [(2, 805, 805, 0), (0, 0, 0, 0), (0, 0, 7, 1)], [], [], [(1, (0, 1, 1, 0), [(2, 805, 805, 0), (0, 0, 0, 0), (0, 0, 7, 1)], [], ([], [])), (1, (0, 0, 0, 0), [(2, 805, 805, 0), (0, 0, 0, 0), (0, 0, 7, 1)], [], ([], []))], [], 3, 66, 0)
theorem kh_353_ok : ct_ok wd_fl kh_353 := ct_of (ff := wd_ff) (y := (⟨"UtilityWorksModel", "leads", "(II)Z"⟩, prog_14_method_21_code, 3, some .boolean, 12, 1, 2, 32211, 32210, 5006, 21014)) (Cs := [kh_351, kh_352]) (an := [(22, 0, ([((2, 805, 805, 0), none), ((0, 0, 0, 0), none), ((0, 0, 7, 1), none)], [(0, 0), (1, 1), (2, 2)], [], [], [], [], [], [], none), [(0, 0, 99978)])]) (ss := []) (K := 1) (fuel := 4000) wd_fl_ok rfl (List.forall_mem_cons.mpr ⟨kh_351_ok, (List.forall_mem_cons.mpr ⟨kh_352_ok, (List.forall_mem_nil _)⟩)⟩) (by decide +kernel)
/- UtilityWorksModel hasLink -/
def kh_354 : ct_T := (356, [(2, 805, 805, 0), (0, 0, 0, 0), (0, 0, 8, 1)], [], [], [(1, (0, 0, 0, 0), [(2, 805, 805, 0), (0, 0, 0, 0), (0, 0, 8, 1)], [], ([], [])), (1, (0, 1, 1, 0), [(2, 805, 805, 0), (0, 0, 0, 0), (0, 0, 8, 1)], [], ([], []))], [], 1, 22, 0)
theorem kh_354_ok : ct_ok wd_fl kh_354 := ct_of (ff := wd_ff) (y := (⟨"UtilityWorksModel", "hasLink", "(II)Z"⟩, prog_14_method_17_code, 3, some .boolean, 12, 1, 2, 32203, 32202, 5004, 21014)) (Cs := [kh_310]) (an := []) (ss := []) (K := 1) (fuel := 4000) wd_fl_ok rfl (List.forall_mem_cons.mpr ⟨kh_310_ok, (List.forall_mem_nil _)⟩) (by decide +kernel)
/- UtilityWorksModel isFine -/
def kh_355 : ct_T := (359, [(2, 805, 805, 0), (0, 0, 0, 0), (0, 0, 8, 1)], [], [], [(1, (0, 1, 1, 0), [(2, 805, 805, 0), (0, 0, 0, 0), (0, 0, 8, 1)], [], ([], [])), (1, (0, 0, 0, 0), [(2, 805, 805, 0), (0, 0, 0, 0), (0, 0, 8, 1)], [], ([], []))], [], 2, 44, 0)
theorem kh_355_ok : ct_ok wd_fl kh_355 := ct_of (ff := wd_ff) (y := (⟨"UtilityWorksModel", "isFine", "(II)Z"⟩, prog_14_method_19_code, 3, some .boolean, 12, 1, 2, 32215, 32214, 5007, 21014)) (Cs := [kh_354, kh_310]) (an := [(30, 0, ([((2, 805, 805, 0), none), ((0, 0, 0, 0), none), ((0, 0, 8, 1), none)], [(0, 0), (1, 1), (2, 2)], [], [], [], [], [], [], none), [(0, 0, 99970)])]) (ss := []) (K := 1) (fuel := 4000) wd_fl_ok rfl (List.forall_mem_cons.mpr ⟨kh_354_ok, (List.forall_mem_cons.mpr ⟨kh_310_ok, (List.forall_mem_nil _)⟩)⟩) (by decide +kernel)
/- UtilityWorksModel isOn -/
def kh_356 : ct_T := (360, [(2, 805, 805, 0), (0, 0, 0, 0), (0, 0, 8, 1)], [], [], [(1, (0, 1, 1, 0), [(2, 805, 805, 0), (0, 0, 0, 0), (0, 0, 8, 1)], [], ([], [])), (1, (0, 0, 0, 0), [(2, 805, 805, 0), (0, 0, 0, 0), (0, 0, 8, 1)], [], ([], []))], [], 2, 44, 0)
theorem kh_356_ok : ct_ok wd_fl kh_356 := ct_of (ff := wd_ff) (y := (⟨"UtilityWorksModel", "isOn", "(II)Z"⟩, prog_14_method_20_code, 3, some .boolean, 12, 1, 2, 32219, 32218, 5008, 21014)) (Cs := [kh_354, kh_310]) (an := [(30, 0, ([((2, 805, 805, 0), none), ((0, 0, 0, 0), none), ((0, 0, 8, 1), none)], [(0, 0), (1, 1), (2, 2)], [], [], [], [], [], [], none), [(0, 0, 99970)])]) (ss := []) (K := 1) (fuel := 4000) wd_fl_ok rfl (List.forall_mem_cons.mpr ⟨kh_354_ok, (List.forall_mem_cons.mpr ⟨kh_310_ok, (List.forall_mem_nil _)⟩)⟩) (by decide +kernel)
/- UtilityWorksModel leads -/
def kh_357 : ct_T := (358, [(2, 805, 805, 0), (0, 0, 0, 0), (0, 0, 8, 1)], [], [], [(1, (0, 1, 1, 0), [(2, 805, 805, 0), (0, 0, 0, 0), (0, 0, 8, 1)], [], ([], [])), (1, (0, 0, 0, 0), [(2, 805, 805, 0), (0, 0, 0, 0), (0, 0, 8, 1)], [], ([], []))], [], 3, 66, 0)
theorem kh_357_ok : ct_ok wd_fl kh_357 := ct_of (ff := wd_ff) (y := (⟨"UtilityWorksModel", "leads", "(II)Z"⟩, prog_14_method_21_code, 3, some .boolean, 12, 1, 2, 32211, 32210, 5006, 21014)) (Cs := [kh_355, kh_356]) (an := [(22, 0, ([((2, 805, 805, 0), none), ((0, 0, 0, 0), none), ((0, 0, 8, 1), none)], [(0, 0), (1, 1), (2, 2)], [], [], [], [], [], [], none), [(0, 0, 99978)])]) (ss := []) (K := 1) (fuel := 4000) wd_fl_ok rfl (List.forall_mem_cons.mpr ⟨kh_355_ok, (List.forall_mem_cons.mpr ⟨kh_356_ok, (List.forall_mem_nil _)⟩)⟩) (by decide +kernel)
/- UtilityWorksModel hasLink -/
def kh_358 : ct_T := (356, [(2, 805, 805, 0), (0, 0, 0, 0), (0, 0, 9, 1)], [], [], [(1, (0, 0, 0, 0), [(2, 805, 805, 0), (0, 0, 0, 0), (0, 0, 9, 1)], [], ([], [])), (1, (0, 1, 1, 0), [(2, 805, 805, 0), (0, 0, 0, 0), (0, 0, 9, 1)], [], ([], []))], [], 1, 22, 0)
theorem kh_358_ok : ct_ok wd_fl kh_358 := ct_of (ff := wd_ff) (y := (⟨"UtilityWorksModel", "hasLink", "(II)Z"⟩, prog_14_method_17_code, 3, some .boolean, 12, 1, 2, 32203, 32202, 5004, 21014)) (Cs := [kh_312]) (an := []) (ss := []) (K := 1) (fuel := 4000) wd_fl_ok rfl (List.forall_mem_cons.mpr ⟨kh_312_ok, (List.forall_mem_nil _)⟩) (by decide +kernel)
/- UtilityWorksModel isFine -/
def kh_359 : ct_T := (359, [(2, 805, 805, 0), (0, 0, 0, 0), (0, 0, 9, 1)], [], [], [(1, (0, 1, 1, 0), [(2, 805, 805, 0), (0, 0, 0, 0), (0, 0, 9, 1)], [], ([], [])), (1, (0, 0, 0, 0), [(2, 805, 805, 0), (0, 0, 0, 0), (0, 0, 9, 1)], [], ([], []))], [], 2, 44, 0)
theorem kh_359_ok : ct_ok wd_fl kh_359 := ct_of (ff := wd_ff) (y := (⟨"UtilityWorksModel", "isFine", "(II)Z"⟩, prog_14_method_19_code, 3, some .boolean, 12, 1, 2, 32215, 32214, 5007, 21014)) (Cs := [kh_358, kh_312]) (an := [(30, 0, ([((2, 805, 805, 0), none), ((0, 0, 0, 0), none), ((0, 0, 9, 1), none)], [(0, 0), (1, 1), (2, 2)], [], [], [], [], [], [], none), [(0, 0, 99970)])]) (ss := []) (K := 1) (fuel := 4000) wd_fl_ok rfl (List.forall_mem_cons.mpr ⟨kh_358_ok, (List.forall_mem_cons.mpr ⟨kh_312_ok, (List.forall_mem_nil _)⟩)⟩) (by decide +kernel)
/- UtilityWorksModel isOn -/
def kh_360 : ct_T := (360, [(2, 805, 805, 0), (0, 0, 0, 0), (0, 0, 9, 1)], [], [], [(1, (0, 1, 1, 0), [(2, 805, 805, 0), (0, 0, 0, 0), (0, 0, 9, 1)], [], ([], [])), (1, (0, 0, 0, 0), [(2, 805, 805, 0), (0, 0, 0, 0), (0, 0, 9, 1)], [], ([], []))], [], 2, 44, 0)
theorem kh_360_ok : ct_ok wd_fl kh_360 := ct_of (ff := wd_ff) (y := (⟨"UtilityWorksModel", "isOn", "(II)Z"⟩, prog_14_method_20_code, 3, some .boolean, 12, 1, 2, 32219, 32218, 5008, 21014)) (Cs := [kh_358, kh_312]) (an := [(30, 0, ([((2, 805, 805, 0), none), ((0, 0, 0, 0), none), ((0, 0, 9, 1), none)], [(0, 0), (1, 1), (2, 2)], [], [], [], [], [], [], none), [(0, 0, 99970)])]) (ss := []) (K := 1) (fuel := 4000) wd_fl_ok rfl (List.forall_mem_cons.mpr ⟨kh_358_ok, (List.forall_mem_cons.mpr ⟨kh_312_ok, (List.forall_mem_nil _)⟩)⟩) (by decide +kernel)
/- UtilityWorksModel leads -/
def kh_361 : ct_T := (358, [(2, 805, 805, 0), (0, 0, 0, 0), (0, 0, 9, 1)], [], [], [(1, (0, 1, 1, 0), [(2, 805, 805, 0), (0, 0, 0, 0), (0, 0, 9, 1)], [], ([], [])), (1, (0, 0, 0, 0), [(2, 805, 805, 0), (0, 0, 0, 0), (0, 0, 9, 1)], [], ([], []))], [], 3, 66, 0)
theorem kh_361_ok : ct_ok wd_fl kh_361 := ct_of (ff := wd_ff) (y := (⟨"UtilityWorksModel", "leads", "(II)Z"⟩, prog_14_method_21_code, 3, some .boolean, 12, 1, 2, 32211, 32210, 5006, 21014)) (Cs := [kh_359, kh_360]) (an := [(22, 0, ([((2, 805, 805, 0), none), ((0, 0, 0, 0), none), ((0, 0, 9, 1), none)], [(0, 0), (1, 1), (2, 2)], [], [], [], [], [], [], none), [(0, 0, 99978)])]) (ss := []) (K := 1) (fuel := 4000) wd_fl_ok rfl (List.forall_mem_cons.mpr ⟨kh_359_ok, (List.forall_mem_cons.mpr ⟨kh_360_ok, (List.forall_mem_nil _)⟩)⟩) (by decide +kernel)
/- UtilityWorksModel hasLink -/
def kh_362 : ct_T := (356, [(2, 805, 805, 0), (0, 0, 0, 0), (0, 0, 10, 1)], [], [], [(1, (0, 0, 0, 0), [(2, 805, 805, 0), (0, 0, 0, 0), (0, 0, 10, 1)], [], ([], [])), (1, (0, 1, 1, 0), [(2, 805, 805, 0), (0, 0, 0, 0), (0, 0, 10, 1)], [], ([], []))], [], 1, 22, 0)
theorem kh_362_ok : ct_ok wd_fl kh_362 := ct_of (ff := wd_ff) (y := (⟨"UtilityWorksModel", "hasLink", "(II)Z"⟩, prog_14_method_17_code, 3, some .boolean, 12, 1, 2, 32203, 32202, 5004, 21014)) (Cs := [kh_314]) (an := []) (ss := []) (K := 1) (fuel := 4000) wd_fl_ok rfl (List.forall_mem_cons.mpr ⟨kh_314_ok, (List.forall_mem_nil _)⟩) (by decide +kernel)
/- UtilityWorksModel isFine -/
def kh_363 : ct_T := (359, [(2, 805, 805, 0), (0, 0, 0, 0), (0, 0, 10, 1)], [], [], [(1, (0, 1, 1, 0), [(2, 805, 805, 0), (0, 0, 0, 0), (0, 0, 10, 1)], [], ([], [])), (1, (0, 0, 0, 0), [(2, 805, 805, 0), (0, 0, 0, 0), (0, 0, 10, 1)], [], ([], []))], [], 2, 44, 0)
theorem kh_363_ok : ct_ok wd_fl kh_363 := ct_of (ff := wd_ff) (y := (⟨"UtilityWorksModel", "isFine", "(II)Z"⟩, prog_14_method_19_code, 3, some .boolean, 12, 1, 2, 32215, 32214, 5007, 21014)) (Cs := [kh_362, kh_314]) (an := [(30, 0, ([((2, 805, 805, 0), none), ((0, 0, 0, 0), none), ((0, 0, 10, 1), none)], [(0, 0), (1, 1), (2, 2)], [], [], [], [], [], [], none), [(0, 0, 99970)])]) (ss := []) (K := 1) (fuel := 4000) wd_fl_ok rfl (List.forall_mem_cons.mpr ⟨kh_362_ok, (List.forall_mem_cons.mpr ⟨kh_314_ok, (List.forall_mem_nil _)⟩)⟩) (by decide +kernel)
/- UtilityWorksModel isOn -/
def kh_364 : ct_T := (360, [(2, 805, 805, 0), (0, 0, 0, 0), (0, 0, 10, 1)], [], [], [(1, (0, 1, 1, 0), [(2, 805, 805, 0), (0, 0, 0, 0), (0, 0, 10, 1)], [], ([], [])), (1, (0, 0, 0, 0), [(2, 805, 805, 0), (0, 0, 0, 0), (0, 0, 10, 1)], [], ([], []))], [], 2, 44, 0)
theorem kh_364_ok : ct_ok wd_fl kh_364 := ct_of (ff := wd_ff) (y := (⟨"UtilityWorksModel", "isOn", "(II)Z"⟩, prog_14_method_20_code, 3, some .boolean, 12, 1, 2, 32219, 32218, 5008, 21014)) (Cs := [kh_362, kh_314]) (an := [(30, 0, ([((2, 805, 805, 0), none), ((0, 0, 0, 0), none), ((0, 0, 10, 1), none)], [(0, 0), (1, 1), (2, 2)], [], [], [], [], [], [], none), [(0, 0, 99970)])]) (ss := []) (K := 1) (fuel := 4000) wd_fl_ok rfl (List.forall_mem_cons.mpr ⟨kh_362_ok, (List.forall_mem_cons.mpr ⟨kh_314_ok, (List.forall_mem_nil _)⟩)⟩) (by decide +kernel)
/- UtilityWorksModel leads -/
def kh_365 : ct_T := (358, [(2, 805, 805, 0), (0, 0, 0, 0), (0, 0, 10, 1)], [], [], [(1, (0, 1, 1, 0), [(2, 805, 805, 0), (0, 0, 0, 0), (0, 0, 10, 1)], [], ([], [])), (1, (0, 0, 0, 0), [(2, 805, 805, 0), (0, 0, 0, 0), (0, 0, 10, 1)], [], ([], []))], [], 3, 66, 0)
theorem kh_365_ok : ct_ok wd_fl kh_365 := ct_of (ff := wd_ff) (y := (⟨"UtilityWorksModel", "leads", "(II)Z"⟩, prog_14_method_21_code, 3, some .boolean, 12, 1, 2, 32211, 32210, 5006, 21014)) (Cs := [kh_363, kh_364]) (an := [(22, 0, ([((2, 805, 805, 0), none), ((0, 0, 0, 0), none), ((0, 0, 10, 1), none)], [(0, 0), (1, 1), (2, 2)], [], [], [], [], [], [], none), [(0, 0, 99978)])]) (ss := []) (K := 1) (fuel := 4000) wd_fl_ok rfl (List.forall_mem_cons.mpr ⟨kh_363_ok, (List.forall_mem_cons.mpr ⟨kh_364_ok, (List.forall_mem_nil _)⟩)⟩) (by decide +kernel)
/- UtilityWorksModel hasLink -/
def kh_366 : ct_T := (356, [(2, 805, 805, 0), (0, 0, 0, 0), (0, 0, 11, 1)], [], [], [(1, (0, 0, 0, 0), [(2, 805, 805, 0), (0, 0, 0, 0), (0, 0, 11, 1)], [], ([], [])), (1, (0, 1, 1, 0), [(2, 805, 805, 0), (0, 0, 0, 0), (0, 0, 11, 1)], [], ([], []))], [], 1, 22, 0)
theorem kh_366_ok : ct_ok wd_fl kh_366 := ct_of (ff := wd_ff) (y := (⟨"UtilityWorksModel", "hasLink", "(II)Z"⟩, prog_14_method_17_code, 3, some .boolean, 12, 1, 2, 32203, 32202, 5004, 21014)) (Cs := [kh_316]) (an := []) (ss := []) (K := 1) (fuel := 4000) wd_fl_ok rfl (List.forall_mem_cons.mpr ⟨kh_316_ok, (List.forall_mem_nil _)⟩) (by decide +kernel)
/- UtilityWorksModel isFine -/
def kh_367 : ct_T := (359, [(2, 805, 805, 0), (0, 0, 0, 0), (0, 0, 11, 1)], [], [], [(1, (0, 1, 1, 0), [(2, 805, 805, 0), (0, 0, 0, 0), (0, 0, 11, 1)], [], ([], [])), (1, (0, 0, 0, 0), [(2, 805, 805, 0), (0, 0, 0, 0), (0, 0, 11, 1)], [], ([], []))], [], 2, 44, 0)
theorem kh_367_ok : ct_ok wd_fl kh_367 := ct_of (ff := wd_ff) (y := (⟨"UtilityWorksModel", "isFine", "(II)Z"⟩, prog_14_method_19_code, 3, some .boolean, 12, 1, 2, 32215, 32214, 5007, 21014)) (Cs := [kh_366, kh_316]) (an := [(30, 0, ([((2, 805, 805, 0), none), ((0, 0, 0, 0), none), ((0, 0, 11, 1), none)], [(0, 0), (1, 1), (2, 2)], [], [], [], [], [], [], none), [(0, 0, 99970)])]) (ss := []) (K := 1) (fuel := 4000) wd_fl_ok rfl (List.forall_mem_cons.mpr ⟨kh_366_ok, (List.forall_mem_cons.mpr ⟨kh_316_ok, (List.forall_mem_nil _)⟩)⟩) (by decide +kernel)
/- UtilityWorksModel isOn -/
def kh_368 : ct_T := (360, [(2, 805, 805, 0), (0, 0, 0, 0), (0, 0, 11, 1)], [], [], [(1, (0, 1, 1, 0), [(2, 805, 805, 0), (0, 0, 0, 0), (0, 0, 11, 1)], [], ([], [])), (1, (0, 0, 0, 0), [(2, 805, 805, 0), (0, 0, 0, 0), (0, 0, 11, 1)], [], ([], []))], [], 2, 44, 0)
theorem kh_368_ok : ct_ok wd_fl kh_368 := ct_of (ff := wd_ff) (y := (⟨"UtilityWorksModel", "isOn", "(II)Z"⟩, prog_14_method_20_code, 3, some .boolean, 12, 1, 2, 32219, 32218, 5008, 21014)) (Cs := [kh_366, kh_316]) (an := [(30, 0, ([((2, 805, 805, 0), none), ((0, 0, 0, 0), none), ((0, 0, 11, 1), none)], [(0, 0), (1, 1), (2, 2)], [], [], [], [], [], [], none), [(0, 0, 99970)])]) (ss := []) (K := 1) (fuel := 4000) wd_fl_ok rfl (List.forall_mem_cons.mpr ⟨kh_366_ok, (List.forall_mem_cons.mpr ⟨kh_316_ok, (List.forall_mem_nil _)⟩)⟩) (by decide +kernel)
/- UtilityWorksModel leads -/
def kh_369 : ct_T := (358, [(2, 805, 805, 0), (0, 0, 0, 0), (0, 0, 11, 1)], [], [], [(1, (0, 1, 1, 0), [(2, 805, 805, 0), (0, 0, 0, 0), (0, 0, 11, 1)], [], ([], [])), (1, (0, 0, 0, 0), [(2, 805, 805, 0), (0, 0, 0, 0), (0, 0, 11, 1)], [], ([], []))], [], 3, 66, 0)
theorem kh_369_ok : ct_ok wd_fl kh_369 := ct_of (ff := wd_ff) (y := (⟨"UtilityWorksModel", "leads", "(II)Z"⟩, prog_14_method_21_code, 3, some .boolean, 12, 1, 2, 32211, 32210, 5006, 21014)) (Cs := [kh_367, kh_368]) (an := [(22, 0, ([((2, 805, 805, 0), none), ((0, 0, 0, 0), none), ((0, 0, 11, 1), none)], [(0, 0), (1, 1), (2, 2)], [], [], [], [], [], [], none), [(0, 0, 99978)])]) (ss := []) (K := 1) (fuel := 4000) wd_fl_ok rfl (List.forall_mem_cons.mpr ⟨kh_367_ok, (List.forall_mem_cons.mpr ⟨kh_368_ok, (List.forall_mem_nil _)⟩)⟩) (by decide +kernel)
/- UtilityWorksModel hasLink -/
def kh_370 : ct_T := (356, [(2, 805, 805, 0), (0, 0, 0, 0), (0, 0, 12, 1)], [], [], [(1, (0, 0, 0, 0), [(2, 805, 805, 0), (0, 0, 0, 0), (0, 0, 12, 1)], [], ([], [])), (1, (0, 1, 1, 0), [(2, 805, 805, 0), (0, 0, 0, 0), (0, 0, 12, 1)], [], ([], []))], [], 1, 22, 0)
theorem kh_370_ok : ct_ok wd_fl kh_370 := ct_of (ff := wd_ff) (y := (⟨"UtilityWorksModel", "hasLink", "(II)Z"⟩, prog_14_method_17_code, 3, some .boolean, 12, 1, 2, 32203, 32202, 5004, 21014)) (Cs := [kh_318]) (an := []) (ss := []) (K := 1) (fuel := 4000) wd_fl_ok rfl (List.forall_mem_cons.mpr ⟨kh_318_ok, (List.forall_mem_nil _)⟩) (by decide +kernel)
/- UtilityWorksModel isFine -/
def kh_371 : ct_T := (359, [(2, 805, 805, 0), (0, 0, 0, 0), (0, 0, 12, 1)], [], [], [(1, (0, 1, 1, 0), [(2, 805, 805, 0), (0, 0, 0, 0), (0, 0, 12, 1)], [], ([], [])), (1, (0, 0, 0, 0), [(2, 805, 805, 0), (0, 0, 0, 0), (0, 0, 12, 1)], [], ([], []))], [], 2, 44, 0)
theorem kh_371_ok : ct_ok wd_fl kh_371 := ct_of (ff := wd_ff) (y := (⟨"UtilityWorksModel", "isFine", "(II)Z"⟩, prog_14_method_19_code, 3, some .boolean, 12, 1, 2, 32215, 32214, 5007, 21014)) (Cs := [kh_370, kh_318]) (an := [(30, 0, ([((2, 805, 805, 0), none), ((0, 0, 0, 0), none), ((0, 0, 12, 1), none)], [(0, 0), (1, 1), (2, 2)], [], [], [], [], [], [], none), [(0, 0, 99970)])]) (ss := []) (K := 1) (fuel := 4000) wd_fl_ok rfl (List.forall_mem_cons.mpr ⟨kh_370_ok, (List.forall_mem_cons.mpr ⟨kh_318_ok, (List.forall_mem_nil _)⟩)⟩) (by decide +kernel)
/- UtilityWorksModel isOn -/
def kh_372 : ct_T := (360, [(2, 805, 805, 0), (0, 0, 0, 0), (0, 0, 12, 1)], [], [], [(1, (0, 1, 1, 0), [(2, 805, 805, 0), (0, 0, 0, 0), (0, 0, 12, 1)], [], ([], [])), (1, (0, 0, 0, 0), [(2, 805, 805, 0), (0, 0, 0, 0), (0, 0, 12, 1)], [], ([], []))], [], 2, 44, 0)
theorem kh_372_ok : ct_ok wd_fl kh_372 := ct_of (ff := wd_ff) (y := (⟨"UtilityWorksModel", "isOn", "(II)Z"⟩, prog_14_method_20_code, 3, some .boolean, 12, 1, 2, 32219, 32218, 5008, 21014)) (Cs := [kh_370, kh_318]) (an := [(30, 0, ([((2, 805, 805, 0), none), ((0, 0, 0, 0), none), ((0, 0, 12, 1), none)], [(0, 0), (1, 1), (2, 2)], [], [], [], [], [], [], none), [(0, 0, 99970)])]) (ss := []) (K := 1) (fuel := 4000) wd_fl_ok rfl (List.forall_mem_cons.mpr ⟨kh_370_ok, (List.forall_mem_cons.mpr ⟨kh_318_ok, (List.forall_mem_nil _)⟩)⟩) (by decide +kernel)
/- UtilityWorksModel leads -/
def kh_373 : ct_T := (358, [(2, 805, 805, 0), (0, 0, 0, 0), (0, 0, 12, 1)], [], [], [(1, (0, 1, 1, 0), [(2, 805, 805, 0), (0, 0, 0, 0), (0, 0, 12, 1)], [], ([], [])), (1, (0, 0, 0, 0), [(2, 805, 805, 0), (0, 0, 0, 0), (0, 0, 12, 1)], [], ([], []))], [], 3, 66, 0)
theorem kh_373_ok : ct_ok wd_fl kh_373 := ct_of (ff := wd_ff) (y := (⟨"UtilityWorksModel", "leads", "(II)Z"⟩, prog_14_method_21_code, 3, some .boolean, 12, 1, 2, 32211, 32210, 5006, 21014)) (Cs := [kh_371, kh_372]) (an := [(22, 0, ([((2, 805, 805, 0), none), ((0, 0, 0, 0), none), ((0, 0, 12, 1), none)], [(0, 0), (1, 1), (2, 2)], [], [], [], [], [], [], none), [(0, 0, 99978)])]) (ss := []) (K := 1) (fuel := 4000) wd_fl_ok rfl (List.forall_mem_cons.mpr ⟨kh_371_ok, (List.forall_mem_cons.mpr ⟨kh_372_ok, (List.forall_mem_nil _)⟩)⟩) (by decide +kernel)
/- UtilityWorksModel hasLink -/
def kh_374 : ct_T := (356, [(2, 805, 805, 0), (0, 0, 0, 0), (0, 0, 16, 1)], [], [], [(1, (0, 0, 0, 0), [(2, 805, 805, 0), (0, 0, 0, 0), (0, 0, 16, 1)], [], ([], [])), (1, (0, 1, 1, 0), [(2, 805, 805, 0), (0, 0, 0, 0), (0, 0, 16, 1)], [], ([], []))], [], 1, 22, 0)
theorem kh_374_ok : ct_ok wd_fl kh_374 := ct_of (ff := wd_ff) (y := (⟨"UtilityWorksModel", "hasLink", "(II)Z"⟩, prog_14_method_17_code, 3, some .boolean, 12, 1, 2, 32203, 32202, 5004, 21014)) (Cs := [kh_320]) (an := []) (ss := []) (K := 1) (fuel := 4000) wd_fl_ok rfl (List.forall_mem_cons.mpr ⟨kh_320_ok, (List.forall_mem_nil _)⟩) (by decide +kernel)
/- UtilityWorksModel isFine -/
def kh_375 : ct_T := (359, [(2, 805, 805, 0), (0, 0, 0, 0), (0, 0, 16, 1)], [], [], [(1, (0, 1, 1, 0), [(2, 805, 805, 0), (0, 0, 0, 0), (0, 0, 16, 1)], [], ([], [])), (1, (0, 0, 0, 0), [(2, 805, 805, 0), (0, 0, 0, 0), (0, 0, 16, 1)], [], ([], []))], [], 2, 44, 0)
theorem kh_375_ok : ct_ok wd_fl kh_375 := ct_of (ff := wd_ff) (y := (⟨"UtilityWorksModel", "isFine", "(II)Z"⟩, prog_14_method_19_code, 3, some .boolean, 12, 1, 2, 32215, 32214, 5007, 21014)) (Cs := [kh_374, kh_320]) (an := [(30, 0, ([((2, 805, 805, 0), none), ((0, 0, 0, 0), none), ((0, 0, 16, 1), none)], [(0, 0), (1, 1), (2, 2)], [], [], [], [], [], [], none), [(0, 0, 99970)])]) (ss := []) (K := 1) (fuel := 4000) wd_fl_ok rfl (List.forall_mem_cons.mpr ⟨kh_374_ok, (List.forall_mem_cons.mpr ⟨kh_320_ok, (List.forall_mem_nil _)⟩)⟩) (by decide +kernel)
/- UtilityWorksModel isOn -/
def kh_376 : ct_T := (360, [(2, 805, 805, 0), (0, 0, 0, 0), (0, 0, 16, 1)], [], [], [(1, (0, 1, 1, 0), [(2, 805, 805, 0), (0, 0, 0, 0), (0, 0, 16, 1)], [], ([], [])), (1, (0, 0, 0, 0), [(2, 805, 805, 0), (0, 0, 0, 0), (0, 0, 16, 1)], [], ([], []))], [], 2, 44, 0)
theorem kh_376_ok : ct_ok wd_fl kh_376 := ct_of (ff := wd_ff) (y := (⟨"UtilityWorksModel", "isOn", "(II)Z"⟩, prog_14_method_20_code, 3, some .boolean, 12, 1, 2, 32219, 32218, 5008, 21014)) (Cs := [kh_374, kh_320]) (an := [(30, 0, ([((2, 805, 805, 0), none), ((0, 0, 0, 0), none), ((0, 0, 16, 1), none)], [(0, 0), (1, 1), (2, 2)], [], [], [], [], [], [], none), [(0, 0, 99970)])]) (ss := []) (K := 1) (fuel := 4000) wd_fl_ok rfl (List.forall_mem_cons.mpr ⟨kh_374_ok, (List.forall_mem_cons.mpr ⟨kh_320_ok, (List.forall_mem_nil _)⟩)⟩) (by decide +kernel)
/- UtilityWorksModel leads -/
def kh_377 : ct_T := (358, [(2, 805, 805, 0), (0, 0, 0, 0), (0, 0, 16, 1)], [], [], [(1, (0, 1, 1, 0), [(2, 805, 805, 0), (0, 0, 0, 0), (0, 0, 16, 1)], [], ([], [])), (1, (0, 0, 0, 0), [(2, 805, 805, 0), (0, 0, 0, 0), (0, 0, 16, 1)], [], ([], []))], [], 3, 66, 0)
theorem kh_377_ok : ct_ok wd_fl kh_377 := ct_of (ff := wd_ff) (y := (⟨"UtilityWorksModel", "leads", "(II)Z"⟩, prog_14_method_21_code, 3, some .boolean, 12, 1, 2, 32211, 32210, 5006, 21014)) (Cs := [kh_375, kh_376]) (an := [(22, 0, ([((2, 805, 805, 0), none), ((0, 0, 0, 0), none), ((0, 0, 16, 1), none)], [(0, 0), (1, 1), (2, 2)], [], [], [], [], [], [], none), [(0, 0, 99978)])]) (ss := []) (K := 1) (fuel := 4000) wd_fl_ok rfl (List.forall_mem_cons.mpr ⟨kh_375_ok, (List.forall_mem_cons.mpr ⟨kh_376_ok, (List.forall_mem_nil _)⟩)⟩) (by decide +kernel)
/- UtilityWorksModel layIslands -/
def kh_378 : ct_T := (437, [(2, 805, 805, 0)], [], [], [(0, (0, 0, 0, 0), [(2, 805, 805, 0)], [], ([], []))], [((817, 817), (0, 11, 1))], 2, 40, 0)
theorem kh_378_ok : ct_ok wd_fl kh_378 := ct_of (ff := wd_ff) (y := (⟨"UtilityWorksModel", "layIslands", "()V"⟩, prog_14_method_83_code, 5, none, 12, 1, 0, 34042, 34041, 9009, 21014)) (Cs := [kh_290, kh_291]) (an := [(2, 0, ([((2, 805, 805, 0), none), ((0, 0, 12, 1), none)], [(0, 0), (1, 1)], [], [], [], [], [], [], none), [(0, 0, 99998), (1, 1, 12), (0, 0, 99998), (0, 0, 0), (0, 0, 0)]), (23, 0, ([((2, 805, 805, 0), none), ((0, 0, 12, 1), none)], [(0, 0), (1, 1)], [], [], [], [], [], [], none), [(0, 0, 99977), (1, 1, 12), (0, 0, 99977), (0, 0, 0), (0, 0, 0)]), (31, 0, ([((2, 805, 805, 0), none), ((0, 0, 11, 1), none), ((0, 0, 17, 1), none)], [(0, 0), (1, 1), (2, 2)], [], [], [], [], [], [], none), [(0, 0, 99977), (1, 1, 12), (0, 0, 99969), (1, 2, 17), (0, 0, 99969)]), (115, 0, ([((2, 805, 805, 0), none), ((0, 0, 11, 1), none), ((0, 0, 16, 1), none), ((0, 0, 11, 1), none), ((0, 0, 11, 1), none)], [(0, 0), (1, 1), (2, 2), (3, 3), (4, 4)], [], [], [], [], [], [], none), [(0, 0, 99977), (1, 1, 12), (0, 0, 99969), (1, 2, 17), (0, 0, 99885)])]) (ss := []) (K := 5) (fuel := 4000) wd_fl_ok rfl (List.forall_mem_cons.mpr ⟨kh_290_ok, (List.forall_mem_cons.mpr ⟨kh_291_ok, (List.forall_mem_nil _)⟩)⟩) (by decide +kernel)
/- UtilityWorksModel plantCell -/
def kh_379 : ct_T := (440, [(2, 805, 805, 0), (0, 0, 3, 1), (0, 0, 0, 0)], [], [], [(1, (0, 0, 11, 1), [(2, 805, 805, 0), (0, 0, 3, 1), (0, 0, 0, 0)], [], ([], []))], [], 0, 0, 0)
theorem kh_379_ok : ct_ok wd_fl kh_379 := ct_of (ff := wd_ff) (y := (⟨"UtilityWorksModel", "plantCell", "(II)I"⟩, prog_14_method_79_code, 3, some .int, 12, 1, 2, 34054, 34053, 9012, 21014)) (Cs := []) (an := []) (ss := []) (K := 1) (fuel := 4000) wd_fl_ok rfl (List.forall_mem_nil _) (by decide +kernel)
/- UtilityWorksModel plantCell -/
def kh_380 : ct_T := (440, [(2, 805, 805, 0), (0, 0, 3, 1), (0, 2, 2, 0)], [], [], [(1, (0, (-2147483648), 2147483647, 1), [(2, 805, 805, 0), (0, 0, 3, 1), (0, 2, 2, 0)], [], ([], []))], [], 0, 0, 0)
theorem kh_380_ok : ct_ok wd_fl kh_380 := ct_of (ff := wd_ff) (y := (⟨"UtilityWorksModel", "plantCell", "(II)I"⟩, prog_14_method_79_code, 3, some .int, 12, 1, 2, 34054, 34053, 9012, 21014)) (Cs := []) (an := []) (ss := []) (K := 1) (fuel := 4000) wd_fl_ok rfl (List.forall_mem_nil _) (by decide +kernel)
/- UtilityWorksModel plantCell -/
def kh_381 : ct_T := (440, [(2, 805, 805, 0), (0, 0, 3, 1), (0, 1, 1, 0)], [], [], [(1, (0, (-2147483648), 2147483647, 1), [(2, 805, 805, 0), (0, 0, 3, 1), (0, 1, 1, 0)], [], ([], []))], [], 0, 0, 0)
theorem kh_381_ok : ct_ok wd_fl kh_381 := ct_of (ff := wd_ff) (y := (⟨"UtilityWorksModel", "plantCell", "(II)I"⟩, prog_14_method_79_code, 3, some .int, 12, 1, 2, 34054, 34053, 9012, 21014)) (Cs := []) (an := []) (ss := []) (K := 1) (fuel := 4000) wd_fl_ok rfl (List.forall_mem_nil _) (by decide +kernel)
/- UtilityWorksModel capacityAt -/
def kh_382 : ct_T := (439, [(2, 805, 805, 0), (0, 0, 11, 1)], [], [], [(1, (0, (-2147483648), 2147483647, 1), [(2, 805, 805, 0), (0, 0, 11, 1)], [], ([], []))], [], 1, 22, 0)
theorem kh_382_ok : ct_ok wd_fl kh_382 := ct_of (ff := wd_ff) (y := (⟨"UtilityWorksModel", "capacityAt", "(I)I"⟩, prog_14_method_80_code, 4, some .int, 12, 1, 1, 34050, 34049, 9011, 21014)) (Cs := [kh_379, kh_380, kh_381]) (an := [(4, 0, ([((2, 805, 805, 0), none), ((0, 0, 11, 1), none), ((0, (-2147483648), 2147483647, 1), none), ((0, 0, 4, 1), none)], [(0, 0), (1, 1), (2, 2), (3, 3)], [], [], [], [], [], [], none), [(0, 0, 99996), (1, 3, 4), (0, 0, 99996)])]) (ss := []) (K := 3) (fuel := 4000) wd_fl_ok rfl (List.forall_mem_cons.mpr ⟨kh_379_ok, (List.forall_mem_cons.mpr ⟨kh_380_ok, (List.forall_mem_cons.mpr ⟨kh_381_ok, (List.forall_mem_nil _)⟩)⟩)⟩) (by decide +kernel)
/- UtilityWorksModel wells -/
def kh_383 : ct_T := (441, [(2, 805, 805, 0)], [], [], [(1, (0, 2, 3, 1), [(2, 805, 805, 0)], [], ([], []))], [], 0, 0, 0)
theorem kh_383_ok : ct_ok wd_fl kh_383 := ct_of (ff := wd_ff) (y := (⟨"UtilityWorksModel", "wells", "()I"⟩, prog_14_method_112_code, 1, some .int, 12, 1, 0, 34058, 34057, 9013, 21014)) (Cs := []) (an := []) (ss := []) (K := 1) (fuel := 4000) wd_fl_ok rfl (List.forall_mem_nil _) (by decide +kernel)
/- UtilityWorksModel wellAt -/
def kh_384 : ct_T := (442, [(2, 805, 805, 0), (0, 0, 2, 1)], [], [], [(1, (0, 0, 11, 1), [(2, 805, 805, 0), (0, 0, 2, 1)], [], ([], []))], [], 0, 0, 0)
theorem kh_384_ok : ct_ok wd_fl kh_384 := ct_of (ff := wd_ff) (y := (⟨"UtilityWorksModel", "wellAt", "(I)I"⟩, prog_14_method_113_code, 2, some .int, 12, 1, 1, 34062, 34061, 9014, 21014)) (Cs := []) (an := []) (ss := []) (K := 1) (fuel := 4000) wd_fl_ok rfl (List.forall_mem_nil _) (by decide +kernel)
/- UtilityWorksModel wellNeeds -/
def kh_385 : ct_T := (443, [(2, 805, 805, 0), (0, 0, 2, 1)], [], [], [(1, (0, 0, 0, 0), [(2, 805, 805, 0), (0, 0, 2, 1)], [], ([], [])), (1, (0, (-2147483648), 2147483647, 1), [(2, 805, 805, 0), (0, 0, 2, 1)], [], ([], []))], [], 0, 0, 0)
theorem kh_385_ok : ct_ok wd_fl kh_385 := ct_of (ff := wd_ff) (y := (⟨"UtilityWorksModel", "wellNeeds", "(I)I"⟩, prog_14_method_114_code, 2, some .int, 12, 1, 1, 34066, 34065, 9015, 21014)) (Cs := []) (an := []) (ss := []) (K := 1) (fuel := 4000) wd_fl_ok rfl (List.forall_mem_nil _) (by decide +kernel)
/- UtilityWorksModel gets -/
def kh_386 : ct_T := (444, [(2, 805, 805, 0), (0, 0, 11, 1), (0, 0, 11, 1), (0, 0, 0, 0)], [], [], [(1, (0, 0, 0, 0), [(2, 805, 805, 0), (0, 0, 11, 1), (0, 0, 11, 1), (0, 0, 0, 0)], [], ([], []))], [], 0, 0, 0)
theorem kh_386_ok : ct_ok wd_fl kh_386 := ct_of (ff := wd_ff) (y := (⟨"UtilityWorksModel", "gets", "(III)Z"⟩, prog_14_method_84_code, 4, some .boolean, 12, 1, 3, 34070, 34069, 10000, 21014)) (Cs := []) (an := [(22, 0, ([((2, 805, 805, 0), none), ((0, 0, 11, 1), none), ((0, 0, 11, 1), none), ((0, 0, 0, 0), none)], [(0, 0), (1, 1), (2, 2), (3, 3)], [], [], [], [], [], [], none), [(0, 0, 99978)])]) (ss := []) (K := 1) (fuel := 4000) wd_fl_ok rfl (List.forall_mem_nil _) (by decide +kernel)
/- UtilityWorksModel gets -/
def kh_387 : ct_T := (444, [(2, 805, 805, 0), (0, 0, 11, 1), (0, 0, 11, 1), (0, (-2147483648), 2147483647, 1)], [], [], [(1, (0, 1, 1, 0), [(2, 805, 805, 0), (0, 0, 11, 1), (0, 0, 11, 1), (0, (-2147483648), 2147483647, 1)], [], ([], [])), (1, (0, 0, 0, 0), [(2, 805, 805, 0), (0, 0, 11, 1), (0, 0, 11, 1), (0, (-2147483648), 2147483647, 1)], [], ([], []))], [((805, 805), (21, 21, 0)), ((819, 819), (0, 11, 1))], 0, 0, 0)
theorem kh_387_ok : ct_ok wd_fl kh_387 := ct_of (ff := wd_ff) (y := (⟨"UtilityWorksModel", "gets", "(III)Z"⟩, prog_14_method_84_code, 4, some .boolean, 12, 1, 3, 34070, 34069, 10000, 21014)) (Cs := []) (an := [(22, 0, ([((2, 805, 805, 0), none), ((0, 0, 11, 1), none), ((0, 0, 11, 1), none), ((0, (-2147483648), 2147483647, 1), none)], [(0, 0), (1, 1), (2, 2), (3, 3)], [], [], [], [], [], [], none), [(0, 0, 99978)])]) (ss := []) (K := 1) (fuel := 4000) wd_fl_ok rfl (List.forall_mem_nil _) (by decide +kernel)
/- UtilityWorksModel boilers -/
def kh_388 : ct_T := (445, [(2, 805, 805, 0)], [], [], [(1, (0, 1, 2, 1), [(2, 805, 805, 0)], [], ([], []))], [], 0, 0, 0)
theorem kh_388_ok : ct_ok wd_fl kh_388 := ct_of (ff := wd_ff) (y := (⟨"UtilityWorksModel", "boilers", "()I"⟩, prog_14_method_155_code, 1, some .int, 12, 1, 0, 34074, 34073, 10001, 21014)) (Cs := []) (an := []) (ss := []) (K := 1) (fuel := 4000) wd_fl_ok rfl (List.forall_mem_nil _) (by decide +kernel)
/- UtilityWorksModel boilerAt -/
def kh_389 : ct_T := (446, [(2, 805, 805, 0), (0, 0, 1, 1)], [], [], [(1, (0, 0, 11, 1), [(2, 805, 805, 0), (0, 0, 1, 1)], [], ([], []))], [], 0, 0, 0)
theorem kh_389_ok : ct_ok wd_fl kh_389 := ct_of (ff := wd_ff) (y := (⟨"UtilityWorksModel", "boilerAt", "(I)I"⟩, prog_14_method_156_code, 2, some .int, 12, 1, 1, 34078, 34077, 10002, 21014)) (Cs := []) (an := []) (ss := []) (K := 1) (fuel := 4000) wd_fl_ok rfl (List.forall_mem_nil _) (by decide +kernel)
/- UtilityWorksModel isLit -/
def kh_390 : ct_T := (448, [(2, 805, 805, 0), (0, 0, 1, 1)], [], [], [(1, (0, 0, 0, 0), [(2, 805, 805, 0), (0, 0, 1, 1)], [], ([], [])), (1, (0, 1, 1, 0), [(2, 805, 805, 0), (0, 0, 1, 1)], [], ([], []))], [], 0, 0, 0)
theorem kh_390_ok : ct_ok wd_fl kh_390 := ct_of (ff := wd_ff) (y := (⟨"UtilityWorksModel", "isLit", "(I)Z"⟩, prog_14_method_157_code, 2, some .boolean, 12, 1, 1, 34086, 34085, 10004, 21014)) (Cs := []) (an := []) (ss := []) (K := 1) (fuel := 4000) wd_fl_ok rfl (List.forall_mem_nil _) (by decide +kernel)
/- UtilityWorksModel boilerNeeds -/
def kh_391 : ct_T := (447, [(2, 805, 805, 0), (0, 0, 1, 1)], [], [], [(1, (0, 0, 0, 0), [(2, 805, 805, 0), (0, 0, 1, 1)], [], ([], [])), (1, (0, 5, 5, 0), [(2, 805, 805, 0), (0, 0, 1, 1)], [], ([], []))], [], 1, 21, 0)
theorem kh_391_ok : ct_ok wd_fl kh_391 := ct_of (ff := wd_ff) (y := (⟨"UtilityWorksModel", "boilerNeeds", "(I)I"⟩, prog_14_method_82_code, 2, some .int, 12, 1, 1, 34082, 34081, 10003, 21014)) (Cs := [kh_390]) (an := []) (ss := []) (K := 1) (fuel := 4000) wd_fl_ok rfl (List.forall_mem_cons.mpr ⟨kh_390_ok, (List.forall_mem_nil _)⟩) (by decide +kernel)
/- UtilityWorksModel gets -/
def kh_392 : ct_T := (444, [(2, 805, 805, 0), (0, 0, 11, 1), (0, 0, 11, 1), (0, 5, 5, 0)], [], [], [(1, (0, 1, 1, 0), [(2, 805, 805, 0), (0, 0, 11, 1), (0, 0, 11, 1), (0, 5, 5, 0)], [((805, 805), (21, 21, 0), (0, 0, 2147483642, 1))], ([], [])), (1, (0, 0, 0, 0), [(2, 805, 805, 0), (0, 0, 11, 1), (0, 0, 11, 1), (0, 5, 5, 0)], [], ([], []))], [((805, 805), (21, 21, 0)), ((819, 819), (0, 11, 1))], 0, 0, 0)
theorem kh_392_ok : ct_ok wd_fl kh_392 := ct_of (ff := wd_ff) (y := (⟨"UtilityWorksModel", "gets", "(III)Z"⟩, prog_14_method_84_code, 4, some .boolean, 12, 1, 3, 34070, 34069, 10000, 21014)) (Cs := []) (an := [(22, 0, ([((2, 805, 805, 0), none), ((0, 0, 11, 1), none), ((0, 0, 11, 1), none), ((0, 5, 5, 0), none)], [(0, 0), (1, 1), (2, 2), (3, 3)], [], [], [], [], [], [], none), [(0, 0, 99978)])]) (ss := []) (K := 1) (fuel := 4000) wd_fl_ok rfl (List.forall_mem_nil _) (by decide +kernel)
/- UtilityWorksModel customers -/
def kh_393 : ct_T := (449, [(2, 805, 805, 0)], [], [], [(1, (0, 6, 10, 1), [(2, 805, 805, 0)], [], ([], []))], [], 0, 0, 0)
theorem kh_393_ok : ct_ok wd_fl kh_393 := ct_of (ff := wd_ff) (y := (⟨"UtilityWorksModel", "customers", "()I"⟩, prog_14_method_197_code, 1, some .int, 12, 1, 0, 34090, 34089, 10005, 21014)) (Cs := []) (an := []) (ss := []) (K := 1) (fuel := 4000) wd_fl_ok rfl (List.forall_mem_nil _) (by decide +kernel)
/- UtilityWorksModel mC -/
def kh_394 : ct_T := (338, [(0, 0, 9, 1), (0, 0, 0, 0)], [], [], [(1, (0, 1301, 1445, 16), [(0, 0, 9, 1), (0, 0, 0, 0)], [], ([], []))], [], 0, 0, 0)
theorem kh_394_ok : ct_ok wd_fl kh_394 := ct_of (ff := wd_ff) (y := (⟨"UtilityWorksModel", "mC", "(II)I"⟩, prog_14_method_192_code, 2, some .int, 12, 0, 2, 31168, 31167, 0, 21014)) (Cs := []) (an := []) (ss := []) (K := 1) (fuel := 4000) wd_fl_ok rfl (List.forall_mem_nil _) (by decide +kernel)
/- UtilityWorksModel customerAt -/
def kh_395 : ct_T := (402, [(2, 805, 805, 0), (0, 0, 9, 1)], [], [], [(1, (0, 0, 11, 1), [(2, 805, 805, 0), (0, 0, 9, 1)], [], ([], []))], [], 1, 21, 0)
theorem kh_395_ok : ct_ok wd_fl kh_395 := ct_of (ff := wd_ff) (y := (⟨"UtilityWorksModel", "customerAt", "(I)I"⟩, prog_14_method_200_code, 2, some .int, 12, 1, 1, 33144, 33143, 7008, 21014)) (Cs := [kh_394]) (an := []) (ss := []) (K := 1) (fuel := 4000) wd_fl_ok rfl (List.forall_mem_cons.mpr ⟨kh_394_ok, (List.forall_mem_nil _)⟩) (by decide +kernel)
/- UtilityWorksModel mC -/
def kh_396 : ct_T := (338, [(0, 0, 9, 1), (0, 2, 2, 0)], [], [], [(1, (0, 1303, 1447, 16), [(0, 0, 9, 1), (0, 2, 2, 0)], [], ([], []))], [], 0, 0, 0)
theorem kh_396_ok : ct_ok wd_fl kh_396 := ct_of (ff := wd_ff) (y := (⟨"UtilityWorksModel", "mC", "(II)I"⟩, prog_14_method_192_code, 2, some .int, 12, 0, 2, 31168, 31167, 0, 21014)) (Cs := []) (an := []) (ss := []) (K := 1) (fuel := 4000) wd_fl_ok rfl (List.forall_mem_nil _) (by decide +kernel)
/- UtilityWorksModel isConnected -/
def kh_397 : ct_T := (451, [(2, 805, 805, 0), (0, 0, 9, 1), (0, 0, 0, 0)], [], [], [(1, (0, 0, 0, 0), [(2, 805, 805, 0), (0, 0, 9, 1), (0, 0, 0, 0)], [], ([], [])), (1, (0, 1, 1, 0), [(2, 805, 805, 0), (0, 0, 9, 1), (0, 0, 0, 0)], [], ([], []))], [], 1, 21, 0)
theorem kh_397_ok : ct_ok wd_fl kh_397 := ct_of (ff := wd_ff) (y := (⟨"UtilityWorksModel", "isConnected", "(II)Z"⟩, prog_14_method_203_code, 3, some .boolean, 12, 1, 2, 34098, 34097, 10007, 21014)) (Cs := [kh_396]) (an := []) (ss := []) (K := 1) (fuel := 4000) wd_fl_ok rfl (List.forall_mem_cons.mpr ⟨kh_396_ok, (List.forall_mem_nil _)⟩) (by decide +kernel)
/- UtilityWorksModel mC -/
def kh_398 : ct_T := (338, [(0, 0, 9, 1), (0, 3, 3, 0)], [], [], [(1, (0, 1304, 1448, 16), [(0, 0, 9, 1), (0, 3, 3, 0)], [], ([], []))], [], 0, 0, 0)
theorem kh_398_ok : ct_ok wd_fl kh_398 := ct_of (ff := wd_ff) (y := (⟨"UtilityWorksModel", "mC", "(II)I"⟩, prog_14_method_192_code, 2, some .int, 12, 0, 2, 31168, 31167, 0, 21014)) (Cs := []) (an := []) (ss := []) (K := 1) (fuel := 4000) wd_fl_ok rfl (List.forall_mem_nil _) (by decide +kernel)
/- UtilityWorksModel needOf -/
def kh_399 : ct_T := (452, [(2, 805, 805, 0), (0, 0, 9, 1), (0, 0, 0, 0)], [], [], [(1, (0, (-2147483648), 2147483647, 1), [(2, 805, 805, 0), (0, 0, 9, 1), (0, 0, 0, 0)], [], ([], []))], [], 1, 21, 0)
theorem kh_399_ok : ct_ok wd_fl kh_399 := ct_of (ff := wd_ff) (y := (⟨"UtilityWorksModel", "needOf", "(II)I"⟩, prog_14_method_202_code, 3, some .int, 12, 1, 2, 34102, 34101, 10008, 21014)) (Cs := [kh_398]) (an := []) (ss := []) (K := 1) (fuel := 4000) wd_fl_ok rfl (List.forall_mem_cons.mpr ⟨kh_398_ok, (List.forall_mem_nil _)⟩) (by decide +kernel)
/- UtilityWorksModel customerNeeds -/
def kh_400 : ct_T := (450, [(2, 805, 805, 0), (0, 0, 9, 1)], [], [], [(1, (0, 0, 0, 0), [(2, 805, 805, 0), (0, 0, 9, 1)], [], ([], [])), (1, (0, (-2147483648), 2147483647, 1), [(2, 805, 805, 0), (0, 0, 9, 1)], [], ([], []))], [], 2, 43, 0)
theorem kh_400_ok : ct_ok wd_fl kh_400 := ct_of (ff := wd_ff) (y := (⟨"UtilityWorksModel", "customerNeeds", "(I)I"⟩, prog_14_method_81_code, 2, some .int, 12, 1, 1, 34094, 34093, 10006, 21014)) (Cs := [kh_397, kh_399]) (an := []) (ss := []) (K := 1) (fuel := 4000) wd_fl_ok rfl (List.forall_mem_cons.mpr ⟨kh_397_ok, (List.forall_mem_cons.mpr ⟨kh_399_ok, (List.forall_mem_nil _)⟩)⟩) (by decide +kernel)
/- UtilityWorksModel dealIsland -/
def kh_401 : ct_T := (438, [(2, 805, 805, 0), (0, 0, 11, 1)], [], [], [(0, (0, 0, 0, 0), [(2, 805, 805, 0), (0, 0, 11, 1)], [], ([], []))], [((805, 805), (21, 21, 0)), ((818, 818), (0, 3, 1)), ((819, 819), (0, 11, 1)), ((821, 821), (0, 2, 1)), ((822, 822), (0, 1, 1)), ((823, 823), (0, 9, 1))], 3, 64, 0)
theorem kh_401_ok : ct_ok wd_fl kh_401 := ct_of (ff := wd_ff) (y := (⟨"UtilityWorksModel", "dealIsland", "(I)V"⟩, prog_14_method_85_code, 6, none, 12, 1, 1, 34046, 34045, 9010, 21014)) (Cs := [kh_382, kh_383, kh_384, kh_385, kh_386, kh_387, kh_388, kh_389, kh_391, kh_392, kh_393, kh_395, kh_400, kh_379, kh_380, kh_381]) (an := [(7, 0, ([((2, 805, 805, 0), none), ((0, 0, 11, 1), none), ((0, 0, 12, 1), none)], [(0, 0), (1, 1), (2, 2)], [], [], [], [], [], [], none), [(0, 0, 99993), (1, 2, 12), (0, 0, 99993)]), (54, 0, ([((2, 805, 805, 0), none), ((0, 0, 11, 1), none), ((0, (-2147483648), 2147483647, 1), none), ((0, 0, 3, 1), none)], [(0, 0), (1, 1), (2, 2), (3, 3)], [], [], [], [], [], [], none), [(0, 0, 99946), (1, 3, 3), (0, 0, 99946)]), (114, 0, ([((2, 805, 805, 0), none), ((0, 0, 11, 1), none), ((0, (-2147483648), 2147483647, 1), none), ((0, 0, 2, 1), none)], [(0, 0), (1, 1), (2, 2), (3, 3)], [], [], [], [], [], [], none), [(0, 0, 99886), (1, 3, 2), (0, 0, 99886)]), (174, 0, ([((2, 805, 805, 0), none), ((0, 0, 11, 1), none), ((0, (-2147483648), 2147483647, 1), none), ((0, 0, 10, 1), none)], [(0, 0), (1, 1), (2, 2), (3, 3)], [], [], [], [], [], [], none), [(0, 0, 99826), (1, 3, 10), (0, 0, 99826)]), (255, 0, ([((2, 805, 805, 0), none), ((0, 0, 11, 1), none), ((0, (-2147483648), 2147483647, 1), none), ((0, (-2147483648), 2147483647, 1), none), ((0, 0, 4, 1), none)], [(0, 0), (1, 1), (2, 2), (3, 3), (4, 4)], [], [], [], [], [], [], none), [(0, 0, 99745), (1, 4, 4), (0, 0, 99745)]), (336, 0, ([((2, 805, 805, 0), none), ((0, 0, 11, 1), none), ((0, (-2147483648), 2147483647, 1), none), ((0, (-2147483648), 2147483647, 1), none), ((0, 0, 3, 1), none)], [(0, 0), (1, 1), (2, 2), (3, 3), (4, 4)], [], [], [], [], [], [], none), [(0, 0, 99745), (1, 4, 4), (0, 0, 99664)])]) (ss := []) (K := 3) (fuel := 4000) wd_fl_ok rfl (List.forall_mem_cons.mpr ⟨kh_382_ok, (List.forall_mem_cons.mpr ⟨kh_383_ok, (List.forall_mem_cons.mpr ⟨kh_384_ok, (List.forall_mem_cons.mpr ⟨kh_385_ok, (List.forall_mem_cons.mpr ⟨kh_386_ok, (List.forall_mem_cons.mpr ⟨kh_387_ok, (List.forall_mem_cons.mpr ⟨kh_388_ok, (List.forall_mem_cons.mpr ⟨kh_389_ok, (List.forall_mem_cons.mpr ⟨kh_391_ok, (List.forall_mem_cons.mpr ⟨kh_392_ok, (List.forall_mem_cons.mpr ⟨kh_393_ok, (List.forall_mem_cons.mpr ⟨kh_395_ok, (List.forall_mem_cons.mpr ⟨kh_400_ok, (List.forall_mem_cons.mpr ⟨kh_379_ok, (List.forall_mem_cons.mpr ⟨kh_380_ok, (List.forall_mem_cons.mpr ⟨kh_381_ok, (List.forall_mem_nil _)⟩)⟩)⟩)⟩)⟩)⟩)⟩)⟩)⟩)⟩)⟩)⟩)⟩)⟩)⟩)⟩) (by decide +kernel)
/- UtilityWorksModel balanceOf -/
def kh_402 : ct_T := (453, [(2, 805, 805, 0), (0, 0, 16, 1)], [], [], [(1, (0, (-2147483648), 2147483647, 1), [(2, 805, 805, 0), (0, 0, 16, 1)], [], ([], []))], [((825, 825), (0, 11, 1))], 3, 63, 0)
theorem kh_402_ok : ct_ok wd_fl kh_402 := ct_of (ff := wd_ff) (y := (⟨"UtilityWorksModel", "balanceOf", "(I)I"⟩, prog_14_method_87_code, 4, some .int, 12, 1, 1, 34106, 34105, 10009, 21014)) (Cs := [kh_sideOf, kh_379]) (an := [(9, 0, ([((2, 805, 805, 0), none), ((0, 0, 16, 1), none), ((0, (-2147483648), 2147483647, 1), none), ((0, 0, 4, 1), none)], [(0, 0), (1, 1), (2, 2), (3, 3)], [], [], [], [], [], [], none), [(0, 0, 99991), (1, 3, 4), (0, 0, 99991)]), (55, 0, ([((2, 805, 805, 0), none), ((0, 0, 16, 1), none), ((0, (-2147483648), 2147483647, 1), none), ((0, 0, 12, 1), none)], [(0, 0), (1, 1), (2, 2), (3, 3)], [], [], [], [], [], [], none), [(0, 0, 99945), (1, 3, 12), (0, 0, 99945)])]) (ss := []) (K := 3) (fuel := 4000) wd_fl_ok rfl (List.forall_mem_cons.mpr ⟨kh_sideOf_ok, (List.forall_mem_cons.mpr ⟨kh_379_ok, (List.forall_mem_nil _)⟩)⟩) (by decide +kernel)
/- UtilityWorksModel dealOnce -/
def kh_403 : ct_T := (436, [(2, 805, 805, 0)], [], [], [(0, (0, 0, 0, 0), [(2, 805, 805, 0)], [], ([], []))], [((805, 805), (21, 21, 0)), ((817, 817), (0, 11, 1)), ((818, 818), (0, 3, 1)), ((819, 819), (0, 11, 1)), ((820, 820), (0, 16, 1)), ((821, 821), (0, 2, 1)), ((822, 822), (0, 1, 1)), ((823, 823), (0, 9, 1)), ((825, 825), (0, 11, 1))], 4, 89, 0)
theorem kh_403_ok : ct_ok wd_fl kh_403 := ct_of (ff := wd_ff) (y := (⟨"UtilityWorksModel", "dealOnce", "()V"⟩, prog_14_method_89_code, 2, none, 12, 1, 0, 34038, 34037, 9008, 21014)) (Cs := [kh_378, kh_401, kh_402]) (an := [(6, 0, ([((2, 805, 805, 0), none), ((0, 0, 12, 1), none)], [(0, 0), (1, 1)], [], [], [], [], [], [], none), [(0, 0, 99994), (1, 1, 12), (0, 0, 99994)]), (27, 0, ([((2, 805, 805, 0), none), ((0, 0, 12, 1), none)], [(0, 0), (1, 1)], [], [], [], [], [], [], none), [(0, 0, 99973), (1, 1, 12), (0, 0, 99973)]), (48, 0, ([((2, 805, 805, 0), none), ((0, 0, 11, 1), none)], [(0, 0), (1, 1)], [], [], [], [], [], [], none), [(0, 0, 99973), (1, 1, 12), (0, 0, 99952)]), (56, 0, ([((2, 805, 805, 0), none), ((0, 0, 17, 1), none)], [(0, 0), (1, 1)], [], [], [], [], [], [], none), [(0, 0, 99944), (1, 1, 17), (0, 0, 99944)])]) (ss := []) (K := 3) (fuel := 4000) wd_fl_ok rfl (List.forall_mem_cons.mpr ⟨kh_378_ok, (List.forall_mem_cons.mpr ⟨kh_401_ok, (List.forall_mem_cons.mpr ⟨kh_402_ok, (List.forall_mem_nil _)⟩)⟩)⟩) (by decide +kernel)
/- UtilityWorksModel sumUp -/
def kh_404 : ct_T := (457, [(2, 805, 805, 0)], [], [], [(0, (0, 0, 0, 0), [(2, 805, 805, 0)], [], ([], []))], [((805, 805), (22, 22, 0)), ((805, 805), (23, 23, 0)), ((805, 805), (24, 24, 0)), ((805, 805), (25, 25, 0)), ((824, 824), (0, 9, 1))], 3, 64, 0)
theorem kh_404_ok : ct_ok wd_fl kh_404 := ct_of (ff := wd_ff) (y := (⟨"UtilityWorksModel", "sumUp", "()V"⟩, prog_14_method_91_code, 2, none, 12, 1, 0, 34121, 34120, 10012, 21014)) (Cs := [kh_383, kh_385, kh_388, kh_391, kh_393, kh_400]) (an := [(22, 0, ([((2, 805, 805, 0), none), ((0, 0, 4, 1), none)], [(0, 0), (1, 1)], [], [], [], [], [((805, 805), (23, 23, 0), (0, 0, 0, 0)), ((805, 805), (24, 24, 0), (0, 0, 0, 0)), ((805, 805), (25, 25, 0), (0, 0, 0, 0))], [], none), [(0, 0, 99978), (1, 1, 4), (0, 0, 99978)]), (56, 0, ([((2, 805, 805, 0), none), ((0, 0, 3, 1), none)], [(0, 0), (1, 1)], [], [], [], [], [((805, 805), (24, 24, 0), (0, 0, 0, 0)), ((805, 805), (25, 25, 0), (0, 0, 0, 0))], [], none), [(0, 0, 99944), (1, 1, 3), (0, 0, 99944)]), (99, 0, ([((2, 805, 805, 0), none), ((0, 0, 2, 1), none)], [(0, 0), (1, 1)], [], [], [], [], [((805, 805), (25, 25, 0), (0, 0, 0, 0))], [], none), [(0, 0, 99901), (1, 1, 2), (0, 0, 99901)]), (142, 0, ([((2, 805, 805, 0), none), ((0, 0, 10, 1), none)], [(0, 0), (1, 1)], [], [], [], [], [], [], none), [(0, 0, 99858), (1, 1, 10), (0, 0, 99858)])]) (ss := []) (K := 3) (fuel := 4000) wd_fl_ok rfl (List.forall_mem_cons.mpr ⟨kh_383_ok, (List.forall_mem_cons.mpr ⟨kh_385_ok, (List.forall_mem_cons.mpr ⟨kh_388_ok, (List.forall_mem_cons.mpr ⟨kh_391_ok, (List.forall_mem_cons.mpr ⟨kh_393_ok, (List.forall_mem_cons.mpr ⟨kh_400_ok, (List.forall_mem_nil _)⟩)⟩)⟩)⟩)⟩)⟩) (by decide +kernel)
abbrev kh_powerDeal_y : mt_T := (⟨"UtilityWorksModel", "powerDeal", "()V"⟩, prog_14_method_92_code, 2, none, 12, 1, 0, 34026, 34025, 9005, 21014)
def kh_powerDeal : ct_T := (433, [(2, 805, 805, 0)], [], [], [(0, (0, 0, 0, 0), [(2, 805, 805, 0)], [], ([], []))], [((805, 805), (21, 21, 0)), ((805, 805), (22, 22, 0)), ((805, 805), (23, 23, 0)), ((805, 805), (24, 24, 0)), ((805, 805), (25, 25, 0)), ((815, 815), (0, 16, 1)), ((816, 816), (0, 16, 1)), ((817, 817), (0, 11, 1)), ((818, 818), (0, 3, 1)), ((819, 819), (0, 11, 1)), ((820, 820), (0, 16, 1)), ((821, 821), (0, 2, 1)), ((822, 822), (0, 1, 1)), ((823, 823), (0, 9, 1)), ((824, 824), (0, 9, 1)), ((825, 825), (0, 11, 1)), ((858, 858), (0, 9, 1))], 5, 110, 0)
def kh_powerDeal_a6 : an_T := (6, 0, ([((2, 805, 805, 0), none), ((0, 0, 17, 1), none)], [(0, 0), (1, 1)], [], [], [], [], [], [], none), [])
def kh_powerDeal_a41 : an_T := (41, 0, ([((2, 805, 805, 0), none), ((0, 17, 17, 1), none)], [(0, 0), (1, 1)], [], [], [], [], [], [], none), [])
def kh_powerDeal_a46 : an_T := (46, 0, ([((2, 805, 805, 0), none), ((0, (-1), 16, 1), none)], [(0, 0), (1, 1)], [], [], [], [], [], [], none), [])
def kh_powerDeal_a65 : an_T := (65, 0, ([((2, 805, 805, 0), none), ((0, 0, 16, 1), none)], [(0, 0), (1, 1)], [], [], [], [], [], [], none), [])
def kh_powerDeal_a69 : an_T := (69, 0, ([((2, 805, 805, 0), none), ((0, 0, 16, 1), none)], [(0, 0), (1, 1)], [], [], [], [], [], [], none), [])
def kh_powerDeal_b0_0 : sg_T := (6, 0, ([((2, 805, 805, 0), none), ((0, 0, 0, 0), none)], [(1, 1), (0, 0)], [], [], [], [], [], [], none))
def kh_powerDeal_b6_0 : sg_T := (41, 0, ([((2, 805, 805, 0), none), ((0, 17, 17, 1), none), ((0, 17, 17, 0), none)], [(0, 0), (1, 1)], [], [], [], [(200000, 2, 1)], [], [], none))
def kh_powerDeal_b6_1 : sg_T := (6, 0, ([((2, 805, 805, 0), none), ((0, 0, 16, 1), none), ((0, 17, 17, 0), none), ((2, 815, 815, 1), none), ((0, 0, 0, 0), none), ((0, 1, 1, 0), none), ((2, 816, 816, 1), none), ((0, 0, 0, 0), none), ((0, 1, 17, 1), some (1, 1))], [(1, 8), (0, 0)], [], [(6, 1, 7), (3, 1, 5)], [], [(100000, 1, 2)], [], [], some [(6, 1, 7), (3, 1, 5)]))
def kh_powerDeal_b6_2 : sg_T := (6, 0, ([((2, 805, 805, 0), none), ((0, 0, 16, 1), none), ((0, 17, 17, 0), none), ((2, 815, 815, 1), none), ((0, 0, 0, 0), none), ((0, 0, 0, 0), none), ((2, 816, 816, 1), none), ((0, 0, 0, 0), none), ((0, 1, 17, 1), some (1, 1))], [(1, 8), (0, 0)], [], [(6, 1, 7), (3, 1, 5)], [], [(100000, 1, 2)], [], [], some [(6, 1, 7), (3, 1, 5)]))
def kh_powerDeal_b41_0 : sg_T := (46, 0, ([((2, 805, 805, 0), none), ((0, 17, 17, 1), none), ((0, (-1), 16, 1), none)], [(1, 2), (0, 0)], [], [], [], [(100000002, 0, 0)], [], [], some []))
def kh_powerDeal_b46_0 : sg_T := (81, 0, ([((2, 805, 805, 0), none), ((0, (-1), (-1), 1), none), ((0, (-1), (-1), 0), none)], [(0, 0), (1, 1)], [], [], [], [(300000, 1, 2)], [], [], none))
def kh_powerDeal_b46_1 : sg_T := (65, 0, ([((2, 805, 805, 0), none), ((0, 0, 16, 1), none), ((0, (-1), (-1), 0), none), ((2, 815, 815, 1), none), ((0, 0, 0, 0), none), ((2, 816, 816, 1), none), ((0, 1, 1, 0), none)], [(0, 0), (1, 1)], [], [(5, 1, 6), (3, 1, 4)], [(1, (-1))], [(400000, 1, 2)], [], [], some [(5, 1, 6), (3, 1, 4)]))
def kh_powerDeal_b65_0 : sg_T := (69, 0, ([((2, 805, 805, 0), none), ((0, 0, 16, 1), none)], [(0, 0), (1, 1)], [], [], [], [], [], [], none))
def kh_powerDeal_b69_0 : sg_T := (46, 0, ([((2, 805, 805, 0), none), ((0, 0, 16, 1), none), ((0, (-1), 16, 1), none)], [(1, 2), (0, 0)], [], [], [], [(100000002, 0, 0)], [], [], some []))
theorem kh_powerDeal_ok : ct_ok wd_fl kh_powerDeal := ct_hand (ff := wd_ff) (y := kh_powerDeal_y) (Cs := [kh_ranks, kh_325, kh_329, kh_333, kh_337, kh_341, kh_345, kh_349, kh_353, kh_357, kh_361, kh_365, kh_369, kh_373, kh_377, kh_403, kh_tripping, kh_404]) wd_fl_ok rfl (List.forall_mem_cons.mpr ⟨kh_ranks_ok, (List.forall_mem_cons.mpr ⟨kh_325_ok, (List.forall_mem_cons.mpr ⟨kh_329_ok, (List.forall_mem_cons.mpr ⟨kh_333_ok, (List.forall_mem_cons.mpr ⟨kh_337_ok, (List.forall_mem_cons.mpr ⟨kh_341_ok, (List.forall_mem_cons.mpr ⟨kh_345_ok, (List.forall_mem_cons.mpr ⟨kh_349_ok, (List.forall_mem_cons.mpr ⟨kh_353_ok, (List.forall_mem_cons.mpr ⟨kh_357_ok, (List.forall_mem_cons.mpr ⟨kh_361_ok, (List.forall_mem_cons.mpr ⟨kh_365_ok, (List.forall_mem_cons.mpr ⟨kh_369_ok, (List.forall_mem_cons.mpr ⟨kh_373_ok, (List.forall_mem_cons.mpr ⟨kh_377_ok, (List.forall_mem_cons.mpr ⟨kh_403_ok, (List.forall_mem_cons.mpr ⟨kh_tripping_ok, (List.forall_mem_cons.mpr ⟨kh_404_ok, (List.forall_mem_nil _)⟩)⟩)⟩)⟩)⟩)⟩)⟩)⟩)⟩)⟩)⟩)⟩)⟩)⟩)⟩)⟩)⟩)⟩) (by decide +kernel) (fun l D tc ad kd N sm xs S p e s m args below meth c sz lv G H0 => by
  have hx : xs.length = 1 := by rw [H0.2.1.1]; rfl
  have hP : ∀ (k : Nat), (∀ (α : List av_X) (lv : List (Nat × Value)) (S1 : fw_S), as_in ad sm wd_fl xs S kh_powerDeal.2.2.2.2.2.1 α kh_powerDeal_a6.2.2.1 lv [] S1 → (True) → 1000000 + (17 - nv α 1).toNat < k → hd_W wd_fl kh_powerDeal kh_powerDeal_y l D tc ad kd N sm xs S p e s m args below meth c sz 6 lv [] S1 0) ∧ (∀ (α : List av_X) (lv : List (Nat × Value)) (S1 : fw_S), as_in ad sm wd_fl xs S kh_powerDeal.2.2.2.2.2.1 α kh_powerDeal_a41.2.2.1 lv [] S1 → (True) → 900000 < k → hd_W wd_fl kh_powerDeal kh_powerDeal_y l D tc ad kd N sm xs S p e s m args below meth c sz 41 lv [] S1 0) ∧ (∀ (α : List av_X) (lv : List (Nat × Value)) (S1 : fw_S), as_in ad sm wd_fl xs S kh_powerDeal.2.2.2.2.2.1 α kh_powerDeal_a46.2.2.1 lv [] S1 → (nv α 1 = -1 ∨ 0 ≤ nv α 1 ∧ nv α 1 ≤ 16 ∧ (S1.1 815 (nv α 1).toNat).toInt = 1) → 10 * (sm_S (S1.1 815) 17).toNat + 5 < k → hd_W wd_fl kh_powerDeal kh_powerDeal_y l D tc ad kd N sm xs S p e s m args below meth c sz 46 lv [] S1 0) ∧ (∀ (α : List av_X) (lv : List (Nat × Value)) (S1 : fw_S), as_in ad sm wd_fl xs S kh_powerDeal.2.2.2.2.2.1 α kh_powerDeal_a65.2.2.1 lv [] S1 → (True) → 10 * (sm_S (S1.1 815) 17).toNat + 9 < k → hd_W wd_fl kh_powerDeal kh_powerDeal_y l D tc ad kd N sm xs S p e s m args below meth c sz 65 lv [] S1 0) ∧ (∀ (α : List av_X) (lv : List (Nat × Value)) (S1 : fw_S), as_in ad sm wd_fl xs S kh_powerDeal.2.2.2.2.2.1 α kh_powerDeal_a69.2.2.1 lv [] S1 → (True) → 10 * (sm_S (S1.1 815) 17).toNat + 8 < k → hd_W wd_fl kh_powerDeal kh_powerDeal_y l D tc ad kd N sm xs S p e s m args below meth c sz 69 lv [] S1 0) ∧ True := by
    intro k
    induction k with
    | zero => exact ⟨fun _ _ _ _ _ h => absurd h (Nat.not_lt_zero _), fun _ _ _ _ _ h => absurd h (Nat.not_lt_zero _), fun _ _ _ _ _ h => absurd h (Nat.not_lt_zero _), fun _ _ _ _ _ h => absurd h (Nat.not_lt_zero _), fun _ _ _ _ _ h => absurd h (Nat.not_lt_zero _), trivial⟩
    | succ k ih =>
    refine ⟨?_, ?_, ?_, ?_, ?_, trivial⟩
    · intro α lv S1 H hp hk
      obtain ⟨α1, hle, Hr⟩ := as_recM (pl := []) [((805, 805), (21, 21, 0)), ((815, 815), (0, 16, 1)), ((816, 816), (0, 16, 1)), ((817, 817), (0, 11, 1)), ((818, 818), (0, 3, 1)), ((819, 819), (0, 11, 1)), ((820, 820), (0, 16, 1)), ((821, 821), (0, 2, 1)), ((822, 822), (0, 1, 1)), ((823, 823), (0, 9, 1)), ((825, 825), (0, 11, 1))] (by decide +kernel) H
      have hf := H.2.2.2.2.2.2.2.2.2.2.1
      have hl1 : α1.length = 2 := by rw [Hr.2.1.1]; rfl
      have hl0 : α.length = 2 := by rw [H.2.1.1]; rfl
      have hxa : al_le xs α1 := H.1.trans hle
      obtain ⟨g1, -, g3, g4, -⟩ := as_fx Hr
      have g0 : (805 ≤ nv α1 0 ∧ nv α1 0 ≤ 805) ∧ (0 ≤ nv α1 1 ∧ nv α1 1 ≤ 17) ∧ True := by
        refine ⟨by have h := (en_nv (i := 0) Hr.2.1 rfl).2; exact h, by have h := (en_nv (i := 1) Hr.2.1 rfl).2; exact h, trivial⟩
      have r0 : nv α1 0 = nv α 0 := nv_le hle (by omega)
      have r1 : nv α1 1 = nv α 1 := nv_le hle (by omega)
      refine hd_segM G (na := 2) (fuel := 600) (first := true) (Bs := [kh_powerDeal_b6_0, kh_powerDeal_b6_1, kh_powerDeal_b6_2]) (by decide +kernel) hl1 Hr ?_
      intro q hq β lv' st' S' H1
      simp only [List.mem_cons, List.not_mem_nil, or_false] at hq
      rcases hq with rfl | rfl | rfl
      · have hst := st_nil H1 rfl
        subst hst
        obtain ⟨f1, f2, f3, f4, f5⟩ := as_fx H1
        simp only [kh_powerDeal_b6_0, fx_env, fx_c, fx_ne, fx_hf, wl_S, Nat.zero_add, Nat.reduceAdd, Nat.reduceDiv, Nat.reduceMod, List.getElem?_cons_zero, List.getElem?_cons_succ, if_true, and_true, true_and] at f1 f2 f3 f4 f5
        have fe0 : nv β 0 = 805 := by omega
        have fe1 : nv β 1 = 17 := by omega
        have fe2 : nv β 2 = 17 := by omega
        try simp only [fe0, fe1, fe2, Int.reduceToNat] at f2 f3 f4 f5
        have s0 : nv β 0 = nv α1 0 := nv_le H1.1 (by omega)
        have s1 : nv β 1 = nv α1 1 := nv_le H1.1 (by omega)
        have c0 := f2
        obtain ⟨α', Ha, hm⟩ := hd_gpM (q := kh_powerDeal_a41) (n := 0) (by decide +kernel) hx H1 (by decide +kernel) hxa hf
        have hfr := H1.2.2.2.2.2.2.2.2.2.2.1
        have m0 : nv α' 0 = nv β 0 := hm 0 0 rfl
        have m1 : nv α' 1 = nv β 1 := hm 1 1 rfl
        refine ih.2.1 _ _ _ Ha ?_ ?_
        · trivial
        · omega
      · have hst := st_nil H1 rfl
        subst hst
        obtain ⟨f1, f2, f3, f4, f5⟩ := as_fx H1
        simp only [kh_powerDeal_b6_1, fx_env, fx_c, fx_ne, fx_hf, wl_S, Nat.zero_add, Nat.reduceAdd, Nat.reduceDiv, Nat.reduceMod, List.getElem?_cons_zero, List.getElem?_cons_succ, if_true, and_true, true_and] at f1 f2 f3 f4 f5
        have fe0 : nv β 0 = 805 := by omega
        have fe2 : nv β 2 = 17 := by omega
        have fe3 : nv β 3 = 815 := by omega
        have fe4 : nv β 4 = 0 := by omega
        have fe5 : nv β 5 = 1 := by omega
        have fe6 : nv β 6 = 816 := by omega
        have fe7 : nv β 7 = 0 := by omega
        try simp only [fe0, fe2, fe3, fe4, fe5, fe6, fe7, Int.reduceToNat] at f2 f3 f4 f5
        have s0 : nv β 0 = nv α1 0 := nv_le H1.1 (by omega)
        have s1 : nv β 1 = nv α1 1 := nv_le H1.1 (by omega)
        have c0 := f2
        obtain ⟨α', Ha, hm⟩ := hd_gpM (q := kh_powerDeal_a6) (n := 0) (by decide +kernel) hx H1 (by decide +kernel) hxa hf
        have hfr := H1.2.2.2.2.2.2.2.2.2.2.1
        have m0 : nv α' 0 = nv β 0 := hm 0 0 rfl
        have m1 : nv α' 1 = nv β 8 := hm 1 8 rfl
        subst S'
        refine ih.1 _ _ _ Ha ?_ ?_
        · trivial
        · omega
      · have hst := st_nil H1 rfl
        subst hst
        obtain ⟨f1, f2, f3, f4, f5⟩ := as_fx H1
        simp only [kh_powerDeal_b6_2, fx_env, fx_c, fx_ne, fx_hf, wl_S, Nat.zero_add, Nat.reduceAdd, Nat.reduceDiv, Nat.reduceMod, List.getElem?_cons_zero, List.getElem?_cons_succ, if_true, and_true, true_and] at f1 f2 f3 f4 f5
        have fe0 : nv β 0 = 805 := by omega
        have fe2 : nv β 2 = 17 := by omega
        have fe3 : nv β 3 = 815 := by omega
        have fe4 : nv β 4 = 0 := by omega
        have fe5 : nv β 5 = 0 := by omega
        have fe6 : nv β 6 = 816 := by omega
        have fe7 : nv β 7 = 0 := by omega
        try simp only [fe0, fe2, fe3, fe4, fe5, fe6, fe7, Int.reduceToNat] at f2 f3 f4 f5
        have s0 : nv β 0 = nv α1 0 := nv_le H1.1 (by omega)
        have s1 : nv β 1 = nv α1 1 := nv_le H1.1 (by omega)
        have c0 := f2
        obtain ⟨α', Ha, hm⟩ := hd_gpM (q := kh_powerDeal_a6) (n := 0) (by decide +kernel) hx H1 (by decide +kernel) hxa hf
        have hfr := H1.2.2.2.2.2.2.2.2.2.2.1
        have m0 : nv α' 0 = nv β 0 := hm 0 0 rfl
        have m1 : nv α' 1 = nv β 8 := hm 1 8 rfl
        subst S'
        refine ih.1 _ _ _ Ha ?_ ?_
        · trivial
        · omega
    · intro α lv S1 H hp hk
      obtain ⟨α1, hle, Hr⟩ := as_recM (pl := []) [] (by decide +kernel) H
      have hf := H.2.2.2.2.2.2.2.2.2.2.1
      have hl1 : α1.length = 2 := by rw [Hr.2.1.1]; rfl
      have hl0 : α.length = 2 := by rw [H.2.1.1]; rfl
      have hxa : al_le xs α1 := H.1.trans hle
      obtain ⟨g1, -, g3, g4, -⟩ := as_fx Hr
      have g0 : (805 ≤ nv α1 0 ∧ nv α1 0 ≤ 805) ∧ (17 ≤ nv α1 1 ∧ nv α1 1 ≤ 17) ∧ True := by
        refine ⟨by have h := (en_nv (i := 0) Hr.2.1 rfl).2; exact h, by have h := (en_nv (i := 1) Hr.2.1 rfl).2; exact h, trivial⟩
      have r0 : nv α1 0 = nv α 0 := nv_le hle (by omega)
      have r1 : nv α1 1 = nv α 1 := nv_le hle (by omega)
      refine hd_segM G (na := 2) (fuel := 600) (first := true) (Bs := [kh_powerDeal_b41_0]) (by decide +kernel) hl1 Hr ?_
      intro q hq β lv' st' S' H1
      simp only [List.mem_cons, List.not_mem_nil, or_false] at hq
      rcases hq with rfl
      · have hst := st_nil H1 rfl
        subst hst
        obtain ⟨f1, f2, f3, f4, f5⟩ := as_fx H1
        simp only [kh_powerDeal_b41_0, fx_env, fx_c, fx_ne, fx_hf, wl_S, Nat.zero_add, Nat.reduceAdd, Nat.reduceDiv, Nat.reduceMod, List.getElem?_cons_zero, List.getElem?_cons_succ, if_true, and_true, true_and] at f1 f2 f3 f4 f5
        have fe0 : nv β 0 = 805 := by omega
        have fe1 : nv β 1 = 17 := by omega
        try simp only [fe0, fe1, Int.reduceToNat] at f2 f3 f4 f5
        have s0 : nv β 0 = nv α1 0 := nv_le H1.1 (by omega)
        have s1 : nv β 1 = nv α1 1 := nv_le H1.1 (by omega)
        have c0 := f2
        obtain ⟨α', Ha, hm⟩ := hd_gpM (q := kh_powerDeal_a46) (n := 0) (by decide +kernel) hx H1 (by decide +kernel) hxa hf
        have hfr := H1.2.2.2.2.2.2.2.2.2.2.1
        have m0 : nv α' 0 = nv β 0 := hm 0 0 rfl
        have m1 : nv α' 1 = nv β 2 := hm 1 2 rfl
        subst S'
        refine ih.2.2.1 _ _ _ Ha ?_ ?_
        have hc := c0
        simp only [wd_fl] at hc
        · rw [m1]; exact hc
        · have hb1 := sm_bd (n := 17) (fun j hj => rg_bd (q_rg_in (q := ((815, 815), (0, 16, 1), (0, 0, 1, 1))) (by decide +kernel) H) (j := j) (by omega))
  
          omega
    · intro α lv S1 H hp hk
      obtain ⟨α1, hle, Hr⟩ := as_recM (pl := []) [((805, 805), (22, 22, 0)), ((805, 805), (23, 23, 0)), ((805, 805), (24, 24, 0)), ((805, 805), (25, 25, 0)), ((815, 815), (0, 16, 1)), ((816, 816), (0, 16, 1)), ((824, 824), (0, 9, 1))] (by decide +kernel) H
      have hf := H.2.2.2.2.2.2.2.2.2.2.1
      have hl1 : α1.length = 2 := by rw [Hr.2.1.1]; rfl
      have hl0 : α.length = 2 := by rw [H.2.1.1]; rfl
      have hxa : al_le xs α1 := H.1.trans hle
      obtain ⟨g1, -, g3, g4, -⟩ := as_fx Hr
      have g0 : (805 ≤ nv α1 0 ∧ nv α1 0 ≤ 805) ∧ ((-1) ≤ nv α1 1 ∧ nv α1 1 ≤ 16) ∧ True := by
        refine ⟨by have h := (en_nv (i := 0) Hr.2.1 rfl).2; exact h, by have h := (en_nv (i := 1) Hr.2.1 rfl).2; exact h, trivial⟩
      have r0 : nv α1 0 = nv α 0 := nv_le hle (by omega)
      have r1 : nv α1 1 = nv α 1 := nv_le hle (by omega)
      refine hd_segM G (na := 2) (fuel := 600) (first := true) (Bs := [kh_powerDeal_b46_0, kh_powerDeal_b46_1]) (by decide +kernel) hl1 Hr ?_
      intro q hq β lv' st' S' H1
      simp only [List.mem_cons, List.not_mem_nil, or_false] at hq
      rcases hq with rfl | rfl
      · obtain ⟨f1, f2, f3, f4, f5⟩ := as_fx H1
        simp only [kh_powerDeal_b46_0, fx_env, fx_c, fx_ne, fx_hf, wl_S, Nat.zero_add, Nat.reduceAdd, Nat.reduceDiv, Nat.reduceMod, List.getElem?_cons_zero, List.getElem?_cons_succ, if_true, and_true, true_and] at f1 f2 f3 f4 f5
        have fe0 : nv β 0 = 805 := by omega
        have fe1 : nv β 1 = (-1) := by omega
        have fe2 : nv β 2 = (-1) := by omega
        try simp only [fe0, fe1, fe2, Int.reduceToNat] at f2 f3 f4 f5
        have s0 : nv β 0 = nv α1 0 := nv_le H1.1 (by omega)
        have s1 : nv β 1 = nv α1 1 := nv_le H1.1 (by omega)
        have c0 := f2
        exact hd_run G (ss := []) (fuel := 20) (by decide +kernel) (as_backM H1 (by decide +kernel) hxa hf)
      · have hst := st_nil H1 rfl
        subst hst
        obtain ⟨f1, f2, f3, f4, f5⟩ := as_fx H1
        simp only [kh_powerDeal_b46_1, fx_env, fx_c, fx_ne, fx_hf, wl_S, Nat.zero_add, Nat.reduceAdd, Nat.reduceDiv, Nat.reduceMod, List.getElem?_cons_zero, List.getElem?_cons_succ, if_true, and_true, true_and] at f1 f2 f3 f4 f5
        have fe0 : nv β 0 = 805 := by omega
        have fe2 : nv β 2 = (-1) := by omega
        have fe3 : nv β 3 = 815 := by omega
        have fe4 : nv β 4 = 0 := by omega
        have fe5 : nv β 5 = 816 := by omega
        have fe6 : nv β 6 = 1 := by omega
        try simp only [fe0, fe2, fe3, fe4, fe5, fe6, Int.reduceToNat] at f2 f3 f4 f5
        have s0 : nv β 0 = nv α1 0 := nv_le H1.1 (by omega)
        have s1 : nv β 1 = nv α1 1 := nv_le H1.1 (by omega)
        have c0 := f2
        obtain ⟨α', Ha, hm⟩ := hd_gpM (q := kh_powerDeal_a65) (n := 0) (by decide +kernel) hx H1 (by decide +kernel) hxa hf
        have hfr := H1.2.2.2.2.2.2.2.2.2.2.1
        have m0 : nv α' 0 = nv β 0 := hm 0 0 rfl
        have m1 : nv α' 1 = nv β 1 := hm 1 1 rfl
        subst S'
        have hb1 := sm_bd (n := 17) (fun j hj => rg_bd (q_rg_in (q := ((815, 815), (0, 16, 1), (0, 0, 1, 1))) (by decide +kernel) H) (j := j) (by omega))
        have hb2 := sm_bd (n := 17) (fun j hj => rg_bd (q_rg_in (q := ((815, 815), (0, 16, 1), (0, 0, 1, 1))) (by decide +kernel) Ha) (j := j) (by omega))
        have h1 : (S1.1 815 (nv β 1).toNat).toInt = 1 := by
          rw [s1, r1]
          rcases hp with h | h
          · omega
          · exact h.2.2
        have h2 : sm_S ((fw_i (fw_i S1 815 (nv β 1).toNat (Int32.ofInt 0)) 816 (nv β 1).toNat (Int32.ofInt 1)).1 815) 17 = sm_S (S1.1 815) 17 - 1 := by
          rw [fw_i_ne (by decide), sm_i (by omega), h1, i32_of (by decide) (by decide)]
          omega
        rw [h2] at hb2
        refine ih.2.2.2.1 _ _ _ Ha ?_ ?_
        · trivial
        · rw [h2]; omega
    · intro α lv S1 H hp hk
      obtain ⟨α1, hle, Hr⟩ := as_recM (pl := []) [((805, 805), (21, 21, 0)), ((817, 817), (0, 11, 1)), ((818, 818), (0, 3, 1)), ((819, 819), (0, 11, 1)), ((820, 820), (0, 16, 1)), ((821, 821), (0, 2, 1)), ((822, 822), (0, 1, 1)), ((823, 823), (0, 9, 1)), ((825, 825), (0, 11, 1))] (by decide +kernel) H
      have hf := H.2.2.2.2.2.2.2.2.2.2.1
      have hl1 : α1.length = 2 := by rw [Hr.2.1.1]; rfl
      have hl0 : α.length = 2 := by rw [H.2.1.1]; rfl
      have hxa : al_le xs α1 := H.1.trans hle
      obtain ⟨g1, -, g3, g4, -⟩ := as_fx Hr
      have g0 : (805 ≤ nv α1 0 ∧ nv α1 0 ≤ 805) ∧ (0 ≤ nv α1 1 ∧ nv α1 1 ≤ 16) ∧ True := by
        refine ⟨by have h := (en_nv (i := 0) Hr.2.1 rfl).2; exact h, by have h := (en_nv (i := 1) Hr.2.1 rfl).2; exact h, trivial⟩
      have r0 : nv α1 0 = nv α 0 := nv_le hle (by omega)
      have r1 : nv α1 1 = nv α 1 := nv_le hle (by omega)
      refine hd_segM G (na := 2) (fuel := 600) (first := true) (Bs := [kh_powerDeal_b65_0]) (by decide +kernel) hl1 Hr ?_
      intro q hq β lv' st' S' H1
      simp only [List.mem_cons, List.not_mem_nil, or_false] at hq
      rcases hq with rfl
      · have hst := st_nil H1 rfl
        subst hst
        obtain ⟨f1, f2, f3, f4, f5⟩ := as_fx H1
        simp only [kh_powerDeal_b65_0, fx_env, fx_c, fx_ne, fx_hf, wl_S, Nat.zero_add, Nat.reduceAdd, Nat.reduceDiv, Nat.reduceMod, List.getElem?_cons_zero, List.getElem?_cons_succ, if_true, and_true, true_and] at f1 f2 f3 f4 f5
        have fe0 : nv β 0 = 805 := by omega
        try simp only [fe0, Int.reduceToNat] at f2 f3 f4 f5
        have s0 : nv β 0 = nv α1 0 := nv_le H1.1 (by omega)
        have s1 : nv β 1 = nv α1 1 := nv_le H1.1 (by omega)
        obtain ⟨α', Ha, hm⟩ := hd_gpM (q := kh_powerDeal_a69) (n := 0) (by decide +kernel) hx H1 (by decide +kernel) hxa hf
        have hfr := H1.2.2.2.2.2.2.2.2.2.2.1
        have m0 : nv α' 0 = nv β 0 := hm 0 0 rfl
        have m1 : nv α' 1 = nv β 1 := hm 1 1 rfl
        refine ih.2.2.2.2.1 _ _ _ Ha ?_ ?_
        · trivial
        · rw [fr_row hfr 815 (by decide +kernel)]; omega
    · intro α lv S1 H hp hk
      obtain ⟨α1, hle, Hr⟩ := as_recM (pl := []) [] (by decide +kernel) H
      have hf := H.2.2.2.2.2.2.2.2.2.2.1
      have hl1 : α1.length = 2 := by rw [Hr.2.1.1]; rfl
      have hl0 : α.length = 2 := by rw [H.2.1.1]; rfl
      have hxa : al_le xs α1 := H.1.trans hle
      obtain ⟨g1, -, g3, g4, -⟩ := as_fx Hr
      have g0 : (805 ≤ nv α1 0 ∧ nv α1 0 ≤ 805) ∧ (0 ≤ nv α1 1 ∧ nv α1 1 ≤ 16) ∧ True := by
        refine ⟨by have h := (en_nv (i := 0) Hr.2.1 rfl).2; exact h, by have h := (en_nv (i := 1) Hr.2.1 rfl).2; exact h, trivial⟩
      have r0 : nv α1 0 = nv α 0 := nv_le hle (by omega)
      have r1 : nv α1 1 = nv α 1 := nv_le hle (by omega)
      refine hd_segM G (na := 2) (fuel := 600) (first := true) (Bs := [kh_powerDeal_b69_0]) (by decide +kernel) hl1 Hr ?_
      intro q hq β lv' st' S' H1
      simp only [List.mem_cons, List.not_mem_nil, or_false] at hq
      rcases hq with rfl
      · have hst := st_nil H1 rfl
        subst hst
        obtain ⟨f1, f2, f3, f4, f5⟩ := as_fx H1
        simp only [kh_powerDeal_b69_0, fx_env, fx_c, fx_ne, fx_hf, wl_S, Nat.zero_add, Nat.reduceAdd, Nat.reduceDiv, Nat.reduceMod, List.getElem?_cons_zero, List.getElem?_cons_succ, if_true, and_true, true_and] at f1 f2 f3 f4 f5
        have fe0 : nv β 0 = 805 := by omega
        try simp only [fe0, Int.reduceToNat] at f2 f3 f4 f5
        have s0 : nv β 0 = nv α1 0 := nv_le H1.1 (by omega)
        have s1 : nv β 1 = nv α1 1 := nv_le H1.1 (by omega)
        have c0 := f2
        obtain ⟨α', Ha, hm⟩ := hd_gpM (q := kh_powerDeal_a46) (n := 0) (by decide +kernel) hx H1 (by decide +kernel) hxa hf
        have hfr := H1.2.2.2.2.2.2.2.2.2.2.1
        have m0 : nv α' 0 = nv β 0 := hm 0 0 rfl
        have m1 : nv α' 1 = nv β 2 := hm 1 2 rfl
        subst S'
        refine ih.2.2.1 _ _ _ Ha ?_ ?_
        have hc := c0
        simp only [wd_fl] at hc
        · rw [m1]; exact hc
        · have hb1 := sm_bd (n := 17) (fun j hj => rg_bd (q_rg_in (q := ((815, 815), (0, 16, 1), (0, 0, 1, 1))) (by decide +kernel) H) (j := j) (by omega))
  
          omega
  obtain ⟨α1, hle, Hr⟩ := as_recM (pl := []) [((858, 858), (0, 9, 1))] (by decide +kernel) H0
  have hf := H0.2.2.2.2.2.2.2.2.2.2.1
  have hl1 : α1.length = 1 := by rw [Hr.2.1.1]; rfl
  have hl0 : xs.length = 1 := by rw [H0.2.1.1]; rfl
  have hxa : al_le xs α1 := H0.1.trans hle
  obtain ⟨g1, -, g3, g4, -⟩ := as_fx Hr
  have g0 : (805 ≤ nv α1 0 ∧ nv α1 0 ≤ 805) ∧ True := by
    refine ⟨by have h := (en_nv (i := 0) Hr.2.1 rfl).2; exact h, trivial⟩
  have r0 : nv α1 0 = nv xs 0 := nv_le hle (by omega)
  refine hd_segM G (na := 1) (fuel := 600) (first := true) (Bs := [kh_powerDeal_b0_0]) (by decide +kernel) hl1 Hr ?_
  intro q hq β lv' st' S' H1
  simp only [List.mem_cons, List.not_mem_nil, or_false] at hq
  rcases hq with rfl
  · have hst := st_nil H1 rfl
    subst hst
    obtain ⟨f1, f2, f3, f4, f5⟩ := as_fx H1
    simp only [kh_powerDeal_b0_0, fx_env, fx_c, fx_ne, fx_hf, wl_S, Nat.zero_add, Nat.reduceAdd, Nat.reduceDiv, Nat.reduceMod, List.getElem?_cons_zero, List.getElem?_cons_succ, if_true, and_true, true_and] at f1 f2 f3 f4 f5
    have fe0 : nv β 0 = 805 := by omega
    have fe1 : nv β 1 = 0 := by omega
    try simp only [fe0, fe1, Int.reduceToNat] at f2 f3 f4 f5
    have s0 : nv β 0 = nv α1 0 := nv_le H1.1 (by omega)
    obtain ⟨α', Ha, hm⟩ := hd_gpM (q := kh_powerDeal_a6) (n := 0) (by decide +kernel) hx H1 (by decide +kernel) hxa hf
    have hfr := H1.2.2.2.2.2.2.2.2.2.2.1
    have m0 : nv α' 0 = nv β 0 := hm 0 0 rfl
    have m1 : nv α' 1 = nv β 1 := hm 1 1 rfl
    refine (hP _).1 _ _ _ Ha ?_ (Nat.lt_succ_self _)
    · trivial)
