/-! ===== waterDeal, fire: they end ===== -/
theorem yS_bd {f : Nat → Int32} : ∀ {n : Nat}, yS f n ≤ n * 2147483647
  | 0 => by simp [yS]
  | n + 1 => by
    have := yS_bd (f := f) (n := n)
    have h := Int32.toInt_lt (f n)
    rw [yS]
    omega
/- UtilityWorksModel wClear -/
def kh_559 : ct_T := (461, [(2, 805, 805, 0)], [], [], [(0, (0, 0, 0, 0), [(2, 805, 805, 0)], [], ([], []))], [((829, 829), (0, 6, 1)), ((830, 830), (0, 6, 1)), ((832, 832), (0, 11, 1)), ((838, 838), (0, 11, 1)), ((839, 839), (0, 33, 1))], 0, 0, 0)
theorem kh_559_ok : ct_ok wd_fl2 kh_559 := ct_of (ff := wd_ff2) (y := (⟨"UtilityWorksModel", "wClear", "()V"⟩, prog_14_method_123_code, 2, none, 12, 1, 0, 34137, 34136, 11000, 21014)) (Cs := []) (an := [(2, 0, ([((2, 805, 805, 0), none), ((0, 0, 34, 1), none)], [(0, 0), (1, 1)], [], [], [], [], [], [], none), [(0, 0, 99998), (1, 1, 34), (0, 0, 99998)]), (23, 0, ([((2, 805, 805, 0), none), ((0, 0, 7, 1), none)], [(0, 0), (1, 1)], [], [], [], [], [], [], none), [(0, 0, 99977), (1, 1, 7), (0, 0, 99977)]), (51, 0, ([((2, 805, 805, 0), none), ((0, 0, 12, 1), none)], [(0, 0), (1, 1)], [], [], [], [], [], [], none), [(0, 0, 99949), (1, 1, 12), (0, 0, 99949)])]) (ss := []) (K := 3) (fuel := 4000) wd_fl2_ok rfl (List.forall_mem_nil _) (by decide +kernel)
/- UtilityWorksModel wWellHead -/
def kh_560 : ct_T := (463, [(2, 805, 805, 0), (0, 0, 2, 1)], [], [], [(1, (0, (-2147483648), 2147483647, 1), [(2, 805, 805, 0), (0, 0, 2, 1)], [], ([], []))], [], 1, 21, 0)
theorem kh_560_ok : ct_ok wd_fl2 kh_560 := ct_of (ff := wd_ff2) (y := (⟨"UtilityWorksModel", "wWellHead", "(I)I"⟩, prog_14_method_125_code, 2, some .int, 12, 1, 1, 34145, 34144, 11002, 21014)) (Cs := [kh_384, kh_heightOf]) (an := []) (ss := []) (K := 1) (fuel := 4000) wd_fl2_ok rfl (List.forall_mem_cons.mpr ⟨kh_384_l2, (List.forall_mem_cons.mpr ⟨kh_heightOf_ok, (List.forall_mem_nil _)⟩)⟩) (by decide +kernel)
/- UtilityWorksModel wTankHead -/
def kh_561 : ct_T := (464, [(2, 805, 805, 0), (0, 0, 3, 1)], [], [], [(1, (0, (-2147483648), 2147483647, 1), [(2, 805, 805, 0), (0, 0, 3, 1)], [], ([], []))], [], 1, 21, 0)
theorem kh_561_ok : ct_ok wd_fl2 kh_561 := ct_of (ff := wd_ff2) (y := (⟨"UtilityWorksModel", "wTankHead", "(I)I"⟩, prog_14_method_124_code, 2, some .int, 12, 1, 1, 34149, 34148, 11003, 21014)) (Cs := [kh_heightOf]) (an := []) (ss := []) (K := 1) (fuel := 4000) wd_fl2_ok rfl (List.forall_mem_cons.mpr ⟨kh_heightOf_ok, (List.forall_mem_nil _)⟩) (by decide +kernel)
/- UtilityWorksModel wSources -/
def kh_562 : ct_T := (462, [(2, 805, 805, 0)], [], [], [(0, (0, 0, 0, 0), [(2, 805, 805, 0)], [], ([], []))], [((827, 827), (0, 2, 1)), ((827, 827), (3, 6, 1)), ((828, 828), (0, 2, 1)), ((828, 828), (3, 6, 1)), ((829, 829), (0, 2, 1)), ((829, 829), (3, 6, 1))], 2, 42, 0)
theorem kh_562_ok : ct_ok wd_fl2 kh_562 := ct_of (ff := wd_ff2) (y := (⟨"UtilityWorksModel", "wSources", "()V"⟩, prog_14_method_126_code, 3, none, 12, 1, 0, 34141, 34140, 11001, 21014)) (Cs := [kh_384, kh_560, kh_561]) (an := [(2, 0, ([((2, 805, 805, 0), none), ((0, 0, 3, 1), none)], [(0, 0), (1, 1)], [], [], [], [], [], [], none), [(0, 0, 99998), (1, 1, 3), (0, 0, 99998)]), (95, 0, ([((2, 805, 805, 0), none), ((0, 0, 4, 1), none)], [(0, 0), (1, 1)], [], [], [], [], [], [], none), [(0, 0, 99905), (1, 1, 4), (0, 0, 99905)])]) (ss := []) (K := 3) (fuel := 4000) wd_fl2_ok rfl (List.forall_mem_cons.mpr ⟨kh_384_l2, (List.forall_mem_cons.mpr ⟨kh_560_ok, (List.forall_mem_cons.mpr ⟨kh_561_ok, (List.forall_mem_nil _)⟩)⟩)⟩) (by decide +kernel)
/- UtilityWorksModel wIsHole -/
def kh_563 : ct_T := (466, [(2, 805, 805, 0), (0, 0, 16, 1)], [], [], [(1, (0, 1, 1, 0), [(2, 805, 805, 0), (0, 0, 16, 1)], [], ([], [])), (1, (0, 0, 0, 0), [(2, 805, 805, 0), (0, 0, 16, 1)], [], ([], []))], [], 3, 66, 0)
theorem kh_563_ok : ct_ok wd_fl2 kh_563 := ct_of (ff := wd_ff2) (y := (⟨"UtilityWorksModel", "wIsHole", "(I)Z"⟩, prog_14_method_115_code, 2, some .boolean, 12, 1, 1, 34157, 34156, 11005, 21014)) (Cs := [kh_hasLink, kh_isFine, kh_isOn]) (an := [(31, 0, ([((2, 805, 805, 0), none), ((0, 0, 16, 1), none)], [(0, 0), (1, 1)], [], [], [], [], [], [], none), [(0, 0, 99969)])]) (ss := []) (K := 1) (fuel := 4000) wd_fl2_ok rfl (List.forall_mem_cons.mpr ⟨kh_hasLink_l2, (List.forall_mem_cons.mpr ⟨kh_isFine_l2, (List.forall_mem_cons.mpr ⟨kh_isOn_l2, (List.forall_mem_nil _)⟩)⟩)⟩) (by decide +kernel)
/- UtilityWorksModel wHoleAt -/
def kh_564 : ct_T := (467, [(2, 805, 805, 0), (0, 0, 16, 1)], [], [], [(1, (0, 0, 11, 1), [(2, 805, 805, 0), (0, 0, 16, 1)], [], ([], []))], [], 2, 40, 0)
theorem kh_564_ok : ct_ok wd_fl2 kh_564 := ct_of (ff := wd_ff2) (y := (⟨"UtilityWorksModel", "wHoleAt", "(I)I"⟩, prog_14_method_116_code, 2, some .int, 12, 1, 1, 34161, 34160, 11006, 21014)) (Cs := [kh_291, kh_heightOf, kh_290]) (an := []) (ss := []) (K := 1) (fuel := 4000) wd_fl2_ok rfl (List.forall_mem_cons.mpr ⟨kh_291_l2, (List.forall_mem_cons.mpr ⟨kh_heightOf_ok, (List.forall_mem_cons.mpr ⟨kh_290_l2, (List.forall_mem_nil _)⟩)⟩)⟩) (by decide +kernel)
/- UtilityWorksModel boilerNeedsWater -/
def kh_565 : ct_T := (468, [(2, 805, 805, 0), (0, 0, 1, 1)], [], [], [(1, (0, 0, 30, 1), [(2, 805, 805, 0), (0, 0, 1, 1)], [], ([], []))], [], 0, 0, 0)
theorem kh_565_ok : ct_ok wd_fl2 kh_565 := ct_of (ff := wd_ff2) (y := (⟨"UtilityWorksModel", "boilerNeedsWater", "(I)I"⟩, prog_14_method_158_code, 2, some .int, 12, 1, 1, 34165, 34164, 11007, 21014)) (Cs := []) (an := []) (ss := []) (K := 1) (fuel := 4000) wd_fl2_ok rfl (List.forall_mem_nil _) (by decide +kernel)
/- UtilityWorksModel isConnected -/
def kh_566 : ct_T := (451, [(2, 805, 805, 0), (0, 0, 9, 1), (0, 1, 1, 0)], [], [], [(1, (0, 0, 0, 0), [(2, 805, 805, 0), (0, 0, 9, 1), (0, 1, 1, 0)], [], ([], [])), (1, (0, 1, 1, 0), [(2, 805, 805, 0), (0, 0, 9, 1), (0, 1, 1, 0)], [], ([], []))], [], 1, 21, 0)
theorem kh_566_ok : ct_ok wd_fl2 kh_566 := ct_of (ff := wd_ff2) (y := (⟨"UtilityWorksModel", "isConnected", "(II)Z"⟩, prog_14_method_203_code, 3, some .boolean, 12, 1, 2, 34098, 34097, 10007, 21014)) (Cs := [kh_396]) (an := []) (ss := []) (K := 1) (fuel := 4000) wd_fl2_ok rfl (List.forall_mem_cons.mpr ⟨kh_396_l2, (List.forall_mem_nil _)⟩) (by decide +kernel)
/- UtilityWorksModel mC -/
def kh_567 : ct_T := (338, [(0, 0, 9, 1), (0, 4, 4, 0)], [], [], [(1, (0, 1305, 1449, 16), [(0, 0, 9, 1), (0, 4, 4, 0)], [], ([], []))], [], 0, 0, 0)
theorem kh_567_ok : ct_ok wd_fl2 kh_567 := ct_of (ff := wd_ff2) (y := (⟨"UtilityWorksModel", "mC", "(II)I"⟩, prog_14_method_192_code, 2, some .int, 12, 0, 2, 31168, 31167, 0, 21014)) (Cs := []) (an := []) (ss := []) (K := 1) (fuel := 4000) wd_fl2_ok rfl (List.forall_mem_nil _) (by decide +kernel)
/- UtilityWorksModel needOf -/
def kh_568 : ct_T := (452, [(2, 805, 805, 0), (0, 0, 9, 1), (0, 1, 1, 0)], [], [], [(1, (0, (-2147483648), 2147483647, 1), [(2, 805, 805, 0), (0, 0, 9, 1), (0, 1, 1, 0)], [], ([], []))], [], 1, 21, 0)
theorem kh_568_ok : ct_ok wd_fl2 kh_568 := ct_of (ff := wd_ff2) (y := (⟨"UtilityWorksModel", "needOf", "(II)I"⟩, prog_14_method_202_code, 3, some .int, 12, 1, 2, 34102, 34101, 10008, 21014)) (Cs := [kh_567]) (an := []) (ss := []) (K := 1) (fuel := 4000) wd_fl2_ok rfl (List.forall_mem_cons.mpr ⟨kh_567_ok, (List.forall_mem_nil _)⟩) (by decide +kernel)
/- UtilityWorksModel wNeed -/
def kh_569 : ct_T := (469, [(2, 805, 805, 0), (0, 0, 9, 1)], [], [], [(1, (0, 0, 0, 0), [(2, 805, 805, 0), (0, 0, 9, 1)], [], ([], [])), (1, (0, (-2147483648), 2147483647, 1), [(2, 805, 805, 0), (0, 0, 9, 1)], [], ([], []))], [], 2, 43, 0)
theorem kh_569_ok : ct_ok wd_fl2 kh_569 := ct_of (ff := wd_ff2) (y := (⟨"UtilityWorksModel", "wNeed", "(I)I"⟩, prog_14_method_128_code, 2, some .int, 12, 1, 1, 34169, 34168, 11008, 21014)) (Cs := [kh_566, kh_568]) (an := []) (ss := []) (K := 1) (fuel := 4000) wd_fl2_ok rfl (List.forall_mem_cons.mpr ⟨kh_566_ok, (List.forall_mem_cons.mpr ⟨kh_568_ok, (List.forall_mem_nil _)⟩)⟩) (by decide +kernel)
/- UtilityWorksModel wWants -/
def kh_570 : ct_T := (465, [(2, 805, 805, 0)], [], [], [(0, (0, 0, 0, 0), [(2, 805, 805, 0)], [], ([], []))], [((831, 831), (0, 11, 1))], 4, 88, 0)
theorem kh_570_ok : ct_ok wd_fl2 kh_570 := ct_of (ff := wd_ff2) (y := (⟨"UtilityWorksModel", "wWants", "()V"⟩, prog_14_method_129_code, 2, none, 12, 1, 0, 34153, 34152, 11004, 21014)) (Cs := [kh_563, kh_564, kh_leads, kh_290, kh_388, kh_389, kh_390, kh_565, kh_393, kh_395, kh_569]) (an := [(2, 0, ([((2, 805, 805, 0), none), ((0, 0, 12, 1), none)], [(0, 0), (1, 1)], [], [], [], [], [], [], none), [(0, 0, 99998), (1, 1, 12), (0, 0, 99998)]), (23, 0, ([((2, 805, 805, 0), none), ((0, 0, 17, 1), none)], [(0, 0), (1, 1)], [], [], [], [], [], [], none), [(0, 0, 99977), (1, 1, 17), (0, 0, 99977)]), (52, 0, ([((2, 805, 805, 0), none), ((0, 0, 16, 1), none)], [(0, 0), (1, 1)], [], [], [], [], [], [], none), [(0, 0, 99977), (1, 1, 17), (0, 0, 99948)]), (83, 0, ([((2, 805, 805, 0), none), ((0, 0, 16, 1), none)], [(0, 0), (1, 1)], [], [], [], [], [], [], none), [(0, 0, 99977), (1, 1, 17), (0, 0, 99917)]), (91, 0, ([((2, 805, 805, 0), none), ((0, 0, 2, 1), none)], [(0, 0), (1, 1)], [], [], [], [], [], [], none), [(0, 0, 99909), (1, 1, 2), (0, 0, 99909)]), (137, 0, ([((2, 805, 805, 0), none), ((0, 0, 10, 1), none)], [(0, 0), (1, 1)], [], [], [], [], [], [], none), [(0, 0, 99863), (1, 1, 10), (0, 0, 99863)])]) (ss := []) (K := 3) (fuel := 4000) wd_fl2_ok rfl (List.forall_mem_cons.mpr ⟨kh_563_ok, (List.forall_mem_cons.mpr ⟨kh_564_ok, (List.forall_mem_cons.mpr ⟨kh_leads_l2, (List.forall_mem_cons.mpr ⟨kh_290_l2, (List.forall_mem_cons.mpr ⟨kh_388_l2, (List.forall_mem_cons.mpr ⟨kh_389_l2, (List.forall_mem_cons.mpr ⟨kh_390_l2, (List.forall_mem_cons.mpr ⟨kh_565_ok, (List.forall_mem_cons.mpr ⟨kh_393_l2, (List.forall_mem_cons.mpr ⟨kh_395_l2, (List.forall_mem_cons.mpr ⟨kh_569_ok, (List.forall_mem_nil _)⟩)⟩)⟩)⟩)⟩)⟩)⟩)⟩)⟩)⟩)⟩) (by decide +kernel)
/- UtilityWorksModel wTake -/
def kh_571 : ct_T := (477, [(2, 805, 805, 0), (0, 20, 20, 0)], [], [], [(1, (0, (-2147483648), 20, 1), [(2, 805, 805, 0), (0, 20, 20, 0)], [], ([], []))], [((805, 805), (48, 48, 0))], 0, 0, 0)
theorem kh_571_ok : ct_ok wd_fl2 kh_571 := ct_of (ff := wd_ff2) (y := (⟨"UtilityWorksModel", "wTake", "(I)I"⟩, prog_14_method_127_code, 3, some .int, 12, 1, 1, 34201, 34200, 12000, 21014)) (Cs := []) (an := []) (ss := []) (K := 1) (fuel := 4000) wd_fl2_ok rfl (List.forall_mem_nil _) (by decide +kernel)
/- UtilityWorksModel wTake -/
def kh_572 : ct_T := (477, [(2, 805, 805, 0), (0, (-2147483648), 2147483647, 1)], [], [], [(1, (0, (-2147483648), 2147483647, 1), [(2, 805, 805, 0), (0, (-2147483648), 2147483647, 1)], [], ([], []))], [((805, 805), (48, 48, 0))], 0, 0, 0)
theorem kh_572_ok : ct_ok wd_fl2 kh_572 := ct_of (ff := wd_ff2) (y := (⟨"UtilityWorksModel", "wTake", "(I)I"⟩, prog_14_method_127_code, 3, some .int, 12, 1, 1, 34201, 34200, 12000, 21014)) (Cs := []) (an := []) (ss := []) (K := 1) (fuel := 4000) wd_fl2_ok rfl (List.forall_mem_nil _) (by decide +kernel)
/- UtilityWorksModel wTake -/
def kh_573 : ct_T := (477, [(2, 805, 805, 0), (0, 0, 30, 1)], [], [], [(1, (0, (-2147483648), 30, 1), [(2, 805, 805, 0), (0, 0, 30, 1)], [], ([], []))], [((805, 805), (48, 48, 0))], 0, 0, 0)
theorem kh_573_ok : ct_ok wd_fl2 kh_573 := ct_of (ff := wd_ff2) (y := (⟨"UtilityWorksModel", "wTake", "(I)I"⟩, prog_14_method_127_code, 3, some .int, 12, 1, 1, 34201, 34200, 12000, 21014)) (Cs := []) (an := []) (ss := []) (K := 1) (fuel := 4000) wd_fl2_ok rfl (List.forall_mem_nil _) (by decide +kernel)
/- UtilityWorksModel wTake -/
def kh_574 : ct_T := (477, [(2, 805, 805, 0), (0, 0, 0, 0)], [], [], [(1, (0, (-2147483648), 0, 1), [(2, 805, 805, 0), (0, 0, 0, 0)], [], ([], [])), (1, (0, 0, 0, 0), [(2, 805, 805, 0), (0, 0, 0, 0)], [((805, 805), (48, 48, 0), (0, 1, 2147483647, 1))], ([], []))], [((805, 805), (48, 48, 0))], 0, 0, 0)
theorem kh_574_ok : ct_ok wd_fl2 kh_574 := ct_of (ff := wd_ff2) (y := (⟨"UtilityWorksModel", "wTake", "(I)I"⟩, prog_14_method_127_code, 3, some .int, 12, 1, 1, 34201, 34200, 12000, 21014)) (Cs := []) (an := []) (ss := []) (K := 1) (fuel := 4000) wd_fl2_ok rfl (List.forall_mem_nil _) (by decide +kernel)
/- UtilityWorksModel wShare -/
def kh_575 : ct_T := (476, [(2, 805, 805, 0), (0, 0, 0, 0)], [], [], [(0, (0, 0, 0, 0), [(2, 805, 805, 0), (0, 0, 0, 0)], [], ([], []))], [((805, 805), (48, 48, 0)), ((834, 834), (0, 0, 0)), ((835, 835), (0, 0, 0)), ((836, 836), (0, 0, 0)), ((837, 837), (0, 0, 0)), ((843, 843), (0, 1, 1)), ((844, 844), (0, 9, 1)), ((845, 845), (0, 0, 0))], 4, 88, 0)
theorem kh_575_ok : ct_ok wd_fl2 kh_575 := ct_of (ff := wd_ff2) (y := (⟨"UtilityWorksModel", "wShare", "(I)V"⟩, prog_14_method_130_code, 4, none, 12, 1, 1, 34197, 34196, 11015, 21014)) (Cs := [kh_563, kh_564, kh_571, kh_leads, kh_290, kh_572, kh_388, kh_389, kh_390, kh_565, kh_573, kh_393, kh_395, kh_569, kh_574]) (an := [(47, 0, ([((2, 805, 805, 0), none), ((0, 0, 0, 0), none), ((0, 0, 17, 1), none)], [(0, 0), (1, 1), (2, 2)], [], [], [], [], [((835, 835), (0, 0, 0), (0, 0, 0, 0)), ((836, 836), (0, 0, 0), (0, 0, 0, 0)), ((837, 837), (0, 0, 0), (0, 0, 0, 0)), ((845, 845), (0, 0, 0), (0, 0, 0, 0))], [], none), [(0, 0, 99953), (1, 2, 17), (0, 0, 99953)]), (97, 0, ([((2, 805, 805, 0), none), ((0, 0, 0, 0), none), ((0, 0, 17, 1), none)], [(0, 0), (1, 1), (2, 2)], [], [], [], [], [((836, 836), (0, 0, 0), (0, 0, 0, 0)), ((837, 837), (0, 0, 0), (0, 0, 0, 0)), ((845, 845), (0, 0, 0), (0, 0, 0, 0))], [], none), [(0, 0, 99903), (1, 2, 17), (0, 0, 99903)]), (155, 0, ([((2, 805, 805, 0), none), ((0, 0, 0, 0), none), ((0, 0, 2, 1), none)], [(0, 0), (1, 1), (2, 2)], [], [], [], [], [((837, 837), (0, 0, 0), (0, 0, 0, 0)), ((845, 845), (0, 0, 0), (0, 0, 0, 0))], [], none), [(0, 0, 99845), (1, 2, 2), (0, 0, 99845)]), (220, 0, ([((2, 805, 805, 0), none), ((0, 0, 0, 0), none), ((0, 0, 1, 1), none)], [(0, 0), (1, 1), (2, 2)], [], [], [], [], [((837, 837), (0, 0, 0), (0, 0, 0, 0)), ((845, 845), (0, 0, 0), (0, 0, 0, 0))], [], none), [(0, 0, 99845), (1, 2, 2), (0, 0, 99780)]), (228, 0, ([((2, 805, 805, 0), none), ((0, 0, 0, 0), none), ((0, 0, 10, 1), none)], [(0, 0), (1, 1), (2, 2)], [], [], [], [], [], [], none), [(0, 0, 99772), (1, 2, 10), (0, 0, 99772)]), (310, 0, ([((2, 805, 805, 0), none), ((0, 0, 0, 0), none), ((0, 0, 9, 1), none), ((0, 0, 9, 1), none)], [(0, 0), (1, 1), (2, 2), (3, 3)], [], [], [], [], [], [], none), [(0, 0, 99772), (1, 2, 10), (0, 0, 99690)])]) (ss := []) (K := 3) (fuel := 4000) wd_fl2_ok rfl (List.forall_mem_cons.mpr ⟨kh_563_ok, (List.forall_mem_cons.mpr ⟨kh_564_ok, (List.forall_mem_cons.mpr ⟨kh_571_ok, (List.forall_mem_cons.mpr ⟨kh_leads_l2, (List.forall_mem_cons.mpr ⟨kh_290_l2, (List.forall_mem_cons.mpr ⟨kh_572_ok, (List.forall_mem_cons.mpr ⟨kh_388_l2, (List.forall_mem_cons.mpr ⟨kh_389_l2, (List.forall_mem_cons.mpr ⟨kh_390_l2, (List.forall_mem_cons.mpr ⟨kh_565_ok, (List.forall_mem_cons.mpr ⟨kh_573_ok, (List.forall_mem_cons.mpr ⟨kh_393_l2, (List.forall_mem_cons.mpr ⟨kh_395_l2, (List.forall_mem_cons.mpr ⟨kh_569_ok, (List.forall_mem_cons.mpr ⟨kh_574_ok, (List.forall_mem_nil _)⟩)⟩)⟩)⟩)⟩)⟩)⟩)⟩)⟩)⟩)⟩)⟩)⟩)⟩)⟩) (by decide +kernel)
/- UtilityWorksModel wShare -/
def kh_576 : ct_T := (476, [(2, 805, 805, 0), (0, 0, 1, 1)], [], [], [(0, (0, 0, 0, 0), [(2, 805, 805, 0), (0, 0, 1, 1)], [], ([], []))], [((805, 805), (48, 48, 0)), ((834, 834), (0, 1, 1)), ((835, 835), (0, 1, 1)), ((836, 836), (0, 1, 1)), ((837, 837), (0, 1, 1)), ((843, 843), (0, 1, 1)), ((844, 844), (0, 9, 1)), ((845, 845), (0, 1, 1))], 4, 88, 0)
theorem kh_576_ok : ct_ok wd_fl2 kh_576 := ct_of (ff := wd_ff2) (y := (⟨"UtilityWorksModel", "wShare", "(I)V"⟩, prog_14_method_130_code, 4, none, 12, 1, 1, 34197, 34196, 11015, 21014)) (Cs := [kh_563, kh_564, kh_571, kh_leads, kh_290, kh_572, kh_388, kh_389, kh_390, kh_565, kh_573, kh_393, kh_395, kh_569, kh_574]) (an := [(47, 0, ([((2, 805, 805, 0), none), ((0, 0, 1, 1), none), ((0, 0, 17, 1), none)], [(0, 0), (1, 1), (2, 2)], [], [], [], [], [], [], none), [(0, 0, 99953), (1, 2, 17), (0, 0, 99953)]), (97, 0, ([((2, 805, 805, 0), none), ((0, 0, 1, 1), none), ((0, 0, 17, 1), none)], [(0, 0), (1, 1), (2, 2)], [], [], [], [], [], [], none), [(0, 0, 99903), (1, 2, 17), (0, 0, 99903)]), (155, 0, ([((2, 805, 805, 0), none), ((0, 0, 1, 1), none), ((0, 0, 2, 1), none)], [(0, 0), (1, 1), (2, 2)], [], [], [], [], [], [], none), [(0, 0, 99845), (1, 2, 2), (0, 0, 99845)]), (220, 0, ([((2, 805, 805, 0), none), ((0, 0, 1, 1), none), ((0, 0, 1, 1), none)], [(0, 0), (1, 1), (2, 2)], [], [], [], [], [], [], none), [(0, 0, 99845), (1, 2, 2), (0, 0, 99780)]), (228, 0, ([((2, 805, 805, 0), none), ((0, 0, 1, 1), none), ((0, 0, 10, 1), none)], [(0, 0), (1, 1), (2, 2)], [], [], [], [], [], [], none), [(0, 0, 99772), (1, 2, 10), (0, 0, 99772)]), (310, 0, ([((2, 805, 805, 0), none), ((0, 0, 1, 1), none), ((0, 0, 9, 1), none), ((0, 0, 9, 1), none)], [(0, 0), (1, 1), (2, 2), (3, 3)], [], [], [], [], [], [], none), [(0, 0, 99772), (1, 2, 10), (0, 0, 99690)])]) (ss := []) (K := 3) (fuel := 4000) wd_fl2_ok rfl (List.forall_mem_cons.mpr ⟨kh_563_ok, (List.forall_mem_cons.mpr ⟨kh_564_ok, (List.forall_mem_cons.mpr ⟨kh_571_ok, (List.forall_mem_cons.mpr ⟨kh_leads_l2, (List.forall_mem_cons.mpr ⟨kh_290_l2, (List.forall_mem_cons.mpr ⟨kh_572_ok, (List.forall_mem_cons.mpr ⟨kh_388_l2, (List.forall_mem_cons.mpr ⟨kh_389_l2, (List.forall_mem_cons.mpr ⟨kh_390_l2, (List.forall_mem_cons.mpr ⟨kh_565_ok, (List.forall_mem_cons.mpr ⟨kh_573_ok, (List.forall_mem_cons.mpr ⟨kh_393_l2, (List.forall_mem_cons.mpr ⟨kh_395_l2, (List.forall_mem_cons.mpr ⟨kh_569_ok, (List.forall_mem_cons.mpr ⟨kh_574_ok, (List.forall_mem_nil _)⟩)⟩)⟩)⟩)⟩)⟩)⟩)⟩)⟩)⟩)⟩)⟩)⟩)⟩)⟩) (by decide +kernel)
/- UtilityWorksModel wShare -/
def kh_577 : ct_T := (476, [(2, 805, 805, 0), (0, 0, 2, 1)], [], [], [(0, (0, 0, 0, 0), [(2, 805, 805, 0), (0, 0, 2, 1)], [], ([], []))], [((805, 805), (48, 48, 0)), ((834, 834), (0, 2, 1)), ((835, 835), (0, 2, 1)), ((836, 836), (0, 2, 1)), ((837, 837), (0, 2, 1)), ((843, 843), (0, 1, 1)), ((844, 844), (0, 9, 1)), ((845, 845), (0, 2, 1))], 4, 88, 0)
theorem kh_577_ok : ct_ok wd_fl2 kh_577 := ct_of (ff := wd_ff2) (y := (⟨"UtilityWorksModel", "wShare", "(I)V"⟩, prog_14_method_130_code, 4, none, 12, 1, 1, 34197, 34196, 11015, 21014)) (Cs := [kh_563, kh_564, kh_571, kh_leads, kh_290, kh_572, kh_388, kh_389, kh_390, kh_565, kh_573, kh_393, kh_395, kh_569, kh_574]) (an := [(47, 0, ([((2, 805, 805, 0), none), ((0, 0, 2, 1), none), ((0, 0, 17, 1), none)], [(0, 0), (1, 1), (2, 2)], [], [], [], [], [], [], none), [(0, 0, 99953), (1, 2, 17), (0, 0, 99953)]), (97, 0, ([((2, 805, 805, 0), none), ((0, 0, 2, 1), none), ((0, 0, 17, 1), none)], [(0, 0), (1, 1), (2, 2)], [], [], [], [], [], [], none), [(0, 0, 99903), (1, 2, 17), (0, 0, 99903)]), (155, 0, ([((2, 805, 805, 0), none), ((0, 0, 2, 1), none), ((0, 0, 2, 1), none)], [(0, 0), (1, 1), (2, 2)], [], [], [], [], [], [], none), [(0, 0, 99845), (1, 2, 2), (0, 0, 99845)]), (220, 0, ([((2, 805, 805, 0), none), ((0, 0, 2, 1), none), ((0, 0, 1, 1), none)], [(0, 0), (1, 1), (2, 2)], [], [], [], [], [], [], none), [(0, 0, 99845), (1, 2, 2), (0, 0, 99780)]), (228, 0, ([((2, 805, 805, 0), none), ((0, 0, 2, 1), none), ((0, 0, 10, 1), none)], [(0, 0), (1, 1), (2, 2)], [], [], [], [], [], [], none), [(0, 0, 99772), (1, 2, 10), (0, 0, 99772)]), (310, 0, ([((2, 805, 805, 0), none), ((0, 0, 2, 1), none), ((0, 0, 9, 1), none), ((0, 0, 9, 1), none)], [(0, 0), (1, 1), (2, 2), (3, 3)], [], [], [], [], [], [], none), [(0, 0, 99772), (1, 2, 10), (0, 0, 99690)])]) (ss := []) (K := 3) (fuel := 4000) wd_fl2_ok rfl (List.forall_mem_cons.mpr ⟨kh_563_ok, (List.forall_mem_cons.mpr ⟨kh_564_ok, (List.forall_mem_cons.mpr ⟨kh_571_ok, (List.forall_mem_cons.mpr ⟨kh_leads_l2, (List.forall_mem_cons.mpr ⟨kh_290_l2, (List.forall_mem_cons.mpr ⟨kh_572_ok, (List.forall_mem_cons.mpr ⟨kh_388_l2, (List.forall_mem_cons.mpr ⟨kh_389_l2, (List.forall_mem_cons.mpr ⟨kh_390_l2, (List.forall_mem_cons.mpr ⟨kh_565_ok, (List.forall_mem_cons.mpr ⟨kh_573_ok, (List.forall_mem_cons.mpr ⟨kh_393_l2, (List.forall_mem_cons.mpr ⟨kh_395_l2, (List.forall_mem_cons.mpr ⟨kh_569_ok, (List.forall_mem_cons.mpr ⟨kh_574_ok, (List.forall_mem_nil _)⟩)⟩)⟩)⟩)⟩)⟩)⟩)⟩)⟩)⟩)⟩)⟩)⟩)⟩)⟩) (by decide +kernel)
/- UtilityWorksModel wShare -/
def kh_578 : ct_T := (476, [(2, 805, 805, 0), (0, 0, 3, 1)], [], [], [(0, (0, 0, 0, 0), [(2, 805, 805, 0), (0, 0, 3, 1)], [], ([], []))], [((805, 805), (48, 48, 0)), ((834, 834), (0, 3, 1)), ((835, 835), (0, 3, 1)), ((836, 836), (0, 3, 1)), ((837, 837), (0, 3, 1)), ((843, 843), (0, 1, 1)), ((844, 844), (0, 9, 1)), ((845, 845), (0, 3, 1))], 4, 88, 0)
theorem kh_578_ok : ct_ok wd_fl2 kh_578 := ct_of (ff := wd_ff2) (y := (⟨"UtilityWorksModel", "wShare", "(I)V"⟩, prog_14_method_130_code, 4, none, 12, 1, 1, 34197, 34196, 11015, 21014)) (Cs := [kh_563, kh_564, kh_571, kh_leads, kh_290, kh_572, kh_388, kh_389, kh_390, kh_565, kh_573, kh_393, kh_395, kh_569, kh_574]) (an := [(47, 0, ([((2, 805, 805, 0), none), ((0, 0, 3, 1), none), ((0, 0, 17, 1), none)], [(0, 0), (1, 1), (2, 2)], [], [], [], [], [], [], none), [(0, 0, 99953), (1, 2, 17), (0, 0, 99953)]), (97, 0, ([((2, 805, 805, 0), none), ((0, 0, 3, 1), none), ((0, 0, 17, 1), none)], [(0, 0), (1, 1), (2, 2)], [], [], [], [], [], [], none), [(0, 0, 99903), (1, 2, 17), (0, 0, 99903)]), (155, 0, ([((2, 805, 805, 0), none), ((0, 0, 3, 1), none), ((0, 0, 2, 1), none)], [(0, 0), (1, 1), (2, 2)], [], [], [], [], [], [], none), [(0, 0, 99845), (1, 2, 2), (0, 0, 99845)]), (220, 0, ([((2, 805, 805, 0), none), ((0, 0, 3, 1), none), ((0, 0, 1, 1), none)], [(0, 0), (1, 1), (2, 2)], [], [], [], [], [], [], none), [(0, 0, 99845), (1, 2, 2), (0, 0, 99780)]), (228, 0, ([((2, 805, 805, 0), none), ((0, 0, 3, 1), none), ((0, 0, 10, 1), none)], [(0, 0), (1, 1), (2, 2)], [], [], [], [], [], [], none), [(0, 0, 99772), (1, 2, 10), (0, 0, 99772)]), (310, 0, ([((2, 805, 805, 0), none), ((0, 0, 3, 1), none), ((0, 0, 9, 1), none), ((0, 0, 9, 1), none)], [(0, 0), (1, 1), (2, 2), (3, 3)], [], [], [], [], [], [], none), [(0, 0, 99772), (1, 2, 10), (0, 0, 99690)])]) (ss := []) (K := 3) (fuel := 4000) wd_fl2_ok rfl (List.forall_mem_cons.mpr ⟨kh_563_ok, (List.forall_mem_cons.mpr ⟨kh_564_ok, (List.forall_mem_cons.mpr ⟨kh_571_ok, (List.forall_mem_cons.mpr ⟨kh_leads_l2, (List.forall_mem_cons.mpr ⟨kh_290_l2, (List.forall_mem_cons.mpr ⟨kh_572_ok, (List.forall_mem_cons.mpr ⟨kh_388_l2, (List.forall_mem_cons.mpr ⟨kh_389_l2, (List.forall_mem_cons.mpr ⟨kh_390_l2, (List.forall_mem_cons.mpr ⟨kh_565_ok, (List.forall_mem_cons.mpr ⟨kh_573_ok, (List.forall_mem_cons.mpr ⟨kh_393_l2, (List.forall_mem_cons.mpr ⟨kh_395_l2, (List.forall_mem_cons.mpr ⟨kh_569_ok, (List.forall_mem_cons.mpr ⟨kh_574_ok, (List.forall_mem_nil _)⟩)⟩)⟩)⟩)⟩)⟩)⟩)⟩)⟩)⟩)⟩)⟩)⟩)⟩)⟩) (by decide +kernel)
/- UtilityWorksModel wShare -/
def kh_579 : ct_T := (476, [(2, 805, 805, 0), (0, 0, 4, 1)], [], [], [(0, (0, 0, 0, 0), [(2, 805, 805, 0), (0, 0, 4, 1)], [], ([], []))], [((805, 805), (48, 48, 0)), ((834, 834), (0, 4, 1)), ((835, 835), (0, 4, 1)), ((836, 836), (0, 4, 1)), ((837, 837), (0, 4, 1)), ((843, 843), (0, 1, 1)), ((844, 844), (0, 9, 1)), ((845, 845), (0, 4, 1))], 4, 88, 0)
theorem kh_579_ok : ct_ok wd_fl2 kh_579 := ct_of (ff := wd_ff2) (y := (⟨"UtilityWorksModel", "wShare", "(I)V"⟩, prog_14_method_130_code, 4, none, 12, 1, 1, 34197, 34196, 11015, 21014)) (Cs := [kh_563, kh_564, kh_571, kh_leads, kh_290, kh_572, kh_388, kh_389, kh_390, kh_565, kh_573, kh_393, kh_395, kh_569, kh_574]) (an := [(47, 0, ([((2, 805, 805, 0), none), ((0, 0, 4, 1), none), ((0, 0, 17, 1), none)], [(0, 0), (1, 1), (2, 2)], [], [], [], [], [], [], none), [(0, 0, 99953), (1, 2, 17), (0, 0, 99953)]), (97, 0, ([((2, 805, 805, 0), none), ((0, 0, 4, 1), none), ((0, 0, 17, 1), none)], [(0, 0), (1, 1), (2, 2)], [], [], [], [], [], [], none), [(0, 0, 99903), (1, 2, 17), (0, 0, 99903)]), (155, 0, ([((2, 805, 805, 0), none), ((0, 0, 4, 1), none), ((0, 0, 2, 1), none)], [(0, 0), (1, 1), (2, 2)], [], [], [], [], [], [], none), [(0, 0, 99845), (1, 2, 2), (0, 0, 99845)]), (220, 0, ([((2, 805, 805, 0), none), ((0, 0, 4, 1), none), ((0, 0, 1, 1), none)], [(0, 0), (1, 1), (2, 2)], [], [], [], [], [], [], none), [(0, 0, 99845), (1, 2, 2), (0, 0, 99780)]), (228, 0, ([((2, 805, 805, 0), none), ((0, 0, 4, 1), none), ((0, 0, 10, 1), none)], [(0, 0), (1, 1), (2, 2)], [], [], [], [], [], [], none), [(0, 0, 99772), (1, 2, 10), (0, 0, 99772)]), (310, 0, ([((2, 805, 805, 0), none), ((0, 0, 4, 1), none), ((0, 0, 9, 1), none), ((0, 0, 9, 1), none)], [(0, 0), (1, 1), (2, 2), (3, 3)], [], [], [], [], [], [], none), [(0, 0, 99772), (1, 2, 10), (0, 0, 99690)])]) (ss := []) (K := 3) (fuel := 4000) wd_fl2_ok rfl (List.forall_mem_cons.mpr ⟨kh_563_ok, (List.forall_mem_cons.mpr ⟨kh_564_ok, (List.forall_mem_cons.mpr ⟨kh_571_ok, (List.forall_mem_cons.mpr ⟨kh_leads_l2, (List.forall_mem_cons.mpr ⟨kh_290_l2, (List.forall_mem_cons.mpr ⟨kh_572_ok, (List.forall_mem_cons.mpr ⟨kh_388_l2, (List.forall_mem_cons.mpr ⟨kh_389_l2, (List.forall_mem_cons.mpr ⟨kh_390_l2, (List.forall_mem_cons.mpr ⟨kh_565_ok, (List.forall_mem_cons.mpr ⟨kh_573_ok, (List.forall_mem_cons.mpr ⟨kh_393_l2, (List.forall_mem_cons.mpr ⟨kh_395_l2, (List.forall_mem_cons.mpr ⟨kh_569_ok, (List.forall_mem_cons.mpr ⟨kh_574_ok, (List.forall_mem_nil _)⟩)⟩)⟩)⟩)⟩)⟩)⟩)⟩)⟩)⟩)⟩)⟩)⟩)⟩)⟩) (by decide +kernel)
/- UtilityWorksModel wShare -/
def kh_580 : ct_T := (476, [(2, 805, 805, 0), (0, 0, 5, 1)], [], [], [(0, (0, 0, 0, 0), [(2, 805, 805, 0), (0, 0, 5, 1)], [], ([], []))], [((805, 805), (48, 48, 0)), ((834, 834), (0, 5, 1)), ((835, 835), (0, 5, 1)), ((836, 836), (0, 5, 1)), ((837, 837), (0, 5, 1)), ((843, 843), (0, 1, 1)), ((844, 844), (0, 9, 1)), ((845, 845), (0, 5, 1))], 4, 88, 0)
theorem kh_580_ok : ct_ok wd_fl2 kh_580 := ct_of (ff := wd_ff2) (y := (⟨"UtilityWorksModel", "wShare", "(I)V"⟩, prog_14_method_130_code, 4, none, 12, 1, 1, 34197, 34196, 11015, 21014)) (Cs := [kh_563, kh_564, kh_571, kh_leads, kh_290, kh_572, kh_388, kh_389, kh_390, kh_565, kh_573, kh_393, kh_395, kh_569, kh_574]) (an := [(47, 0, ([((2, 805, 805, 0), none), ((0, 0, 5, 1), none), ((0, 0, 17, 1), none)], [(0, 0), (1, 1), (2, 2)], [], [], [], [], [], [], none), [(0, 0, 99953), (1, 2, 17), (0, 0, 99953)]), (97, 0, ([((2, 805, 805, 0), none), ((0, 0, 5, 1), none), ((0, 0, 17, 1), none)], [(0, 0), (1, 1), (2, 2)], [], [], [], [], [], [], none), [(0, 0, 99903), (1, 2, 17), (0, 0, 99903)]), (155, 0, ([((2, 805, 805, 0), none), ((0, 0, 5, 1), none), ((0, 0, 2, 1), none)], [(0, 0), (1, 1), (2, 2)], [], [], [], [], [], [], none), [(0, 0, 99845), (1, 2, 2), (0, 0, 99845)]), (220, 0, ([((2, 805, 805, 0), none), ((0, 0, 5, 1), none), ((0, 0, 1, 1), none)], [(0, 0), (1, 1), (2, 2)], [], [], [], [], [], [], none), [(0, 0, 99845), (1, 2, 2), (0, 0, 99780)]), (228, 0, ([((2, 805, 805, 0), none), ((0, 0, 5, 1), none), ((0, 0, 10, 1), none)], [(0, 0), (1, 1), (2, 2)], [], [], [], [], [], [], none), [(0, 0, 99772), (1, 2, 10), (0, 0, 99772)]), (310, 0, ([((2, 805, 805, 0), none), ((0, 0, 5, 1), none), ((0, 0, 9, 1), none), ((0, 0, 9, 1), none)], [(0, 0), (1, 1), (2, 2), (3, 3)], [], [], [], [], [], [], none), [(0, 0, 99772), (1, 2, 10), (0, 0, 99690)])]) (ss := []) (K := 3) (fuel := 4000) wd_fl2_ok rfl (List.forall_mem_cons.mpr ⟨kh_563_ok, (List.forall_mem_cons.mpr ⟨kh_564_ok, (List.forall_mem_cons.mpr ⟨kh_571_ok, (List.forall_mem_cons.mpr ⟨kh_leads_l2, (List.forall_mem_cons.mpr ⟨kh_290_l2, (List.forall_mem_cons.mpr ⟨kh_572_ok, (List.forall_mem_cons.mpr ⟨kh_388_l2, (List.forall_mem_cons.mpr ⟨kh_389_l2, (List.forall_mem_cons.mpr ⟨kh_390_l2, (List.forall_mem_cons.mpr ⟨kh_565_ok, (List.forall_mem_cons.mpr ⟨kh_573_ok, (List.forall_mem_cons.mpr ⟨kh_393_l2, (List.forall_mem_cons.mpr ⟨kh_395_l2, (List.forall_mem_cons.mpr ⟨kh_569_ok, (List.forall_mem_cons.mpr ⟨kh_574_ok, (List.forall_mem_nil _)⟩)⟩)⟩)⟩)⟩)⟩)⟩)⟩)⟩)⟩)⟩)⟩)⟩)⟩)⟩) (by decide +kernel)
/- UtilityWorksModel wShare -/
def kh_581 : ct_T := (476, [(2, 805, 805, 0), (0, 0, 6, 1)], [], [], [(0, (0, 0, 0, 0), [(2, 805, 805, 0), (0, 0, 6, 1)], [], ([], []))], [((805, 805), (48, 48, 0)), ((834, 834), (0, 6, 1)), ((835, 835), (0, 6, 1)), ((836, 836), (0, 6, 1)), ((837, 837), (0, 6, 1)), ((843, 843), (0, 1, 1)), ((844, 844), (0, 9, 1)), ((845, 845), (0, 6, 1))], 4, 88, 0)
theorem kh_581_ok : ct_ok wd_fl2 kh_581 := ct_of (ff := wd_ff2) (y := (⟨"UtilityWorksModel", "wShare", "(I)V"⟩, prog_14_method_130_code, 4, none, 12, 1, 1, 34197, 34196, 11015, 21014)) (Cs := [kh_563, kh_564, kh_571, kh_leads, kh_290, kh_572, kh_388, kh_389, kh_390, kh_565, kh_573, kh_393, kh_395, kh_569, kh_574]) (an := [(47, 0, ([((2, 805, 805, 0), none), ((0, 0, 6, 1), none), ((0, 0, 17, 1), none)], [(0, 0), (1, 1), (2, 2)], [], [], [], [], [], [], none), [(0, 0, 99953), (1, 2, 17), (0, 0, 99953)]), (97, 0, ([((2, 805, 805, 0), none), ((0, 0, 6, 1), none), ((0, 0, 17, 1), none)], [(0, 0), (1, 1), (2, 2)], [], [], [], [], [], [], none), [(0, 0, 99903), (1, 2, 17), (0, 0, 99903)]), (155, 0, ([((2, 805, 805, 0), none), ((0, 0, 6, 1), none), ((0, 0, 2, 1), none)], [(0, 0), (1, 1), (2, 2)], [], [], [], [], [], [], none), [(0, 0, 99845), (1, 2, 2), (0, 0, 99845)]), (220, 0, ([((2, 805, 805, 0), none), ((0, 0, 6, 1), none), ((0, 0, 1, 1), none)], [(0, 0), (1, 1), (2, 2)], [], [], [], [], [], [], none), [(0, 0, 99845), (1, 2, 2), (0, 0, 99780)]), (228, 0, ([((2, 805, 805, 0), none), ((0, 0, 6, 1), none), ((0, 0, 10, 1), none)], [(0, 0), (1, 1), (2, 2)], [], [], [], [], [], [], none), [(0, 0, 99772), (1, 2, 10), (0, 0, 99772)]), (310, 0, ([((2, 805, 805, 0), none), ((0, 0, 6, 1), none), ((0, 0, 9, 1), none), ((0, 0, 9, 1), none)], [(0, 0), (1, 1), (2, 2), (3, 3)], [], [], [], [], [], [], none), [(0, 0, 99772), (1, 2, 10), (0, 0, 99690)])]) (ss := []) (K := 3) (fuel := 4000) wd_fl2_ok rfl (List.forall_mem_cons.mpr ⟨kh_563_ok, (List.forall_mem_cons.mpr ⟨kh_564_ok, (List.forall_mem_cons.mpr ⟨kh_571_ok, (List.forall_mem_cons.mpr ⟨kh_leads_l2, (List.forall_mem_cons.mpr ⟨kh_290_l2, (List.forall_mem_cons.mpr ⟨kh_572_ok, (List.forall_mem_cons.mpr ⟨kh_388_l2, (List.forall_mem_cons.mpr ⟨kh_389_l2, (List.forall_mem_cons.mpr ⟨kh_390_l2, (List.forall_mem_cons.mpr ⟨kh_565_ok, (List.forall_mem_cons.mpr ⟨kh_573_ok, (List.forall_mem_cons.mpr ⟨kh_393_l2, (List.forall_mem_cons.mpr ⟨kh_395_l2, (List.forall_mem_cons.mpr ⟨kh_569_ok, (List.forall_mem_cons.mpr ⟨kh_574_ok, (List.forall_mem_nil _)⟩)⟩)⟩)⟩)⟩)⟩)⟩)⟩)⟩)⟩)⟩)⟩)⟩)⟩)⟩) (by decide +kernel)
/- UtilityWorksModel wShare -/
def kh_582 : ct_T := (476, [(2, 805, 805, 0), (0, 0, 7, 1)], [], [], [(0, (0, 0, 0, 0), [(2, 805, 805, 0), (0, 0, 7, 1)], [], ([], []))], [((805, 805), (48, 48, 0)), ((834, 834), (0, 7, 1)), ((835, 835), (0, 7, 1)), ((836, 836), (0, 7, 1)), ((837, 837), (0, 7, 1)), ((843, 843), (0, 1, 1)), ((844, 844), (0, 9, 1)), ((845, 845), (0, 7, 1))], 4, 88, 0)
theorem kh_582_ok : ct_ok wd_fl2 kh_582 := ct_of (ff := wd_ff2) (y := (⟨"UtilityWorksModel", "wShare", "(I)V"⟩, prog_14_method_130_code, 4, none, 12, 1, 1, 34197, 34196, 11015, 21014)) (Cs := [kh_563, kh_564, kh_571, kh_leads, kh_290, kh_572, kh_388, kh_389, kh_390, kh_565, kh_573, kh_393, kh_395, kh_569, kh_574]) (an := [(47, 0, ([((2, 805, 805, 0), none), ((0, 0, 7, 1), none), ((0, 0, 17, 1), none)], [(0, 0), (1, 1), (2, 2)], [], [], [], [], [], [], none), [(0, 0, 99953), (1, 2, 17), (0, 0, 99953)]), (97, 0, ([((2, 805, 805, 0), none), ((0, 0, 7, 1), none), ((0, 0, 17, 1), none)], [(0, 0), (1, 1), (2, 2)], [], [], [], [], [], [], none), [(0, 0, 99903), (1, 2, 17), (0, 0, 99903)]), (155, 0, ([((2, 805, 805, 0), none), ((0, 0, 7, 1), none), ((0, 0, 2, 1), none)], [(0, 0), (1, 1), (2, 2)], [], [], [], [], [], [], none), [(0, 0, 99845), (1, 2, 2), (0, 0, 99845)]), (220, 0, ([((2, 805, 805, 0), none), ((0, 0, 7, 1), none), ((0, 0, 1, 1), none)], [(0, 0), (1, 1), (2, 2)], [], [], [], [], [], [], none), [(0, 0, 99845), (1, 2, 2), (0, 0, 99780)]), (228, 0, ([((2, 805, 805, 0), none), ((0, 0, 7, 1), none), ((0, 0, 10, 1), none)], [(0, 0), (1, 1), (2, 2)], [], [], [], [], [], [], none), [(0, 0, 99772), (1, 2, 10), (0, 0, 99772)]), (310, 0, ([((2, 805, 805, 0), none), ((0, 0, 7, 1), none), ((0, 0, 9, 1), none), ((0, 0, 9, 1), none)], [(0, 0), (1, 1), (2, 2), (3, 3)], [], [], [], [], [], [], none), [(0, 0, 99772), (1, 2, 10), (0, 0, 99690)])]) (ss := []) (K := 3) (fuel := 4000) wd_fl2_ok rfl (List.forall_mem_cons.mpr ⟨kh_563_ok, (List.forall_mem_cons.mpr ⟨kh_564_ok, (List.forall_mem_cons.mpr ⟨kh_571_ok, (List.forall_mem_cons.mpr ⟨kh_leads_l2, (List.forall_mem_cons.mpr ⟨kh_290_l2, (List.forall_mem_cons.mpr ⟨kh_572_ok, (List.forall_mem_cons.mpr ⟨kh_388_l2, (List.forall_mem_cons.mpr ⟨kh_389_l2, (List.forall_mem_cons.mpr ⟨kh_390_l2, (List.forall_mem_cons.mpr ⟨kh_565_ok, (List.forall_mem_cons.mpr ⟨kh_573_ok, (List.forall_mem_cons.mpr ⟨kh_393_l2, (List.forall_mem_cons.mpr ⟨kh_395_l2, (List.forall_mem_cons.mpr ⟨kh_569_ok, (List.forall_mem_cons.mpr ⟨kh_574_ok, (List.forall_mem_nil _)⟩)⟩)⟩)⟩)⟩)⟩)⟩)⟩)⟩)⟩)⟩)⟩)⟩)⟩)⟩) (by decide +kernel)
/- UtilityWorksModel wShare -/
def kh_583 : ct_T := (476, [(2, 805, 805, 0), (0, 0, 8, 1)], [], [], [(0, (0, 0, 0, 0), [(2, 805, 805, 0), (0, 0, 8, 1)], [], ([], []))], [((805, 805), (48, 48, 0)), ((834, 834), (0, 8, 1)), ((835, 835), (0, 8, 1)), ((836, 836), (0, 8, 1)), ((837, 837), (0, 8, 1)), ((843, 843), (0, 1, 1)), ((844, 844), (0, 9, 1)), ((845, 845), (0, 8, 1))], 4, 88, 0)
theorem kh_583_ok : ct_ok wd_fl2 kh_583 := ct_of (ff := wd_ff2) (y := (⟨"UtilityWorksModel", "wShare", "(I)V"⟩, prog_14_method_130_code, 4, none, 12, 1, 1, 34197, 34196, 11015, 21014)) (Cs := [kh_563, kh_564, kh_571, kh_leads, kh_290, kh_572, kh_388, kh_389, kh_390, kh_565, kh_573, kh_393, kh_395, kh_569, kh_574]) (an := [(47, 0, ([((2, 805, 805, 0), none), ((0, 0, 8, 1), none), ((0, 0, 17, 1), none)], [(0, 0), (1, 1), (2, 2)], [], [], [], [], [], [], none), [(0, 0, 99953), (1, 2, 17), (0, 0, 99953)]), (97, 0, ([((2, 805, 805, 0), none), ((0, 0, 8, 1), none), ((0, 0, 17, 1), none)], [(0, 0), (1, 1), (2, 2)], [], [], [], [], [], [], none), [(0, 0, 99903), (1, 2, 17), (0, 0, 99903)]), (155, 0, ([((2, 805, 805, 0), none), ((0, 0, 8, 1), none), ((0, 0, 2, 1), none)], [(0, 0), (1, 1), (2, 2)], [], [], [], [], [], [], none), [(0, 0, 99845), (1, 2, 2), (0, 0, 99845)]), (220, 0, ([((2, 805, 805, 0), none), ((0, 0, 8, 1), none), ((0, 0, 1, 1), none)], [(0, 0), (1, 1), (2, 2)], [], [], [], [], [], [], none), [(0, 0, 99845), (1, 2, 2), (0, 0, 99780)]), (228, 0, ([((2, 805, 805, 0), none), ((0, 0, 8, 1), none), ((0, 0, 10, 1), none)], [(0, 0), (1, 1), (2, 2)], [], [], [], [], [], [], none), [(0, 0, 99772), (1, 2, 10), (0, 0, 99772)]), (310, 0, ([((2, 805, 805, 0), none), ((0, 0, 8, 1), none), ((0, 0, 9, 1), none), ((0, 0, 9, 1), none)], [(0, 0), (1, 1), (2, 2), (3, 3)], [], [], [], [], [], [], none), [(0, 0, 99772), (1, 2, 10), (0, 0, 99690)])]) (ss := []) (K := 3) (fuel := 4000) wd_fl2_ok rfl (List.forall_mem_cons.mpr ⟨kh_563_ok, (List.forall_mem_cons.mpr ⟨kh_564_ok, (List.forall_mem_cons.mpr ⟨kh_571_ok, (List.forall_mem_cons.mpr ⟨kh_leads_l2, (List.forall_mem_cons.mpr ⟨kh_290_l2, (List.forall_mem_cons.mpr ⟨kh_572_ok, (List.forall_mem_cons.mpr ⟨kh_388_l2, (List.forall_mem_cons.mpr ⟨kh_389_l2, (List.forall_mem_cons.mpr ⟨kh_390_l2, (List.forall_mem_cons.mpr ⟨kh_565_ok, (List.forall_mem_cons.mpr ⟨kh_573_ok, (List.forall_mem_cons.mpr ⟨kh_393_l2, (List.forall_mem_cons.mpr ⟨kh_395_l2, (List.forall_mem_cons.mpr ⟨kh_569_ok, (List.forall_mem_cons.mpr ⟨kh_574_ok, (List.forall_mem_nil _)⟩)⟩)⟩)⟩)⟩)⟩)⟩)⟩)⟩)⟩)⟩)⟩)⟩)⟩)⟩) (by decide +kernel)
/- UtilityWorksModel wShare -/
def kh_584 : ct_T := (476, [(2, 805, 805, 0), (0, 0, 9, 1)], [], [], [(0, (0, 0, 0, 0), [(2, 805, 805, 0), (0, 0, 9, 1)], [], ([], []))], [((805, 805), (48, 48, 0)), ((834, 834), (0, 9, 1)), ((835, 835), (0, 9, 1)), ((836, 836), (0, 9, 1)), ((837, 837), (0, 9, 1)), ((843, 843), (0, 1, 1)), ((844, 844), (0, 9, 1)), ((845, 845), (0, 9, 1))], 4, 88, 0)
theorem kh_584_ok : ct_ok wd_fl2 kh_584 := ct_of (ff := wd_ff2) (y := (⟨"UtilityWorksModel", "wShare", "(I)V"⟩, prog_14_method_130_code, 4, none, 12, 1, 1, 34197, 34196, 11015, 21014)) (Cs := [kh_563, kh_564, kh_571, kh_leads, kh_290, kh_572, kh_388, kh_389, kh_390, kh_565, kh_573, kh_393, kh_395, kh_569, kh_574]) (an := [(47, 0, ([((2, 805, 805, 0), none), ((0, 0, 9, 1), none), ((0, 0, 17, 1), none)], [(0, 0), (1, 1), (2, 2)], [], [], [], [], [], [], none), [(0, 0, 99953), (1, 2, 17), (0, 0, 99953)]), (97, 0, ([((2, 805, 805, 0), none), ((0, 0, 9, 1), none), ((0, 0, 17, 1), none)], [(0, 0), (1, 1), (2, 2)], [], [], [], [], [], [], none), [(0, 0, 99903), (1, 2, 17), (0, 0, 99903)]), (155, 0, ([((2, 805, 805, 0), none), ((0, 0, 9, 1), none), ((0, 0, 2, 1), none)], [(0, 0), (1, 1), (2, 2)], [], [], [], [], [], [], none), [(0, 0, 99845), (1, 2, 2), (0, 0, 99845)]), (220, 0, ([((2, 805, 805, 0), none), ((0, 0, 9, 1), none), ((0, 0, 1, 1), none)], [(0, 0), (1, 1), (2, 2)], [], [], [], [], [], [], none), [(0, 0, 99845), (1, 2, 2), (0, 0, 99780)]), (228, 0, ([((2, 805, 805, 0), none), ((0, 0, 9, 1), none), ((0, 0, 10, 1), none)], [(0, 0), (1, 1), (2, 2)], [], [], [], [], [], [], none), [(0, 0, 99772), (1, 2, 10), (0, 0, 99772)]), (310, 0, ([((2, 805, 805, 0), none), ((0, 0, 9, 1), none), ((0, 0, 9, 1), none), ((0, 0, 9, 1), none)], [(0, 0), (1, 1), (2, 2), (3, 3)], [], [], [], [], [], [], none), [(0, 0, 99772), (1, 2, 10), (0, 0, 99690)])]) (ss := []) (K := 3) (fuel := 4000) wd_fl2_ok rfl (List.forall_mem_cons.mpr ⟨kh_563_ok, (List.forall_mem_cons.mpr ⟨kh_564_ok, (List.forall_mem_cons.mpr ⟨kh_571_ok, (List.forall_mem_cons.mpr ⟨kh_leads_l2, (List.forall_mem_cons.mpr ⟨kh_290_l2, (List.forall_mem_cons.mpr ⟨kh_572_ok, (List.forall_mem_cons.mpr ⟨kh_388_l2, (List.forall_mem_cons.mpr ⟨kh_389_l2, (List.forall_mem_cons.mpr ⟨kh_390_l2, (List.forall_mem_cons.mpr ⟨kh_565_ok, (List.forall_mem_cons.mpr ⟨kh_573_ok, (List.forall_mem_cons.mpr ⟨kh_393_l2, (List.forall_mem_cons.mpr ⟨kh_395_l2, (List.forall_mem_cons.mpr ⟨kh_569_ok, (List.forall_mem_cons.mpr ⟨kh_574_ok, (List.forall_mem_nil _)⟩)⟩)⟩)⟩)⟩)⟩)⟩)⟩)⟩)⟩)⟩)⟩)⟩)⟩)⟩) (by decide +kernel)
/- UtilityWorksModel wShare -/
def kh_585 : ct_T := (476, [(2, 805, 805, 0), (0, 0, 10, 1)], [], [], [(0, (0, 0, 0, 0), [(2, 805, 805, 0), (0, 0, 10, 1)], [], ([], []))], [((805, 805), (48, 48, 0)), ((834, 834), (0, 10, 1)), ((835, 835), (0, 10, 1)), ((836, 836), (0, 10, 1)), ((837, 837), (0, 10, 1)), ((843, 843), (0, 1, 1)), ((844, 844), (0, 9, 1)), ((845, 845), (0, 10, 1))], 4, 88, 0)
theorem kh_585_ok : ct_ok wd_fl2 kh_585 := ct_of (ff := wd_ff2) (y := (⟨"UtilityWorksModel", "wShare", "(I)V"⟩, prog_14_method_130_code, 4, none, 12, 1, 1, 34197, 34196, 11015, 21014)) (Cs := [kh_563, kh_564, kh_571, kh_leads, kh_290, kh_572, kh_388, kh_389, kh_390, kh_565, kh_573, kh_393, kh_395, kh_569, kh_574]) (an := [(47, 0, ([((2, 805, 805, 0), none), ((0, 0, 10, 1), none), ((0, 0, 17, 1), none)], [(0, 0), (1, 1), (2, 2)], [], [], [], [], [], [], none), [(0, 0, 99953), (1, 2, 17), (0, 0, 99953)]), (97, 0, ([((2, 805, 805, 0), none), ((0, 0, 10, 1), none), ((0, 0, 17, 1), none)], [(0, 0), (1, 1), (2, 2)], [], [], [], [], [], [], none), [(0, 0, 99903), (1, 2, 17), (0, 0, 99903)]), (155, 0, ([((2, 805, 805, 0), none), ((0, 0, 10, 1), none), ((0, 0, 2, 1), none)], [(0, 0), (1, 1), (2, 2)], [], [], [], [], [], [], none), [(0, 0, 99845), (1, 2, 2), (0, 0, 99845)]), (220, 0, ([((2, 805, 805, 0), none), ((0, 0, 10, 1), none), ((0, 0, 1, 1), none)], [(0, 0), (1, 1), (2, 2)], [], [], [], [], [], [], none), [(0, 0, 99845), (1, 2, 2), (0, 0, 99780)]), (228, 0, ([((2, 805, 805, 0), none), ((0, 0, 10, 1), none), ((0, 0, 10, 1), none)], [(0, 0), (1, 1), (2, 2)], [], [], [], [], [], [], none), [(0, 0, 99772), (1, 2, 10), (0, 0, 99772)]), (310, 0, ([((2, 805, 805, 0), none), ((0, 0, 10, 1), none), ((0, 0, 9, 1), none), ((0, 0, 9, 1), none)], [(0, 0), (1, 1), (2, 2), (3, 3)], [], [], [], [], [], [], none), [(0, 0, 99772), (1, 2, 10), (0, 0, 99690)])]) (ss := []) (K := 3) (fuel := 4000) wd_fl2_ok rfl (List.forall_mem_cons.mpr ⟨kh_563_ok, (List.forall_mem_cons.mpr ⟨kh_564_ok, (List.forall_mem_cons.mpr ⟨kh_571_ok, (List.forall_mem_cons.mpr ⟨kh_leads_l2, (List.forall_mem_cons.mpr ⟨kh_290_l2, (List.forall_mem_cons.mpr ⟨kh_572_ok, (List.forall_mem_cons.mpr ⟨kh_388_l2, (List.forall_mem_cons.mpr ⟨kh_389_l2, (List.forall_mem_cons.mpr ⟨kh_390_l2, (List.forall_mem_cons.mpr ⟨kh_565_ok, (List.forall_mem_cons.mpr ⟨kh_573_ok, (List.forall_mem_cons.mpr ⟨kh_393_l2, (List.forall_mem_cons.mpr ⟨kh_395_l2, (List.forall_mem_cons.mpr ⟨kh_569_ok, (List.forall_mem_cons.mpr ⟨kh_574_ok, (List.forall_mem_nil _)⟩)⟩)⟩)⟩)⟩)⟩)⟩)⟩)⟩)⟩)⟩)⟩)⟩)⟩)⟩) (by decide +kernel)
/- UtilityWorksModel wShare -/
def kh_586 : ct_T := (476, [(2, 805, 805, 0), (0, 0, 11, 1)], [], [], [(0, (0, 0, 0, 0), [(2, 805, 805, 0), (0, 0, 11, 1)], [], ([], []))], [((805, 805), (48, 48, 0)), ((834, 834), (0, 11, 1)), ((835, 835), (0, 11, 1)), ((836, 836), (0, 11, 1)), ((837, 837), (0, 11, 1)), ((843, 843), (0, 1, 1)), ((844, 844), (0, 9, 1)), ((845, 845), (0, 11, 1))], 4, 88, 0)
theorem kh_586_ok : ct_ok wd_fl2 kh_586 := ct_of (ff := wd_ff2) (y := (⟨"UtilityWorksModel", "wShare", "(I)V"⟩, prog_14_method_130_code, 4, none, 12, 1, 1, 34197, 34196, 11015, 21014)) (Cs := [kh_563, kh_564, kh_571, kh_leads, kh_290, kh_572, kh_388, kh_389, kh_390, kh_565, kh_573, kh_393, kh_395, kh_569, kh_574]) (an := [(47, 0, ([((2, 805, 805, 0), none), ((0, 0, 11, 1), none), ((0, 0, 17, 1), none)], [(0, 0), (1, 1), (2, 2)], [], [], [], [], [], [], none), [(0, 0, 99953), (1, 2, 17), (0, 0, 99953)]), (97, 0, ([((2, 805, 805, 0), none), ((0, 0, 11, 1), none), ((0, 0, 17, 1), none)], [(0, 0), (1, 1), (2, 2)], [], [], [], [], [], [], none), [(0, 0, 99903), (1, 2, 17), (0, 0, 99903)]), (155, 0, ([((2, 805, 805, 0), none), ((0, 0, 11, 1), none), ((0, 0, 2, 1), none)], [(0, 0), (1, 1), (2, 2)], [], [], [], [], [], [], none), [(0, 0, 99845), (1, 2, 2), (0, 0, 99845)]), (220, 0, ([((2, 805, 805, 0), none), ((0, 0, 11, 1), none), ((0, 0, 1, 1), none)], [(0, 0), (1, 1), (2, 2)], [], [], [], [], [], [], none), [(0, 0, 99845), (1, 2, 2), (0, 0, 99780)]), (228, 0, ([((2, 805, 805, 0), none), ((0, 0, 11, 1), none), ((0, 0, 10, 1), none)], [(0, 0), (1, 1), (2, 2)], [], [], [], [], [], [], none), [(0, 0, 99772), (1, 2, 10), (0, 0, 99772)]), (310, 0, ([((2, 805, 805, 0), none), ((0, 0, 11, 1), none), ((0, 0, 9, 1), none), ((0, 0, 9, 1), none)], [(0, 0), (1, 1), (2, 2), (3, 3)], [], [], [], [], [], [], none), [(0, 0, 99772), (1, 2, 10), (0, 0, 99690)])]) (ss := []) (K := 3) (fuel := 4000) wd_fl2_ok rfl (List.forall_mem_cons.mpr ⟨kh_563_ok, (List.forall_mem_cons.mpr ⟨kh_564_ok, (List.forall_mem_cons.mpr ⟨kh_571_ok, (List.forall_mem_cons.mpr ⟨kh_leads_l2, (List.forall_mem_cons.mpr ⟨kh_290_l2, (List.forall_mem_cons.mpr ⟨kh_572_ok, (List.forall_mem_cons.mpr ⟨kh_388_l2, (List.forall_mem_cons.mpr ⟨kh_389_l2, (List.forall_mem_cons.mpr ⟨kh_390_l2, (List.forall_mem_cons.mpr ⟨kh_565_ok, (List.forall_mem_cons.mpr ⟨kh_573_ok, (List.forall_mem_cons.mpr ⟨kh_393_l2, (List.forall_mem_cons.mpr ⟨kh_395_l2, (List.forall_mem_cons.mpr ⟨kh_569_ok, (List.forall_mem_cons.mpr ⟨kh_574_ok, (List.forall_mem_nil _)⟩)⟩)⟩)⟩)⟩)⟩)⟩)⟩)⟩)⟩)⟩)⟩)⟩)⟩)⟩) (by decide +kernel)
abbrev kh_waterDeal_y : mt_T := (⟨"UtilityWorksModel", "waterDeal", "()V"⟩, prog_14_method_131_code, 2, none, 12, 1, 0, 34133, 34132, 10015, 21014)
def kh_waterDeal : ct_T := (460, [(2, 805, 805, 0)], [], [], [(0, (0, 0, 0, 0), [(2, 805, 805, 0)], [], ([], []))], [((805, 805), (46, 46, 0)), ((805, 805), (47, 47, 0)), ((805, 805), (48, 48, 0)), ((827, 827), (0, 2, 1)), ((827, 827), (3, 6, 1)), ((828, 828), (0, 2, 1)), ((828, 828), (3, 6, 1)), ((829, 829), (0, 6, 1)), ((830, 830), (0, 6, 1)), ((831, 831), (0, 11, 1)), ((832, 832), (0, 11, 1)), ((833, 833), (0, 11, 1)), ((834, 834), (0, 11, 1)), ((835, 835), (0, 11, 1)), ((836, 836), (0, 11, 1)), ((837, 837), (0, 11, 1)), ((838, 838), (0, 11, 1)), ((839, 839), (0, 33, 1)), ((840, 840), (0, 11, 1)), ((841, 841), (0, 10, 1)), ((843, 843), (0, 1, 1)), ((844, 844), (0, 9, 1)), ((845, 845), (0, 11, 1)), ((858, 858), (0, 9, 1))], 8, 188, 0)
def kh_waterDeal_a14 : an_T := (14, 0, ([((2, 805, 805, 0), none), ((0, 0, 12, 1), none)], [(0, 0), (1, 1)], [], [], [], [], [], [], none), [])
def kh_waterDeal_a45 : an_T := (45, 0, ([((2, 805, 805, 0), none), ((0, (-2147483648), 2147483647, 1), none)], [(0, 0), (1, 1)], [], [], [], [], [], [], none), [])
def kh_waterDeal_a56 : an_T := (56, 0, ([((2, 805, 805, 0), none), ((0, (-2147483648), 2147483647, 1), none)], [(0, 0), (1, 1)], [0], [], [], [], [], [], none), [])
def kh_waterDeal_a59 : an_T := (59, 0, ([((2, 805, 805, 0), none), ((0, (-2147483648), 2147483647, 1), none), ((0, (-2147483648), 2147483647, 1), none)], [(0, 0), (1, 1)], [2], [], [], [], [], [], none), [])
def kh_waterDeal_a78 : an_T := (78, 0, ([((2, 805, 805, 0), none), ((0, 0, 12, 1), none)], [(0, 0), (1, 1)], [], [], [], [], [], [], none), [])
def kh_waterDeal_a99 : an_T := (99, 0, ([((2, 805, 805, 0), none), ((0, 0, 4, 1), none)], [(0, 0), (1, 1)], [], [], [], [], [], [], none), [])
def kh_waterDeal_a172 : an_T := (172, 0, ([((2, 805, 805, 0), none), ((0, (-2147483648), 2147483647, 1), none)], [(0, 0), (1, 1)], [], [], [], [], [], [], none), [])
def kh_waterDeal_a182 : an_T := (182, 0, ([((2, 805, 805, 0), none), ((0, (-2147483648), 2147483647, 1), none)], [(0, 0), (1, 1)], [0], [], [], [], [], [], none), [])
def kh_waterDeal_a185 : an_T := (185, 0, ([((2, 805, 805, 0), none), ((0, (-2147483648), 2147483647, 1), none), ((0, (-2147483648), 2147483647, 1), none)], [(0, 0), (1, 1)], [2], [], [], [], [], [], none), [])
def kh_waterDeal_a208 : an_T := (208, 0, ([((2, 805, 805, 0), none), ((0, 0, 2, 1), none)], [(0, 0), (1, 1)], [], [], [], [], [], [], none), [])
def kh_waterDeal_a228 : an_T := (228, 0, ([((2, 805, 805, 0), none), ((0, 0, 12, 1), none)], [(0, 0), (1, 1)], [], [], [], [], [], [], none), [])
def kh_waterDeal_b0_0 : sg_T := (14, 0, ([((2, 805, 805, 0), none), ((0, 0, 0, 0), none)], [(1, 1), (0, 0)], [], [], [], [], [], [], none))
def kh_waterDeal_b14_0 : sg_T := (45, 0, ([((2, 805, 805, 0), none), ((0, 12, 12, 1), none), ((0, 12, 12, 0), none)], [(0, 0), (1, 1)], [], [], [], [(200000, 2, 1)], [], [], some []))
def kh_waterDeal_b14_1 : sg_T := (14, 0, ([((2, 805, 805, 0), none), ((0, 0, 11, 1), none), ((0, 12, 12, 0), none), ((2, 832, 832, 1), none), ((2, 831, 831, 1), none), ((0, (-2147483648), 2147483647, 1), none), ((2, 833, 833, 1), none), ((0, 0, 0, 0), none), ((0, 1, 12, 1), some (1, 1))], [(1, 8), (0, 0)], [], [(6, 1, 7), (3, 1, 5), (4, 1, 5)], [], [(800005, 4, 1), (100000, 1, 2)], [], [], some [(6, 1, 7), (3, 1, 5)]))
def kh_waterDeal_b45_0 : sg_T := (78, 0, ([((2, 805, 805, 0), none), ((0, (-2147483648), 2147483647, 1), none), ((0, 0, 0, 0), none), ((0, 6, 6, 0), none), ((0, 0, 0, 0), none), ((0, 0, 0, 0), none)], [(1, 5), (0, 0)], [], [], [], [], [], [], none))
def kh_waterDeal_b45_1 : sg_T := (56, 0, ([((2, 805, 805, 0), none), ((0, (-2147483648), 2147483647, 1), none), ((0, 0, 0, 0), none), ((0, 6, 6, 0), none), ((0, 1, 1, 0), none)], [(0, 0), (1, 1)], [0], [], [(4, 0)], [], [], [504], none))
def kh_waterDeal_b56_0 : sg_T := (59, 0, ([((2, 805, 805, 0), none), ((0, (-2147483648), 2147483647, 1), none), ((0, (-2147483648), 2147483647, 1), none)], [(0, 0), (1, 1)], [2], [], [], [], [], [], none))
def kh_waterDeal_b59_0 : sg_T := (45, 0, ([((2, 805, 805, 0), none), ((0, (-2147483648), 2147483647, 1), none), ((0, (-2147483648), 2147483647, 1), none), ((2, 833, 833, 1), none), ((0, 47, 47, 0), none), ((0, 0, 11, 1), none), ((0, (-2147483648), 2147483647, 1), none), ((0, (-2147483648), 2147483647, 1), none)], [(1, 2), (0, 0)], [], [(3, 5, 7), (0, 4, 5)], [], [(800006, 3, 5), (800005, 0, 4)], [], [], some [(3, 5, 7)]))
def kh_waterDeal_b78_0 : sg_T := (99, 0, ([((2, 805, 805, 0), none), ((0, 12, 12, 1), none), ((0, 12, 12, 0), none), ((0, 0, 0, 0), none)], [(1, 3), (0, 0)], [], [], [], [(200000, 2, 1)], [], [], some []))
def kh_waterDeal_b78_1 : sg_T := (78, 0, ([((2, 805, 805, 0), none), ((0, 0, 11, 1), none), ((0, 12, 12, 0), none), ((2, 832, 832, 1), none), ((0, 0, 0, 0), none), ((0, 1, 12, 1), some (1, 1))], [(1, 5), (0, 0)], [], [(3, 1, 4)], [], [(100000, 1, 2)], [], [], some [(3, 1, 4)]))
def kh_waterDeal_b99_0 : sg_T := (172, 0, ([((2, 805, 805, 0), none), ((0, 1, 4, 1), none), ((2, 806, 806, 1), none), ((0, 1013, 1013, 0), none), ((0, 1, 4, 1), none)], [(0, 0), (1, 1)], [], [(2, 3, 4)], [], [(200000, 4, 1), (800004, 2, 3)], [], [], some []))
def kh_waterDeal_b99_1 : sg_T := (99, 0, ([((2, 805, 805, 0), none), ((0, 0, 3, 1), none), ((2, 806, 806, 1), none), ((0, 1013, 1013, 0), none), ((0, 1, 4, 1), none), ((2, 832, 832, 1), none), ((2, 806, 806, 1), none), ((0, 1014, 1014, 0), none), ((0, 4, 4, 0), none), ((0, 0, 12, 4), none), ((0, 1014, 1026, 4), none), ((0, 0, 11, 1), none), ((2, 806, 806, 1), none), ((0, 1014, 1014, 0), none), ((0, 4, 4, 0), none), ((0, 0, 12, 4), none), ((0, 1014, 1026, 4), none), ((0, 1, 1, 0), none), ((0, 1015, 1027, 4), some (16, 1)), ((0, (-2147483648), 2147483647, 1), none), ((2, 806, 806, 1), none), ((0, 1014, 1014, 0), none), ((0, 4, 4, 0), none), ((0, 0, 12, 4), none), ((0, 1014, 1026, 4), none), ((0, 2, 2, 0), none), ((0, 1016, 1028, 4), some (24, 2)), ((0, (-2147483648), 2147483647, 1), none), ((0, (-2147483648), 2147483647, 1), none), ((2, 830, 830, 1), none), ((0, 3, 3, 0), none), ((0, 3, 6, 1), none), ((0, (-2147483648), 2147483647, 1), none), ((0, (-2147483648), 2147483647, 1), none), ((0, 1, 4, 1), some (1, 1))], [(1, 34), (0, 0)], [], [(5, 11, 33), (29, 31, 32), (20, 26, 27), (12, 18, 19), (6, 10, 11), (2, 3, 4)], [], [(800032, 29, 31), (500031, 30, 1), (800027, 20, 26), (500026, 24, 25), (500024, 21, 23), (700023, 22, 1), (800019, 12, 18), (500018, 16, 17), (500016, 13, 15), (700015, 14, 1), (800011, 6, 10), (500010, 7, 9), (700009, 8, 1), (100000, 1, 4), (800004, 2, 3)], [], [], some [(5, 11, 33)]))
def kh_waterDeal_b172_0 : sg_T := (208, 0, ([((2, 805, 805, 0), none), ((0, (-2147483648), 2147483647, 1), none), ((0, 0, 0, 0), none), ((0, 2, 2, 0), none), ((0, 0, 0, 0), none), ((0, 0, 0, 0), none)], [(1, 5), (0, 0)], [], [], [], [], [], [], none))
def kh_waterDeal_b172_1 : sg_T := (182, 0, ([((2, 805, 805, 0), none), ((0, (-2147483648), 2147483647, 1), none), ((0, 0, 0, 0), none), ((0, 2, 2, 0), none), ((0, 1, 1, 0), none)], [(0, 0), (1, 1)], [0], [], [(4, 0)], [], [], [504], none))
def kh_waterDeal_b182_0 : sg_T := (185, 0, ([((2, 805, 805, 0), none), ((0, (-2147483648), 2147483647, 1), none), ((0, (-2147483648), 2147483647, 1), none)], [(0, 0), (1, 1)], [2], [], [], [], [], [], none))
def kh_waterDeal_b185_0 : sg_T := (172, 0, ([((2, 805, 805, 0), none), ((0, (-2147483648), 2147483647, 1), none), ((0, (-2147483648), 2147483647, 1), none), ((2, 838, 838, 1), none), ((0, 47, 47, 0), none), ((0, 0, 11, 1), none), ((0, (-2147483648), 2147483647, 1), none), ((0, (-2147483648), 2147483647, 1), none)], [(1, 2), (0, 0)], [], [(3, 5, 7), (0, 4, 5)], [], [(800006, 3, 5), (800005, 0, 4)], [], [], some [(3, 5, 7)]))
def kh_waterDeal_b208_0 : sg_T := (228, 0, ([((2, 805, 805, 0), none), ((0, 2, 2, 1), none), ((0, 2, 2, 0), none), ((0, 0, 0, 0), none)], [(1, 3), (0, 0)], [], [], [], [(200000, 2, 1)], [], [], some []))
def kh_waterDeal_b208_1 : sg_T := (208, 0, ([((2, 805, 805, 0), none), ((0, 0, 1, 1), none), ((0, 2, 2, 0), none), ((2, 843, 843, 1), none), ((0, 0, 0, 0), none), ((0, 1, 2, 1), some (1, 1))], [(1, 5), (0, 0)], [], [(3, 1, 4)], [], [(100000, 1, 2)], [], [], some [(3, 1, 4)]))
def kh_waterDeal_b228_0 : sg_T := (245, 0, ([((2, 805, 805, 0), none), ((0, 12, 12, 1), none), ((0, 12, 12, 0), none)], [(0, 0), (1, 1)], [], [], [], [(200000, 2, 1)], [], [], some []))
def kh_waterDeal_b228_1 : sg_T := (228, 0, ([((2, 805, 805, 0), none), ((0, 0, 11, 1), none), ((0, 12, 12, 0), none), ((0, 1, 12, 1), some (1, 1))], [(1, 3), (0, 0)], [], [], [], [(100000, 1, 2)], [], [], none))
def kh_waterDeal_I (l : Launch) (D : va_G) (tc : Nat → ClassId) (ad : Nat → Nat) (kd : Nat → Nat × Nat) (N : Nat) (sm : Nat → Nat) (xs : List av_X) (S : fw_S) (p : Program) (e : Env) (s : State) (m : MethodId) (args : Array Value) (below : List Frame) (meth : Method) (c : Code) (sz : Nat) (k : Nat) : Prop := (∀ (α : List av_X) (lv : List (Nat × Value)) (st : List Value) (S1 : fw_S), as_in ad sm wd_fl2 xs S kh_waterDeal.2.2.2.2.2.1 α kh_waterDeal_a14.2.2.1 lv st S1 → (True) → 2000000000000 + (12 - nv α 1).toNat < k → hd_W wd_fl2 kh_waterDeal kh_waterDeal_y l D tc ad kd N sm xs S p e s m args below meth c sz 14 lv st S1 0) ∧ (∀ (α : List av_X) (lv : List (Nat × Value)) (st : List Value) (S1 : fw_S), as_in ad sm wd_fl2 xs S kh_waterDeal.2.2.2.2.2.1 α kh_waterDeal_a45.2.2.1 lv st S1 → (True) → 1000000000000 + 10 * yS (S1.1 832) 12 + 9 < k → hd_W wd_fl2 kh_waterDeal kh_waterDeal_y l D tc ad kd N sm xs S p e s m args below meth c sz 45 lv st S1 0) ∧ (∀ (α : List av_X) (lv : List (Nat × Value)) (st : List Value) (S1 : fw_S), as_in ad sm wd_fl2 xs S kh_waterDeal.2.2.2.2.2.1 α kh_waterDeal_a56.2.2.1 lv st S1 → (wOK S1) → 1000000000000 + 10 * yS (S1.1 832) 12 + 8 < k → hd_W wd_fl2 kh_waterDeal kh_waterDeal_y l D tc ad kd N sm xs S p e s m args below meth c sz 56 lv st S1 0) ∧ (∀ (α : List av_X) (lv : List (Nat × Value)) (st : List Value) (S1 : fw_S), as_in ad sm wd_fl2 xs S kh_waterDeal.2.2.2.2.2.1 α kh_waterDeal_a59.2.2.1 lv st S1 → (True) → 1000000000000 + 10 * yS (S1.1 832) 12 + 15 < k → hd_W wd_fl2 kh_waterDeal kh_waterDeal_y l D tc ad kd N sm xs S p e s m args below meth c sz 59 lv st S1 0) ∧ (∀ (α : List av_X) (lv : List (Nat × Value)) (st : List Value) (S1 : fw_S), as_in ad sm wd_fl2 xs S kh_waterDeal.2.2.2.2.2.1 α kh_waterDeal_a78.2.2.1 lv st S1 → (True) → 900000000000 + (12 - nv α 1).toNat < k → hd_W wd_fl2 kh_waterDeal kh_waterDeal_y l D tc ad kd N sm xs S p e s m args below meth c sz 78 lv st S1 0) ∧ (∀ (α : List av_X) (lv : List (Nat × Value)) (st : List Value) (S1 : fw_S), as_in ad sm wd_fl2 xs S kh_waterDeal.2.2.2.2.2.1 α kh_waterDeal_a99.2.2.1 lv st S1 → (True) → 800000000000 + (5 - nv α 1).toNat < k → hd_W wd_fl2 kh_waterDeal kh_waterDeal_y l D tc ad kd N sm xs S p e s m args below meth c sz 99 lv st S1 0) ∧ (∀ (α : List av_X) (lv : List (Nat × Value)) (st : List Value) (S1 : fw_S), as_in ad sm wd_fl2 xs S kh_waterDeal.2.2.2.2.2.1 α kh_waterDeal_a172.2.2.1 lv st S1 → (True) → 100000000000 + 10 * yS (S1.1 832) 12 + 9 < k → hd_W wd_fl2 kh_waterDeal kh_waterDeal_y l D tc ad kd N sm xs S p e s m args below meth c sz 172 lv st S1 0) ∧ (∀ (α : List av_X) (lv : List (Nat × Value)) (st : List Value) (S1 : fw_S), as_in ad sm wd_fl2 xs S kh_waterDeal.2.2.2.2.2.1 α kh_waterDeal_a182.2.2.1 lv st S1 → (wOK S1) → 100000000000 + 10 * yS (S1.1 832) 12 + 8 < k → hd_W wd_fl2 kh_waterDeal kh_waterDeal_y l D tc ad kd N sm xs S p e s m args below meth c sz 182 lv st S1 0) ∧ (∀ (α : List av_X) (lv : List (Nat × Value)) (st : List Value) (S1 : fw_S), as_in ad sm wd_fl2 xs S kh_waterDeal.2.2.2.2.2.1 α kh_waterDeal_a185.2.2.1 lv st S1 → (True) → 100000000000 + 10 * yS (S1.1 832) 12 + 15 < k → hd_W wd_fl2 kh_waterDeal kh_waterDeal_y l D tc ad kd N sm xs S p e s m args below meth c sz 185 lv st S1 0) ∧ (∀ (α : List av_X) (lv : List (Nat × Value)) (st : List Value) (S1 : fw_S), as_in ad sm wd_fl2 xs S kh_waterDeal.2.2.2.2.2.1 α kh_waterDeal_a208.2.2.1 lv st S1 → (True) → 1000 + (2 - nv α 1).toNat < k → hd_W wd_fl2 kh_waterDeal kh_waterDeal_y l D tc ad kd N sm xs S p e s m args below meth c sz 208 lv st S1 0) ∧ (∀ (α : List av_X) (lv : List (Nat × Value)) (st : List Value) (S1 : fw_S), as_in ad sm wd_fl2 xs S kh_waterDeal.2.2.2.2.2.1 α kh_waterDeal_a228.2.2.1 lv st S1 → (True) → (12 - nv α 1).toNat < k → hd_W wd_fl2 kh_waterDeal kh_waterDeal_y l D tc ad kd N sm xs S p e s m args below meth c sz 228 lv st S1 0) ∧ True
set_option maxHeartbeats 16000000 in
set_option maxRecDepth 8000 in
theorem kh_waterDeal_h14 {l : Launch} {D : va_G} {tc : Nat → ClassId} {ad : Nat → Nat} {kd : Nat → Nat × Nat} {N : Nat} {sm : Nat → Nat} {xs : List av_X} {S : fw_S} {p : Program} {e : Env} {s : State} {m : MethodId} {args : Array Value} {below : List Frame} {meth : Method} {c : Code} {sz : Nat} {lvE : List (Nat × Value)} (G : hd_C wd_ff2 wd_fl2 kh_waterDeal [kh_559, kh_562, kh_570, kh_wFind, kh_ranks, kh_575, kh_576, kh_577, kh_578, kh_579, kh_580, kh_581, kh_582, kh_583, kh_584, kh_585, kh_586, kh_wSend] kh_waterDeal_y l D tc ad kd N sm xs p s m args meth c sz) (H0 : as_in ad sm wd_fl2 xs S kh_waterDeal.2.2.2.2.2.1 xs (hd_0 kh_waterDeal) lvE [] S) {k : Nat} (ih : kh_waterDeal_I l D tc ad kd N sm xs S p e s m args below meth c sz k) : (∀ (α : List av_X) (lv : List (Nat × Value)) (st : List Value) (S1 : fw_S), as_in ad sm wd_fl2 xs S kh_waterDeal.2.2.2.2.2.1 α kh_waterDeal_a14.2.2.1 lv st S1 → (True) → 2000000000000 + (12 - nv α 1).toNat < k + 1 → hd_W wd_fl2 kh_waterDeal kh_waterDeal_y l D tc ad kd N sm xs S p e s m args below meth c sz 14 lv st S1 0) := by
  have hx : xs.length = 1 := by rw [H0.2.1.1]; rfl
  intro α lv st S1 H hp hk
  obtain ⟨α1, hle, Hr⟩ := as_recM (pl := []) [((832, 832), (0, 11, 1)), ((833, 833), (0, 11, 1))] (by decide +kernel) H
  have hf := H.2.2.2.2.2.2.2.2.2.2.1
  have hl1 : α1.length = 2 := by rw [Hr.2.1.1]; rfl
  have hl0 : α.length = 2 := by rw [H.2.1.1]; rfl
  have hxa : al_le xs α1 := H.1.trans hle
  obtain ⟨g1, -, g3, g4, -⟩ := as_fx Hr
  have g0 : (805 ≤ nv α1 0 ∧ nv α1 0 ≤ 805) ∧ (0 ≤ nv α1 1 ∧ nv α1 1 ≤ 12) ∧ True := by
    refine ⟨by have h := (en_nv (i := 0) Hr.2.1 rfl).2; exact h, by have h := (en_nv (i := 1) Hr.2.1 rfl).2; exact h, trivial⟩
  have r0 : nv α1 0 = nv α 0 := nv_le hle (by omega)
  have r1 : nv α1 1 = nv α 1 := nv_le hle (by omega)
  refine hd_segM G (na := 2) (fuel := 600) (first := true) (Bs := [kh_waterDeal_b14_0, kh_waterDeal_b14_1]) (by decide +kernel) hl1 Hr ?_
  intro q hq β lv' st' S' H1
  simp only [List.mem_cons, List.not_mem_nil, or_false] at hq
  rcases hq with rfl | rfl
  · obtain ⟨f1, f2, f3, f4, f5⟩ := as_fx H1
    simp only [kh_waterDeal_b14_0, fx_env, fx_c, fx_ne, fx_hf, wl_S, Nat.zero_add, Nat.reduceAdd, Nat.reduceDiv, Nat.reduceMod, List.getElem?_cons_zero, List.getElem?_cons_succ, if_true, and_true, true_and] at f1 f2 f3 f4 f5
    have fe0 : nv β 0 = 805 := by omega
    have fe1 : nv β 1 = 12 := by omega
    have fe2 : nv β 2 = 12 := by omega
    try simp only [fe0, fe1, fe2, Int.reduceToNat] at f2 f3 f4 f5
    have s0 : nv β 0 = nv α1 0 := nv_le H1.1 (by omega)
    have s1 : nv β 1 = nv α1 1 := nv_le H1.1 (by omega)
    have c0 := f2
    obtain ⟨α', Ha, hm⟩ := hd_gpM (q := kh_waterDeal_a45) (n := 0) (by decide +kernel) hx H1 (by decide +kernel) hxa hf
    have hfr := H1.2.2.2.2.2.2.2.2.2.2.1
    have m0 : nv α' 0 = nv β 0 := hm 0 0 rfl
    have m1 : nv α' 1 = nv β 1 := hm 1 1 rfl
    subst S'
    have yb := yS_bd (f := S1.1 832) (n := 12)
    refine ih.2.1 _ _ _ _ Ha ?_ ?_
    · trivial
    · omega
  · obtain ⟨f1, f2, f3, f4, f5⟩ := as_fx H1
    simp only [kh_waterDeal_b14_1, fx_env, fx_c, fx_ne, fx_hf, wl_S, Nat.zero_add, Nat.reduceAdd, Nat.reduceDiv, Nat.reduceMod, List.getElem?_cons_zero, List.getElem?_cons_succ, if_true, and_true, true_and] at f1 f2 f3 f4 f5
    have fe0 : nv β 0 = 805 := by omega
    have fe2 : nv β 2 = 12 := by omega
    have fe3 : nv β 3 = 832 := by omega
    have fe4 : nv β 4 = 831 := by omega
    have fe6 : nv β 6 = 833 := by omega
    have fe7 : nv β 7 = 0 := by omega
    try simp only [fe0, fe2, fe3, fe4, fe6, fe7, Int.reduceToNat] at f2 f3 f4 f5
    have s0 : nv β 0 = nv α1 0 := nv_le H1.1 (by omega)
    have s1 : nv β 1 = nv α1 1 := nv_le H1.1 (by omega)
    obtain ⟨c0, c1⟩ := f2
    obtain ⟨α', Ha, hm⟩ := hd_gpM (q := kh_waterDeal_a14) (n := 0) (by decide +kernel) hx H1 (by decide +kernel) hxa hf
    have hfr := H1.2.2.2.2.2.2.2.2.2.2.1
    have m0 : nv α' 0 = nv β 0 := hm 0 0 rfl
    have m1 : nv α' 1 = nv β 8 := hm 1 8 rfl
    subst S'
    refine ih.1 _ _ _ _ Ha ?_ ?_
    · trivial
    · omega
set_option maxHeartbeats 16000000 in
set_option maxRecDepth 8000 in
theorem kh_waterDeal_h45 {l : Launch} {D : va_G} {tc : Nat → ClassId} {ad : Nat → Nat} {kd : Nat → Nat × Nat} {N : Nat} {sm : Nat → Nat} {xs : List av_X} {S : fw_S} {p : Program} {e : Env} {s : State} {m : MethodId} {args : Array Value} {below : List Frame} {meth : Method} {c : Code} {sz : Nat} {lvE : List (Nat × Value)} (G : hd_C wd_ff2 wd_fl2 kh_waterDeal [kh_559, kh_562, kh_570, kh_wFind, kh_ranks, kh_575, kh_576, kh_577, kh_578, kh_579, kh_580, kh_581, kh_582, kh_583, kh_584, kh_585, kh_586, kh_wSend] kh_waterDeal_y l D tc ad kd N sm xs p s m args meth c sz) (H0 : as_in ad sm wd_fl2 xs S kh_waterDeal.2.2.2.2.2.1 xs (hd_0 kh_waterDeal) lvE [] S) {k : Nat} (ih : kh_waterDeal_I l D tc ad kd N sm xs S p e s m args below meth c sz k) : (∀ (α : List av_X) (lv : List (Nat × Value)) (st : List Value) (S1 : fw_S), as_in ad sm wd_fl2 xs S kh_waterDeal.2.2.2.2.2.1 α kh_waterDeal_a45.2.2.1 lv st S1 → (True) → 1000000000000 + 10 * yS (S1.1 832) 12 + 9 < k + 1 → hd_W wd_fl2 kh_waterDeal kh_waterDeal_y l D tc ad kd N sm xs S p e s m args below meth c sz 45 lv st S1 0) := by
  have hx : xs.length = 1 := by rw [H0.2.1.1]; rfl
  intro α lv st S1 H hp hk
  obtain ⟨α1, hle, Hr⟩ := as_recM (pl := []) [((805, 805), (46, 46, 0)), ((805, 805), (47, 47, 0)), ((840, 840), (0, 11, 1))] (by decide +kernel) H
  have hf := H.2.2.2.2.2.2.2.2.2.2.1
  have hl1 : α1.length = 2 := by rw [Hr.2.1.1]; rfl
  have hl0 : α.length = 2 := by rw [H.2.1.1]; rfl
  have hxa : al_le xs α1 := H.1.trans hle
  obtain ⟨g1, -, g3, g4, -⟩ := as_fx Hr
  have g0 : (805 ≤ nv α1 0 ∧ nv α1 0 ≤ 805) ∧ ((-2147483648) ≤ nv α1 1 ∧ nv α1 1 ≤ 2147483647) ∧ True := by
    refine ⟨by have h := (en_nv (i := 0) Hr.2.1 rfl).2; exact h, by have h := (en_nv (i := 1) Hr.2.1 rfl).2; exact h, trivial⟩
  have r0 : nv α1 0 = nv α 0 := nv_le hle (by omega)
  have r1 : nv α1 1 = nv α 1 := nv_le hle (by omega)
  refine hd_segM G (na := 2) (fuel := 600) (first := true) (Bs := [kh_waterDeal_b45_0, kh_waterDeal_b45_1]) (by decide +kernel) hl1 Hr ?_
  intro q hq β lv' st' S' H1
  simp only [List.mem_cons, List.not_mem_nil, or_false] at hq
  rcases hq with rfl | rfl
  · obtain ⟨f1, f2, f3, f4, f5⟩ := as_fx H1
    simp only [kh_waterDeal_b45_0, fx_env, fx_c, fx_ne, fx_hf, wl_S, Nat.zero_add, Nat.reduceAdd, Nat.reduceDiv, Nat.reduceMod, List.getElem?_cons_zero, List.getElem?_cons_succ, if_true, and_true, true_and] at f1 f2 f3 f4 f5
    have fe0 : nv β 0 = 805 := by omega
    have fe2 : nv β 2 = 0 := by omega
    have fe3 : nv β 3 = 6 := by omega
    have fe4 : nv β 4 = 0 := by omega
    have fe5 : nv β 5 = 0 := by omega
    try simp only [fe0, fe2, fe3, fe4, fe5, Int.reduceToNat] at f2 f3 f4 f5
    have s0 : nv β 0 = nv α1 0 := nv_le H1.1 (by omega)
    have s1 : nv β 1 = nv α1 1 := nv_le H1.1 (by omega)
    obtain ⟨α', Ha, hm⟩ := hd_gpM (q := kh_waterDeal_a78) (n := 0) (by decide +kernel) hx H1 (by decide +kernel) hxa hf
    have hfr := H1.2.2.2.2.2.2.2.2.2.2.1
    have m0 : nv α' 0 = nv β 0 := hm 0 0 rfl
    have m1 : nv α' 1 = nv β 5 := hm 1 5 rfl
    have yb := yS_bd (f := S1.1 832) (n := 12)
    refine ih.2.2.2.2.1 _ _ _ _ Ha ?_ ?_
    · trivial
    · omega
  · obtain ⟨f1, f2, f3, f4, f5⟩ := as_fx H1
    simp only [kh_waterDeal_b45_1, fx_env, fx_c, fx_ne, fx_hf, wl_S, Nat.zero_add, Nat.reduceAdd, Nat.reduceDiv, Nat.reduceMod, List.getElem?_cons_zero, List.getElem?_cons_succ, if_true, and_true, true_and] at f1 f2 f3 f4 f5
    have fe0 : nv β 0 = 805 := by omega
    have fe2 : nv β 2 = 0 := by omega
    have fe3 : nv β 3 = 6 := by omega
    have fe4 : nv β 4 = 1 := by omega
    try simp only [fe0, fe2, fe3, fe4, Int.reduceToNat] at f2 f3 f4 f5
    have s0 : nv β 0 = nv α1 0 := nv_le H1.1 (by omega)
    have s1 : nv β 1 = nv α1 1 := nv_le H1.1 (by omega)
    obtain ⟨α', Ha, hm⟩ := hd_gpM (q := kh_waterDeal_a56) (n := 0) (by decide +kernel) hx H1 (by decide +kernel) hxa hf
    have hfr := H1.2.2.2.2.2.2.2.2.2.2.1
    have m0 : nv α' 0 = nv β 0 := hm 0 0 rfl
    have m1 : nv α' 1 = nv β 1 := hm 1 1 rfl
    have hq : wOK S' := by
      have h := H1.2.2.2.2.2.2.2.2.1 504 (by decide +kernel)
      rw [wd_fl2, if_neg (by decide)] at h
      exact h
    have e2 := fr_row hfr 832 (by decide +kernel)
    refine ih.2.2.1 _ _ _ _ Ha ?_ ?_
    · exact hq
    · rw [e2]; omega
set_option maxHeartbeats 16000000 in
set_option maxRecDepth 8000 in
theorem kh_waterDeal_h56 {l : Launch} {D : va_G} {tc : Nat → ClassId} {ad : Nat → Nat} {kd : Nat → Nat × Nat} {N : Nat} {sm : Nat → Nat} {xs : List av_X} {S : fw_S} {p : Program} {e : Env} {s : State} {m : MethodId} {args : Array Value} {below : List Frame} {meth : Method} {c : Code} {sz : Nat} {lvE : List (Nat × Value)} (G : hd_C wd_ff2 wd_fl2 kh_waterDeal [kh_559, kh_562, kh_570, kh_wFind, kh_ranks, kh_575, kh_576, kh_577, kh_578, kh_579, kh_580, kh_581, kh_582, kh_583, kh_584, kh_585, kh_586, kh_wSend] kh_waterDeal_y l D tc ad kd N sm xs p s m args meth c sz) (H0 : as_in ad sm wd_fl2 xs S kh_waterDeal.2.2.2.2.2.1 xs (hd_0 kh_waterDeal) lvE [] S) {k : Nat} (ih : kh_waterDeal_I l D tc ad kd N sm xs S p e s m args below meth c sz k) : (∀ (α : List av_X) (lv : List (Nat × Value)) (st : List Value) (S1 : fw_S), as_in ad sm wd_fl2 xs S kh_waterDeal.2.2.2.2.2.1 α kh_waterDeal_a56.2.2.1 lv st S1 → (wOK S1) → 1000000000000 + 10 * yS (S1.1 832) 12 + 8 < k + 1 → hd_W wd_fl2 kh_waterDeal kh_waterDeal_y l D tc ad kd N sm xs S p e s m args below meth c sz 56 lv st S1 0) := by
  have hx : xs.length = 1 := by rw [H0.2.1.1]; rfl
  intro α lv st S1 H hp hk
  replace H := as_fl_in (f := [504]) H (fun g hg => by
    rcases List.mem_singleton.mp hg with rfl
    rw [wd_fl2, if_neg (by decide)]
    exact hp)
  obtain ⟨α1, hle, Hr⟩ := as_recM (pl := []) [((829, 829), (0, 6, 1)), ((830, 830), (0, 6, 1)), ((832, 832), (0, 11, 1)), ((839, 839), (0, 33, 1)), ((840, 840), (0, 11, 1)), ((841, 841), (0, 10, 1))] (by decide +kernel) H
  have hf := H.2.2.2.2.2.2.2.2.2.2.1
  have hl1 : α1.length = 2 := by rw [Hr.2.1.1]; rfl
  have hl0 : α.length = 2 := by rw [H.2.1.1]; rfl
  have hxa : al_le xs α1 := H.1.trans hle
  obtain ⟨g1, -, g3, g4, -⟩ := as_fx Hr
  have g0 : (805 ≤ nv α1 0 ∧ nv α1 0 ≤ 805) ∧ ((-2147483648) ≤ nv α1 1 ∧ nv α1 1 ≤ 2147483647) ∧ True := by
    refine ⟨by have h := (en_nv (i := 0) Hr.2.1 rfl).2; exact h, by have h := (en_nv (i := 1) Hr.2.1 rfl).2; exact h, trivial⟩
  have r0 : nv α1 0 = nv α 0 := nv_le hle (by omega)
  have r1 : nv α1 1 = nv α 1 := nv_le hle (by omega)
  refine hd_callR (Rr := R_wSend) (Rs := [kh_wSend]) (idx := 576) G (List.forall_mem_cons.mpr ⟨kh_wSend_okR, List.forall_mem_nil _⟩) (na := 2) (Bs := [kh_waterDeal_b56_0]) (by decide +kernel) (by decide +kernel) hl1 Hr ?_
  intro q hq β lv' st' S' H1 hRx
  simp only [List.mem_cons, List.not_mem_nil, or_false] at hq
  rcases hq with rfl
  · obtain ⟨f1, f2, f3, f4, f5⟩ := as_fx H1
    simp only [kh_waterDeal_b56_0, fx_env, fx_c, fx_ne, fx_hf, wl_S, Nat.zero_add, Nat.reduceAdd, Nat.reduceDiv, Nat.reduceMod, List.getElem?_cons_zero, List.getElem?_cons_succ, if_true, and_true, true_and] at f1 f2 f3 f4 f5
    have fe0 : nv β 0 = 805 := by omega
    try simp only [fe0, Int.reduceToNat] at f2 f3 f4 f5
    have s0 : nv β 0 = nv α1 0 := nv_le H1.1 (by omega)
    have s1 : nv β 1 = nv α1 1 := nv_le H1.1 (by omega)
    obtain ⟨α', Ha, hm⟩ := hd_gpM (q := kh_waterDeal_a59) (n := 0) (by decide +kernel) hx H1 (by decide +kernel) hxa hf
    have hfr := H1.2.2.2.2.2.2.2.2.2.2.1
    have m0 : nv α' 0 = nv β 0 := hm 0 0 rfl
    have m1 : nv α' 1 = nv β 1 := hm 1 1 rfl
    have m2 : nv α' 2 = nv β 2 := hm 2 2 rfl
    obtain ⟨Cc, -, ys, rr, -, hR, -⟩ := hRx
    have hR' : yS (S'.1 832) 12 + 1 ≤ yS (S1.1 832) 12 := hR
    refine ih.2.2.2.1 _ _ _ _ Ha ?_ ?_
    · trivial
    · omega
set_option maxHeartbeats 16000000 in
set_option maxRecDepth 8000 in
theorem kh_waterDeal_h59 {l : Launch} {D : va_G} {tc : Nat → ClassId} {ad : Nat → Nat} {kd : Nat → Nat × Nat} {N : Nat} {sm : Nat → Nat} {xs : List av_X} {S : fw_S} {p : Program} {e : Env} {s : State} {m : MethodId} {args : Array Value} {below : List Frame} {meth : Method} {c : Code} {sz : Nat} {lvE : List (Nat × Value)} (G : hd_C wd_ff2 wd_fl2 kh_waterDeal [kh_559, kh_562, kh_570, kh_wFind, kh_ranks, kh_575, kh_576, kh_577, kh_578, kh_579, kh_580, kh_581, kh_582, kh_583, kh_584, kh_585, kh_586, kh_wSend] kh_waterDeal_y l D tc ad kd N sm xs p s m args meth c sz) (H0 : as_in ad sm wd_fl2 xs S kh_waterDeal.2.2.2.2.2.1 xs (hd_0 kh_waterDeal) lvE [] S) {k : Nat} (ih : kh_waterDeal_I l D tc ad kd N sm xs S p e s m args below meth c sz k) : (∀ (α : List av_X) (lv : List (Nat × Value)) (st : List Value) (S1 : fw_S), as_in ad sm wd_fl2 xs S kh_waterDeal.2.2.2.2.2.1 α kh_waterDeal_a59.2.2.1 lv st S1 → (True) → 1000000000000 + 10 * yS (S1.1 832) 12 + 15 < k + 1 → hd_W wd_fl2 kh_waterDeal kh_waterDeal_y l D tc ad kd N sm xs S p e s m args below meth c sz 59 lv st S1 0) := by
  have hx : xs.length = 1 := by rw [H0.2.1.1]; rfl
  intro α lv st S1 H hp hk
  obtain ⟨α1, hle, Hr⟩ := as_recM (pl := []) [((833, 833), (0, 11, 1))] (by decide +kernel) H
  have hf := H.2.2.2.2.2.2.2.2.2.2.1
  have hl1 : α1.length = 3 := by rw [Hr.2.1.1]; rfl
  have hl0 : α.length = 3 := by rw [H.2.1.1]; rfl
  have hxa : al_le xs α1 := H.1.trans hle
  obtain ⟨g1, -, g3, g4, -⟩ := as_fx Hr
  have g0 : (805 ≤ nv α1 0 ∧ nv α1 0 ≤ 805) ∧ ((-2147483648) ≤ nv α1 1 ∧ nv α1 1 ≤ 2147483647) ∧ ((-2147483648) ≤ nv α1 2 ∧ nv α1 2 ≤ 2147483647) ∧ True := by
    refine ⟨by have h := (en_nv (i := 0) Hr.2.1 rfl).2; exact h, by have h := (en_nv (i := 1) Hr.2.1 rfl).2; exact h, by have h := (en_nv (i := 2) Hr.2.1 rfl).2; exact h, trivial⟩
  have r0 : nv α1 0 = nv α 0 := nv_le hle (by omega)
  have r1 : nv α1 1 = nv α 1 := nv_le hle (by omega)
  have r2 : nv α1 2 = nv α 2 := nv_le hle (by omega)
  refine hd_segM G (na := 3) (fuel := 600) (first := true) (Bs := [kh_waterDeal_b59_0]) (by decide +kernel) hl1 Hr ?_
  intro q hq β lv' st' S' H1
  simp only [List.mem_cons, List.not_mem_nil, or_false] at hq
  rcases hq with rfl
  · obtain ⟨f1, f2, f3, f4, f5⟩ := as_fx H1
    simp only [kh_waterDeal_b59_0, fx_env, fx_c, fx_ne, fx_hf, wl_S, Nat.zero_add, Nat.reduceAdd, Nat.reduceDiv, Nat.reduceMod, List.getElem?_cons_zero, List.getElem?_cons_succ, if_true, and_true, true_and] at f1 f2 f3 f4 f5
    have fe0 : nv β 0 = 805 := by omega
    have fe3 : nv β 3 = 833 := by omega
    have fe4 : nv β 4 = 47 := by omega
    try simp only [fe0, fe3, fe4, Int.reduceToNat] at f2 f3 f4 f5
    have s0 : nv β 0 = nv α1 0 := nv_le H1.1 (by omega)
    have s1 : nv β 1 = nv α1 1 := nv_le H1.1 (by omega)
    have s2 : nv β 2 = nv α1 2 := nv_le H1.1 (by omega)
    obtain ⟨c0, c1⟩ := f2
    obtain ⟨α', Ha, hm⟩ := hd_gpM (q := kh_waterDeal_a45) (n := 0) (by decide +kernel) hx H1 (by decide +kernel) hxa hf
    have hfr := H1.2.2.2.2.2.2.2.2.2.2.1
    have m0 : nv α' 0 = nv β 0 := hm 0 0 rfl
    have m1 : nv α' 1 = nv β 2 := hm 1 2 rfl
    subst S'
    refine ih.2.1 _ _ _ _ Ha ?_ ?_
    · trivial
    · rw [show (fw_i S1 833 (nv β 5).toNat (Int32.ofInt (nv β 7))).1 832 = S1.1 832 from fw_i_ne (by decide)]; omega
set_option maxHeartbeats 16000000 in
set_option maxRecDepth 8000 in
theorem kh_waterDeal_h78 {l : Launch} {D : va_G} {tc : Nat → ClassId} {ad : Nat → Nat} {kd : Nat → Nat × Nat} {N : Nat} {sm : Nat → Nat} {xs : List av_X} {S : fw_S} {p : Program} {e : Env} {s : State} {m : MethodId} {args : Array Value} {below : List Frame} {meth : Method} {c : Code} {sz : Nat} {lvE : List (Nat × Value)} (G : hd_C wd_ff2 wd_fl2 kh_waterDeal [kh_559, kh_562, kh_570, kh_wFind, kh_ranks, kh_575, kh_576, kh_577, kh_578, kh_579, kh_580, kh_581, kh_582, kh_583, kh_584, kh_585, kh_586, kh_wSend] kh_waterDeal_y l D tc ad kd N sm xs p s m args meth c sz) (H0 : as_in ad sm wd_fl2 xs S kh_waterDeal.2.2.2.2.2.1 xs (hd_0 kh_waterDeal) lvE [] S) {k : Nat} (ih : kh_waterDeal_I l D tc ad kd N sm xs S p e s m args below meth c sz k) : (∀ (α : List av_X) (lv : List (Nat × Value)) (st : List Value) (S1 : fw_S), as_in ad sm wd_fl2 xs S kh_waterDeal.2.2.2.2.2.1 α kh_waterDeal_a78.2.2.1 lv st S1 → (True) → 900000000000 + (12 - nv α 1).toNat < k + 1 → hd_W wd_fl2 kh_waterDeal kh_waterDeal_y l D tc ad kd N sm xs S p e s m args below meth c sz 78 lv st S1 0) := by
  have hx : xs.length = 1 := by rw [H0.2.1.1]; rfl
  intro α lv st S1 H hp hk
  obtain ⟨α1, hle, Hr⟩ := as_recM (pl := []) [((832, 832), (0, 11, 1))] (by decide +kernel) H
  have hf := H.2.2.2.2.2.2.2.2.2.2.1
  have hl1 : α1.length = 2 := by rw [Hr.2.1.1]; rfl
  have hl0 : α.length = 2 := by rw [H.2.1.1]; rfl
  have hxa : al_le xs α1 := H.1.trans hle
  obtain ⟨g1, -, g3, g4, -⟩ := as_fx Hr
  have g0 : (805 ≤ nv α1 0 ∧ nv α1 0 ≤ 805) ∧ (0 ≤ nv α1 1 ∧ nv α1 1 ≤ 12) ∧ True := by
    refine ⟨by have h := (en_nv (i := 0) Hr.2.1 rfl).2; exact h, by have h := (en_nv (i := 1) Hr.2.1 rfl).2; exact h, trivial⟩
  have r0 : nv α1 0 = nv α 0 := nv_le hle (by omega)
  have r1 : nv α1 1 = nv α 1 := nv_le hle (by omega)
  refine hd_segM G (na := 2) (fuel := 600) (first := true) (Bs := [kh_waterDeal_b78_0, kh_waterDeal_b78_1]) (by decide +kernel) hl1 Hr ?_
  intro q hq β lv' st' S' H1
  simp only [List.mem_cons, List.not_mem_nil, or_false] at hq
  rcases hq with rfl | rfl
  · obtain ⟨f1, f2, f3, f4, f5⟩ := as_fx H1
    simp only [kh_waterDeal_b78_0, fx_env, fx_c, fx_ne, fx_hf, wl_S, Nat.zero_add, Nat.reduceAdd, Nat.reduceDiv, Nat.reduceMod, List.getElem?_cons_zero, List.getElem?_cons_succ, if_true, and_true, true_and] at f1 f2 f3 f4 f5
    have fe0 : nv β 0 = 805 := by omega
    have fe1 : nv β 1 = 12 := by omega
    have fe2 : nv β 2 = 12 := by omega
    have fe3 : nv β 3 = 0 := by omega
    try simp only [fe0, fe1, fe2, fe3, Int.reduceToNat] at f2 f3 f4 f5
    have s0 : nv β 0 = nv α1 0 := nv_le H1.1 (by omega)
    have s1 : nv β 1 = nv α1 1 := nv_le H1.1 (by omega)
    have c0 := f2
    obtain ⟨α', Ha, hm⟩ := hd_gpM (q := kh_waterDeal_a99) (n := 0) (by decide +kernel) hx H1 (by decide +kernel) hxa hf
    have hfr := H1.2.2.2.2.2.2.2.2.2.2.1
    have m0 : nv α' 0 = nv β 0 := hm 0 0 rfl
    have m1 : nv α' 1 = nv β 3 := hm 1 3 rfl
    subst S'
    refine ih.2.2.2.2.2.1 _ _ _ _ Ha ?_ ?_
    · trivial
    · omega
  · obtain ⟨f1, f2, f3, f4, f5⟩ := as_fx H1
    simp only [kh_waterDeal_b78_1, fx_env, fx_c, fx_ne, fx_hf, wl_S, Nat.zero_add, Nat.reduceAdd, Nat.reduceDiv, Nat.reduceMod, List.getElem?_cons_zero, List.getElem?_cons_succ, if_true, and_true, true_and] at f1 f2 f3 f4 f5
    have fe0 : nv β 0 = 805 := by omega
    have fe2 : nv β 2 = 12 := by omega
    have fe3 : nv β 3 = 832 := by omega
    have fe4 : nv β 4 = 0 := by omega
    try simp only [fe0, fe2, fe3, fe4, Int.reduceToNat] at f2 f3 f4 f5
    have s0 : nv β 0 = nv α1 0 := nv_le H1.1 (by omega)
    have s1 : nv β 1 = nv α1 1 := nv_le H1.1 (by omega)
    have c0 := f2
    obtain ⟨α', Ha, hm⟩ := hd_gpM (q := kh_waterDeal_a78) (n := 0) (by decide +kernel) hx H1 (by decide +kernel) hxa hf
    have hfr := H1.2.2.2.2.2.2.2.2.2.2.1
    have m0 : nv α' 0 = nv β 0 := hm 0 0 rfl
    have m1 : nv α' 1 = nv β 5 := hm 1 5 rfl
    subst S'
    refine ih.2.2.2.2.1 _ _ _ _ Ha ?_ ?_
    · trivial
    · omega
set_option maxHeartbeats 16000000 in
set_option maxRecDepth 8000 in
theorem kh_waterDeal_h99 {l : Launch} {D : va_G} {tc : Nat → ClassId} {ad : Nat → Nat} {kd : Nat → Nat × Nat} {N : Nat} {sm : Nat → Nat} {xs : List av_X} {S : fw_S} {p : Program} {e : Env} {s : State} {m : MethodId} {args : Array Value} {below : List Frame} {meth : Method} {c : Code} {sz : Nat} {lvE : List (Nat × Value)} (G : hd_C wd_ff2 wd_fl2 kh_waterDeal [kh_559, kh_562, kh_570, kh_wFind, kh_ranks, kh_575, kh_576, kh_577, kh_578, kh_579, kh_580, kh_581, kh_582, kh_583, kh_584, kh_585, kh_586, kh_wSend] kh_waterDeal_y l D tc ad kd N sm xs p s m args meth c sz) (H0 : as_in ad sm wd_fl2 xs S kh_waterDeal.2.2.2.2.2.1 xs (hd_0 kh_waterDeal) lvE [] S) {k : Nat} (ih : kh_waterDeal_I l D tc ad kd N sm xs S p e s m args below meth c sz k) : (∀ (α : List av_X) (lv : List (Nat × Value)) (st : List Value) (S1 : fw_S), as_in ad sm wd_fl2 xs S kh_waterDeal.2.2.2.2.2.1 α kh_waterDeal_a99.2.2.1 lv st S1 → (True) → 800000000000 + (5 - nv α 1).toNat < k + 1 → hd_W wd_fl2 kh_waterDeal kh_waterDeal_y l D tc ad kd N sm xs S p e s m args below meth c sz 99 lv st S1 0) := by
  have hx : xs.length = 1 := by rw [H0.2.1.1]; rfl
  intro α lv st S1 H hp hk
  obtain ⟨α1, hle, Hr⟩ := as_recM (pl := []) [((832, 832), (0, 11, 1))] (by decide +kernel) H
  have hf := H.2.2.2.2.2.2.2.2.2.2.1
  have hl1 : α1.length = 2 := by rw [Hr.2.1.1]; rfl
  have hl0 : α.length = 2 := by rw [H.2.1.1]; rfl
  have hxa : al_le xs α1 := H.1.trans hle
  obtain ⟨g1, -, g3, g4, -⟩ := as_fx Hr
  have g0 : (805 ≤ nv α1 0 ∧ nv α1 0 ≤ 805) ∧ (0 ≤ nv α1 1 ∧ nv α1 1 ≤ 4) ∧ True := by
    refine ⟨by have h := (en_nv (i := 0) Hr.2.1 rfl).2; exact h, by have h := (en_nv (i := 1) Hr.2.1 rfl).2; exact h, trivial⟩
  have r0 : nv α1 0 = nv α 0 := nv_le hle (by omega)
  have r1 : nv α1 1 = nv α 1 := nv_le hle (by omega)
  refine hd_segM G (na := 2) (fuel := 600) (first := true) (Bs := [kh_waterDeal_b99_0, kh_waterDeal_b99_1]) (by decide +kernel) hl1 Hr ?_
  intro q hq β lv' st' S' H1
  simp only [List.mem_cons, List.not_mem_nil, or_false] at hq
  rcases hq with rfl | rfl
  · obtain ⟨f1, f2, f3, f4, f5⟩ := as_fx H1
    simp only [kh_waterDeal_b99_0, fx_env, fx_c, fx_ne, fx_hf, wl_S, Nat.zero_add, Nat.reduceAdd, Nat.reduceDiv, Nat.reduceMod, List.getElem?_cons_zero, List.getElem?_cons_succ, if_true, and_true, true_and] at f1 f2 f3 f4 f5
    have fe0 : nv β 0 = 805 := by omega
    have fe2 : nv β 2 = 806 := by omega
    have fe3 : nv β 3 = 1013 := by omega
    try simp only [fe0, fe2, fe3, Int.reduceToNat] at f2 f3 f4 f5
    have s0 : nv β 0 = nv α1 0 := nv_le H1.1 (by omega)
    have s1 : nv β 1 = nv α1 1 := nv_le H1.1 (by omega)
    obtain ⟨c0, c1⟩ := f2
    obtain ⟨α', Ha, hm⟩ := hd_gpM (q := kh_waterDeal_a172) (n := 0) (by decide +kernel) hx H1 (by decide +kernel) hxa hf
    have hfr := H1.2.2.2.2.2.2.2.2.2.2.1
    have m0 : nv α' 0 = nv β 0 := hm 0 0 rfl
    have m1 : nv α' 1 = nv β 1 := hm 1 1 rfl
    subst S'
    have yb := yS_bd (f := S1.1 832) (n := 12)
    refine ih.2.2.2.2.2.2.1 _ _ _ _ Ha ?_ ?_
    · trivial
    · omega
  · obtain ⟨f1, f2, f3, f4, f5⟩ := as_fx H1
    simp only [kh_waterDeal_b99_1, fx_env, fx_c, fx_ne, fx_hf, wl_S, Nat.zero_add, Nat.reduceAdd, Nat.reduceDiv, Nat.reduceMod, List.getElem?_cons_zero, List.getElem?_cons_succ, if_true, and_true, true_and] at f1 f2 f3 f4 f5
    have fe0 : nv β 0 = 805 := by omega
    have fe2 : nv β 2 = 806 := by omega
    have fe3 : nv β 3 = 1013 := by omega
    have fe5 : nv β 5 = 832 := by omega
    have fe6 : nv β 6 = 806 := by omega
    have fe7 : nv β 7 = 1014 := by omega
    have fe8 : nv β 8 = 4 := by omega
    have fe12 : nv β 12 = 806 := by omega
    have fe13 : nv β 13 = 1014 := by omega
    have fe14 : nv β 14 = 4 := by omega
    have fe17 : nv β 17 = 1 := by omega
    have fe20 : nv β 20 = 806 := by omega
    have fe21 : nv β 21 = 1014 := by omega
    have fe22 : nv β 22 = 4 := by omega
    have fe25 : nv β 25 = 2 := by omega
    have fe29 : nv β 29 = 830 := by omega
    have fe30 : nv β 30 = 3 := by omega
    try simp only [fe0, fe2, fe3, fe5, fe6, fe7, fe8, fe12, fe13, fe14, fe17, fe20, fe21, fe22, fe25, fe29, fe30, Int.reduceToNat] at f2 f3 f4 f5
    have s0 : nv β 0 = nv α1 0 := nv_le H1.1 (by omega)
    have s1 : nv β 1 = nv α1 1 := nv_le H1.1 (by omega)
    obtain ⟨c0, c1, c2, c3, c4, c5, c6, c7, c8, c9, c10, c11, c12, c13, c14⟩ := f2
    obtain ⟨α', Ha, hm⟩ := hd_gpM (q := kh_waterDeal_a99) (n := 0) (by decide +kernel) hx H1 (by decide +kernel) hxa hf
    have hfr := H1.2.2.2.2.2.2.2.2.2.2.1
    have m0 : nv α' 0 = nv β 0 := hm 0 0 rfl
    have m1 : nv α' 1 = nv β 34 := hm 1 34 rfl
    subst S'
    refine ih.2.2.2.2.2.1 _ _ _ _ Ha ?_ ?_
    · trivial
    · omega
set_option maxHeartbeats 16000000 in
set_option maxRecDepth 8000 in
theorem kh_waterDeal_h172 {l : Launch} {D : va_G} {tc : Nat → ClassId} {ad : Nat → Nat} {kd : Nat → Nat × Nat} {N : Nat} {sm : Nat → Nat} {xs : List av_X} {S : fw_S} {p : Program} {e : Env} {s : State} {m : MethodId} {args : Array Value} {below : List Frame} {meth : Method} {c : Code} {sz : Nat} {lvE : List (Nat × Value)} (G : hd_C wd_ff2 wd_fl2 kh_waterDeal [kh_559, kh_562, kh_570, kh_wFind, kh_ranks, kh_575, kh_576, kh_577, kh_578, kh_579, kh_580, kh_581, kh_582, kh_583, kh_584, kh_585, kh_586, kh_wSend] kh_waterDeal_y l D tc ad kd N sm xs p s m args meth c sz) (H0 : as_in ad sm wd_fl2 xs S kh_waterDeal.2.2.2.2.2.1 xs (hd_0 kh_waterDeal) lvE [] S) {k : Nat} (ih : kh_waterDeal_I l D tc ad kd N sm xs S p e s m args below meth c sz k) : (∀ (α : List av_X) (lv : List (Nat × Value)) (st : List Value) (S1 : fw_S), as_in ad sm wd_fl2 xs S kh_waterDeal.2.2.2.2.2.1 α kh_waterDeal_a172.2.2.1 lv st S1 → (True) → 100000000000 + 10 * yS (S1.1 832) 12 + 9 < k + 1 → hd_W wd_fl2 kh_waterDeal kh_waterDeal_y l D tc ad kd N sm xs S p e s m args below meth c sz 172 lv st S1 0) := by
  have hx : xs.length = 1 := by rw [H0.2.1.1]; rfl
  intro α lv st S1 H hp hk
  obtain ⟨α1, hle, Hr⟩ := as_recM (pl := []) [((805, 805), (46, 46, 0)), ((805, 805), (47, 47, 0)), ((840, 840), (0, 11, 1)), ((858, 858), (0, 9, 1))] (by decide +kernel) H
  have hf := H.2.2.2.2.2.2.2.2.2.2.1
  have hl1 : α1.length = 2 := by rw [Hr.2.1.1]; rfl
  have hl0 : α.length = 2 := by rw [H.2.1.1]; rfl
  have hxa : al_le xs α1 := H.1.trans hle
  obtain ⟨g1, -, g3, g4, -⟩ := as_fx Hr
  have g0 : (805 ≤ nv α1 0 ∧ nv α1 0 ≤ 805) ∧ ((-2147483648) ≤ nv α1 1 ∧ nv α1 1 ≤ 2147483647) ∧ True := by
    refine ⟨by have h := (en_nv (i := 0) Hr.2.1 rfl).2; exact h, by have h := (en_nv (i := 1) Hr.2.1 rfl).2; exact h, trivial⟩
  have r0 : nv α1 0 = nv α 0 := nv_le hle (by omega)
  have r1 : nv α1 1 = nv α 1 := nv_le hle (by omega)
  refine hd_segM G (na := 2) (fuel := 600) (first := true) (Bs := [kh_waterDeal_b172_0, kh_waterDeal_b172_1]) (by decide +kernel) hl1 Hr ?_
  intro q hq β lv' st' S' H1
  simp only [List.mem_cons, List.not_mem_nil, or_false] at hq
  rcases hq with rfl | rfl
  · obtain ⟨f1, f2, f3, f4, f5⟩ := as_fx H1
    simp only [kh_waterDeal_b172_0, fx_env, fx_c, fx_ne, fx_hf, wl_S, Nat.zero_add, Nat.reduceAdd, Nat.reduceDiv, Nat.reduceMod, List.getElem?_cons_zero, List.getElem?_cons_succ, if_true, and_true, true_and] at f1 f2 f3 f4 f5
    have fe0 : nv β 0 = 805 := by omega
    have fe2 : nv β 2 = 0 := by omega
    have fe3 : nv β 3 = 2 := by omega
    have fe4 : nv β 4 = 0 := by omega
    have fe5 : nv β 5 = 0 := by omega
    try simp only [fe0, fe2, fe3, fe4, fe5, Int.reduceToNat] at f2 f3 f4 f5
    have s0 : nv β 0 = nv α1 0 := nv_le H1.1 (by omega)
    have s1 : nv β 1 = nv α1 1 := nv_le H1.1 (by omega)
    obtain ⟨α', Ha, hm⟩ := hd_gpM (q := kh_waterDeal_a208) (n := 0) (by decide +kernel) hx H1 (by decide +kernel) hxa hf
    have hfr := H1.2.2.2.2.2.2.2.2.2.2.1
    have m0 : nv α' 0 = nv β 0 := hm 0 0 rfl
    have m1 : nv α' 1 = nv β 5 := hm 1 5 rfl
    have yb := yS_bd (f := S1.1 832) (n := 12)
    refine ih.2.2.2.2.2.2.2.2.2.1 _ _ _ _ Ha ?_ ?_
    · trivial
    · omega
  · obtain ⟨f1, f2, f3, f4, f5⟩ := as_fx H1
    simp only [kh_waterDeal_b172_1, fx_env, fx_c, fx_ne, fx_hf, wl_S, Nat.zero_add, Nat.reduceAdd, Nat.reduceDiv, Nat.reduceMod, List.getElem?_cons_zero, List.getElem?_cons_succ, if_true, and_true, true_and] at f1 f2 f3 f4 f5
    have fe0 : nv β 0 = 805 := by omega
    have fe2 : nv β 2 = 0 := by omega
    have fe3 : nv β 3 = 2 := by omega
    have fe4 : nv β 4 = 1 := by omega
    try simp only [fe0, fe2, fe3, fe4, Int.reduceToNat] at f2 f3 f4 f5
    have s0 : nv β 0 = nv α1 0 := nv_le H1.1 (by omega)
    have s1 : nv β 1 = nv α1 1 := nv_le H1.1 (by omega)
    obtain ⟨α', Ha, hm⟩ := hd_gpM (q := kh_waterDeal_a182) (n := 0) (by decide +kernel) hx H1 (by decide +kernel) hxa hf
    have hfr := H1.2.2.2.2.2.2.2.2.2.2.1
    have m0 : nv α' 0 = nv β 0 := hm 0 0 rfl
    have m1 : nv α' 1 = nv β 1 := hm 1 1 rfl
    have hq : wOK S' := by
      have h := H1.2.2.2.2.2.2.2.2.1 504 (by decide +kernel)
      rw [wd_fl2, if_neg (by decide)] at h
      exact h
    have e2 := fr_row hfr 832 (by decide +kernel)
    refine ih.2.2.2.2.2.2.2.1 _ _ _ _ Ha ?_ ?_
    · exact hq
    · rw [e2]; omega
set_option maxHeartbeats 16000000 in
set_option maxRecDepth 8000 in
theorem kh_waterDeal_h182 {l : Launch} {D : va_G} {tc : Nat → ClassId} {ad : Nat → Nat} {kd : Nat → Nat × Nat} {N : Nat} {sm : Nat → Nat} {xs : List av_X} {S : fw_S} {p : Program} {e : Env} {s : State} {m : MethodId} {args : Array Value} {below : List Frame} {meth : Method} {c : Code} {sz : Nat} {lvE : List (Nat × Value)} (G : hd_C wd_ff2 wd_fl2 kh_waterDeal [kh_559, kh_562, kh_570, kh_wFind, kh_ranks, kh_575, kh_576, kh_577, kh_578, kh_579, kh_580, kh_581, kh_582, kh_583, kh_584, kh_585, kh_586, kh_wSend] kh_waterDeal_y l D tc ad kd N sm xs p s m args meth c sz) (H0 : as_in ad sm wd_fl2 xs S kh_waterDeal.2.2.2.2.2.1 xs (hd_0 kh_waterDeal) lvE [] S) {k : Nat} (ih : kh_waterDeal_I l D tc ad kd N sm xs S p e s m args below meth c sz k) : (∀ (α : List av_X) (lv : List (Nat × Value)) (st : List Value) (S1 : fw_S), as_in ad sm wd_fl2 xs S kh_waterDeal.2.2.2.2.2.1 α kh_waterDeal_a182.2.2.1 lv st S1 → (wOK S1) → 100000000000 + 10 * yS (S1.1 832) 12 + 8 < k + 1 → hd_W wd_fl2 kh_waterDeal kh_waterDeal_y l D tc ad kd N sm xs S p e s m args below meth c sz 182 lv st S1 0) := by
  have hx : xs.length = 1 := by rw [H0.2.1.1]; rfl
  intro α lv st S1 H hp hk
  replace H := as_fl_in (f := [504]) H (fun g hg => by
    rcases List.mem_singleton.mp hg with rfl
    rw [wd_fl2, if_neg (by decide)]
    exact hp)
  obtain ⟨α1, hle, Hr⟩ := as_recM (pl := []) [((829, 829), (0, 6, 1)), ((830, 830), (0, 6, 1)), ((832, 832), (0, 11, 1)), ((839, 839), (0, 33, 1)), ((840, 840), (0, 11, 1)), ((841, 841), (0, 10, 1))] (by decide +kernel) H
  have hf := H.2.2.2.2.2.2.2.2.2.2.1
  have hl1 : α1.length = 2 := by rw [Hr.2.1.1]; rfl
  have hl0 : α.length = 2 := by rw [H.2.1.1]; rfl
  have hxa : al_le xs α1 := H.1.trans hle
  obtain ⟨g1, -, g3, g4, -⟩ := as_fx Hr
  have g0 : (805 ≤ nv α1 0 ∧ nv α1 0 ≤ 805) ∧ ((-2147483648) ≤ nv α1 1 ∧ nv α1 1 ≤ 2147483647) ∧ True := by
    refine ⟨by have h := (en_nv (i := 0) Hr.2.1 rfl).2; exact h, by have h := (en_nv (i := 1) Hr.2.1 rfl).2; exact h, trivial⟩
  have r0 : nv α1 0 = nv α 0 := nv_le hle (by omega)
  have r1 : nv α1 1 = nv α 1 := nv_le hle (by omega)
  refine hd_callR (Rr := R_wSend) (Rs := [kh_wSend]) (idx := 576) G (List.forall_mem_cons.mpr ⟨kh_wSend_okR, List.forall_mem_nil _⟩) (na := 2) (Bs := [kh_waterDeal_b182_0]) (by decide +kernel) (by decide +kernel) hl1 Hr ?_
  intro q hq β lv' st' S' H1 hRx
  simp only [List.mem_cons, List.not_mem_nil, or_false] at hq
  rcases hq with rfl
  · obtain ⟨f1, f2, f3, f4, f5⟩ := as_fx H1
    simp only [kh_waterDeal_b182_0, fx_env, fx_c, fx_ne, fx_hf, wl_S, Nat.zero_add, Nat.reduceAdd, Nat.reduceDiv, Nat.reduceMod, List.getElem?_cons_zero, List.getElem?_cons_succ, if_true, and_true, true_and] at f1 f2 f3 f4 f5
    have fe0 : nv β 0 = 805 := by omega
    try simp only [fe0, Int.reduceToNat] at f2 f3 f4 f5
    have s0 : nv β 0 = nv α1 0 := nv_le H1.1 (by omega)
    have s1 : nv β 1 = nv α1 1 := nv_le H1.1 (by omega)
    obtain ⟨α', Ha, hm⟩ := hd_gpM (q := kh_waterDeal_a185) (n := 0) (by decide +kernel) hx H1 (by decide +kernel) hxa hf
    have hfr := H1.2.2.2.2.2.2.2.2.2.2.1
    have m0 : nv α' 0 = nv β 0 := hm 0 0 rfl
    have m1 : nv α' 1 = nv β 1 := hm 1 1 rfl
    have m2 : nv α' 2 = nv β 2 := hm 2 2 rfl
    obtain ⟨Cc, -, ys, rr, -, hR, -⟩ := hRx
    have hR' : yS (S'.1 832) 12 + 1 ≤ yS (S1.1 832) 12 := hR
    refine ih.2.2.2.2.2.2.2.2.1 _ _ _ _ Ha ?_ ?_
    · trivial
    · omega
set_option maxHeartbeats 16000000 in
set_option maxRecDepth 8000 in
theorem kh_waterDeal_h185 {l : Launch} {D : va_G} {tc : Nat → ClassId} {ad : Nat → Nat} {kd : Nat → Nat × Nat} {N : Nat} {sm : Nat → Nat} {xs : List av_X} {S : fw_S} {p : Program} {e : Env} {s : State} {m : MethodId} {args : Array Value} {below : List Frame} {meth : Method} {c : Code} {sz : Nat} {lvE : List (Nat × Value)} (G : hd_C wd_ff2 wd_fl2 kh_waterDeal [kh_559, kh_562, kh_570, kh_wFind, kh_ranks, kh_575, kh_576, kh_577, kh_578, kh_579, kh_580, kh_581, kh_582, kh_583, kh_584, kh_585, kh_586, kh_wSend] kh_waterDeal_y l D tc ad kd N sm xs p s m args meth c sz) (H0 : as_in ad sm wd_fl2 xs S kh_waterDeal.2.2.2.2.2.1 xs (hd_0 kh_waterDeal) lvE [] S) {k : Nat} (ih : kh_waterDeal_I l D tc ad kd N sm xs S p e s m args below meth c sz k) : (∀ (α : List av_X) (lv : List (Nat × Value)) (st : List Value) (S1 : fw_S), as_in ad sm wd_fl2 xs S kh_waterDeal.2.2.2.2.2.1 α kh_waterDeal_a185.2.2.1 lv st S1 → (True) → 100000000000 + 10 * yS (S1.1 832) 12 + 15 < k + 1 → hd_W wd_fl2 kh_waterDeal kh_waterDeal_y l D tc ad kd N sm xs S p e s m args below meth c sz 185 lv st S1 0) := by
  have hx : xs.length = 1 := by rw [H0.2.1.1]; rfl
  intro α lv st S1 H hp hk
  obtain ⟨α1, hle, Hr⟩ := as_recM (pl := []) [((838, 838), (0, 11, 1))] (by decide +kernel) H
  have hf := H.2.2.2.2.2.2.2.2.2.2.1
  have hl1 : α1.length = 3 := by rw [Hr.2.1.1]; rfl
  have hl0 : α.length = 3 := by rw [H.2.1.1]; rfl
  have hxa : al_le xs α1 := H.1.trans hle
  obtain ⟨g1, -, g3, g4, -⟩ := as_fx Hr
  have g0 : (805 ≤ nv α1 0 ∧ nv α1 0 ≤ 805) ∧ ((-2147483648) ≤ nv α1 1 ∧ nv α1 1 ≤ 2147483647) ∧ ((-2147483648) ≤ nv α1 2 ∧ nv α1 2 ≤ 2147483647) ∧ True := by
    refine ⟨by have h := (en_nv (i := 0) Hr.2.1 rfl).2; exact h, by have h := (en_nv (i := 1) Hr.2.1 rfl).2; exact h, by have h := (en_nv (i := 2) Hr.2.1 rfl).2; exact h, trivial⟩
  have r0 : nv α1 0 = nv α 0 := nv_le hle (by omega)
  have r1 : nv α1 1 = nv α 1 := nv_le hle (by omega)
  have r2 : nv α1 2 = nv α 2 := nv_le hle (by omega)
  refine hd_segM G (na := 3) (fuel := 600) (first := true) (Bs := [kh_waterDeal_b185_0]) (by decide +kernel) hl1 Hr ?_
  intro q hq β lv' st' S' H1
  simp only [List.mem_cons, List.not_mem_nil, or_false] at hq
  rcases hq with rfl
  · obtain ⟨f1, f2, f3, f4, f5⟩ := as_fx H1
    simp only [kh_waterDeal_b185_0, fx_env, fx_c, fx_ne, fx_hf, wl_S, Nat.zero_add, Nat.reduceAdd, Nat.reduceDiv, Nat.reduceMod, List.getElem?_cons_zero, List.getElem?_cons_succ, if_true, and_true, true_and] at f1 f2 f3 f4 f5
    have fe0 : nv β 0 = 805 := by omega
    have fe3 : nv β 3 = 838 := by omega
    have fe4 : nv β 4 = 47 := by omega
    try simp only [fe0, fe3, fe4, Int.reduceToNat] at f2 f3 f4 f5
    have s0 : nv β 0 = nv α1 0 := nv_le H1.1 (by omega)
    have s1 : nv β 1 = nv α1 1 := nv_le H1.1 (by omega)
    have s2 : nv β 2 = nv α1 2 := nv_le H1.1 (by omega)
    obtain ⟨c0, c1⟩ := f2
    obtain ⟨α', Ha, hm⟩ := hd_gpM (q := kh_waterDeal_a172) (n := 0) (by decide +kernel) hx H1 (by decide +kernel) hxa hf
    have hfr := H1.2.2.2.2.2.2.2.2.2.2.1
    have m0 : nv α' 0 = nv β 0 := hm 0 0 rfl
    have m1 : nv α' 1 = nv β 2 := hm 1 2 rfl
    subst S'
    refine ih.2.2.2.2.2.2.1 _ _ _ _ Ha ?_ ?_
    · trivial
    · rw [show (fw_i S1 838 (nv β 5).toNat (Int32.ofInt (nv β 7))).1 832 = S1.1 832 from fw_i_ne (by decide)]; omega
set_option maxHeartbeats 16000000 in
set_option maxRecDepth 8000 in
theorem kh_waterDeal_h208 {l : Launch} {D : va_G} {tc : Nat → ClassId} {ad : Nat → Nat} {kd : Nat → Nat × Nat} {N : Nat} {sm : Nat → Nat} {xs : List av_X} {S : fw_S} {p : Program} {e : Env} {s : State} {m : MethodId} {args : Array Value} {below : List Frame} {meth : Method} {c : Code} {sz : Nat} {lvE : List (Nat × Value)} (G : hd_C wd_ff2 wd_fl2 kh_waterDeal [kh_559, kh_562, kh_570, kh_wFind, kh_ranks, kh_575, kh_576, kh_577, kh_578, kh_579, kh_580, kh_581, kh_582, kh_583, kh_584, kh_585, kh_586, kh_wSend] kh_waterDeal_y l D tc ad kd N sm xs p s m args meth c sz) (H0 : as_in ad sm wd_fl2 xs S kh_waterDeal.2.2.2.2.2.1 xs (hd_0 kh_waterDeal) lvE [] S) {k : Nat} (ih : kh_waterDeal_I l D tc ad kd N sm xs S p e s m args below meth c sz k) : (∀ (α : List av_X) (lv : List (Nat × Value)) (st : List Value) (S1 : fw_S), as_in ad sm wd_fl2 xs S kh_waterDeal.2.2.2.2.2.1 α kh_waterDeal_a208.2.2.1 lv st S1 → (True) → 1000 + (2 - nv α 1).toNat < k + 1 → hd_W wd_fl2 kh_waterDeal kh_waterDeal_y l D tc ad kd N sm xs S p e s m args below meth c sz 208 lv st S1 0) := by
  have hx : xs.length = 1 := by rw [H0.2.1.1]; rfl
  intro α lv st S1 H hp hk
  obtain ⟨α1, hle, Hr⟩ := as_recM (pl := []) [((843, 843), (0, 1, 1))] (by decide +kernel) H
  have hf := H.2.2.2.2.2.2.2.2.2.2.1
  have hl1 : α1.length = 2 := by rw [Hr.2.1.1]; rfl
  have hl0 : α.length = 2 := by rw [H.2.1.1]; rfl
  have hxa : al_le xs α1 := H.1.trans hle
  obtain ⟨g1, -, g3, g4, -⟩ := as_fx Hr
  have g0 : (805 ≤ nv α1 0 ∧ nv α1 0 ≤ 805) ∧ (0 ≤ nv α1 1 ∧ nv α1 1 ≤ 2) ∧ True := by
    refine ⟨by have h := (en_nv (i := 0) Hr.2.1 rfl).2; exact h, by have h := (en_nv (i := 1) Hr.2.1 rfl).2; exact h, trivial⟩
  have r0 : nv α1 0 = nv α 0 := nv_le hle (by omega)
  have r1 : nv α1 1 = nv α 1 := nv_le hle (by omega)
  refine hd_segM G (na := 2) (fuel := 600) (first := true) (Bs := [kh_waterDeal_b208_0, kh_waterDeal_b208_1]) (by decide +kernel) hl1 Hr ?_
  intro q hq β lv' st' S' H1
  simp only [List.mem_cons, List.not_mem_nil, or_false] at hq
  rcases hq with rfl | rfl
  · obtain ⟨f1, f2, f3, f4, f5⟩ := as_fx H1
    simp only [kh_waterDeal_b208_0, fx_env, fx_c, fx_ne, fx_hf, wl_S, Nat.zero_add, Nat.reduceAdd, Nat.reduceDiv, Nat.reduceMod, List.getElem?_cons_zero, List.getElem?_cons_succ, if_true, and_true, true_and] at f1 f2 f3 f4 f5
    have fe0 : nv β 0 = 805 := by omega
    have fe1 : nv β 1 = 2 := by omega
    have fe2 : nv β 2 = 2 := by omega
    have fe3 : nv β 3 = 0 := by omega
    try simp only [fe0, fe1, fe2, fe3, Int.reduceToNat] at f2 f3 f4 f5
    have s0 : nv β 0 = nv α1 0 := nv_le H1.1 (by omega)
    have s1 : nv β 1 = nv α1 1 := nv_le H1.1 (by omega)
    have c0 := f2
    obtain ⟨α', Ha, hm⟩ := hd_gpM (q := kh_waterDeal_a228) (n := 0) (by decide +kernel) hx H1 (by decide +kernel) hxa hf
    have hfr := H1.2.2.2.2.2.2.2.2.2.2.1
    have m0 : nv α' 0 = nv β 0 := hm 0 0 rfl
    have m1 : nv α' 1 = nv β 3 := hm 1 3 rfl
    subst S'
    refine ih.2.2.2.2.2.2.2.2.2.2.1 _ _ _ _ Ha ?_ ?_
    · trivial
    · omega
  · obtain ⟨f1, f2, f3, f4, f5⟩ := as_fx H1
    simp only [kh_waterDeal_b208_1, fx_env, fx_c, fx_ne, fx_hf, wl_S, Nat.zero_add, Nat.reduceAdd, Nat.reduceDiv, Nat.reduceMod, List.getElem?_cons_zero, List.getElem?_cons_succ, if_true, and_true, true_and] at f1 f2 f3 f4 f5
    have fe0 : nv β 0 = 805 := by omega
    have fe2 : nv β 2 = 2 := by omega
    have fe3 : nv β 3 = 843 := by omega
    have fe4 : nv β 4 = 0 := by omega
    try simp only [fe0, fe2, fe3, fe4, Int.reduceToNat] at f2 f3 f4 f5
    have s0 : nv β 0 = nv α1 0 := nv_le H1.1 (by omega)
    have s1 : nv β 1 = nv α1 1 := nv_le H1.1 (by omega)
    have c0 := f2
    obtain ⟨α', Ha, hm⟩ := hd_gpM (q := kh_waterDeal_a208) (n := 0) (by decide +kernel) hx H1 (by decide +kernel) hxa hf
    have hfr := H1.2.2.2.2.2.2.2.2.2.2.1
    have m0 : nv α' 0 = nv β 0 := hm 0 0 rfl
    have m1 : nv α' 1 = nv β 5 := hm 1 5 rfl
    subst S'
    refine ih.2.2.2.2.2.2.2.2.2.1 _ _ _ _ Ha ?_ ?_
    · trivial
    · omega
set_option maxHeartbeats 16000000 in
set_option maxRecDepth 8000 in
theorem kh_waterDeal_h228 {l : Launch} {D : va_G} {tc : Nat → ClassId} {ad : Nat → Nat} {kd : Nat → Nat × Nat} {N : Nat} {sm : Nat → Nat} {xs : List av_X} {S : fw_S} {p : Program} {e : Env} {s : State} {m : MethodId} {args : Array Value} {below : List Frame} {meth : Method} {c : Code} {sz : Nat} {lvE : List (Nat × Value)} (G : hd_C wd_ff2 wd_fl2 kh_waterDeal [kh_559, kh_562, kh_570, kh_wFind, kh_ranks, kh_575, kh_576, kh_577, kh_578, kh_579, kh_580, kh_581, kh_582, kh_583, kh_584, kh_585, kh_586, kh_wSend] kh_waterDeal_y l D tc ad kd N sm xs p s m args meth c sz) (H0 : as_in ad sm wd_fl2 xs S kh_waterDeal.2.2.2.2.2.1 xs (hd_0 kh_waterDeal) lvE [] S) {k : Nat} (ih : kh_waterDeal_I l D tc ad kd N sm xs S p e s m args below meth c sz k) : (∀ (α : List av_X) (lv : List (Nat × Value)) (st : List Value) (S1 : fw_S), as_in ad sm wd_fl2 xs S kh_waterDeal.2.2.2.2.2.1 α kh_waterDeal_a228.2.2.1 lv st S1 → (True) → (12 - nv α 1).toNat < k + 1 → hd_W wd_fl2 kh_waterDeal kh_waterDeal_y l D tc ad kd N sm xs S p e s m args below meth c sz 228 lv st S1 0) := by
  have hx : xs.length = 1 := by rw [H0.2.1.1]; rfl
  intro α lv st S1 H hp hk
  obtain ⟨α1, hle, Hr⟩ := as_recM (pl := []) [((805, 805), (48, 48, 0)), ((834, 834), (0, 11, 1)), ((835, 835), (0, 11, 1)), ((836, 836), (0, 11, 1)), ((837, 837), (0, 11, 1)), ((843, 843), (0, 1, 1)), ((844, 844), (0, 9, 1)), ((845, 845), (0, 11, 1))] (by decide +kernel) H
  have hf := H.2.2.2.2.2.2.2.2.2.2.1
  have hl1 : α1.length = 2 := by rw [Hr.2.1.1]; rfl
  have hl0 : α.length = 2 := by rw [H.2.1.1]; rfl
  have hxa : al_le xs α1 := H.1.trans hle
  obtain ⟨g1, -, g3, g4, -⟩ := as_fx Hr
  have g0 : (805 ≤ nv α1 0 ∧ nv α1 0 ≤ 805) ∧ (0 ≤ nv α1 1 ∧ nv α1 1 ≤ 12) ∧ True := by
    refine ⟨by have h := (en_nv (i := 0) Hr.2.1 rfl).2; exact h, by have h := (en_nv (i := 1) Hr.2.1 rfl).2; exact h, trivial⟩
  have r0 : nv α1 0 = nv α 0 := nv_le hle (by omega)
  have r1 : nv α1 1 = nv α 1 := nv_le hle (by omega)
  refine hd_segM G (na := 2) (fuel := 600) (first := true) (Bs := [kh_waterDeal_b228_0, kh_waterDeal_b228_1]) (by decide +kernel) hl1 Hr ?_
  intro q hq β lv' st' S' H1
  simp only [List.mem_cons, List.not_mem_nil, or_false] at hq
  rcases hq with rfl | rfl
  · obtain ⟨f1, f2, f3, f4, f5⟩ := as_fx H1
    simp only [kh_waterDeal_b228_0, fx_env, fx_c, fx_ne, fx_hf, wl_S, Nat.zero_add, Nat.reduceAdd, Nat.reduceDiv, Nat.reduceMod, List.getElem?_cons_zero, List.getElem?_cons_succ, if_true, and_true, true_and] at f1 f2 f3 f4 f5
    have fe0 : nv β 0 = 805 := by omega
    have fe1 : nv β 1 = 12 := by omega
    have fe2 : nv β 2 = 12 := by omega
    try simp only [fe0, fe1, fe2, Int.reduceToNat] at f2 f3 f4 f5
    have s0 : nv β 0 = nv α1 0 := nv_le H1.1 (by omega)
    have s1 : nv β 1 = nv α1 1 := nv_le H1.1 (by omega)
    have c0 := f2
    exact hd_run G (ss := []) (fuel := 20) (by decide +kernel) (as_backM H1 (by decide +kernel) hxa hf)
  · obtain ⟨f1, f2, f3, f4, f5⟩ := as_fx H1
    simp only [kh_waterDeal_b228_1, fx_env, fx_c, fx_ne, fx_hf, wl_S, Nat.zero_add, Nat.reduceAdd, Nat.reduceDiv, Nat.reduceMod, List.getElem?_cons_zero, List.getElem?_cons_succ, if_true, and_true, true_and] at f1 f2 f3 f4 f5
    have fe0 : nv β 0 = 805 := by omega
    have fe2 : nv β 2 = 12 := by omega
    try simp only [fe0, fe2, Int.reduceToNat] at f2 f3 f4 f5
    have s0 : nv β 0 = nv α1 0 := nv_le H1.1 (by omega)
    have s1 : nv β 1 = nv α1 1 := nv_le H1.1 (by omega)
    have c0 := f2
    obtain ⟨α', Ha, hm⟩ := hd_gpM (q := kh_waterDeal_a228) (n := 0) (by decide +kernel) hx H1 (by decide +kernel) hxa hf
    have hfr := H1.2.2.2.2.2.2.2.2.2.2.1
    have m0 : nv α' 0 = nv β 0 := hm 0 0 rfl
    have m1 : nv α' 1 = nv β 3 := hm 1 3 rfl
    refine ih.2.2.2.2.2.2.2.2.2.2.1 _ _ _ _ Ha ?_ ?_
    · trivial
    · omega
set_option maxHeartbeats 16000000 in
set_option maxRecDepth 8000 in
theorem kh_waterDeal_ok : ct_ok wd_fl2 kh_waterDeal := ct_hand (ff := wd_ff2) (y := kh_waterDeal_y) (Cs := [kh_559, kh_562, kh_570, kh_wFind, kh_ranks, kh_575, kh_576, kh_577, kh_578, kh_579, kh_580, kh_581, kh_582, kh_583, kh_584, kh_585, kh_586, kh_wSend]) wd_fl2_ok rfl (List.forall_mem_cons.mpr ⟨kh_559_ok, (List.forall_mem_cons.mpr ⟨kh_562_ok, (List.forall_mem_cons.mpr ⟨kh_570_ok, (List.forall_mem_cons.mpr ⟨kh_wFind_ok, (List.forall_mem_cons.mpr ⟨kh_ranks_l2, (List.forall_mem_cons.mpr ⟨kh_575_ok, (List.forall_mem_cons.mpr ⟨kh_576_ok, (List.forall_mem_cons.mpr ⟨kh_577_ok, (List.forall_mem_cons.mpr ⟨kh_578_ok, (List.forall_mem_cons.mpr ⟨kh_579_ok, (List.forall_mem_cons.mpr ⟨kh_580_ok, (List.forall_mem_cons.mpr ⟨kh_581_ok, (List.forall_mem_cons.mpr ⟨kh_582_ok, (List.forall_mem_cons.mpr ⟨kh_583_ok, (List.forall_mem_cons.mpr ⟨kh_584_ok, (List.forall_mem_cons.mpr ⟨kh_585_ok, (List.forall_mem_cons.mpr ⟨kh_586_ok, (List.forall_mem_cons.mpr ⟨kh_wSend_ok, (List.forall_mem_nil _)⟩)⟩)⟩)⟩)⟩)⟩)⟩)⟩)⟩)⟩)⟩)⟩)⟩)⟩)⟩)⟩)⟩)⟩) (by decide +kernel) (fun l D tc ad kd N sm xs S p e s m args below meth c sz lv G H0 => by
  have hx : xs.length = 1 := by rw [H0.2.1.1]; rfl
  have hP : ∀ (k : Nat), kh_waterDeal_I l D tc ad kd N sm xs S p e s m args below meth c sz k := by
    intro k
    induction k with
    | zero => exact ⟨fun _ _ _ _ _ _ h => absurd h (Nat.not_lt_zero _), fun _ _ _ _ _ _ h => absurd h (Nat.not_lt_zero _), fun _ _ _ _ _ _ h => absurd h (Nat.not_lt_zero _), fun _ _ _ _ _ _ h => absurd h (Nat.not_lt_zero _), fun _ _ _ _ _ _ h => absurd h (Nat.not_lt_zero _), fun _ _ _ _ _ _ h => absurd h (Nat.not_lt_zero _), fun _ _ _ _ _ _ h => absurd h (Nat.not_lt_zero _), fun _ _ _ _ _ _ h => absurd h (Nat.not_lt_zero _), fun _ _ _ _ _ _ h => absurd h (Nat.not_lt_zero _), fun _ _ _ _ _ _ h => absurd h (Nat.not_lt_zero _), fun _ _ _ _ _ _ h => absurd h (Nat.not_lt_zero _), trivial⟩
    | succ k ih => exact ⟨kh_waterDeal_h14 G H0 ih, kh_waterDeal_h45 G H0 ih, kh_waterDeal_h56 G H0 ih, kh_waterDeal_h59 G H0 ih, kh_waterDeal_h78 G H0 ih, kh_waterDeal_h99 G H0 ih, kh_waterDeal_h172 G H0 ih, kh_waterDeal_h182 G H0 ih, kh_waterDeal_h185 G H0 ih, kh_waterDeal_h208 G H0 ih, kh_waterDeal_h228 G H0 ih, trivial⟩
  obtain ⟨α1, hle, Hr⟩ := as_recM (pl := []) [((827, 827), (0, 2, 1)), ((827, 827), (3, 6, 1)), ((828, 828), (0, 2, 1)), ((828, 828), (3, 6, 1)), ((829, 829), (0, 6, 1)), ((830, 830), (0, 6, 1)), ((831, 831), (0, 11, 1)), ((832, 832), (0, 11, 1)), ((838, 838), (0, 11, 1)), ((839, 839), (0, 33, 1))] (by decide +kernel) H0
  have hf := H0.2.2.2.2.2.2.2.2.2.2.1
  have hl1 : α1.length = 1 := by rw [Hr.2.1.1]; rfl
  have hl0 : xs.length = 1 := by rw [H0.2.1.1]; rfl
  have hxa : al_le xs α1 := H0.1.trans hle
  obtain ⟨g1, -, g3, g4, -⟩ := as_fx Hr
  have g0 : (805 ≤ nv α1 0 ∧ nv α1 0 ≤ 805) ∧ True := by
    refine ⟨by have h := (en_nv (i := 0) Hr.2.1 rfl).2; exact h, trivial⟩
  have r0 : nv α1 0 = nv xs 0 := nv_le hle (by omega)
  refine hd_segM G (na := 1) (fuel := 600) (first := true) (Bs := [kh_waterDeal_b0_0]) (by decide +kernel) hl1 Hr ?_
  intro q hq β lv' st' S' H1
  simp only [List.mem_cons, List.not_mem_nil, or_false] at hq
  rcases hq with rfl
  · obtain ⟨f1, f2, f3, f4, f5⟩ := as_fx H1
    simp only [kh_waterDeal_b0_0, fx_env, fx_c, fx_ne, fx_hf, wl_S, Nat.zero_add, Nat.reduceAdd, Nat.reduceDiv, Nat.reduceMod, List.getElem?_cons_zero, List.getElem?_cons_succ, if_true, and_true, true_and] at f1 f2 f3 f4 f5
    have fe0 : nv β 0 = 805 := by omega
    have fe1 : nv β 1 = 0 := by omega
    try simp only [fe0, fe1, Int.reduceToNat] at f2 f3 f4 f5
    have s0 : nv β 0 = nv α1 0 := nv_le H1.1 (by omega)
    obtain ⟨α', Ha, hm⟩ := hd_gpM (q := kh_waterDeal_a14) (n := 0) (by decide +kernel) hx H1 (by decide +kernel) hxa hf
    have hfr := H1.2.2.2.2.2.2.2.2.2.2.1
    have m0 : nv α' 0 = nv β 0 := hm 0 0 rfl
    have m1 : nv α' 1 = nv β 1 := hm 1 1 rfl
    refine (hP _).1 _ _ _ _ Ha ?_ (Nat.lt_succ_self _)
    · trivial)
/- UtilityWorksModel in -/
def kh_587 : ct_T := (353, [(0, (-2147483648), 2147483647, 1), (0, 0, 0, 0), (0, 11, 11, 0)], [], [], [(1, (0, 1, 1, 0), [(0, 0, 11, 1), (0, 0, 0, 0), (0, 11, 11, 0)], [], ([], [])), (1, (0, 0, 0, 0), [(0, (-2147483648), 2147483647, 1), (0, 0, 0, 0), (0, 11, 11, 0)], [], ([], []))], [], 0, 0, 0)
theorem kh_587_ok : ct_ok wd_fl2 kh_587 := ct_of (ff := wd_ff2) (y := (⟨"UtilityWorksModel", "in", "(III)Z"⟩, prog_14_method_5_code, 3, some .boolean, 12, 0, 3, 32192, 32191, 0, 21014)) (Cs := []) (an := [(14, 0, ([((0, (-2147483648), 2147483647, 1), none), ((0, 0, 0, 0), none), ((0, 11, 11, 0), none)], [(0, 0), (1, 1), (2, 2)], [], [], [], [], [], [], none), [(0, 0, 99986)])]) (ss := []) (K := 1) (fuel := 4000) wd_fl2_ok rfl (List.forall_mem_nil _) (by decide +kernel)
/- UtilityWorksModel fails -/
def kh_588 : ct_T := (355, [(2, 805, 805, 0), (0, 1, 1, 0), (0, 1, 1, 0)], [], [], [(1, (0, 0, 0, 0), [(2, 805, 805, 0), (0, 1, 1, 0), (0, 1, 1, 0)], [((805, 805), (8, 8, 0), (0, 0, 0, 0))], ([], []))], [((805, 805), (8, 8, 0))], 0, 0, 0)
theorem kh_588_ok : ct_ok wd_fl2 kh_588 := ct_of (ff := wd_ff2) (y := (⟨"UtilityWorksModel", "fails", "(ZI)Z"⟩, prog_14_method_3_code, 3, some .boolean, 12, 1, 2, 32199, 32198, 5003, 21014)) (Cs := []) (an := []) (ss := []) (K := 1) (fuel := 4000) wd_fl2_ok rfl (List.forall_mem_nil _) (by decide +kernel)
/- UtilityWorksModel in -/
def kh_589 : ct_T := (353, [(0, (-2147483648), 2147483647, 1), (0, 1, 1, 0), (0, 500, 500, 0)], [], [], [(1, (0, 1, 1, 0), [(0, 1, 500, 1), (0, 1, 1, 0), (0, 500, 500, 0)], [], ([], [])), (1, (0, 0, 0, 0), [(0, (-2147483648), 2147483647, 1), (0, 1, 1, 0), (0, 500, 500, 0)], [], ([], []))], [], 0, 0, 0)
theorem kh_589_ok : ct_ok wd_fl2 kh_589 := ct_of (ff := wd_ff2) (y := (⟨"UtilityWorksModel", "in", "(III)Z"⟩, prog_14_method_5_code, 3, some .boolean, 12, 0, 3, 32192, 32191, 0, 21014)) (Cs := []) (an := [(14, 0, ([((0, (-2147483648), 2147483647, 1), none), ((0, 1, 1, 0), none), ((0, 500, 500, 0), none)], [(0, 0), (1, 1), (2, 2)], [], [], [], [], [], [], none), [(0, 0, 99986)])]) (ss := []) (K := 1) (fuel := 4000) wd_fl2_ok rfl (List.forall_mem_nil _) (by decide +kernel)
/- UtilityWorksModel fails -/
def kh_590 : ct_T := (355, [(2, 805, 805, 0), (0, 1, 1, 0), (0, 2, 2, 0)], [], [], [(1, (0, 0, 0, 0), [(2, 805, 805, 0), (0, 1, 1, 0), (0, 2, 2, 0)], [((805, 805), (8, 8, 0), (0, 0, 0, 0))], ([], []))], [((805, 805), (8, 8, 0))], 0, 0, 0)
theorem kh_590_ok : ct_ok wd_fl2 kh_590 := ct_of (ff := wd_ff2) (y := (⟨"UtilityWorksModel", "fails", "(ZI)Z"⟩, prog_14_method_3_code, 3, some .boolean, 12, 1, 2, 32199, 32198, 5003, 21014)) (Cs := []) (an := []) (ss := []) (K := 1) (fuel := 4000) wd_fl2_ok rfl (List.forall_mem_nil _) (by decide +kernel)
/- UtilityWorksModel fails -/
def kh_591 : ct_T := (355, [(2, 805, 805, 0), (0, 0, 0, 0), (0, 2, 2, 0)], [], [], [(1, (0, 1, 1, 0), [(2, 805, 805, 0), (0, 0, 0, 0), (0, 2, 2, 0)], [((805, 805), (8, 8, 0), (0, 2, 2, 0))], ([], []))], [((805, 805), (8, 8, 0))], 0, 0, 0)
theorem kh_591_ok : ct_ok wd_fl2 kh_591 := ct_of (ff := wd_ff2) (y := (⟨"UtilityWorksModel", "fails", "(ZI)Z"⟩, prog_14_method_3_code, 3, some .boolean, 12, 1, 2, 32199, 32198, 5003, 21014)) (Cs := []) (an := []) (ss := []) (K := 1) (fuel := 4000) wd_fl2_ok rfl (List.forall_mem_nil _) (by decide +kernel)
/- UtilityWorksModel fails -/
def kh_592 : ct_T := (355, [(2, 805, 805, 0), (0, 0, 0, 0), (0, 1, 1, 0)], [], [], [(1, (0, 1, 1, 0), [(2, 805, 805, 0), (0, 0, 0, 0), (0, 1, 1, 0)], [((805, 805), (8, 8, 0), (0, 1, 1, 0))], ([], []))], [((805, 805), (8, 8, 0))], 0, 0, 0)
theorem kh_592_ok : ct_ok wd_fl2 kh_592 := ct_of (ff := wd_ff2) (y := (⟨"UtilityWorksModel", "fails", "(ZI)Z"⟩, prog_14_method_3_code, 3, some .boolean, 12, 1, 2, 32199, 32198, 5003, 21014)) (Cs := []) (an := []) (ss := []) (K := 1) (fuel := 4000) wd_fl2_ok rfl (List.forall_mem_nil _) (by decide +kernel)
/- UtilityWorksModel wTankHead -/
def kh_593 : ct_T := (464, [(2, 805, 805, 0), (0, 0, 0, 0)], [], [], [(1, (0, (-2147483648), 2147483647, 1), [(2, 805, 805, 0), (0, 0, 0, 0)], [], ([], []))], [], 1, 21, 0)
theorem kh_593_ok : ct_ok wd_fl2 kh_593 := ct_of (ff := wd_ff2) (y := (⟨"UtilityWorksModel", "wTankHead", "(I)I"⟩, prog_14_method_124_code, 2, some .int, 12, 1, 1, 34149, 34148, 11003, 21014)) (Cs := [kh_heightOf]) (an := []) (ss := []) (K := 1) (fuel := 4000) wd_fl2_ok rfl (List.forall_mem_cons.mpr ⟨kh_heightOf_ok, (List.forall_mem_nil _)⟩) (by decide +kernel)
/- UtilityWorksModel wTankHead -/
def kh_594 : ct_T := (464, [(2, 805, 805, 0), (0, 0, 1, 1)], [], [], [(1, (0, (-2147483648), 2147483647, 1), [(2, 805, 805, 0), (0, 0, 1, 1)], [], ([], []))], [], 1, 21, 0)
theorem kh_594_ok : ct_ok wd_fl2 kh_594 := ct_of (ff := wd_ff2) (y := (⟨"UtilityWorksModel", "wTankHead", "(I)I"⟩, prog_14_method_124_code, 2, some .int, 12, 1, 1, 34149, 34148, 11003, 21014)) (Cs := [kh_heightOf]) (an := []) (ss := []) (K := 1) (fuel := 4000) wd_fl2_ok rfl (List.forall_mem_cons.mpr ⟨kh_heightOf_ok, (List.forall_mem_nil _)⟩) (by decide +kernel)
/- UtilityWorksModel wTankHead -/
def kh_595 : ct_T := (464, [(2, 805, 805, 0), (0, 0, 2, 1)], [], [], [(1, (0, (-2147483648), 2147483647, 1), [(2, 805, 805, 0), (0, 0, 2, 1)], [], ([], []))], [], 1, 21, 0)
theorem kh_595_ok : ct_ok wd_fl2 kh_595 := ct_of (ff := wd_ff2) (y := (⟨"UtilityWorksModel", "wTankHead", "(I)I"⟩, prog_14_method_124_code, 2, some .int, 12, 1, 1, 34149, 34148, 11003, 21014)) (Cs := [kh_heightOf]) (an := []) (ss := []) (K := 1) (fuel := 4000) wd_fl2_ok rfl (List.forall_mem_cons.mpr ⟨kh_heightOf_ok, (List.forall_mem_nil _)⟩) (by decide +kernel)
abbrev kh_fire_y : mt_T := (⟨"UtilityWorksModel", "fire", "(II)I"⟩, prog_14_method_150_code, 5, some .int, 12, 1, 2, 36239, 36237, 36238, 21014)
def kh_fire : ct_T := (605, [(2, 805, 805, 0), (0, (-2147483648), 2147483647, 1), (0, (-2147483648), 2147483647, 1)], [], [], [(1, (0, (-2147483648), 2147483647, 1), [(2, 805, 805, 0), (0, (-2147483648), 2147483647, 1), (0, (-2147483648), 2147483647, 1)], [], ([], []))], [((805, 805), (8, 8, 0)), ((805, 805), (46, 46, 0)), ((805, 805), (47, 47, 0)), ((806, 806), (1016, 1028, 4)), ((807, 807), (25, 25, 0)), ((827, 827), (3, 6, 1)), ((828, 828), (3, 6, 1)), ((829, 829), (0, 6, 1)), ((830, 830), (0, 6, 1)), ((832, 832), (0, 11, 1)), ((838, 838), (0, 11, 1)), ((839, 839), (0, 33, 1)), ((840, 840), (0, 11, 1)), ((841, 841), (0, 10, 1))], 8, 188, 0)
def kh_fire_a39 : an_T := (39, 0, ([((2, 805, 805, 0), none), ((0, 0, 11, 1), none), ((0, 1, 500, 1), none), ((0, 0, 4, 1), none)], [(0, 0), (1, 1), (2, 2), (3, 3)], [], [], [], [], [], [], none), [])
def kh_fire_a121 : an_T := (121, 0, ([((2, 805, 805, 0), none), ((0, 0, 11, 1), none), ((0, 1, 500, 1), none), ((0, (-2147483648), 2147483647, 1), none)], [(0, 0), (1, 1), (2, 2), (3, 3)], [], [], [], [], [], [], none), [])
def kh_fire_a133 : an_T := (133, 0, ([((2, 805, 805, 0), none), ((0, 0, 11, 1), none), ((0, 1, 500, 1), none), ((0, (-2147483648), 2147483647, 1), none), ((0, (-2147483648), 2147483647, 1), none)], [(0, 0), (1, 1), (2, 2), (3, 3)], [0, 4], [], [], [], [], [], none), [])
def kh_fire_a136 : an_T := (136, 0, ([((2, 805, 805, 0), none), ((0, 0, 11, 1), none), ((0, 1, 500, 1), none), ((0, (-2147483648), 2147483647, 1), none), ((0, (-2147483648), 2147483647, 1), none), ((0, (-2147483648), 2147483647, 1), none)], [(0, 0), (1, 1), (2, 2), (3, 3)], [4, 5], [], [], [], [], [], none), [])
def kh_fire_a144 : an_T := (144, 0, ([((2, 805, 805, 0), none), ((0, 0, 11, 1), none), ((0, 1, 500, 1), none), ((0, (-2147483648), 2147483647, 1), none), ((0, 0, 4, 1), none)], [(0, 0), (1, 1), (2, 2), (3, 3), (4, 4)], [], [], [], [], [], [], none), [])
def kh_fire_b0_0 : sg_T := (39, 0, ([((2, 805, 805, 0), none), ((0, 0, 11, 1), none), ((0, 1, 500, 1), none), ((0, 0, 0, 0), none), ((0, 11, 11, 0), none), ((0, 1, 1, 0), none), ((0, 1, 1, 0), none), ((0, 0, 0, 0), none), ((0, 1, 1, 0), none), ((0, 500, 500, 0), none), ((0, 1, 1, 0), none), ((0, 2, 2, 0), none), ((0, 0, 0, 0), none), ((0, 0, 0, 0), none)], [(3, 13), (0, 0), (1, 1), (2, 2)], [], [], [], [], [], [], none))
def kh_fire_b0_1 : sg_T := (32, 0, ([((2, 805, 805, 0), none), ((0, 0, 11, 1), none), ((0, (-2147483648), 2147483647, 1), none), ((0, 0, 0, 0), none), ((0, 11, 11, 0), none), ((0, 1, 1, 0), none), ((0, 1, 1, 0), none), ((0, 0, 0, 0), none), ((0, 1, 1, 0), none), ((0, 500, 500, 0), none), ((0, 0, 0, 0), none), ((0, 2, 2, 0), none), ((0, 1, 1, 0), none), ((0, 0, 0, 0), none)], [(0, 0), (1, 1), (2, 2)], [13], [], [(12, 0)], [], [], [], none))
def kh_fire_b0_2 : sg_T := (32, 0, ([((2, 805, 805, 0), none), ((0, (-2147483648), 2147483647, 1), none), ((0, (-2147483648), 2147483647, 1), none), ((0, 0, 0, 0), none), ((0, 11, 11, 0), none), ((0, 0, 0, 0), none), ((0, 1, 1, 0), none), ((0, 1, 1, 0), none), ((0, 0, 0, 0), none)], [(0, 0), (1, 1), (2, 2)], [8], [], [(7, 0)], [], [], [], none))
def kh_fire_b39_0 : sg_T := (121, 0, ([((2, 805, 805, 0), none), ((0, 0, 11, 1), none), ((0, 1, 500, 1), none), ((0, 1, 4, 1), none), ((2, 806, 806, 1), none), ((0, 1013, 1013, 0), none), ((0, 1, 4, 1), none), ((2, 832, 832, 1), none), ((0, 0, 0, 0), none)], [(3, 8), (0, 0), (1, 1), (2, 2)], [], [(7, 1, 2), (4, 5, 6)], [], [(200000, 6, 3), (800006, 4, 5)], [], [], some [(7, 1, 2)]))
def kh_fire_b39_1 : sg_T := (39, 0, ([((2, 805, 805, 0), none), ((0, 0, 11, 1), none), ((0, 1, 500, 1), none), ((0, 0, 3, 1), none), ((2, 806, 806, 1), none), ((0, 1013, 1013, 0), none), ((0, 1, 4, 1), none), ((2, 827, 827, 1), none), ((0, 3, 3, 0), none), ((0, 3, 6, 1), none), ((2, 806, 806, 1), none), ((0, 1014, 1014, 0), none), ((0, 4, 4, 0), none), ((0, 0, 12, 4), none), ((0, 1014, 1026, 4), none), ((0, 0, 11, 1), none), ((2, 828, 828, 1), none), ((0, 3, 3, 0), none), ((0, 3, 6, 1), none), ((0, (-2147483648), 2147483647, 1), none), ((2, 829, 829, 1), none), ((0, 3, 3, 0), none), ((0, 3, 6, 1), none), ((2, 806, 806, 1), none), ((0, 1014, 1014, 0), none), ((0, 4, 4, 0), none), ((0, 0, 12, 4), none), ((0, 1014, 1026, 4), none), ((0, 2, 2, 0), none), ((0, 1016, 1028, 4), some (27, 2)), ((0, (-2147483648), 2147483647, 1), none), ((0, 1, 4, 1), some (3, 1))], [(3, 31), (0, 0), (1, 1), (2, 2)], [], [(20, 22, 30), (23, 29, 30), (16, 18, 19), (7, 9, 15), (10, 14, 15), (4, 5, 6)], [], [(500029, 27, 28), (500027, 24, 26), (700026, 25, 3), (500022, 21, 3), (500018, 17, 3), (800015, 10, 14), (500014, 11, 13), (700013, 12, 3), (500009, 8, 3), (100000, 3, 6), (800006, 4, 5)], [], [], some [(20, 22, 30), (16, 18, 19), (7, 9, 15)]))
def kh_fire_b121_0 : sg_T := (144, 0, ([((2, 805, 805, 0), none), ((0, 0, 11, 1), none), ((0, 1, 500, 1), none), ((0, (-2147483648), 2147483647, 1), none), ((0, 3, 3, 0), none), ((0, 6, 6, 0), none), ((0, 0, 0, 0), none), ((0, 0, 0, 0), none)], [(4, 7), (0, 0), (1, 1), (2, 2), (3, 3)], [], [], [], [], [], [], none))
def kh_fire_b121_1 : sg_T := (133, 0, ([((2, 805, 805, 0), none), ((0, 0, 11, 1), none), ((0, 1, 500, 1), none), ((0, (-2147483648), 2147483647, 1), none), ((0, 3, 3, 0), none), ((0, 6, 6, 0), none), ((0, 1, 1, 0), none)], [(0, 0), (1, 1), (2, 2), (3, 3)], [0, 3], [], [(6, 0)], [], [], [504], none))
def kh_fire_b133_0 : sg_T := (136, 0, ([((2, 805, 805, 0), none), ((0, 0, 11, 1), none), ((0, 1, 500, 1), none), ((0, (-2147483648), 2147483647, 1), none), ((0, (-2147483648), 2147483647, 1), none), ((0, (-2147483648), 2147483647, 1), none)], [(0, 0), (1, 1), (2, 2), (3, 3)], [5, 4], [], [], [], [], [], none))
def kh_fire_b136_0 : sg_T := (121, 0, ([((2, 805, 805, 0), none), ((0, 0, 11, 1), none), ((0, 1, 500, 1), none), ((0, (-2147483648), 2147483647, 1), none), ((0, (-2147483648), 2147483647, 1), none), ((0, (-2147483648), 2147483647, 1), none), ((0, (-2147483648), 2147483647, 1), none)], [(3, 6), (0, 0), (1, 1), (2, 2)], [], [], [], [], [], [], some []))
def kh_fire_b144_0 : sg_T := (203, 0, ([((2, 805, 805, 0), none), ((0, 0, 11, 1), none), ((0, 1, 500, 1), none), ((0, (-2147483648), 2147483647, 1), none), ((0, 1, 4, 1), none), ((2, 806, 806, 1), none), ((0, 1013, 1013, 0), none), ((0, 1, 4, 1), none), ((2, 807, 807, 1), none), ((0, 25, 25, 0), none), ((1, (-9223372036854775808), 9223372036854775807, 1), none), ((1, (-2147483648), 2147483647, 1), none), ((1, (-9223372036854775808), 9223372036854775807, 1), none)], [(0, 0), (1, 1), (2, 2), (3, 3), (4, 4)], [3], [(5, 6, 7)], [], [(800010, 8, 9), (200000, 7, 4), (800007, 5, 6)], [], [], none))
def kh_fire_b144_1 : sg_T := (144, 0, ([((2, 805, 805, 0), none), ((0, 0, 11, 1), none), ((0, 1, 500, 1), none), ((0, (-2147483648), 2147483647, 1), none), ((0, 0, 3, 1), none), ((2, 806, 806, 1), none), ((0, 1013, 1013, 0), none), ((0, 1, 4, 1), none), ((2, 806, 806, 1), none), ((0, 1014, 1014, 0), none), ((0, 4, 4, 0), none), ((0, 0, 12, 4), none), ((0, 1014, 1026, 4), none), ((0, 2, 2, 0), none), ((0, 1016, 1028, 4), some (12, 2)), ((0, (-2147483648), 2147483647, 1), none), ((2, 830, 830, 1), none), ((0, 3, 3, 0), none), ((0, 3, 6, 1), none), ((0, (-2147483648), 2147483647, 1), none), ((0, (-2147483648), 2147483647, 1), none), ((0, 1, 4, 1), some (4, 1))], [(4, 21), (0, 0), (1, 1), (2, 2), (3, 3)], [], [(8, 14, 20), (16, 18, 19), (5, 6, 7)], [], [(800019, 16, 18), (500018, 17, 4), (800015, 8, 14), (500014, 12, 13), (500012, 9, 11), (700011, 10, 4), (100000, 4, 7), (800007, 5, 6)], [], [], some [(8, 14, 20)]))
def kh_fire_I (l : Launch) (D : va_G) (tc : Nat → ClassId) (ad : Nat → Nat) (kd : Nat → Nat × Nat) (N : Nat) (sm : Nat → Nat) (xs : List av_X) (S : fw_S) (p : Program) (e : Env) (s : State) (m : MethodId) (args : Array Value) (below : List Frame) (meth : Method) (c : Code) (sz : Nat) (k : Nat) : Prop := (∀ (α : List av_X) (lv : List (Nat × Value)) (st : List Value) (S1 : fw_S), as_in ad sm wd_fl2 xs S kh_fire.2.2.2.2.2.1 α kh_fire_a39.2.2.1 lv st S1 → (True) → 2000000000000 + (5 - nv α 3).toNat < k → hd_W wd_fl2 kh_fire kh_fire_y l D tc ad kd N sm xs S p e s m args below meth c sz 39 lv st S1 0) ∧ (∀ (α : List av_X) (lv : List (Nat × Value)) (st : List Value) (S1 : fw_S), as_in ad sm wd_fl2 xs S kh_fire.2.2.2.2.2.1 α kh_fire_a121.2.2.1 lv st S1 → (True) → 1000000000000 + 10 * yS (S1.1 832) 12 + 9 < k → hd_W wd_fl2 kh_fire kh_fire_y l D tc ad kd N sm xs S p e s m args below meth c sz 121 lv st S1 0) ∧ (∀ (α : List av_X) (lv : List (Nat × Value)) (st : List Value) (S1 : fw_S), as_in ad sm wd_fl2 xs S kh_fire.2.2.2.2.2.1 α kh_fire_a133.2.2.1 lv st S1 → (wOK S1) → 1000000000000 + 10 * yS (S1.1 832) 12 + 8 < k → hd_W wd_fl2 kh_fire kh_fire_y l D tc ad kd N sm xs S p e s m args below meth c sz 133 lv st S1 0) ∧ (∀ (α : List av_X) (lv : List (Nat × Value)) (st : List Value) (S1 : fw_S), as_in ad sm wd_fl2 xs S kh_fire.2.2.2.2.2.1 α kh_fire_a136.2.2.1 lv st S1 → (True) → 1000000000000 + 10 * yS (S1.1 832) 12 + 15 < k → hd_W wd_fl2 kh_fire kh_fire_y l D tc ad kd N sm xs S p e s m args below meth c sz 136 lv st S1 0) ∧ (∀ (α : List av_X) (lv : List (Nat × Value)) (st : List Value) (S1 : fw_S), as_in ad sm wd_fl2 xs S kh_fire.2.2.2.2.2.1 α kh_fire_a144.2.2.1 lv st S1 → (True) → (5 - nv α 4).toNat < k → hd_W wd_fl2 kh_fire kh_fire_y l D tc ad kd N sm xs S p e s m args below meth c sz 144 lv st S1 0) ∧ True
set_option maxHeartbeats 16000000 in
set_option maxRecDepth 8000 in
theorem kh_fire_h39 {l : Launch} {D : va_G} {tc : Nat → ClassId} {ad : Nat → Nat} {kd : Nat → Nat × Nat} {N : Nat} {sm : Nat → Nat} {xs : List av_X} {S : fw_S} {p : Program} {e : Env} {s : State} {m : MethodId} {args : Array Value} {below : List Frame} {meth : Method} {c : Code} {sz : Nat} {lvE : List (Nat × Value)} (G : hd_C wd_ff2 wd_fl2 kh_fire [kh_587, kh_588, kh_589, kh_590, kh_559, kh_591, kh_592, kh_593, kh_594, kh_595, kh_561, kh_wFind, kh_wSend] kh_fire_y l D tc ad kd N sm xs p s m args meth c sz) (H0 : as_in ad sm wd_fl2 xs S kh_fire.2.2.2.2.2.1 xs (hd_0 kh_fire) lvE [] S) {k : Nat} (ih : kh_fire_I l D tc ad kd N sm xs S p e s m args below meth c sz k) : (∀ (α : List av_X) (lv : List (Nat × Value)) (st : List Value) (S1 : fw_S), as_in ad sm wd_fl2 xs S kh_fire.2.2.2.2.2.1 α kh_fire_a39.2.2.1 lv st S1 → (True) → 2000000000000 + (5 - nv α 3).toNat < k + 1 → hd_W wd_fl2 kh_fire kh_fire_y l D tc ad kd N sm xs S p e s m args below meth c sz 39 lv st S1 0) := by
  have hx : xs.length = 3 := by rw [H0.2.1.1]; rfl
  intro α lv st S1 H hp hk
  obtain ⟨α1, hle, Hr⟩ := as_recM (pl := []) [((827, 827), (3, 6, 1)), ((828, 828), (3, 6, 1)), ((829, 829), (3, 6, 1)), ((832, 832), (0, 11, 1))] (by decide +kernel) H
  have hf := H.2.2.2.2.2.2.2.2.2.2.1
  have hl1 : α1.length = 4 := by rw [Hr.2.1.1]; rfl
  have hl0 : α.length = 4 := by rw [H.2.1.1]; rfl
  have hxa : al_le xs α1 := H.1.trans hle
  obtain ⟨g1, -, g3, g4, -⟩ := as_fx Hr
  have g0 : (805 ≤ nv α1 0 ∧ nv α1 0 ≤ 805) ∧ (0 ≤ nv α1 1 ∧ nv α1 1 ≤ 11) ∧ (1 ≤ nv α1 2 ∧ nv α1 2 ≤ 500) ∧ (0 ≤ nv α1 3 ∧ nv α1 3 ≤ 4) ∧ True := by
    refine ⟨by have h := (en_nv (i := 0) Hr.2.1 rfl).2; exact h, by have h := (en_nv (i := 1) Hr.2.1 rfl).2; exact h, by have h := (en_nv (i := 2) Hr.2.1 rfl).2; exact h, by have h := (en_nv (i := 3) Hr.2.1 rfl).2; exact h, trivial⟩
  have r0 : nv α1 0 = nv α 0 := nv_le hle (by omega)
  have r1 : nv α1 1 = nv α 1 := nv_le hle (by omega)
  have r2 : nv α1 2 = nv α 2 := nv_le hle (by omega)
  have r3 : nv α1 3 = nv α 3 := nv_le hle (by omega)
  refine hd_segM G (na := 4) (fuel := 600) (first := true) (Bs := [kh_fire_b39_0, kh_fire_b39_1]) (by decide +kernel) hl1 Hr ?_
  intro q hq β lv' st' S' H1
  simp only [List.mem_cons, List.not_mem_nil, or_false] at hq
  rcases hq with rfl | rfl
  · obtain ⟨f1, f2, f3, f4, f5⟩ := as_fx H1
    simp only [kh_fire_b39_0, fx_env, fx_c, fx_ne, fx_hf, wl_S, Nat.zero_add, Nat.reduceAdd, Nat.reduceDiv, Nat.reduceMod, List.getElem?_cons_zero, List.getElem?_cons_succ, if_true, and_true, true_and] at f1 f2 f3 f4 f5
    have fe0 : nv β 0 = 805 := by omega
    have fe4 : nv β 4 = 806 := by omega
    have fe5 : nv β 5 = 1013 := by omega
    have fe7 : nv β 7 = 832 := by omega
    have fe8 : nv β 8 = 0 := by omega
    try simp only [fe0, fe4, fe5, fe7, fe8, Int.reduceToNat] at f2 f3 f4 f5
    have s0 : nv β 0 = nv α1 0 := nv_le H1.1 (by omega)
    have s1 : nv β 1 = nv α1 1 := nv_le H1.1 (by omega)
    have s2 : nv β 2 = nv α1 2 := nv_le H1.1 (by omega)
    have s3 : nv β 3 = nv α1 3 := nv_le H1.1 (by omega)
    obtain ⟨c0, c1⟩ := f2
    obtain ⟨α', Ha, hm⟩ := hd_gpM (q := kh_fire_a121) (n := 0) (by decide +kernel) hx H1 (by decide +kernel) hxa hf
    have hfr := H1.2.2.2.2.2.2.2.2.2.2.1
    have m0 : nv α' 0 = nv β 0 := hm 0 0 rfl
    have m1 : nv α' 1 = nv β 1 := hm 1 1 rfl
    have m2 : nv α' 2 = nv β 2 := hm 2 2 rfl
    have m3 : nv α' 3 = nv β 8 := hm 3 8 rfl
    subst S'
    have yb := yS_bd (f := (fw_i S1 832 (nv β 1).toNat (Int32.ofInt (nv β 2))).1 832) (n := 12)
    refine ih.2.1 _ _ _ _ Ha ?_ ?_
    · trivial
    · omega
  · obtain ⟨f1, f2, f3, f4, f5⟩ := as_fx H1
    simp only [kh_fire_b39_1, fx_env, fx_c, fx_ne, fx_hf, wl_S, Nat.zero_add, Nat.reduceAdd, Nat.reduceDiv, Nat.reduceMod, List.getElem?_cons_zero, List.getElem?_cons_succ, if_true, and_true, true_and] at f1 f2 f3 f4 f5
    have fe0 : nv β 0 = 805 := by omega
    have fe4 : nv β 4 = 806 := by omega
    have fe5 : nv β 5 = 1013 := by omega
    have fe7 : nv β 7 = 827 := by omega
    have fe8 : nv β 8 = 3 := by omega
    have fe10 : nv β 10 = 806 := by omega
    have fe11 : nv β 11 = 1014 := by omega
    have fe12 : nv β 12 = 4 := by omega
    have fe16 : nv β 16 = 828 := by omega
    have fe17 : nv β 17 = 3 := by omega
    have fe20 : nv β 20 = 829 := by omega
    have fe21 : nv β 21 = 3 := by omega
    have fe23 : nv β 23 = 806 := by omega
    have fe24 : nv β 24 = 1014 := by omega
    have fe25 : nv β 25 = 4 := by omega
    have fe28 : nv β 28 = 2 := by omega
    try simp only [fe0, fe4, fe5, fe7, fe8, fe10, fe11, fe12, fe16, fe17, fe20, fe21, fe23, fe24, fe25, fe28, Int.reduceToNat] at f2 f3 f4 f5
    have s0 : nv β 0 = nv α1 0 := nv_le H1.1 (by omega)
    have s1 : nv β 1 = nv α1 1 := nv_le H1.1 (by omega)
    have s2 : nv β 2 = nv α1 2 := nv_le H1.1 (by omega)
    have s3 : nv β 3 = nv α1 3 := nv_le H1.1 (by omega)
    obtain ⟨c0, c1, c2, c3, c4, c5, c6, c7, c8, c9, c10⟩ := f2
    obtain ⟨α', Ha, hm⟩ := hd_gpM (q := kh_fire_a39) (n := 0) (by decide +kernel) hx H1 (by decide +kernel) hxa hf
    have hfr := H1.2.2.2.2.2.2.2.2.2.2.1
    have m0 : nv α' 0 = nv β 0 := hm 0 0 rfl
    have m1 : nv α' 1 = nv β 1 := hm 1 1 rfl
    have m2 : nv α' 2 = nv β 2 := hm 2 2 rfl
    have m3 : nv α' 3 = nv β 31 := hm 3 31 rfl
    subst S'
    refine ih.1 _ _ _ _ Ha ?_ ?_
    · trivial
    · omega
set_option maxHeartbeats 16000000 in
set_option maxRecDepth 8000 in
theorem kh_fire_h121 {l : Launch} {D : va_G} {tc : Nat → ClassId} {ad : Nat → Nat} {kd : Nat → Nat × Nat} {N : Nat} {sm : Nat → Nat} {xs : List av_X} {S : fw_S} {p : Program} {e : Env} {s : State} {m : MethodId} {args : Array Value} {below : List Frame} {meth : Method} {c : Code} {sz : Nat} {lvE : List (Nat × Value)} (G : hd_C wd_ff2 wd_fl2 kh_fire [kh_587, kh_588, kh_589, kh_590, kh_559, kh_591, kh_592, kh_593, kh_594, kh_595, kh_561, kh_wFind, kh_wSend] kh_fire_y l D tc ad kd N sm xs p s m args meth c sz) (H0 : as_in ad sm wd_fl2 xs S kh_fire.2.2.2.2.2.1 xs (hd_0 kh_fire) lvE [] S) {k : Nat} (ih : kh_fire_I l D tc ad kd N sm xs S p e s m args below meth c sz k) : (∀ (α : List av_X) (lv : List (Nat × Value)) (st : List Value) (S1 : fw_S), as_in ad sm wd_fl2 xs S kh_fire.2.2.2.2.2.1 α kh_fire_a121.2.2.1 lv st S1 → (True) → 1000000000000 + 10 * yS (S1.1 832) 12 + 9 < k + 1 → hd_W wd_fl2 kh_fire kh_fire_y l D tc ad kd N sm xs S p e s m args below meth c sz 121 lv st S1 0) := by
  have hx : xs.length = 3 := by rw [H0.2.1.1]; rfl
  intro α lv st S1 H hp hk
  obtain ⟨α1, hle, Hr⟩ := as_recM (pl := []) [((805, 805), (46, 46, 0)), ((805, 805), (47, 47, 0)), ((840, 840), (0, 11, 1))] (by decide +kernel) H
  have hf := H.2.2.2.2.2.2.2.2.2.2.1
  have hl1 : α1.length = 4 := by rw [Hr.2.1.1]; rfl
  have hl0 : α.length = 4 := by rw [H.2.1.1]; rfl
  have hxa : al_le xs α1 := H.1.trans hle
  obtain ⟨g1, -, g3, g4, -⟩ := as_fx Hr
  have g0 : (805 ≤ nv α1 0 ∧ nv α1 0 ≤ 805) ∧ (0 ≤ nv α1 1 ∧ nv α1 1 ≤ 11) ∧ (1 ≤ nv α1 2 ∧ nv α1 2 ≤ 500) ∧ ((-2147483648) ≤ nv α1 3 ∧ nv α1 3 ≤ 2147483647) ∧ True := by
    refine ⟨by have h := (en_nv (i := 0) Hr.2.1 rfl).2; exact h, by have h := (en_nv (i := 1) Hr.2.1 rfl).2; exact h, by have h := (en_nv (i := 2) Hr.2.1 rfl).2; exact h, by have h := (en_nv (i := 3) Hr.2.1 rfl).2; exact h, trivial⟩
  have r0 : nv α1 0 = nv α 0 := nv_le hle (by omega)
  have r1 : nv α1 1 = nv α 1 := nv_le hle (by omega)
  have r2 : nv α1 2 = nv α 2 := nv_le hle (by omega)
  have r3 : nv α1 3 = nv α 3 := nv_le hle (by omega)
  refine hd_segM G (na := 4) (fuel := 600) (first := true) (Bs := [kh_fire_b121_0, kh_fire_b121_1]) (by decide +kernel) hl1 Hr ?_
  intro q hq β lv' st' S' H1
  simp only [List.mem_cons, List.not_mem_nil, or_false] at hq
  rcases hq with rfl | rfl
  · obtain ⟨f1, f2, f3, f4, f5⟩ := as_fx H1
    simp only [kh_fire_b121_0, fx_env, fx_c, fx_ne, fx_hf, wl_S, Nat.zero_add, Nat.reduceAdd, Nat.reduceDiv, Nat.reduceMod, List.getElem?_cons_zero, List.getElem?_cons_succ, if_true, and_true, true_and] at f1 f2 f3 f4 f5
    have fe0 : nv β 0 = 805 := by omega
    have fe4 : nv β 4 = 3 := by omega
    have fe5 : nv β 5 = 6 := by omega
    have fe6 : nv β 6 = 0 := by omega
    have fe7 : nv β 7 = 0 := by omega
    try simp only [fe0, fe4, fe5, fe6, fe7, Int.reduceToNat] at f2 f3 f4 f5
    have s0 : nv β 0 = nv α1 0 := nv_le H1.1 (by omega)
    have s1 : nv β 1 = nv α1 1 := nv_le H1.1 (by omega)
    have s2 : nv β 2 = nv α1 2 := nv_le H1.1 (by omega)
    have s3 : nv β 3 = nv α1 3 := nv_le H1.1 (by omega)
    obtain ⟨α', Ha, hm⟩ := hd_gpM (q := kh_fire_a144) (n := 0) (by decide +kernel) hx H1 (by decide +kernel) hxa hf
    have hfr := H1.2.2.2.2.2.2.2.2.2.2.1
    have m0 : nv α' 0 = nv β 0 := hm 0 0 rfl
    have m1 : nv α' 1 = nv β 1 := hm 1 1 rfl
    have m2 : nv α' 2 = nv β 2 := hm 2 2 rfl
    have m3 : nv α' 3 = nv β 3 := hm 3 3 rfl
    have m4 : nv α' 4 = nv β 7 := hm 4 7 rfl
    have yb := yS_bd (f := S1.1 832) (n := 12)
    refine ih.2.2.2.2.1 _ _ _ _ Ha ?_ ?_
    · trivial
    · omega
  · obtain ⟨f1, f2, f3, f4, f5⟩ := as_fx H1
    simp only [kh_fire_b121_1, fx_env, fx_c, fx_ne, fx_hf, wl_S, Nat.zero_add, Nat.reduceAdd, Nat.reduceDiv, Nat.reduceMod, List.getElem?_cons_zero, List.getElem?_cons_succ, if_true, and_true, true_and] at f1 f2 f3 f4 f5
    have fe0 : nv β 0 = 805 := by omega
    have fe4 : nv β 4 = 3 := by omega
    have fe5 : nv β 5 = 6 := by omega
    have fe6 : nv β 6 = 1 := by omega
    try simp only [fe0, fe4, fe5, fe6, Int.reduceToNat] at f2 f3 f4 f5
    have s0 : nv β 0 = nv α1 0 := nv_le H1.1 (by omega)
    have s1 : nv β 1 = nv α1 1 := nv_le H1.1 (by omega)
    have s2 : nv β 2 = nv α1 2 := nv_le H1.1 (by omega)
    have s3 : nv β 3 = nv α1 3 := nv_le H1.1 (by omega)
    obtain ⟨α', Ha, hm⟩ := hd_gpM (q := kh_fire_a133) (n := 0) (by decide +kernel) hx H1 (by decide +kernel) hxa hf
    have hfr := H1.2.2.2.2.2.2.2.2.2.2.1
    have m0 : nv α' 0 = nv β 0 := hm 0 0 rfl
    have m1 : nv α' 1 = nv β 1 := hm 1 1 rfl
    have m2 : nv α' 2 = nv β 2 := hm 2 2 rfl
    have m3 : nv α' 3 = nv β 3 := hm 3 3 rfl
    have m4 : nv α' 4 = nv β 3 := hm 4 3 rfl
    have hq : wOK S' := by
      have h := H1.2.2.2.2.2.2.2.2.1 504 (by decide +kernel)
      rw [wd_fl2, if_neg (by decide)] at h
      exact h
    have e2 := fr_row hfr 832 (by decide +kernel)
    refine ih.2.2.1 _ _ _ _ Ha ?_ ?_
    · exact hq
    · rw [e2]; omega
set_option maxHeartbeats 16000000 in
set_option maxRecDepth 8000 in
theorem kh_fire_h133 {l : Launch} {D : va_G} {tc : Nat → ClassId} {ad : Nat → Nat} {kd : Nat → Nat × Nat} {N : Nat} {sm : Nat → Nat} {xs : List av_X} {S : fw_S} {p : Program} {e : Env} {s : State} {m : MethodId} {args : Array Value} {below : List Frame} {meth : Method} {c : Code} {sz : Nat} {lvE : List (Nat × Value)} (G : hd_C wd_ff2 wd_fl2 kh_fire [kh_587, kh_588, kh_589, kh_590, kh_559, kh_591, kh_592, kh_593, kh_594, kh_595, kh_561, kh_wFind, kh_wSend] kh_fire_y l D tc ad kd N sm xs p s m args meth c sz) (H0 : as_in ad sm wd_fl2 xs S kh_fire.2.2.2.2.2.1 xs (hd_0 kh_fire) lvE [] S) {k : Nat} (ih : kh_fire_I l D tc ad kd N sm xs S p e s m args below meth c sz k) : (∀ (α : List av_X) (lv : List (Nat × Value)) (st : List Value) (S1 : fw_S), as_in ad sm wd_fl2 xs S kh_fire.2.2.2.2.2.1 α kh_fire_a133.2.2.1 lv st S1 → (wOK S1) → 1000000000000 + 10 * yS (S1.1 832) 12 + 8 < k + 1 → hd_W wd_fl2 kh_fire kh_fire_y l D tc ad kd N sm xs S p e s m args below meth c sz 133 lv st S1 0) := by
  have hx : xs.length = 3 := by rw [H0.2.1.1]; rfl
  intro α lv st S1 H hp hk
  replace H := as_fl_in (f := [504]) H (fun g hg => by
    rcases List.mem_singleton.mp hg with rfl
    rw [wd_fl2, if_neg (by decide)]
    exact hp)
  obtain ⟨α1, hle, Hr⟩ := as_recM (pl := []) [((829, 829), (0, 6, 1)), ((830, 830), (0, 6, 1)), ((832, 832), (0, 11, 1)), ((839, 839), (0, 33, 1)), ((840, 840), (0, 11, 1)), ((841, 841), (0, 10, 1))] (by decide +kernel) H
  have hf := H.2.2.2.2.2.2.2.2.2.2.1
  have hl1 : α1.length = 5 := by rw [Hr.2.1.1]; rfl
  have hl0 : α.length = 5 := by rw [H.2.1.1]; rfl
  have hxa : al_le xs α1 := H.1.trans hle
  obtain ⟨g1, -, g3, g4, -⟩ := as_fx Hr
  have g0 : (805 ≤ nv α1 0 ∧ nv α1 0 ≤ 805) ∧ (0 ≤ nv α1 1 ∧ nv α1 1 ≤ 11) ∧ (1 ≤ nv α1 2 ∧ nv α1 2 ≤ 500) ∧ ((-2147483648) ≤ nv α1 3 ∧ nv α1 3 ≤ 2147483647) ∧ ((-2147483648) ≤ nv α1 4 ∧ nv α1 4 ≤ 2147483647) ∧ True := by
    refine ⟨by have h := (en_nv (i := 0) Hr.2.1 rfl).2; exact h, by have h := (en_nv (i := 1) Hr.2.1 rfl).2; exact h, by have h := (en_nv (i := 2) Hr.2.1 rfl).2; exact h, by have h := (en_nv (i := 3) Hr.2.1 rfl).2; exact h, by have h := (en_nv (i := 4) Hr.2.1 rfl).2; exact h, trivial⟩
  have r0 : nv α1 0 = nv α 0 := nv_le hle (by omega)
  have r1 : nv α1 1 = nv α 1 := nv_le hle (by omega)
  have r2 : nv α1 2 = nv α 2 := nv_le hle (by omega)
  have r3 : nv α1 3 = nv α 3 := nv_le hle (by omega)
  have r4 : nv α1 4 = nv α 4 := nv_le hle (by omega)
  refine hd_callR (Rr := R_wSend) (Rs := [kh_wSend]) (idx := 576) G (List.forall_mem_cons.mpr ⟨kh_wSend_okR, List.forall_mem_nil _⟩) (na := 5) (Bs := [kh_fire_b133_0]) (by decide +kernel) (by decide +kernel) hl1 Hr ?_
  intro q hq β lv' st' S' H1 hRx
  simp only [List.mem_cons, List.not_mem_nil, or_false] at hq
  rcases hq with rfl
  · obtain ⟨f1, f2, f3, f4, f5⟩ := as_fx H1
    simp only [kh_fire_b133_0, fx_env, fx_c, fx_ne, fx_hf, wl_S, Nat.zero_add, Nat.reduceAdd, Nat.reduceDiv, Nat.reduceMod, List.getElem?_cons_zero, List.getElem?_cons_succ, if_true, and_true, true_and] at f1 f2 f3 f4 f5
    have fe0 : nv β 0 = 805 := by omega
    try simp only [fe0, Int.reduceToNat] at f2 f3 f4 f5
    have s0 : nv β 0 = nv α1 0 := nv_le H1.1 (by omega)
    have s1 : nv β 1 = nv α1 1 := nv_le H1.1 (by omega)
    have s2 : nv β 2 = nv α1 2 := nv_le H1.1 (by omega)
    have s3 : nv β 3 = nv α1 3 := nv_le H1.1 (by omega)
    have s4 : nv β 4 = nv α1 4 := nv_le H1.1 (by omega)
    obtain ⟨α', Ha, hm⟩ := hd_gpM (q := kh_fire_a136) (n := 0) (by decide +kernel) hx H1 (by decide +kernel) hxa hf
    have hfr := H1.2.2.2.2.2.2.2.2.2.2.1
    have m0 : nv α' 0 = nv β 0 := hm 0 0 rfl
    have m1 : nv α' 1 = nv β 1 := hm 1 1 rfl
    have m2 : nv α' 2 = nv β 2 := hm 2 2 rfl
    have m3 : nv α' 3 = nv β 3 := hm 3 3 rfl
    have m4 : nv α' 4 = nv β 5 := hm 4 5 rfl
    have m5 : nv α' 5 = nv β 4 := hm 5 4 rfl
    obtain ⟨Cc, -, ys, rr, -, hR, -⟩ := hRx
    have hR' : yS (S'.1 832) 12 + 1 ≤ yS (S1.1 832) 12 := hR
    refine ih.2.2.2.1 _ _ _ _ Ha ?_ ?_
    · trivial
    · omega
set_option maxHeartbeats 16000000 in
set_option maxRecDepth 8000 in
theorem kh_fire_h136 {l : Launch} {D : va_G} {tc : Nat → ClassId} {ad : Nat → Nat} {kd : Nat → Nat × Nat} {N : Nat} {sm : Nat → Nat} {xs : List av_X} {S : fw_S} {p : Program} {e : Env} {s : State} {m : MethodId} {args : Array Value} {below : List Frame} {meth : Method} {c : Code} {sz : Nat} {lvE : List (Nat × Value)} (G : hd_C wd_ff2 wd_fl2 kh_fire [kh_587, kh_588, kh_589, kh_590, kh_559, kh_591, kh_592, kh_593, kh_594, kh_595, kh_561, kh_wFind, kh_wSend] kh_fire_y l D tc ad kd N sm xs p s m args meth c sz) (H0 : as_in ad sm wd_fl2 xs S kh_fire.2.2.2.2.2.1 xs (hd_0 kh_fire) lvE [] S) {k : Nat} (ih : kh_fire_I l D tc ad kd N sm xs S p e s m args below meth c sz k) : (∀ (α : List av_X) (lv : List (Nat × Value)) (st : List Value) (S1 : fw_S), as_in ad sm wd_fl2 xs S kh_fire.2.2.2.2.2.1 α kh_fire_a136.2.2.1 lv st S1 → (True) → 1000000000000 + 10 * yS (S1.1 832) 12 + 15 < k + 1 → hd_W wd_fl2 kh_fire kh_fire_y l D tc ad kd N sm xs S p e s m args below meth c sz 136 lv st S1 0) := by
  have hx : xs.length = 3 := by rw [H0.2.1.1]; rfl
  intro α lv st S1 H hp hk
  obtain ⟨α1, hle, Hr⟩ := as_recM (pl := []) [] (by decide +kernel) H
  have hf := H.2.2.2.2.2.2.2.2.2.2.1
  have hl1 : α1.length = 6 := by rw [Hr.2.1.1]; rfl
  have hl0 : α.length = 6 := by rw [H.2.1.1]; rfl
  have hxa : al_le xs α1 := H.1.trans hle
  obtain ⟨g1, -, g3, g4, -⟩ := as_fx Hr
  have g0 : (805 ≤ nv α1 0 ∧ nv α1 0 ≤ 805) ∧ (0 ≤ nv α1 1 ∧ nv α1 1 ≤ 11) ∧ (1 ≤ nv α1 2 ∧ nv α1 2 ≤ 500) ∧ ((-2147483648) ≤ nv α1 3 ∧ nv α1 3 ≤ 2147483647) ∧ ((-2147483648) ≤ nv α1 4 ∧ nv α1 4 ≤ 2147483647) ∧ ((-2147483648) ≤ nv α1 5 ∧ nv α1 5 ≤ 2147483647) ∧ True := by
    refine ⟨by have h := (en_nv (i := 0) Hr.2.1 rfl).2; exact h, by have h := (en_nv (i := 1) Hr.2.1 rfl).2; exact h, by have h := (en_nv (i := 2) Hr.2.1 rfl).2; exact h, by have h := (en_nv (i := 3) Hr.2.1 rfl).2; exact h, by have h := (en_nv (i := 4) Hr.2.1 rfl).2; exact h, by have h := (en_nv (i := 5) Hr.2.1 rfl).2; exact h, trivial⟩
  have r0 : nv α1 0 = nv α 0 := nv_le hle (by omega)
  have r1 : nv α1 1 = nv α 1 := nv_le hle (by omega)
  have r2 : nv α1 2 = nv α 2 := nv_le hle (by omega)
  have r3 : nv α1 3 = nv α 3 := nv_le hle (by omega)
  have r4 : nv α1 4 = nv α 4 := nv_le hle (by omega)
  have r5 : nv α1 5 = nv α 5 := nv_le hle (by omega)
  refine hd_segM G (na := 6) (fuel := 600) (first := true) (Bs := [kh_fire_b136_0]) (by decide +kernel) hl1 Hr ?_
  intro q hq β lv' st' S' H1
  simp only [List.mem_cons, List.not_mem_nil, or_false] at hq
  rcases hq with rfl
  · obtain ⟨f1, f2, f3, f4, f5⟩ := as_fx H1
    simp only [kh_fire_b136_0, fx_env, fx_c, fx_ne, fx_hf, wl_S, Nat.zero_add, Nat.reduceAdd, Nat.reduceDiv, Nat.reduceMod, List.getElem?_cons_zero, List.getElem?_cons_succ, if_true, and_true, true_and] at f1 f2 f3 f4 f5
    have fe0 : nv β 0 = 805 := by omega
    try simp only [fe0, Int.reduceToNat] at f2 f3 f4 f5
    have s0 : nv β 0 = nv α1 0 := nv_le H1.1 (by omega)
    have s1 : nv β 1 = nv α1 1 := nv_le H1.1 (by omega)
    have s2 : nv β 2 = nv α1 2 := nv_le H1.1 (by omega)
    have s3 : nv β 3 = nv α1 3 := nv_le H1.1 (by omega)
    have s4 : nv β 4 = nv α1 4 := nv_le H1.1 (by omega)
    have s5 : nv β 5 = nv α1 5 := nv_le H1.1 (by omega)
    obtain ⟨α', Ha, hm⟩ := hd_gpM (q := kh_fire_a121) (n := 0) (by decide +kernel) hx H1 (by decide +kernel) hxa hf
    have hfr := H1.2.2.2.2.2.2.2.2.2.2.1
    have m0 : nv α' 0 = nv β 0 := hm 0 0 rfl
    have m1 : nv α' 1 = nv β 1 := hm 1 1 rfl
    have m2 : nv α' 2 = nv β 2 := hm 2 2 rfl
    have m3 : nv α' 3 = nv β 6 := hm 3 6 rfl
    subst S'
    refine ih.2.1 _ _ _ _ Ha ?_ ?_
    · trivial
    · omega
set_option maxHeartbeats 16000000 in
set_option maxRecDepth 8000 in
theorem kh_fire_h144 {l : Launch} {D : va_G} {tc : Nat → ClassId} {ad : Nat → Nat} {kd : Nat → Nat × Nat} {N : Nat} {sm : Nat → Nat} {xs : List av_X} {S : fw_S} {p : Program} {e : Env} {s : State} {m : MethodId} {args : Array Value} {below : List Frame} {meth : Method} {c : Code} {sz : Nat} {lvE : List (Nat × Value)} (G : hd_C wd_ff2 wd_fl2 kh_fire [kh_587, kh_588, kh_589, kh_590, kh_559, kh_591, kh_592, kh_593, kh_594, kh_595, kh_561, kh_wFind, kh_wSend] kh_fire_y l D tc ad kd N sm xs p s m args meth c sz) (H0 : as_in ad sm wd_fl2 xs S kh_fire.2.2.2.2.2.1 xs (hd_0 kh_fire) lvE [] S) {k : Nat} (ih : kh_fire_I l D tc ad kd N sm xs S p e s m args below meth c sz k) : (∀ (α : List av_X) (lv : List (Nat × Value)) (st : List Value) (S1 : fw_S), as_in ad sm wd_fl2 xs S kh_fire.2.2.2.2.2.1 α kh_fire_a144.2.2.1 lv st S1 → (True) → (5 - nv α 4).toNat < k + 1 → hd_W wd_fl2 kh_fire kh_fire_y l D tc ad kd N sm xs S p e s m args below meth c sz 144 lv st S1 0) := by
  have hx : xs.length = 3 := by rw [H0.2.1.1]; rfl
  intro α lv st S1 H hp hk
  obtain ⟨α1, hle, Hr⟩ := as_recM (pl := []) [((806, 806), (1016, 1028, 4)), ((807, 807), (25, 25, 0))] (by decide +kernel) H
  have hf := H.2.2.2.2.2.2.2.2.2.2.1
  have hl1 : α1.length = 5 := by rw [Hr.2.1.1]; rfl
  have hl0 : α.length = 5 := by rw [H.2.1.1]; rfl
  have hxa : al_le xs α1 := H.1.trans hle
  obtain ⟨g1, -, g3, g4, -⟩ := as_fx Hr
  have g0 : (805 ≤ nv α1 0 ∧ nv α1 0 ≤ 805) ∧ (0 ≤ nv α1 1 ∧ nv α1 1 ≤ 11) ∧ (1 ≤ nv α1 2 ∧ nv α1 2 ≤ 500) ∧ ((-2147483648) ≤ nv α1 3 ∧ nv α1 3 ≤ 2147483647) ∧ (0 ≤ nv α1 4 ∧ nv α1 4 ≤ 4) ∧ True := by
    refine ⟨by have h := (en_nv (i := 0) Hr.2.1 rfl).2; exact h, by have h := (en_nv (i := 1) Hr.2.1 rfl).2; exact h, by have h := (en_nv (i := 2) Hr.2.1 rfl).2; exact h, by have h := (en_nv (i := 3) Hr.2.1 rfl).2; exact h, by have h := (en_nv (i := 4) Hr.2.1 rfl).2; exact h, trivial⟩
  have r0 : nv α1 0 = nv α 0 := nv_le hle (by omega)
  have r1 : nv α1 1 = nv α 1 := nv_le hle (by omega)
  have r2 : nv α1 2 = nv α 2 := nv_le hle (by omega)
  have r3 : nv α1 3 = nv α 3 := nv_le hle (by omega)
  have r4 : nv α1 4 = nv α 4 := nv_le hle (by omega)
  refine hd_segM G (na := 5) (fuel := 600) (first := true) (Bs := [kh_fire_b144_0, kh_fire_b144_1]) (by decide +kernel) hl1 Hr ?_
  intro q hq β lv' st' S' H1
  simp only [List.mem_cons, List.not_mem_nil, or_false] at hq
  rcases hq with rfl | rfl
  · obtain ⟨f1, f2, f3, f4, f5⟩ := as_fx H1
    simp only [kh_fire_b144_0, fx_env, fx_c, fx_ne, fx_hf, wl_S, Nat.zero_add, Nat.reduceAdd, Nat.reduceDiv, Nat.reduceMod, List.getElem?_cons_zero, List.getElem?_cons_succ, if_true, and_true, true_and] at f1 f2 f3 f4 f5
    have fe0 : nv β 0 = 805 := by omega
    have fe5 : nv β 5 = 806 := by omega
    have fe6 : nv β 6 = 1013 := by omega
    have fe8 : nv β 8 = 807 := by omega
    have fe9 : nv β 9 = 25 := by omega
    try simp only [fe0, fe5, fe6, fe8, fe9, Int.reduceToNat] at f2 f3 f4 f5
    have s0 : nv β 0 = nv α1 0 := nv_le H1.1 (by omega)
    have s1 : nv β 1 = nv α1 1 := nv_le H1.1 (by omega)
    have s2 : nv β 2 = nv α1 2 := nv_le H1.1 (by omega)
    have s3 : nv β 3 = nv α1 3 := nv_le H1.1 (by omega)
    have s4 : nv β 4 = nv α1 4 := nv_le H1.1 (by omega)
    obtain ⟨c0, c1, c2⟩ := f2
    exact hd_run G (ss := []) (fuel := 20) (by decide +kernel) (as_backM H1 (by decide +kernel) hxa hf)
  · obtain ⟨f1, f2, f3, f4, f5⟩ := as_fx H1
    simp only [kh_fire_b144_1, fx_env, fx_c, fx_ne, fx_hf, wl_S, Nat.zero_add, Nat.reduceAdd, Nat.reduceDiv, Nat.reduceMod, List.getElem?_cons_zero, List.getElem?_cons_succ, if_true, and_true, true_and] at f1 f2 f3 f4 f5
    have fe0 : nv β 0 = 805 := by omega
    have fe5 : nv β 5 = 806 := by omega
    have fe6 : nv β 6 = 1013 := by omega
    have fe8 : nv β 8 = 806 := by omega
    have fe9 : nv β 9 = 1014 := by omega
    have fe10 : nv β 10 = 4 := by omega
    have fe13 : nv β 13 = 2 := by omega
    have fe16 : nv β 16 = 830 := by omega
    have fe17 : nv β 17 = 3 := by omega
    try simp only [fe0, fe5, fe6, fe8, fe9, fe10, fe13, fe16, fe17, Int.reduceToNat] at f2 f3 f4 f5
    have s0 : nv β 0 = nv α1 0 := nv_le H1.1 (by omega)
    have s1 : nv β 1 = nv α1 1 := nv_le H1.1 (by omega)
    have s2 : nv β 2 = nv α1 2 := nv_le H1.1 (by omega)
    have s3 : nv β 3 = nv α1 3 := nv_le H1.1 (by omega)
    have s4 : nv β 4 = nv α1 4 := nv_le H1.1 (by omega)
    obtain ⟨c0, c1, c2, c3, c4, c5, c6, c7⟩ := f2
    obtain ⟨α', Ha, hm⟩ := hd_gpM (q := kh_fire_a144) (n := 0) (by decide +kernel) hx H1 (by decide +kernel) hxa hf
    have hfr := H1.2.2.2.2.2.2.2.2.2.2.1
    have m0 : nv α' 0 = nv β 0 := hm 0 0 rfl
    have m1 : nv α' 1 = nv β 1 := hm 1 1 rfl
    have m2 : nv α' 2 = nv β 2 := hm 2 2 rfl
    have m3 : nv α' 3 = nv β 3 := hm 3 3 rfl
    have m4 : nv α' 4 = nv β 21 := hm 4 21 rfl
    subst S'
    refine ih.2.2.2.2.1 _ _ _ _ Ha ?_ ?_
    · trivial
    · omega
set_option maxHeartbeats 16000000 in
set_option maxRecDepth 8000 in
theorem kh_fire_ok : ct_ok wd_fl2 kh_fire := ct_hand (ff := wd_ff2) (y := kh_fire_y) (Cs := [kh_587, kh_588, kh_589, kh_590, kh_559, kh_591, kh_592, kh_593, kh_594, kh_595, kh_561, kh_wFind, kh_wSend]) wd_fl2_ok rfl (List.forall_mem_cons.mpr ⟨kh_587_ok, (List.forall_mem_cons.mpr ⟨kh_588_ok, (List.forall_mem_cons.mpr ⟨kh_589_ok, (List.forall_mem_cons.mpr ⟨kh_590_ok, (List.forall_mem_cons.mpr ⟨kh_559_ok, (List.forall_mem_cons.mpr ⟨kh_591_ok, (List.forall_mem_cons.mpr ⟨kh_592_ok, (List.forall_mem_cons.mpr ⟨kh_593_ok, (List.forall_mem_cons.mpr ⟨kh_594_ok, (List.forall_mem_cons.mpr ⟨kh_595_ok, (List.forall_mem_cons.mpr ⟨kh_561_ok, (List.forall_mem_cons.mpr ⟨kh_wFind_ok, (List.forall_mem_cons.mpr ⟨kh_wSend_ok, (List.forall_mem_nil _)⟩)⟩)⟩)⟩)⟩)⟩)⟩)⟩)⟩)⟩)⟩)⟩)⟩) (by decide +kernel) (fun l D tc ad kd N sm xs S p e s m args below meth c sz lv G H0 => by
  have hx : xs.length = 3 := by rw [H0.2.1.1]; rfl
  have hP : ∀ (k : Nat), kh_fire_I l D tc ad kd N sm xs S p e s m args below meth c sz k := by
    intro k
    induction k with
    | zero => exact ⟨fun _ _ _ _ _ _ h => absurd h (Nat.not_lt_zero _), fun _ _ _ _ _ _ h => absurd h (Nat.not_lt_zero _), fun _ _ _ _ _ _ h => absurd h (Nat.not_lt_zero _), fun _ _ _ _ _ _ h => absurd h (Nat.not_lt_zero _), fun _ _ _ _ _ _ h => absurd h (Nat.not_lt_zero _), trivial⟩
    | succ k ih => exact ⟨kh_fire_h39 G H0 ih, kh_fire_h121 G H0 ih, kh_fire_h133 G H0 ih, kh_fire_h136 G H0 ih, kh_fire_h144 G H0 ih, trivial⟩
  obtain ⟨α1, hle, Hr⟩ := as_recM (pl := []) [((805, 805), (8, 8, 0)), ((829, 829), (0, 6, 1)), ((830, 830), (0, 6, 1)), ((832, 832), (0, 11, 1)), ((838, 838), (0, 11, 1)), ((839, 839), (0, 33, 1))] (by decide +kernel) H0
  have hf := H0.2.2.2.2.2.2.2.2.2.2.1
  have hl1 : α1.length = 3 := by rw [Hr.2.1.1]; rfl
  have hl0 : xs.length = 3 := by rw [H0.2.1.1]; rfl
  have hxa : al_le xs α1 := H0.1.trans hle
  obtain ⟨g1, -, g3, g4, -⟩ := as_fx Hr
  have g0 : (805 ≤ nv α1 0 ∧ nv α1 0 ≤ 805) ∧ ((-2147483648) ≤ nv α1 1 ∧ nv α1 1 ≤ 2147483647) ∧ ((-2147483648) ≤ nv α1 2 ∧ nv α1 2 ≤ 2147483647) ∧ True := by
    refine ⟨by have h := (en_nv (i := 0) Hr.2.1 rfl).2; exact h, by have h := (en_nv (i := 1) Hr.2.1 rfl).2; exact h, by have h := (en_nv (i := 2) Hr.2.1 rfl).2; exact h, trivial⟩
  have r0 : nv α1 0 = nv xs 0 := nv_le hle (by omega)
  have r1 : nv α1 1 = nv xs 1 := nv_le hle (by omega)
  have r2 : nv α1 2 = nv xs 2 := nv_le hle (by omega)
  refine hd_segM G (na := 3) (fuel := 600) (first := true) (Bs := [kh_fire_b0_0, kh_fire_b0_1, kh_fire_b0_2]) (by decide +kernel) hl1 Hr ?_
  intro q hq β lv' st' S' H1
  simp only [List.mem_cons, List.not_mem_nil, or_false] at hq
  rcases hq with rfl | rfl | rfl
  · obtain ⟨f1, f2, f3, f4, f5⟩ := as_fx H1
    simp only [kh_fire_b0_0, fx_env, fx_c, fx_ne, fx_hf, wl_S, Nat.zero_add, Nat.reduceAdd, Nat.reduceDiv, Nat.reduceMod, List.getElem?_cons_zero, List.getElem?_cons_succ, if_true, and_true, true_and] at f1 f2 f3 f4 f5
    have fe0 : nv β 0 = 805 := by omega
    have fe3 : nv β 3 = 0 := by omega
    have fe4 : nv β 4 = 11 := by omega
    have fe5 : nv β 5 = 1 := by omega
    have fe6 : nv β 6 = 1 := by omega
    have fe7 : nv β 7 = 0 := by omega
    have fe8 : nv β 8 = 1 := by omega
    have fe9 : nv β 9 = 500 := by omega
    have fe10 : nv β 10 = 1 := by omega
    have fe11 : nv β 11 = 2 := by omega
    have fe12 : nv β 12 = 0 := by omega
    have fe13 : nv β 13 = 0 := by omega
    try simp only [fe0, fe3, fe4, fe5, fe6, fe7, fe8, fe9, fe10, fe11, fe12, fe13, Int.reduceToNat] at f2 f3 f4 f5
    have s0 : nv β 0 = nv α1 0 := nv_le H1.1 (by omega)
    have s1 : nv β 1 = nv α1 1 := nv_le H1.1 (by omega)
    have s2 : nv β 2 = nv α1 2 := nv_le H1.1 (by omega)
    obtain ⟨α', Ha, hm⟩ := hd_gpM (q := kh_fire_a39) (n := 0) (by decide +kernel) hx H1 (by decide +kernel) hxa hf
    have hfr := H1.2.2.2.2.2.2.2.2.2.2.1
    have m0 : nv α' 0 = nv β 0 := hm 0 0 rfl
    have m1 : nv α' 1 = nv β 1 := hm 1 1 rfl
    have m2 : nv α' 2 = nv β 2 := hm 2 2 rfl
    have m3 : nv α' 3 = nv β 13 := hm 3 13 rfl
    refine (hP _).1 _ _ _ _ Ha ?_ (Nat.lt_succ_self _)
    · trivial
  · obtain ⟨f1, f2, f3, f4, f5⟩ := as_fx H1
    simp only [kh_fire_b0_1, fx_env, fx_c, fx_ne, fx_hf, wl_S, Nat.zero_add, Nat.reduceAdd, Nat.reduceDiv, Nat.reduceMod, List.getElem?_cons_zero, List.getElem?_cons_succ, if_true, and_true, true_and] at f1 f2 f3 f4 f5
    have fe0 : nv β 0 = 805 := by omega
    have fe3 : nv β 3 = 0 := by omega
    have fe4 : nv β 4 = 11 := by omega
    have fe5 : nv β 5 = 1 := by omega
    have fe6 : nv β 6 = 1 := by omega
    have fe7 : nv β 7 = 0 := by omega
    have fe8 : nv β 8 = 1 := by omega
    have fe9 : nv β 9 = 500 := by omega
    have fe10 : nv β 10 = 0 := by omega
    have fe11 : nv β 11 = 2 := by omega
    have fe12 : nv β 12 = 1 := by omega
    have fe13 : nv β 13 = 0 := by omega
    try simp only [fe0, fe3, fe4, fe5, fe6, fe7, fe8, fe9, fe10, fe11, fe12, fe13, Int.reduceToNat] at f2 f3 f4 f5
    have s0 : nv β 0 = nv α1 0 := nv_le H1.1 (by omega)
    have s1 : nv β 1 = nv α1 1 := nv_le H1.1 (by omega)
    have s2 : nv β 2 = nv α1 2 := nv_le H1.1 (by omega)
    exact hd_run G (ss := []) (fuel := 20) (by decide +kernel) (as_backM H1 (by decide +kernel) hxa hf)
  · obtain ⟨f1, f2, f3, f4, f5⟩ := as_fx H1
    simp only [kh_fire_b0_2, fx_env, fx_c, fx_ne, fx_hf, wl_S, Nat.zero_add, Nat.reduceAdd, Nat.reduceDiv, Nat.reduceMod, List.getElem?_cons_zero, List.getElem?_cons_succ, if_true, and_true, true_and] at f1 f2 f3 f4 f5
    have fe0 : nv β 0 = 805 := by omega
    have fe3 : nv β 3 = 0 := by omega
    have fe4 : nv β 4 = 11 := by omega
    have fe5 : nv β 5 = 0 := by omega
    have fe6 : nv β 6 = 1 := by omega
    have fe7 : nv β 7 = 1 := by omega
    have fe8 : nv β 8 = 0 := by omega
    try simp only [fe0, fe3, fe4, fe5, fe6, fe7, fe8, Int.reduceToNat] at f2 f3 f4 f5
    have s0 : nv β 0 = nv α1 0 := nv_le H1.1 (by omega)
    have s1 : nv β 1 = nv α1 1 := nv_le H1.1 (by omega)
    have s2 : nv β 2 = nv α1 2 := nv_le H1.1 (by omega)
    exact hd_run G (ss := []) (fuel := 20) (by decide +kernel) (as_backM H1 (by decide +kernel) hxa hf))
