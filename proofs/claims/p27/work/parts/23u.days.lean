/-! ===== booksDay, dayGoes, pass ===== -/
abbrev kh_day_y : mt_T := (⟨"UtilityWorksModel", "day", "()I"⟩, prog_14_method_29_code, 1, some .int, 12, 1, 0, 31172, 31171, 4011, 21014)
def kh_day : ct_T := (339, [(2, 805, 805, 0)], [], [], [(1, (0, 0, 999, 1), [(2, 805, 805, 0)], [], ([], [(1033, 0, 0)]))], [], 0, 0, 0)
def kh_day_b0_0 : sg_T := (6, 0, ([((2, 805, 805, 0), none), ((2, 806, 806, 1), none), ((0, 0, 0, 0), none), ((0, 0, 999, 1), none)], [(0, 0)], [3], [(1, 2, 3)], [], [(800003, 1, 2)], [], [], some []))
set_option maxHeartbeats 16000000 in
set_option maxRecDepth 8000 in
theorem kh_day_ok : ct_ok wd_fl2 kh_day := ct_hand (ff := wd_ff2) (y := kh_day_y) (Cs := []) wd_fl2_ok rfl (List.forall_mem_nil _) (by decide +kernel) (fun l D tc ad kd N sm xs S p e s m args below meth c sz lv G H0 => by
  have hx : xs.length = 1 := by rw [H0.2.1.1]; rfl
  obtain ⟨α1, hle, Hr⟩ := as_recM (pl := []) [] (by decide +kernel) H0
  have hf := H0.2.2.2.2.2.2.2.2.2.2.1
  have hl1 : α1.length = 1 := by rw [Hr.2.1.1]; rfl
  have hl0 : xs.length = 1 := by rw [H0.2.1.1]; rfl
  have hxa : al_le xs α1 := H0.1.trans hle
  obtain ⟨g1, -, g3, g4, -⟩ := as_fx Hr
  have g0 : (805 ≤ nv α1 0 ∧ nv α1 0 ≤ 805) ∧ True := by
    refine ⟨by have h := (en_nv (i := 0) Hr.2.1 rfl).2; exact h, trivial⟩
  have r0 : nv α1 0 = nv xs 0 := nv_le hle (by omega)
  refine hd_segM G (na := 1) (fuel := 600) (first := true) (Bs := [kh_day_b0_0]) (by decide +kernel) hl1 Hr ?_
  intro q hq β lv' st' S' H1
  simp only [List.mem_cons, List.not_mem_nil, or_false] at hq
  rcases hq with rfl
  · obtain ⟨f1, f2, f3, f4, f5⟩ := as_fx H1
    simp only [kh_day_b0_0, fx_env, fx_c, fx_ne, fx_hf, wl_S, Nat.zero_add, Nat.reduceAdd, Nat.reduceDiv, Nat.reduceMod, List.getElem?_cons_zero, List.getElem?_cons_succ, if_true, and_true, true_and] at f1 f2 f3 f4 f5
    have fe0 : nv β 0 = 805 := by omega
    have fe1 : nv β 1 = 806 := by omega
    have fe2 : nv β 2 = 0 := by omega
    try simp only [fe0, fe1, fe2, Int.reduceToNat] at f2 f3 f4 f5
    have s0 : nv β 0 = nv α1 0 := nv_le H1.1 (by omega)
    have c0 := f2
    have o0 := old_0 c0 rfl
    have hS : S' = S := by subst S'; rfl
    refine hd_retI G (v := 3) (by decide +kernel) (as_backM H1 (by decide +kernel) hxa hf) _ List.mem_cons_self rfl (by decide +kernel) (by decide) (fun w hw => ?_)
    rcases List.mem_singleton.mp hw with rfl
    have g0' := (en_nv (i := 0) H0.2.1 rfl).1
    refine ⟨_, _, g0', g0', ?_⟩
    rw [wd_fl2, if_neg (by decide)]
    show nv β 3 = (S.1 806 0).toInt
    exact o0.symm)
/- UtilityWorksModel bC -/
def kh_699 : ct_T := (413, [(0, 0, 0, 0), (0, 1, 1, 0)], [], [], [(1, (0, 1821, 1821, 0), [(0, 0, 0, 0), (0, 1, 1, 0)], [], ([], []))], [], 0, 0, 0)
theorem kh_699_ok : ct_ok wd_fl2 kh_699 := ct_of (ff := wd_ff2) (y := (⟨"UtilityWorksModel", "bC", "(II)I"⟩, prog_14_method_227_code, 2, some .int, 12, 0, 2, 33186, 33185, 0, 21014)) (Cs := []) (an := []) (ss := []) (K := 1) (fuel := 4000) wd_fl2_ok rfl (List.forall_mem_nil _) (by decide +kernel)
/- UtilityWorksModel bC -/
def kh_700 : ct_T := (413, [(0, 0, 0, 0), (0, 2, 2, 0)], [], [], [(1, (0, 1822, 1822, 0), [(0, 0, 0, 0), (0, 2, 2, 0)], [], ([], []))], [], 0, 0, 0)
theorem kh_700_ok : ct_ok wd_fl2 kh_700 := ct_of (ff := wd_ff2) (y := (⟨"UtilityWorksModel", "bC", "(II)I"⟩, prog_14_method_227_code, 2, some .int, 12, 0, 2, 33186, 33185, 0, 21014)) (Cs := []) (an := []) (ss := []) (K := 1) (fuel := 4000) wd_fl2_ok rfl (List.forall_mem_nil _) (by decide +kernel)
/- UtilityWorksModel bDue -/
def kh_701 : ct_T := (504, [(2, 805, 805, 0), (0, 0, 0, 0), (0, 0, 214748364, 1)], [], [], [(1, (1, (-9223372036854775808), 9223372036854775807, 1), [(2, 805, 805, 0), (0, 0, 0, 0), (0, 0, 214748364, 1)], [], ([], []))], [], 0, 0, 0)
theorem kh_701_ok : ct_ok wd_fl2 kh_701 := ct_of (ff := wd_ff2) (y := (⟨"UtilityWorksModel", "bDue", "(II)J"⟩, prog_14_method_242_code, 3, some .long, 12, 1, 2, 35069, 35068, 13011, 21014)) (Cs := []) (an := []) (ss := []) (K := 1) (fuel := 4000) wd_fl2_ok rfl (List.forall_mem_nil _) (by decide +kernel)
/- UtilityWorksModel bC -/
def kh_702 : ct_T := (413, [(0, 0, 0, 0), (0, 3, 3, 0)], [], [], [(1, (0, 1823, 1823, 0), [(0, 0, 0, 0), (0, 3, 3, 0)], [], ([], []))], [], 0, 0, 0)
theorem kh_702_ok : ct_ok wd_fl2 kh_702 := ct_of (ff := wd_ff2) (y := (⟨"UtilityWorksModel", "bC", "(II)I"⟩, prog_14_method_227_code, 2, some .int, 12, 0, 2, 33186, 33185, 0, 21014)) (Cs := []) (an := []) (ss := []) (K := 1) (fuel := 4000) wd_fl2_ok rfl (List.forall_mem_nil _) (by decide +kernel)
/- UtilityWorksModel bEndPlan -/
def kh_703 : ct_T := (505, [(2, 805, 805, 0), (0, 0, 0, 0)], [], [], [(0, (0, 0, 0, 0), [(2, 805, 805, 0), (0, 0, 0, 0)], [((806, 806), (1821, 1821, 0), (0, 0, 0, 0)), ((806, 806), (1822, 1822, 0), (0, 0, 0, 0))], ([], []))], [((806, 806), (1821, 1821, 0)), ((806, 806), (1822, 1822, 0)), ((807, 807), (2830, 2830, 0)), ((807, 807), (2840, 2840, 0)), ((807, 807), (2850, 2850, 0))], 1, 21, 0)
theorem kh_703_ok : ct_ok wd_fl2 kh_703 := ct_of (ff := wd_ff2) (y := (⟨"UtilityWorksModel", "bEndPlan", "(I)V"⟩, prog_14_method_241_code, 2, none, 12, 1, 1, 35073, 35072, 13012, 21014)) (Cs := [kh_699, kh_700]) (an := []) (ss := []) (K := 1) (fuel := 4000) wd_fl2_ok rfl (List.forall_mem_cons.mpr ⟨kh_699_ok, (List.forall_mem_cons.mpr ⟨kh_700_ok, (List.forall_mem_nil _)⟩)⟩) (by decide +kernel)
/- UtilityWorksModel bPlanDay -/
def kh_704 : ct_T := (503, [(2, 805, 805, 0), (0, 0, 0, 0)], [], [], [(0, (0, 0, 0, 0), [(2, 805, 805, 0), (0, 0, 0, 0)], [], ([], []))], [((806, 806), (1821, 1821, 0)), ((806, 806), (1822, 1822, 0)), ((806, 806), (1823, 1823, 0)), ((807, 807), (2830, 2830, 0)), ((807, 807), (2840, 2840, 0)), ((807, 807), (2850, 2850, 0))], 2, 42, 0)
theorem kh_704_ok : ct_ok wd_fl2 kh_704 := ct_of (ff := wd_ff2) (y := (⟨"UtilityWorksModel", "bPlanDay", "(I)V"⟩, prog_14_method_243_code, 4, none, 12, 1, 1, 35065, 35064, 13010, 21014)) (Cs := [kh_699, kh_day, kh_700, kh_701, kh_702, kh_703]) (an := [(92, 0, ([((2, 805, 805, 0), none), ((0, 0, 0, 0), none), ((0, 0, 6, 1), none), ((0, (-2147483648), 2147483647, 1), none)], [(0, 0), (1, 1), (2, 2), (3, 3)], [], [], [], [], [], [], none), [(0, 0, 99908)])]) (ss := []) (K := 1) (fuel := 4000) wd_fl2_ok rfl (List.forall_mem_cons.mpr ⟨kh_699_ok, (List.forall_mem_cons.mpr ⟨kh_day_ok, (List.forall_mem_cons.mpr ⟨kh_700_ok, (List.forall_mem_cons.mpr ⟨kh_701_ok, (List.forall_mem_cons.mpr ⟨kh_702_ok, (List.forall_mem_cons.mpr ⟨kh_703_ok, (List.forall_mem_nil _)⟩)⟩)⟩)⟩)⟩)⟩) (by decide +kernel)
/- UtilityWorksModel bB -/
def kh_705 : ct_T := (507, [(0, 0, 0, 0), (0, 0, 32, 1), (0, 7, 7, 0)], [], [], [(1, (0, 107, 363, 8), [(0, 0, 0, 0), (0, 0, 32, 1), (0, 7, 7, 0)], [], ([], []))], [], 0, 0, 0)
theorem kh_705_ok : ct_ok wd_fl2 kh_705 := ct_of (ff := wd_ff2) (y := (⟨"UtilityWorksModel", "bB", "(III)I"⟩, prog_14_method_228_code, 3, some .int, 12, 0, 3, 35080, 35079, 0, 21014)) (Cs := []) (an := []) (ss := []) (K := 1) (fuel := 4000) wd_fl2_ok rfl (List.forall_mem_nil _) (by decide +kernel)
/- UtilityWorksModel bInterest -/
def kh_706 : ct_T := (506, [(2, 805, 805, 0), (0, 0, 0, 0)], [], [], [(0, (0, 0, 0, 0), [(2, 805, 805, 0), (0, 0, 0, 0)], [], ([], []))], [((807, 807), (107, 363, 8)), ((807, 807), (2862, 2862, 0))], 1, 22, 0)
theorem kh_706_ok : ct_ok wd_fl2 kh_706 := ct_of (ff := wd_ff2) (y := (⟨"UtilityWorksModel", "bInterest", "(I)V"⟩, prog_14_method_244_code, 5, none, 12, 1, 1, 35077, 35076, 13013, 21014)) (Cs := [kh_bC0, kh_705]) (an := [(2, 0, ([((2, 805, 805, 0), none), ((0, 0, 0, 0), none), ((0, 0, 33, 1), none)], [(0, 0), (1, 1), (2, 2)], [], [], [], [], [], [], none), [(0, 0, 99998), (1, 2, 33), (0, 0, 99998)])]) (ss := []) (K := 3) (fuel := 4000) wd_fl2_ok rfl (List.forall_mem_cons.mpr ⟨kh_bC0_ok, (List.forall_mem_cons.mpr ⟨kh_705_ok, (List.forall_mem_nil _)⟩)⟩) (by decide +kernel)
/- UtilityWorksModel bB -/
def kh_707 : ct_T := (507, [(0, 0, 0, 0), (0, 0, 32, 1), (0, 0, 0, 0)], [], [], [(1, (0, 100, 356, 8), [(0, 0, 0, 0), (0, 0, 32, 1), (0, 0, 0, 0)], [], ([], []))], [], 0, 0, 0)
theorem kh_707_ok : ct_ok wd_fl2 kh_707 := ct_of (ff := wd_ff2) (y := (⟨"UtilityWorksModel", "bB", "(III)I"⟩, prog_14_method_228_code, 3, some .int, 12, 0, 3, 35080, 35079, 0, 21014)) (Cs := []) (an := []) (ss := []) (K := 1) (fuel := 4000) wd_fl2_ok rfl (List.forall_mem_nil _) (by decide +kernel)
/- UtilityWorksModel bNotice -/
def kh_708 : ct_T := (516, [(2, 805, 805, 0), (0, 0, 0, 0)], [], [], [(1, (0, 0, 0, 0), [(2, 805, 805, 0), (0, 0, 0, 0)], [], ([], [])), (1, (0, 1, 1, 0), [(2, 805, 805, 0), (0, 0, 0, 0)], [((806, 806), (1821, 1821, 0), (0, 0, 0, 1))], ([], [])), (1, (0, 2, 3, 1), [(2, 805, 805, 0), (0, 0, 0, 0)], [((806, 806), (1821, 1821, 0), (0, 0, 0, 1))], ([], []))], [], 1, 22, 0)
theorem kh_708_ok : ct_ok wd_fl2 kh_708 := ct_of (ff := wd_ff2) (y := (⟨"UtilityWorksModel", "bNotice", "(I)I"⟩, prog_14_method_248_code, 5, some .int, 12, 1, 1, 35119, 35118, 14006, 21014)) (Cs := [kh_bC0, kh_699, kh_day, kh_707, kh_705]) (an := [(15, 0, ([((2, 805, 805, 0), none), ((0, 0, 0, 0), none), ((0, (-1), 32, 1), none), ((0, (-1), 32, 1), none)], [(0, 0), (1, 1), (2, 2), (3, 3)], [], [], [], [], [], [], none), [(0, 0, 99985), (2, 3, (-1)), (0, 0, 99985)]), (66, 0, ([((2, 805, 805, 0), none), ((0, 0, 0, 0), none), ((0, (-1), 32, 1), none), ((0, (-1), (-1), 1), none)], [(0, 0), (1, 1), (2, 2), (3, 3)], [], [], [], [], [], [], none), [(0, 0, 99934), (0, 0, 0), (0, 0, 0)])]) (ss := []) (K := 3) (fuel := 4000) wd_fl2_ok rfl (List.forall_mem_cons.mpr ⟨kh_bC0_ok, (List.forall_mem_cons.mpr ⟨kh_699_ok, (List.forall_mem_cons.mpr ⟨kh_day_ok, (List.forall_mem_cons.mpr ⟨kh_707_ok, (List.forall_mem_cons.mpr ⟨kh_705_ok, (List.forall_mem_nil _)⟩)⟩)⟩)⟩)⟩) (by decide +kernel)
/- UtilityWorksModel cHas -/
def kh_709 : ct_T := (517, [(2, 805, 805, 0), (0, 5, 5, 0), (0, 0, 0, 0)], [], [], [(1, (0, 0, 1, 1), [(2, 805, 805, 0), (0, 5, 5, 0), (0, 0, 0, 0)], [], ([], []))], [], 1, 21, 0)
theorem kh_709_ok : ct_ok wd_fl2 kh_709 := ct_of (ff := wd_ff2) (y := (⟨"UtilityWorksModel", "cHas", "(II)Z"⟩, prog_14_method_276_code, 5, some .boolean, 12, 1, 2, 35126, 35125, 14007, 21014)) (Cs := [kh_cJ0, kh_cJ2, kh_cJ4]) (an := [(5, 0, ([((2, 805, 805, 0), none), ((0, 5, 5, 0), none), ((0, 0, 0, 0), none), ((0, 0, 1, 1), none), ((0, 0, 200, 1), none)], [(0, 0), (1, 1), (2, 2), (3, 3), (4, 4)], [], [], [], [], [], [], none), [(0, 0, 99995), (1, 4, 200), (0, 0, 99995)]), (67, 0, ([((2, 805, 805, 0), none), ((0, 5, 5, 0), none), ((0, 0, 0, 0), none), ((0, 0, 1, 1), none), ((0, 0, 199, 1), none)], [(0, 0), (1, 1), (2, 2), (3, 3), (4, 4)], [], [], [], [], [((806, 806), (2440, 2440, 0), (0, 1, 200, 1))], [], none), [(0, 0, 99995), (1, 4, 200), (0, 0, 99933)]), (71, 0, ([((2, 805, 805, 0), none), ((0, 5, 5, 0), none), ((0, 0, 0, 0), none), ((0, 0, 0, 0), none), ((0, 0, 199, 1), none)], [(0, 0), (1, 1), (2, 2), (3, 3), (4, 4)], [], [], [], [], [((806, 806), (2440, 2440, 0), (0, 1, 200, 1))], [], none), [(0, 0, 99995), (1, 4, 200), (0, 0, 99929)])]) (ss := []) (K := 3) (fuel := 4000) wd_fl2_ok rfl (List.forall_mem_cons.mpr ⟨kh_cJ0_ok, (List.forall_mem_cons.mpr ⟨kh_cJ2_ok, (List.forall_mem_cons.mpr ⟨kh_cJ4_ok, (List.forall_mem_nil _)⟩)⟩)⟩) (by decide +kernel)
/- UtilityWorksModel bC -/
def kh_710 : ct_T := (413, [(0, 0, 0, 0), (0, 5, 5, 0)], [], [], [(1, (0, 1825, 1825, 0), [(0, 0, 0, 0), (0, 5, 5, 0)], [], ([], []))], [], 0, 0, 0)
theorem kh_710_ok : ct_ok wd_fl2 kh_710 := ct_of (ff := wd_ff2) (y := (⟨"UtilityWorksModel", "bC", "(II)I"⟩, prog_14_method_227_code, 2, some .int, 12, 0, 2, 33186, 33185, 0, 21014)) (Cs := []) (an := []) (ss := []) (K := 1) (fuel := 4000) wd_fl2_ok rfl (List.forall_mem_nil _) (by decide +kernel)
/- UtilityWorksModel bCutFrom -/
def kh_711 : ct_T := (412, [(2, 805, 805, 0), (0, 0, 0, 0)], [], [], [(1, (0, (-2147483648), 2147483647, 1), [(2, 805, 805, 0), (0, 0, 0, 0)], [], ([], []))], [], 1, 21, 0)
theorem kh_711_ok : ct_ok wd_fl2 kh_711 := ct_of (ff := wd_ff2) (y := (⟨"UtilityWorksModel", "bCutFrom", "(I)I"⟩, prog_14_method_235_code, 2, some .int, 12, 1, 1, 33183, 33182, 8001, 21014)) (Cs := [kh_710]) (an := []) (ss := []) (K := 1) (fuel := 4000) wd_fl2_ok rfl (List.forall_mem_cons.mpr ⟨kh_710_ok, (List.forall_mem_nil _)⟩) (by decide +kernel)
/- UtilityWorksModel bOpen -/
def kh_712 : ct_T := (522, [(2, 805, 805, 0), (0, 0, 0, 0)], [], [], [(1, (1, (-9223372036854775808), 9223372036854775807, 1), [(2, 805, 805, 0), (0, 0, 0, 0)], [], ([], []))], [], 1, 22, 0)
theorem kh_712_ok : ct_ok wd_fl2 kh_712 := ct_of (ff := wd_ff2) (y := (⟨"UtilityWorksModel", "bOpen", "(I)J"⟩, prog_14_method_238_code, 5, some .long, 12, 1, 1, 35146, 35145, 14012, 21014)) (Cs := [kh_bC0, kh_705]) (an := [(5, 0, ([((2, 805, 805, 0), none), ((0, 0, 0, 0), none), ((1, (-9223372036854775808), 9223372036854775807, 1), none), ((0, 0, 33, 1), none)], [(0, 0), (1, 1), (2, 2), (4, 3)], [], [], [], [], [], [], none), [(0, 0, 99995), (1, 3, 33), (0, 0, 99995)])]) (ss := []) (K := 3) (fuel := 4000) wd_fl2_ok rfl (List.forall_mem_cons.mpr ⟨kh_bC0_ok, (List.forall_mem_cons.mpr ⟨kh_705_ok, (List.forall_mem_nil _)⟩)⟩) (by decide +kernel)
/- UtilityWorksModel bOwes -/
def kh_713 : ct_T := (521, [(2, 805, 805, 0), (0, 0, 0, 0)], [], [], [(1, (1, (-9223372036854775808), 9223372036854775807, 1), [(2, 805, 805, 0), (0, 0, 0, 0)], [], ([], []))], [], 2, 46, 0)
theorem kh_713_ok : ct_ok wd_fl2 kh_713 := ct_of (ff := wd_ff2) (y := (⟨"UtilityWorksModel", "bOwes", "(I)J"⟩, prog_14_method_239_code, 2, some .long, 12, 1, 1, 35142, 35141, 14011, 21014)) (Cs := [kh_712]) (an := []) (ss := []) (K := 1) (fuel := 4000) wd_fl2_ok rfl (List.forall_mem_cons.mpr ⟨kh_712_ok, (List.forall_mem_nil _)⟩) (by decide +kernel)
/- UtilityWorksModel cHas -/
def kh_714 : ct_T := (517, [(2, 805, 805, 0), (0, 6, 6, 0), (0, 0, 0, 0)], [], [], [(1, (0, 0, 1, 1), [(2, 805, 805, 0), (0, 6, 6, 0), (0, 0, 0, 0)], [], ([], []))], [], 1, 21, 0)
theorem kh_714_ok : ct_ok wd_fl2 kh_714 := ct_of (ff := wd_ff2) (y := (⟨"UtilityWorksModel", "cHas", "(II)Z"⟩, prog_14_method_276_code, 5, some .boolean, 12, 1, 2, 35126, 35125, 14007, 21014)) (Cs := [kh_cJ0, kh_cJ2, kh_cJ4]) (an := [(5, 0, ([((2, 805, 805, 0), none), ((0, 6, 6, 0), none), ((0, 0, 0, 0), none), ((0, 0, 1, 1), none), ((0, 0, 200, 1), none)], [(0, 0), (1, 1), (2, 2), (3, 3), (4, 4)], [], [], [], [], [], [], none), [(0, 0, 99995), (1, 4, 200), (0, 0, 99995)]), (67, 0, ([((2, 805, 805, 0), none), ((0, 6, 6, 0), none), ((0, 0, 0, 0), none), ((0, 0, 1, 1), none), ((0, 0, 199, 1), none)], [(0, 0), (1, 1), (2, 2), (3, 3), (4, 4)], [], [], [], [], [((806, 806), (2440, 2440, 0), (0, 1, 200, 1))], [], none), [(0, 0, 99995), (1, 4, 200), (0, 0, 99933)]), (71, 0, ([((2, 805, 805, 0), none), ((0, 6, 6, 0), none), ((0, 0, 0, 0), none), ((0, 0, 0, 0), none), ((0, 0, 199, 1), none)], [(0, 0), (1, 1), (2, 2), (3, 3), (4, 4)], [], [], [], [], [((806, 806), (2440, 2440, 0), (0, 1, 200, 1))], [], none), [(0, 0, 99995), (1, 4, 200), (0, 0, 99929)])]) (ss := []) (K := 3) (fuel := 4000) wd_fl2_ok rfl (List.forall_mem_cons.mpr ⟨kh_cJ0_ok, (List.forall_mem_cons.mpr ⟨kh_cJ2_ok, (List.forall_mem_cons.mpr ⟨kh_cJ4_ok, (List.forall_mem_nil _)⟩)⟩)⟩) (by decide +kernel)
/- UtilityWorksModel bNotices -/
def kh_715 : ct_T := (515, [(2, 805, 805, 0), (0, 0, 0, 0)], [], [510, 513], [(0, (0, 0, 0, 0), [(2, 805, 805, 0), (0, 0, 0, 0)], [], ([510, 513], []))], [((806, 806), (2440, 4047, 1))], 3, 67, 0)
theorem kh_715_ok : ct_ok wd_fl2 kh_715 := ct_of (ff := wd_ff2) (y := (⟨"UtilityWorksModel", "bNotices", "(I)V"⟩, prog_14_method_249_code, 2, none, 12, 1, 1, 35115, 35114, 14005, 21014)) (Cs := [kh_708, kh_rankOf, kh_468, kh_709, kh_cMay, kh_cAddb, kh_711, kh_713, kh_714]) (an := [(54, 0, ([((2, 805, 805, 0), none), ((0, 0, 0, 0), none)], [(0, 0), (1, 1)], [], [], [], [], [], [510, 513], none), [(0, 0, 99946)]), (98, 0, ([((2, 805, 805, 0), none), ((0, 0, 0, 0), none)], [(0, 0), (1, 1)], [], [], [], [], [], [510, 513], none), [(0, 0, 99902)])]) (ss := []) (K := 1) (fuel := 4000) wd_fl2_ok rfl (List.forall_mem_cons.mpr ⟨kh_708_ok, (List.forall_mem_cons.mpr ⟨kh_rankOf_l2, (List.forall_mem_cons.mpr ⟨kh_468_l2, (List.forall_mem_cons.mpr ⟨kh_709_ok, (List.forall_mem_cons.mpr ⟨kh_cMay_ok, (List.forall_mem_cons.mpr ⟨kh_cAddb_ok, (List.forall_mem_cons.mpr ⟨kh_711_ok, (List.forall_mem_cons.mpr ⟨kh_713_ok, (List.forall_mem_cons.mpr ⟨kh_714_ok, (List.forall_mem_nil _)⟩)⟩)⟩)⟩)⟩)⟩)⟩)⟩)⟩) (by decide +kernel)
/- UtilityWorksModel bC -/
def kh_716 : ct_T := (413, [(0, 0, 1, 1), (0, 1, 1, 0)], [], [], [(1, (0, 1821, 1841, 20), [(0, 0, 1, 1), (0, 1, 1, 0)], [], ([], []))], [], 0, 0, 0)
theorem kh_716_ok : ct_ok wd_fl2 kh_716 := ct_of (ff := wd_ff2) (y := (⟨"UtilityWorksModel", "bC", "(II)I"⟩, prog_14_method_227_code, 2, some .int, 12, 0, 2, 33186, 33185, 0, 21014)) (Cs := []) (an := []) (ss := []) (K := 1) (fuel := 4000) wd_fl2_ok rfl (List.forall_mem_nil _) (by decide +kernel)
/- UtilityWorksModel bC -/
def kh_717 : ct_T := (413, [(0, 0, 1, 1), (0, 2, 2, 0)], [], [], [(1, (0, 1822, 1842, 20), [(0, 0, 1, 1), (0, 2, 2, 0)], [], ([], []))], [], 0, 0, 0)
theorem kh_717_ok : ct_ok wd_fl2 kh_717 := ct_of (ff := wd_ff2) (y := (⟨"UtilityWorksModel", "bC", "(II)I"⟩, prog_14_method_227_code, 2, some .int, 12, 0, 2, 33186, 33185, 0, 21014)) (Cs := []) (an := []) (ss := []) (K := 1) (fuel := 4000) wd_fl2_ok rfl (List.forall_mem_nil _) (by decide +kernel)
/- UtilityWorksModel bDue -/
def kh_718 : ct_T := (504, [(2, 805, 805, 0), (0, 0, 1, 1), (0, 0, 214748364, 1)], [], [], [(1, (1, (-9223372036854775808), 9223372036854775807, 1), [(2, 805, 805, 0), (0, 0, 1, 1), (0, 0, 214748364, 1)], [], ([], []))], [], 0, 0, 0)
theorem kh_718_ok : ct_ok wd_fl2 kh_718 := ct_of (ff := wd_ff2) (y := (⟨"UtilityWorksModel", "bDue", "(II)J"⟩, prog_14_method_242_code, 3, some .long, 12, 1, 2, 35069, 35068, 13011, 21014)) (Cs := []) (an := []) (ss := []) (K := 1) (fuel := 4000) wd_fl2_ok rfl (List.forall_mem_nil _) (by decide +kernel)
/- UtilityWorksModel bC -/
def kh_719 : ct_T := (413, [(0, 0, 1, 1), (0, 3, 3, 0)], [], [], [(1, (0, 1823, 1843, 20), [(0, 0, 1, 1), (0, 3, 3, 0)], [], ([], []))], [], 0, 0, 0)
theorem kh_719_ok : ct_ok wd_fl2 kh_719 := ct_of (ff := wd_ff2) (y := (⟨"UtilityWorksModel", "bC", "(II)I"⟩, prog_14_method_227_code, 2, some .int, 12, 0, 2, 33186, 33185, 0, 21014)) (Cs := []) (an := []) (ss := []) (K := 1) (fuel := 4000) wd_fl2_ok rfl (List.forall_mem_nil _) (by decide +kernel)
/- UtilityWorksModel bEndPlan -/
def kh_720 : ct_T := (505, [(2, 805, 805, 0), (0, 0, 1, 1)], [], [], [(0, (0, 0, 0, 0), [(2, 805, 805, 0), (0, 0, 1, 1)], [], ([], []))], [((806, 806), (1821, 1841, 20)), ((806, 806), (1822, 1842, 20)), ((807, 807), (2830, 2831, 1)), ((807, 807), (2840, 2841, 1)), ((807, 807), (2850, 2851, 1))], 1, 21, 0)
theorem kh_720_ok : ct_ok wd_fl2 kh_720 := ct_of (ff := wd_ff2) (y := (⟨"UtilityWorksModel", "bEndPlan", "(I)V"⟩, prog_14_method_241_code, 2, none, 12, 1, 1, 35073, 35072, 13012, 21014)) (Cs := [kh_716, kh_717]) (an := []) (ss := []) (K := 1) (fuel := 4000) wd_fl2_ok rfl (List.forall_mem_cons.mpr ⟨kh_716_ok, (List.forall_mem_cons.mpr ⟨kh_717_ok, (List.forall_mem_nil _)⟩)⟩) (by decide +kernel)
/- UtilityWorksModel bPlanDay -/
def kh_721 : ct_T := (503, [(2, 805, 805, 0), (0, 0, 1, 1)], [], [], [(0, (0, 0, 0, 0), [(2, 805, 805, 0), (0, 0, 1, 1)], [], ([], []))], [((806, 806), (1821, 1841, 20)), ((806, 806), (1822, 1842, 20)), ((806, 806), (1823, 1843, 20)), ((807, 807), (2830, 2831, 1)), ((807, 807), (2840, 2841, 1)), ((807, 807), (2850, 2851, 1))], 2, 42, 0)
theorem kh_721_ok : ct_ok wd_fl2 kh_721 := ct_of (ff := wd_ff2) (y := (⟨"UtilityWorksModel", "bPlanDay", "(I)V"⟩, prog_14_method_243_code, 4, none, 12, 1, 1, 35065, 35064, 13010, 21014)) (Cs := [kh_716, kh_day, kh_717, kh_718, kh_719, kh_720]) (an := [(92, 0, ([((2, 805, 805, 0), none), ((0, 0, 1, 1), none), ((0, 0, 6, 1), none), ((0, (-2147483648), 2147483647, 1), none)], [(0, 0), (1, 1), (2, 2), (3, 3)], [], [], [], [], [], [], none), [(0, 0, 99908)])]) (ss := []) (K := 1) (fuel := 4000) wd_fl2_ok rfl (List.forall_mem_cons.mpr ⟨kh_716_ok, (List.forall_mem_cons.mpr ⟨kh_day_ok, (List.forall_mem_cons.mpr ⟨kh_717_ok, (List.forall_mem_cons.mpr ⟨kh_718_ok, (List.forall_mem_cons.mpr ⟨kh_719_ok, (List.forall_mem_cons.mpr ⟨kh_720_ok, (List.forall_mem_nil _)⟩)⟩)⟩)⟩)⟩)⟩) (by decide +kernel)
/- UtilityWorksModel bB -/
def kh_722 : ct_T := (507, [(0, 0, 1, 1), (0, 0, 32, 1), (0, 7, 7, 0)], [], [], [(1, (0, 107, 635, 8), [(0, 0, 1, 1), (0, 0, 32, 1), (0, 7, 7, 0)], [], ([], []))], [], 0, 0, 0)
theorem kh_722_ok : ct_ok wd_fl2 kh_722 := ct_of (ff := wd_ff2) (y := (⟨"UtilityWorksModel", "bB", "(III)I"⟩, prog_14_method_228_code, 3, some .int, 12, 0, 3, 35080, 35079, 0, 21014)) (Cs := []) (an := []) (ss := []) (K := 1) (fuel := 4000) wd_fl2_ok rfl (List.forall_mem_nil _) (by decide +kernel)
/- UtilityWorksModel bInterest -/
def kh_723 : ct_T := (506, [(2, 805, 805, 0), (0, 0, 1, 1)], [], [], [(0, (0, 0, 0, 0), [(2, 805, 805, 0), (0, 0, 1, 1)], [], ([], []))], [((807, 807), (107, 635, 8)), ((807, 807), (2862, 2862, 0))], 1, 22, 0)
theorem kh_723_ok : ct_ok wd_fl2 kh_723 := ct_of (ff := wd_ff2) (y := (⟨"UtilityWorksModel", "bInterest", "(I)V"⟩, prog_14_method_244_code, 5, none, 12, 1, 1, 35077, 35076, 13013, 21014)) (Cs := [kh_bC0, kh_722]) (an := [(2, 0, ([((2, 805, 805, 0), none), ((0, 0, 1, 1), none), ((0, 0, 33, 1), none)], [(0, 0), (1, 1), (2, 2)], [], [], [], [], [], [], none), [(0, 0, 99998), (1, 2, 33), (0, 0, 99998)])]) (ss := []) (K := 3) (fuel := 4000) wd_fl2_ok rfl (List.forall_mem_cons.mpr ⟨kh_bC0_ok, (List.forall_mem_cons.mpr ⟨kh_722_ok, (List.forall_mem_nil _)⟩)⟩) (by decide +kernel)
/- UtilityWorksModel bB -/
def kh_724 : ct_T := (507, [(0, 0, 1, 1), (0, 0, 32, 1), (0, 0, 0, 0)], [], [], [(1, (0, 100, 628, 8), [(0, 0, 1, 1), (0, 0, 32, 1), (0, 0, 0, 0)], [], ([], []))], [], 0, 0, 0)
theorem kh_724_ok : ct_ok wd_fl2 kh_724 := ct_of (ff := wd_ff2) (y := (⟨"UtilityWorksModel", "bB", "(III)I"⟩, prog_14_method_228_code, 3, some .int, 12, 0, 3, 35080, 35079, 0, 21014)) (Cs := []) (an := []) (ss := []) (K := 1) (fuel := 4000) wd_fl2_ok rfl (List.forall_mem_nil _) (by decide +kernel)
/- UtilityWorksModel bNotice -/
def kh_725 : ct_T := (516, [(2, 805, 805, 0), (0, 0, 1, 1)], [], [], [(1, (0, 0, 0, 0), [(2, 805, 805, 0), (0, 0, 1, 1)], [], ([], [])), (1, (0, 1, 1, 0), [(2, 805, 805, 0), (0, 0, 1, 1)], [], ([], [])), (1, (0, 2, 3, 1), [(2, 805, 805, 0), (0, 0, 1, 1)], [], ([], []))], [], 1, 22, 0)
theorem kh_725_ok : ct_ok wd_fl2 kh_725 := ct_of (ff := wd_ff2) (y := (⟨"UtilityWorksModel", "bNotice", "(I)I"⟩, prog_14_method_248_code, 5, some .int, 12, 1, 1, 35119, 35118, 14006, 21014)) (Cs := [kh_bC0, kh_716, kh_day, kh_724, kh_722]) (an := [(15, 0, ([((2, 805, 805, 0), none), ((0, 0, 1, 1), none), ((0, (-1), 32, 1), none), ((0, (-1), 32, 1), none)], [(0, 0), (1, 1), (2, 2), (3, 3)], [], [], [], [], [], [], none), [(0, 0, 99985), (2, 3, (-1)), (0, 0, 99985)]), (66, 0, ([((2, 805, 805, 0), none), ((0, 0, 1, 1), none), ((0, (-1), 32, 1), none), ((0, (-1), (-1), 1), none)], [(0, 0), (1, 1), (2, 2), (3, 3)], [], [], [], [], [], [], none), [(0, 0, 99934), (0, 0, 0), (0, 0, 0)])]) (ss := []) (K := 3) (fuel := 4000) wd_fl2_ok rfl (List.forall_mem_cons.mpr ⟨kh_bC0_ok, (List.forall_mem_cons.mpr ⟨kh_716_ok, (List.forall_mem_cons.mpr ⟨kh_day_ok, (List.forall_mem_cons.mpr ⟨kh_724_ok, (List.forall_mem_cons.mpr ⟨kh_722_ok, (List.forall_mem_nil _)⟩)⟩)⟩)⟩)⟩) (by decide +kernel)
/- UtilityWorksModel cHas -/
def kh_726 : ct_T := (517, [(2, 805, 805, 0), (0, 5, 5, 0), (0, 0, 1, 1)], [], [], [(1, (0, 0, 1, 1), [(2, 805, 805, 0), (0, 5, 5, 0), (0, 0, 1, 1)], [], ([], []))], [], 1, 21, 0)
theorem kh_726_ok : ct_ok wd_fl2 kh_726 := ct_of (ff := wd_ff2) (y := (⟨"UtilityWorksModel", "cHas", "(II)Z"⟩, prog_14_method_276_code, 5, some .boolean, 12, 1, 2, 35126, 35125, 14007, 21014)) (Cs := [kh_cJ0, kh_cJ2, kh_cJ4]) (an := [(5, 0, ([((2, 805, 805, 0), none), ((0, 5, 5, 0), none), ((0, 0, 1, 1), none), ((0, 0, 1, 1), none), ((0, 0, 200, 1), none)], [(0, 0), (1, 1), (2, 2), (3, 3), (4, 4)], [], [], [], [], [], [], none), [(0, 0, 99995), (1, 4, 200), (0, 0, 99995)]), (67, 0, ([((2, 805, 805, 0), none), ((0, 5, 5, 0), none), ((0, 0, 1, 1), none), ((0, 0, 1, 1), none), ((0, 0, 199, 1), none)], [(0, 0), (1, 1), (2, 2), (3, 3), (4, 4)], [], [], [], [], [((806, 806), (2440, 2440, 0), (0, 1, 200, 1))], [], none), [(0, 0, 99995), (1, 4, 200), (0, 0, 99933)]), (71, 0, ([((2, 805, 805, 0), none), ((0, 5, 5, 0), none), ((0, 0, 1, 1), none), ((0, 0, 0, 0), none), ((0, 0, 199, 1), none)], [(0, 0), (1, 1), (2, 2), (3, 3), (4, 4)], [], [], [], [], [((806, 806), (2440, 2440, 0), (0, 1, 200, 1))], [], none), [(0, 0, 99995), (1, 4, 200), (0, 0, 99929)])]) (ss := []) (K := 3) (fuel := 4000) wd_fl2_ok rfl (List.forall_mem_cons.mpr ⟨kh_cJ0_ok, (List.forall_mem_cons.mpr ⟨kh_cJ2_ok, (List.forall_mem_cons.mpr ⟨kh_cJ4_ok, (List.forall_mem_nil _)⟩)⟩)⟩) (by decide +kernel)
/- UtilityWorksModel bC -/
def kh_727 : ct_T := (413, [(0, 0, 1, 1), (0, 5, 5, 0)], [], [], [(1, (0, 1825, 1845, 20), [(0, 0, 1, 1), (0, 5, 5, 0)], [], ([], []))], [], 0, 0, 0)
theorem kh_727_ok : ct_ok wd_fl2 kh_727 := ct_of (ff := wd_ff2) (y := (⟨"UtilityWorksModel", "bC", "(II)I"⟩, prog_14_method_227_code, 2, some .int, 12, 0, 2, 33186, 33185, 0, 21014)) (Cs := []) (an := []) (ss := []) (K := 1) (fuel := 4000) wd_fl2_ok rfl (List.forall_mem_nil _) (by decide +kernel)
/- UtilityWorksModel bCutFrom -/
def kh_728 : ct_T := (412, [(2, 805, 805, 0), (0, 0, 1, 1)], [], [], [(1, (0, (-2147483648), 2147483647, 1), [(2, 805, 805, 0), (0, 0, 1, 1)], [], ([], []))], [], 1, 21, 0)
theorem kh_728_ok : ct_ok wd_fl2 kh_728 := ct_of (ff := wd_ff2) (y := (⟨"UtilityWorksModel", "bCutFrom", "(I)I"⟩, prog_14_method_235_code, 2, some .int, 12, 1, 1, 33183, 33182, 8001, 21014)) (Cs := [kh_727]) (an := []) (ss := []) (K := 1) (fuel := 4000) wd_fl2_ok rfl (List.forall_mem_cons.mpr ⟨kh_727_ok, (List.forall_mem_nil _)⟩) (by decide +kernel)
/- UtilityWorksModel bOpen -/
def kh_729 : ct_T := (522, [(2, 805, 805, 0), (0, 0, 1, 1)], [], [], [(1, (1, (-9223372036854775808), 9223372036854775807, 1), [(2, 805, 805, 0), (0, 0, 1, 1)], [], ([], []))], [], 1, 22, 0)
theorem kh_729_ok : ct_ok wd_fl2 kh_729 := ct_of (ff := wd_ff2) (y := (⟨"UtilityWorksModel", "bOpen", "(I)J"⟩, prog_14_method_238_code, 5, some .long, 12, 1, 1, 35146, 35145, 14012, 21014)) (Cs := [kh_bC0, kh_722]) (an := [(5, 0, ([((2, 805, 805, 0), none), ((0, 0, 1, 1), none), ((1, (-9223372036854775808), 9223372036854775807, 1), none), ((0, 0, 33, 1), none)], [(0, 0), (1, 1), (2, 2), (4, 3)], [], [], [], [], [], [], none), [(0, 0, 99995), (1, 3, 33), (0, 0, 99995)])]) (ss := []) (K := 3) (fuel := 4000) wd_fl2_ok rfl (List.forall_mem_cons.mpr ⟨kh_bC0_ok, (List.forall_mem_cons.mpr ⟨kh_722_ok, (List.forall_mem_nil _)⟩)⟩) (by decide +kernel)
/- UtilityWorksModel bOwes -/
def kh_730 : ct_T := (521, [(2, 805, 805, 0), (0, 0, 1, 1)], [], [], [(1, (1, (-9223372036854775808), 9223372036854775807, 1), [(2, 805, 805, 0), (0, 0, 1, 1)], [], ([], []))], [], 2, 46, 0)
theorem kh_730_ok : ct_ok wd_fl2 kh_730 := ct_of (ff := wd_ff2) (y := (⟨"UtilityWorksModel", "bOwes", "(I)J"⟩, prog_14_method_239_code, 2, some .long, 12, 1, 1, 35142, 35141, 14011, 21014)) (Cs := [kh_729]) (an := []) (ss := []) (K := 1) (fuel := 4000) wd_fl2_ok rfl (List.forall_mem_cons.mpr ⟨kh_729_ok, (List.forall_mem_nil _)⟩) (by decide +kernel)
/- UtilityWorksModel cHas -/
def kh_731 : ct_T := (517, [(2, 805, 805, 0), (0, 6, 6, 0), (0, 0, 1, 1)], [], [], [(1, (0, 0, 1, 1), [(2, 805, 805, 0), (0, 6, 6, 0), (0, 0, 1, 1)], [], ([], []))], [], 1, 21, 0)
theorem kh_731_ok : ct_ok wd_fl2 kh_731 := ct_of (ff := wd_ff2) (y := (⟨"UtilityWorksModel", "cHas", "(II)Z"⟩, prog_14_method_276_code, 5, some .boolean, 12, 1, 2, 35126, 35125, 14007, 21014)) (Cs := [kh_cJ0, kh_cJ2, kh_cJ4]) (an := [(5, 0, ([((2, 805, 805, 0), none), ((0, 6, 6, 0), none), ((0, 0, 1, 1), none), ((0, 0, 1, 1), none), ((0, 0, 200, 1), none)], [(0, 0), (1, 1), (2, 2), (3, 3), (4, 4)], [], [], [], [], [], [], none), [(0, 0, 99995), (1, 4, 200), (0, 0, 99995)]), (67, 0, ([((2, 805, 805, 0), none), ((0, 6, 6, 0), none), ((0, 0, 1, 1), none), ((0, 0, 1, 1), none), ((0, 0, 199, 1), none)], [(0, 0), (1, 1), (2, 2), (3, 3), (4, 4)], [], [], [], [], [((806, 806), (2440, 2440, 0), (0, 1, 200, 1))], [], none), [(0, 0, 99995), (1, 4, 200), (0, 0, 99933)]), (71, 0, ([((2, 805, 805, 0), none), ((0, 6, 6, 0), none), ((0, 0, 1, 1), none), ((0, 0, 0, 0), none), ((0, 0, 199, 1), none)], [(0, 0), (1, 1), (2, 2), (3, 3), (4, 4)], [], [], [], [], [((806, 806), (2440, 2440, 0), (0, 1, 200, 1))], [], none), [(0, 0, 99995), (1, 4, 200), (0, 0, 99929)])]) (ss := []) (K := 3) (fuel := 4000) wd_fl2_ok rfl (List.forall_mem_cons.mpr ⟨kh_cJ0_ok, (List.forall_mem_cons.mpr ⟨kh_cJ2_ok, (List.forall_mem_cons.mpr ⟨kh_cJ4_ok, (List.forall_mem_nil _)⟩)⟩)⟩) (by decide +kernel)
/- UtilityWorksModel bNotices -/
def kh_732 : ct_T := (515, [(2, 805, 805, 0), (0, 0, 1, 1)], [], [510, 513], [(0, (0, 0, 0, 0), [(2, 805, 805, 0), (0, 0, 1, 1)], [], ([510, 513], []))], [((806, 806), (2440, 4047, 1))], 3, 67, 0)
theorem kh_732_ok : ct_ok wd_fl2 kh_732 := ct_of (ff := wd_ff2) (y := (⟨"UtilityWorksModel", "bNotices", "(I)V"⟩, prog_14_method_249_code, 2, none, 12, 1, 1, 35115, 35114, 14005, 21014)) (Cs := [kh_725, kh_rankOf, kh_476, kh_726, kh_cMay, kh_cAddb, kh_728, kh_730, kh_731]) (an := [(54, 0, ([((2, 805, 805, 0), none), ((0, 0, 1, 1), none)], [(0, 0), (1, 1)], [], [], [], [], [], [510, 513], none), [(0, 0, 99946)]), (98, 0, ([((2, 805, 805, 0), none), ((0, 0, 1, 1), none)], [(0, 0), (1, 1)], [], [], [], [], [], [510, 513], none), [(0, 0, 99902)])]) (ss := []) (K := 1) (fuel := 4000) wd_fl2_ok rfl (List.forall_mem_cons.mpr ⟨kh_725_ok, (List.forall_mem_cons.mpr ⟨kh_rankOf_l2, (List.forall_mem_cons.mpr ⟨kh_476_l2, (List.forall_mem_cons.mpr ⟨kh_726_ok, (List.forall_mem_cons.mpr ⟨kh_cMay_ok, (List.forall_mem_cons.mpr ⟨kh_cAddb_ok, (List.forall_mem_cons.mpr ⟨kh_728_ok, (List.forall_mem_cons.mpr ⟨kh_730_ok, (List.forall_mem_cons.mpr ⟨kh_731_ok, (List.forall_mem_nil _)⟩)⟩)⟩)⟩)⟩)⟩)⟩)⟩)⟩) (by decide +kernel)
/- UtilityWorksModel bC -/
def kh_733 : ct_T := (413, [(0, 0, 2, 1), (0, 1, 1, 0)], [], [], [(1, (0, 1821, 1861, 20), [(0, 0, 2, 1), (0, 1, 1, 0)], [], ([], []))], [], 0, 0, 0)
theorem kh_733_ok : ct_ok wd_fl2 kh_733 := ct_of (ff := wd_ff2) (y := (⟨"UtilityWorksModel", "bC", "(II)I"⟩, prog_14_method_227_code, 2, some .int, 12, 0, 2, 33186, 33185, 0, 21014)) (Cs := []) (an := []) (ss := []) (K := 1) (fuel := 4000) wd_fl2_ok rfl (List.forall_mem_nil _) (by decide +kernel)
/- UtilityWorksModel bC -/
def kh_734 : ct_T := (413, [(0, 0, 2, 1), (0, 2, 2, 0)], [], [], [(1, (0, 1822, 1862, 20), [(0, 0, 2, 1), (0, 2, 2, 0)], [], ([], []))], [], 0, 0, 0)
theorem kh_734_ok : ct_ok wd_fl2 kh_734 := ct_of (ff := wd_ff2) (y := (⟨"UtilityWorksModel", "bC", "(II)I"⟩, prog_14_method_227_code, 2, some .int, 12, 0, 2, 33186, 33185, 0, 21014)) (Cs := []) (an := []) (ss := []) (K := 1) (fuel := 4000) wd_fl2_ok rfl (List.forall_mem_nil _) (by decide +kernel)
/- UtilityWorksModel bDue -/
def kh_735 : ct_T := (504, [(2, 805, 805, 0), (0, 0, 2, 1), (0, 0, 214748364, 1)], [], [], [(1, (1, (-9223372036854775808), 9223372036854775807, 1), [(2, 805, 805, 0), (0, 0, 2, 1), (0, 0, 214748364, 1)], [], ([], []))], [], 0, 0, 0)
theorem kh_735_ok : ct_ok wd_fl2 kh_735 := ct_of (ff := wd_ff2) (y := (⟨"UtilityWorksModel", "bDue", "(II)J"⟩, prog_14_method_242_code, 3, some .long, 12, 1, 2, 35069, 35068, 13011, 21014)) (Cs := []) (an := []) (ss := []) (K := 1) (fuel := 4000) wd_fl2_ok rfl (List.forall_mem_nil _) (by decide +kernel)
/- UtilityWorksModel bC -/
def kh_736 : ct_T := (413, [(0, 0, 2, 1), (0, 3, 3, 0)], [], [], [(1, (0, 1823, 1863, 20), [(0, 0, 2, 1), (0, 3, 3, 0)], [], ([], []))], [], 0, 0, 0)
theorem kh_736_ok : ct_ok wd_fl2 kh_736 := ct_of (ff := wd_ff2) (y := (⟨"UtilityWorksModel", "bC", "(II)I"⟩, prog_14_method_227_code, 2, some .int, 12, 0, 2, 33186, 33185, 0, 21014)) (Cs := []) (an := []) (ss := []) (K := 1) (fuel := 4000) wd_fl2_ok rfl (List.forall_mem_nil _) (by decide +kernel)
/- UtilityWorksModel bEndPlan -/
def kh_737 : ct_T := (505, [(2, 805, 805, 0), (0, 0, 2, 1)], [], [], [(0, (0, 0, 0, 0), [(2, 805, 805, 0), (0, 0, 2, 1)], [], ([], []))], [((806, 806), (1821, 1861, 20)), ((806, 806), (1822, 1862, 20)), ((807, 807), (2830, 2832, 1)), ((807, 807), (2840, 2842, 1)), ((807, 807), (2850, 2852, 1))], 1, 21, 0)
theorem kh_737_ok : ct_ok wd_fl2 kh_737 := ct_of (ff := wd_ff2) (y := (⟨"UtilityWorksModel", "bEndPlan", "(I)V"⟩, prog_14_method_241_code, 2, none, 12, 1, 1, 35073, 35072, 13012, 21014)) (Cs := [kh_733, kh_734]) (an := []) (ss := []) (K := 1) (fuel := 4000) wd_fl2_ok rfl (List.forall_mem_cons.mpr ⟨kh_733_ok, (List.forall_mem_cons.mpr ⟨kh_734_ok, (List.forall_mem_nil _)⟩)⟩) (by decide +kernel)
/- UtilityWorksModel bPlanDay -/
def kh_738 : ct_T := (503, [(2, 805, 805, 0), (0, 0, 2, 1)], [], [], [(0, (0, 0, 0, 0), [(2, 805, 805, 0), (0, 0, 2, 1)], [], ([], []))], [((806, 806), (1821, 1861, 20)), ((806, 806), (1822, 1862, 20)), ((806, 806), (1823, 1863, 20)), ((807, 807), (2830, 2832, 1)), ((807, 807), (2840, 2842, 1)), ((807, 807), (2850, 2852, 1))], 2, 42, 0)
theorem kh_738_ok : ct_ok wd_fl2 kh_738 := ct_of (ff := wd_ff2) (y := (⟨"UtilityWorksModel", "bPlanDay", "(I)V"⟩, prog_14_method_243_code, 4, none, 12, 1, 1, 35065, 35064, 13010, 21014)) (Cs := [kh_733, kh_day, kh_734, kh_735, kh_736, kh_737]) (an := [(92, 0, ([((2, 805, 805, 0), none), ((0, 0, 2, 1), none), ((0, 0, 6, 1), none), ((0, (-2147483648), 2147483647, 1), none)], [(0, 0), (1, 1), (2, 2), (3, 3)], [], [], [], [], [], [], none), [(0, 0, 99908)])]) (ss := []) (K := 1) (fuel := 4000) wd_fl2_ok rfl (List.forall_mem_cons.mpr ⟨kh_733_ok, (List.forall_mem_cons.mpr ⟨kh_day_ok, (List.forall_mem_cons.mpr ⟨kh_734_ok, (List.forall_mem_cons.mpr ⟨kh_735_ok, (List.forall_mem_cons.mpr ⟨kh_736_ok, (List.forall_mem_cons.mpr ⟨kh_737_ok, (List.forall_mem_nil _)⟩)⟩)⟩)⟩)⟩)⟩) (by decide +kernel)
/- UtilityWorksModel bB -/
def kh_739 : ct_T := (507, [(0, 0, 2, 1), (0, 0, 32, 1), (0, 7, 7, 0)], [], [], [(1, (0, 107, 907, 8), [(0, 0, 2, 1), (0, 0, 32, 1), (0, 7, 7, 0)], [], ([], []))], [], 0, 0, 0)
theorem kh_739_ok : ct_ok wd_fl2 kh_739 := ct_of (ff := wd_ff2) (y := (⟨"UtilityWorksModel", "bB", "(III)I"⟩, prog_14_method_228_code, 3, some .int, 12, 0, 3, 35080, 35079, 0, 21014)) (Cs := []) (an := []) (ss := []) (K := 1) (fuel := 4000) wd_fl2_ok rfl (List.forall_mem_nil _) (by decide +kernel)
/- UtilityWorksModel bInterest -/
def kh_740 : ct_T := (506, [(2, 805, 805, 0), (0, 0, 2, 1)], [], [], [(0, (0, 0, 0, 0), [(2, 805, 805, 0), (0, 0, 2, 1)], [], ([], []))], [((807, 807), (107, 907, 8)), ((807, 807), (2862, 2862, 0))], 1, 22, 0)
theorem kh_740_ok : ct_ok wd_fl2 kh_740 := ct_of (ff := wd_ff2) (y := (⟨"UtilityWorksModel", "bInterest", "(I)V"⟩, prog_14_method_244_code, 5, none, 12, 1, 1, 35077, 35076, 13013, 21014)) (Cs := [kh_bC0, kh_739]) (an := [(2, 0, ([((2, 805, 805, 0), none), ((0, 0, 2, 1), none), ((0, 0, 33, 1), none)], [(0, 0), (1, 1), (2, 2)], [], [], [], [], [], [], none), [(0, 0, 99998), (1, 2, 33), (0, 0, 99998)])]) (ss := []) (K := 3) (fuel := 4000) wd_fl2_ok rfl (List.forall_mem_cons.mpr ⟨kh_bC0_ok, (List.forall_mem_cons.mpr ⟨kh_739_ok, (List.forall_mem_nil _)⟩)⟩) (by decide +kernel)
/- UtilityWorksModel bB -/
def kh_741 : ct_T := (507, [(0, 0, 2, 1), (0, 0, 32, 1), (0, 0, 0, 0)], [], [], [(1, (0, 100, 900, 8), [(0, 0, 2, 1), (0, 0, 32, 1), (0, 0, 0, 0)], [], ([], []))], [], 0, 0, 0)
theorem kh_741_ok : ct_ok wd_fl2 kh_741 := ct_of (ff := wd_ff2) (y := (⟨"UtilityWorksModel", "bB", "(III)I"⟩, prog_14_method_228_code, 3, some .int, 12, 0, 3, 35080, 35079, 0, 21014)) (Cs := []) (an := []) (ss := []) (K := 1) (fuel := 4000) wd_fl2_ok rfl (List.forall_mem_nil _) (by decide +kernel)
/- UtilityWorksModel bNotice -/
def kh_742 : ct_T := (516, [(2, 805, 805, 0), (0, 0, 2, 1)], [], [], [(1, (0, 0, 0, 0), [(2, 805, 805, 0), (0, 0, 2, 1)], [], ([], [])), (1, (0, 1, 1, 0), [(2, 805, 805, 0), (0, 0, 2, 1)], [], ([], [])), (1, (0, 2, 3, 1), [(2, 805, 805, 0), (0, 0, 2, 1)], [], ([], []))], [], 1, 22, 0)
theorem kh_742_ok : ct_ok wd_fl2 kh_742 := ct_of (ff := wd_ff2) (y := (⟨"UtilityWorksModel", "bNotice", "(I)I"⟩, prog_14_method_248_code, 5, some .int, 12, 1, 1, 35119, 35118, 14006, 21014)) (Cs := [kh_bC0, kh_733, kh_day, kh_741, kh_739]) (an := [(15, 0, ([((2, 805, 805, 0), none), ((0, 0, 2, 1), none), ((0, (-1), 32, 1), none), ((0, (-1), 32, 1), none)], [(0, 0), (1, 1), (2, 2), (3, 3)], [], [], [], [], [], [], none), [(0, 0, 99985), (2, 3, (-1)), (0, 0, 99985)]), (66, 0, ([((2, 805, 805, 0), none), ((0, 0, 2, 1), none), ((0, (-1), 32, 1), none), ((0, (-1), (-1), 1), none)], [(0, 0), (1, 1), (2, 2), (3, 3)], [], [], [], [], [], [], none), [(0, 0, 99934), (0, 0, 0), (0, 0, 0)])]) (ss := []) (K := 3) (fuel := 4000) wd_fl2_ok rfl (List.forall_mem_cons.mpr ⟨kh_bC0_ok, (List.forall_mem_cons.mpr ⟨kh_733_ok, (List.forall_mem_cons.mpr ⟨kh_day_ok, (List.forall_mem_cons.mpr ⟨kh_741_ok, (List.forall_mem_cons.mpr ⟨kh_739_ok, (List.forall_mem_nil _)⟩)⟩)⟩)⟩)⟩) (by decide +kernel)
/- UtilityWorksModel cHas -/
def kh_743 : ct_T := (517, [(2, 805, 805, 0), (0, 5, 5, 0), (0, 0, 2, 1)], [], [], [(1, (0, 0, 1, 1), [(2, 805, 805, 0), (0, 5, 5, 0), (0, 0, 2, 1)], [], ([], []))], [], 1, 21, 0)
theorem kh_743_ok : ct_ok wd_fl2 kh_743 := ct_of (ff := wd_ff2) (y := (⟨"UtilityWorksModel", "cHas", "(II)Z"⟩, prog_14_method_276_code, 5, some .boolean, 12, 1, 2, 35126, 35125, 14007, 21014)) (Cs := [kh_cJ0, kh_cJ2, kh_cJ4]) (an := [(5, 0, ([((2, 805, 805, 0), none), ((0, 5, 5, 0), none), ((0, 0, 2, 1), none), ((0, 0, 1, 1), none), ((0, 0, 200, 1), none)], [(0, 0), (1, 1), (2, 2), (3, 3), (4, 4)], [], [], [], [], [], [], none), [(0, 0, 99995), (1, 4, 200), (0, 0, 99995)]), (67, 0, ([((2, 805, 805, 0), none), ((0, 5, 5, 0), none), ((0, 0, 2, 1), none), ((0, 0, 1, 1), none), ((0, 0, 199, 1), none)], [(0, 0), (1, 1), (2, 2), (3, 3), (4, 4)], [], [], [], [], [((806, 806), (2440, 2440, 0), (0, 1, 200, 1))], [], none), [(0, 0, 99995), (1, 4, 200), (0, 0, 99933)]), (71, 0, ([((2, 805, 805, 0), none), ((0, 5, 5, 0), none), ((0, 0, 2, 1), none), ((0, 0, 0, 0), none), ((0, 0, 199, 1), none)], [(0, 0), (1, 1), (2, 2), (3, 3), (4, 4)], [], [], [], [], [((806, 806), (2440, 2440, 0), (0, 1, 200, 1))], [], none), [(0, 0, 99995), (1, 4, 200), (0, 0, 99929)])]) (ss := []) (K := 3) (fuel := 4000) wd_fl2_ok rfl (List.forall_mem_cons.mpr ⟨kh_cJ0_ok, (List.forall_mem_cons.mpr ⟨kh_cJ2_ok, (List.forall_mem_cons.mpr ⟨kh_cJ4_ok, (List.forall_mem_nil _)⟩)⟩)⟩) (by decide +kernel)
/- UtilityWorksModel bC -/
def kh_744 : ct_T := (413, [(0, 0, 2, 1), (0, 5, 5, 0)], [], [], [(1, (0, 1825, 1865, 20), [(0, 0, 2, 1), (0, 5, 5, 0)], [], ([], []))], [], 0, 0, 0)
theorem kh_744_ok : ct_ok wd_fl2 kh_744 := ct_of (ff := wd_ff2) (y := (⟨"UtilityWorksModel", "bC", "(II)I"⟩, prog_14_method_227_code, 2, some .int, 12, 0, 2, 33186, 33185, 0, 21014)) (Cs := []) (an := []) (ss := []) (K := 1) (fuel := 4000) wd_fl2_ok rfl (List.forall_mem_nil _) (by decide +kernel)
/- UtilityWorksModel bCutFrom -/
def kh_745 : ct_T := (412, [(2, 805, 805, 0), (0, 0, 2, 1)], [], [], [(1, (0, (-2147483648), 2147483647, 1), [(2, 805, 805, 0), (0, 0, 2, 1)], [], ([], []))], [], 1, 21, 0)
theorem kh_745_ok : ct_ok wd_fl2 kh_745 := ct_of (ff := wd_ff2) (y := (⟨"UtilityWorksModel", "bCutFrom", "(I)I"⟩, prog_14_method_235_code, 2, some .int, 12, 1, 1, 33183, 33182, 8001, 21014)) (Cs := [kh_744]) (an := []) (ss := []) (K := 1) (fuel := 4000) wd_fl2_ok rfl (List.forall_mem_cons.mpr ⟨kh_744_ok, (List.forall_mem_nil _)⟩) (by decide +kernel)
/- UtilityWorksModel bOpen -/
def kh_746 : ct_T := (522, [(2, 805, 805, 0), (0, 0, 2, 1)], [], [], [(1, (1, (-9223372036854775808), 9223372036854775807, 1), [(2, 805, 805, 0), (0, 0, 2, 1)], [], ([], []))], [], 1, 22, 0)
theorem kh_746_ok : ct_ok wd_fl2 kh_746 := ct_of (ff := wd_ff2) (y := (⟨"UtilityWorksModel", "bOpen", "(I)J"⟩, prog_14_method_238_code, 5, some .long, 12, 1, 1, 35146, 35145, 14012, 21014)) (Cs := [kh_bC0, kh_739]) (an := [(5, 0, ([((2, 805, 805, 0), none), ((0, 0, 2, 1), none), ((1, (-9223372036854775808), 9223372036854775807, 1), none), ((0, 0, 33, 1), none)], [(0, 0), (1, 1), (2, 2), (4, 3)], [], [], [], [], [], [], none), [(0, 0, 99995), (1, 3, 33), (0, 0, 99995)])]) (ss := []) (K := 3) (fuel := 4000) wd_fl2_ok rfl (List.forall_mem_cons.mpr ⟨kh_bC0_ok, (List.forall_mem_cons.mpr ⟨kh_739_ok, (List.forall_mem_nil _)⟩)⟩) (by decide +kernel)
/- UtilityWorksModel bOwes -/
def kh_747 : ct_T := (521, [(2, 805, 805, 0), (0, 0, 2, 1)], [], [], [(1, (1, (-9223372036854775808), 9223372036854775807, 1), [(2, 805, 805, 0), (0, 0, 2, 1)], [], ([], []))], [], 2, 46, 0)
theorem kh_747_ok : ct_ok wd_fl2 kh_747 := ct_of (ff := wd_ff2) (y := (⟨"UtilityWorksModel", "bOwes", "(I)J"⟩, prog_14_method_239_code, 2, some .long, 12, 1, 1, 35142, 35141, 14011, 21014)) (Cs := [kh_746]) (an := []) (ss := []) (K := 1) (fuel := 4000) wd_fl2_ok rfl (List.forall_mem_cons.mpr ⟨kh_746_ok, (List.forall_mem_nil _)⟩) (by decide +kernel)
/- UtilityWorksModel cHas -/
def kh_748 : ct_T := (517, [(2, 805, 805, 0), (0, 6, 6, 0), (0, 0, 2, 1)], [], [], [(1, (0, 0, 1, 1), [(2, 805, 805, 0), (0, 6, 6, 0), (0, 0, 2, 1)], [], ([], []))], [], 1, 21, 0)
theorem kh_748_ok : ct_ok wd_fl2 kh_748 := ct_of (ff := wd_ff2) (y := (⟨"UtilityWorksModel", "cHas", "(II)Z"⟩, prog_14_method_276_code, 5, some .boolean, 12, 1, 2, 35126, 35125, 14007, 21014)) (Cs := [kh_cJ0, kh_cJ2, kh_cJ4]) (an := [(5, 0, ([((2, 805, 805, 0), none), ((0, 6, 6, 0), none), ((0, 0, 2, 1), none), ((0, 0, 1, 1), none), ((0, 0, 200, 1), none)], [(0, 0), (1, 1), (2, 2), (3, 3), (4, 4)], [], [], [], [], [], [], none), [(0, 0, 99995), (1, 4, 200), (0, 0, 99995)]), (67, 0, ([((2, 805, 805, 0), none), ((0, 6, 6, 0), none), ((0, 0, 2, 1), none), ((0, 0, 1, 1), none), ((0, 0, 199, 1), none)], [(0, 0), (1, 1), (2, 2), (3, 3), (4, 4)], [], [], [], [], [((806, 806), (2440, 2440, 0), (0, 1, 200, 1))], [], none), [(0, 0, 99995), (1, 4, 200), (0, 0, 99933)]), (71, 0, ([((2, 805, 805, 0), none), ((0, 6, 6, 0), none), ((0, 0, 2, 1), none), ((0, 0, 0, 0), none), ((0, 0, 199, 1), none)], [(0, 0), (1, 1), (2, 2), (3, 3), (4, 4)], [], [], [], [], [((806, 806), (2440, 2440, 0), (0, 1, 200, 1))], [], none), [(0, 0, 99995), (1, 4, 200), (0, 0, 99929)])]) (ss := []) (K := 3) (fuel := 4000) wd_fl2_ok rfl (List.forall_mem_cons.mpr ⟨kh_cJ0_ok, (List.forall_mem_cons.mpr ⟨kh_cJ2_ok, (List.forall_mem_cons.mpr ⟨kh_cJ4_ok, (List.forall_mem_nil _)⟩)⟩)⟩) (by decide +kernel)
/- UtilityWorksModel bNotices -/
def kh_749 : ct_T := (515, [(2, 805, 805, 0), (0, 0, 2, 1)], [], [510, 513], [(0, (0, 0, 0, 0), [(2, 805, 805, 0), (0, 0, 2, 1)], [], ([510, 513], []))], [((806, 806), (2440, 4047, 1))], 3, 67, 0)
theorem kh_749_ok : ct_ok wd_fl2 kh_749 := ct_of (ff := wd_ff2) (y := (⟨"UtilityWorksModel", "bNotices", "(I)V"⟩, prog_14_method_249_code, 2, none, 12, 1, 1, 35115, 35114, 14005, 21014)) (Cs := [kh_742, kh_rankOf, kh_483, kh_743, kh_cMay, kh_cAddb, kh_745, kh_747, kh_748]) (an := [(54, 0, ([((2, 805, 805, 0), none), ((0, 0, 2, 1), none)], [(0, 0), (1, 1)], [], [], [], [], [], [510, 513], none), [(0, 0, 99946)]), (98, 0, ([((2, 805, 805, 0), none), ((0, 0, 2, 1), none)], [(0, 0), (1, 1)], [], [], [], [], [], [510, 513], none), [(0, 0, 99902)])]) (ss := []) (K := 1) (fuel := 4000) wd_fl2_ok rfl (List.forall_mem_cons.mpr ⟨kh_742_ok, (List.forall_mem_cons.mpr ⟨kh_rankOf_l2, (List.forall_mem_cons.mpr ⟨kh_483_l2, (List.forall_mem_cons.mpr ⟨kh_743_ok, (List.forall_mem_cons.mpr ⟨kh_cMay_ok, (List.forall_mem_cons.mpr ⟨kh_cAddb_ok, (List.forall_mem_cons.mpr ⟨kh_745_ok, (List.forall_mem_cons.mpr ⟨kh_747_ok, (List.forall_mem_cons.mpr ⟨kh_748_ok, (List.forall_mem_nil _)⟩)⟩)⟩)⟩)⟩)⟩)⟩)⟩)⟩) (by decide +kernel)
/- UtilityWorksModel bC -/
def kh_750 : ct_T := (413, [(0, 0, 3, 1), (0, 1, 1, 0)], [], [], [(1, (0, 1821, 1881, 20), [(0, 0, 3, 1), (0, 1, 1, 0)], [], ([], []))], [], 0, 0, 0)
theorem kh_750_ok : ct_ok wd_fl2 kh_750 := ct_of (ff := wd_ff2) (y := (⟨"UtilityWorksModel", "bC", "(II)I"⟩, prog_14_method_227_code, 2, some .int, 12, 0, 2, 33186, 33185, 0, 21014)) (Cs := []) (an := []) (ss := []) (K := 1) (fuel := 4000) wd_fl2_ok rfl (List.forall_mem_nil _) (by decide +kernel)
/- UtilityWorksModel bC -/
def kh_751 : ct_T := (413, [(0, 0, 3, 1), (0, 2, 2, 0)], [], [], [(1, (0, 1822, 1882, 20), [(0, 0, 3, 1), (0, 2, 2, 0)], [], ([], []))], [], 0, 0, 0)
theorem kh_751_ok : ct_ok wd_fl2 kh_751 := ct_of (ff := wd_ff2) (y := (⟨"UtilityWorksModel", "bC", "(II)I"⟩, prog_14_method_227_code, 2, some .int, 12, 0, 2, 33186, 33185, 0, 21014)) (Cs := []) (an := []) (ss := []) (K := 1) (fuel := 4000) wd_fl2_ok rfl (List.forall_mem_nil _) (by decide +kernel)
/- UtilityWorksModel bDue -/
def kh_752 : ct_T := (504, [(2, 805, 805, 0), (0, 0, 3, 1), (0, 0, 214748364, 1)], [], [], [(1, (1, (-9223372036854775808), 9223372036854775807, 1), [(2, 805, 805, 0), (0, 0, 3, 1), (0, 0, 214748364, 1)], [], ([], []))], [], 0, 0, 0)
theorem kh_752_ok : ct_ok wd_fl2 kh_752 := ct_of (ff := wd_ff2) (y := (⟨"UtilityWorksModel", "bDue", "(II)J"⟩, prog_14_method_242_code, 3, some .long, 12, 1, 2, 35069, 35068, 13011, 21014)) (Cs := []) (an := []) (ss := []) (K := 1) (fuel := 4000) wd_fl2_ok rfl (List.forall_mem_nil _) (by decide +kernel)
/- UtilityWorksModel bC -/
def kh_753 : ct_T := (413, [(0, 0, 3, 1), (0, 3, 3, 0)], [], [], [(1, (0, 1823, 1883, 20), [(0, 0, 3, 1), (0, 3, 3, 0)], [], ([], []))], [], 0, 0, 0)
theorem kh_753_ok : ct_ok wd_fl2 kh_753 := ct_of (ff := wd_ff2) (y := (⟨"UtilityWorksModel", "bC", "(II)I"⟩, prog_14_method_227_code, 2, some .int, 12, 0, 2, 33186, 33185, 0, 21014)) (Cs := []) (an := []) (ss := []) (K := 1) (fuel := 4000) wd_fl2_ok rfl (List.forall_mem_nil _) (by decide +kernel)
/- UtilityWorksModel bEndPlan -/
def kh_754 : ct_T := (505, [(2, 805, 805, 0), (0, 0, 3, 1)], [], [], [(0, (0, 0, 0, 0), [(2, 805, 805, 0), (0, 0, 3, 1)], [], ([], []))], [((806, 806), (1821, 1881, 20)), ((806, 806), (1822, 1882, 20)), ((807, 807), (2830, 2833, 1)), ((807, 807), (2840, 2843, 1)), ((807, 807), (2850, 2853, 1))], 1, 21, 0)
theorem kh_754_ok : ct_ok wd_fl2 kh_754 := ct_of (ff := wd_ff2) (y := (⟨"UtilityWorksModel", "bEndPlan", "(I)V"⟩, prog_14_method_241_code, 2, none, 12, 1, 1, 35073, 35072, 13012, 21014)) (Cs := [kh_750, kh_751]) (an := []) (ss := []) (K := 1) (fuel := 4000) wd_fl2_ok rfl (List.forall_mem_cons.mpr ⟨kh_750_ok, (List.forall_mem_cons.mpr ⟨kh_751_ok, (List.forall_mem_nil _)⟩)⟩) (by decide +kernel)
/- UtilityWorksModel bPlanDay -/
def kh_755 : ct_T := (503, [(2, 805, 805, 0), (0, 0, 3, 1)], [], [], [(0, (0, 0, 0, 0), [(2, 805, 805, 0), (0, 0, 3, 1)], [], ([], []))], [((806, 806), (1821, 1881, 20)), ((806, 806), (1822, 1882, 20)), ((806, 806), (1823, 1883, 20)), ((807, 807), (2830, 2833, 1)), ((807, 807), (2840, 2843, 1)), ((807, 807), (2850, 2853, 1))], 2, 42, 0)
theorem kh_755_ok : ct_ok wd_fl2 kh_755 := ct_of (ff := wd_ff2) (y := (⟨"UtilityWorksModel", "bPlanDay", "(I)V"⟩, prog_14_method_243_code, 4, none, 12, 1, 1, 35065, 35064, 13010, 21014)) (Cs := [kh_750, kh_day, kh_751, kh_752, kh_753, kh_754]) (an := [(92, 0, ([((2, 805, 805, 0), none), ((0, 0, 3, 1), none), ((0, 0, 6, 1), none), ((0, (-2147483648), 2147483647, 1), none)], [(0, 0), (1, 1), (2, 2), (3, 3)], [], [], [], [], [], [], none), [(0, 0, 99908)])]) (ss := []) (K := 1) (fuel := 4000) wd_fl2_ok rfl (List.forall_mem_cons.mpr ⟨kh_750_ok, (List.forall_mem_cons.mpr ⟨kh_day_ok, (List.forall_mem_cons.mpr ⟨kh_751_ok, (List.forall_mem_cons.mpr ⟨kh_752_ok, (List.forall_mem_cons.mpr ⟨kh_753_ok, (List.forall_mem_cons.mpr ⟨kh_754_ok, (List.forall_mem_nil _)⟩)⟩)⟩)⟩)⟩)⟩) (by decide +kernel)
/- UtilityWorksModel bB -/
def kh_756 : ct_T := (507, [(0, 0, 3, 1), (0, 0, 32, 1), (0, 7, 7, 0)], [], [], [(1, (0, 107, 1179, 8), [(0, 0, 3, 1), (0, 0, 32, 1), (0, 7, 7, 0)], [], ([], []))], [], 0, 0, 0)
theorem kh_756_ok : ct_ok wd_fl2 kh_756 := ct_of (ff := wd_ff2) (y := (⟨"UtilityWorksModel", "bB", "(III)I"⟩, prog_14_method_228_code, 3, some .int, 12, 0, 3, 35080, 35079, 0, 21014)) (Cs := []) (an := []) (ss := []) (K := 1) (fuel := 4000) wd_fl2_ok rfl (List.forall_mem_nil _) (by decide +kernel)
/- UtilityWorksModel bInterest -/
def kh_757 : ct_T := (506, [(2, 805, 805, 0), (0, 0, 3, 1)], [], [], [(0, (0, 0, 0, 0), [(2, 805, 805, 0), (0, 0, 3, 1)], [], ([], []))], [((807, 807), (107, 1179, 8)), ((807, 807), (2862, 2862, 0))], 1, 22, 0)
theorem kh_757_ok : ct_ok wd_fl2 kh_757 := ct_of (ff := wd_ff2) (y := (⟨"UtilityWorksModel", "bInterest", "(I)V"⟩, prog_14_method_244_code, 5, none, 12, 1, 1, 35077, 35076, 13013, 21014)) (Cs := [kh_bC0, kh_756]) (an := [(2, 0, ([((2, 805, 805, 0), none), ((0, 0, 3, 1), none), ((0, 0, 33, 1), none)], [(0, 0), (1, 1), (2, 2)], [], [], [], [], [], [], none), [(0, 0, 99998), (1, 2, 33), (0, 0, 99998)])]) (ss := []) (K := 3) (fuel := 4000) wd_fl2_ok rfl (List.forall_mem_cons.mpr ⟨kh_bC0_ok, (List.forall_mem_cons.mpr ⟨kh_756_ok, (List.forall_mem_nil _)⟩)⟩) (by decide +kernel)
/- UtilityWorksModel bB -/
def kh_758 : ct_T := (507, [(0, 0, 3, 1), (0, 0, 32, 1), (0, 0, 0, 0)], [], [], [(1, (0, 100, 1172, 8), [(0, 0, 3, 1), (0, 0, 32, 1), (0, 0, 0, 0)], [], ([], []))], [], 0, 0, 0)
theorem kh_758_ok : ct_ok wd_fl2 kh_758 := ct_of (ff := wd_ff2) (y := (⟨"UtilityWorksModel", "bB", "(III)I"⟩, prog_14_method_228_code, 3, some .int, 12, 0, 3, 35080, 35079, 0, 21014)) (Cs := []) (an := []) (ss := []) (K := 1) (fuel := 4000) wd_fl2_ok rfl (List.forall_mem_nil _) (by decide +kernel)
/- UtilityWorksModel bNotice -/
def kh_759 : ct_T := (516, [(2, 805, 805, 0), (0, 0, 3, 1)], [], [], [(1, (0, 0, 0, 0), [(2, 805, 805, 0), (0, 0, 3, 1)], [], ([], [])), (1, (0, 1, 1, 0), [(2, 805, 805, 0), (0, 0, 3, 1)], [], ([], [])), (1, (0, 2, 3, 1), [(2, 805, 805, 0), (0, 0, 3, 1)], [], ([], []))], [], 1, 22, 0)
theorem kh_759_ok : ct_ok wd_fl2 kh_759 := ct_of (ff := wd_ff2) (y := (⟨"UtilityWorksModel", "bNotice", "(I)I"⟩, prog_14_method_248_code, 5, some .int, 12, 1, 1, 35119, 35118, 14006, 21014)) (Cs := [kh_bC0, kh_750, kh_day, kh_758, kh_756]) (an := [(15, 0, ([((2, 805, 805, 0), none), ((0, 0, 3, 1), none), ((0, (-1), 32, 1), none), ((0, (-1), 32, 1), none)], [(0, 0), (1, 1), (2, 2), (3, 3)], [], [], [], [], [], [], none), [(0, 0, 99985), (2, 3, (-1)), (0, 0, 99985)]), (66, 0, ([((2, 805, 805, 0), none), ((0, 0, 3, 1), none), ((0, (-1), 32, 1), none), ((0, (-1), (-1), 1), none)], [(0, 0), (1, 1), (2, 2), (3, 3)], [], [], [], [], [], [], none), [(0, 0, 99934), (0, 0, 0), (0, 0, 0)])]) (ss := []) (K := 3) (fuel := 4000) wd_fl2_ok rfl (List.forall_mem_cons.mpr ⟨kh_bC0_ok, (List.forall_mem_cons.mpr ⟨kh_750_ok, (List.forall_mem_cons.mpr ⟨kh_day_ok, (List.forall_mem_cons.mpr ⟨kh_758_ok, (List.forall_mem_cons.mpr ⟨kh_756_ok, (List.forall_mem_nil _)⟩)⟩)⟩)⟩)⟩) (by decide +kernel)
/- UtilityWorksModel cHas -/
def kh_760 : ct_T := (517, [(2, 805, 805, 0), (0, 5, 5, 0), (0, 0, 3, 1)], [], [], [(1, (0, 0, 1, 1), [(2, 805, 805, 0), (0, 5, 5, 0), (0, 0, 3, 1)], [], ([], []))], [], 1, 21, 0)
theorem kh_760_ok : ct_ok wd_fl2 kh_760 := ct_of (ff := wd_ff2) (y := (⟨"UtilityWorksModel", "cHas", "(II)Z"⟩, prog_14_method_276_code, 5, some .boolean, 12, 1, 2, 35126, 35125, 14007, 21014)) (Cs := [kh_cJ0, kh_cJ2, kh_cJ4]) (an := [(5, 0, ([((2, 805, 805, 0), none), ((0, 5, 5, 0), none), ((0, 0, 3, 1), none), ((0, 0, 1, 1), none), ((0, 0, 200, 1), none)], [(0, 0), (1, 1), (2, 2), (3, 3), (4, 4)], [], [], [], [], [], [], none), [(0, 0, 99995), (1, 4, 200), (0, 0, 99995)]), (67, 0, ([((2, 805, 805, 0), none), ((0, 5, 5, 0), none), ((0, 0, 3, 1), none), ((0, 0, 1, 1), none), ((0, 0, 199, 1), none)], [(0, 0), (1, 1), (2, 2), (3, 3), (4, 4)], [], [], [], [], [((806, 806), (2440, 2440, 0), (0, 1, 200, 1))], [], none), [(0, 0, 99995), (1, 4, 200), (0, 0, 99933)]), (71, 0, ([((2, 805, 805, 0), none), ((0, 5, 5, 0), none), ((0, 0, 3, 1), none), ((0, 0, 0, 0), none), ((0, 0, 199, 1), none)], [(0, 0), (1, 1), (2, 2), (3, 3), (4, 4)], [], [], [], [], [((806, 806), (2440, 2440, 0), (0, 1, 200, 1))], [], none), [(0, 0, 99995), (1, 4, 200), (0, 0, 99929)])]) (ss := []) (K := 3) (fuel := 4000) wd_fl2_ok rfl (List.forall_mem_cons.mpr ⟨kh_cJ0_ok, (List.forall_mem_cons.mpr ⟨kh_cJ2_ok, (List.forall_mem_cons.mpr ⟨kh_cJ4_ok, (List.forall_mem_nil _)⟩)⟩)⟩) (by decide +kernel)
/- UtilityWorksModel bC -/
def kh_761 : ct_T := (413, [(0, 0, 3, 1), (0, 5, 5, 0)], [], [], [(1, (0, 1825, 1885, 20), [(0, 0, 3, 1), (0, 5, 5, 0)], [], ([], []))], [], 0, 0, 0)
theorem kh_761_ok : ct_ok wd_fl2 kh_761 := ct_of (ff := wd_ff2) (y := (⟨"UtilityWorksModel", "bC", "(II)I"⟩, prog_14_method_227_code, 2, some .int, 12, 0, 2, 33186, 33185, 0, 21014)) (Cs := []) (an := []) (ss := []) (K := 1) (fuel := 4000) wd_fl2_ok rfl (List.forall_mem_nil _) (by decide +kernel)
/- UtilityWorksModel bCutFrom -/
def kh_762 : ct_T := (412, [(2, 805, 805, 0), (0, 0, 3, 1)], [], [], [(1, (0, (-2147483648), 2147483647, 1), [(2, 805, 805, 0), (0, 0, 3, 1)], [], ([], []))], [], 1, 21, 0)
theorem kh_762_ok : ct_ok wd_fl2 kh_762 := ct_of (ff := wd_ff2) (y := (⟨"UtilityWorksModel", "bCutFrom", "(I)I"⟩, prog_14_method_235_code, 2, some .int, 12, 1, 1, 33183, 33182, 8001, 21014)) (Cs := [kh_761]) (an := []) (ss := []) (K := 1) (fuel := 4000) wd_fl2_ok rfl (List.forall_mem_cons.mpr ⟨kh_761_ok, (List.forall_mem_nil _)⟩) (by decide +kernel)
/- UtilityWorksModel bOpen -/
def kh_763 : ct_T := (522, [(2, 805, 805, 0), (0, 0, 3, 1)], [], [], [(1, (1, (-9223372036854775808), 9223372036854775807, 1), [(2, 805, 805, 0), (0, 0, 3, 1)], [], ([], []))], [], 1, 22, 0)
theorem kh_763_ok : ct_ok wd_fl2 kh_763 := ct_of (ff := wd_ff2) (y := (⟨"UtilityWorksModel", "bOpen", "(I)J"⟩, prog_14_method_238_code, 5, some .long, 12, 1, 1, 35146, 35145, 14012, 21014)) (Cs := [kh_bC0, kh_756]) (an := [(5, 0, ([((2, 805, 805, 0), none), ((0, 0, 3, 1), none), ((1, (-9223372036854775808), 9223372036854775807, 1), none), ((0, 0, 33, 1), none)], [(0, 0), (1, 1), (2, 2), (4, 3)], [], [], [], [], [], [], none), [(0, 0, 99995), (1, 3, 33), (0, 0, 99995)])]) (ss := []) (K := 3) (fuel := 4000) wd_fl2_ok rfl (List.forall_mem_cons.mpr ⟨kh_bC0_ok, (List.forall_mem_cons.mpr ⟨kh_756_ok, (List.forall_mem_nil _)⟩)⟩) (by decide +kernel)
/- UtilityWorksModel bOwes -/
def kh_764 : ct_T := (521, [(2, 805, 805, 0), (0, 0, 3, 1)], [], [], [(1, (1, (-9223372036854775808), 9223372036854775807, 1), [(2, 805, 805, 0), (0, 0, 3, 1)], [], ([], []))], [], 2, 46, 0)
theorem kh_764_ok : ct_ok wd_fl2 kh_764 := ct_of (ff := wd_ff2) (y := (⟨"UtilityWorksModel", "bOwes", "(I)J"⟩, prog_14_method_239_code, 2, some .long, 12, 1, 1, 35142, 35141, 14011, 21014)) (Cs := [kh_763]) (an := []) (ss := []) (K := 1) (fuel := 4000) wd_fl2_ok rfl (List.forall_mem_cons.mpr ⟨kh_763_ok, (List.forall_mem_nil _)⟩) (by decide +kernel)
/- UtilityWorksModel cHas -/
def kh_765 : ct_T := (517, [(2, 805, 805, 0), (0, 6, 6, 0), (0, 0, 3, 1)], [], [], [(1, (0, 0, 1, 1), [(2, 805, 805, 0), (0, 6, 6, 0), (0, 0, 3, 1)], [], ([], []))], [], 1, 21, 0)
theorem kh_765_ok : ct_ok wd_fl2 kh_765 := ct_of (ff := wd_ff2) (y := (⟨"UtilityWorksModel", "cHas", "(II)Z"⟩, prog_14_method_276_code, 5, some .boolean, 12, 1, 2, 35126, 35125, 14007, 21014)) (Cs := [kh_cJ0, kh_cJ2, kh_cJ4]) (an := [(5, 0, ([((2, 805, 805, 0), none), ((0, 6, 6, 0), none), ((0, 0, 3, 1), none), ((0, 0, 1, 1), none), ((0, 0, 200, 1), none)], [(0, 0), (1, 1), (2, 2), (3, 3), (4, 4)], [], [], [], [], [], [], none), [(0, 0, 99995), (1, 4, 200), (0, 0, 99995)]), (67, 0, ([((2, 805, 805, 0), none), ((0, 6, 6, 0), none), ((0, 0, 3, 1), none), ((0, 0, 1, 1), none), ((0, 0, 199, 1), none)], [(0, 0), (1, 1), (2, 2), (3, 3), (4, 4)], [], [], [], [], [((806, 806), (2440, 2440, 0), (0, 1, 200, 1))], [], none), [(0, 0, 99995), (1, 4, 200), (0, 0, 99933)]), (71, 0, ([((2, 805, 805, 0), none), ((0, 6, 6, 0), none), ((0, 0, 3, 1), none), ((0, 0, 0, 0), none), ((0, 0, 199, 1), none)], [(0, 0), (1, 1), (2, 2), (3, 3), (4, 4)], [], [], [], [], [((806, 806), (2440, 2440, 0), (0, 1, 200, 1))], [], none), [(0, 0, 99995), (1, 4, 200), (0, 0, 99929)])]) (ss := []) (K := 3) (fuel := 4000) wd_fl2_ok rfl (List.forall_mem_cons.mpr ⟨kh_cJ0_ok, (List.forall_mem_cons.mpr ⟨kh_cJ2_ok, (List.forall_mem_cons.mpr ⟨kh_cJ4_ok, (List.forall_mem_nil _)⟩)⟩)⟩) (by decide +kernel)
/- UtilityWorksModel bNotices -/
def kh_766 : ct_T := (515, [(2, 805, 805, 0), (0, 0, 3, 1)], [], [510, 513], [(0, (0, 0, 0, 0), [(2, 805, 805, 0), (0, 0, 3, 1)], [], ([510, 513], []))], [((806, 806), (2440, 4047, 1))], 3, 67, 0)
theorem kh_766_ok : ct_ok wd_fl2 kh_766 := ct_of (ff := wd_ff2) (y := (⟨"UtilityWorksModel", "bNotices", "(I)V"⟩, prog_14_method_249_code, 2, none, 12, 1, 1, 35115, 35114, 14005, 21014)) (Cs := [kh_759, kh_rankOf, kh_490, kh_760, kh_cMay, kh_cAddb, kh_762, kh_764, kh_765]) (an := [(54, 0, ([((2, 805, 805, 0), none), ((0, 0, 3, 1), none)], [(0, 0), (1, 1)], [], [], [], [], [], [510, 513], none), [(0, 0, 99946)]), (98, 0, ([((2, 805, 805, 0), none), ((0, 0, 3, 1), none)], [(0, 0), (1, 1)], [], [], [], [], [], [510, 513], none), [(0, 0, 99902)])]) (ss := []) (K := 1) (fuel := 4000) wd_fl2_ok rfl (List.forall_mem_cons.mpr ⟨kh_759_ok, (List.forall_mem_cons.mpr ⟨kh_rankOf_l2, (List.forall_mem_cons.mpr ⟨kh_490_l2, (List.forall_mem_cons.mpr ⟨kh_760_ok, (List.forall_mem_cons.mpr ⟨kh_cMay_ok, (List.forall_mem_cons.mpr ⟨kh_cAddb_ok, (List.forall_mem_cons.mpr ⟨kh_762_ok, (List.forall_mem_cons.mpr ⟨kh_764_ok, (List.forall_mem_cons.mpr ⟨kh_765_ok, (List.forall_mem_nil _)⟩)⟩)⟩)⟩)⟩)⟩)⟩)⟩)⟩) (by decide +kernel)
/- UtilityWorksModel bC -/
def kh_767 : ct_T := (413, [(0, 0, 4, 1), (0, 1, 1, 0)], [], [], [(1, (0, 1821, 1901, 20), [(0, 0, 4, 1), (0, 1, 1, 0)], [], ([], []))], [], 0, 0, 0)
theorem kh_767_ok : ct_ok wd_fl2 kh_767 := ct_of (ff := wd_ff2) (y := (⟨"UtilityWorksModel", "bC", "(II)I"⟩, prog_14_method_227_code, 2, some .int, 12, 0, 2, 33186, 33185, 0, 21014)) (Cs := []) (an := []) (ss := []) (K := 1) (fuel := 4000) wd_fl2_ok rfl (List.forall_mem_nil _) (by decide +kernel)
/- UtilityWorksModel bC -/
def kh_768 : ct_T := (413, [(0, 0, 4, 1), (0, 2, 2, 0)], [], [], [(1, (0, 1822, 1902, 20), [(0, 0, 4, 1), (0, 2, 2, 0)], [], ([], []))], [], 0, 0, 0)
theorem kh_768_ok : ct_ok wd_fl2 kh_768 := ct_of (ff := wd_ff2) (y := (⟨"UtilityWorksModel", "bC", "(II)I"⟩, prog_14_method_227_code, 2, some .int, 12, 0, 2, 33186, 33185, 0, 21014)) (Cs := []) (an := []) (ss := []) (K := 1) (fuel := 4000) wd_fl2_ok rfl (List.forall_mem_nil _) (by decide +kernel)
/- UtilityWorksModel bDue -/
def kh_769 : ct_T := (504, [(2, 805, 805, 0), (0, 0, 4, 1), (0, 0, 214748364, 1)], [], [], [(1, (1, (-9223372036854775808), 9223372036854775807, 1), [(2, 805, 805, 0), (0, 0, 4, 1), (0, 0, 214748364, 1)], [], ([], []))], [], 0, 0, 0)
theorem kh_769_ok : ct_ok wd_fl2 kh_769 := ct_of (ff := wd_ff2) (y := (⟨"UtilityWorksModel", "bDue", "(II)J"⟩, prog_14_method_242_code, 3, some .long, 12, 1, 2, 35069, 35068, 13011, 21014)) (Cs := []) (an := []) (ss := []) (K := 1) (fuel := 4000) wd_fl2_ok rfl (List.forall_mem_nil _) (by decide +kernel)
/- UtilityWorksModel bC -/
def kh_770 : ct_T := (413, [(0, 0, 4, 1), (0, 3, 3, 0)], [], [], [(1, (0, 1823, 1903, 20), [(0, 0, 4, 1), (0, 3, 3, 0)], [], ([], []))], [], 0, 0, 0)
theorem kh_770_ok : ct_ok wd_fl2 kh_770 := ct_of (ff := wd_ff2) (y := (⟨"UtilityWorksModel", "bC", "(II)I"⟩, prog_14_method_227_code, 2, some .int, 12, 0, 2, 33186, 33185, 0, 21014)) (Cs := []) (an := []) (ss := []) (K := 1) (fuel := 4000) wd_fl2_ok rfl (List.forall_mem_nil _) (by decide +kernel)
/- UtilityWorksModel bEndPlan -/
def kh_771 : ct_T := (505, [(2, 805, 805, 0), (0, 0, 4, 1)], [], [], [(0, (0, 0, 0, 0), [(2, 805, 805, 0), (0, 0, 4, 1)], [], ([], []))], [((806, 806), (1821, 1901, 20)), ((806, 806), (1822, 1902, 20)), ((807, 807), (2830, 2834, 1)), ((807, 807), (2840, 2844, 1)), ((807, 807), (2850, 2854, 1))], 1, 21, 0)
theorem kh_771_ok : ct_ok wd_fl2 kh_771 := ct_of (ff := wd_ff2) (y := (⟨"UtilityWorksModel", "bEndPlan", "(I)V"⟩, prog_14_method_241_code, 2, none, 12, 1, 1, 35073, 35072, 13012, 21014)) (Cs := [kh_767, kh_768]) (an := []) (ss := []) (K := 1) (fuel := 4000) wd_fl2_ok rfl (List.forall_mem_cons.mpr ⟨kh_767_ok, (List.forall_mem_cons.mpr ⟨kh_768_ok, (List.forall_mem_nil _)⟩)⟩) (by decide +kernel)
/- UtilityWorksModel bPlanDay -/
def kh_772 : ct_T := (503, [(2, 805, 805, 0), (0, 0, 4, 1)], [], [], [(0, (0, 0, 0, 0), [(2, 805, 805, 0), (0, 0, 4, 1)], [], ([], []))], [((806, 806), (1821, 1901, 20)), ((806, 806), (1822, 1902, 20)), ((806, 806), (1823, 1903, 20)), ((807, 807), (2830, 2834, 1)), ((807, 807), (2840, 2844, 1)), ((807, 807), (2850, 2854, 1))], 2, 42, 0)
theorem kh_772_ok : ct_ok wd_fl2 kh_772 := ct_of (ff := wd_ff2) (y := (⟨"UtilityWorksModel", "bPlanDay", "(I)V"⟩, prog_14_method_243_code, 4, none, 12, 1, 1, 35065, 35064, 13010, 21014)) (Cs := [kh_767, kh_day, kh_768, kh_769, kh_770, kh_771]) (an := [(92, 0, ([((2, 805, 805, 0), none), ((0, 0, 4, 1), none), ((0, 0, 6, 1), none), ((0, (-2147483648), 2147483647, 1), none)], [(0, 0), (1, 1), (2, 2), (3, 3)], [], [], [], [], [], [], none), [(0, 0, 99908)])]) (ss := []) (K := 1) (fuel := 4000) wd_fl2_ok rfl (List.forall_mem_cons.mpr ⟨kh_767_ok, (List.forall_mem_cons.mpr ⟨kh_day_ok, (List.forall_mem_cons.mpr ⟨kh_768_ok, (List.forall_mem_cons.mpr ⟨kh_769_ok, (List.forall_mem_cons.mpr ⟨kh_770_ok, (List.forall_mem_cons.mpr ⟨kh_771_ok, (List.forall_mem_nil _)⟩)⟩)⟩)⟩)⟩)⟩) (by decide +kernel)
/- UtilityWorksModel bB -/
def kh_773 : ct_T := (507, [(0, 0, 4, 1), (0, 0, 32, 1), (0, 7, 7, 0)], [], [], [(1, (0, 107, 1451, 8), [(0, 0, 4, 1), (0, 0, 32, 1), (0, 7, 7, 0)], [], ([], []))], [], 0, 0, 0)
theorem kh_773_ok : ct_ok wd_fl2 kh_773 := ct_of (ff := wd_ff2) (y := (⟨"UtilityWorksModel", "bB", "(III)I"⟩, prog_14_method_228_code, 3, some .int, 12, 0, 3, 35080, 35079, 0, 21014)) (Cs := []) (an := []) (ss := []) (K := 1) (fuel := 4000) wd_fl2_ok rfl (List.forall_mem_nil _) (by decide +kernel)
/- UtilityWorksModel bInterest -/
def kh_774 : ct_T := (506, [(2, 805, 805, 0), (0, 0, 4, 1)], [], [], [(0, (0, 0, 0, 0), [(2, 805, 805, 0), (0, 0, 4, 1)], [], ([], []))], [((807, 807), (107, 1451, 8)), ((807, 807), (2862, 2862, 0))], 1, 22, 0)
theorem kh_774_ok : ct_ok wd_fl2 kh_774 := ct_of (ff := wd_ff2) (y := (⟨"UtilityWorksModel", "bInterest", "(I)V"⟩, prog_14_method_244_code, 5, none, 12, 1, 1, 35077, 35076, 13013, 21014)) (Cs := [kh_bC0, kh_773]) (an := [(2, 0, ([((2, 805, 805, 0), none), ((0, 0, 4, 1), none), ((0, 0, 33, 1), none)], [(0, 0), (1, 1), (2, 2)], [], [], [], [], [], [], none), [(0, 0, 99998), (1, 2, 33), (0, 0, 99998)])]) (ss := []) (K := 3) (fuel := 4000) wd_fl2_ok rfl (List.forall_mem_cons.mpr ⟨kh_bC0_ok, (List.forall_mem_cons.mpr ⟨kh_773_ok, (List.forall_mem_nil _)⟩)⟩) (by decide +kernel)
/- UtilityWorksModel bB -/
def kh_775 : ct_T := (507, [(0, 0, 4, 1), (0, 0, 32, 1), (0, 0, 0, 0)], [], [], [(1, (0, 100, 1444, 8), [(0, 0, 4, 1), (0, 0, 32, 1), (0, 0, 0, 0)], [], ([], []))], [], 0, 0, 0)
theorem kh_775_ok : ct_ok wd_fl2 kh_775 := ct_of (ff := wd_ff2) (y := (⟨"UtilityWorksModel", "bB", "(III)I"⟩, prog_14_method_228_code, 3, some .int, 12, 0, 3, 35080, 35079, 0, 21014)) (Cs := []) (an := []) (ss := []) (K := 1) (fuel := 4000) wd_fl2_ok rfl (List.forall_mem_nil _) (by decide +kernel)
/- UtilityWorksModel bNotice -/
def kh_776 : ct_T := (516, [(2, 805, 805, 0), (0, 0, 4, 1)], [], [], [(1, (0, 0, 0, 0), [(2, 805, 805, 0), (0, 0, 4, 1)], [], ([], [])), (1, (0, 1, 1, 0), [(2, 805, 805, 0), (0, 0, 4, 1)], [], ([], [])), (1, (0, 2, 3, 1), [(2, 805, 805, 0), (0, 0, 4, 1)], [], ([], []))], [], 1, 22, 0)
theorem kh_776_ok : ct_ok wd_fl2 kh_776 := ct_of (ff := wd_ff2) (y := (⟨"UtilityWorksModel", "bNotice", "(I)I"⟩, prog_14_method_248_code, 5, some .int, 12, 1, 1, 35119, 35118, 14006, 21014)) (Cs := [kh_bC0, kh_767, kh_day, kh_775, kh_773]) (an := [(15, 0, ([((2, 805, 805, 0), none), ((0, 0, 4, 1), none), ((0, (-1), 32, 1), none), ((0, (-1), 32, 1), none)], [(0, 0), (1, 1), (2, 2), (3, 3)], [], [], [], [], [], [], none), [(0, 0, 99985), (2, 3, (-1)), (0, 0, 99985)]), (66, 0, ([((2, 805, 805, 0), none), ((0, 0, 4, 1), none), ((0, (-1), 32, 1), none), ((0, (-1), (-1), 1), none)], [(0, 0), (1, 1), (2, 2), (3, 3)], [], [], [], [], [], [], none), [(0, 0, 99934), (0, 0, 0), (0, 0, 0)])]) (ss := []) (K := 3) (fuel := 4000) wd_fl2_ok rfl (List.forall_mem_cons.mpr ⟨kh_bC0_ok, (List.forall_mem_cons.mpr ⟨kh_767_ok, (List.forall_mem_cons.mpr ⟨kh_day_ok, (List.forall_mem_cons.mpr ⟨kh_775_ok, (List.forall_mem_cons.mpr ⟨kh_773_ok, (List.forall_mem_nil _)⟩)⟩)⟩)⟩)⟩) (by decide +kernel)
/- UtilityWorksModel cHas -/
def kh_777 : ct_T := (517, [(2, 805, 805, 0), (0, 5, 5, 0), (0, 0, 4, 1)], [], [], [(1, (0, 0, 1, 1), [(2, 805, 805, 0), (0, 5, 5, 0), (0, 0, 4, 1)], [], ([], []))], [], 1, 21, 0)
theorem kh_777_ok : ct_ok wd_fl2 kh_777 := ct_of (ff := wd_ff2) (y := (⟨"UtilityWorksModel", "cHas", "(II)Z"⟩, prog_14_method_276_code, 5, some .boolean, 12, 1, 2, 35126, 35125, 14007, 21014)) (Cs := [kh_cJ0, kh_cJ2, kh_cJ4]) (an := [(5, 0, ([((2, 805, 805, 0), none), ((0, 5, 5, 0), none), ((0, 0, 4, 1), none), ((0, 0, 1, 1), none), ((0, 0, 200, 1), none)], [(0, 0), (1, 1), (2, 2), (3, 3), (4, 4)], [], [], [], [], [], [], none), [(0, 0, 99995), (1, 4, 200), (0, 0, 99995)]), (67, 0, ([((2, 805, 805, 0), none), ((0, 5, 5, 0), none), ((0, 0, 4, 1), none), ((0, 0, 1, 1), none), ((0, 0, 199, 1), none)], [(0, 0), (1, 1), (2, 2), (3, 3), (4, 4)], [], [], [], [], [((806, 806), (2440, 2440, 0), (0, 1, 200, 1))], [], none), [(0, 0, 99995), (1, 4, 200), (0, 0, 99933)]), (71, 0, ([((2, 805, 805, 0), none), ((0, 5, 5, 0), none), ((0, 0, 4, 1), none), ((0, 0, 0, 0), none), ((0, 0, 199, 1), none)], [(0, 0), (1, 1), (2, 2), (3, 3), (4, 4)], [], [], [], [], [((806, 806), (2440, 2440, 0), (0, 1, 200, 1))], [], none), [(0, 0, 99995), (1, 4, 200), (0, 0, 99929)])]) (ss := []) (K := 3) (fuel := 4000) wd_fl2_ok rfl (List.forall_mem_cons.mpr ⟨kh_cJ0_ok, (List.forall_mem_cons.mpr ⟨kh_cJ2_ok, (List.forall_mem_cons.mpr ⟨kh_cJ4_ok, (List.forall_mem_nil _)⟩)⟩)⟩) (by decide +kernel)
/- UtilityWorksModel bC -/
def kh_778 : ct_T := (413, [(0, 0, 4, 1), (0, 5, 5, 0)], [], [], [(1, (0, 1825, 1905, 20), [(0, 0, 4, 1), (0, 5, 5, 0)], [], ([], []))], [], 0, 0, 0)
theorem kh_778_ok : ct_ok wd_fl2 kh_778 := ct_of (ff := wd_ff2) (y := (⟨"UtilityWorksModel", "bC", "(II)I"⟩, prog_14_method_227_code, 2, some .int, 12, 0, 2, 33186, 33185, 0, 21014)) (Cs := []) (an := []) (ss := []) (K := 1) (fuel := 4000) wd_fl2_ok rfl (List.forall_mem_nil _) (by decide +kernel)
/- UtilityWorksModel bCutFrom -/
def kh_779 : ct_T := (412, [(2, 805, 805, 0), (0, 0, 4, 1)], [], [], [(1, (0, (-2147483648), 2147483647, 1), [(2, 805, 805, 0), (0, 0, 4, 1)], [], ([], []))], [], 1, 21, 0)
theorem kh_779_ok : ct_ok wd_fl2 kh_779 := ct_of (ff := wd_ff2) (y := (⟨"UtilityWorksModel", "bCutFrom", "(I)I"⟩, prog_14_method_235_code, 2, some .int, 12, 1, 1, 33183, 33182, 8001, 21014)) (Cs := [kh_778]) (an := []) (ss := []) (K := 1) (fuel := 4000) wd_fl2_ok rfl (List.forall_mem_cons.mpr ⟨kh_778_ok, (List.forall_mem_nil _)⟩) (by decide +kernel)
/- UtilityWorksModel bOpen -/
def kh_780 : ct_T := (522, [(2, 805, 805, 0), (0, 0, 4, 1)], [], [], [(1, (1, (-9223372036854775808), 9223372036854775807, 1), [(2, 805, 805, 0), (0, 0, 4, 1)], [], ([], []))], [], 1, 22, 0)
theorem kh_780_ok : ct_ok wd_fl2 kh_780 := ct_of (ff := wd_ff2) (y := (⟨"UtilityWorksModel", "bOpen", "(I)J"⟩, prog_14_method_238_code, 5, some .long, 12, 1, 1, 35146, 35145, 14012, 21014)) (Cs := [kh_bC0, kh_773]) (an := [(5, 0, ([((2, 805, 805, 0), none), ((0, 0, 4, 1), none), ((1, (-9223372036854775808), 9223372036854775807, 1), none), ((0, 0, 33, 1), none)], [(0, 0), (1, 1), (2, 2), (4, 3)], [], [], [], [], [], [], none), [(0, 0, 99995), (1, 3, 33), (0, 0, 99995)])]) (ss := []) (K := 3) (fuel := 4000) wd_fl2_ok rfl (List.forall_mem_cons.mpr ⟨kh_bC0_ok, (List.forall_mem_cons.mpr ⟨kh_773_ok, (List.forall_mem_nil _)⟩)⟩) (by decide +kernel)
/- UtilityWorksModel bOwes -/
def kh_781 : ct_T := (521, [(2, 805, 805, 0), (0, 0, 4, 1)], [], [], [(1, (1, (-9223372036854775808), 9223372036854775807, 1), [(2, 805, 805, 0), (0, 0, 4, 1)], [], ([], []))], [], 2, 46, 0)
theorem kh_781_ok : ct_ok wd_fl2 kh_781 := ct_of (ff := wd_ff2) (y := (⟨"UtilityWorksModel", "bOwes", "(I)J"⟩, prog_14_method_239_code, 2, some .long, 12, 1, 1, 35142, 35141, 14011, 21014)) (Cs := [kh_780]) (an := []) (ss := []) (K := 1) (fuel := 4000) wd_fl2_ok rfl (List.forall_mem_cons.mpr ⟨kh_780_ok, (List.forall_mem_nil _)⟩) (by decide +kernel)
/- UtilityWorksModel cHas -/
def kh_782 : ct_T := (517, [(2, 805, 805, 0), (0, 6, 6, 0), (0, 0, 4, 1)], [], [], [(1, (0, 0, 1, 1), [(2, 805, 805, 0), (0, 6, 6, 0), (0, 0, 4, 1)], [], ([], []))], [], 1, 21, 0)
theorem kh_782_ok : ct_ok wd_fl2 kh_782 := ct_of (ff := wd_ff2) (y := (⟨"UtilityWorksModel", "cHas", "(II)Z"⟩, prog_14_method_276_code, 5, some .boolean, 12, 1, 2, 35126, 35125, 14007, 21014)) (Cs := [kh_cJ0, kh_cJ2, kh_cJ4]) (an := [(5, 0, ([((2, 805, 805, 0), none), ((0, 6, 6, 0), none), ((0, 0, 4, 1), none), ((0, 0, 1, 1), none), ((0, 0, 200, 1), none)], [(0, 0), (1, 1), (2, 2), (3, 3), (4, 4)], [], [], [], [], [], [], none), [(0, 0, 99995), (1, 4, 200), (0, 0, 99995)]), (67, 0, ([((2, 805, 805, 0), none), ((0, 6, 6, 0), none), ((0, 0, 4, 1), none), ((0, 0, 1, 1), none), ((0, 0, 199, 1), none)], [(0, 0), (1, 1), (2, 2), (3, 3), (4, 4)], [], [], [], [], [((806, 806), (2440, 2440, 0), (0, 1, 200, 1))], [], none), [(0, 0, 99995), (1, 4, 200), (0, 0, 99933)]), (71, 0, ([((2, 805, 805, 0), none), ((0, 6, 6, 0), none), ((0, 0, 4, 1), none), ((0, 0, 0, 0), none), ((0, 0, 199, 1), none)], [(0, 0), (1, 1), (2, 2), (3, 3), (4, 4)], [], [], [], [], [((806, 806), (2440, 2440, 0), (0, 1, 200, 1))], [], none), [(0, 0, 99995), (1, 4, 200), (0, 0, 99929)])]) (ss := []) (K := 3) (fuel := 4000) wd_fl2_ok rfl (List.forall_mem_cons.mpr ⟨kh_cJ0_ok, (List.forall_mem_cons.mpr ⟨kh_cJ2_ok, (List.forall_mem_cons.mpr ⟨kh_cJ4_ok, (List.forall_mem_nil _)⟩)⟩)⟩) (by decide +kernel)
/- UtilityWorksModel bNotices -/
def kh_783 : ct_T := (515, [(2, 805, 805, 0), (0, 0, 4, 1)], [], [510, 513], [(0, (0, 0, 0, 0), [(2, 805, 805, 0), (0, 0, 4, 1)], [], ([510, 513], []))], [((806, 806), (2440, 4047, 1))], 3, 67, 0)
theorem kh_783_ok : ct_ok wd_fl2 kh_783 := ct_of (ff := wd_ff2) (y := (⟨"UtilityWorksModel", "bNotices", "(I)V"⟩, prog_14_method_249_code, 2, none, 12, 1, 1, 35115, 35114, 14005, 21014)) (Cs := [kh_776, kh_rankOf, kh_497, kh_777, kh_cMay, kh_cAddb, kh_779, kh_781, kh_782]) (an := [(54, 0, ([((2, 805, 805, 0), none), ((0, 0, 4, 1), none)], [(0, 0), (1, 1)], [], [], [], [], [], [510, 513], none), [(0, 0, 99946)]), (98, 0, ([((2, 805, 805, 0), none), ((0, 0, 4, 1), none)], [(0, 0), (1, 1)], [], [], [], [], [], [510, 513], none), [(0, 0, 99902)])]) (ss := []) (K := 1) (fuel := 4000) wd_fl2_ok rfl (List.forall_mem_cons.mpr ⟨kh_776_ok, (List.forall_mem_cons.mpr ⟨kh_rankOf_l2, (List.forall_mem_cons.mpr ⟨kh_497_l2, (List.forall_mem_cons.mpr ⟨kh_777_ok, (List.forall_mem_cons.mpr ⟨kh_cMay_ok, (List.forall_mem_cons.mpr ⟨kh_cAddb_ok, (List.forall_mem_cons.mpr ⟨kh_779_ok, (List.forall_mem_cons.mpr ⟨kh_781_ok, (List.forall_mem_cons.mpr ⟨kh_782_ok, (List.forall_mem_nil _)⟩)⟩)⟩)⟩)⟩)⟩)⟩)⟩)⟩) (by decide +kernel)
/- UtilityWorksModel bC -/
def kh_784 : ct_T := (413, [(0, 0, 5, 1), (0, 1, 1, 0)], [], [], [(1, (0, 1821, 1921, 20), [(0, 0, 5, 1), (0, 1, 1, 0)], [], ([], []))], [], 0, 0, 0)
theorem kh_784_ok : ct_ok wd_fl2 kh_784 := ct_of (ff := wd_ff2) (y := (⟨"UtilityWorksModel", "bC", "(II)I"⟩, prog_14_method_227_code, 2, some .int, 12, 0, 2, 33186, 33185, 0, 21014)) (Cs := []) (an := []) (ss := []) (K := 1) (fuel := 4000) wd_fl2_ok rfl (List.forall_mem_nil _) (by decide +kernel)
/- UtilityWorksModel bC -/
def kh_785 : ct_T := (413, [(0, 0, 5, 1), (0, 2, 2, 0)], [], [], [(1, (0, 1822, 1922, 20), [(0, 0, 5, 1), (0, 2, 2, 0)], [], ([], []))], [], 0, 0, 0)
theorem kh_785_ok : ct_ok wd_fl2 kh_785 := ct_of (ff := wd_ff2) (y := (⟨"UtilityWorksModel", "bC", "(II)I"⟩, prog_14_method_227_code, 2, some .int, 12, 0, 2, 33186, 33185, 0, 21014)) (Cs := []) (an := []) (ss := []) (K := 1) (fuel := 4000) wd_fl2_ok rfl (List.forall_mem_nil _) (by decide +kernel)
/- UtilityWorksModel bDue -/
def kh_786 : ct_T := (504, [(2, 805, 805, 0), (0, 0, 5, 1), (0, 0, 214748364, 1)], [], [], [(1, (1, (-9223372036854775808), 9223372036854775807, 1), [(2, 805, 805, 0), (0, 0, 5, 1), (0, 0, 214748364, 1)], [], ([], []))], [], 0, 0, 0)
theorem kh_786_ok : ct_ok wd_fl2 kh_786 := ct_of (ff := wd_ff2) (y := (⟨"UtilityWorksModel", "bDue", "(II)J"⟩, prog_14_method_242_code, 3, some .long, 12, 1, 2, 35069, 35068, 13011, 21014)) (Cs := []) (an := []) (ss := []) (K := 1) (fuel := 4000) wd_fl2_ok rfl (List.forall_mem_nil _) (by decide +kernel)
/- UtilityWorksModel bC -/
def kh_787 : ct_T := (413, [(0, 0, 5, 1), (0, 3, 3, 0)], [], [], [(1, (0, 1823, 1923, 20), [(0, 0, 5, 1), (0, 3, 3, 0)], [], ([], []))], [], 0, 0, 0)
theorem kh_787_ok : ct_ok wd_fl2 kh_787 := ct_of (ff := wd_ff2) (y := (⟨"UtilityWorksModel", "bC", "(II)I"⟩, prog_14_method_227_code, 2, some .int, 12, 0, 2, 33186, 33185, 0, 21014)) (Cs := []) (an := []) (ss := []) (K := 1) (fuel := 4000) wd_fl2_ok rfl (List.forall_mem_nil _) (by decide +kernel)
/- UtilityWorksModel bEndPlan -/
def kh_788 : ct_T := (505, [(2, 805, 805, 0), (0, 0, 5, 1)], [], [], [(0, (0, 0, 0, 0), [(2, 805, 805, 0), (0, 0, 5, 1)], [], ([], []))], [((806, 806), (1821, 1921, 20)), ((806, 806), (1822, 1922, 20)), ((807, 807), (2830, 2835, 1)), ((807, 807), (2840, 2845, 1)), ((807, 807), (2850, 2855, 1))], 1, 21, 0)
theorem kh_788_ok : ct_ok wd_fl2 kh_788 := ct_of (ff := wd_ff2) (y := (⟨"UtilityWorksModel", "bEndPlan", "(I)V"⟩, prog_14_method_241_code, 2, none, 12, 1, 1, 35073, 35072, 13012, 21014)) (Cs := [kh_784, kh_785]) (an := []) (ss := []) (K := 1) (fuel := 4000) wd_fl2_ok rfl (List.forall_mem_cons.mpr ⟨kh_784_ok, (List.forall_mem_cons.mpr ⟨kh_785_ok, (List.forall_mem_nil _)⟩)⟩) (by decide +kernel)
/- UtilityWorksModel bPlanDay -/
def kh_789 : ct_T := (503, [(2, 805, 805, 0), (0, 0, 5, 1)], [], [], [(0, (0, 0, 0, 0), [(2, 805, 805, 0), (0, 0, 5, 1)], [], ([], []))], [((806, 806), (1821, 1921, 20)), ((806, 806), (1822, 1922, 20)), ((806, 806), (1823, 1923, 20)), ((807, 807), (2830, 2835, 1)), ((807, 807), (2840, 2845, 1)), ((807, 807), (2850, 2855, 1))], 2, 42, 0)
theorem kh_789_ok : ct_ok wd_fl2 kh_789 := ct_of (ff := wd_ff2) (y := (⟨"UtilityWorksModel", "bPlanDay", "(I)V"⟩, prog_14_method_243_code, 4, none, 12, 1, 1, 35065, 35064, 13010, 21014)) (Cs := [kh_784, kh_day, kh_785, kh_786, kh_787, kh_788]) (an := [(92, 0, ([((2, 805, 805, 0), none), ((0, 0, 5, 1), none), ((0, 0, 6, 1), none), ((0, (-2147483648), 2147483647, 1), none)], [(0, 0), (1, 1), (2, 2), (3, 3)], [], [], [], [], [], [], none), [(0, 0, 99908)])]) (ss := []) (K := 1) (fuel := 4000) wd_fl2_ok rfl (List.forall_mem_cons.mpr ⟨kh_784_ok, (List.forall_mem_cons.mpr ⟨kh_day_ok, (List.forall_mem_cons.mpr ⟨kh_785_ok, (List.forall_mem_cons.mpr ⟨kh_786_ok, (List.forall_mem_cons.mpr ⟨kh_787_ok, (List.forall_mem_cons.mpr ⟨kh_788_ok, (List.forall_mem_nil _)⟩)⟩)⟩)⟩)⟩)⟩) (by decide +kernel)
/- UtilityWorksModel bB -/
def kh_790 : ct_T := (507, [(0, 0, 5, 1), (0, 0, 32, 1), (0, 7, 7, 0)], [], [], [(1, (0, 107, 1723, 8), [(0, 0, 5, 1), (0, 0, 32, 1), (0, 7, 7, 0)], [], ([], []))], [], 0, 0, 0)
theorem kh_790_ok : ct_ok wd_fl2 kh_790 := ct_of (ff := wd_ff2) (y := (⟨"UtilityWorksModel", "bB", "(III)I"⟩, prog_14_method_228_code, 3, some .int, 12, 0, 3, 35080, 35079, 0, 21014)) (Cs := []) (an := []) (ss := []) (K := 1) (fuel := 4000) wd_fl2_ok rfl (List.forall_mem_nil _) (by decide +kernel)
/- UtilityWorksModel bInterest -/
def kh_791 : ct_T := (506, [(2, 805, 805, 0), (0, 0, 5, 1)], [], [], [(0, (0, 0, 0, 0), [(2, 805, 805, 0), (0, 0, 5, 1)], [], ([], []))], [((807, 807), (107, 1723, 8)), ((807, 807), (2862, 2862, 0))], 1, 22, 0)
theorem kh_791_ok : ct_ok wd_fl2 kh_791 := ct_of (ff := wd_ff2) (y := (⟨"UtilityWorksModel", "bInterest", "(I)V"⟩, prog_14_method_244_code, 5, none, 12, 1, 1, 35077, 35076, 13013, 21014)) (Cs := [kh_bC0, kh_790]) (an := [(2, 0, ([((2, 805, 805, 0), none), ((0, 0, 5, 1), none), ((0, 0, 33, 1), none)], [(0, 0), (1, 1), (2, 2)], [], [], [], [], [], [], none), [(0, 0, 99998), (1, 2, 33), (0, 0, 99998)])]) (ss := []) (K := 3) (fuel := 4000) wd_fl2_ok rfl (List.forall_mem_cons.mpr ⟨kh_bC0_ok, (List.forall_mem_cons.mpr ⟨kh_790_ok, (List.forall_mem_nil _)⟩)⟩) (by decide +kernel)
/- UtilityWorksModel bB -/
def kh_792 : ct_T := (507, [(0, 0, 5, 1), (0, 0, 32, 1), (0, 0, 0, 0)], [], [], [(1, (0, 100, 1716, 8), [(0, 0, 5, 1), (0, 0, 32, 1), (0, 0, 0, 0)], [], ([], []))], [], 0, 0, 0)
theorem kh_792_ok : ct_ok wd_fl2 kh_792 := ct_of (ff := wd_ff2) (y := (⟨"UtilityWorksModel", "bB", "(III)I"⟩, prog_14_method_228_code, 3, some .int, 12, 0, 3, 35080, 35079, 0, 21014)) (Cs := []) (an := []) (ss := []) (K := 1) (fuel := 4000) wd_fl2_ok rfl (List.forall_mem_nil _) (by decide +kernel)
/- UtilityWorksModel bNotice -/
def kh_793 : ct_T := (516, [(2, 805, 805, 0), (0, 0, 5, 1)], [], [], [(1, (0, 0, 0, 0), [(2, 805, 805, 0), (0, 0, 5, 1)], [], ([], [])), (1, (0, 1, 1, 0), [(2, 805, 805, 0), (0, 0, 5, 1)], [], ([], [])), (1, (0, 2, 3, 1), [(2, 805, 805, 0), (0, 0, 5, 1)], [], ([], []))], [], 1, 22, 0)
theorem kh_793_ok : ct_ok wd_fl2 kh_793 := ct_of (ff := wd_ff2) (y := (⟨"UtilityWorksModel", "bNotice", "(I)I"⟩, prog_14_method_248_code, 5, some .int, 12, 1, 1, 35119, 35118, 14006, 21014)) (Cs := [kh_bC0, kh_784, kh_day, kh_792, kh_790]) (an := [(15, 0, ([((2, 805, 805, 0), none), ((0, 0, 5, 1), none), ((0, (-1), 32, 1), none), ((0, (-1), 32, 1), none)], [(0, 0), (1, 1), (2, 2), (3, 3)], [], [], [], [], [], [], none), [(0, 0, 99985), (2, 3, (-1)), (0, 0, 99985)]), (66, 0, ([((2, 805, 805, 0), none), ((0, 0, 5, 1), none), ((0, (-1), 32, 1), none), ((0, (-1), (-1), 1), none)], [(0, 0), (1, 1), (2, 2), (3, 3)], [], [], [], [], [], [], none), [(0, 0, 99934), (0, 0, 0), (0, 0, 0)])]) (ss := []) (K := 3) (fuel := 4000) wd_fl2_ok rfl (List.forall_mem_cons.mpr ⟨kh_bC0_ok, (List.forall_mem_cons.mpr ⟨kh_784_ok, (List.forall_mem_cons.mpr ⟨kh_day_ok, (List.forall_mem_cons.mpr ⟨kh_792_ok, (List.forall_mem_cons.mpr ⟨kh_790_ok, (List.forall_mem_nil _)⟩)⟩)⟩)⟩)⟩) (by decide +kernel)
/- UtilityWorksModel cHas -/
def kh_794 : ct_T := (517, [(2, 805, 805, 0), (0, 5, 5, 0), (0, 0, 5, 1)], [], [], [(1, (0, 0, 1, 1), [(2, 805, 805, 0), (0, 5, 5, 0), (0, 0, 5, 1)], [], ([], []))], [], 1, 21, 0)
theorem kh_794_ok : ct_ok wd_fl2 kh_794 := ct_of (ff := wd_ff2) (y := (⟨"UtilityWorksModel", "cHas", "(II)Z"⟩, prog_14_method_276_code, 5, some .boolean, 12, 1, 2, 35126, 35125, 14007, 21014)) (Cs := [kh_cJ0, kh_cJ2, kh_cJ4]) (an := [(5, 0, ([((2, 805, 805, 0), none), ((0, 5, 5, 0), none), ((0, 0, 5, 1), none), ((0, 0, 1, 1), none), ((0, 0, 200, 1), none)], [(0, 0), (1, 1), (2, 2), (3, 3), (4, 4)], [], [], [], [], [], [], none), [(0, 0, 99995), (1, 4, 200), (0, 0, 99995)]), (67, 0, ([((2, 805, 805, 0), none), ((0, 5, 5, 0), none), ((0, 0, 5, 1), none), ((0, 0, 1, 1), none), ((0, 0, 199, 1), none)], [(0, 0), (1, 1), (2, 2), (3, 3), (4, 4)], [], [], [], [], [((806, 806), (2440, 2440, 0), (0, 1, 200, 1))], [], none), [(0, 0, 99995), (1, 4, 200), (0, 0, 99933)]), (71, 0, ([((2, 805, 805, 0), none), ((0, 5, 5, 0), none), ((0, 0, 5, 1), none), ((0, 0, 0, 0), none), ((0, 0, 199, 1), none)], [(0, 0), (1, 1), (2, 2), (3, 3), (4, 4)], [], [], [], [], [((806, 806), (2440, 2440, 0), (0, 1, 200, 1))], [], none), [(0, 0, 99995), (1, 4, 200), (0, 0, 99929)])]) (ss := []) (K := 3) (fuel := 4000) wd_fl2_ok rfl (List.forall_mem_cons.mpr ⟨kh_cJ0_ok, (List.forall_mem_cons.mpr ⟨kh_cJ2_ok, (List.forall_mem_cons.mpr ⟨kh_cJ4_ok, (List.forall_mem_nil _)⟩)⟩)⟩) (by decide +kernel)
/- UtilityWorksModel bC -/
def kh_795 : ct_T := (413, [(0, 0, 5, 1), (0, 5, 5, 0)], [], [], [(1, (0, 1825, 1925, 20), [(0, 0, 5, 1), (0, 5, 5, 0)], [], ([], []))], [], 0, 0, 0)
theorem kh_795_ok : ct_ok wd_fl2 kh_795 := ct_of (ff := wd_ff2) (y := (⟨"UtilityWorksModel", "bC", "(II)I"⟩, prog_14_method_227_code, 2, some .int, 12, 0, 2, 33186, 33185, 0, 21014)) (Cs := []) (an := []) (ss := []) (K := 1) (fuel := 4000) wd_fl2_ok rfl (List.forall_mem_nil _) (by decide +kernel)
/- UtilityWorksModel bCutFrom -/
def kh_796 : ct_T := (412, [(2, 805, 805, 0), (0, 0, 5, 1)], [], [], [(1, (0, (-2147483648), 2147483647, 1), [(2, 805, 805, 0), (0, 0, 5, 1)], [], ([], []))], [], 1, 21, 0)
theorem kh_796_ok : ct_ok wd_fl2 kh_796 := ct_of (ff := wd_ff2) (y := (⟨"UtilityWorksModel", "bCutFrom", "(I)I"⟩, prog_14_method_235_code, 2, some .int, 12, 1, 1, 33183, 33182, 8001, 21014)) (Cs := [kh_795]) (an := []) (ss := []) (K := 1) (fuel := 4000) wd_fl2_ok rfl (List.forall_mem_cons.mpr ⟨kh_795_ok, (List.forall_mem_nil _)⟩) (by decide +kernel)
/- UtilityWorksModel bOpen -/
def kh_797 : ct_T := (522, [(2, 805, 805, 0), (0, 0, 5, 1)], [], [], [(1, (1, (-9223372036854775808), 9223372036854775807, 1), [(2, 805, 805, 0), (0, 0, 5, 1)], [], ([], []))], [], 1, 22, 0)
theorem kh_797_ok : ct_ok wd_fl2 kh_797 := ct_of (ff := wd_ff2) (y := (⟨"UtilityWorksModel", "bOpen", "(I)J"⟩, prog_14_method_238_code, 5, some .long, 12, 1, 1, 35146, 35145, 14012, 21014)) (Cs := [kh_bC0, kh_790]) (an := [(5, 0, ([((2, 805, 805, 0), none), ((0, 0, 5, 1), none), ((1, (-9223372036854775808), 9223372036854775807, 1), none), ((0, 0, 33, 1), none)], [(0, 0), (1, 1), (2, 2), (4, 3)], [], [], [], [], [], [], none), [(0, 0, 99995), (1, 3, 33), (0, 0, 99995)])]) (ss := []) (K := 3) (fuel := 4000) wd_fl2_ok rfl (List.forall_mem_cons.mpr ⟨kh_bC0_ok, (List.forall_mem_cons.mpr ⟨kh_790_ok, (List.forall_mem_nil _)⟩)⟩) (by decide +kernel)
/- UtilityWorksModel bOwes -/
def kh_798 : ct_T := (521, [(2, 805, 805, 0), (0, 0, 5, 1)], [], [], [(1, (1, (-9223372036854775808), 9223372036854775807, 1), [(2, 805, 805, 0), (0, 0, 5, 1)], [], ([], []))], [], 2, 46, 0)
theorem kh_798_ok : ct_ok wd_fl2 kh_798 := ct_of (ff := wd_ff2) (y := (⟨"UtilityWorksModel", "bOwes", "(I)J"⟩, prog_14_method_239_code, 2, some .long, 12, 1, 1, 35142, 35141, 14011, 21014)) (Cs := [kh_797]) (an := []) (ss := []) (K := 1) (fuel := 4000) wd_fl2_ok rfl (List.forall_mem_cons.mpr ⟨kh_797_ok, (List.forall_mem_nil _)⟩) (by decide +kernel)
/- UtilityWorksModel cHas -/
def kh_799 : ct_T := (517, [(2, 805, 805, 0), (0, 6, 6, 0), (0, 0, 5, 1)], [], [], [(1, (0, 0, 1, 1), [(2, 805, 805, 0), (0, 6, 6, 0), (0, 0, 5, 1)], [], ([], []))], [], 1, 21, 0)
theorem kh_799_ok : ct_ok wd_fl2 kh_799 := ct_of (ff := wd_ff2) (y := (⟨"UtilityWorksModel", "cHas", "(II)Z"⟩, prog_14_method_276_code, 5, some .boolean, 12, 1, 2, 35126, 35125, 14007, 21014)) (Cs := [kh_cJ0, kh_cJ2, kh_cJ4]) (an := [(5, 0, ([((2, 805, 805, 0), none), ((0, 6, 6, 0), none), ((0, 0, 5, 1), none), ((0, 0, 1, 1), none), ((0, 0, 200, 1), none)], [(0, 0), (1, 1), (2, 2), (3, 3), (4, 4)], [], [], [], [], [], [], none), [(0, 0, 99995), (1, 4, 200), (0, 0, 99995)]), (67, 0, ([((2, 805, 805, 0), none), ((0, 6, 6, 0), none), ((0, 0, 5, 1), none), ((0, 0, 1, 1), none), ((0, 0, 199, 1), none)], [(0, 0), (1, 1), (2, 2), (3, 3), (4, 4)], [], [], [], [], [((806, 806), (2440, 2440, 0), (0, 1, 200, 1))], [], none), [(0, 0, 99995), (1, 4, 200), (0, 0, 99933)]), (71, 0, ([((2, 805, 805, 0), none), ((0, 6, 6, 0), none), ((0, 0, 5, 1), none), ((0, 0, 0, 0), none), ((0, 0, 199, 1), none)], [(0, 0), (1, 1), (2, 2), (3, 3), (4, 4)], [], [], [], [], [((806, 806), (2440, 2440, 0), (0, 1, 200, 1))], [], none), [(0, 0, 99995), (1, 4, 200), (0, 0, 99929)])]) (ss := []) (K := 3) (fuel := 4000) wd_fl2_ok rfl (List.forall_mem_cons.mpr ⟨kh_cJ0_ok, (List.forall_mem_cons.mpr ⟨kh_cJ2_ok, (List.forall_mem_cons.mpr ⟨kh_cJ4_ok, (List.forall_mem_nil _)⟩)⟩)⟩) (by decide +kernel)
/- UtilityWorksModel bNotices -/
def kh_800 : ct_T := (515, [(2, 805, 805, 0), (0, 0, 5, 1)], [], [510, 513], [(0, (0, 0, 0, 0), [(2, 805, 805, 0), (0, 0, 5, 1)], [], ([510, 513], []))], [((806, 806), (2440, 4047, 1))], 3, 67, 0)
theorem kh_800_ok : ct_ok wd_fl2 kh_800 := ct_of (ff := wd_ff2) (y := (⟨"UtilityWorksModel", "bNotices", "(I)V"⟩, prog_14_method_249_code, 2, none, 12, 1, 1, 35115, 35114, 14005, 21014)) (Cs := [kh_793, kh_rankOf, kh_504, kh_794, kh_cMay, kh_cAddb, kh_796, kh_798, kh_799]) (an := [(54, 0, ([((2, 805, 805, 0), none), ((0, 0, 5, 1), none)], [(0, 0), (1, 1)], [], [], [], [], [], [510, 513], none), [(0, 0, 99946)]), (98, 0, ([((2, 805, 805, 0), none), ((0, 0, 5, 1), none)], [(0, 0), (1, 1)], [], [], [], [], [], [510, 513], none), [(0, 0, 99902)])]) (ss := []) (K := 1) (fuel := 4000) wd_fl2_ok rfl (List.forall_mem_cons.mpr ⟨kh_793_ok, (List.forall_mem_cons.mpr ⟨kh_rankOf_l2, (List.forall_mem_cons.mpr ⟨kh_504_l2, (List.forall_mem_cons.mpr ⟨kh_794_ok, (List.forall_mem_cons.mpr ⟨kh_cMay_ok, (List.forall_mem_cons.mpr ⟨kh_cAddb_ok, (List.forall_mem_cons.mpr ⟨kh_796_ok, (List.forall_mem_cons.mpr ⟨kh_798_ok, (List.forall_mem_cons.mpr ⟨kh_799_ok, (List.forall_mem_nil _)⟩)⟩)⟩)⟩)⟩)⟩)⟩)⟩)⟩) (by decide +kernel)
/- UtilityWorksModel bC -/
def kh_801 : ct_T := (413, [(0, 0, 6, 1), (0, 1, 1, 0)], [], [], [(1, (0, 1821, 1941, 20), [(0, 0, 6, 1), (0, 1, 1, 0)], [], ([], []))], [], 0, 0, 0)
theorem kh_801_ok : ct_ok wd_fl2 kh_801 := ct_of (ff := wd_ff2) (y := (⟨"UtilityWorksModel", "bC", "(II)I"⟩, prog_14_method_227_code, 2, some .int, 12, 0, 2, 33186, 33185, 0, 21014)) (Cs := []) (an := []) (ss := []) (K := 1) (fuel := 4000) wd_fl2_ok rfl (List.forall_mem_nil _) (by decide +kernel)
/- UtilityWorksModel bC -/
def kh_802 : ct_T := (413, [(0, 0, 6, 1), (0, 2, 2, 0)], [], [], [(1, (0, 1822, 1942, 20), [(0, 0, 6, 1), (0, 2, 2, 0)], [], ([], []))], [], 0, 0, 0)
theorem kh_802_ok : ct_ok wd_fl2 kh_802 := ct_of (ff := wd_ff2) (y := (⟨"UtilityWorksModel", "bC", "(II)I"⟩, prog_14_method_227_code, 2, some .int, 12, 0, 2, 33186, 33185, 0, 21014)) (Cs := []) (an := []) (ss := []) (K := 1) (fuel := 4000) wd_fl2_ok rfl (List.forall_mem_nil _) (by decide +kernel)
/- UtilityWorksModel bDue -/
def kh_803 : ct_T := (504, [(2, 805, 805, 0), (0, 0, 6, 1), (0, 0, 214748364, 1)], [], [], [(1, (1, (-9223372036854775808), 9223372036854775807, 1), [(2, 805, 805, 0), (0, 0, 6, 1), (0, 0, 214748364, 1)], [], ([], []))], [], 0, 0, 0)
theorem kh_803_ok : ct_ok wd_fl2 kh_803 := ct_of (ff := wd_ff2) (y := (⟨"UtilityWorksModel", "bDue", "(II)J"⟩, prog_14_method_242_code, 3, some .long, 12, 1, 2, 35069, 35068, 13011, 21014)) (Cs := []) (an := []) (ss := []) (K := 1) (fuel := 4000) wd_fl2_ok rfl (List.forall_mem_nil _) (by decide +kernel)
/- UtilityWorksModel bC -/
def kh_804 : ct_T := (413, [(0, 0, 6, 1), (0, 3, 3, 0)], [], [], [(1, (0, 1823, 1943, 20), [(0, 0, 6, 1), (0, 3, 3, 0)], [], ([], []))], [], 0, 0, 0)
theorem kh_804_ok : ct_ok wd_fl2 kh_804 := ct_of (ff := wd_ff2) (y := (⟨"UtilityWorksModel", "bC", "(II)I"⟩, prog_14_method_227_code, 2, some .int, 12, 0, 2, 33186, 33185, 0, 21014)) (Cs := []) (an := []) (ss := []) (K := 1) (fuel := 4000) wd_fl2_ok rfl (List.forall_mem_nil _) (by decide +kernel)
/- UtilityWorksModel bEndPlan -/
def kh_805 : ct_T := (505, [(2, 805, 805, 0), (0, 0, 6, 1)], [], [], [(0, (0, 0, 0, 0), [(2, 805, 805, 0), (0, 0, 6, 1)], [], ([], []))], [((806, 806), (1821, 1941, 20)), ((806, 806), (1822, 1942, 20)), ((807, 807), (2830, 2836, 1)), ((807, 807), (2840, 2846, 1)), ((807, 807), (2850, 2856, 1))], 1, 21, 0)
theorem kh_805_ok : ct_ok wd_fl2 kh_805 := ct_of (ff := wd_ff2) (y := (⟨"UtilityWorksModel", "bEndPlan", "(I)V"⟩, prog_14_method_241_code, 2, none, 12, 1, 1, 35073, 35072, 13012, 21014)) (Cs := [kh_801, kh_802]) (an := []) (ss := []) (K := 1) (fuel := 4000) wd_fl2_ok rfl (List.forall_mem_cons.mpr ⟨kh_801_ok, (List.forall_mem_cons.mpr ⟨kh_802_ok, (List.forall_mem_nil _)⟩)⟩) (by decide +kernel)
/- UtilityWorksModel bPlanDay -/
def kh_806 : ct_T := (503, [(2, 805, 805, 0), (0, 0, 6, 1)], [], [], [(0, (0, 0, 0, 0), [(2, 805, 805, 0), (0, 0, 6, 1)], [], ([], []))], [((806, 806), (1821, 1941, 20)), ((806, 806), (1822, 1942, 20)), ((806, 806), (1823, 1943, 20)), ((807, 807), (2830, 2836, 1)), ((807, 807), (2840, 2846, 1)), ((807, 807), (2850, 2856, 1))], 2, 42, 0)
theorem kh_806_ok : ct_ok wd_fl2 kh_806 := ct_of (ff := wd_ff2) (y := (⟨"UtilityWorksModel", "bPlanDay", "(I)V"⟩, prog_14_method_243_code, 4, none, 12, 1, 1, 35065, 35064, 13010, 21014)) (Cs := [kh_801, kh_day, kh_802, kh_803, kh_804, kh_805]) (an := [(92, 0, ([((2, 805, 805, 0), none), ((0, 0, 6, 1), none), ((0, 0, 6, 1), none), ((0, (-2147483648), 2147483647, 1), none)], [(0, 0), (1, 1), (2, 2), (3, 3)], [], [], [], [], [], [], none), [(0, 0, 99908)])]) (ss := []) (K := 1) (fuel := 4000) wd_fl2_ok rfl (List.forall_mem_cons.mpr ⟨kh_801_ok, (List.forall_mem_cons.mpr ⟨kh_day_ok, (List.forall_mem_cons.mpr ⟨kh_802_ok, (List.forall_mem_cons.mpr ⟨kh_803_ok, (List.forall_mem_cons.mpr ⟨kh_804_ok, (List.forall_mem_cons.mpr ⟨kh_805_ok, (List.forall_mem_nil _)⟩)⟩)⟩)⟩)⟩)⟩) (by decide +kernel)
/- UtilityWorksModel bB -/
def kh_807 : ct_T := (507, [(0, 0, 6, 1), (0, 0, 32, 1), (0, 7, 7, 0)], [], [], [(1, (0, 107, 1995, 8), [(0, 0, 6, 1), (0, 0, 32, 1), (0, 7, 7, 0)], [], ([], []))], [], 0, 0, 0)
theorem kh_807_ok : ct_ok wd_fl2 kh_807 := ct_of (ff := wd_ff2) (y := (⟨"UtilityWorksModel", "bB", "(III)I"⟩, prog_14_method_228_code, 3, some .int, 12, 0, 3, 35080, 35079, 0, 21014)) (Cs := []) (an := []) (ss := []) (K := 1) (fuel := 4000) wd_fl2_ok rfl (List.forall_mem_nil _) (by decide +kernel)
/- UtilityWorksModel bInterest -/
def kh_808 : ct_T := (506, [(2, 805, 805, 0), (0, 0, 6, 1)], [], [], [(0, (0, 0, 0, 0), [(2, 805, 805, 0), (0, 0, 6, 1)], [], ([], []))], [((807, 807), (107, 1995, 8)), ((807, 807), (2862, 2862, 0))], 1, 22, 0)
theorem kh_808_ok : ct_ok wd_fl2 kh_808 := ct_of (ff := wd_ff2) (y := (⟨"UtilityWorksModel", "bInterest", "(I)V"⟩, prog_14_method_244_code, 5, none, 12, 1, 1, 35077, 35076, 13013, 21014)) (Cs := [kh_bC0, kh_807]) (an := [(2, 0, ([((2, 805, 805, 0), none), ((0, 0, 6, 1), none), ((0, 0, 33, 1), none)], [(0, 0), (1, 1), (2, 2)], [], [], [], [], [], [], none), [(0, 0, 99998), (1, 2, 33), (0, 0, 99998)])]) (ss := []) (K := 3) (fuel := 4000) wd_fl2_ok rfl (List.forall_mem_cons.mpr ⟨kh_bC0_ok, (List.forall_mem_cons.mpr ⟨kh_807_ok, (List.forall_mem_nil _)⟩)⟩) (by decide +kernel)
/- UtilityWorksModel bB -/
def kh_809 : ct_T := (507, [(0, 0, 6, 1), (0, 0, 32, 1), (0, 0, 0, 0)], [], [], [(1, (0, 100, 1988, 8), [(0, 0, 6, 1), (0, 0, 32, 1), (0, 0, 0, 0)], [], ([], []))], [], 0, 0, 0)
theorem kh_809_ok : ct_ok wd_fl2 kh_809 := ct_of (ff := wd_ff2) (y := (⟨"UtilityWorksModel", "bB", "(III)I"⟩, prog_14_method_228_code, 3, some .int, 12, 0, 3, 35080, 35079, 0, 21014)) (Cs := []) (an := []) (ss := []) (K := 1) (fuel := 4000) wd_fl2_ok rfl (List.forall_mem_nil _) (by decide +kernel)
/- UtilityWorksModel bNotice -/
def kh_810 : ct_T := (516, [(2, 805, 805, 0), (0, 0, 6, 1)], [], [], [(1, (0, 0, 0, 0), [(2, 805, 805, 0), (0, 0, 6, 1)], [], ([], [])), (1, (0, 1, 1, 0), [(2, 805, 805, 0), (0, 0, 6, 1)], [], ([], [])), (1, (0, 2, 3, 1), [(2, 805, 805, 0), (0, 0, 6, 1)], [], ([], []))], [], 1, 22, 0)
theorem kh_810_ok : ct_ok wd_fl2 kh_810 := ct_of (ff := wd_ff2) (y := (⟨"UtilityWorksModel", "bNotice", "(I)I"⟩, prog_14_method_248_code, 5, some .int, 12, 1, 1, 35119, 35118, 14006, 21014)) (Cs := [kh_bC0, kh_801, kh_day, kh_809, kh_807]) (an := [(15, 0, ([((2, 805, 805, 0), none), ((0, 0, 6, 1), none), ((0, (-1), 32, 1), none), ((0, (-1), 32, 1), none)], [(0, 0), (1, 1), (2, 2), (3, 3)], [], [], [], [], [], [], none), [(0, 0, 99985), (2, 3, (-1)), (0, 0, 99985)]), (66, 0, ([((2, 805, 805, 0), none), ((0, 0, 6, 1), none), ((0, (-1), 32, 1), none), ((0, (-1), (-1), 1), none)], [(0, 0), (1, 1), (2, 2), (3, 3)], [], [], [], [], [], [], none), [(0, 0, 99934), (0, 0, 0), (0, 0, 0)])]) (ss := []) (K := 3) (fuel := 4000) wd_fl2_ok rfl (List.forall_mem_cons.mpr ⟨kh_bC0_ok, (List.forall_mem_cons.mpr ⟨kh_801_ok, (List.forall_mem_cons.mpr ⟨kh_day_ok, (List.forall_mem_cons.mpr ⟨kh_809_ok, (List.forall_mem_cons.mpr ⟨kh_807_ok, (List.forall_mem_nil _)⟩)⟩)⟩)⟩)⟩) (by decide +kernel)
/- UtilityWorksModel cHas -/
def kh_811 : ct_T := (517, [(2, 805, 805, 0), (0, 5, 5, 0), (0, 0, 6, 1)], [], [], [(1, (0, 0, 1, 1), [(2, 805, 805, 0), (0, 5, 5, 0), (0, 0, 6, 1)], [], ([], []))], [], 1, 21, 0)
theorem kh_811_ok : ct_ok wd_fl2 kh_811 := ct_of (ff := wd_ff2) (y := (⟨"UtilityWorksModel", "cHas", "(II)Z"⟩, prog_14_method_276_code, 5, some .boolean, 12, 1, 2, 35126, 35125, 14007, 21014)) (Cs := [kh_cJ0, kh_cJ2, kh_cJ4]) (an := [(5, 0, ([((2, 805, 805, 0), none), ((0, 5, 5, 0), none), ((0, 0, 6, 1), none), ((0, 0, 1, 1), none), ((0, 0, 200, 1), none)], [(0, 0), (1, 1), (2, 2), (3, 3), (4, 4)], [], [], [], [], [], [], none), [(0, 0, 99995), (1, 4, 200), (0, 0, 99995)]), (67, 0, ([((2, 805, 805, 0), none), ((0, 5, 5, 0), none), ((0, 0, 6, 1), none), ((0, 0, 1, 1), none), ((0, 0, 199, 1), none)], [(0, 0), (1, 1), (2, 2), (3, 3), (4, 4)], [], [], [], [], [((806, 806), (2440, 2440, 0), (0, 1, 200, 1))], [], none), [(0, 0, 99995), (1, 4, 200), (0, 0, 99933)]), (71, 0, ([((2, 805, 805, 0), none), ((0, 5, 5, 0), none), ((0, 0, 6, 1), none), ((0, 0, 0, 0), none), ((0, 0, 199, 1), none)], [(0, 0), (1, 1), (2, 2), (3, 3), (4, 4)], [], [], [], [], [((806, 806), (2440, 2440, 0), (0, 1, 200, 1))], [], none), [(0, 0, 99995), (1, 4, 200), (0, 0, 99929)])]) (ss := []) (K := 3) (fuel := 4000) wd_fl2_ok rfl (List.forall_mem_cons.mpr ⟨kh_cJ0_ok, (List.forall_mem_cons.mpr ⟨kh_cJ2_ok, (List.forall_mem_cons.mpr ⟨kh_cJ4_ok, (List.forall_mem_nil _)⟩)⟩)⟩) (by decide +kernel)
/- UtilityWorksModel bC -/
def kh_812 : ct_T := (413, [(0, 0, 6, 1), (0, 5, 5, 0)], [], [], [(1, (0, 1825, 1945, 20), [(0, 0, 6, 1), (0, 5, 5, 0)], [], ([], []))], [], 0, 0, 0)
theorem kh_812_ok : ct_ok wd_fl2 kh_812 := ct_of (ff := wd_ff2) (y := (⟨"UtilityWorksModel", "bC", "(II)I"⟩, prog_14_method_227_code, 2, some .int, 12, 0, 2, 33186, 33185, 0, 21014)) (Cs := []) (an := []) (ss := []) (K := 1) (fuel := 4000) wd_fl2_ok rfl (List.forall_mem_nil _) (by decide +kernel)
/- UtilityWorksModel bCutFrom -/
def kh_813 : ct_T := (412, [(2, 805, 805, 0), (0, 0, 6, 1)], [], [], [(1, (0, (-2147483648), 2147483647, 1), [(2, 805, 805, 0), (0, 0, 6, 1)], [], ([], []))], [], 1, 21, 0)
theorem kh_813_ok : ct_ok wd_fl2 kh_813 := ct_of (ff := wd_ff2) (y := (⟨"UtilityWorksModel", "bCutFrom", "(I)I"⟩, prog_14_method_235_code, 2, some .int, 12, 1, 1, 33183, 33182, 8001, 21014)) (Cs := [kh_812]) (an := []) (ss := []) (K := 1) (fuel := 4000) wd_fl2_ok rfl (List.forall_mem_cons.mpr ⟨kh_812_ok, (List.forall_mem_nil _)⟩) (by decide +kernel)
/- UtilityWorksModel bOpen -/
def kh_814 : ct_T := (522, [(2, 805, 805, 0), (0, 0, 6, 1)], [], [], [(1, (1, (-9223372036854775808), 9223372036854775807, 1), [(2, 805, 805, 0), (0, 0, 6, 1)], [], ([], []))], [], 1, 22, 0)
theorem kh_814_ok : ct_ok wd_fl2 kh_814 := ct_of (ff := wd_ff2) (y := (⟨"UtilityWorksModel", "bOpen", "(I)J"⟩, prog_14_method_238_code, 5, some .long, 12, 1, 1, 35146, 35145, 14012, 21014)) (Cs := [kh_bC0, kh_807]) (an := [(5, 0, ([((2, 805, 805, 0), none), ((0, 0, 6, 1), none), ((1, (-9223372036854775808), 9223372036854775807, 1), none), ((0, 0, 33, 1), none)], [(0, 0), (1, 1), (2, 2), (4, 3)], [], [], [], [], [], [], none), [(0, 0, 99995), (1, 3, 33), (0, 0, 99995)])]) (ss := []) (K := 3) (fuel := 4000) wd_fl2_ok rfl (List.forall_mem_cons.mpr ⟨kh_bC0_ok, (List.forall_mem_cons.mpr ⟨kh_807_ok, (List.forall_mem_nil _)⟩)⟩) (by decide +kernel)
/- UtilityWorksModel bOwes -/
def kh_815 : ct_T := (521, [(2, 805, 805, 0), (0, 0, 6, 1)], [], [], [(1, (1, (-9223372036854775808), 9223372036854775807, 1), [(2, 805, 805, 0), (0, 0, 6, 1)], [], ([], []))], [], 2, 46, 0)
theorem kh_815_ok : ct_ok wd_fl2 kh_815 := ct_of (ff := wd_ff2) (y := (⟨"UtilityWorksModel", "bOwes", "(I)J"⟩, prog_14_method_239_code, 2, some .long, 12, 1, 1, 35142, 35141, 14011, 21014)) (Cs := [kh_814]) (an := []) (ss := []) (K := 1) (fuel := 4000) wd_fl2_ok rfl (List.forall_mem_cons.mpr ⟨kh_814_ok, (List.forall_mem_nil _)⟩) (by decide +kernel)
/- UtilityWorksModel cHas -/
def kh_816 : ct_T := (517, [(2, 805, 805, 0), (0, 6, 6, 0), (0, 0, 6, 1)], [], [], [(1, (0, 0, 1, 1), [(2, 805, 805, 0), (0, 6, 6, 0), (0, 0, 6, 1)], [], ([], []))], [], 1, 21, 0)
theorem kh_816_ok : ct_ok wd_fl2 kh_816 := ct_of (ff := wd_ff2) (y := (⟨"UtilityWorksModel", "cHas", "(II)Z"⟩, prog_14_method_276_code, 5, some .boolean, 12, 1, 2, 35126, 35125, 14007, 21014)) (Cs := [kh_cJ0, kh_cJ2, kh_cJ4]) (an := [(5, 0, ([((2, 805, 805, 0), none), ((0, 6, 6, 0), none), ((0, 0, 6, 1), none), ((0, 0, 1, 1), none), ((0, 0, 200, 1), none)], [(0, 0), (1, 1), (2, 2), (3, 3), (4, 4)], [], [], [], [], [], [], none), [(0, 0, 99995), (1, 4, 200), (0, 0, 99995)]), (67, 0, ([((2, 805, 805, 0), none), ((0, 6, 6, 0), none), ((0, 0, 6, 1), none), ((0, 0, 1, 1), none), ((0, 0, 199, 1), none)], [(0, 0), (1, 1), (2, 2), (3, 3), (4, 4)], [], [], [], [], [((806, 806), (2440, 2440, 0), (0, 1, 200, 1))], [], none), [(0, 0, 99995), (1, 4, 200), (0, 0, 99933)]), (71, 0, ([((2, 805, 805, 0), none), ((0, 6, 6, 0), none), ((0, 0, 6, 1), none), ((0, 0, 0, 0), none), ((0, 0, 199, 1), none)], [(0, 0), (1, 1), (2, 2), (3, 3), (4, 4)], [], [], [], [], [((806, 806), (2440, 2440, 0), (0, 1, 200, 1))], [], none), [(0, 0, 99995), (1, 4, 200), (0, 0, 99929)])]) (ss := []) (K := 3) (fuel := 4000) wd_fl2_ok rfl (List.forall_mem_cons.mpr ⟨kh_cJ0_ok, (List.forall_mem_cons.mpr ⟨kh_cJ2_ok, (List.forall_mem_cons.mpr ⟨kh_cJ4_ok, (List.forall_mem_nil _)⟩)⟩)⟩) (by decide +kernel)
/- UtilityWorksModel bNotices -/
def kh_817 : ct_T := (515, [(2, 805, 805, 0), (0, 0, 6, 1)], [], [510, 513], [(0, (0, 0, 0, 0), [(2, 805, 805, 0), (0, 0, 6, 1)], [], ([510, 513], []))], [((806, 806), (2440, 4047, 1))], 3, 67, 0)
theorem kh_817_ok : ct_ok wd_fl2 kh_817 := ct_of (ff := wd_ff2) (y := (⟨"UtilityWorksModel", "bNotices", "(I)V"⟩, prog_14_method_249_code, 2, none, 12, 1, 1, 35115, 35114, 14005, 21014)) (Cs := [kh_810, kh_rankOf, kh_511, kh_811, kh_cMay, kh_cAddb, kh_813, kh_815, kh_816]) (an := [(54, 0, ([((2, 805, 805, 0), none), ((0, 0, 6, 1), none)], [(0, 0), (1, 1)], [], [], [], [], [], [510, 513], none), [(0, 0, 99946)]), (98, 0, ([((2, 805, 805, 0), none), ((0, 0, 6, 1), none)], [(0, 0), (1, 1)], [], [], [], [], [], [510, 513], none), [(0, 0, 99902)])]) (ss := []) (K := 1) (fuel := 4000) wd_fl2_ok rfl (List.forall_mem_cons.mpr ⟨kh_810_ok, (List.forall_mem_cons.mpr ⟨kh_rankOf_l2, (List.forall_mem_cons.mpr ⟨kh_511_l2, (List.forall_mem_cons.mpr ⟨kh_811_ok, (List.forall_mem_cons.mpr ⟨kh_cMay_ok, (List.forall_mem_cons.mpr ⟨kh_cAddb_ok, (List.forall_mem_cons.mpr ⟨kh_813_ok, (List.forall_mem_cons.mpr ⟨kh_815_ok, (List.forall_mem_cons.mpr ⟨kh_816_ok, (List.forall_mem_nil _)⟩)⟩)⟩)⟩)⟩)⟩)⟩)⟩)⟩) (by decide +kernel)
/- UtilityWorksModel bC -/
def kh_818 : ct_T := (413, [(0, 0, 7, 1), (0, 1, 1, 0)], [], [], [(1, (0, 1821, 1961, 20), [(0, 0, 7, 1), (0, 1, 1, 0)], [], ([], []))], [], 0, 0, 0)
theorem kh_818_ok : ct_ok wd_fl2 kh_818 := ct_of (ff := wd_ff2) (y := (⟨"UtilityWorksModel", "bC", "(II)I"⟩, prog_14_method_227_code, 2, some .int, 12, 0, 2, 33186, 33185, 0, 21014)) (Cs := []) (an := []) (ss := []) (K := 1) (fuel := 4000) wd_fl2_ok rfl (List.forall_mem_nil _) (by decide +kernel)
/- UtilityWorksModel bC -/
def kh_819 : ct_T := (413, [(0, 0, 7, 1), (0, 2, 2, 0)], [], [], [(1, (0, 1822, 1962, 20), [(0, 0, 7, 1), (0, 2, 2, 0)], [], ([], []))], [], 0, 0, 0)
theorem kh_819_ok : ct_ok wd_fl2 kh_819 := ct_of (ff := wd_ff2) (y := (⟨"UtilityWorksModel", "bC", "(II)I"⟩, prog_14_method_227_code, 2, some .int, 12, 0, 2, 33186, 33185, 0, 21014)) (Cs := []) (an := []) (ss := []) (K := 1) (fuel := 4000) wd_fl2_ok rfl (List.forall_mem_nil _) (by decide +kernel)
/- UtilityWorksModel bDue -/
def kh_820 : ct_T := (504, [(2, 805, 805, 0), (0, 0, 7, 1), (0, 0, 214748364, 1)], [], [], [(1, (1, (-9223372036854775808), 9223372036854775807, 1), [(2, 805, 805, 0), (0, 0, 7, 1), (0, 0, 214748364, 1)], [], ([], []))], [], 0, 0, 0)
theorem kh_820_ok : ct_ok wd_fl2 kh_820 := ct_of (ff := wd_ff2) (y := (⟨"UtilityWorksModel", "bDue", "(II)J"⟩, prog_14_method_242_code, 3, some .long, 12, 1, 2, 35069, 35068, 13011, 21014)) (Cs := []) (an := []) (ss := []) (K := 1) (fuel := 4000) wd_fl2_ok rfl (List.forall_mem_nil _) (by decide +kernel)
/- UtilityWorksModel bC -/
def kh_821 : ct_T := (413, [(0, 0, 7, 1), (0, 3, 3, 0)], [], [], [(1, (0, 1823, 1963, 20), [(0, 0, 7, 1), (0, 3, 3, 0)], [], ([], []))], [], 0, 0, 0)
theorem kh_821_ok : ct_ok wd_fl2 kh_821 := ct_of (ff := wd_ff2) (y := (⟨"UtilityWorksModel", "bC", "(II)I"⟩, prog_14_method_227_code, 2, some .int, 12, 0, 2, 33186, 33185, 0, 21014)) (Cs := []) (an := []) (ss := []) (K := 1) (fuel := 4000) wd_fl2_ok rfl (List.forall_mem_nil _) (by decide +kernel)
/- UtilityWorksModel bEndPlan -/
def kh_822 : ct_T := (505, [(2, 805, 805, 0), (0, 0, 7, 1)], [], [], [(0, (0, 0, 0, 0), [(2, 805, 805, 0), (0, 0, 7, 1)], [], ([], []))], [((806, 806), (1821, 1961, 20)), ((806, 806), (1822, 1962, 20)), ((807, 807), (2830, 2837, 1)), ((807, 807), (2840, 2847, 1)), ((807, 807), (2850, 2857, 1))], 1, 21, 0)
theorem kh_822_ok : ct_ok wd_fl2 kh_822 := ct_of (ff := wd_ff2) (y := (⟨"UtilityWorksModel", "bEndPlan", "(I)V"⟩, prog_14_method_241_code, 2, none, 12, 1, 1, 35073, 35072, 13012, 21014)) (Cs := [kh_818, kh_819]) (an := []) (ss := []) (K := 1) (fuel := 4000) wd_fl2_ok rfl (List.forall_mem_cons.mpr ⟨kh_818_ok, (List.forall_mem_cons.mpr ⟨kh_819_ok, (List.forall_mem_nil _)⟩)⟩) (by decide +kernel)
/- UtilityWorksModel bPlanDay -/
def kh_823 : ct_T := (503, [(2, 805, 805, 0), (0, 0, 7, 1)], [], [], [(0, (0, 0, 0, 0), [(2, 805, 805, 0), (0, 0, 7, 1)], [], ([], []))], [((806, 806), (1821, 1961, 20)), ((806, 806), (1822, 1962, 20)), ((806, 806), (1823, 1963, 20)), ((807, 807), (2830, 2837, 1)), ((807, 807), (2840, 2847, 1)), ((807, 807), (2850, 2857, 1))], 2, 42, 0)
theorem kh_823_ok : ct_ok wd_fl2 kh_823 := ct_of (ff := wd_ff2) (y := (⟨"UtilityWorksModel", "bPlanDay", "(I)V"⟩, prog_14_method_243_code, 4, none, 12, 1, 1, 35065, 35064, 13010, 21014)) (Cs := [kh_818, kh_day, kh_819, kh_820, kh_821, kh_822]) (an := [(92, 0, ([((2, 805, 805, 0), none), ((0, 0, 7, 1), none), ((0, 0, 6, 1), none), ((0, (-2147483648), 2147483647, 1), none)], [(0, 0), (1, 1), (2, 2), (3, 3)], [], [], [], [], [], [], none), [(0, 0, 99908)])]) (ss := []) (K := 1) (fuel := 4000) wd_fl2_ok rfl (List.forall_mem_cons.mpr ⟨kh_818_ok, (List.forall_mem_cons.mpr ⟨kh_day_ok, (List.forall_mem_cons.mpr ⟨kh_819_ok, (List.forall_mem_cons.mpr ⟨kh_820_ok, (List.forall_mem_cons.mpr ⟨kh_821_ok, (List.forall_mem_cons.mpr ⟨kh_822_ok, (List.forall_mem_nil _)⟩)⟩)⟩)⟩)⟩)⟩) (by decide +kernel)
/- UtilityWorksModel bB -/
def kh_824 : ct_T := (507, [(0, 0, 7, 1), (0, 0, 32, 1), (0, 7, 7, 0)], [], [], [(1, (0, 107, 2267, 8), [(0, 0, 7, 1), (0, 0, 32, 1), (0, 7, 7, 0)], [], ([], []))], [], 0, 0, 0)
theorem kh_824_ok : ct_ok wd_fl2 kh_824 := ct_of (ff := wd_ff2) (y := (⟨"UtilityWorksModel", "bB", "(III)I"⟩, prog_14_method_228_code, 3, some .int, 12, 0, 3, 35080, 35079, 0, 21014)) (Cs := []) (an := []) (ss := []) (K := 1) (fuel := 4000) wd_fl2_ok rfl (List.forall_mem_nil _) (by decide +kernel)
/- UtilityWorksModel bInterest -/
def kh_825 : ct_T := (506, [(2, 805, 805, 0), (0, 0, 7, 1)], [], [], [(0, (0, 0, 0, 0), [(2, 805, 805, 0), (0, 0, 7, 1)], [], ([], []))], [((807, 807), (107, 2267, 8)), ((807, 807), (2862, 2862, 0))], 1, 22, 0)
theorem kh_825_ok : ct_ok wd_fl2 kh_825 := ct_of (ff := wd_ff2) (y := (⟨"UtilityWorksModel", "bInterest", "(I)V"⟩, prog_14_method_244_code, 5, none, 12, 1, 1, 35077, 35076, 13013, 21014)) (Cs := [kh_bC0, kh_824]) (an := [(2, 0, ([((2, 805, 805, 0), none), ((0, 0, 7, 1), none), ((0, 0, 33, 1), none)], [(0, 0), (1, 1), (2, 2)], [], [], [], [], [], [], none), [(0, 0, 99998), (1, 2, 33), (0, 0, 99998)])]) (ss := []) (K := 3) (fuel := 4000) wd_fl2_ok rfl (List.forall_mem_cons.mpr ⟨kh_bC0_ok, (List.forall_mem_cons.mpr ⟨kh_824_ok, (List.forall_mem_nil _)⟩)⟩) (by decide +kernel)
/- UtilityWorksModel bB -/
def kh_826 : ct_T := (507, [(0, 0, 7, 1), (0, 0, 32, 1), (0, 0, 0, 0)], [], [], [(1, (0, 100, 2260, 8), [(0, 0, 7, 1), (0, 0, 32, 1), (0, 0, 0, 0)], [], ([], []))], [], 0, 0, 0)
theorem kh_826_ok : ct_ok wd_fl2 kh_826 := ct_of (ff := wd_ff2) (y := (⟨"UtilityWorksModel", "bB", "(III)I"⟩, prog_14_method_228_code, 3, some .int, 12, 0, 3, 35080, 35079, 0, 21014)) (Cs := []) (an := []) (ss := []) (K := 1) (fuel := 4000) wd_fl2_ok rfl (List.forall_mem_nil _) (by decide +kernel)
/- UtilityWorksModel bNotice -/
def kh_827 : ct_T := (516, [(2, 805, 805, 0), (0, 0, 7, 1)], [], [], [(1, (0, 0, 0, 0), [(2, 805, 805, 0), (0, 0, 7, 1)], [], ([], [])), (1, (0, 1, 1, 0), [(2, 805, 805, 0), (0, 0, 7, 1)], [], ([], [])), (1, (0, 2, 3, 1), [(2, 805, 805, 0), (0, 0, 7, 1)], [], ([], []))], [], 1, 22, 0)
theorem kh_827_ok : ct_ok wd_fl2 kh_827 := ct_of (ff := wd_ff2) (y := (⟨"UtilityWorksModel", "bNotice", "(I)I"⟩, prog_14_method_248_code, 5, some .int, 12, 1, 1, 35119, 35118, 14006, 21014)) (Cs := [kh_bC0, kh_818, kh_day, kh_826, kh_824]) (an := [(15, 0, ([((2, 805, 805, 0), none), ((0, 0, 7, 1), none), ((0, (-1), 32, 1), none), ((0, (-1), 32, 1), none)], [(0, 0), (1, 1), (2, 2), (3, 3)], [], [], [], [], [], [], none), [(0, 0, 99985), (2, 3, (-1)), (0, 0, 99985)]), (66, 0, ([((2, 805, 805, 0), none), ((0, 0, 7, 1), none), ((0, (-1), 32, 1), none), ((0, (-1), (-1), 1), none)], [(0, 0), (1, 1), (2, 2), (3, 3)], [], [], [], [], [], [], none), [(0, 0, 99934), (0, 0, 0), (0, 0, 0)])]) (ss := []) (K := 3) (fuel := 4000) wd_fl2_ok rfl (List.forall_mem_cons.mpr ⟨kh_bC0_ok, (List.forall_mem_cons.mpr ⟨kh_818_ok, (List.forall_mem_cons.mpr ⟨kh_day_ok, (List.forall_mem_cons.mpr ⟨kh_826_ok, (List.forall_mem_cons.mpr ⟨kh_824_ok, (List.forall_mem_nil _)⟩)⟩)⟩)⟩)⟩) (by decide +kernel)
/- UtilityWorksModel cHas -/
def kh_828 : ct_T := (517, [(2, 805, 805, 0), (0, 5, 5, 0), (0, 0, 7, 1)], [], [], [(1, (0, 0, 1, 1), [(2, 805, 805, 0), (0, 5, 5, 0), (0, 0, 7, 1)], [], ([], []))], [], 1, 21, 0)
theorem kh_828_ok : ct_ok wd_fl2 kh_828 := ct_of (ff := wd_ff2) (y := (⟨"UtilityWorksModel", "cHas", "(II)Z"⟩, prog_14_method_276_code, 5, some .boolean, 12, 1, 2, 35126, 35125, 14007, 21014)) (Cs := [kh_cJ0, kh_cJ2, kh_cJ4]) (an := [(5, 0, ([((2, 805, 805, 0), none), ((0, 5, 5, 0), none), ((0, 0, 7, 1), none), ((0, 0, 1, 1), none), ((0, 0, 200, 1), none)], [(0, 0), (1, 1), (2, 2), (3, 3), (4, 4)], [], [], [], [], [], [], none), [(0, 0, 99995), (1, 4, 200), (0, 0, 99995)]), (67, 0, ([((2, 805, 805, 0), none), ((0, 5, 5, 0), none), ((0, 0, 7, 1), none), ((0, 0, 1, 1), none), ((0, 0, 199, 1), none)], [(0, 0), (1, 1), (2, 2), (3, 3), (4, 4)], [], [], [], [], [((806, 806), (2440, 2440, 0), (0, 1, 200, 1))], [], none), [(0, 0, 99995), (1, 4, 200), (0, 0, 99933)]), (71, 0, ([((2, 805, 805, 0), none), ((0, 5, 5, 0), none), ((0, 0, 7, 1), none), ((0, 0, 0, 0), none), ((0, 0, 199, 1), none)], [(0, 0), (1, 1), (2, 2), (3, 3), (4, 4)], [], [], [], [], [((806, 806), (2440, 2440, 0), (0, 1, 200, 1))], [], none), [(0, 0, 99995), (1, 4, 200), (0, 0, 99929)])]) (ss := []) (K := 3) (fuel := 4000) wd_fl2_ok rfl (List.forall_mem_cons.mpr ⟨kh_cJ0_ok, (List.forall_mem_cons.mpr ⟨kh_cJ2_ok, (List.forall_mem_cons.mpr ⟨kh_cJ4_ok, (List.forall_mem_nil _)⟩)⟩)⟩) (by decide +kernel)
/- UtilityWorksModel bC -/
def kh_829 : ct_T := (413, [(0, 0, 7, 1), (0, 5, 5, 0)], [], [], [(1, (0, 1825, 1965, 20), [(0, 0, 7, 1), (0, 5, 5, 0)], [], ([], []))], [], 0, 0, 0)
theorem kh_829_ok : ct_ok wd_fl2 kh_829 := ct_of (ff := wd_ff2) (y := (⟨"UtilityWorksModel", "bC", "(II)I"⟩, prog_14_method_227_code, 2, some .int, 12, 0, 2, 33186, 33185, 0, 21014)) (Cs := []) (an := []) (ss := []) (K := 1) (fuel := 4000) wd_fl2_ok rfl (List.forall_mem_nil _) (by decide +kernel)
/- UtilityWorksModel bCutFrom -/
def kh_830 : ct_T := (412, [(2, 805, 805, 0), (0, 0, 7, 1)], [], [], [(1, (0, (-2147483648), 2147483647, 1), [(2, 805, 805, 0), (0, 0, 7, 1)], [], ([], []))], [], 1, 21, 0)
theorem kh_830_ok : ct_ok wd_fl2 kh_830 := ct_of (ff := wd_ff2) (y := (⟨"UtilityWorksModel", "bCutFrom", "(I)I"⟩, prog_14_method_235_code, 2, some .int, 12, 1, 1, 33183, 33182, 8001, 21014)) (Cs := [kh_829]) (an := []) (ss := []) (K := 1) (fuel := 4000) wd_fl2_ok rfl (List.forall_mem_cons.mpr ⟨kh_829_ok, (List.forall_mem_nil _)⟩) (by decide +kernel)
/- UtilityWorksModel bOpen -/
def kh_831 : ct_T := (522, [(2, 805, 805, 0), (0, 0, 7, 1)], [], [], [(1, (1, (-9223372036854775808), 9223372036854775807, 1), [(2, 805, 805, 0), (0, 0, 7, 1)], [], ([], []))], [], 1, 22, 0)
theorem kh_831_ok : ct_ok wd_fl2 kh_831 := ct_of (ff := wd_ff2) (y := (⟨"UtilityWorksModel", "bOpen", "(I)J"⟩, prog_14_method_238_code, 5, some .long, 12, 1, 1, 35146, 35145, 14012, 21014)) (Cs := [kh_bC0, kh_824]) (an := [(5, 0, ([((2, 805, 805, 0), none), ((0, 0, 7, 1), none), ((1, (-9223372036854775808), 9223372036854775807, 1), none), ((0, 0, 33, 1), none)], [(0, 0), (1, 1), (2, 2), (4, 3)], [], [], [], [], [], [], none), [(0, 0, 99995), (1, 3, 33), (0, 0, 99995)])]) (ss := []) (K := 3) (fuel := 4000) wd_fl2_ok rfl (List.forall_mem_cons.mpr ⟨kh_bC0_ok, (List.forall_mem_cons.mpr ⟨kh_824_ok, (List.forall_mem_nil _)⟩)⟩) (by decide +kernel)
/- UtilityWorksModel bOwes -/
def kh_832 : ct_T := (521, [(2, 805, 805, 0), (0, 0, 7, 1)], [], [], [(1, (1, (-9223372036854775808), 9223372036854775807, 1), [(2, 805, 805, 0), (0, 0, 7, 1)], [], ([], []))], [], 2, 46, 0)
theorem kh_832_ok : ct_ok wd_fl2 kh_832 := ct_of (ff := wd_ff2) (y := (⟨"UtilityWorksModel", "bOwes", "(I)J"⟩, prog_14_method_239_code, 2, some .long, 12, 1, 1, 35142, 35141, 14011, 21014)) (Cs := [kh_831]) (an := []) (ss := []) (K := 1) (fuel := 4000) wd_fl2_ok rfl (List.forall_mem_cons.mpr ⟨kh_831_ok, (List.forall_mem_nil _)⟩) (by decide +kernel)
/- UtilityWorksModel cHas -/
def kh_833 : ct_T := (517, [(2, 805, 805, 0), (0, 6, 6, 0), (0, 0, 7, 1)], [], [], [(1, (0, 0, 1, 1), [(2, 805, 805, 0), (0, 6, 6, 0), (0, 0, 7, 1)], [], ([], []))], [], 1, 21, 0)
theorem kh_833_ok : ct_ok wd_fl2 kh_833 := ct_of (ff := wd_ff2) (y := (⟨"UtilityWorksModel", "cHas", "(II)Z"⟩, prog_14_method_276_code, 5, some .boolean, 12, 1, 2, 35126, 35125, 14007, 21014)) (Cs := [kh_cJ0, kh_cJ2, kh_cJ4]) (an := [(5, 0, ([((2, 805, 805, 0), none), ((0, 6, 6, 0), none), ((0, 0, 7, 1), none), ((0, 0, 1, 1), none), ((0, 0, 200, 1), none)], [(0, 0), (1, 1), (2, 2), (3, 3), (4, 4)], [], [], [], [], [], [], none), [(0, 0, 99995), (1, 4, 200), (0, 0, 99995)]), (67, 0, ([((2, 805, 805, 0), none), ((0, 6, 6, 0), none), ((0, 0, 7, 1), none), ((0, 0, 1, 1), none), ((0, 0, 199, 1), none)], [(0, 0), (1, 1), (2, 2), (3, 3), (4, 4)], [], [], [], [], [((806, 806), (2440, 2440, 0), (0, 1, 200, 1))], [], none), [(0, 0, 99995), (1, 4, 200), (0, 0, 99933)]), (71, 0, ([((2, 805, 805, 0), none), ((0, 6, 6, 0), none), ((0, 0, 7, 1), none), ((0, 0, 0, 0), none), ((0, 0, 199, 1), none)], [(0, 0), (1, 1), (2, 2), (3, 3), (4, 4)], [], [], [], [], [((806, 806), (2440, 2440, 0), (0, 1, 200, 1))], [], none), [(0, 0, 99995), (1, 4, 200), (0, 0, 99929)])]) (ss := []) (K := 3) (fuel := 4000) wd_fl2_ok rfl (List.forall_mem_cons.mpr ⟨kh_cJ0_ok, (List.forall_mem_cons.mpr ⟨kh_cJ2_ok, (List.forall_mem_cons.mpr ⟨kh_cJ4_ok, (List.forall_mem_nil _)⟩)⟩)⟩) (by decide +kernel)
/- UtilityWorksModel bNotices -/
def kh_834 : ct_T := (515, [(2, 805, 805, 0), (0, 0, 7, 1)], [], [510, 513], [(0, (0, 0, 0, 0), [(2, 805, 805, 0), (0, 0, 7, 1)], [], ([510, 513], []))], [((806, 806), (2440, 4047, 1))], 3, 67, 0)
theorem kh_834_ok : ct_ok wd_fl2 kh_834 := ct_of (ff := wd_ff2) (y := (⟨"UtilityWorksModel", "bNotices", "(I)V"⟩, prog_14_method_249_code, 2, none, 12, 1, 1, 35115, 35114, 14005, 21014)) (Cs := [kh_827, kh_rankOf, kh_518, kh_828, kh_cMay, kh_cAddb, kh_830, kh_832, kh_833]) (an := [(54, 0, ([((2, 805, 805, 0), none), ((0, 0, 7, 1), none)], [(0, 0), (1, 1)], [], [], [], [], [], [510, 513], none), [(0, 0, 99946)]), (98, 0, ([((2, 805, 805, 0), none), ((0, 0, 7, 1), none)], [(0, 0), (1, 1)], [], [], [], [], [], [510, 513], none), [(0, 0, 99902)])]) (ss := []) (K := 1) (fuel := 4000) wd_fl2_ok rfl (List.forall_mem_cons.mpr ⟨kh_827_ok, (List.forall_mem_cons.mpr ⟨kh_rankOf_l2, (List.forall_mem_cons.mpr ⟨kh_518_l2, (List.forall_mem_cons.mpr ⟨kh_828_ok, (List.forall_mem_cons.mpr ⟨kh_cMay_ok, (List.forall_mem_cons.mpr ⟨kh_cAddb_ok, (List.forall_mem_cons.mpr ⟨kh_830_ok, (List.forall_mem_cons.mpr ⟨kh_832_ok, (List.forall_mem_cons.mpr ⟨kh_833_ok, (List.forall_mem_nil _)⟩)⟩)⟩)⟩)⟩)⟩)⟩)⟩)⟩) (by decide +kernel)
/- UtilityWorksModel bC -/
def kh_835 : ct_T := (413, [(0, 0, 8, 1), (0, 1, 1, 0)], [], [], [(1, (0, 1821, 1981, 20), [(0, 0, 8, 1), (0, 1, 1, 0)], [], ([], []))], [], 0, 0, 0)
theorem kh_835_ok : ct_ok wd_fl2 kh_835 := ct_of (ff := wd_ff2) (y := (⟨"UtilityWorksModel", "bC", "(II)I"⟩, prog_14_method_227_code, 2, some .int, 12, 0, 2, 33186, 33185, 0, 21014)) (Cs := []) (an := []) (ss := []) (K := 1) (fuel := 4000) wd_fl2_ok rfl (List.forall_mem_nil _) (by decide +kernel)
/- UtilityWorksModel bC -/
def kh_836 : ct_T := (413, [(0, 0, 8, 1), (0, 2, 2, 0)], [], [], [(1, (0, 1822, 1982, 20), [(0, 0, 8, 1), (0, 2, 2, 0)], [], ([], []))], [], 0, 0, 0)
theorem kh_836_ok : ct_ok wd_fl2 kh_836 := ct_of (ff := wd_ff2) (y := (⟨"UtilityWorksModel", "bC", "(II)I"⟩, prog_14_method_227_code, 2, some .int, 12, 0, 2, 33186, 33185, 0, 21014)) (Cs := []) (an := []) (ss := []) (K := 1) (fuel := 4000) wd_fl2_ok rfl (List.forall_mem_nil _) (by decide +kernel)
/- UtilityWorksModel bDue -/
def kh_837 : ct_T := (504, [(2, 805, 805, 0), (0, 0, 8, 1), (0, 0, 214748364, 1)], [], [], [(1, (1, (-9223372036854775808), 9223372036854775807, 1), [(2, 805, 805, 0), (0, 0, 8, 1), (0, 0, 214748364, 1)], [], ([], []))], [], 0, 0, 0)
theorem kh_837_ok : ct_ok wd_fl2 kh_837 := ct_of (ff := wd_ff2) (y := (⟨"UtilityWorksModel", "bDue", "(II)J"⟩, prog_14_method_242_code, 3, some .long, 12, 1, 2, 35069, 35068, 13011, 21014)) (Cs := []) (an := []) (ss := []) (K := 1) (fuel := 4000) wd_fl2_ok rfl (List.forall_mem_nil _) (by decide +kernel)
/- UtilityWorksModel bC -/
def kh_838 : ct_T := (413, [(0, 0, 8, 1), (0, 3, 3, 0)], [], [], [(1, (0, 1823, 1983, 20), [(0, 0, 8, 1), (0, 3, 3, 0)], [], ([], []))], [], 0, 0, 0)
theorem kh_838_ok : ct_ok wd_fl2 kh_838 := ct_of (ff := wd_ff2) (y := (⟨"UtilityWorksModel", "bC", "(II)I"⟩, prog_14_method_227_code, 2, some .int, 12, 0, 2, 33186, 33185, 0, 21014)) (Cs := []) (an := []) (ss := []) (K := 1) (fuel := 4000) wd_fl2_ok rfl (List.forall_mem_nil _) (by decide +kernel)
/- UtilityWorksModel bEndPlan -/
def kh_839 : ct_T := (505, [(2, 805, 805, 0), (0, 0, 8, 1)], [], [], [(0, (0, 0, 0, 0), [(2, 805, 805, 0), (0, 0, 8, 1)], [], ([], []))], [((806, 806), (1821, 1981, 20)), ((806, 806), (1822, 1982, 20)), ((807, 807), (2830, 2838, 1)), ((807, 807), (2840, 2848, 1)), ((807, 807), (2850, 2858, 1))], 1, 21, 0)
theorem kh_839_ok : ct_ok wd_fl2 kh_839 := ct_of (ff := wd_ff2) (y := (⟨"UtilityWorksModel", "bEndPlan", "(I)V"⟩, prog_14_method_241_code, 2, none, 12, 1, 1, 35073, 35072, 13012, 21014)) (Cs := [kh_835, kh_836]) (an := []) (ss := []) (K := 1) (fuel := 4000) wd_fl2_ok rfl (List.forall_mem_cons.mpr ⟨kh_835_ok, (List.forall_mem_cons.mpr ⟨kh_836_ok, (List.forall_mem_nil _)⟩)⟩) (by decide +kernel)
/- UtilityWorksModel bPlanDay -/
def kh_840 : ct_T := (503, [(2, 805, 805, 0), (0, 0, 8, 1)], [], [], [(0, (0, 0, 0, 0), [(2, 805, 805, 0), (0, 0, 8, 1)], [], ([], []))], [((806, 806), (1821, 1981, 20)), ((806, 806), (1822, 1982, 20)), ((806, 806), (1823, 1983, 20)), ((807, 807), (2830, 2838, 1)), ((807, 807), (2840, 2848, 1)), ((807, 807), (2850, 2858, 1))], 2, 42, 0)
theorem kh_840_ok : ct_ok wd_fl2 kh_840 := ct_of (ff := wd_ff2) (y := (⟨"UtilityWorksModel", "bPlanDay", "(I)V"⟩, prog_14_method_243_code, 4, none, 12, 1, 1, 35065, 35064, 13010, 21014)) (Cs := [kh_835, kh_day, kh_836, kh_837, kh_838, kh_839]) (an := [(92, 0, ([((2, 805, 805, 0), none), ((0, 0, 8, 1), none), ((0, 0, 6, 1), none), ((0, (-2147483648), 2147483647, 1), none)], [(0, 0), (1, 1), (2, 2), (3, 3)], [], [], [], [], [], [], none), [(0, 0, 99908)])]) (ss := []) (K := 1) (fuel := 4000) wd_fl2_ok rfl (List.forall_mem_cons.mpr ⟨kh_835_ok, (List.forall_mem_cons.mpr ⟨kh_day_ok, (List.forall_mem_cons.mpr ⟨kh_836_ok, (List.forall_mem_cons.mpr ⟨kh_837_ok, (List.forall_mem_cons.mpr ⟨kh_838_ok, (List.forall_mem_cons.mpr ⟨kh_839_ok, (List.forall_mem_nil _)⟩)⟩)⟩)⟩)⟩)⟩) (by decide +kernel)
/- UtilityWorksModel bB -/
def kh_841 : ct_T := (507, [(0, 0, 8, 1), (0, 0, 32, 1), (0, 7, 7, 0)], [], [], [(1, (0, 107, 2539, 8), [(0, 0, 8, 1), (0, 0, 32, 1), (0, 7, 7, 0)], [], ([], []))], [], 0, 0, 0)
theorem kh_841_ok : ct_ok wd_fl2 kh_841 := ct_of (ff := wd_ff2) (y := (⟨"UtilityWorksModel", "bB", "(III)I"⟩, prog_14_method_228_code, 3, some .int, 12, 0, 3, 35080, 35079, 0, 21014)) (Cs := []) (an := []) (ss := []) (K := 1) (fuel := 4000) wd_fl2_ok rfl (List.forall_mem_nil _) (by decide +kernel)
/- UtilityWorksModel bInterest -/
def kh_842 : ct_T := (506, [(2, 805, 805, 0), (0, 0, 8, 1)], [], [], [(0, (0, 0, 0, 0), [(2, 805, 805, 0), (0, 0, 8, 1)], [], ([], []))], [((807, 807), (107, 2539, 8)), ((807, 807), (2862, 2862, 0))], 1, 22, 0)
theorem kh_842_ok : ct_ok wd_fl2 kh_842 := ct_of (ff := wd_ff2) (y := (⟨"UtilityWorksModel", "bInterest", "(I)V"⟩, prog_14_method_244_code, 5, none, 12, 1, 1, 35077, 35076, 13013, 21014)) (Cs := [kh_bC0, kh_841]) (an := [(2, 0, ([((2, 805, 805, 0), none), ((0, 0, 8, 1), none), ((0, 0, 33, 1), none)], [(0, 0), (1, 1), (2, 2)], [], [], [], [], [], [], none), [(0, 0, 99998), (1, 2, 33), (0, 0, 99998)])]) (ss := []) (K := 3) (fuel := 4000) wd_fl2_ok rfl (List.forall_mem_cons.mpr ⟨kh_bC0_ok, (List.forall_mem_cons.mpr ⟨kh_841_ok, (List.forall_mem_nil _)⟩)⟩) (by decide +kernel)
/- UtilityWorksModel bB -/
def kh_843 : ct_T := (507, [(0, 0, 8, 1), (0, 0, 32, 1), (0, 0, 0, 0)], [], [], [(1, (0, 100, 2532, 8), [(0, 0, 8, 1), (0, 0, 32, 1), (0, 0, 0, 0)], [], ([], []))], [], 0, 0, 0)
theorem kh_843_ok : ct_ok wd_fl2 kh_843 := ct_of (ff := wd_ff2) (y := (⟨"UtilityWorksModel", "bB", "(III)I"⟩, prog_14_method_228_code, 3, some .int, 12, 0, 3, 35080, 35079, 0, 21014)) (Cs := []) (an := []) (ss := []) (K := 1) (fuel := 4000) wd_fl2_ok rfl (List.forall_mem_nil _) (by decide +kernel)
/- UtilityWorksModel bNotice -/
def kh_844 : ct_T := (516, [(2, 805, 805, 0), (0, 0, 8, 1)], [], [], [(1, (0, 0, 0, 0), [(2, 805, 805, 0), (0, 0, 8, 1)], [], ([], [])), (1, (0, 1, 1, 0), [(2, 805, 805, 0), (0, 0, 8, 1)], [], ([], [])), (1, (0, 2, 3, 1), [(2, 805, 805, 0), (0, 0, 8, 1)], [], ([], []))], [], 1, 22, 0)
theorem kh_844_ok : ct_ok wd_fl2 kh_844 := ct_of (ff := wd_ff2) (y := (⟨"UtilityWorksModel", "bNotice", "(I)I"⟩, prog_14_method_248_code, 5, some .int, 12, 1, 1, 35119, 35118, 14006, 21014)) (Cs := [kh_bC0, kh_835, kh_day, kh_843, kh_841]) (an := [(15, 0, ([((2, 805, 805, 0), none), ((0, 0, 8, 1), none), ((0, (-1), 32, 1), none), ((0, (-1), 32, 1), none)], [(0, 0), (1, 1), (2, 2), (3, 3)], [], [], [], [], [], [], none), [(0, 0, 99985), (2, 3, (-1)), (0, 0, 99985)]), (66, 0, ([((2, 805, 805, 0), none), ((0, 0, 8, 1), none), ((0, (-1), 32, 1), none), ((0, (-1), (-1), 1), none)], [(0, 0), (1, 1), (2, 2), (3, 3)], [], [], [], [], [], [], none), [(0, 0, 99934), (0, 0, 0), (0, 0, 0)])]) (ss := []) (K := 3) (fuel := 4000) wd_fl2_ok rfl (List.forall_mem_cons.mpr ⟨kh_bC0_ok, (List.forall_mem_cons.mpr ⟨kh_835_ok, (List.forall_mem_cons.mpr ⟨kh_day_ok, (List.forall_mem_cons.mpr ⟨kh_843_ok, (List.forall_mem_cons.mpr ⟨kh_841_ok, (List.forall_mem_nil _)⟩)⟩)⟩)⟩)⟩) (by decide +kernel)
/- UtilityWorksModel cHas -/
def kh_845 : ct_T := (517, [(2, 805, 805, 0), (0, 5, 5, 0), (0, 0, 8, 1)], [], [], [(1, (0, 0, 1, 1), [(2, 805, 805, 0), (0, 5, 5, 0), (0, 0, 8, 1)], [], ([], []))], [], 1, 21, 0)
theorem kh_845_ok : ct_ok wd_fl2 kh_845 := ct_of (ff := wd_ff2) (y := (⟨"UtilityWorksModel", "cHas", "(II)Z"⟩, prog_14_method_276_code, 5, some .boolean, 12, 1, 2, 35126, 35125, 14007, 21014)) (Cs := [kh_cJ0, kh_cJ2, kh_cJ4]) (an := [(5, 0, ([((2, 805, 805, 0), none), ((0, 5, 5, 0), none), ((0, 0, 8, 1), none), ((0, 0, 1, 1), none), ((0, 0, 200, 1), none)], [(0, 0), (1, 1), (2, 2), (3, 3), (4, 4)], [], [], [], [], [], [], none), [(0, 0, 99995), (1, 4, 200), (0, 0, 99995)]), (67, 0, ([((2, 805, 805, 0), none), ((0, 5, 5, 0), none), ((0, 0, 8, 1), none), ((0, 0, 1, 1), none), ((0, 0, 199, 1), none)], [(0, 0), (1, 1), (2, 2), (3, 3), (4, 4)], [], [], [], [], [((806, 806), (2440, 2440, 0), (0, 1, 200, 1))], [], none), [(0, 0, 99995), (1, 4, 200), (0, 0, 99933)]), (71, 0, ([((2, 805, 805, 0), none), ((0, 5, 5, 0), none), ((0, 0, 8, 1), none), ((0, 0, 0, 0), none), ((0, 0, 199, 1), none)], [(0, 0), (1, 1), (2, 2), (3, 3), (4, 4)], [], [], [], [], [((806, 806), (2440, 2440, 0), (0, 1, 200, 1))], [], none), [(0, 0, 99995), (1, 4, 200), (0, 0, 99929)])]) (ss := []) (K := 3) (fuel := 4000) wd_fl2_ok rfl (List.forall_mem_cons.mpr ⟨kh_cJ0_ok, (List.forall_mem_cons.mpr ⟨kh_cJ2_ok, (List.forall_mem_cons.mpr ⟨kh_cJ4_ok, (List.forall_mem_nil _)⟩)⟩)⟩) (by decide +kernel)
/- UtilityWorksModel bC -/
def kh_846 : ct_T := (413, [(0, 0, 8, 1), (0, 5, 5, 0)], [], [], [(1, (0, 1825, 1985, 20), [(0, 0, 8, 1), (0, 5, 5, 0)], [], ([], []))], [], 0, 0, 0)
theorem kh_846_ok : ct_ok wd_fl2 kh_846 := ct_of (ff := wd_ff2) (y := (⟨"UtilityWorksModel", "bC", "(II)I"⟩, prog_14_method_227_code, 2, some .int, 12, 0, 2, 33186, 33185, 0, 21014)) (Cs := []) (an := []) (ss := []) (K := 1) (fuel := 4000) wd_fl2_ok rfl (List.forall_mem_nil _) (by decide +kernel)
/- UtilityWorksModel bCutFrom -/
def kh_847 : ct_T := (412, [(2, 805, 805, 0), (0, 0, 8, 1)], [], [], [(1, (0, (-2147483648), 2147483647, 1), [(2, 805, 805, 0), (0, 0, 8, 1)], [], ([], []))], [], 1, 21, 0)
theorem kh_847_ok : ct_ok wd_fl2 kh_847 := ct_of (ff := wd_ff2) (y := (⟨"UtilityWorksModel", "bCutFrom", "(I)I"⟩, prog_14_method_235_code, 2, some .int, 12, 1, 1, 33183, 33182, 8001, 21014)) (Cs := [kh_846]) (an := []) (ss := []) (K := 1) (fuel := 4000) wd_fl2_ok rfl (List.forall_mem_cons.mpr ⟨kh_846_ok, (List.forall_mem_nil _)⟩) (by decide +kernel)
/- UtilityWorksModel bOpen -/
def kh_848 : ct_T := (522, [(2, 805, 805, 0), (0, 0, 8, 1)], [], [], [(1, (1, (-9223372036854775808), 9223372036854775807, 1), [(2, 805, 805, 0), (0, 0, 8, 1)], [], ([], []))], [], 1, 22, 0)
theorem kh_848_ok : ct_ok wd_fl2 kh_848 := ct_of (ff := wd_ff2) (y := (⟨"UtilityWorksModel", "bOpen", "(I)J"⟩, prog_14_method_238_code, 5, some .long, 12, 1, 1, 35146, 35145, 14012, 21014)) (Cs := [kh_bC0, kh_841]) (an := [(5, 0, ([((2, 805, 805, 0), none), ((0, 0, 8, 1), none), ((1, (-9223372036854775808), 9223372036854775807, 1), none), ((0, 0, 33, 1), none)], [(0, 0), (1, 1), (2, 2), (4, 3)], [], [], [], [], [], [], none), [(0, 0, 99995), (1, 3, 33), (0, 0, 99995)])]) (ss := []) (K := 3) (fuel := 4000) wd_fl2_ok rfl (List.forall_mem_cons.mpr ⟨kh_bC0_ok, (List.forall_mem_cons.mpr ⟨kh_841_ok, (List.forall_mem_nil _)⟩)⟩) (by decide +kernel)
/- UtilityWorksModel bOwes -/
def kh_849 : ct_T := (521, [(2, 805, 805, 0), (0, 0, 8, 1)], [], [], [(1, (1, (-9223372036854775808), 9223372036854775807, 1), [(2, 805, 805, 0), (0, 0, 8, 1)], [], ([], []))], [], 2, 46, 0)
theorem kh_849_ok : ct_ok wd_fl2 kh_849 := ct_of (ff := wd_ff2) (y := (⟨"UtilityWorksModel", "bOwes", "(I)J"⟩, prog_14_method_239_code, 2, some .long, 12, 1, 1, 35142, 35141, 14011, 21014)) (Cs := [kh_848]) (an := []) (ss := []) (K := 1) (fuel := 4000) wd_fl2_ok rfl (List.forall_mem_cons.mpr ⟨kh_848_ok, (List.forall_mem_nil _)⟩) (by decide +kernel)
/- UtilityWorksModel cHas -/
def kh_850 : ct_T := (517, [(2, 805, 805, 0), (0, 6, 6, 0), (0, 0, 8, 1)], [], [], [(1, (0, 0, 1, 1), [(2, 805, 805, 0), (0, 6, 6, 0), (0, 0, 8, 1)], [], ([], []))], [], 1, 21, 0)
theorem kh_850_ok : ct_ok wd_fl2 kh_850 := ct_of (ff := wd_ff2) (y := (⟨"UtilityWorksModel", "cHas", "(II)Z"⟩, prog_14_method_276_code, 5, some .boolean, 12, 1, 2, 35126, 35125, 14007, 21014)) (Cs := [kh_cJ0, kh_cJ2, kh_cJ4]) (an := [(5, 0, ([((2, 805, 805, 0), none), ((0, 6, 6, 0), none), ((0, 0, 8, 1), none), ((0, 0, 1, 1), none), ((0, 0, 200, 1), none)], [(0, 0), (1, 1), (2, 2), (3, 3), (4, 4)], [], [], [], [], [], [], none), [(0, 0, 99995), (1, 4, 200), (0, 0, 99995)]), (67, 0, ([((2, 805, 805, 0), none), ((0, 6, 6, 0), none), ((0, 0, 8, 1), none), ((0, 0, 1, 1), none), ((0, 0, 199, 1), none)], [(0, 0), (1, 1), (2, 2), (3, 3), (4, 4)], [], [], [], [], [((806, 806), (2440, 2440, 0), (0, 1, 200, 1))], [], none), [(0, 0, 99995), (1, 4, 200), (0, 0, 99933)]), (71, 0, ([((2, 805, 805, 0), none), ((0, 6, 6, 0), none), ((0, 0, 8, 1), none), ((0, 0, 0, 0), none), ((0, 0, 199, 1), none)], [(0, 0), (1, 1), (2, 2), (3, 3), (4, 4)], [], [], [], [], [((806, 806), (2440, 2440, 0), (0, 1, 200, 1))], [], none), [(0, 0, 99995), (1, 4, 200), (0, 0, 99929)])]) (ss := []) (K := 3) (fuel := 4000) wd_fl2_ok rfl (List.forall_mem_cons.mpr ⟨kh_cJ0_ok, (List.forall_mem_cons.mpr ⟨kh_cJ2_ok, (List.forall_mem_cons.mpr ⟨kh_cJ4_ok, (List.forall_mem_nil _)⟩)⟩)⟩) (by decide +kernel)
/- UtilityWorksModel bNotices -/
def kh_851 : ct_T := (515, [(2, 805, 805, 0), (0, 0, 8, 1)], [], [510, 513], [(0, (0, 0, 0, 0), [(2, 805, 805, 0), (0, 0, 8, 1)], [], ([510, 513], []))], [((806, 806), (2440, 4047, 1))], 3, 67, 0)
theorem kh_851_ok : ct_ok wd_fl2 kh_851 := ct_of (ff := wd_ff2) (y := (⟨"UtilityWorksModel", "bNotices", "(I)V"⟩, prog_14_method_249_code, 2, none, 12, 1, 1, 35115, 35114, 14005, 21014)) (Cs := [kh_844, kh_rankOf, kh_525, kh_845, kh_cMay, kh_cAddb, kh_847, kh_849, kh_850]) (an := [(54, 0, ([((2, 805, 805, 0), none), ((0, 0, 8, 1), none)], [(0, 0), (1, 1)], [], [], [], [], [], [510, 513], none), [(0, 0, 99946)]), (98, 0, ([((2, 805, 805, 0), none), ((0, 0, 8, 1), none)], [(0, 0), (1, 1)], [], [], [], [], [], [510, 513], none), [(0, 0, 99902)])]) (ss := []) (K := 1) (fuel := 4000) wd_fl2_ok rfl (List.forall_mem_cons.mpr ⟨kh_844_ok, (List.forall_mem_cons.mpr ⟨kh_rankOf_l2, (List.forall_mem_cons.mpr ⟨kh_525_l2, (List.forall_mem_cons.mpr ⟨kh_845_ok, (List.forall_mem_cons.mpr ⟨kh_cMay_ok, (List.forall_mem_cons.mpr ⟨kh_cAddb_ok, (List.forall_mem_cons.mpr ⟨kh_847_ok, (List.forall_mem_cons.mpr ⟨kh_849_ok, (List.forall_mem_cons.mpr ⟨kh_850_ok, (List.forall_mem_nil _)⟩)⟩)⟩)⟩)⟩)⟩)⟩)⟩)⟩) (by decide +kernel)
/- UtilityWorksModel bC -/
def kh_852 : ct_T := (413, [(0, 0, 9, 1), (0, 1, 1, 0)], [], [], [(1, (0, 1821, 2001, 20), [(0, 0, 9, 1), (0, 1, 1, 0)], [], ([], []))], [], 0, 0, 0)
theorem kh_852_ok : ct_ok wd_fl2 kh_852 := ct_of (ff := wd_ff2) (y := (⟨"UtilityWorksModel", "bC", "(II)I"⟩, prog_14_method_227_code, 2, some .int, 12, 0, 2, 33186, 33185, 0, 21014)) (Cs := []) (an := []) (ss := []) (K := 1) (fuel := 4000) wd_fl2_ok rfl (List.forall_mem_nil _) (by decide +kernel)
/- UtilityWorksModel bC -/
def kh_853 : ct_T := (413, [(0, 0, 9, 1), (0, 2, 2, 0)], [], [], [(1, (0, 1822, 2002, 20), [(0, 0, 9, 1), (0, 2, 2, 0)], [], ([], []))], [], 0, 0, 0)
theorem kh_853_ok : ct_ok wd_fl2 kh_853 := ct_of (ff := wd_ff2) (y := (⟨"UtilityWorksModel", "bC", "(II)I"⟩, prog_14_method_227_code, 2, some .int, 12, 0, 2, 33186, 33185, 0, 21014)) (Cs := []) (an := []) (ss := []) (K := 1) (fuel := 4000) wd_fl2_ok rfl (List.forall_mem_nil _) (by decide +kernel)
/- UtilityWorksModel bDue -/
def kh_854 : ct_T := (504, [(2, 805, 805, 0), (0, 0, 9, 1), (0, 0, 214748364, 1)], [], [], [(1, (1, (-9223372036854775808), 9223372036854775807, 1), [(2, 805, 805, 0), (0, 0, 9, 1), (0, 0, 214748364, 1)], [], ([], []))], [], 0, 0, 0)
theorem kh_854_ok : ct_ok wd_fl2 kh_854 := ct_of (ff := wd_ff2) (y := (⟨"UtilityWorksModel", "bDue", "(II)J"⟩, prog_14_method_242_code, 3, some .long, 12, 1, 2, 35069, 35068, 13011, 21014)) (Cs := []) (an := []) (ss := []) (K := 1) (fuel := 4000) wd_fl2_ok rfl (List.forall_mem_nil _) (by decide +kernel)
/- UtilityWorksModel bC -/
def kh_855 : ct_T := (413, [(0, 0, 9, 1), (0, 3, 3, 0)], [], [], [(1, (0, 1823, 2003, 20), [(0, 0, 9, 1), (0, 3, 3, 0)], [], ([], []))], [], 0, 0, 0)
theorem kh_855_ok : ct_ok wd_fl2 kh_855 := ct_of (ff := wd_ff2) (y := (⟨"UtilityWorksModel", "bC", "(II)I"⟩, prog_14_method_227_code, 2, some .int, 12, 0, 2, 33186, 33185, 0, 21014)) (Cs := []) (an := []) (ss := []) (K := 1) (fuel := 4000) wd_fl2_ok rfl (List.forall_mem_nil _) (by decide +kernel)
/- UtilityWorksModel bEndPlan -/
def kh_856 : ct_T := (505, [(2, 805, 805, 0), (0, 0, 9, 1)], [], [], [(0, (0, 0, 0, 0), [(2, 805, 805, 0), (0, 0, 9, 1)], [], ([], []))], [((806, 806), (1821, 2001, 20)), ((806, 806), (1822, 2002, 20)), ((807, 807), (2830, 2839, 1)), ((807, 807), (2840, 2849, 1)), ((807, 807), (2850, 2859, 1))], 1, 21, 0)
theorem kh_856_ok : ct_ok wd_fl2 kh_856 := ct_of (ff := wd_ff2) (y := (⟨"UtilityWorksModel", "bEndPlan", "(I)V"⟩, prog_14_method_241_code, 2, none, 12, 1, 1, 35073, 35072, 13012, 21014)) (Cs := [kh_852, kh_853]) (an := []) (ss := []) (K := 1) (fuel := 4000) wd_fl2_ok rfl (List.forall_mem_cons.mpr ⟨kh_852_ok, (List.forall_mem_cons.mpr ⟨kh_853_ok, (List.forall_mem_nil _)⟩)⟩) (by decide +kernel)
/- UtilityWorksModel bPlanDay -/
def kh_857 : ct_T := (503, [(2, 805, 805, 0), (0, 0, 9, 1)], [], [], [(0, (0, 0, 0, 0), [(2, 805, 805, 0), (0, 0, 9, 1)], [], ([], []))], [((806, 806), (1821, 2001, 20)), ((806, 806), (1822, 2002, 20)), ((806, 806), (1823, 2003, 20)), ((807, 807), (2830, 2839, 1)), ((807, 807), (2840, 2849, 1)), ((807, 807), (2850, 2859, 1))], 2, 42, 0)
theorem kh_857_ok : ct_ok wd_fl2 kh_857 := ct_of (ff := wd_ff2) (y := (⟨"UtilityWorksModel", "bPlanDay", "(I)V"⟩, prog_14_method_243_code, 4, none, 12, 1, 1, 35065, 35064, 13010, 21014)) (Cs := [kh_852, kh_day, kh_853, kh_854, kh_855, kh_856]) (an := [(92, 0, ([((2, 805, 805, 0), none), ((0, 0, 9, 1), none), ((0, 0, 6, 1), none), ((0, (-2147483648), 2147483647, 1), none)], [(0, 0), (1, 1), (2, 2), (3, 3)], [], [], [], [], [], [], none), [(0, 0, 99908)])]) (ss := []) (K := 1) (fuel := 4000) wd_fl2_ok rfl (List.forall_mem_cons.mpr ⟨kh_852_ok, (List.forall_mem_cons.mpr ⟨kh_day_ok, (List.forall_mem_cons.mpr ⟨kh_853_ok, (List.forall_mem_cons.mpr ⟨kh_854_ok, (List.forall_mem_cons.mpr ⟨kh_855_ok, (List.forall_mem_cons.mpr ⟨kh_856_ok, (List.forall_mem_nil _)⟩)⟩)⟩)⟩)⟩)⟩) (by decide +kernel)
/- UtilityWorksModel bInterest -/
def kh_858 : ct_T := (506, [(2, 805, 805, 0), (0, 0, 9, 1)], [], [], [(0, (0, 0, 0, 0), [(2, 805, 805, 0), (0, 0, 9, 1)], [], ([], []))], [((807, 807), (107, 2811, 8)), ((807, 807), (2862, 2862, 0))], 1, 22, 0)
theorem kh_858_ok : ct_ok wd_fl2 kh_858 := ct_of (ff := wd_ff2) (y := (⟨"UtilityWorksModel", "bInterest", "(I)V"⟩, prog_14_method_244_code, 5, none, 12, 1, 1, 35077, 35076, 13013, 21014)) (Cs := [kh_bC0, kh_697]) (an := [(2, 0, ([((2, 805, 805, 0), none), ((0, 0, 9, 1), none), ((0, 0, 33, 1), none)], [(0, 0), (1, 1), (2, 2)], [], [], [], [], [], [], none), [(0, 0, 99998), (1, 2, 33), (0, 0, 99998)])]) (ss := []) (K := 3) (fuel := 4000) wd_fl2_ok rfl (List.forall_mem_cons.mpr ⟨kh_bC0_ok, (List.forall_mem_cons.mpr ⟨kh_697_ok, (List.forall_mem_nil _)⟩)⟩) (by decide +kernel)
/- UtilityWorksModel bB -/
def kh_859 : ct_T := (507, [(0, 0, 9, 1), (0, 0, 32, 1), (0, 0, 0, 0)], [], [], [(1, (0, 100, 2804, 8), [(0, 0, 9, 1), (0, 0, 32, 1), (0, 0, 0, 0)], [], ([], []))], [], 0, 0, 0)
theorem kh_859_ok : ct_ok wd_fl2 kh_859 := ct_of (ff := wd_ff2) (y := (⟨"UtilityWorksModel", "bB", "(III)I"⟩, prog_14_method_228_code, 3, some .int, 12, 0, 3, 35080, 35079, 0, 21014)) (Cs := []) (an := []) (ss := []) (K := 1) (fuel := 4000) wd_fl2_ok rfl (List.forall_mem_nil _) (by decide +kernel)
/- UtilityWorksModel bNotice -/
def kh_860 : ct_T := (516, [(2, 805, 805, 0), (0, 0, 9, 1)], [], [], [(1, (0, 0, 0, 0), [(2, 805, 805, 0), (0, 0, 9, 1)], [], ([], [])), (1, (0, 1, 1, 0), [(2, 805, 805, 0), (0, 0, 9, 1)], [], ([], [])), (1, (0, 2, 3, 1), [(2, 805, 805, 0), (0, 0, 9, 1)], [], ([], []))], [], 1, 22, 0)
theorem kh_860_ok : ct_ok wd_fl2 kh_860 := ct_of (ff := wd_ff2) (y := (⟨"UtilityWorksModel", "bNotice", "(I)I"⟩, prog_14_method_248_code, 5, some .int, 12, 1, 1, 35119, 35118, 14006, 21014)) (Cs := [kh_bC0, kh_852, kh_day, kh_859, kh_697]) (an := [(15, 0, ([((2, 805, 805, 0), none), ((0, 0, 9, 1), none), ((0, (-1), 32, 1), none), ((0, (-1), 32, 1), none)], [(0, 0), (1, 1), (2, 2), (3, 3)], [], [], [], [], [], [], none), [(0, 0, 99985), (2, 3, (-1)), (0, 0, 99985)]), (66, 0, ([((2, 805, 805, 0), none), ((0, 0, 9, 1), none), ((0, (-1), 32, 1), none), ((0, (-1), (-1), 1), none)], [(0, 0), (1, 1), (2, 2), (3, 3)], [], [], [], [], [], [], none), [(0, 0, 99934), (0, 0, 0), (0, 0, 0)])]) (ss := []) (K := 3) (fuel := 4000) wd_fl2_ok rfl (List.forall_mem_cons.mpr ⟨kh_bC0_ok, (List.forall_mem_cons.mpr ⟨kh_852_ok, (List.forall_mem_cons.mpr ⟨kh_day_ok, (List.forall_mem_cons.mpr ⟨kh_859_ok, (List.forall_mem_cons.mpr ⟨kh_697_ok, (List.forall_mem_nil _)⟩)⟩)⟩)⟩)⟩) (by decide +kernel)
/- UtilityWorksModel cHas -/
def kh_861 : ct_T := (517, [(2, 805, 805, 0), (0, 5, 5, 0), (0, 0, 9, 1)], [], [], [(1, (0, 0, 1, 1), [(2, 805, 805, 0), (0, 5, 5, 0), (0, 0, 9, 1)], [], ([], []))], [], 1, 21, 0)
theorem kh_861_ok : ct_ok wd_fl2 kh_861 := ct_of (ff := wd_ff2) (y := (⟨"UtilityWorksModel", "cHas", "(II)Z"⟩, prog_14_method_276_code, 5, some .boolean, 12, 1, 2, 35126, 35125, 14007, 21014)) (Cs := [kh_cJ0, kh_cJ2, kh_cJ4]) (an := [(5, 0, ([((2, 805, 805, 0), none), ((0, 5, 5, 0), none), ((0, 0, 9, 1), none), ((0, 0, 1, 1), none), ((0, 0, 200, 1), none)], [(0, 0), (1, 1), (2, 2), (3, 3), (4, 4)], [], [], [], [], [], [], none), [(0, 0, 99995), (1, 4, 200), (0, 0, 99995)]), (67, 0, ([((2, 805, 805, 0), none), ((0, 5, 5, 0), none), ((0, 0, 9, 1), none), ((0, 0, 1, 1), none), ((0, 0, 199, 1), none)], [(0, 0), (1, 1), (2, 2), (3, 3), (4, 4)], [], [], [], [], [((806, 806), (2440, 2440, 0), (0, 1, 200, 1))], [], none), [(0, 0, 99995), (1, 4, 200), (0, 0, 99933)]), (71, 0, ([((2, 805, 805, 0), none), ((0, 5, 5, 0), none), ((0, 0, 9, 1), none), ((0, 0, 0, 0), none), ((0, 0, 199, 1), none)], [(0, 0), (1, 1), (2, 2), (3, 3), (4, 4)], [], [], [], [], [((806, 806), (2440, 2440, 0), (0, 1, 200, 1))], [], none), [(0, 0, 99995), (1, 4, 200), (0, 0, 99929)])]) (ss := []) (K := 3) (fuel := 4000) wd_fl2_ok rfl (List.forall_mem_cons.mpr ⟨kh_cJ0_ok, (List.forall_mem_cons.mpr ⟨kh_cJ2_ok, (List.forall_mem_cons.mpr ⟨kh_cJ4_ok, (List.forall_mem_nil _)⟩)⟩)⟩) (by decide +kernel)
/- UtilityWorksModel bCutFrom -/
def kh_862 : ct_T := (412, [(2, 805, 805, 0), (0, 0, 9, 1)], [], [], [(1, (0, (-2147483648), 2147483647, 1), [(2, 805, 805, 0), (0, 0, 9, 1)], [], ([], []))], [], 1, 21, 0)
theorem kh_862_ok : ct_ok wd_fl2 kh_862 := ct_of (ff := wd_ff2) (y := (⟨"UtilityWorksModel", "bCutFrom", "(I)I"⟩, prog_14_method_235_code, 2, some .int, 12, 1, 1, 33183, 33182, 8001, 21014)) (Cs := [kh_611]) (an := []) (ss := []) (K := 1) (fuel := 4000) wd_fl2_ok rfl (List.forall_mem_cons.mpr ⟨kh_611_ok, (List.forall_mem_nil _)⟩) (by decide +kernel)
/- UtilityWorksModel bOpen -/
def kh_863 : ct_T := (522, [(2, 805, 805, 0), (0, 0, 9, 1)], [], [], [(1, (1, (-9223372036854775808), 9223372036854775807, 1), [(2, 805, 805, 0), (0, 0, 9, 1)], [], ([], []))], [], 1, 22, 0)
theorem kh_863_ok : ct_ok wd_fl2 kh_863 := ct_of (ff := wd_ff2) (y := (⟨"UtilityWorksModel", "bOpen", "(I)J"⟩, prog_14_method_238_code, 5, some .long, 12, 1, 1, 35146, 35145, 14012, 21014)) (Cs := [kh_bC0, kh_697]) (an := [(5, 0, ([((2, 805, 805, 0), none), ((0, 0, 9, 1), none), ((1, (-9223372036854775808), 9223372036854775807, 1), none), ((0, 0, 33, 1), none)], [(0, 0), (1, 1), (2, 2), (4, 3)], [], [], [], [], [], [], none), [(0, 0, 99995), (1, 3, 33), (0, 0, 99995)])]) (ss := []) (K := 3) (fuel := 4000) wd_fl2_ok rfl (List.forall_mem_cons.mpr ⟨kh_bC0_ok, (List.forall_mem_cons.mpr ⟨kh_697_ok, (List.forall_mem_nil _)⟩)⟩) (by decide +kernel)
/- UtilityWorksModel bOwes -/
def kh_864 : ct_T := (521, [(2, 805, 805, 0), (0, 0, 9, 1)], [], [], [(1, (1, (-9223372036854775808), 9223372036854775807, 1), [(2, 805, 805, 0), (0, 0, 9, 1)], [], ([], []))], [], 2, 46, 0)
theorem kh_864_ok : ct_ok wd_fl2 kh_864 := ct_of (ff := wd_ff2) (y := (⟨"UtilityWorksModel", "bOwes", "(I)J"⟩, prog_14_method_239_code, 2, some .long, 12, 1, 1, 35142, 35141, 14011, 21014)) (Cs := [kh_863]) (an := []) (ss := []) (K := 1) (fuel := 4000) wd_fl2_ok rfl (List.forall_mem_cons.mpr ⟨kh_863_ok, (List.forall_mem_nil _)⟩) (by decide +kernel)
/- UtilityWorksModel cHas -/
def kh_865 : ct_T := (517, [(2, 805, 805, 0), (0, 6, 6, 0), (0, 0, 9, 1)], [], [], [(1, (0, 0, 1, 1), [(2, 805, 805, 0), (0, 6, 6, 0), (0, 0, 9, 1)], [], ([], []))], [], 1, 21, 0)
theorem kh_865_ok : ct_ok wd_fl2 kh_865 := ct_of (ff := wd_ff2) (y := (⟨"UtilityWorksModel", "cHas", "(II)Z"⟩, prog_14_method_276_code, 5, some .boolean, 12, 1, 2, 35126, 35125, 14007, 21014)) (Cs := [kh_cJ0, kh_cJ2, kh_cJ4]) (an := [(5, 0, ([((2, 805, 805, 0), none), ((0, 6, 6, 0), none), ((0, 0, 9, 1), none), ((0, 0, 1, 1), none), ((0, 0, 200, 1), none)], [(0, 0), (1, 1), (2, 2), (3, 3), (4, 4)], [], [], [], [], [], [], none), [(0, 0, 99995), (1, 4, 200), (0, 0, 99995)]), (67, 0, ([((2, 805, 805, 0), none), ((0, 6, 6, 0), none), ((0, 0, 9, 1), none), ((0, 0, 1, 1), none), ((0, 0, 199, 1), none)], [(0, 0), (1, 1), (2, 2), (3, 3), (4, 4)], [], [], [], [], [((806, 806), (2440, 2440, 0), (0, 1, 200, 1))], [], none), [(0, 0, 99995), (1, 4, 200), (0, 0, 99933)]), (71, 0, ([((2, 805, 805, 0), none), ((0, 6, 6, 0), none), ((0, 0, 9, 1), none), ((0, 0, 0, 0), none), ((0, 0, 199, 1), none)], [(0, 0), (1, 1), (2, 2), (3, 3), (4, 4)], [], [], [], [], [((806, 806), (2440, 2440, 0), (0, 1, 200, 1))], [], none), [(0, 0, 99995), (1, 4, 200), (0, 0, 99929)])]) (ss := []) (K := 3) (fuel := 4000) wd_fl2_ok rfl (List.forall_mem_cons.mpr ⟨kh_cJ0_ok, (List.forall_mem_cons.mpr ⟨kh_cJ2_ok, (List.forall_mem_cons.mpr ⟨kh_cJ4_ok, (List.forall_mem_nil _)⟩)⟩)⟩) (by decide +kernel)
/- UtilityWorksModel bNotices -/
def kh_866 : ct_T := (515, [(2, 805, 805, 0), (0, 0, 9, 1)], [], [510, 513], [(0, (0, 0, 0, 0), [(2, 805, 805, 0), (0, 0, 9, 1)], [], ([510, 513], []))], [((806, 806), (2440, 4047, 1))], 3, 67, 0)
theorem kh_866_ok : ct_ok wd_fl2 kh_866 := ct_of (ff := wd_ff2) (y := (⟨"UtilityWorksModel", "bNotices", "(I)V"⟩, prog_14_method_249_code, 2, none, 12, 1, 1, 35115, 35114, 14005, 21014)) (Cs := [kh_860, kh_rankOf, kh_396, kh_861, kh_cMay, kh_cAddb, kh_862, kh_864, kh_865]) (an := [(54, 0, ([((2, 805, 805, 0), none), ((0, 0, 9, 1), none)], [(0, 0), (1, 1)], [], [], [], [], [], [510, 513], none), [(0, 0, 99946)]), (98, 0, ([((2, 805, 805, 0), none), ((0, 0, 9, 1), none)], [(0, 0), (1, 1)], [], [], [], [], [], [510, 513], none), [(0, 0, 99902)])]) (ss := []) (K := 1) (fuel := 4000) wd_fl2_ok rfl (List.forall_mem_cons.mpr ⟨kh_860_ok, (List.forall_mem_cons.mpr ⟨kh_rankOf_l2, (List.forall_mem_cons.mpr ⟨kh_396_l2, (List.forall_mem_cons.mpr ⟨kh_861_ok, (List.forall_mem_cons.mpr ⟨kh_cMay_ok, (List.forall_mem_cons.mpr ⟨kh_cAddb_ok, (List.forall_mem_cons.mpr ⟨kh_862_ok, (List.forall_mem_cons.mpr ⟨kh_864_ok, (List.forall_mem_cons.mpr ⟨kh_865_ok, (List.forall_mem_nil _)⟩)⟩)⟩)⟩)⟩)⟩)⟩)⟩)⟩) (by decide +kernel)
abbrev kh_booksDay_y : mt_T := (⟨"UtilityWorksModel", "booksDay", "()V"⟩, prog_14_method_250_code, 2, none, 12, 1, 0, 35061, 35060, 13009, 21014)
def kh_booksDay : ct_T := (502, [(2, 805, 805, 0)], [], [510, 513, 515], [(0, (0, 0, 0, 0), [(2, 805, 805, 0)], [], ([510, 513, 516], []))], [((805, 805), (65, 65, 0)), ((806, 806), (1464, 4047, 1)), ((807, 807), (100, 2864, 1)), ((859, 859), (0, 2, 1))], 6, 148, 0)
def kh_booksDay_a2 : an_T := (2, 0, ([((2, 805, 805, 0), none), ((0, 0, 10, 1), none)], [(0, 0), (1, 1)], [], [], [], [], [], [510, 513], none), [])
def kh_booksDay_a19 : an_T := (19, 0, ([((2, 805, 805, 0), none), ((0, 0, 9, 1), none)], [(0, 0), (1, 1)], [], [], [], [], [], [510, 513], none), [])
def kh_booksDay_a38 : an_T := (38, 0, ([((2, 805, 805, 0), none), ((0, 0, 9, 1), none), ((0, 0, 9, 1), none)], [(0, 0), (1, 1)], [2, 0], [], [], [], [], [510, 513], none), [])
def kh_booksDay_a41 : an_T := (41, 0, ([((2, 805, 805, 0), none), ((0, 0, 9, 1), none)], [(0, 0), (1, 1)], [], [], [], [], [], [510, 513], none), [])
def kh_booksDay_b0_0 : sg_T := (2, 0, ([((2, 805, 805, 0), none), ((0, 0, 0, 0), none)], [(1, 1), (0, 0)], [], [], [], [], [], [510, 513, 515], some []))
def kh_booksDay_b2_0 : sg_T := (52, 0, ([((2, 805, 805, 0), none), ((0, 6, 10, 1), none), ((2, 806, 806, 1), none), ((0, 1300, 1300, 0), none), ((0, 6, 10, 1), none)], [(0, 0), (1, 1)], [], [(2, 3, 4)], [], [(200000, 4, 1), (800004, 2, 3)], [], [510, 513], some []))
def kh_booksDay_b2_1 : sg_T := (19, 0, ([((2, 805, 805, 0), none), ((0, 0, 9, 1), none), ((2, 806, 806, 1), none), ((0, 1300, 1300, 0), none), ((0, 6, 10, 1), none)], [(0, 0), (1, 1)], [], [(2, 3, 4)], [], [(100000, 1, 4), (800004, 2, 3)], [], [510, 513], none))
def kh_booksDay_b19_0 : sg_T := (41, 0, ([((2, 805, 805, 0), none), ((0, 0, 9, 1), none), ((0, 0, 999, 1), none), ((0, 30, 30, 0), none), ((0, 0, 28, 1), none), ((0, 29, 29, 0), none)], [(0, 0), (1, 1)], [], [], [(4, 29)], [(400000, 4, 5), (900200004, 2, 3), (103300002, 0, 0)], [], [510, 513], some []))
def kh_booksDay_b19_1 : sg_T := (38, 0, ([((2, 805, 805, 0), none), ((0, 0, 9, 1), none), ((0, 0, 999, 1), none), ((0, 30, 30, 0), none), ((0, 29, 29, 1), none), ((0, 29, 29, 0), none)], [(0, 0), (1, 1)], [1, 0], [], [], [(300000, 4, 5), (900200004, 2, 3), (103300002, 0, 0)], [], [510, 513], none))
def kh_booksDay_b38_0 : sg_T := (41, 0, ([((2, 805, 805, 0), none), ((0, 0, 9, 1), none), ((0, 0, 9, 1), none)], [(0, 0), (1, 1)], [], [], [], [], [], [510, 513], none))
def kh_booksDay_b41_0 : sg_T := (2, 0, ([((2, 805, 805, 0), none), ((0, 0, 9, 1), none), ((0, 1, 10, 1), some (1, 1))], [(1, 2), (0, 0)], [], [], [], [], [], [510, 513, 513], none))
def kh_booksDay_I (l : Launch) (D : va_G) (tc : Nat → ClassId) (ad : Nat → Nat) (kd : Nat → Nat × Nat) (N : Nat) (sm : Nat → Nat) (xs : List av_X) (S : fw_S) (p : Program) (e : Env) (s : State) (m : MethodId) (args : Array Value) (below : List Frame) (meth : Method) (c : Code) (sz : Nat) (k : Nat) : Prop := (∀ (α : List av_X) (lv : List (Nat × Value)) (st : List Value) (S1 : fw_S), as_in ad sm wd_fl2 xs S kh_booksDay.2.2.2.2.2.1 α kh_booksDay_a2.2.2.1 lv st S1 → ((∀ c' : Nat, c' < 10 → 30 * (S1.1 806 (1820 + 20 * c')).toInt ≤ (S1.1 806 0).toInt + (if (c' : Int) < nv α 1 then 1 else 0))) → (11 - nv α 1).toNat * 10 + 9 < k → hd_W wd_fl2 kh_booksDay kh_booksDay_y l D tc ad kd N sm xs S p e s m args below meth c sz 2 lv st S1 0) ∧ (∀ (α : List av_X) (lv : List (Nat × Value)) (st : List Value) (S1 : fw_S), as_in ad sm wd_fl2 xs S kh_booksDay.2.2.2.2.2.1 α kh_booksDay_a19.2.2.1 lv st S1 → ((∀ c' : Nat, c' < 10 → 30 * (S1.1 806 (1820 + 20 * c')).toInt ≤ (S1.1 806 0).toInt + (if (c' : Int) < nv α 1 then 1 else 0))) → (11 - nv α 1).toNat * 10 + 8 < k → hd_W wd_fl2 kh_booksDay kh_booksDay_y l D tc ad kd N sm xs S p e s m args below meth c sz 19 lv st S1 0) ∧ (∀ (α : List av_X) (lv : List (Nat × Value)) (st : List Value) (S1 : fw_S), as_in ad sm wd_fl2 xs S kh_booksDay.2.2.2.2.2.1 α kh_booksDay_a38.2.2.1 lv st S1 → ((∀ c' : Nat, c' < 10 → 30 * (S1.1 806 (1820 + 20 * c')).toInt ≤ (S1.1 806 0).toInt + (if (c' : Int) < nv α 1 then 1 else 0)) ∧ nv α 2 = nv α 1 ∧ (S1.1 806 0).toInt % 30 = 29) → (11 - nv α 1).toNat * 10 + 7 < k → hd_W wd_fl2 kh_booksDay kh_booksDay_y l D tc ad kd N sm xs S p e s m args below meth c sz 38 lv st S1 0) ∧ (∀ (α : List av_X) (lv : List (Nat × Value)) (st : List Value) (S1 : fw_S), as_in ad sm wd_fl2 xs S kh_booksDay.2.2.2.2.2.1 α kh_booksDay_a41.2.2.1 lv st S1 → ((∀ c' : Nat, c' < 10 → 30 * (S1.1 806 (1820 + 20 * c')).toInt ≤ (S1.1 806 0).toInt + (if (c' : Int) < nv α 1 + 1 then 1 else 0))) → (11 - nv α 1).toNat * 10 + 6 < k → hd_W wd_fl2 kh_booksDay kh_booksDay_y l D tc ad kd N sm xs S p e s m args below meth c sz 41 lv st S1 0) ∧ True
set_option maxHeartbeats 16000000 in
set_option maxRecDepth 8000 in
theorem kh_booksDay_h2 {l : Launch} {D : va_G} {tc : Nat → ClassId} {ad : Nat → Nat} {kd : Nat → Nat × Nat} {N : Nat} {sm : Nat → Nat} {xs : List av_X} {S : fw_S} {p : Program} {e : Env} {s : State} {m : MethodId} {args : Array Value} {below : List Frame} {meth : Method} {c : Code} {sz : Nat} {lvE : List (Nat × Value)} (G : hd_C wd_ff2 wd_fl2 kh_booksDay [kh_704, kh_day, kh_706, kh_715, kh_721, kh_723, kh_732, kh_738, kh_740, kh_749, kh_755, kh_757, kh_766, kh_772, kh_774, kh_783, kh_789, kh_791, kh_800, kh_806, kh_808, kh_817, kh_823, kh_825, kh_834, kh_840, kh_842, kh_851, kh_857, kh_858, kh_866] kh_booksDay_y l D tc ad kd N sm xs p s m args meth c sz) (H0 : as_in ad sm wd_fl2 xs S kh_booksDay.2.2.2.2.2.1 xs (hd_0 kh_booksDay) lvE [] S) {k : Nat} (ih : kh_booksDay_I l D tc ad kd N sm xs S p e s m args below meth c sz k) : (∀ (α : List av_X) (lv : List (Nat × Value)) (st : List Value) (S1 : fw_S), as_in ad sm wd_fl2 xs S kh_booksDay.2.2.2.2.2.1 α kh_booksDay_a2.2.2.1 lv st S1 → ((∀ c' : Nat, c' < 10 → 30 * (S1.1 806 (1820 + 20 * c')).toInt ≤ (S1.1 806 0).toInt + (if (c' : Int) < nv α 1 then 1 else 0))) → (11 - nv α 1).toNat * 10 + 9 < k + 1 → hd_W wd_fl2 kh_booksDay kh_booksDay_y l D tc ad kd N sm xs S p e s m args below meth c sz 2 lv st S1 0) := by
  have hx : xs.length = 1 := by rw [H0.2.1.1]; rfl
  have q515 : blF (S.1 806) 0 := by
    have h := H0.2.2.2.2.2.2.2.2.1 515 (by decide +kernel)
    rw [wd_fl2, if_neg (by decide)] at h
    exact h
  intro α lv st S1 H hp hk
  obtain ⟨α1, hle, Hr⟩ := as_recM (pl := []) [((806, 806), (1821, 2001, 20)), ((806, 806), (1822, 2002, 20)), ((806, 806), (1823, 2003, 20)), ((807, 807), (2830, 2839, 1)), ((807, 807), (2840, 2849, 1)), ((807, 807), (2850, 2859, 1))] (by decide +kernel) H
  have hf := H.2.2.2.2.2.2.2.2.2.2.1
  have hl1 : α1.length = 2 := by rw [Hr.2.1.1]; rfl
  have hl0 : α.length = 2 := by rw [H.2.1.1]; rfl
  have hxa : al_le xs α1 := H.1.trans hle
  obtain ⟨g1, -, g3, g4, -⟩ := as_fx Hr
  have g0 : (805 ≤ nv α1 0 ∧ nv α1 0 ≤ 805) ∧ (0 ≤ nv α1 1 ∧ nv α1 1 ≤ 10) ∧ True := by
    refine ⟨by have h := (en_nv (i := 0) Hr.2.1 rfl).2; exact h, by have h := (en_nv (i := 1) Hr.2.1 rfl).2; exact h, trivial⟩
  have r0 : nv α1 0 = nv α 0 := nv_le hle (by omega)
  have r1 : nv α1 1 = nv α 1 := nv_le hle (by omega)
  refine hd_segM G (na := 2) (fuel := 600) (first := true) (Bs := [kh_booksDay_b2_0, kh_booksDay_b2_1]) (by decide +kernel) hl1 Hr ?_
  intro q hq β lv' st' S' H1
  simp only [List.mem_cons, List.not_mem_nil, or_false] at hq
  rcases hq with rfl | rfl
  · obtain ⟨f1, f2, f3, f4, f5⟩ := as_fx H1
    simp only [kh_booksDay_b2_0, fx_env, fx_c, fx_ne, fx_hf, wl_S, Nat.zero_add, Nat.reduceAdd, Nat.reduceDiv, Nat.reduceMod, List.getElem?_cons_zero, List.getElem?_cons_succ, if_true, and_true, true_and] at f1 f2 f3 f4 f5
    have fe0 : nv β 0 = 805 := by omega
    have fe2 : nv β 2 = 806 := by omega
    have fe3 : nv β 3 = 1300 := by omega
    try simp only [fe0, fe2, fe3, Int.reduceToNat] at f2 f3 f4 f5
    have s0 : nv β 0 = nv α1 0 := nv_le H1.1 (by omega)
    have s1 : nv β 1 = nv α1 1 := nv_le H1.1 (by omega)
    obtain ⟨c0, c1⟩ := f2
    have o1 := old_0 c1 rfl
    have hb : blF (S'.1 806) 1 := by
      intro c' hc'
      have h := hp c' hc'
      rw [f5]
      split at h <;> omega
    exact hd_run G (ss := []) (fuel := 20) (by decide +kernel) (as_fl_in (f := [516]) (as_backM H1 (by decide +kernel) hxa hf) (fun g hg' => by
      rcases List.mem_singleton.mp hg' with rfl
      rw [wd_fl2, if_neg (by decide)]
      exact hb))
  · obtain ⟨f1, f2, f3, f4, f5⟩ := as_fx H1
    simp only [kh_booksDay_b2_1, fx_env, fx_c, fx_ne, fx_hf, wl_S, Nat.zero_add, Nat.reduceAdd, Nat.reduceDiv, Nat.reduceMod, List.getElem?_cons_zero, List.getElem?_cons_succ, if_true, and_true, true_and] at f1 f2 f3 f4 f5
    have fe0 : nv β 0 = 805 := by omega
    have fe2 : nv β 2 = 806 := by omega
    have fe3 : nv β 3 = 1300 := by omega
    try simp only [fe0, fe2, fe3, Int.reduceToNat] at f2 f3 f4 f5
    have s0 : nv β 0 = nv α1 0 := nv_le H1.1 (by omega)
    have s1 : nv β 1 = nv α1 1 := nv_le H1.1 (by omega)
    obtain ⟨c0, c1⟩ := f2
    obtain ⟨α', Ha, hm⟩ := hd_gpM (q := kh_booksDay_a19) (n := 0) (by decide +kernel) hx H1 (by decide +kernel) hxa hf
    have hfr := H1.2.2.2.2.2.2.2.2.2.2.1
    have m0 : nv α' 0 = nv β 0 := hm 0 0 rfl
    have m1 : nv α' 1 = nv β 1 := hm 1 1 rfl
    have eb := fun c hc => bl_fr hfr (by decide +kernel) c hc
    have e0 := fr_pl hfr 806 0 (by decide +kernel)
    refine ih.2.1 _ _ _ _ Ha ?_ ?_
    · rw [m1, s1, r1]
      intro c' hc'
      rw [eb c' hc', e0]
      exact hp c' hc'
    · omega
set_option maxHeartbeats 16000000 in
set_option maxRecDepth 8000 in
theorem kh_booksDay_h19 {l : Launch} {D : va_G} {tc : Nat → ClassId} {ad : Nat → Nat} {kd : Nat → Nat × Nat} {N : Nat} {sm : Nat → Nat} {xs : List av_X} {S : fw_S} {p : Program} {e : Env} {s : State} {m : MethodId} {args : Array Value} {below : List Frame} {meth : Method} {c : Code} {sz : Nat} {lvE : List (Nat × Value)} (G : hd_C wd_ff2 wd_fl2 kh_booksDay [kh_704, kh_day, kh_706, kh_715, kh_721, kh_723, kh_732, kh_738, kh_740, kh_749, kh_755, kh_757, kh_766, kh_772, kh_774, kh_783, kh_789, kh_791, kh_800, kh_806, kh_808, kh_817, kh_823, kh_825, kh_834, kh_840, kh_842, kh_851, kh_857, kh_858, kh_866] kh_booksDay_y l D tc ad kd N sm xs p s m args meth c sz) (H0 : as_in ad sm wd_fl2 xs S kh_booksDay.2.2.2.2.2.1 xs (hd_0 kh_booksDay) lvE [] S) {k : Nat} (ih : kh_booksDay_I l D tc ad kd N sm xs S p e s m args below meth c sz k) : (∀ (α : List av_X) (lv : List (Nat × Value)) (st : List Value) (S1 : fw_S), as_in ad sm wd_fl2 xs S kh_booksDay.2.2.2.2.2.1 α kh_booksDay_a19.2.2.1 lv st S1 → ((∀ c' : Nat, c' < 10 → 30 * (S1.1 806 (1820 + 20 * c')).toInt ≤ (S1.1 806 0).toInt + (if (c' : Int) < nv α 1 then 1 else 0))) → (11 - nv α 1).toNat * 10 + 8 < k + 1 → hd_W wd_fl2 kh_booksDay kh_booksDay_y l D tc ad kd N sm xs S p e s m args below meth c sz 19 lv st S1 0) := by
  have hx : xs.length = 1 := by rw [H0.2.1.1]; rfl
  have q515 : blF (S.1 806) 0 := by
    have h := H0.2.2.2.2.2.2.2.2.1 515 (by decide +kernel)
    rw [wd_fl2, if_neg (by decide)] at h
    exact h
  intro α lv st S1 H hp hk
  obtain ⟨α1, hle, Hr⟩ := as_recM (pl := []) [((807, 807), (107, 2811, 8)), ((807, 807), (2862, 2862, 0))] (by decide +kernel) H
  have hf := H.2.2.2.2.2.2.2.2.2.2.1
  have hl1 : α1.length = 2 := by rw [Hr.2.1.1]; rfl
  have hl0 : α.length = 2 := by rw [H.2.1.1]; rfl
  have hxa : al_le xs α1 := H.1.trans hle
  obtain ⟨g1, -, g3, g4, -⟩ := as_fx Hr
  have g0 : (805 ≤ nv α1 0 ∧ nv α1 0 ≤ 805) ∧ (0 ≤ nv α1 1 ∧ nv α1 1 ≤ 9) ∧ True := by
    refine ⟨by have h := (en_nv (i := 0) Hr.2.1 rfl).2; exact h, by have h := (en_nv (i := 1) Hr.2.1 rfl).2; exact h, trivial⟩
  have r0 : nv α1 0 = nv α 0 := nv_le hle (by omega)
  have r1 : nv α1 1 = nv α 1 := nv_le hle (by omega)
  refine hd_segM G (na := 2) (fuel := 600) (first := true) (Bs := [kh_booksDay_b19_0, kh_booksDay_b19_1]) (by decide +kernel) hl1 Hr ?_
  intro q hq β lv' st' S' H1
  simp only [List.mem_cons, List.not_mem_nil, or_false] at hq
  rcases hq with rfl | rfl
  · obtain ⟨f1, f2, f3, f4, f5⟩ := as_fx H1
    simp only [kh_booksDay_b19_0, fx_env, fx_c, fx_ne, fx_hf, wl_S, Nat.zero_add, Nat.reduceAdd, Nat.reduceDiv, Nat.reduceMod, List.getElem?_cons_zero, List.getElem?_cons_succ, if_true, and_true, true_and] at f1 f2 f3 f4 f5
    have fe0 : nv β 0 = 805 := by omega
    have fe3 : nv β 3 = 30 := by omega
    have fe5 : nv β 5 = 29 := by omega
    try simp only [fe0, fe3, fe5, Int.reduceToNat] at f2 f3 f4 f5
    have s0 : nv β 0 = nv α1 0 := nv_le H1.1 (by omega)
    have s1 : nv β 1 = nv α1 1 := nv_le H1.1 (by omega)
    obtain ⟨c0, c1, c2⟩ := f2
    obtain ⟨α', Ha, hm⟩ := hd_gpM (q := kh_booksDay_a41) (n := 0) (by decide +kernel) hx H1 (by decide +kernel) hxa hf
    have hfr := H1.2.2.2.2.2.2.2.2.2.2.1
    have m0 : nv α' 0 = nv β 0 := hm 0 0 rfl
    have m1 : nv α' 1 = nv β 1 := hm 1 1 rfl
    subst S'
    have eb := fun c hc => bl_fr hfr (by decide +kernel) c hc
    have e0 := fr_pl hfr 806 0 (by decide +kernel)
    refine ih.2.2.2.1 _ _ _ _ Ha ?_ ?_
    · rw [m1, s1, r1]
      intro c' hc'
      rw [eb c' hc', e0]
      have h := hp c' hc'
      split at h <;> split <;> omega
    · omega
  · obtain ⟨f1, f2, f3, f4, f5⟩ := as_fx H1
    simp only [kh_booksDay_b19_1, fx_env, fx_c, fx_ne, fx_hf, wl_S, Nat.zero_add, Nat.reduceAdd, Nat.reduceDiv, Nat.reduceMod, List.getElem?_cons_zero, List.getElem?_cons_succ, if_true, and_true, true_and] at f1 f2 f3 f4 f5
    have fe0 : nv β 0 = 805 := by omega
    have fe3 : nv β 3 = 30 := by omega
    have fe4 : nv β 4 = 29 := by omega
    have fe5 : nv β 5 = 29 := by omega
    try simp only [fe0, fe3, fe4, fe5, Int.reduceToNat] at f2 f3 f4 f5
    have s0 : nv β 0 = nv α1 0 := nv_le H1.1 (by omega)
    have s1 : nv β 1 = nv α1 1 := nv_le H1.1 (by omega)
    obtain ⟨c0, c1, c2⟩ := f2
    obtain ⟨α', Ha, hm⟩ := hd_gpM (q := kh_booksDay_a38) (n := 0) (by decide +kernel) hx H1 (by decide +kernel) hxa hf
    have hfr := H1.2.2.2.2.2.2.2.2.2.2.1
    have m0 : nv α' 0 = nv β 0 := hm 0 0 rfl
    have m1 : nv α' 1 = nv β 1 := hm 1 1 rfl
    have m2 : nv α' 2 = nv β 1 := hm 2 1 rfl
    have eb := fun c hc => bl_fr hfr (by decide +kernel) c hc
    have e0 := fr_pl hfr 806 0 (by decide +kernel)
    have d2 := c2
    simp only [wd_fl2, if_neg (show ¬ (wd_base1 1033 = true) by decide)] at d2
    refine ih.2.2.1 _ _ _ _ Ha ?_ ?_
    · rw [m1, m2, s1, r1, e0]
      refine ⟨fun c' hc' => ?_, rfl, ?_⟩
      · rw [eb c' hc']; exact hp c' hc'
      · rw [← d2]; omega
    · omega
set_option maxHeartbeats 16000000 in
set_option maxRecDepth 8000 in
theorem kh_booksDay_h38 {l : Launch} {D : va_G} {tc : Nat → ClassId} {ad : Nat → Nat} {kd : Nat → Nat × Nat} {N : Nat} {sm : Nat → Nat} {xs : List av_X} {S : fw_S} {p : Program} {e : Env} {s : State} {m : MethodId} {args : Array Value} {below : List Frame} {meth : Method} {c : Code} {sz : Nat} {lvE : List (Nat × Value)} (G : hd_C wd_ff2 wd_fl2 kh_booksDay [kh_704, kh_day, kh_706, kh_715, kh_721, kh_723, kh_732, kh_738, kh_740, kh_749, kh_755, kh_757, kh_766, kh_772, kh_774, kh_783, kh_789, kh_791, kh_800, kh_806, kh_808, kh_817, kh_823, kh_825, kh_834, kh_840, kh_842, kh_851, kh_857, kh_858, kh_866] kh_booksDay_y l D tc ad kd N sm xs p s m args meth c sz) (H0 : as_in ad sm wd_fl2 xs S kh_booksDay.2.2.2.2.2.1 xs (hd_0 kh_booksDay) lvE [] S) {k : Nat} (ih : kh_booksDay_I l D tc ad kd N sm xs S p e s m args below meth c sz k) : (∀ (α : List av_X) (lv : List (Nat × Value)) (st : List Value) (S1 : fw_S), as_in ad sm wd_fl2 xs S kh_booksDay.2.2.2.2.2.1 α kh_booksDay_a38.2.2.1 lv st S1 → ((∀ c' : Nat, c' < 10 → 30 * (S1.1 806 (1820 + 20 * c')).toInt ≤ (S1.1 806 0).toInt + (if (c' : Int) < nv α 1 then 1 else 0)) ∧ nv α 2 = nv α 1 ∧ (S1.1 806 0).toInt % 30 = 29) → (11 - nv α 1).toNat * 10 + 7 < k + 1 → hd_W wd_fl2 kh_booksDay kh_booksDay_y l D tc ad kd N sm xs S p e s m args below meth c sz 38 lv st S1 0) := by
  have hx : xs.length = 1 := by rw [H0.2.1.1]; rfl
  have q515 : blF (S.1 806) 0 := by
    have h := H0.2.2.2.2.2.2.2.2.1 515 (by decide +kernel)
    rw [wd_fl2, if_neg (by decide)] at h
    exact h
  intro α lv st S1 H hp hk
  obtain ⟨α1, hle, Hr⟩ := as_recM (pl := []) [((805, 805), (65, 65, 0)), ((806, 806), (1464, 1783, 11)), ((806, 806), (1465, 1784, 11)), ((806, 806), (1466, 1785, 11)), ((806, 806), (1820, 2000, 20)), ((806, 806), (1826, 2014, 1)), ((807, 807), (100, 2864, 1)), ((859, 859), (0, 2, 1))] (by decide +kernel) H
  have hf := H.2.2.2.2.2.2.2.2.2.2.1
  have hl1 : α1.length = 3 := by rw [Hr.2.1.1]; rfl
  have hl0 : α.length = 3 := by rw [H.2.1.1]; rfl
  have hxa : al_le xs α1 := H.1.trans hle
  obtain ⟨g1, -, g3, g4, -⟩ := as_fx Hr
  have g0 : (805 ≤ nv α1 0 ∧ nv α1 0 ≤ 805) ∧ (0 ≤ nv α1 1 ∧ nv α1 1 ≤ 9) ∧ (0 ≤ nv α1 2 ∧ nv α1 2 ≤ 9) ∧ True := by
    refine ⟨by have h := (en_nv (i := 0) Hr.2.1 rfl).2; exact h, by have h := (en_nv (i := 1) Hr.2.1 rfl).2; exact h, by have h := (en_nv (i := 2) Hr.2.1 rfl).2; exact h, trivial⟩
  have r0 : nv α1 0 = nv α 0 := nv_le hle (by omega)
  have r1 : nv α1 1 = nv α 1 := nv_le hle (by omega)
  have r2 : nv α1 2 = nv α 2 := nv_le hle (by omega)
  refine hd_callPN (Rr := R_bBill) (Rs := [kh_bBill]) (idx := 814) G (List.forall_mem_cons.mpr ⟨kh_bBill_okP, List.forall_mem_nil _⟩) (fun Cc hCc ys hnm => by
      rcases List.mem_singleton.mp hCc with rfl
      have y1 : nv ys 1 = nv α1 2 := nm_nv hnm (i := 1) (v := 2) rfl
      obtain ⟨p1, p2, p3⟩ := hp
      have hd := rg_bd1 (q_rg_in (q := ((806, 806), (0, 0, 0), (0, 0, 999, 1))) (by decide +kernel) H)
      have h := p1 (nv α 1).toNat (by omega)
      rw [if_neg (by omega)] at h
      show (S1.1 806 (1820 + 20 * nv ys 1).toNat).toInt ≤ 32
      rw [y1, r2, p2, show (1820 + 20 * nv α 1).toNat = 1820 + 20 * (nv α 1).toNat by omega]
      omega) (na := 3) (Bs := [kh_booksDay_b38_0]) (by decide +kernel) (by decide +kernel) hl1 Hr ?_
  intro q hq β lv' st' S' H1 hRx
  simp only [List.mem_cons, List.not_mem_nil, or_false] at hq
  rcases hq with rfl
  · obtain ⟨f1, f2, f3, f4, f5⟩ := as_fx H1
    simp only [kh_booksDay_b38_0, fx_env, fx_c, fx_ne, fx_hf, wl_S, Nat.zero_add, Nat.reduceAdd, Nat.reduceDiv, Nat.reduceMod, List.getElem?_cons_zero, List.getElem?_cons_succ, if_true, and_true, true_and] at f1 f2 f3 f4 f5
    have fe0 : nv β 0 = 805 := by omega
    try simp only [fe0, Int.reduceToNat] at f2 f3 f4 f5
    have s0 : nv β 0 = nv α1 0 := nv_le H1.1 (by omega)
    have s1 : nv β 1 = nv α1 1 := nv_le H1.1 (by omega)
    have s2 : nv β 2 = nv α1 2 := nv_le H1.1 (by omega)
    obtain ⟨α', Ha, hm⟩ := hd_gpM (q := kh_booksDay_a41) (n := 0) (by decide +kernel) hx H1 (by decide +kernel) hxa hf
    have hfr := H1.2.2.2.2.2.2.2.2.2.2.1
    have m0 : nv α' 0 = nv β 0 := hm 0 0 rfl
    have m1 : nv α' 1 = nv β 1 := hm 1 1 rfl
    obtain ⟨Cc, hCc, ys, rr, hnm, hR, rest, hre⟩ := hRx
    rcases List.mem_singleton.mp hCc with rfl
    have y1 : nv ys 1 = nv α1 2 := nm_nv hnm (i := 1) (v := 2) rfl
    obtain ⟨R1, R2, R3⟩ := hR
    obtain ⟨p1, p2, p3⟩ := hp
    rw [y1, r2, p2] at R1 R2
    refine ih.2.2.2.1 _ _ _ _ Ha ?_ ?_
    · rw [m1, s1, r1]
      intro c' hc'
      have h := p1 c' hc'
      by_cases e : (c' : Int) = nv α 1
      · rw [show 1820 + 20 * nv α 1 = ((1820 + 20 * c' : Nat) : Int) by omega, Int.toNat_natCast] at R1
        rw [if_neg (by omega)] at h
        rw [if_pos (by omega), R1, R3]
        omega
      · rw [R2 c' hc' e, R3]
        split at h <;> split <;> omega
    · omega
set_option maxHeartbeats 16000000 in
set_option maxRecDepth 8000 in
theorem kh_booksDay_h41 {l : Launch} {D : va_G} {tc : Nat → ClassId} {ad : Nat → Nat} {kd : Nat → Nat × Nat} {N : Nat} {sm : Nat → Nat} {xs : List av_X} {S : fw_S} {p : Program} {e : Env} {s : State} {m : MethodId} {args : Array Value} {below : List Frame} {meth : Method} {c : Code} {sz : Nat} {lvE : List (Nat × Value)} (G : hd_C wd_ff2 wd_fl2 kh_booksDay [kh_704, kh_day, kh_706, kh_715, kh_721, kh_723, kh_732, kh_738, kh_740, kh_749, kh_755, kh_757, kh_766, kh_772, kh_774, kh_783, kh_789, kh_791, kh_800, kh_806, kh_808, kh_817, kh_823, kh_825, kh_834, kh_840, kh_842, kh_851, kh_857, kh_858, kh_866] kh_booksDay_y l D tc ad kd N sm xs p s m args meth c sz) (H0 : as_in ad sm wd_fl2 xs S kh_booksDay.2.2.2.2.2.1 xs (hd_0 kh_booksDay) lvE [] S) {k : Nat} (ih : kh_booksDay_I l D tc ad kd N sm xs S p e s m args below meth c sz k) : (∀ (α : List av_X) (lv : List (Nat × Value)) (st : List Value) (S1 : fw_S), as_in ad sm wd_fl2 xs S kh_booksDay.2.2.2.2.2.1 α kh_booksDay_a41.2.2.1 lv st S1 → ((∀ c' : Nat, c' < 10 → 30 * (S1.1 806 (1820 + 20 * c')).toInt ≤ (S1.1 806 0).toInt + (if (c' : Int) < nv α 1 + 1 then 1 else 0))) → (11 - nv α 1).toNat * 10 + 6 < k + 1 → hd_W wd_fl2 kh_booksDay kh_booksDay_y l D tc ad kd N sm xs S p e s m args below meth c sz 41 lv st S1 0) := by
  have hx : xs.length = 1 := by rw [H0.2.1.1]; rfl
  have q515 : blF (S.1 806) 0 := by
    have h := H0.2.2.2.2.2.2.2.2.1 515 (by decide +kernel)
    rw [wd_fl2, if_neg (by decide)] at h
    exact h
  intro α lv st S1 H hp hk
  obtain ⟨α1, hle, Hr⟩ := as_recM (pl := []) [((806, 806), (2440, 4047, 1))] (by decide +kernel) H
  have hf := H.2.2.2.2.2.2.2.2.2.2.1
  have hl1 : α1.length = 2 := by rw [Hr.2.1.1]; rfl
  have hl0 : α.length = 2 := by rw [H.2.1.1]; rfl
  have hxa : al_le xs α1 := H.1.trans hle
  obtain ⟨g1, -, g3, g4, -⟩ := as_fx Hr
  have g0 : (805 ≤ nv α1 0 ∧ nv α1 0 ≤ 805) ∧ (0 ≤ nv α1 1 ∧ nv α1 1 ≤ 9) ∧ True := by
    refine ⟨by have h := (en_nv (i := 0) Hr.2.1 rfl).2; exact h, by have h := (en_nv (i := 1) Hr.2.1 rfl).2; exact h, trivial⟩
  have r0 : nv α1 0 = nv α 0 := nv_le hle (by omega)
  have r1 : nv α1 1 = nv α 1 := nv_le hle (by omega)
  refine hd_segM G (na := 2) (fuel := 600) (first := true) (Bs := [kh_booksDay_b41_0]) (by decide +kernel) hl1 Hr ?_
  intro q hq β lv' st' S' H1
  simp only [List.mem_cons, List.not_mem_nil, or_false] at hq
  rcases hq with rfl
  · obtain ⟨f1, f2, f3, f4, f5⟩ := as_fx H1
    simp only [kh_booksDay_b41_0, fx_env, fx_c, fx_ne, fx_hf, wl_S, Nat.zero_add, Nat.reduceAdd, Nat.reduceDiv, Nat.reduceMod, List.getElem?_cons_zero, List.getElem?_cons_succ, if_true, and_true, true_and] at f1 f2 f3 f4 f5
    have fe0 : nv β 0 = 805 := by omega
    try simp only [fe0, Int.reduceToNat] at f2 f3 f4 f5
    have s0 : nv β 0 = nv α1 0 := nv_le H1.1 (by omega)
    have s1 : nv β 1 = nv α1 1 := nv_le H1.1 (by omega)
    obtain ⟨α', Ha, hm⟩ := hd_gpM (q := kh_booksDay_a2) (n := 0) (by decide +kernel) hx H1 (by decide +kernel) hxa hf
    have hfr := H1.2.2.2.2.2.2.2.2.2.2.1
    have m0 : nv α' 0 = nv β 0 := hm 0 0 rfl
    have m1 : nv α' 1 = nv β 2 := hm 1 2 rfl
    have eb := fun c hc => bl_fr hfr (by decide +kernel) c hc
    have e0 := fr_pl hfr 806 0 (by decide +kernel)
    refine ih.1 _ _ _ _ Ha ?_ ?_
    · rw [m1]
      intro c' hc'
      rw [eb c' hc', e0]
      have h := hp c' hc'
      split at h <;> split <;> omega
    · omega
set_option maxHeartbeats 16000000 in
set_option maxRecDepth 8000 in
theorem kh_booksDay_ok : ct_ok wd_fl2 kh_booksDay := ct_hand (ff := wd_ff2) (y := kh_booksDay_y) (Cs := [kh_704, kh_day, kh_706, kh_715, kh_721, kh_723, kh_732, kh_738, kh_740, kh_749, kh_755, kh_757, kh_766, kh_772, kh_774, kh_783, kh_789, kh_791, kh_800, kh_806, kh_808, kh_817, kh_823, kh_825, kh_834, kh_840, kh_842, kh_851, kh_857, kh_858, kh_866]) wd_fl2_ok rfl (List.forall_mem_cons.mpr ⟨kh_704_ok, (List.forall_mem_cons.mpr ⟨kh_day_ok, (List.forall_mem_cons.mpr ⟨kh_706_ok, (List.forall_mem_cons.mpr ⟨kh_715_ok, (List.forall_mem_cons.mpr ⟨kh_721_ok, (List.forall_mem_cons.mpr ⟨kh_723_ok, (List.forall_mem_cons.mpr ⟨kh_732_ok, (List.forall_mem_cons.mpr ⟨kh_738_ok, (List.forall_mem_cons.mpr ⟨kh_740_ok, (List.forall_mem_cons.mpr ⟨kh_749_ok, (List.forall_mem_cons.mpr ⟨kh_755_ok, (List.forall_mem_cons.mpr ⟨kh_757_ok, (List.forall_mem_cons.mpr ⟨kh_766_ok, (List.forall_mem_cons.mpr ⟨kh_772_ok, (List.forall_mem_cons.mpr ⟨kh_774_ok, (List.forall_mem_cons.mpr ⟨kh_783_ok, (List.forall_mem_cons.mpr ⟨kh_789_ok, (List.forall_mem_cons.mpr ⟨kh_791_ok, (List.forall_mem_cons.mpr ⟨kh_800_ok, (List.forall_mem_cons.mpr ⟨kh_806_ok, (List.forall_mem_cons.mpr ⟨kh_808_ok, (List.forall_mem_cons.mpr ⟨kh_817_ok, (List.forall_mem_cons.mpr ⟨kh_823_ok, (List.forall_mem_cons.mpr ⟨kh_825_ok, (List.forall_mem_cons.mpr ⟨kh_834_ok, (List.forall_mem_cons.mpr ⟨kh_840_ok, (List.forall_mem_cons.mpr ⟨kh_842_ok, (List.forall_mem_cons.mpr ⟨kh_851_ok, (List.forall_mem_cons.mpr ⟨kh_857_ok, (List.forall_mem_cons.mpr ⟨kh_858_ok, (List.forall_mem_cons.mpr ⟨kh_866_ok, (List.forall_mem_nil _)⟩)⟩)⟩)⟩)⟩)⟩)⟩)⟩)⟩)⟩)⟩)⟩)⟩)⟩)⟩)⟩)⟩)⟩)⟩)⟩)⟩)⟩)⟩)⟩)⟩)⟩)⟩)⟩)⟩)⟩)⟩) (by decide +kernel) (fun l D tc ad kd N sm xs S p e s m args below meth c sz lv G H0 => by
  have hx : xs.length = 1 := by rw [H0.2.1.1]; rfl
  have q515 : blF (S.1 806) 0 := by
    have h := H0.2.2.2.2.2.2.2.2.1 515 (by decide +kernel)
    rw [wd_fl2, if_neg (by decide)] at h
    exact h
  have hP : ∀ (k : Nat), kh_booksDay_I l D tc ad kd N sm xs S p e s m args below meth c sz k := by
    intro k
    induction k with
    | zero => exact ⟨fun _ _ _ _ _ _ h => absurd h (Nat.not_lt_zero _), fun _ _ _ _ _ _ h => absurd h (Nat.not_lt_zero _), fun _ _ _ _ _ _ h => absurd h (Nat.not_lt_zero _), fun _ _ _ _ _ _ h => absurd h (Nat.not_lt_zero _), trivial⟩
    | succ k ih => exact ⟨kh_booksDay_h2 G H0 ih, kh_booksDay_h19 G H0 ih, kh_booksDay_h38 G H0 ih, kh_booksDay_h41 G H0 ih, trivial⟩
  obtain ⟨α1, hle, Hr⟩ := as_recM (pl := []) [] (by decide +kernel) H0
  have hf := H0.2.2.2.2.2.2.2.2.2.2.1
  have hl1 : α1.length = 1 := by rw [Hr.2.1.1]; rfl
  have hl0 : xs.length = 1 := by rw [H0.2.1.1]; rfl
  have hxa : al_le xs α1 := H0.1.trans hle
  obtain ⟨g1, -, g3, g4, -⟩ := as_fx Hr
  have g0 : (805 ≤ nv α1 0 ∧ nv α1 0 ≤ 805) ∧ True := by
    refine ⟨by have h := (en_nv (i := 0) Hr.2.1 rfl).2; exact h, trivial⟩
  have r0 : nv α1 0 = nv xs 0 := nv_le hle (by omega)
  refine hd_segM G (na := 1) (fuel := 600) (first := true) (Bs := [kh_booksDay_b0_0]) (by decide +kernel) hl1 Hr ?_
  intro q hq β lv' st' S' H1
  simp only [List.mem_cons, List.not_mem_nil, or_false] at hq
  rcases hq with rfl
  · obtain ⟨f1, f2, f3, f4, f5⟩ := as_fx H1
    simp only [kh_booksDay_b0_0, fx_env, fx_c, fx_ne, fx_hf, wl_S, Nat.zero_add, Nat.reduceAdd, Nat.reduceDiv, Nat.reduceMod, List.getElem?_cons_zero, List.getElem?_cons_succ, if_true, and_true, true_and] at f1 f2 f3 f4 f5
    have fe0 : nv β 0 = 805 := by omega
    have fe1 : nv β 1 = 0 := by omega
    try simp only [fe0, fe1, Int.reduceToNat] at f2 f3 f4 f5
    have s0 : nv β 0 = nv α1 0 := nv_le H1.1 (by omega)
    obtain ⟨α', Ha, hm⟩ := hd_gpM (q := kh_booksDay_a2) (n := 0) (by decide +kernel) hx H1 (by decide +kernel) hxa hf
    have hfr := H1.2.2.2.2.2.2.2.2.2.2.1
    have m0 : nv α' 0 = nv β 0 := hm 0 0 rfl
    have m1 : nv α' 1 = nv β 1 := hm 1 1 rfl
    subst S'

    refine (hP _).1 _ _ _ _ Ha ?_ (Nat.lt_succ_self _)
    · intro c' hc'
      have h := q515 c' hc'
      rw [m1, if_neg (by omega)]
      omega)
def P_dayGoes : List av_X → fw_S → Prop := fun _ S => (S.1 806 0).toInt ≤ 998
def R_dayGoes : List av_X → fw_S → fw_O → fw_S → Prop := fun _ S _ S' => (S'.1 806 0).toInt = (S.1 806 0).toInt + 1
/- UtilityWorksModel drawn -/
def kh_867 : ct_T := (381, [(2, 805, 805, 0)], [], [], [(1, (0, 0, 65536, 1), [(2, 805, 805, 0)], [], ([], []))], [], 0, 0, 0)
theorem kh_867_ok : ct_ok wd_fl2 kh_867 := ct_of (ff := wd_ff2) (y := (⟨"UtilityWorksModel", "drawn", "()I"⟩, prog_14_method_320_code, 1, some .int, 12, 1, 0, 33060, 33059, 6004, 21014)) (Cs := []) (an := []) (ss := []) (K := 1) (fuel := 4000) wd_fl2_ok rfl (List.forall_mem_nil _) (by decide +kernel)
/- UtilityWorksModel draw -/
def kh_868 : ct_T := (380, [(2, 805, 805, 0)], [], [], [(0, (0, 0, 0, 0), [(2, 805, 805, 0)], [((806, 806), (1, 1, 0), (0, (-10), 20, 1)), ((806, 806), (2, 2, 0), (0, 0, 9, 1)), ((806, 806), (3, 3, 0), (0, 0, 9, 1))], ([], []))], [((806, 806), (1, 1, 0)), ((806, 806), (2, 2, 0)), ((806, 806), (3, 3, 0)), ((806, 806), (5, 5, 0))], 1, 20, 0)
theorem kh_868_ok : ct_ok wd_fl2 kh_868 := ct_of (ff := wd_ff2) (y := (⟨"UtilityWorksModel", "draw", "()V"⟩, prog_14_method_323_code, 2, none, 12, 1, 0, 33056, 33055, 6003, 21014)) (Cs := [kh_867]) (an := []) (ss := []) (K := 1) (fuel := 4000) wd_fl2_ok rfl (List.forall_mem_cons.mpr ⟨kh_867_ok, (List.forall_mem_nil _)⟩) (by decide +kernel)
/- UtilityWorksModel in -/
def kh_869 : ct_T := (353, [(0, 0, 3, 1), (0, 0, 0, 0), (0, 3, 3, 0)], [], [], [(1, (0, 1, 1, 0), [(0, 0, 3, 1), (0, 0, 0, 0), (0, 3, 3, 0)], [], ([], []))], [], 0, 0, 0)
theorem kh_869_ok : ct_ok wd_fl2 kh_869 := ct_of (ff := wd_ff2) (y := (⟨"UtilityWorksModel", "in", "(III)Z"⟩, prog_14_method_5_code, 3, some .boolean, 12, 0, 3, 32192, 32191, 0, 21014)) (Cs := []) (an := []) (ss := []) (K := 1) (fuel := 4000) wd_fl2_ok rfl (List.forall_mem_nil _) (by decide +kernel)
/- UtilityWorksModel stormCell -/
def kh_870 : ct_T := (384, [(2, 805, 805, 0), (0, 0, 3, 1), (0, 0, 0, 0)], [], [], [(1, (0, (-1), 2, 1), [(2, 805, 805, 0), (0, 0, 3, 1), (0, 0, 0, 0)], [], ([], []))], [], 0, 0, 0)
theorem kh_870_ok : ct_ok wd_fl2 kh_870 := ct_of (ff := wd_ff2) (y := (⟨"UtilityWorksModel", "stormCell", "(II)I"⟩, prog_14_method_316_code, 3, some .int, 12, 1, 2, 33073, 33072, 6007, 21014)) (Cs := []) (an := []) (ss := []) (K := 1) (fuel := 4000) wd_fl2_ok rfl (List.forall_mem_nil _) (by decide +kernel)
/- UtilityWorksModel isStorm -/
def kh_871 : ct_T := (383, [(2, 805, 805, 0), (0, 0, 3, 1)], [], [], [(1, (0, 1, 1, 0), [(2, 805, 805, 0), (0, 0, 3, 1)], [], ([], [])), (1, (0, 0, 0, 0), [(2, 805, 805, 0), (0, 0, 3, 1)], [], ([], []))], [], 1, 22, 0)
theorem kh_871_ok : ct_ok wd_fl2 kh_871 := ct_of (ff := wd_ff2) (y := (⟨"UtilityWorksModel", "isStorm", "(I)Z"⟩, prog_14_method_317_code, 2, some .boolean, 12, 1, 1, 33069, 33068, 6006, 21014)) (Cs := [kh_869, kh_870]) (an := [(23, 0, ([((2, 805, 805, 0), none), ((0, 0, 3, 1), none)], [(0, 0), (1, 1)], [], [], [], [], [], [], none), [(0, 0, 99977)])]) (ss := []) (K := 1) (fuel := 4000) wd_fl2_ok rfl (List.forall_mem_cons.mpr ⟨kh_869_ok, (List.forall_mem_cons.mpr ⟨kh_870_ok, (List.forall_mem_nil _)⟩)⟩) (by decide +kernel)
/- UtilityWorksModel stormCell -/
def kh_872 : ct_T := (384, [(2, 805, 805, 0), (0, 0, 3, 1), (0, 2, 2, 0)], [], [], [(1, (0, (-2147483648), 2147483647, 1), [(2, 805, 805, 0), (0, 0, 3, 1), (0, 2, 2, 0)], [], ([], []))], [], 0, 0, 0)
theorem kh_872_ok : ct_ok wd_fl2 kh_872 := ct_of (ff := wd_ff2) (y := (⟨"UtilityWorksModel", "stormCell", "(II)I"⟩, prog_14_method_316_code, 3, some .int, 12, 1, 2, 33073, 33072, 6007, 21014)) (Cs := []) (an := []) (ss := []) (K := 1) (fuel := 4000) wd_fl2_ok rfl (List.forall_mem_nil _) (by decide +kernel)
/- UtilityWorksModel stormsGo -/
def kh_873 : ct_T := (382, [(2, 805, 805, 0)], [], [], [(0, (0, 0, 0, 0), [(2, 805, 805, 0)], [], ([], []))], [((806, 806), (500, 512, 4)), ((806, 806), (502, 514, 4))], 2, 43, 0)
theorem kh_873_ok : ct_ok wd_fl2 kh_873 := ct_of (ff := wd_ff2) (y := (⟨"UtilityWorksModel", "stormsGo", "()V"⟩, prog_14_method_324_code, 2, none, 12, 1, 0, 33065, 33064, 6005, 21014)) (Cs := [kh_871, kh_872, kh_870]) (an := [(2, 0, ([((2, 805, 805, 0), none), ((0, 0, 4, 1), none)], [(0, 0), (1, 1)], [], [], [], [], [], [], none), [(0, 0, 99998), (1, 1, 4), (0, 0, 99998)]), (65, 0, ([((2, 805, 805, 0), none), ((0, 0, 3, 1), none)], [(0, 0), (1, 1)], [], [], [], [], [], [], none), [(0, 0, 99998), (1, 1, 4), (0, 0, 99935)])]) (ss := []) (K := 3) (fuel := 4000) wd_fl2_ok rfl (List.forall_mem_cons.mpr ⟨kh_871_ok, (List.forall_mem_cons.mpr ⟨kh_872_ok, (List.forall_mem_cons.mpr ⟨kh_870_ok, (List.forall_mem_nil _)⟩)⟩)⟩) (by decide +kernel)
/- UtilityWorksModel in -/
def kh_874 : ct_T := (353, [(0, 0, 2, 1), (0, (-2), 1, 1), (0, 0, 3, 1)], [], [], [(1, (0, 1, 1, 0), [(0, 0, 2, 1), (0, (-2), 1, 1), (0, 0, 3, 1)], [], ([], [])), (1, (0, 0, 0, 0), [(0, 0, 2, 1), (0, (-2), 1, 1), (0, 0, 3, 1)], [], ([], []))], [], 0, 0, 0)
theorem kh_874_ok : ct_ok wd_fl2 kh_874 := ct_of (ff := wd_ff2) (y := (⟨"UtilityWorksModel", "in", "(III)Z"⟩, prog_14_method_5_code, 3, some .boolean, 12, 0, 3, 32192, 32191, 0, 21014)) (Cs := []) (an := [(14, 0, ([((0, 0, 2, 1), none), ((0, (-2), 1, 1), none), ((0, 0, 3, 1), none)], [(0, 0), (1, 1), (2, 2)], [], [], [], [], [], [], none), [(0, 0, 99986)])]) (ss := []) (K := 1) (fuel := 4000) wd_fl2_ok rfl (List.forall_mem_nil _) (by decide +kernel)
/- UtilityWorksModel isOver -/
def kh_875 : ct_T := (388, [(2, 805, 805, 0), (0, 0, 3, 1), (0, 0, 10, 1)], [], [], [(1, (0, 1, 1, 0), [(2, 805, 805, 0), (0, 0, 3, 1), (0, 0, 10, 1)], [], ([], [])), (1, (0, 0, 0, 0), [(2, 805, 805, 0), (0, 0, 3, 1), (0, 0, 10, 1)], [], ([], []))], [], 2, 43, 0)
theorem kh_875_ok : ct_ok wd_fl2 kh_875 := ct_of (ff := wd_ff2) (y := (⟨"UtilityWorksModel", "isOver", "(II)Z"⟩, prog_14_method_318_code, 4, some .boolean, 12, 1, 2, 33089, 33088, 6011, 21014)) (Cs := [kh_871, kh_872, kh_870, kh_874]) (an := [(24, 0, ([((2, 805, 805, 0), none), ((0, 0, 3, 1), none), ((0, 0, 10, 1), none)], [(0, 0), (1, 1), (2, 2)], [], [], [], [], [], [], none), [(0, 0, 99976)]), (59, 0, ([((2, 805, 805, 0), none), ((0, 0, 3, 1), none), ((0, 0, 10, 1), none), ((0, 0, 1, 1), none)], [(0, 0), (1, 1), (2, 2), (3, 3)], [], [], [], [], [], [], none), [(0, 0, 99941)])]) (ss := []) (K := 1) (fuel := 4000) wd_fl2_ok rfl (List.forall_mem_cons.mpr ⟨kh_871_ok, (List.forall_mem_cons.mpr ⟨kh_872_ok, (List.forall_mem_cons.mpr ⟨kh_870_ok, (List.forall_mem_cons.mpr ⟨kh_874_ok, (List.forall_mem_nil _)⟩)⟩)⟩)⟩) (by decide +kernel)
/- UtilityWorksModel stormCell -/
def kh_876 : ct_T := (384, [(2, 805, 805, 0), (0, 0, 3, 1), (0, 1, 1, 0)], [], [], [(1, (0, (-2147483648), 2147483647, 1), [(2, 805, 805, 0), (0, 0, 3, 1), (0, 1, 1, 0)], [], ([], []))], [], 0, 0, 0)
theorem kh_876_ok : ct_ok wd_fl2 kh_876 := ct_of (ff := wd_ff2) (y := (⟨"UtilityWorksModel", "stormCell", "(II)I"⟩, prog_14_method_316_code, 3, some .int, 12, 1, 2, 33073, 33072, 6007, 21014)) (Cs := []) (an := []) (ss := []) (K := 1) (fuel := 4000) wd_fl2_ok rfl (List.forall_mem_nil _) (by decide +kernel)
/- UtilityWorksModel forceAt -/
def kh_877 : ct_T := (387, [(2, 805, 805, 0), (0, 0, 10, 1)], [], [], [(1, (0, (-2147483648), 2147483647, 1), [(2, 805, 805, 0), (0, 0, 10, 1)], [], ([], []))], [], 3, 66, 0)
theorem kh_877_ok : ct_ok wd_fl2 kh_877 := ct_of (ff := wd_ff2) (y := (⟨"UtilityWorksModel", "forceAt", "(I)I"⟩, prog_14_method_319_code, 4, some .int, 12, 1, 1, 33085, 33084, 6010, 21014)) (Cs := [kh_875, kh_876]) (an := [(4, 0, ([((2, 805, 805, 0), none), ((0, 0, 10, 1), none), ((0, (-2147483648), 2147483647, 1), none), ((0, 0, 4, 1), none)], [(0, 0), (1, 1), (2, 2), (3, 3)], [], [], [], [], [], [], none), [(0, 0, 99996), (1, 3, 4), (0, 0, 99996)]), (37, 0, ([((2, 805, 805, 0), none), ((0, 0, 10, 1), none), ((0, (-2147483648), 2147483647, 1), none), ((0, 0, 3, 1), none)], [(0, 0), (1, 1), (2, 2), (3, 3)], [], [], [], [], [], [], none), [(0, 0, 99996), (1, 3, 4), (0, 0, 99963)])]) (ss := []) (K := 3) (fuel := 4000) wd_fl2_ok rfl (List.forall_mem_cons.mpr ⟨kh_875_ok, (List.forall_mem_cons.mpr ⟨kh_876_ok, (List.forall_mem_nil _)⟩)⟩) (by decide +kernel)
/- UtilityWorksModel tears -/
def kh_878 : ct_T := (386, [(2, 805, 805, 0), (0, 0, 10, 1)], [], [], [(1, (0, 1, 1, 0), [(2, 805, 805, 0), (0, 0, 10, 1)], [], ([], [])), (1, (0, 0, 0, 0), [(2, 805, 805, 0), (0, 0, 10, 1)], [], ([], []))], [], 4, 89, 0)
theorem kh_878_ok : ct_ok wd_fl2 kh_878 := ct_of (ff := wd_ff2) (y := (⟨"UtilityWorksModel", "tears", "(I)Z"⟩, prog_14_method_325_code, 3, some .boolean, 12, 1, 1, 33081, 33080, 6009, 21014)) (Cs := [kh_877, kh_heightOf]) (an := [(30, 0, ([((2, 805, 805, 0), none), ((0, 0, 10, 1), none), ((0, (-2147483648), 2147483647, 1), none)], [(0, 0), (1, 1), (2, 2)], [], [], [], [], [], [], none), [(0, 0, 99970)])]) (ss := []) (K := 1) (fuel := 4000) wd_fl2_ok rfl (List.forall_mem_cons.mpr ⟨kh_877_ok, (List.forall_mem_cons.mpr ⟨kh_heightOf_ok, (List.forall_mem_nil _)⟩)⟩) (by decide +kernel)
/- UtilityWorksModel isOver -/
def kh_879 : ct_T := (388, [(2, 805, 805, 0), (0, 0, 3, 1), (0, 1, 11, 1)], [], [], [(1, (0, 1, 1, 0), [(2, 805, 805, 0), (0, 0, 3, 1), (0, 1, 11, 1)], [], ([], [])), (1, (0, 0, 0, 0), [(2, 805, 805, 0), (0, 0, 3, 1), (0, 1, 11, 1)], [], ([], []))], [], 2, 43, 0)
theorem kh_879_ok : ct_ok wd_fl2 kh_879 := ct_of (ff := wd_ff2) (y := (⟨"UtilityWorksModel", "isOver", "(II)Z"⟩, prog_14_method_318_code, 4, some .boolean, 12, 1, 2, 33089, 33088, 6011, 21014)) (Cs := [kh_871, kh_872, kh_870, kh_874]) (an := [(24, 0, ([((2, 805, 805, 0), none), ((0, 0, 3, 1), none), ((0, 1, 11, 1), none)], [(0, 0), (1, 1), (2, 2)], [], [], [], [], [], [], none), [(0, 0, 99976)]), (59, 0, ([((2, 805, 805, 0), none), ((0, 0, 3, 1), none), ((0, 1, 11, 1), none), ((0, 0, 1, 1), none)], [(0, 0), (1, 1), (2, 2), (3, 3)], [], [], [], [], [], [], none), [(0, 0, 99941)])]) (ss := []) (K := 1) (fuel := 4000) wd_fl2_ok rfl (List.forall_mem_cons.mpr ⟨kh_871_ok, (List.forall_mem_cons.mpr ⟨kh_872_ok, (List.forall_mem_cons.mpr ⟨kh_870_ok, (List.forall_mem_cons.mpr ⟨kh_874_ok, (List.forall_mem_nil _)⟩)⟩)⟩)⟩) (by decide +kernel)
/- UtilityWorksModel forceAt -/
def kh_880 : ct_T := (387, [(2, 805, 805, 0), (0, 1, 11, 1)], [], [], [(1, (0, (-2147483648), 2147483647, 1), [(2, 805, 805, 0), (0, 1, 11, 1)], [], ([], []))], [], 3, 66, 0)
theorem kh_880_ok : ct_ok wd_fl2 kh_880 := ct_of (ff := wd_ff2) (y := (⟨"UtilityWorksModel", "forceAt", "(I)I"⟩, prog_14_method_319_code, 4, some .int, 12, 1, 1, 33085, 33084, 6010, 21014)) (Cs := [kh_879, kh_876]) (an := [(4, 0, ([((2, 805, 805, 0), none), ((0, 1, 11, 1), none), ((0, (-2147483648), 2147483647, 1), none), ((0, 0, 4, 1), none)], [(0, 0), (1, 1), (2, 2), (3, 3)], [], [], [], [], [], [], none), [(0, 0, 99996), (1, 3, 4), (0, 0, 99996)]), (37, 0, ([((2, 805, 805, 0), none), ((0, 1, 11, 1), none), ((0, (-2147483648), 2147483647, 1), none), ((0, 0, 3, 1), none)], [(0, 0), (1, 1), (2, 2), (3, 3)], [], [], [], [], [], [], none), [(0, 0, 99996), (1, 3, 4), (0, 0, 99963)])]) (ss := []) (K := 3) (fuel := 4000) wd_fl2_ok rfl (List.forall_mem_cons.mpr ⟨kh_879_ok, (List.forall_mem_cons.mpr ⟨kh_876_ok, (List.forall_mem_nil _)⟩)⟩) (by decide +kernel)
/- UtilityWorksModel tears -/
def kh_881 : ct_T := (386, [(2, 805, 805, 0), (0, 1, 11, 1)], [], [], [(1, (0, 1, 1, 0), [(2, 805, 805, 0), (0, 1, 11, 1)], [], ([], [])), (1, (0, 0, 0, 0), [(2, 805, 805, 0), (0, 1, 11, 1)], [], ([], []))], [], 4, 89, 0)
theorem kh_881_ok : ct_ok wd_fl2 kh_881 := ct_of (ff := wd_ff2) (y := (⟨"UtilityWorksModel", "tears", "(I)Z"⟩, prog_14_method_325_code, 3, some .boolean, 12, 1, 1, 33081, 33080, 6009, 21014)) (Cs := [kh_880, kh_heightOf]) (an := [(30, 0, ([((2, 805, 805, 0), none), ((0, 1, 11, 1), none), ((0, (-2147483648), 2147483647, 1), none)], [(0, 0), (1, 1), (2, 2)], [], [], [], [], [], [], none), [(0, 0, 99970)])]) (ss := []) (K := 1) (fuel := 4000) wd_fl2_ok rfl (List.forall_mem_cons.mpr ⟨kh_880_ok, (List.forall_mem_cons.mpr ⟨kh_heightOf_ok, (List.forall_mem_nil _)⟩)⟩) (by decide +kernel)
/- UtilityWorksModel breakLink -/
def kh_882 : ct_T := (374, [(2, 805, 805, 0), (0, 0, 0, 0), (0, 0, 16, 1)], [], [], [(0, (0, 0, 0, 0), [(2, 805, 805, 0), (0, 0, 0, 0), (0, 0, 16, 1)], [], ([], []))], [((806, 806), (142, 342, 4))], 1, 22, 0)
theorem kh_882_ok : ct_ok wd_fl2 kh_882 := ct_of (ff := wd_ff2) (y := (⟨"UtilityWorksModel", "breakLink", "(II)V"⟩, prog_14_method_27_code, 3, none, 12, 1, 2, 33033, 33032, 6000, 21014)) (Cs := [kh_link]) (an := []) (ss := []) (K := 1) (fuel := 4000) wd_fl2_ok rfl (List.forall_mem_cons.mpr ⟨kh_link_l2, (List.forall_mem_nil _)⟩) (by decide +kernel)
/- UtilityWorksModel reports -/
def kh_883 : ct_T := (390, [(2, 805, 805, 0), (0, 0, 0, 0), (0, 1, 1, 0)], [], [], [(0, (0, 0, 0, 0), [(2, 805, 805, 0), (0, 0, 0, 0), (0, 1, 1, 0)], [], ([], []))], [((806, 806), (7, 7, 0))], 0, 0, 0)
theorem kh_883_ok : ct_ok wd_fl2 kh_883 := ct_of (ff := wd_ff2) (y := (⟨"UtilityWorksModel", "reports", "(II)V"⟩, prog_14_method_315_code, 3, none, 12, 1, 2, 33097, 33096, 6013, 21014)) (Cs := []) (an := []) (ss := []) (K := 1) (fuel := 4000) wd_fl2_ok rfl (List.forall_mem_nil _) (by decide +kernel)
/- UtilityWorksModel linesBreak -/
def kh_884 : ct_T := (385, [(2, 805, 805, 0)], [], [], [(0, (0, 0, 0, 0), [(2, 805, 805, 0)], [], ([], []))], [((806, 806), (7, 7, 0)), ((806, 806), (142, 342, 4)), ((806, 806), (503, 515, 4))], 5, 111, 0)
theorem kh_884_ok : ct_ok wd_fl2 kh_884 := ct_of (ff := wd_ff2) (y := (⟨"UtilityWorksModel", "linesBreak", "()V"⟩, prog_14_method_326_code, 3, none, 12, 1, 0, 33077, 33076, 6008, 21014)) (Cs := [kh_isFine, kh_290, kh_878, kh_291, kh_881, kh_882, kh_883, kh_875, kh_879]) (an := [(2, 0, ([((2, 805, 805, 0), none), ((0, 0, 17, 1), none)], [(0, 0), (1, 1)], [], [], [], [], [], [], none), [(0, 0, 99998), (1, 1, 17), (0, 0, 99998), (0, 0, 0), (0, 0, 0)]), (39, 0, ([((2, 805, 805, 0), none), ((0, 0, 16, 1), none)], [(0, 0), (1, 1)], [], [], [], [], [], [], none), [(0, 0, 99998), (1, 1, 17), (0, 0, 99961), (0, 0, 0), (0, 0, 0)]), (53, 0, ([((2, 805, 805, 0), none), ((0, 0, 16, 1), none), ((0, 0, 4, 1), none)], [(0, 0), (1, 1), (2, 2)], [], [], [], [], [], [], none), [(0, 0, 99998), (1, 1, 17), (0, 0, 99947), (1, 2, 4), (0, 0, 99947)]), (110, 0, ([((2, 805, 805, 0), none), ((0, 0, 16, 1), none)], [(0, 0), (1, 1)], [], [], [], [], [], [], none), [(0, 0, 99998), (1, 1, 17), (0, 0, 99890), (0, 0, 0), (0, 0, 0)])]) (ss := []) (K := 5) (fuel := 4000) wd_fl2_ok rfl (List.forall_mem_cons.mpr ⟨kh_isFine_l2, (List.forall_mem_cons.mpr ⟨kh_290_l2, (List.forall_mem_cons.mpr ⟨kh_878_ok, (List.forall_mem_cons.mpr ⟨kh_291_l2, (List.forall_mem_cons.mpr ⟨kh_881_ok, (List.forall_mem_cons.mpr ⟨kh_882_ok, (List.forall_mem_cons.mpr ⟨kh_883_ok, (List.forall_mem_cons.mpr ⟨kh_875_ok, (List.forall_mem_cons.mpr ⟨kh_879_ok, (List.forall_mem_nil _)⟩)⟩)⟩)⟩)⟩)⟩)⟩)⟩)⟩) (by decide +kernel)
/- UtilityWorksModel isWet -/
def kh_885 : ct_T := (391, [(2, 805, 805, 0), (0, 0, 16, 1), (0, (-2147483648), 2147483647, 1)], [], [], [(1, (0, 1, 1, 0), [(2, 805, 805, 0), (0, 0, 16, 1), (0, (-2147483648), 2147483647, 1)], [], ([], [])), (1, (0, 0, 0, 0), [(2, 805, 805, 0), (0, 0, 16, 1), (0, (-2147483648), 2147483647, 1)], [], ([], []))], [], 2, 40, 0)
theorem kh_885_ok : ct_ok wd_fl2 kh_885 := ct_of (ff := wd_ff2) (y := (⟨"UtilityWorksModel", "isWet", "(II)Z"⟩, prog_14_method_322_code, 3, some .boolean, 12, 1, 2, 33101, 33100, 6014, 21014)) (Cs := [kh_290, kh_heightOf, kh_291]) (an := [(32, 0, ([((2, 805, 805, 0), none), ((0, 0, 16, 1), none), ((0, (-2147483648), 2147483647, 1), none)], [(0, 0), (1, 1), (2, 2)], [], [], [], [], [], [], none), [(0, 0, 99968)])]) (ss := []) (K := 1) (fuel := 4000) wd_fl2_ok rfl (List.forall_mem_cons.mpr ⟨kh_290_l2, (List.forall_mem_cons.mpr ⟨kh_heightOf_ok, (List.forall_mem_cons.mpr ⟨kh_291_l2, (List.forall_mem_nil _)⟩)⟩)⟩) (by decide +kernel)
/- UtilityWorksModel reports -/
def kh_886 : ct_T := (390, [(2, 805, 805, 0), (0, 5, 5, 0), (0, 1, 1, 0)], [], [], [(0, (0, 0, 0, 0), [(2, 805, 805, 0), (0, 5, 5, 0), (0, 1, 1, 0)], [], ([], []))], [((806, 806), (12, 12, 0))], 0, 0, 0)
theorem kh_886_ok : ct_ok wd_fl2 kh_886 := ct_of (ff := wd_ff2) (y := (⟨"UtilityWorksModel", "reports", "(II)V"⟩, prog_14_method_315_code, 3, none, 12, 1, 2, 33097, 33096, 6013, 21014)) (Cs := []) (an := []) (ss := []) (K := 1) (fuel := 4000) wd_fl2_ok rfl (List.forall_mem_nil _) (by decide +kernel)
/- UtilityWorksModel reports -/
def kh_887 : ct_T := (390, [(2, 805, 805, 0), (0, 5, 5, 0), (0, 0, 0, 0)], [], [], [(0, (0, 0, 0, 0), [(2, 805, 805, 0), (0, 5, 5, 0), (0, 0, 0, 0)], [], ([], []))], [((806, 806), (12, 12, 0))], 0, 0, 0)
theorem kh_887_ok : ct_ok wd_fl2 kh_887 := ct_of (ff := wd_ff2) (y := (⟨"UtilityWorksModel", "reports", "(II)V"⟩, prog_14_method_315_code, 3, none, 12, 1, 2, 33097, 33096, 6013, 21014)) (Cs := []) (an := []) (ss := []) (K := 1) (fuel := 4000) wd_fl2_ok rfl (List.forall_mem_nil _) (by decide +kernel)
/- UtilityWorksModel weatherDay -/
def kh_888 : ct_T := (379, [(2, 805, 805, 0)], [], [], [(0, (0, 0, 0, 0), [(2, 805, 805, 0)], [], ([], []))], [((806, 806), (1, 1, 0)), ((806, 806), (2, 2, 0)), ((806, 806), (3, 3, 0)), ((806, 806), (5, 5, 0)), ((806, 806), (7, 7, 0)), ((806, 806), (12, 12, 0)), ((806, 806), (83, 99, 1)), ((806, 806), (142, 342, 4)), ((806, 806), (500, 512, 4)), ((806, 806), (502, 514, 4)), ((806, 806), (503, 515, 4))], 6, 133, 0)
theorem kh_888_ok : ct_ok wd_fl2 kh_888 := ct_of (ff := wd_ff2) (y := (⟨"UtilityWorksModel", "weatherDay", "()V"⟩, prog_14_method_327_code, 3, none, 12, 1, 0, 33052, 33051, 6002, 21014)) (Cs := [kh_868, kh_873, kh_884, kh_885, kh_886, kh_887]) (an := [(14, 0, ([((2, 805, 805, 0), none)], [(0, 0)], [], [], [], [], [], [], none), [(0, 0, 99986), (0, 0, 0), (0, 0, 0)]), (24, 0, ([((2, 805, 805, 0), none), ((0, 0, 17, 1), none)], [(0, 0), (1, 1)], [], [], [], [], [], [], none), [(0, 0, 99976), (1, 1, 17), (0, 0, 99976)])]) (ss := []) (K := 3) (fuel := 4000) wd_fl2_ok rfl (List.forall_mem_cons.mpr ⟨kh_868_ok, (List.forall_mem_cons.mpr ⟨kh_873_ok, (List.forall_mem_cons.mpr ⟨kh_884_ok, (List.forall_mem_cons.mpr ⟨kh_885_ok, (List.forall_mem_cons.mpr ⟨kh_886_ok, (List.forall_mem_cons.mpr ⟨kh_887_ok, (List.forall_mem_nil _)⟩)⟩)⟩)⟩)⟩)⟩) (by decide +kernel)
/- UtilityWorksModel isShed -/
def kh_889 : ct_T := (458, [(2, 805, 805, 0), (0, 0, 9, 1)], [], [], [(1, (0, 1, 1, 0), [(2, 805, 805, 0), (0, 0, 9, 1)], [], ([], [])), (1, (0, 0, 0, 0), [(2, 805, 805, 0), (0, 0, 9, 1)], [], ([], []))], [], 3, 64, 0)
theorem kh_889_ok : ct_ok wd_fl2 kh_889 := ct_of (ff := wd_ff2) (y := (⟨"UtilityWorksModel", "isShed", "(I)Z"⟩, prog_14_method_93_code, 2, some .boolean, 12, 1, 1, 34125, 34124, 10013, 21014)) (Cs := [kh_400]) (an := [(21, 0, ([((2, 805, 805, 0), none), ((0, 0, 9, 1), none)], [(0, 0), (1, 1)], [], [], [], [], [], [], none), [(0, 0, 99979)])]) (ss := []) (K := 1) (fuel := 4000) wd_fl2_ok rfl (List.forall_mem_cons.mpr ⟨kh_400_l2, (List.forall_mem_nil _)⟩) (by decide +kernel)
/- UtilityWorksModel reports -/
def kh_890 : ct_T := (390, [(2, 805, 805, 0), (0, 2, 2, 0), (0, 1, 1, 0)], [], [], [(0, (0, 0, 0, 0), [(2, 805, 805, 0), (0, 2, 2, 0), (0, 1, 1, 0)], [], ([], []))], [((806, 806), (9, 9, 0))], 0, 0, 0)
theorem kh_890_ok : ct_ok wd_fl2 kh_890 := ct_of (ff := wd_ff2) (y := (⟨"UtilityWorksModel", "reports", "(II)V"⟩, prog_14_method_315_code, 3, none, 12, 1, 2, 33097, 33096, 6013, 21014)) (Cs := []) (an := []) (ss := []) (K := 1) (fuel := 4000) wd_fl2_ok rfl (List.forall_mem_nil _) (by decide +kernel)
/- UtilityWorksModel powerDay -/
def kh_891 : ct_T := (432, [(2, 805, 805, 0)], [], [], [(0, (0, 0, 0, 0), [(2, 805, 805, 0)], [], ([], []))], [((805, 805), (21, 21, 0)), ((805, 805), (22, 22, 0)), ((805, 805), (23, 23, 0)), ((805, 805), (24, 24, 0)), ((805, 805), (25, 25, 0)), ((806, 806), (9, 9, 0)), ((806, 806), (143, 343, 4)), ((806, 806), (344, 360, 1)), ((806, 806), (490, 499, 1)), ((807, 807), (0, 0, 0)), ((807, 807), (1, 1, 0)), ((807, 807), (2, 2, 0)), ((807, 807), (3, 3, 0)), ((807, 807), (4, 4, 0)), ((807, 807), (5, 5, 0)), ((815, 815), (0, 16, 1)), ((816, 816), (0, 16, 1)), ((817, 817), (0, 11, 1)), ((818, 818), (0, 3, 1)), ((819, 819), (0, 11, 1)), ((820, 820), (0, 16, 1)), ((821, 821), (0, 2, 1)), ((822, 822), (0, 1, 1)), ((823, 823), (0, 9, 1)), ((824, 824), (0, 9, 1)), ((825, 825), (0, 11, 1)), ((858, 858), (0, 9, 1))], 6, 131, 0)
theorem kh_891_ok : ct_ok wd_fl2 kh_891 := ct_of (ff := wd_ff2) (y := (⟨"UtilityWorksModel", "powerDay", "()V"⟩, prog_14_method_94_code, 2, none, 12, 1, 0, 34022, 34021, 9004, 21014)) (Cs := [kh_powerDeal, kh_link, kh_393, kh_889, kh_890]) (an := [(6, 0, ([((2, 805, 805, 0), none), ((0, 0, 17, 1), none)], [(0, 0), (1, 1)], [], [], [], [], [], [], none), [(0, 0, 99994), (1, 1, 17), (0, 0, 99994)]), (56, 0, ([((2, 805, 805, 0), none), ((0, 0, 16, 1), none)], [(0, 0), (1, 1)], [], [], [], [], [], [], none), [(0, 0, 99994), (1, 1, 17), (0, 0, 99944)]), (64, 0, ([((2, 805, 805, 0), none), ((0, 0, 10, 1), none)], [(0, 0), (1, 1)], [], [], [], [], [], [], none), [(0, 0, 99936), (1, 1, 10), (0, 0, 99936)]), (110, 0, ([((2, 805, 805, 0), none), ((0, 0, 9, 1), none)], [(0, 0), (1, 1)], [], [], [], [], [], [], none), [(0, 0, 99936), (1, 1, 10), (0, 0, 99890)])]) (ss := []) (K := 3) (fuel := 4000) wd_fl2_ok rfl (List.forall_mem_cons.mpr ⟨kh_powerDeal_l2, (List.forall_mem_cons.mpr ⟨kh_link_l2, (List.forall_mem_cons.mpr ⟨kh_393_l2, (List.forall_mem_cons.mpr ⟨kh_889_ok, (List.forall_mem_cons.mpr ⟨kh_890_ok, (List.forall_mem_nil _)⟩)⟩)⟩)⟩)⟩) (by decide +kernel)
/- UtilityWorksModel reports -/
def kh_892 : ct_T := (390, [(2, 805, 805, 0), (0, 3, 3, 0), (0, 0, 0, 0)], [], [], [(0, (0, 0, 0, 0), [(2, 805, 805, 0), (0, 3, 3, 0), (0, 0, 0, 0)], [], ([], []))], [((806, 806), (10, 10, 0))], 0, 0, 0)
theorem kh_892_ok : ct_ok wd_fl2 kh_892 := ct_of (ff := wd_ff2) (y := (⟨"UtilityWorksModel", "reports", "(II)V"⟩, prog_14_method_315_code, 3, none, 12, 1, 2, 33097, 33096, 6013, 21014)) (Cs := []) (an := []) (ss := []) (K := 1) (fuel := 4000) wd_fl2_ok rfl (List.forall_mem_nil _) (by decide +kernel)
/- UtilityWorksModel reports -/
def kh_893 : ct_T := (390, [(2, 805, 805, 0), (0, 3, 3, 0), (0, 1, 1, 0)], [], [], [(0, (0, 0, 0, 0), [(2, 805, 805, 0), (0, 3, 3, 0), (0, 1, 1, 0)], [], ([], []))], [((806, 806), (10, 10, 0))], 0, 0, 0)
theorem kh_893_ok : ct_ok wd_fl2 kh_893 := ct_of (ff := wd_ff2) (y := (⟨"UtilityWorksModel", "reports", "(II)V"⟩, prog_14_method_315_code, 3, none, 12, 1, 2, 33097, 33096, 6013, 21014)) (Cs := []) (an := []) (ss := []) (K := 1) (fuel := 4000) wd_fl2_ok rfl (List.forall_mem_nil _) (by decide +kernel)
/- UtilityWorksModel wLevelThen -/
def kh_894 : ct_T := (478, [(2, 805, 805, 0), (0, 0, 3, 1)], [], [], [(1, (0, (-2147483648), 2147483647, 1), [(2, 805, 805, 0), (0, 0, 3, 1)], [], ([], []))], [], 0, 0, 0)
theorem kh_894_ok : ct_ok wd_fl2 kh_894 := ct_of (ff := wd_ff2) (y := (⟨"UtilityWorksModel", "wLevelThen", "(I)I"⟩, prog_14_method_135_code, 2, some .int, 12, 1, 1, 34205, 34204, 12001, 21014)) (Cs := []) (an := []) (ss := []) (K := 1) (fuel := 4000) wd_fl2_ok rfl (List.forall_mem_nil _) (by decide +kernel)
/- UtilityWorksModel breakLink -/
def kh_895 : ct_T := (374, [(2, 805, 805, 0), (0, 1, 1, 0), (0, 0, 16, 1)], [], [], [(0, (0, 0, 0, 0), [(2, 805, 805, 0), (0, 1, 1, 0), (0, 0, 16, 1)], [], ([], []))], [((806, 806), (142, 342, 4))], 1, 22, 0)
theorem kh_895_ok : ct_ok wd_fl2 kh_895 := ct_of (ff := wd_ff2) (y := (⟨"UtilityWorksModel", "breakLink", "(II)V"⟩, prog_14_method_27_code, 3, none, 12, 1, 2, 33033, 33032, 6000, 21014)) (Cs := [kh_link]) (an := []) (ss := []) (K := 1) (fuel := 4000) wd_fl2_ok rfl (List.forall_mem_cons.mpr ⟨kh_link_l2, (List.forall_mem_nil _)⟩) (by decide +kernel)
/- UtilityWorksModel reports -/
def kh_896 : ct_T := (390, [(2, 805, 805, 0), (0, 1, 1, 0), (0, 1, 1, 0)], [], [], [(0, (0, 0, 0, 0), [(2, 805, 805, 0), (0, 1, 1, 0), (0, 1, 1, 0)], [], ([], []))], [((806, 806), (8, 8, 0))], 0, 0, 0)
theorem kh_896_ok : ct_ok wd_fl2 kh_896 := ct_of (ff := wd_ff2) (y := (⟨"UtilityWorksModel", "reports", "(II)V"⟩, prog_14_method_315_code, 3, none, 12, 1, 2, 33097, 33096, 6013, 21014)) (Cs := []) (an := []) (ss := []) (K := 1) (fuel := 4000) wd_fl2_ok rfl (List.forall_mem_nil _) (by decide +kernel)
/- UtilityWorksModel wStrain -/
def kh_897 : ct_T := (479, [(2, 805, 805, 0), (0, 0, 16, 1)], [], [], [(0, (0, 0, 0, 0), [(2, 805, 805, 0), (0, 0, 16, 1)], [], ([], []))], [((806, 806), (8, 8, 0)), ((806, 806), (142, 342, 4)), ((806, 806), (1047, 1063, 1))], 2, 44, 0)
theorem kh_897_ok : ct_ok wd_fl2 kh_897 := ct_of (ff := wd_ff2) (y := (⟨"UtilityWorksModel", "wStrain", "(I)V"⟩, prog_14_method_133_code, 5, none, 12, 1, 1, 34209, 34208, 12002, 21014)) (Cs := [kh_424, kh_895, kh_896]) (an := [(121, 0, ([((2, 805, 805, 0), none), ((0, 0, 16, 1), none), ((0, (-40), 30, 1), none), ((0, 0, 1998, 1), none), ((0, (-2147483648), 2147483647, 1), none)], [(0, 0), (1, 1), (2, 2), (3, 3), (4, 4)], [], [], [], [], [], [], none), [(0, 0, 99879)])]) (ss := []) (K := 1) (fuel := 4000) wd_fl2_ok rfl (List.forall_mem_cons.mpr ⟨kh_424_l2, (List.forall_mem_cons.mpr ⟨kh_895_ok, (List.forall_mem_cons.mpr ⟨kh_896_ok, (List.forall_mem_nil _)⟩)⟩)⟩) (by decide +kernel)
/- UtilityWorksModel waterDay -/
def kh_898 : ct_T := (459, [(2, 805, 805, 0)], [], [], [(0, (0, 0, 0, 0), [(2, 805, 805, 0)], [], ([], []))], [((805, 805), (46, 46, 0)), ((805, 805), (47, 47, 0)), ((805, 805), (48, 48, 0)), ((806, 806), (8, 8, 0)), ((806, 806), (10, 10, 0)), ((806, 806), (142, 342, 4)), ((806, 806), (1016, 1028, 4)), ((806, 806), (1047, 1063, 1)), ((806, 806), (1064, 1075, 1)), ((807, 807), (20, 20, 0)), ((807, 807), (21, 21, 0)), ((807, 807), (22, 22, 0)), ((807, 807), (23, 23, 0)), ((807, 807), (24, 24, 0)), ((827, 827), (0, 2, 1)), ((827, 827), (3, 6, 1)), ((828, 828), (0, 2, 1)), ((828, 828), (3, 6, 1)), ((829, 829), (0, 6, 1)), ((830, 830), (0, 6, 1)), ((831, 831), (0, 11, 1)), ((832, 832), (0, 11, 1)), ((833, 833), (0, 11, 1)), ((834, 834), (0, 11, 1)), ((835, 835), (0, 11, 1)), ((836, 836), (0, 11, 1)), ((837, 837), (0, 11, 1)), ((838, 838), (0, 11, 1)), ((839, 839), (0, 33, 1)), ((840, 840), (0, 11, 1)), ((841, 841), (0, 10, 1)), ((843, 843), (0, 1, 1)), ((844, 844), (0, 9, 1)), ((845, 845), (0, 11, 1)), ((858, 858), (0, 9, 1))], 9, 209, 0)
theorem kh_898_ok : ct_ok wd_fl2 kh_898 := ct_of (ff := wd_ff2) (y := (⟨"UtilityWorksModel", "waterDay", "()V"⟩, prog_14_method_134_code, 2, none, 12, 1, 0, 34129, 34128, 10014, 21014)) (Cs := [kh_waterDeal, kh_892, kh_893, kh_894, kh_hasLink, kh_isFine, kh_897]) (an := [(6, 0, ([((2, 805, 805, 0), none), ((0, 0, 12, 1), none)], [(0, 0), (1, 1)], [], [], [], [], [], [], none), [(0, 0, 99994), (1, 1, 12), (0, 0, 99994)]), (142, 0, ([((2, 805, 805, 0), none), ((0, 0, 3, 1), none)], [(0, 0), (1, 1)], [], [], [], [], [], [], none), [(0, 0, 99858), (1, 1, 3), (0, 0, 99858)]), (172, 0, ([((2, 805, 805, 0), none), ((0, 0, 4, 1), none)], [(0, 0), (1, 1)], [], [], [], [], [], [], none), [(0, 0, 99828), (1, 1, 4), (0, 0, 99828)]), (211, 0, ([((2, 805, 805, 0), none), ((0, 0, 17, 1), none)], [(0, 0), (1, 1)], [], [], [], [], [], [], none), [(0, 0, 99789), (1, 1, 17), (0, 0, 99789)]), (240, 0, ([((2, 805, 805, 0), none), ((0, 0, 16, 1), none)], [(0, 0), (1, 1)], [], [], [], [], [], [], none), [(0, 0, 99789), (1, 1, 17), (0, 0, 99760)])]) (ss := []) (K := 3) (fuel := 4000) wd_fl2_ok rfl (List.forall_mem_cons.mpr ⟨kh_waterDeal_ok, (List.forall_mem_cons.mpr ⟨kh_892_ok, (List.forall_mem_cons.mpr ⟨kh_893_ok, (List.forall_mem_cons.mpr ⟨kh_894_ok, (List.forall_mem_cons.mpr ⟨kh_hasLink_l2, (List.forall_mem_cons.mpr ⟨kh_isFine_l2, (List.forall_mem_cons.mpr ⟨kh_897_ok, (List.forall_mem_nil _)⟩)⟩)⟩)⟩)⟩)⟩)⟩) (by decide +kernel)
/- UtilityWorksModel mWants -/
def kh_899 : ct_T := (500, [(2, 805, 805, 0), (0, 0, 9, 1), (0, 0, 0, 0)], [], [], [(1, (0, 0, 0, 0), [(2, 805, 805, 0), (0, 0, 9, 1), (0, 0, 0, 0)], [], ([], [])), (1, (0, (-2147483648), 2147483647, 1), [(2, 805, 805, 0), (0, 0, 9, 1), (0, 0, 0, 0)], [], ([], []))], [], 2, 43, 0)
theorem kh_899_ok : ct_ok wd_fl2 kh_899 := ct_of (ff := wd_ff2) (y := (⟨"UtilityWorksModel", "mWants", "(II)I"⟩, prog_14_method_205_code, 3, some .int, 12, 1, 2, 35053, 35052, 13007, 21014)) (Cs := [kh_397, kh_399]) (an := []) (ss := []) (K := 1) (fuel := 4000) wd_fl2_ok rfl (List.forall_mem_cons.mpr ⟨kh_397_l2, (List.forall_mem_cons.mpr ⟨kh_399_l2, (List.forall_mem_nil _)⟩)⟩) (by decide +kernel)
/- UtilityWorksModel mC -/
def kh_900 : ct_T := (338, [(0, 0, 9, 1), (0, 6, 6, 0)], [], [], [(1, (0, 1307, 1451, 16), [(0, 0, 9, 1), (0, 6, 6, 0)], [], ([], []))], [], 0, 0, 0)
theorem kh_900_ok : ct_ok wd_fl2 kh_900 := ct_of (ff := wd_ff2) (y := (⟨"UtilityWorksModel", "mC", "(II)I"⟩, prog_14_method_192_code, 2, some .int, 12, 0, 2, 31168, 31167, 0, 21014)) (Cs := []) (an := []) (ss := []) (K := 1) (fuel := 4000) wd_fl2_ok rfl (List.forall_mem_nil _) (by decide +kernel)
/- UtilityWorksModel mC -/
def kh_901 : ct_T := (338, [(0, 0, 9, 1), (0, 9, 9, 0)], [], [], [(1, (0, 1310, 1454, 16), [(0, 0, 9, 1), (0, 9, 9, 0)], [], ([], []))], [], 0, 0, 0)
theorem kh_901_ok : ct_ok wd_fl2 kh_901 := ct_of (ff := wd_ff2) (y := (⟨"UtilityWorksModel", "mC", "(II)I"⟩, prog_14_method_192_code, 2, some .int, 12, 0, 2, 31168, 31167, 0, 21014)) (Cs := []) (an := []) (ss := []) (K := 1) (fuel := 4000) wd_fl2_ok rfl (List.forall_mem_nil _) (by decide +kernel)
/- UtilityWorksModel mTurn -/
def kh_902 : ct_T := (501, [(2, 805, 805, 0), (0, 0, 9, 1), (0, 0, 0, 0), (0, (-2147483648), 2147483647, 1)], [], [], [(0, (0, 0, 0, 0), [(2, 805, 805, 0), (0, 0, 9, 1), (0, 0, 0, 0), (0, (-2147483648), 2147483647, 1)], [], ([], []))], [((806, 806), (1461, 1758, 33)), ((806, 806), (1462, 1759, 33))], 1, 22, 0)
theorem kh_902_ok : ct_ok wd_fl2 kh_902 := ct_of (ff := wd_ff2) (y := (⟨"UtilityWorksModel", "mTurn", "(III)V"⟩, prog_14_method_206_code, 6, none, 12, 1, 3, 35057, 35056, 13008, 21014)) (Cs := [kh_604]) (an := []) (ss := []) (K := 1) (fuel := 4000) wd_fl2_ok rfl (List.forall_mem_cons.mpr ⟨kh_604_ok, (List.forall_mem_nil _)⟩) (by decide +kernel)
/- UtilityWorksModel mTurn -/
def kh_903 : ct_T := (501, [(2, 805, 805, 0), (0, 0, 9, 1), (0, 0, 0, 0), (0, 0, 0, 1)], [], [], [(0, (0, 0, 0, 0), [(2, 805, 805, 0), (0, 0, 9, 1), (0, 0, 0, 0), (0, 0, 0, 1)], [], ([], []))], [((806, 806), (1461, 1758, 33)), ((806, 806), (1462, 1759, 33))], 1, 22, 0)
theorem kh_903_ok : ct_ok wd_fl2 kh_903 := ct_of (ff := wd_ff2) (y := (⟨"UtilityWorksModel", "mTurn", "(III)V"⟩, prog_14_method_206_code, 6, none, 12, 1, 3, 35057, 35056, 13008, 21014)) (Cs := [kh_604]) (an := []) (ss := []) (K := 1) (fuel := 4000) wd_fl2_ok rfl (List.forall_mem_cons.mpr ⟨kh_604_ok, (List.forall_mem_nil _)⟩) (by decide +kernel)
/- UtilityWorksModel mWants -/
def kh_904 : ct_T := (500, [(2, 805, 805, 0), (0, 0, 9, 1), (0, 1, 1, 0)], [], [], [(1, (0, 0, 0, 0), [(2, 805, 805, 0), (0, 0, 9, 1), (0, 1, 1, 0)], [], ([], [])), (1, (0, (-2147483648), 2147483647, 1), [(2, 805, 805, 0), (0, 0, 9, 1), (0, 1, 1, 0)], [], ([], []))], [], 2, 43, 0)
theorem kh_904_ok : ct_ok wd_fl2 kh_904 := ct_of (ff := wd_ff2) (y := (⟨"UtilityWorksModel", "mWants", "(II)I"⟩, prog_14_method_205_code, 3, some .int, 12, 1, 2, 35053, 35052, 13007, 21014)) (Cs := [kh_566, kh_568]) (an := []) (ss := []) (K := 1) (fuel := 4000) wd_fl2_ok rfl (List.forall_mem_cons.mpr ⟨kh_566_ok, (List.forall_mem_cons.mpr ⟨kh_568_ok, (List.forall_mem_nil _)⟩)⟩) (by decide +kernel)
/- UtilityWorksModel mC -/
def kh_905 : ct_T := (338, [(0, 0, 9, 1), (0, 7, 7, 0)], [], [], [(1, (0, 1308, 1452, 16), [(0, 0, 9, 1), (0, 7, 7, 0)], [], ([], []))], [], 0, 0, 0)
theorem kh_905_ok : ct_ok wd_fl2 kh_905 := ct_of (ff := wd_ff2) (y := (⟨"UtilityWorksModel", "mC", "(II)I"⟩, prog_14_method_192_code, 2, some .int, 12, 0, 2, 31168, 31167, 0, 21014)) (Cs := []) (an := []) (ss := []) (K := 1) (fuel := 4000) wd_fl2_ok rfl (List.forall_mem_nil _) (by decide +kernel)
/- UtilityWorksModel mC -/
def kh_906 : ct_T := (338, [(0, 0, 9, 1), (0, 10, 10, 0)], [], [], [(1, (0, 1311, 1455, 16), [(0, 0, 9, 1), (0, 10, 10, 0)], [], ([], []))], [], 0, 0, 0)
theorem kh_906_ok : ct_ok wd_fl2 kh_906 := ct_of (ff := wd_ff2) (y := (⟨"UtilityWorksModel", "mC", "(II)I"⟩, prog_14_method_192_code, 2, some .int, 12, 0, 2, 31168, 31167, 0, 21014)) (Cs := []) (an := []) (ss := []) (K := 1) (fuel := 4000) wd_fl2_ok rfl (List.forall_mem_nil _) (by decide +kernel)
/- UtilityWorksModel mM -/
def kh_907 : ct_T := (340, [(0, 0, 9, 1), (0, 1, 1, 0), (0, 0, 0, 0)], [], [], [(1, (0, 1472, 1769, 33), [(0, 0, 9, 1), (0, 1, 1, 0), (0, 0, 0, 0)], [], ([], []))], [], 0, 0, 0)
theorem kh_907_ok : ct_ok wd_fl2 kh_907 := ct_of (ff := wd_ff2) (y := (⟨"UtilityWorksModel", "mM", "(III)I"⟩, prog_14_method_193_code, 3, some .int, 12, 0, 3, 31175, 31174, 0, 21014)) (Cs := []) (an := []) (ss := []) (K := 1) (fuel := 4000) wd_fl2_ok rfl (List.forall_mem_nil _) (by decide +kernel)
/- UtilityWorksModel mTurn -/
def kh_908 : ct_T := (501, [(2, 805, 805, 0), (0, 0, 9, 1), (0, 1, 1, 0), (0, (-2147483648), 2147483647, 1)], [], [], [(0, (0, 0, 0, 0), [(2, 805, 805, 0), (0, 0, 9, 1), (0, 1, 1, 0), (0, (-2147483648), 2147483647, 1)], [], ([], []))], [((806, 806), (1472, 1769, 33)), ((806, 806), (1473, 1770, 33))], 1, 22, 0)
theorem kh_908_ok : ct_ok wd_fl2 kh_908 := ct_of (ff := wd_ff2) (y := (⟨"UtilityWorksModel", "mTurn", "(III)V"⟩, prog_14_method_206_code, 6, none, 12, 1, 3, 35057, 35056, 13008, 21014)) (Cs := [kh_907]) (an := []) (ss := []) (K := 1) (fuel := 4000) wd_fl2_ok rfl (List.forall_mem_cons.mpr ⟨kh_907_ok, (List.forall_mem_nil _)⟩) (by decide +kernel)
/- UtilityWorksModel mTurn -/
def kh_909 : ct_T := (501, [(2, 805, 805, 0), (0, 0, 9, 1), (0, 1, 1, 0), (0, 0, 0, 1)], [], [], [(0, (0, 0, 0, 0), [(2, 805, 805, 0), (0, 0, 9, 1), (0, 1, 1, 0), (0, 0, 0, 1)], [], ([], []))], [((806, 806), (1472, 1769, 33)), ((806, 806), (1473, 1770, 33))], 1, 22, 0)
theorem kh_909_ok : ct_ok wd_fl2 kh_909 := ct_of (ff := wd_ff2) (y := (⟨"UtilityWorksModel", "mTurn", "(III)V"⟩, prog_14_method_206_code, 6, none, 12, 1, 3, 35057, 35056, 13008, 21014)) (Cs := [kh_907]) (an := []) (ss := []) (K := 1) (fuel := 4000) wd_fl2_ok rfl (List.forall_mem_cons.mpr ⟨kh_907_ok, (List.forall_mem_nil _)⟩) (by decide +kernel)
/- UtilityWorksModel mWants -/
def kh_910 : ct_T := (500, [(2, 805, 805, 0), (0, 0, 9, 1), (0, 2, 2, 0)], [], [], [(1, (0, 0, 0, 0), [(2, 805, 805, 0), (0, 0, 9, 1), (0, 2, 2, 0)], [], ([], [])), (1, (0, (-2147483648), 2147483647, 1), [(2, 805, 805, 0), (0, 0, 9, 1), (0, 2, 2, 0)], [], ([], []))], [], 2, 43, 0)
theorem kh_910_ok : ct_ok wd_fl2 kh_910 := ct_of (ff := wd_ff2) (y := (⟨"UtilityWorksModel", "mWants", "(II)I"⟩, prog_14_method_205_code, 3, some .int, 12, 1, 2, 35053, 35052, 13007, 21014)) (Cs := [kh_530, kh_532, kh_472]) (an := []) (ss := []) (K := 1) (fuel := 4000) wd_fl2_ok rfl (List.forall_mem_cons.mpr ⟨kh_530_l2, (List.forall_mem_cons.mpr ⟨kh_532_l2, (List.forall_mem_cons.mpr ⟨kh_472_l2, (List.forall_mem_nil _)⟩)⟩)⟩) (by decide +kernel)
/- UtilityWorksModel mC -/
def kh_911 : ct_T := (338, [(0, 0, 9, 1), (0, 8, 8, 0)], [], [], [(1, (0, 1309, 1453, 16), [(0, 0, 9, 1), (0, 8, 8, 0)], [], ([], []))], [], 0, 0, 0)
theorem kh_911_ok : ct_ok wd_fl2 kh_911 := ct_of (ff := wd_ff2) (y := (⟨"UtilityWorksModel", "mC", "(II)I"⟩, prog_14_method_192_code, 2, some .int, 12, 0, 2, 31168, 31167, 0, 21014)) (Cs := []) (an := []) (ss := []) (K := 1) (fuel := 4000) wd_fl2_ok rfl (List.forall_mem_nil _) (by decide +kernel)
/- UtilityWorksModel mC -/
def kh_912 : ct_T := (338, [(0, 0, 9, 1), (0, 11, 11, 0)], [], [], [(1, (0, 1312, 1456, 16), [(0, 0, 9, 1), (0, 11, 11, 0)], [], ([], []))], [], 0, 0, 0)
theorem kh_912_ok : ct_ok wd_fl2 kh_912 := ct_of (ff := wd_ff2) (y := (⟨"UtilityWorksModel", "mC", "(II)I"⟩, prog_14_method_192_code, 2, some .int, 12, 0, 2, 31168, 31167, 0, 21014)) (Cs := []) (an := []) (ss := []) (K := 1) (fuel := 4000) wd_fl2_ok rfl (List.forall_mem_nil _) (by decide +kernel)
/- UtilityWorksModel mM -/
def kh_913 : ct_T := (340, [(0, 0, 9, 1), (0, 2, 2, 0), (0, 0, 0, 0)], [], [], [(1, (0, 1483, 1780, 33), [(0, 0, 9, 1), (0, 2, 2, 0), (0, 0, 0, 0)], [], ([], []))], [], 0, 0, 0)
theorem kh_913_ok : ct_ok wd_fl2 kh_913 := ct_of (ff := wd_ff2) (y := (⟨"UtilityWorksModel", "mM", "(III)I"⟩, prog_14_method_193_code, 3, some .int, 12, 0, 3, 31175, 31174, 0, 21014)) (Cs := []) (an := []) (ss := []) (K := 1) (fuel := 4000) wd_fl2_ok rfl (List.forall_mem_nil _) (by decide +kernel)
/- UtilityWorksModel mTurn -/
def kh_914 : ct_T := (501, [(2, 805, 805, 0), (0, 0, 9, 1), (0, 2, 2, 0), (0, (-2147483648), 2147483647, 1)], [], [], [(0, (0, 0, 0, 0), [(2, 805, 805, 0), (0, 0, 9, 1), (0, 2, 2, 0), (0, (-2147483648), 2147483647, 1)], [], ([], []))], [((806, 806), (1483, 1780, 33)), ((806, 806), (1484, 1781, 33))], 1, 22, 0)
theorem kh_914_ok : ct_ok wd_fl2 kh_914 := ct_of (ff := wd_ff2) (y := (⟨"UtilityWorksModel", "mTurn", "(III)V"⟩, prog_14_method_206_code, 6, none, 12, 1, 3, 35057, 35056, 13008, 21014)) (Cs := [kh_913]) (an := []) (ss := []) (K := 1) (fuel := 4000) wd_fl2_ok rfl (List.forall_mem_cons.mpr ⟨kh_913_ok, (List.forall_mem_nil _)⟩) (by decide +kernel)
/- UtilityWorksModel mTurn -/
def kh_915 : ct_T := (501, [(2, 805, 805, 0), (0, 0, 9, 1), (0, 2, 2, 0), (0, 0, 0, 1)], [], [], [(0, (0, 0, 0, 0), [(2, 805, 805, 0), (0, 0, 9, 1), (0, 2, 2, 0), (0, 0, 0, 1)], [], ([], []))], [((806, 806), (1483, 1780, 33)), ((806, 806), (1484, 1781, 33))], 1, 22, 0)
theorem kh_915_ok : ct_ok wd_fl2 kh_915 := ct_of (ff := wd_ff2) (y := (⟨"UtilityWorksModel", "mTurn", "(III)V"⟩, prog_14_method_206_code, 6, none, 12, 1, 3, 35057, 35056, 13008, 21014)) (Cs := [kh_913]) (an := []) (ss := []) (K := 1) (fuel := 4000) wd_fl2_ok rfl (List.forall_mem_cons.mpr ⟨kh_913_ok, (List.forall_mem_nil _)⟩) (by decide +kernel)
/- UtilityWorksModel metersDay -/
def kh_916 : ct_T := (499, [(2, 805, 805, 0)], [], [], [(0, (0, 0, 0, 0), [(2, 805, 805, 0)], [], ([], []))], [((806, 806), (1307, 1781, 1)), ((807, 807), (40, 40, 0)), ((807, 807), (41, 41, 0)), ((807, 807), (42, 42, 0)), ((807, 807), (43, 70, 3)), ((807, 807), (44, 71, 3)), ((807, 807), (45, 72, 3))], 3, 65, 0)
theorem kh_916_ok : ct_ok wd_fl2 kh_916 := ct_of (ff := wd_ff2) (y := (⟨"UtilityWorksModel", "metersDay", "()V"⟩, prog_14_method_207_code, 5, none, 12, 1, 0, 35049, 35048, 13006, 21014)) (Cs := [kh_899, kh_900, kh_901, kh_902, kh_903, kh_904, kh_905, kh_906, kh_908, kh_909, kh_910, kh_911, kh_912, kh_914, kh_915]) (an := [(2, 0, ([((2, 805, 805, 0), none), ((0, 0, 10, 1), none)], [(0, 0), (1, 1)], [], [], [], [], [], [], none), [(0, 0, 99998), (1, 1, 10), (0, 0, 99998), (0, 0, 0), (0, 0, 0)]), (16, 0, ([((2, 805, 805, 0), none), ((0, 0, 9, 1), none), ((0, 0, 3, 1), none)], [(0, 0), (1, 1), (2, 2)], [], [], [], [], [], [], none), [(0, 0, 99998), (1, 1, 10), (0, 0, 99984), (1, 2, 3), (0, 0, 99984)])]) (ss := [(21, 2)]) (K := 5) (fuel := 4000) wd_fl2_ok rfl (List.forall_mem_cons.mpr ⟨kh_899_ok, (List.forall_mem_cons.mpr ⟨kh_900_ok, (List.forall_mem_cons.mpr ⟨kh_901_ok, (List.forall_mem_cons.mpr ⟨kh_902_ok, (List.forall_mem_cons.mpr ⟨kh_903_ok, (List.forall_mem_cons.mpr ⟨kh_904_ok, (List.forall_mem_cons.mpr ⟨kh_905_ok, (List.forall_mem_cons.mpr ⟨kh_906_ok, (List.forall_mem_cons.mpr ⟨kh_908_ok, (List.forall_mem_cons.mpr ⟨kh_909_ok, (List.forall_mem_cons.mpr ⟨kh_910_ok, (List.forall_mem_cons.mpr ⟨kh_911_ok, (List.forall_mem_cons.mpr ⟨kh_912_ok, (List.forall_mem_cons.mpr ⟨kh_914_ok, (List.forall_mem_cons.mpr ⟨kh_915_ok, (List.forall_mem_nil _)⟩)⟩)⟩)⟩)⟩)⟩)⟩)⟩)⟩)⟩)⟩)⟩)⟩)⟩)⟩) (by decide +kernel)
/- UtilityWorksModel spends -/
def kh_917 : ct_T := (371, [(2, 805, 805, 0), (0, 1000, 1000, 0)], [], [], [(0, (0, 0, 0, 0), [(2, 805, 805, 0), (0, 1000, 1000, 0)], [], ([], []))], [((807, 807), (2860, 2860, 0)), ((807, 807), (2865, 2865, 0))], 0, 0, 0)
theorem kh_917_ok : ct_ok wd_fl2 kh_917 := ct_of (ff := wd_ff2) (y := (⟨"UtilityWorksModel", "spends", "(I)V"⟩, prog_14_method_232_code, 2, none, 12, 1, 1, 33021, 33020, 5014, 21014)) (Cs := []) (an := []) (ss := []) (K := 1) (fuel := 4000) wd_fl2_ok rfl (List.forall_mem_nil _) (by decide +kernel)
/- UtilityWorksModel streetsDay -/
def kh_918 : ct_T := (529, [(2, 805, 805, 0)], [], [], [(0, (0, 0, 0, 0), [(2, 805, 805, 0)], [], ([], []))], [((806, 806), (117, 133, 1)), ((806, 806), (370, 460, 6)), ((807, 807), (2860, 2860, 0)), ((807, 807), (2865, 2865, 0))], 4, 90, 0)
theorem kh_918_ok : ct_ok wd_fl2 kh_918 := ct_of (ff := wd_ff2) (y := (⟨"UtilityWorksModel", "streetsDay", "()V"⟩, prog_14_method_75_code, 2, none, 12, 1, 0, 35173, 35172, 15002, 21014)) (Cs := [kh_isDug, kh_day, kh_626, kh_917, kh_620, kh_623]) (an := [(2, 0, ([((2, 805, 805, 0), none), ((0, 0, 17, 1), none)], [(0, 0), (1, 1)], [], [], [], [], [], [], none), [(0, 0, 99998), (1, 1, 17), (0, 0, 99998)]), (49, 0, ([((2, 805, 805, 0), none), ((0, 0, 16, 1), none)], [(0, 0), (1, 1)], [], [], [], [], [], [], none), [(0, 0, 99998), (1, 1, 17), (0, 0, 99951)]), (57, 0, ([((2, 805, 805, 0), none), ((0, 0, 16, 1), none)], [(0, 0), (1, 1)], [], [], [], [], [], [], none), [(0, 0, 99943), (1, 1, 16), (0, 0, 99943)]), (98, 0, ([((2, 805, 805, 0), none), ((0, 0, 15, 1), none)], [(0, 0), (1, 1)], [], [], [], [], [], [], none), [(0, 0, 99943), (1, 1, 16), (0, 0, 99902)])]) (ss := []) (K := 3) (fuel := 4000) wd_fl2_ok rfl (List.forall_mem_cons.mpr ⟨kh_isDug_l2, (List.forall_mem_cons.mpr ⟨kh_day_ok, (List.forall_mem_cons.mpr ⟨kh_626_ok, (List.forall_mem_cons.mpr ⟨kh_917_ok, (List.forall_mem_cons.mpr ⟨kh_620_ok, (List.forall_mem_cons.mpr ⟨kh_623_ok, (List.forall_mem_nil _)⟩)⟩)⟩)⟩)⟩)⟩) (by decide +kernel)
abbrev kh_dayGoes_y : mt_T := (⟨"UtilityWorksModel", "dayGoes", "()V"⟩, prog_14_method_38_code, 1, none, 12, 1, 0, 33048, 33047, 6001, 21014)
def kh_dayGoes : ct_T := (378, [(2, 805, 805, 0)], [], [510, 513, 515], [(0, (0, 0, 0, 0), [(2, 805, 805, 0)], [], ([510, 513, 515], []))], [((805, 805), (21, 65, 1)), ((806, 806), (0, 0, 0)), ((806, 806), (1, 1, 0)), ((806, 806), (2, 2, 0)), ((806, 806), (3, 3, 0)), ((806, 806), (5, 5, 0)), ((806, 806), (7, 7, 0)), ((806, 806), (8, 499, 1)), ((806, 806), (500, 512, 4)), ((806, 806), (502, 514, 4)), ((806, 806), (503, 515, 4)), ((806, 806), (516, 4104, 1)), ((807, 807), (0, 3501, 1)), ((813, 813), (0, 11, 1)), ((814, 814), (0, 11, 1)), ((815, 815), (0, 16, 1)), ((816, 816), (0, 16, 1)), ((817, 817), (0, 11, 1)), ((818, 818), (0, 3, 1)), ((819, 819), (0, 11, 1)), ((820, 820), (0, 16, 1)), ((821, 821), (0, 2, 1)), ((822, 822), (0, 1, 1)), ((823, 823), (0, 9, 1)), ((824, 824), (0, 9, 1)), ((825, 825), (0, 11, 1)), ((827, 827), (0, 2, 1)), ((827, 827), (3, 6, 1)), ((828, 828), (0, 2, 1)), ((828, 828), (3, 6, 1)), ((829, 829), (0, 6, 1)), ((830, 830), (0, 6, 1)), ((831, 831), (0, 11, 1)), ((832, 832), (0, 11, 1)), ((833, 833), (0, 11, 1)), ((834, 834), (0, 11, 1)), ((835, 835), (0, 11, 1)), ((836, 836), (0, 11, 1)), ((837, 837), (0, 11, 1)), ((838, 838), (0, 11, 1)), ((839, 839), (0, 33, 1)), ((840, 840), (0, 11, 1)), ((841, 841), (0, 10, 1)), ((843, 843), (0, 1, 1)), ((844, 844), (0, 9, 1)), ((845, 845), (0, 11, 1)), ((846, 846), (0, 1, 1)), ((847, 847), (0, 1, 1)), ((848, 848), (0, 33, 1)), ((849, 849), (0, 16, 1)), ((850, 850), (0, 11, 1)), ((851, 851), (0, 11, 1)), ((852, 852), (0, 11, 1)), ((854, 854), (0, 11, 1)), ((855, 855), (0, 23, 1)), ((856, 856), (0, 287, 1)), ((857, 857), (0, 9, 1)), ((858, 858), (0, 9, 1)), ((859, 859), (0, 2, 1))], 10, 231, 0)
def kh_dayGoes_a36 : an_T := (36, 0, ([((2, 805, 805, 0), none)], [(0, 0)], [], [], [], [], [], [510, 513], none), [])
def kh_dayGoes_a45 : an_T := (45, 0, ([((2, 805, 805, 0), none), ((0, 1, 1000, 1), none), ((0, 0, 0, 0), none), ((2, 806, 806, 1), none)], [(0, 0)], [1, 2, 3], [], [], [], [], [510, 513], none), [])
def kh_dayGoes_b0_0 : sg_T := (36, 0, ([((2, 805, 805, 0), none)], [(0, 0)], [], [], [], [], [], [513, 510, 516], none))
def kh_dayGoes_b36_0 : sg_T := (45, 0, ([((2, 805, 805, 0), none), ((2, 806, 806, 1), none), ((0, 0, 0, 0), none), ((0, 0, 999, 1), none), ((0, 1, 1, 0), none), ((0, 1, 1000, 1), some (3, 1))], [(0, 0)], [5, 2, 1], [(1, 2, 3)], [], [(500005, 3, 4), (800003, 1, 2)], [], [510, 513], some []))
def kh_dayGoes_b45_0 : sg_T := (46, 0, ([((2, 805, 805, 0), none), ((0, 1, 999, 1), none), ((0, 0, 0, 0), none), ((2, 806, 806, 1), none)], [(0, 0)], [], [(3, 2, 1)], [], [], [], [510, 513], some [(3, 2, 1)]))
def kh_dayGoes_I (l : Launch) (D : va_G) (tc : Nat → ClassId) (ad : Nat → Nat) (kd : Nat → Nat × Nat) (N : Nat) (sm : Nat → Nat) (xs : List av_X) (S : fw_S) (p : Program) (e : Env) (s : State) (m : MethodId) (args : Array Value) (below : List Frame) (meth : Method) (c : Code) (sz : Nat) (k : Nat) : Prop := (∀ (α : List av_X) (lv : List (Nat × Value)) (st : List Value) (S1 : fw_S), as_in ad sm wd_fl2 xs S kh_dayGoes.2.2.2.2.2.1 α kh_dayGoes_a36.2.2.1 lv st S1 → (S1.1 806 0 = S.1 806 0 ∧ blF (S1.1 806) 1) → 5 < k → hd_WR R_dayGoes wd_fl2 kh_dayGoes kh_dayGoes_y l D tc ad kd N sm xs S p e s m args below meth c sz 36 lv st S1 0) ∧ (∀ (α : List av_X) (lv : List (Nat × Value)) (st : List Value) (S1 : fw_S), as_in ad sm wd_fl2 xs S kh_dayGoes.2.2.2.2.2.1 α kh_dayGoes_a45.2.2.1 lv st S1 → (S1.1 806 0 = S.1 806 0 ∧ blF (S1.1 806) 1 ∧ nv α 1 = (S.1 806 0).toInt + 1 ∧ nv α 1 ≤ 999) → 1 < k → hd_WR R_dayGoes wd_fl2 kh_dayGoes kh_dayGoes_y l D tc ad kd N sm xs S p e s m args below meth c sz 45 lv st S1 0) ∧ True
set_option maxHeartbeats 16000000 in
set_option maxRecDepth 8000 in
theorem kh_dayGoes_h36 {l : Launch} {D : va_G} {tc : Nat → ClassId} {ad : Nat → Nat} {kd : Nat → Nat × Nat} {N : Nat} {sm : Nat → Nat} {xs : List av_X} {S : fw_S} {p : Program} {e : Env} {s : State} {m : MethodId} {args : Array Value} {below : List Frame} {meth : Method} {c : Code} {sz : Nat} {lvE : List (Nat × Value)} (G : hd_C wd_ff2 wd_fl2 kh_dayGoes [kh_888, kh_crewsDay, kh_891, kh_898, kh_heatDay, kh_916, kh_booksDay, kh_storesDay2, kh_918] kh_dayGoes_y l D tc ad kd N sm xs p s m args meth c sz) (H0 : as_in ad sm wd_fl2 xs S kh_dayGoes.2.2.2.2.2.1 xs (hd_0 kh_dayGoes) lvE [] S) (hpre : P_dayGoes xs S) {k : Nat} (ih : kh_dayGoes_I l D tc ad kd N sm xs S p e s m args below meth c sz k) : (∀ (α : List av_X) (lv : List (Nat × Value)) (st : List Value) (S1 : fw_S), as_in ad sm wd_fl2 xs S kh_dayGoes.2.2.2.2.2.1 α kh_dayGoes_a36.2.2.1 lv st S1 → (S1.1 806 0 = S.1 806 0 ∧ blF (S1.1 806) 1) → 5 < k + 1 → hd_WR R_dayGoes wd_fl2 kh_dayGoes kh_dayGoes_y l D tc ad kd N sm xs S p e s m args below meth c sz 36 lv st S1 0) := by
  have hx : xs.length = 1 := by rw [H0.2.1.1]; rfl
  intro α lv st S1 H hp hk
  obtain ⟨α1, hle, Hr⟩ := as_recM (pl := []) [] (by decide +kernel) H
  have hf := H.2.2.2.2.2.2.2.2.2.2.1
  have hl1 : α1.length = 1 := by rw [Hr.2.1.1]; rfl
  have hl0 : α.length = 1 := by rw [H.2.1.1]; rfl
  have hxa : al_le xs α1 := H.1.trans hle
  obtain ⟨g1, -, g3, g4, -⟩ := as_fx Hr
  have g0 : (805 ≤ nv α1 0 ∧ nv α1 0 ≤ 805) ∧ True := by
    refine ⟨by have h := (en_nv (i := 0) Hr.2.1 rfl).2; exact h, trivial⟩
  have r0 : nv α1 0 = nv α 0 := nv_le hle (by omega)
  refine hd_segMR G (na := 1) (fuel := 600) (first := true) (Bs := [kh_dayGoes_b36_0]) (by decide +kernel) hl1 Hr ?_
  intro q hq β lv' st' S' H1
  simp only [List.mem_cons, List.not_mem_nil, or_false] at hq
  rcases hq with rfl
  · obtain ⟨f1, f2, f3, f4, f5⟩ := as_fx H1
    simp only [kh_dayGoes_b36_0, fx_env, fx_c, fx_ne, fx_hf, wl_S, Nat.zero_add, Nat.reduceAdd, Nat.reduceDiv, Nat.reduceMod, List.getElem?_cons_zero, List.getElem?_cons_succ, if_true, and_true, true_and] at f1 f2 f3 f4 f5
    have fe0 : nv β 0 = 805 := by omega
    have fe1 : nv β 1 = 806 := by omega
    have fe2 : nv β 2 = 0 := by omega
    have fe4 : nv β 4 = 1 := by omega
    try simp only [fe0, fe1, fe2, fe4, Int.reduceToNat] at f2 f3 f4 f5
    have s0 : nv β 0 = nv α1 0 := nv_le H1.1 (by omega)
    obtain ⟨c0, c1⟩ := f2
    obtain ⟨α', Ha, hm⟩ := hd_gpM (q := kh_dayGoes_a45) (n := 0) (by decide +kernel) hx H1 (by decide +kernel) hxa hf
    have hfr := H1.2.2.2.2.2.2.2.2.2.2.1
    have m0 : nv α' 0 = nv β 0 := hm 0 0 rfl
    have m1 : nv α' 1 = nv β 5 := hm 1 5 rfl
    have m2 : nv α' 2 = nv β 2 := hm 2 2 rfl
    have m3 : nv α' 3 = nv β 1 := hm 3 1 rfl
    subst S'
    have o1 := old_0 c1 rfl
    have h9 : (S.1 806 0).toInt ≤ 998 := hpre
    obtain ⟨p1, p2⟩ := hp
    rw [p1] at o1
    refine ih.2.1 _ _ _ _ Ha ?_ ?_
    · rw [m1]
      exact ⟨p1, p2, by rw [o1]; omega, by omega⟩
    · omega
set_option maxHeartbeats 16000000 in
set_option maxRecDepth 8000 in
theorem kh_dayGoes_h45 {l : Launch} {D : va_G} {tc : Nat → ClassId} {ad : Nat → Nat} {kd : Nat → Nat × Nat} {N : Nat} {sm : Nat → Nat} {xs : List av_X} {S : fw_S} {p : Program} {e : Env} {s : State} {m : MethodId} {args : Array Value} {below : List Frame} {meth : Method} {c : Code} {sz : Nat} {lvE : List (Nat × Value)} (G : hd_C wd_ff2 wd_fl2 kh_dayGoes [kh_888, kh_crewsDay, kh_891, kh_898, kh_heatDay, kh_916, kh_booksDay, kh_storesDay2, kh_918] kh_dayGoes_y l D tc ad kd N sm xs p s m args meth c sz) (H0 : as_in ad sm wd_fl2 xs S kh_dayGoes.2.2.2.2.2.1 xs (hd_0 kh_dayGoes) lvE [] S) (hpre : P_dayGoes xs S) {k : Nat} (ih : kh_dayGoes_I l D tc ad kd N sm xs S p e s m args below meth c sz k) : (∀ (α : List av_X) (lv : List (Nat × Value)) (st : List Value) (S1 : fw_S), as_in ad sm wd_fl2 xs S kh_dayGoes.2.2.2.2.2.1 α kh_dayGoes_a45.2.2.1 lv st S1 → (S1.1 806 0 = S.1 806 0 ∧ blF (S1.1 806) 1 ∧ nv α 1 = (S.1 806 0).toInt + 1 ∧ nv α 1 ≤ 999) → 1 < k + 1 → hd_WR R_dayGoes wd_fl2 kh_dayGoes kh_dayGoes_y l D tc ad kd N sm xs S p e s m args below meth c sz 45 lv st S1 0) := by
  have hx : xs.length = 1 := by rw [H0.2.1.1]; rfl
  intro α lv st S1 H hp hk
  have bp := (en_nv (i := 1) H.2.1 rfl).2
  change 1 ≤ nv α 1 ∧ nv α 1 ≤ 1000 at bp
  replace H := as_clamp (i := 1) (lo := 1) (hi := 999) H rfl rfl (by omega) (by exact hp.2.2.2) (by decide)
  obtain ⟨α1, hle, Hr⟩ := as_recM (pl := []) [((806, 806), (0, 0, 0))] (by decide +kernel) H
  have hf := H.2.2.2.2.2.2.2.2.2.2.1
  have hl1 : α1.length = 4 := by rw [Hr.2.1.1]; rfl
  have hl0 : α.length = 4 := by rw [H.2.1.1]; rfl
  have hxa : al_le xs α1 := H.1.trans hle
  obtain ⟨g1, -, g3, g4, -⟩ := as_fx Hr
  have g0 : (805 ≤ nv α1 0 ∧ nv α1 0 ≤ 805) ∧ (1 ≤ nv α1 1 ∧ nv α1 1 ≤ 999) ∧ (0 ≤ nv α1 2 ∧ nv α1 2 ≤ 0) ∧ (806 ≤ nv α1 3 ∧ nv α1 3 ≤ 806) ∧ True := by
    refine ⟨by have h := (en_nv (i := 0) Hr.2.1 rfl).2; exact h, by have h := (en_nv (i := 1) Hr.2.1 rfl).2; exact h, by have h := (en_nv (i := 2) Hr.2.1 rfl).2; exact h, by have h := (en_nv (i := 3) Hr.2.1 rfl).2; exact h, trivial⟩
  have r0 : nv α1 0 = nv α 0 := nv_le hle (by omega)
  have r1 : nv α1 1 = nv α 1 := nv_le hle (by omega)
  have r2 : nv α1 2 = nv α 2 := nv_le hle (by omega)
  have r3 : nv α1 3 = nv α 3 := nv_le hle (by omega)
  refine hd_segMR G (na := 4) (fuel := 600) (first := true) (Bs := [kh_dayGoes_b45_0]) (by decide +kernel) hl1 Hr ?_
  intro q hq β lv' st' S' H1
  simp only [List.mem_cons, List.not_mem_nil, or_false] at hq
  rcases hq with rfl
  · obtain ⟨f1, f2, f3, f4, f5⟩ := as_fx H1
    simp only [kh_dayGoes_b45_0, fx_env, fx_c, fx_ne, fx_hf, wl_S, Nat.zero_add, Nat.reduceAdd, Nat.reduceDiv, Nat.reduceMod, List.getElem?_cons_zero, List.getElem?_cons_succ, if_true, and_true, true_and] at f1 f2 f3 f4 f5
    have fe0 : nv β 0 = 805 := by omega
    have fe2 : nv β 2 = 0 := by omega
    have fe3 : nv β 3 = 806 := by omega
    try simp only [fe0, fe2, fe3, Int.reduceToNat] at f2 f3 f4 f5
    have s0 : nv β 0 = nv α1 0 := nv_le H1.1 (by omega)
    have s1 : nv β 1 = nv α1 1 := nv_le H1.1 (by omega)
    have s2 : nv β 2 = nv α1 2 := nv_le H1.1 (by omega)
    have s3 : nv β 3 = nv α1 3 := nv_le H1.1 (by omega)
    obtain ⟨p1, p2, p3, p4⟩ := hp
    have hv : (S'.1 806 0).toInt = nv β 1 := by rw [f5, fw_i_row, if_pos rfl, i32_of (by omega) (by omega)]
    have hb : blF (S'.1 806) 0 := by
      intro c' hc'
      have h := p2 c' hc'
      rw [hv, f5, fw_i_row, if_neg (by omega)]
      rw [p1] at h
      omega
    exact hd_retVR G (by decide +kernel) (as_fl_in (f := [515]) (as_backM H1 (by decide +kernel) hxa hf) (fun g hg' => by
      rcases List.mem_singleton.mp hg' with rfl
      rw [wd_fl2, if_neg (by decide)]
      exact hb)) (by decide +kernel) (by decide) (by show (S'.1 806 0).toInt = (S.1 806 0).toInt + 1; rw [hv]; omega)
set_option maxHeartbeats 16000000 in
set_option maxRecDepth 8000 in
theorem kh_dayGoes_okP : ct_okPR wd_fl2 kh_dayGoes P_dayGoes R_dayGoes := ct_handPR (P := P_dayGoes) (R := R_dayGoes) (ff := wd_ff2) (y := kh_dayGoes_y) (Cs := [kh_888, kh_crewsDay, kh_891, kh_898, kh_heatDay, kh_916, kh_booksDay, kh_storesDay2, kh_918]) wd_fl2_ok rfl (List.forall_mem_cons.mpr ⟨kh_888_ok, (List.forall_mem_cons.mpr ⟨kh_crewsDay_ok, (List.forall_mem_cons.mpr ⟨kh_891_ok, (List.forall_mem_cons.mpr ⟨kh_898_ok, (List.forall_mem_cons.mpr ⟨kh_heatDay_l2, (List.forall_mem_cons.mpr ⟨kh_916_ok, (List.forall_mem_cons.mpr ⟨kh_booksDay_ok, (List.forall_mem_cons.mpr ⟨kh_storesDay2_ok, (List.forall_mem_cons.mpr ⟨kh_918_ok, (List.forall_mem_nil _)⟩)⟩)⟩)⟩)⟩)⟩)⟩)⟩)⟩) (by decide +kernel) (fun l D tc ad kd N sm xs S p e s m args below meth c sz lv G H0 hpre => by
  have hx : xs.length = 1 := by rw [H0.2.1.1]; rfl
  have hP : ∀ (k : Nat), kh_dayGoes_I l D tc ad kd N sm xs S p e s m args below meth c sz k := by
    intro k
    induction k with
    | zero => exact ⟨fun _ _ _ _ _ _ h => absurd h (Nat.not_lt_zero _), fun _ _ _ _ _ _ h => absurd h (Nat.not_lt_zero _), trivial⟩
    | succ k ih => exact ⟨kh_dayGoes_h36 G H0 hpre ih, kh_dayGoes_h45 G H0 hpre ih, trivial⟩
  obtain ⟨α1, hle, Hr⟩ := as_recM (pl := []) [((805, 805), (21, 65, 1)), ((806, 806), (1, 1, 0)), ((806, 806), (2, 2, 0)), ((806, 806), (3, 3, 0)), ((806, 806), (5, 5, 0)), ((806, 806), (7, 7, 0)), ((806, 806), (8, 499, 1)), ((806, 806), (500, 512, 4)), ((806, 806), (502, 514, 4)), ((806, 806), (503, 515, 4)), ((806, 806), (516, 4104, 1)), ((807, 807), (0, 3501, 1)), ((813, 813), (0, 11, 1)), ((814, 814), (0, 11, 1)), ((815, 815), (0, 16, 1)), ((816, 816), (0, 16, 1)), ((817, 817), (0, 11, 1)), ((818, 818), (0, 3, 1)), ((819, 819), (0, 11, 1)), ((820, 820), (0, 16, 1)), ((821, 821), (0, 2, 1)), ((822, 822), (0, 1, 1)), ((823, 823), (0, 9, 1)), ((824, 824), (0, 9, 1)), ((825, 825), (0, 11, 1)), ((827, 827), (0, 2, 1)), ((827, 827), (3, 6, 1)), ((828, 828), (0, 2, 1)), ((828, 828), (3, 6, 1)), ((829, 829), (0, 6, 1)), ((830, 830), (0, 6, 1)), ((831, 831), (0, 11, 1)), ((832, 832), (0, 11, 1)), ((833, 833), (0, 11, 1)), ((834, 834), (0, 11, 1)), ((835, 835), (0, 11, 1)), ((836, 836), (0, 11, 1)), ((837, 837), (0, 11, 1)), ((838, 838), (0, 11, 1)), ((839, 839), (0, 33, 1)), ((840, 840), (0, 11, 1)), ((841, 841), (0, 10, 1)), ((843, 843), (0, 1, 1)), ((844, 844), (0, 9, 1)), ((845, 845), (0, 11, 1)), ((846, 846), (0, 1, 1)), ((847, 847), (0, 1, 1)), ((848, 848), (0, 33, 1)), ((849, 849), (0, 16, 1)), ((850, 850), (0, 11, 1)), ((851, 851), (0, 11, 1)), ((852, 852), (0, 11, 1)), ((854, 854), (0, 11, 1)), ((855, 855), (0, 23, 1)), ((856, 856), (0, 287, 1)), ((857, 857), (0, 9, 1)), ((858, 858), (0, 9, 1)), ((859, 859), (0, 2, 1))] (by decide +kernel) H0
  have hf := H0.2.2.2.2.2.2.2.2.2.2.1
  have hl1 : α1.length = 1 := by rw [Hr.2.1.1]; rfl
  have hl0 : xs.length = 1 := by rw [H0.2.1.1]; rfl
  have hxa : al_le xs α1 := H0.1.trans hle
  obtain ⟨g1, -, g3, g4, -⟩ := as_fx Hr
  have g0 : (805 ≤ nv α1 0 ∧ nv α1 0 ≤ 805) ∧ True := by
    refine ⟨by have h := (en_nv (i := 0) Hr.2.1 rfl).2; exact h, trivial⟩
  have r0 : nv α1 0 = nv xs 0 := nv_le hle (by omega)
  refine hd_segMR G (na := 1) (fuel := 600) (first := true) (Bs := [kh_dayGoes_b0_0]) (by decide +kernel) hl1 Hr ?_
  intro q hq β lv' st' S' H1
  simp only [List.mem_cons, List.not_mem_nil, or_false] at hq
  rcases hq with rfl
  · obtain ⟨f1, f2, f3, f4, f5⟩ := as_fx H1
    simp only [kh_dayGoes_b0_0, fx_env, fx_c, fx_ne, fx_hf, wl_S, Nat.zero_add, Nat.reduceAdd, Nat.reduceDiv, Nat.reduceMod, List.getElem?_cons_zero, List.getElem?_cons_succ, if_true, and_true, true_and] at f1 f2 f3 f4 f5
    have fe0 : nv β 0 = 805 := by omega
    try simp only [fe0, Int.reduceToNat] at f2 f3 f4 f5
    have s0 : nv β 0 = nv α1 0 := nv_le H1.1 (by omega)
    obtain ⟨α', Ha, hm⟩ := hd_gpM (q := kh_dayGoes_a36) (n := 0) (by decide +kernel) hx H1 (by decide +kernel) hxa hf
    have hfr := H1.2.2.2.2.2.2.2.2.2.2.1
    have m0 : nv α' 0 = nv β 0 := hm 0 0 rfl
    have hq : blF (S'.1 806) 1 := by
      have h := H1.2.2.2.2.2.2.2.2.1 516 (by decide +kernel)
      rw [wd_fl2, if_neg (by decide)] at h
      exact h
    have e0 := fr_pl hfr 806 0 (by decide +kernel)
    refine (hP _).1 _ _ _ _ Ha ?_ (Nat.lt_succ_self _)
    · exact ⟨e0, hq⟩)
abbrev kh_pass_y : mt_T := (⟨"UtilityWorksModel", "pass", "(I)I"⟩, prog_14_method_39_code, 3, some .int, 12, 1, 1, 33044, 33042, 33043, 21014)
def kh_pass : ct_T := (377, [(2, 805, 805, 0), (0, (-2147483648), 2147483647, 1)], [], [510, 513, 515], [(1, (0, 0, 999, 1), [(2, 805, 805, 0), (0, (-2147483648), 2147483647, 1)], [], ([510, 513, 515], []))], [((805, 805), (8, 8, 0)), ((805, 805), (21, 65, 1)), ((806, 806), (0, 0, 0)), ((806, 806), (1, 1, 0)), ((806, 806), (2, 2, 0)), ((806, 806), (3, 3, 0)), ((806, 806), (5, 5, 0)), ((806, 806), (7, 7, 0)), ((806, 806), (8, 499, 1)), ((806, 806), (500, 512, 4)), ((806, 806), (502, 514, 4)), ((806, 806), (503, 515, 4)), ((806, 806), (516, 4104, 1)), ((807, 807), (0, 3501, 1)), ((813, 813), (0, 11, 1)), ((814, 814), (0, 11, 1)), ((815, 815), (0, 16, 1)), ((816, 816), (0, 16, 1)), ((817, 817), (0, 11, 1)), ((818, 818), (0, 3, 1)), ((819, 819), (0, 11, 1)), ((820, 820), (0, 16, 1)), ((821, 821), (0, 2, 1)), ((822, 822), (0, 1, 1)), ((823, 823), (0, 9, 1)), ((824, 824), (0, 9, 1)), ((825, 825), (0, 11, 1)), ((827, 827), (0, 2, 1)), ((827, 827), (3, 6, 1)), ((828, 828), (0, 2, 1)), ((828, 828), (3, 6, 1)), ((829, 829), (0, 6, 1)), ((830, 830), (0, 6, 1)), ((831, 831), (0, 11, 1)), ((832, 832), (0, 11, 1)), ((833, 833), (0, 11, 1)), ((834, 834), (0, 11, 1)), ((835, 835), (0, 11, 1)), ((836, 836), (0, 11, 1)), ((837, 837), (0, 11, 1)), ((838, 838), (0, 11, 1)), ((839, 839), (0, 33, 1)), ((840, 840), (0, 11, 1)), ((841, 841), (0, 10, 1)), ((843, 843), (0, 1, 1)), ((844, 844), (0, 9, 1)), ((845, 845), (0, 11, 1)), ((846, 846), (0, 1, 1)), ((847, 847), (0, 1, 1)), ((848, 848), (0, 33, 1)), ((849, 849), (0, 16, 1)), ((850, 850), (0, 11, 1)), ((851, 851), (0, 11, 1)), ((852, 852), (0, 11, 1)), ((854, 854), (0, 11, 1)), ((855, 855), (0, 23, 1)), ((856, 856), (0, 287, 1)), ((857, 857), (0, 9, 1)), ((858, 858), (0, 9, 1)), ((859, 859), (0, 2, 1))], 11, 251, 0)
def kh_pass_a17 : an_T := (17, 0, ([((2, 805, 805, 0), none), ((0, 1, 60, 1), none)], [(0, 0), (1, 1)], [], [], [], [], [], [510, 513, 515], none), [])
def kh_pass_a46 : an_T := (46, 0, ([((2, 805, 805, 0), none), ((0, 1, 60, 1), none), ((0, 0, 60, 1), none)], [(0, 0), (1, 1), (2, 2)], [], [], [], [], [], [510, 513, 515], none), [])
def kh_pass_a52 : an_T := (52, 0, ([((2, 805, 805, 0), none), ((0, 1, 60, 1), none), ((0, 0, 59, 1), none)], [(0, 0), (1, 1), (2, 2)], [0], [], [], [], [], [510, 513, 515], none), [])
def kh_pass_a55 : an_T := (55, 0, ([((2, 805, 805, 0), none), ((0, 1, 60, 1), none), ((0, 0, 59, 1), none)], [(0, 0), (1, 1), (2, 2)], [], [], [], [], [], [510, 513, 515], none), [])
def kh_pass_b0_0 : sg_T := (16, 0, ([((2, 805, 805, 0), none), ((0, (-2147483648), 2147483647, 1), none), ((0, 1, 1, 0), none), ((0, 60, 60, 0), none), ((0, 0, 0, 0), none), ((0, 1, 1, 0), none), ((0, 1, 1, 0), none), ((0, 0, 0, 0), none)], [(0, 0), (1, 1)], [7], [], [(6, 0)], [(4600004, 1, 1)], [], [510, 513, 515], none))
def kh_pass_b0_1 : sg_T := (17, 0, ([((2, 805, 805, 0), none), ((0, 1, 60, 1), none), ((0, 1, 1, 0), none), ((0, 60, 60, 0), none), ((0, 1, 1, 0), none), ((0, 1, 1, 0), none), ((0, 0, 0, 0), none)], [(0, 0), (1, 1)], [], [], [], [(4600004, 1, 1)], [], [510, 513, 515], none))
def kh_pass_b17_0 : sg_T := (43, 0, ([((2, 805, 805, 0), none), ((0, 1, 60, 1), none), ((0, 0, 999, 1), none), ((0, 1000, 1059, 1), none), ((0, 999, 999, 0), none), ((0, 0, 0, 0), none), ((0, 2, 2, 0), none), ((0, 1, 1, 0), none), ((0, 0, 0, 0), none)], [(0, 0), (1, 1)], [8], [], [(7, 0)], [(100000, 4, 3), (500003, 2, 1), (103300002, 0, 0)], [], [510, 513, 515], none))
def kh_pass_b17_1 : sg_T := (46, 0, ([((2, 805, 805, 0), none), ((0, 1, 60, 1), none), ((0, 0, 999, 1), none), ((0, 1, 999, 1), none), ((0, 999, 999, 0), none), ((0, 1, 1, 0), none), ((0, 2, 2, 0), none), ((0, 0, 0, 0), none), ((0, 0, 0, 0), none)], [(2, 8), (0, 0), (1, 1)], [], [], [], [(200000, 3, 4), (500003, 2, 1), (103300002, 0, 0)], [], [510, 513, 515], none))
def kh_pass_b46_0 : sg_T := (69, 0, ([((2, 805, 805, 0), none), ((0, 1, 60, 1), none), ((0, 1, 60, 1), none), ((0, 0, 999, 1), none)], [(0, 0), (1, 1), (2, 2)], [3], [], [], [(200000, 1, 2)], [], [510, 513, 515], none))
def kh_pass_b46_1 : sg_T := (52, 0, ([((2, 805, 805, 0), none), ((0, 1, 60, 1), none), ((0, 0, 59, 1), none)], [(0, 0), (1, 1), (2, 2)], [0], [], [], [(100000, 2, 1)], [], [510, 513, 515], some []))
def kh_pass_b52_0 : sg_T := (55, 0, ([((2, 805, 805, 0), none), ((0, 1, 60, 1), none), ((0, 0, 59, 1), none)], [(0, 0), (1, 1), (2, 2)], [], [], [], [], [], [510, 513, 515], none))
def kh_pass_b55_0 : sg_T := (46, 0, ([((2, 805, 805, 0), none), ((0, 1, 60, 1), none), ((0, 0, 59, 1), none), ((0, 1, 60, 1), some (2, 1))], [(2, 3), (0, 0), (1, 1)], [], [], [], [], [], [510, 513, 515], some []))
def kh_pass_I (l : Launch) (D : va_G) (tc : Nat → ClassId) (ad : Nat → Nat) (kd : Nat → Nat × Nat) (N : Nat) (sm : Nat → Nat) (xs : List av_X) (S : fw_S) (p : Program) (e : Env) (s : State) (m : MethodId) (args : Array Value) (below : List Frame) (meth : Method) (c : Code) (sz : Nat) (k : Nat) : Prop := (∀ (α : List av_X) (lv : List (Nat × Value)) (st : List Value) (S1 : fw_S), as_in ad sm wd_fl2 xs S kh_pass.2.2.2.2.2.1 α kh_pass_a17.2.2.1 lv st S1 → (True) → 10000 < k → hd_W wd_fl2 kh_pass kh_pass_y l D tc ad kd N sm xs S p e s m args below meth c sz 17 lv st S1 0) ∧ (∀ (α : List av_X) (lv : List (Nat × Value)) (st : List Value) (S1 : fw_S), as_in ad sm wd_fl2 xs S kh_pass.2.2.2.2.2.1 α kh_pass_a46.2.2.1 lv st S1 → ((S1.1 806 0).toInt + (nv α 1 - nv α 2 - 0) ≤ 999 ∧ 0 ≤ nv α 2) → (100 - nv α 2).toNat * 10 + 9 < k → hd_W wd_fl2 kh_pass kh_pass_y l D tc ad kd N sm xs S p e s m args below meth c sz 46 lv st S1 0) ∧ (∀ (α : List av_X) (lv : List (Nat × Value)) (st : List Value) (S1 : fw_S), as_in ad sm wd_fl2 xs S kh_pass.2.2.2.2.2.1 α kh_pass_a52.2.2.1 lv st S1 → ((S1.1 806 0).toInt + (nv α 1 - nv α 2 - 0) ≤ 999 ∧ 0 ≤ nv α 2 ∧ nv α 2 < nv α 1) → (100 - nv α 2).toNat * 10 + 8 < k → hd_W wd_fl2 kh_pass kh_pass_y l D tc ad kd N sm xs S p e s m args below meth c sz 52 lv st S1 0) ∧ (∀ (α : List av_X) (lv : List (Nat × Value)) (st : List Value) (S1 : fw_S), as_in ad sm wd_fl2 xs S kh_pass.2.2.2.2.2.1 α kh_pass_a55.2.2.1 lv st S1 → ((S1.1 806 0).toInt + (nv α 1 - nv α 2 - 1) ≤ 999 ∧ 0 ≤ nv α 2 ∧ nv α 2 < nv α 1) → (100 - nv α 2).toNat * 10 + 7 < k → hd_W wd_fl2 kh_pass kh_pass_y l D tc ad kd N sm xs S p e s m args below meth c sz 55 lv st S1 0) ∧ True
set_option maxHeartbeats 16000000 in
set_option maxRecDepth 8000 in
theorem kh_pass_h17 {l : Launch} {D : va_G} {tc : Nat → ClassId} {ad : Nat → Nat} {kd : Nat → Nat × Nat} {N : Nat} {sm : Nat → Nat} {xs : List av_X} {S : fw_S} {p : Program} {e : Env} {s : State} {m : MethodId} {args : Array Value} {below : List Frame} {meth : Method} {c : Code} {sz : Nat} {lvE : List (Nat × Value)} (G : hd_C wd_ff2 wd_fl2 kh_pass [kh_in6, kh_592, kh_588, kh_day, kh_591, kh_590, kh_645] kh_pass_y l D tc ad kd N sm xs p s m args meth c sz) (H0 : as_in ad sm wd_fl2 xs S kh_pass.2.2.2.2.2.1 xs (hd_0 kh_pass) lvE [] S) {k : Nat} (ih : kh_pass_I l D tc ad kd N sm xs S p e s m args below meth c sz k) : (∀ (α : List av_X) (lv : List (Nat × Value)) (st : List Value) (S1 : fw_S), as_in ad sm wd_fl2 xs S kh_pass.2.2.2.2.2.1 α kh_pass_a17.2.2.1 lv st S1 → (True) → 10000 < k + 1 → hd_W wd_fl2 kh_pass kh_pass_y l D tc ad kd N sm xs S p e s m args below meth c sz 17 lv st S1 0) := by
  have hx : xs.length = 2 := by rw [H0.2.1.1]; rfl
  intro α lv st S1 H hp hk
  obtain ⟨α1, hle, Hr⟩ := as_recM (pl := []) [((805, 805), (8, 8, 0))] (by decide +kernel) H
  have hf := H.2.2.2.2.2.2.2.2.2.2.1
  have hl1 : α1.length = 2 := by rw [Hr.2.1.1]; rfl
  have hl0 : α.length = 2 := by rw [H.2.1.1]; rfl
  have hxa : al_le xs α1 := H.1.trans hle
  obtain ⟨g1, -, g3, g4, -⟩ := as_fx Hr
  have g0 : (805 ≤ nv α1 0 ∧ nv α1 0 ≤ 805) ∧ (1 ≤ nv α1 1 ∧ nv α1 1 ≤ 60) ∧ True := by
    refine ⟨by have h := (en_nv (i := 0) Hr.2.1 rfl).2; exact h, by have h := (en_nv (i := 1) Hr.2.1 rfl).2; exact h, trivial⟩
  have r0 : nv α1 0 = nv α 0 := nv_le hle (by omega)
  have r1 : nv α1 1 = nv α 1 := nv_le hle (by omega)
  refine hd_segM G (na := 2) (fuel := 600) (first := true) (Bs := [kh_pass_b17_0, kh_pass_b17_1]) (by decide +kernel) hl1 Hr ?_
  intro q hq β lv' st' S' H1
  simp only [List.mem_cons, List.not_mem_nil, or_false] at hq
  rcases hq with rfl | rfl
  · obtain ⟨f1, f2, f3, f4, f5⟩ := as_fx H1
    simp only [kh_pass_b17_0, fx_env, fx_c, fx_ne, fx_hf, wl_S, Nat.zero_add, Nat.reduceAdd, Nat.reduceDiv, Nat.reduceMod, List.getElem?_cons_zero, List.getElem?_cons_succ, if_true, and_true, true_and] at f1 f2 f3 f4 f5
    have fe0 : nv β 0 = 805 := by omega
    have fe4 : nv β 4 = 999 := by omega
    have fe5 : nv β 5 = 0 := by omega
    have fe6 : nv β 6 = 2 := by omega
    have fe7 : nv β 7 = 1 := by omega
    have fe8 : nv β 8 = 0 := by omega
    try simp only [fe0, fe4, fe5, fe6, fe7, fe8, Int.reduceToNat] at f2 f3 f4 f5
    have s0 : nv β 0 = nv α1 0 := nv_le H1.1 (by omega)
    have s1 : nv β 1 = nv α1 1 := nv_le H1.1 (by omega)
    obtain ⟨c0, c1, c2⟩ := f2
    exact hd_run G (ss := []) (fuel := 20) (by decide +kernel) (as_backM H1 (by decide +kernel) hxa hf)
  · obtain ⟨f1, f2, f3, f4, f5⟩ := as_fx H1
    simp only [kh_pass_b17_1, fx_env, fx_c, fx_ne, fx_hf, wl_S, Nat.zero_add, Nat.reduceAdd, Nat.reduceDiv, Nat.reduceMod, List.getElem?_cons_zero, List.getElem?_cons_succ, if_true, and_true, true_and] at f1 f2 f3 f4 f5
    have fe0 : nv β 0 = 805 := by omega
    have fe4 : nv β 4 = 999 := by omega
    have fe5 : nv β 5 = 1 := by omega
    have fe6 : nv β 6 = 2 := by omega
    have fe7 : nv β 7 = 0 := by omega
    have fe8 : nv β 8 = 0 := by omega
    try simp only [fe0, fe4, fe5, fe6, fe7, fe8, Int.reduceToNat] at f2 f3 f4 f5
    have s0 : nv β 0 = nv α1 0 := nv_le H1.1 (by omega)
    have s1 : nv β 1 = nv α1 1 := nv_le H1.1 (by omega)
    obtain ⟨c0, c1, c2⟩ := f2
    obtain ⟨α', Ha, hm⟩ := hd_gpM (q := kh_pass_a46) (n := 0) (by decide +kernel) hx H1 (by decide +kernel) hxa hf
    have hfr := H1.2.2.2.2.2.2.2.2.2.2.1
    have m0 : nv α' 0 = nv β 0 := hm 0 0 rfl
    have m1 : nv α' 1 = nv β 1 := hm 1 1 rfl
    have m2 : nv α' 2 = nv β 8 := hm 2 8 rfl
    have d2 := c2
    simp only [wd_fl2, if_neg (show ¬ (wd_base1 1033 = true) by decide)] at d2
    refine ih.2.1 _ _ _ _ Ha ?_ ?_
    · rw [m1, m2, fr_row hfr 806 (by decide +kernel), ← d2]; exact ⟨by omega, by omega⟩
    · rw [m2]; omega
set_option maxHeartbeats 16000000 in
set_option maxRecDepth 8000 in
theorem kh_pass_h46 {l : Launch} {D : va_G} {tc : Nat → ClassId} {ad : Nat → Nat} {kd : Nat → Nat × Nat} {N : Nat} {sm : Nat → Nat} {xs : List av_X} {S : fw_S} {p : Program} {e : Env} {s : State} {m : MethodId} {args : Array Value} {below : List Frame} {meth : Method} {c : Code} {sz : Nat} {lvE : List (Nat × Value)} (G : hd_C wd_ff2 wd_fl2 kh_pass [kh_in6, kh_592, kh_588, kh_day, kh_591, kh_590, kh_645] kh_pass_y l D tc ad kd N sm xs p s m args meth c sz) (H0 : as_in ad sm wd_fl2 xs S kh_pass.2.2.2.2.2.1 xs (hd_0 kh_pass) lvE [] S) {k : Nat} (ih : kh_pass_I l D tc ad kd N sm xs S p e s m args below meth c sz k) : (∀ (α : List av_X) (lv : List (Nat × Value)) (st : List Value) (S1 : fw_S), as_in ad sm wd_fl2 xs S kh_pass.2.2.2.2.2.1 α kh_pass_a46.2.2.1 lv st S1 → ((S1.1 806 0).toInt + (nv α 1 - nv α 2 - 0) ≤ 999 ∧ 0 ≤ nv α 2) → (100 - nv α 2).toNat * 10 + 9 < k + 1 → hd_W wd_fl2 kh_pass kh_pass_y l D tc ad kd N sm xs S p e s m args below meth c sz 46 lv st S1 0) := by
  have hx : xs.length = 2 := by rw [H0.2.1.1]; rfl
  intro α lv st S1 H hp hk
  obtain ⟨α1, hle, Hr⟩ := as_recM (pl := []) [((805, 805), (8, 8, 0))] (by decide +kernel) H
  have hf := H.2.2.2.2.2.2.2.2.2.2.1
  have hl1 : α1.length = 3 := by rw [Hr.2.1.1]; rfl
  have hl0 : α.length = 3 := by rw [H.2.1.1]; rfl
  have hxa : al_le xs α1 := H.1.trans hle
  obtain ⟨g1, -, g3, g4, -⟩ := as_fx Hr
  have g0 : (805 ≤ nv α1 0 ∧ nv α1 0 ≤ 805) ∧ (1 ≤ nv α1 1 ∧ nv α1 1 ≤ 60) ∧ (0 ≤ nv α1 2 ∧ nv α1 2 ≤ 60) ∧ True := by
    refine ⟨by have h := (en_nv (i := 0) Hr.2.1 rfl).2; exact h, by have h := (en_nv (i := 1) Hr.2.1 rfl).2; exact h, by have h := (en_nv (i := 2) Hr.2.1 rfl).2; exact h, trivial⟩
  have r0 : nv α1 0 = nv α 0 := nv_le hle (by omega)
  have r1 : nv α1 1 = nv α 1 := nv_le hle (by omega)
  have r2 : nv α1 2 = nv α 2 := nv_le hle (by omega)
  refine hd_segM G (na := 3) (fuel := 600) (first := true) (Bs := [kh_pass_b46_0, kh_pass_b46_1]) (by decide +kernel) hl1 Hr ?_
  intro q hq β lv' st' S' H1
  simp only [List.mem_cons, List.not_mem_nil, or_false] at hq
  rcases hq with rfl | rfl
  · obtain ⟨f1, f2, f3, f4, f5⟩ := as_fx H1
    simp only [kh_pass_b46_0, fx_env, fx_c, fx_ne, fx_hf, wl_S, Nat.zero_add, Nat.reduceAdd, Nat.reduceDiv, Nat.reduceMod, List.getElem?_cons_zero, List.getElem?_cons_succ, if_true, and_true, true_and] at f1 f2 f3 f4 f5
    have fe0 : nv β 0 = 805 := by omega
    try simp only [fe0, Int.reduceToNat] at f2 f3 f4 f5
    have s0 : nv β 0 = nv α1 0 := nv_le H1.1 (by omega)
    have s1 : nv β 1 = nv α1 1 := nv_le H1.1 (by omega)
    have s2 : nv β 2 = nv α1 2 := nv_le H1.1 (by omega)
    have c0 := f2
    exact hd_run G (ss := []) (fuel := 20) (by decide +kernel) (as_backM H1 (by decide +kernel) hxa hf)
  · obtain ⟨f1, f2, f3, f4, f5⟩ := as_fx H1
    simp only [kh_pass_b46_1, fx_env, fx_c, fx_ne, fx_hf, wl_S, Nat.zero_add, Nat.reduceAdd, Nat.reduceDiv, Nat.reduceMod, List.getElem?_cons_zero, List.getElem?_cons_succ, if_true, and_true, true_and] at f1 f2 f3 f4 f5
    have fe0 : nv β 0 = 805 := by omega
    try simp only [fe0, Int.reduceToNat] at f2 f3 f4 f5
    have s0 : nv β 0 = nv α1 0 := nv_le H1.1 (by omega)
    have s1 : nv β 1 = nv α1 1 := nv_le H1.1 (by omega)
    have s2 : nv β 2 = nv α1 2 := nv_le H1.1 (by omega)
    have c0 := f2
    obtain ⟨α', Ha, hm⟩ := hd_gpM (q := kh_pass_a52) (n := 0) (by decide +kernel) hx H1 (by decide +kernel) hxa hf
    have hfr := H1.2.2.2.2.2.2.2.2.2.2.1
    have m0 : nv α' 0 = nv β 0 := hm 0 0 rfl
    have m1 : nv α' 1 = nv β 1 := hm 1 1 rfl
    have m2 : nv α' 2 = nv β 2 := hm 2 2 rfl
    subst S'
    refine ih.2.2.1 _ _ _ _ Ha ?_ ?_
    · rw [m1, m2]; exact ⟨by omega, by omega, by omega⟩
    · rw [m2]; omega
set_option maxHeartbeats 16000000 in
set_option maxRecDepth 8000 in
theorem kh_pass_h52 {l : Launch} {D : va_G} {tc : Nat → ClassId} {ad : Nat → Nat} {kd : Nat → Nat × Nat} {N : Nat} {sm : Nat → Nat} {xs : List av_X} {S : fw_S} {p : Program} {e : Env} {s : State} {m : MethodId} {args : Array Value} {below : List Frame} {meth : Method} {c : Code} {sz : Nat} {lvE : List (Nat × Value)} (G : hd_C wd_ff2 wd_fl2 kh_pass [kh_in6, kh_592, kh_588, kh_day, kh_591, kh_590, kh_645] kh_pass_y l D tc ad kd N sm xs p s m args meth c sz) (H0 : as_in ad sm wd_fl2 xs S kh_pass.2.2.2.2.2.1 xs (hd_0 kh_pass) lvE [] S) {k : Nat} (ih : kh_pass_I l D tc ad kd N sm xs S p e s m args below meth c sz k) : (∀ (α : List av_X) (lv : List (Nat × Value)) (st : List Value) (S1 : fw_S), as_in ad sm wd_fl2 xs S kh_pass.2.2.2.2.2.1 α kh_pass_a52.2.2.1 lv st S1 → ((S1.1 806 0).toInt + (nv α 1 - nv α 2 - 0) ≤ 999 ∧ 0 ≤ nv α 2 ∧ nv α 2 < nv α 1) → (100 - nv α 2).toNat * 10 + 8 < k + 1 → hd_W wd_fl2 kh_pass kh_pass_y l D tc ad kd N sm xs S p e s m args below meth c sz 52 lv st S1 0) := by
  have hx : xs.length = 2 := by rw [H0.2.1.1]; rfl
  intro α lv st S1 H hp hk
  obtain ⟨α1, hle, Hr⟩ := as_recM (pl := []) [((805, 805), (21, 65, 1)), ((806, 806), (0, 0, 0)), ((806, 806), (1, 1, 0)), ((806, 806), (2, 2, 0)), ((806, 806), (3, 3, 0)), ((806, 806), (5, 5, 0)), ((806, 806), (7, 7, 0)), ((806, 806), (8, 499, 1)), ((806, 806), (500, 512, 4)), ((806, 806), (502, 514, 4)), ((806, 806), (503, 515, 4)), ((806, 806), (516, 4104, 1)), ((807, 807), (0, 3501, 1)), ((813, 813), (0, 11, 1)), ((814, 814), (0, 11, 1)), ((815, 815), (0, 16, 1)), ((816, 816), (0, 16, 1)), ((817, 817), (0, 11, 1)), ((818, 818), (0, 3, 1)), ((819, 819), (0, 11, 1)), ((820, 820), (0, 16, 1)), ((821, 821), (0, 2, 1)), ((822, 822), (0, 1, 1)), ((823, 823), (0, 9, 1)), ((824, 824), (0, 9, 1)), ((825, 825), (0, 11, 1)), ((827, 827), (0, 2, 1)), ((827, 827), (3, 6, 1)), ((828, 828), (0, 2, 1)), ((828, 828), (3, 6, 1)), ((829, 829), (0, 6, 1)), ((830, 830), (0, 6, 1)), ((831, 831), (0, 11, 1)), ((832, 832), (0, 11, 1)), ((833, 833), (0, 11, 1)), ((834, 834), (0, 11, 1)), ((835, 835), (0, 11, 1)), ((836, 836), (0, 11, 1)), ((837, 837), (0, 11, 1)), ((838, 838), (0, 11, 1)), ((839, 839), (0, 33, 1)), ((840, 840), (0, 11, 1)), ((841, 841), (0, 10, 1)), ((843, 843), (0, 1, 1)), ((844, 844), (0, 9, 1)), ((845, 845), (0, 11, 1)), ((846, 846), (0, 1, 1)), ((847, 847), (0, 1, 1)), ((848, 848), (0, 33, 1)), ((849, 849), (0, 16, 1)), ((850, 850), (0, 11, 1)), ((851, 851), (0, 11, 1)), ((852, 852), (0, 11, 1)), ((854, 854), (0, 11, 1)), ((855, 855), (0, 23, 1)), ((856, 856), (0, 287, 1)), ((857, 857), (0, 9, 1)), ((858, 858), (0, 9, 1)), ((859, 859), (0, 2, 1))] (by decide +kernel) H
  have hf := H.2.2.2.2.2.2.2.2.2.2.1
  have hl1 : α1.length = 3 := by rw [Hr.2.1.1]; rfl
  have hl0 : α.length = 3 := by rw [H.2.1.1]; rfl
  have hxa : al_le xs α1 := H.1.trans hle
  obtain ⟨g1, -, g3, g4, -⟩ := as_fx Hr
  have g0 : (805 ≤ nv α1 0 ∧ nv α1 0 ≤ 805) ∧ (1 ≤ nv α1 1 ∧ nv α1 1 ≤ 60) ∧ (0 ≤ nv α1 2 ∧ nv α1 2 ≤ 59) ∧ True := by
    refine ⟨by have h := (en_nv (i := 0) Hr.2.1 rfl).2; exact h, by have h := (en_nv (i := 1) Hr.2.1 rfl).2; exact h, by have h := (en_nv (i := 2) Hr.2.1 rfl).2; exact h, trivial⟩
  have r0 : nv α1 0 = nv α 0 := nv_le hle (by omega)
  have r1 : nv α1 1 = nv α 1 := nv_le hle (by omega)
  have r2 : nv α1 2 = nv α 2 := nv_le hle (by omega)
  refine hd_callPN (Rr := R_dayGoes) (Rs := [kh_dayGoes]) (idx := 321) G (List.forall_mem_cons.mpr ⟨kh_dayGoes_okP, List.forall_mem_nil _⟩) (fun Cc hCc ys hnm => by
      show (S1.1 806 0).toInt ≤ 998
      omega) (na := 3) (Bs := [kh_pass_b52_0]) (by decide +kernel) (by decide +kernel) hl1 Hr ?_
  intro q hq β lv' st' S' H1 hRx
  simp only [List.mem_cons, List.not_mem_nil, or_false] at hq
  rcases hq with rfl
  · obtain ⟨f1, f2, f3, f4, f5⟩ := as_fx H1
    simp only [kh_pass_b52_0, fx_env, fx_c, fx_ne, fx_hf, wl_S, Nat.zero_add, Nat.reduceAdd, Nat.reduceDiv, Nat.reduceMod, List.getElem?_cons_zero, List.getElem?_cons_succ, if_true, and_true, true_and] at f1 f2 f3 f4 f5
    have fe0 : nv β 0 = 805 := by omega
    try simp only [fe0, Int.reduceToNat] at f2 f3 f4 f5
    have s0 : nv β 0 = nv α1 0 := nv_le H1.1 (by omega)
    have s1 : nv β 1 = nv α1 1 := nv_le H1.1 (by omega)
    have s2 : nv β 2 = nv α1 2 := nv_le H1.1 (by omega)
    obtain ⟨α', Ha, hm⟩ := hd_gpM (q := kh_pass_a55) (n := 0) (by decide +kernel) hx H1 (by decide +kernel) hxa hf
    have hfr := H1.2.2.2.2.2.2.2.2.2.2.1
    have m0 : nv α' 0 = nv β 0 := hm 0 0 rfl
    have m1 : nv α' 1 = nv β 1 := hm 1 1 rfl
    have m2 : nv α' 2 = nv β 2 := hm 2 2 rfl
    obtain ⟨Cc, hCc, ys, rr, hnm, hR, rest, hre⟩ := hRx
    rcases List.mem_singleton.mp hCc with rfl
    have R1 : (S'.1 806 0).toInt = (S1.1 806 0).toInt + 1 := hR
    refine ih.2.2.2.1 _ _ _ _ Ha ?_ ?_
    · rw [m1, m2, R1]; exact ⟨by omega, by omega, by omega⟩
    · rw [m2]; omega
set_option maxHeartbeats 16000000 in
set_option maxRecDepth 8000 in
theorem kh_pass_h55 {l : Launch} {D : va_G} {tc : Nat → ClassId} {ad : Nat → Nat} {kd : Nat → Nat × Nat} {N : Nat} {sm : Nat → Nat} {xs : List av_X} {S : fw_S} {p : Program} {e : Env} {s : State} {m : MethodId} {args : Array Value} {below : List Frame} {meth : Method} {c : Code} {sz : Nat} {lvE : List (Nat × Value)} (G : hd_C wd_ff2 wd_fl2 kh_pass [kh_in6, kh_592, kh_588, kh_day, kh_591, kh_590, kh_645] kh_pass_y l D tc ad kd N sm xs p s m args meth c sz) (H0 : as_in ad sm wd_fl2 xs S kh_pass.2.2.2.2.2.1 xs (hd_0 kh_pass) lvE [] S) {k : Nat} (ih : kh_pass_I l D tc ad kd N sm xs S p e s m args below meth c sz k) : (∀ (α : List av_X) (lv : List (Nat × Value)) (st : List Value) (S1 : fw_S), as_in ad sm wd_fl2 xs S kh_pass.2.2.2.2.2.1 α kh_pass_a55.2.2.1 lv st S1 → ((S1.1 806 0).toInt + (nv α 1 - nv α 2 - 1) ≤ 999 ∧ 0 ≤ nv α 2 ∧ nv α 2 < nv α 1) → (100 - nv α 2).toNat * 10 + 7 < k + 1 → hd_W wd_fl2 kh_pass kh_pass_y l D tc ad kd N sm xs S p e s m args below meth c sz 55 lv st S1 0) := by
  have hx : xs.length = 2 := by rw [H0.2.1.1]; rfl
  intro α lv st S1 H hp hk
  obtain ⟨α1, hle, Hr⟩ := as_recM (pl := []) [] (by decide +kernel) H
  have hf := H.2.2.2.2.2.2.2.2.2.2.1
  have hl1 : α1.length = 3 := by rw [Hr.2.1.1]; rfl
  have hl0 : α.length = 3 := by rw [H.2.1.1]; rfl
  have hxa : al_le xs α1 := H.1.trans hle
  obtain ⟨g1, -, g3, g4, -⟩ := as_fx Hr
  have g0 : (805 ≤ nv α1 0 ∧ nv α1 0 ≤ 805) ∧ (1 ≤ nv α1 1 ∧ nv α1 1 ≤ 60) ∧ (0 ≤ nv α1 2 ∧ nv α1 2 ≤ 59) ∧ True := by
    refine ⟨by have h := (en_nv (i := 0) Hr.2.1 rfl).2; exact h, by have h := (en_nv (i := 1) Hr.2.1 rfl).2; exact h, by have h := (en_nv (i := 2) Hr.2.1 rfl).2; exact h, trivial⟩
  have r0 : nv α1 0 = nv α 0 := nv_le hle (by omega)
  have r1 : nv α1 1 = nv α 1 := nv_le hle (by omega)
  have r2 : nv α1 2 = nv α 2 := nv_le hle (by omega)
  refine hd_segM G (na := 3) (fuel := 600) (first := true) (Bs := [kh_pass_b55_0]) (by decide +kernel) hl1 Hr ?_
  intro q hq β lv' st' S' H1
  simp only [List.mem_cons, List.not_mem_nil, or_false] at hq
  rcases hq with rfl
  · obtain ⟨f1, f2, f3, f4, f5⟩ := as_fx H1
    simp only [kh_pass_b55_0, fx_env, fx_c, fx_ne, fx_hf, wl_S, Nat.zero_add, Nat.reduceAdd, Nat.reduceDiv, Nat.reduceMod, List.getElem?_cons_zero, List.getElem?_cons_succ, if_true, and_true, true_and] at f1 f2 f3 f4 f5
    have fe0 : nv β 0 = 805 := by omega
    try simp only [fe0, Int.reduceToNat] at f2 f3 f4 f5
    have s0 : nv β 0 = nv α1 0 := nv_le H1.1 (by omega)
    have s1 : nv β 1 = nv α1 1 := nv_le H1.1 (by omega)
    have s2 : nv β 2 = nv α1 2 := nv_le H1.1 (by omega)
    obtain ⟨α', Ha, hm⟩ := hd_gpM (q := kh_pass_a46) (n := 0) (by decide +kernel) hx H1 (by decide +kernel) hxa hf
    have hfr := H1.2.2.2.2.2.2.2.2.2.2.1
    have m0 : nv α' 0 = nv β 0 := hm 0 0 rfl
    have m1 : nv α' 1 = nv β 1 := hm 1 1 rfl
    have m2 : nv α' 2 = nv β 3 := hm 2 3 rfl
    subst S'
    refine ih.2.1 _ _ _ _ Ha ?_ ?_
    · rw [m1, m2]; exact ⟨by omega, by omega⟩
    · rw [m2]; omega
set_option maxHeartbeats 16000000 in
set_option maxRecDepth 8000 in
theorem kh_pass_ok : ct_ok wd_fl2 kh_pass := ct_hand (ff := wd_ff2) (y := kh_pass_y) (Cs := [kh_in6, kh_592, kh_588, kh_day, kh_591, kh_590, kh_645]) wd_fl2_ok rfl (List.forall_mem_cons.mpr ⟨kh_in6_ok, (List.forall_mem_cons.mpr ⟨kh_592_ok, (List.forall_mem_cons.mpr ⟨kh_588_ok, (List.forall_mem_cons.mpr ⟨kh_day_ok, (List.forall_mem_cons.mpr ⟨kh_591_ok, (List.forall_mem_cons.mpr ⟨kh_590_ok, (List.forall_mem_cons.mpr ⟨kh_645_ok, (List.forall_mem_nil _)⟩)⟩)⟩)⟩)⟩)⟩)⟩) (by decide +kernel) (fun l D tc ad kd N sm xs S p e s m args below meth c sz lv G H0 => by
  have hx : xs.length = 2 := by rw [H0.2.1.1]; rfl
  have hP : ∀ (k : Nat), kh_pass_I l D tc ad kd N sm xs S p e s m args below meth c sz k := by
    intro k
    induction k with
    | zero => exact ⟨fun _ _ _ _ _ _ h => absurd h (Nat.not_lt_zero _), fun _ _ _ _ _ _ h => absurd h (Nat.not_lt_zero _), fun _ _ _ _ _ _ h => absurd h (Nat.not_lt_zero _), fun _ _ _ _ _ _ h => absurd h (Nat.not_lt_zero _), trivial⟩
    | succ k ih => exact ⟨kh_pass_h17 G H0 ih, kh_pass_h46 G H0 ih, kh_pass_h52 G H0 ih, kh_pass_h55 G H0 ih, trivial⟩
  obtain ⟨α1, hle, Hr⟩ := as_recM (pl := []) [((805, 805), (8, 8, 0))] (by decide +kernel) H0
  have hf := H0.2.2.2.2.2.2.2.2.2.2.1
  have hl1 : α1.length = 2 := by rw [Hr.2.1.1]; rfl
  have hl0 : xs.length = 2 := by rw [H0.2.1.1]; rfl
  have hxa : al_le xs α1 := H0.1.trans hle
  obtain ⟨g1, -, g3, g4, -⟩ := as_fx Hr
  have g0 : (805 ≤ nv α1 0 ∧ nv α1 0 ≤ 805) ∧ ((-2147483648) ≤ nv α1 1 ∧ nv α1 1 ≤ 2147483647) ∧ True := by
    refine ⟨by have h := (en_nv (i := 0) Hr.2.1 rfl).2; exact h, by have h := (en_nv (i := 1) Hr.2.1 rfl).2; exact h, trivial⟩
  have r0 : nv α1 0 = nv xs 0 := nv_le hle (by omega)
  have r1 : nv α1 1 = nv xs 1 := nv_le hle (by omega)
  refine hd_segM G (na := 2) (fuel := 600) (first := true) (Bs := [kh_pass_b0_0, kh_pass_b0_1]) (by decide +kernel) hl1 Hr ?_
  intro q hq β lv' st' S' H1
  simp only [List.mem_cons, List.not_mem_nil, or_false] at hq
  rcases hq with rfl | rfl
  · obtain ⟨f1, f2, f3, f4, f5⟩ := as_fx H1
    simp only [kh_pass_b0_0, fx_env, fx_c, fx_ne, fx_hf, wl_S, Nat.zero_add, Nat.reduceAdd, Nat.reduceDiv, Nat.reduceMod, List.getElem?_cons_zero, List.getElem?_cons_succ, if_true, and_true, true_and] at f1 f2 f3 f4 f5
    have fe0 : nv β 0 = 805 := by omega
    have fe2 : nv β 2 = 1 := by omega
    have fe3 : nv β 3 = 60 := by omega
    have fe4 : nv β 4 = 0 := by omega
    have fe5 : nv β 5 = 1 := by omega
    have fe6 : nv β 6 = 1 := by omega
    have fe7 : nv β 7 = 0 := by omega
    try simp only [fe0, fe2, fe3, fe4, fe5, fe6, fe7, Int.reduceToNat] at f2 f3 f4 f5
    have s0 : nv β 0 = nv α1 0 := nv_le H1.1 (by omega)
    have s1 : nv β 1 = nv α1 1 := nv_le H1.1 (by omega)
    have c0 := f2
    exact hd_run G (ss := []) (fuel := 20) (by decide +kernel) (as_backM H1 (by decide +kernel) hxa hf)
  · obtain ⟨f1, f2, f3, f4, f5⟩ := as_fx H1
    simp only [kh_pass_b0_1, fx_env, fx_c, fx_ne, fx_hf, wl_S, Nat.zero_add, Nat.reduceAdd, Nat.reduceDiv, Nat.reduceMod, List.getElem?_cons_zero, List.getElem?_cons_succ, if_true, and_true, true_and] at f1 f2 f3 f4 f5
    have fe0 : nv β 0 = 805 := by omega
    have fe2 : nv β 2 = 1 := by omega
    have fe3 : nv β 3 = 60 := by omega
    have fe4 : nv β 4 = 1 := by omega
    have fe5 : nv β 5 = 1 := by omega
    have fe6 : nv β 6 = 0 := by omega
    try simp only [fe0, fe2, fe3, fe4, fe5, fe6, Int.reduceToNat] at f2 f3 f4 f5
    have s0 : nv β 0 = nv α1 0 := nv_le H1.1 (by omega)
    have s1 : nv β 1 = nv α1 1 := nv_le H1.1 (by omega)
    have c0 := f2
    obtain ⟨α', Ha, hm⟩ := hd_gpM (q := kh_pass_a17) (n := 0) (by decide +kernel) hx H1 (by decide +kernel) hxa hf
    have hfr := H1.2.2.2.2.2.2.2.2.2.2.1
    have m0 : nv α' 0 = nv β 0 := hm 0 0 rfl
    have m1 : nv α' 1 = nv β 1 := hm 1 1 rfl
    refine (hP _).1 _ _ _ _ Ha ?_ (Nat.lt_succ_self _)
    · trivial)
