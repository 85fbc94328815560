/-! ===== booksDay, dayGoes, pass ===== -/
abbrev kh_day_y : mt_T := (⟨"UtilityWorksModel", "day", "()I"⟩, prog_14_method_29_code, 1, some .int, 12, 1, 0, 31172, 31171, 4011, 21014)
def kh_day : ct_T := (339, [(2, 805, 805, 0)], [], [], [(1, (0, 0, 999, 1), [(2, 805, 805, 0)], [], ([], [(1033, 0, 0)]))], [], 0, 0, 0)
def kh_day_b0_0 : sg_T := (6, 0, ([((2, 805, 805, 0), none), ((2, 806, 806, 1), none), ((0, 0, 0, 0), none), ((0, 0, 999, 1), none)], [(0, 0)], [3], [(1, 2, 3)], [], [(800003, 1, 2)], [], [], some []))
set_option maxHeartbeats 16000000 in
set_option maxRecDepth 8000 in
theorem kh_day_ok : ct_ok wd_fl2 kh_day := ct_hand (ff := wd_ff2) (y := kh_day_y) (Cs := []) wd_fl2_ok rfl (List.forall_mem_nil _) (by decide +kernel) (fun l D tc ad kd N sm xs S p e s m args below meth c sz lv G H0 => by
  have hx : xs.length = 1 := by rw [H0.2.1.1]; rfl
  obtain ⟨α1, hle, Hr⟩ := as_recM (pl := []) [] (by decide +kernel) H0
  have hf := H0.2.2.2.2.2.2.2.2.2.2.1
  have hl1 : α1.length = 1 := by rw [Hr.2.1.1]; rfl
  have hl0 : xs.length = 1 := by rw [H0.2.1.1]; rfl
  have hxa : al_le xs α1 := H0.1.trans hle
  obtain ⟨g1, -, g3, g4, -⟩ := as_fx Hr
  have g0 : (805 ≤ nv α1 0 ∧ nv α1 0 ≤ 805) ∧ True := by
    refine ⟨by have h := (en_nv (i := 0) Hr.2.1 rfl).2; exact h, trivial⟩
  have r0 : nv α1 0 = nv xs 0 := nv_le hle (by omega)
  refine hd_segM G (na := 1) (fuel := 600) (first := true) (Bs := [kh_day_b0_0]) (by decide +kernel) hl1 Hr ?_
  intro q hq β lv' st' S' H1
  simp only [List.mem_cons, List.not_mem_nil, or_false] at hq
  rcases hq with rfl
  · obtain ⟨f1, f2, f3, f4, f5⟩ := as_fx H1
    simp only [kh_day_b0_0, fx_env, fx_c, fx_ne, fx_hf, wl_S, Nat.zero_add, Nat.reduceAdd, Nat.reduceDiv, Nat.reduceMod, List.getElem?_cons_zero, List.getElem?_cons_succ, if_true, and_true, true_and] at f1 f2 f3 f4 f5
    have fe0 : nv β 0 = 805 := by omega
    have fe1 : nv β 1 = 806 := by omega
    have fe2 : nv β 2 = 0 := by omega
    try simp only [fe0, fe1, fe2, Int.reduceToNat] at f2 f3 f4 f5
    have s0 : nv β 0 = nv α1 0 := nv_le H1.1 (by omega)
    have c0 := f2
    have o0 := old_0 c0 rfl
    have hS : S' = S := by subst S'; rfl
    refine hd_retI G (v := 3) (by decide +kernel) (as_backM H1 (by decide +kernel) hxa hf) _ List.mem_cons_self rfl (by decide +kernel) (by decide) (fun w hw => ?_)
    rcases List.mem_singleton.mp hw with rfl
    have g0' := (en_nv (i := 0) H0.2.1 rfl).1
    refine ⟨_, _, g0', g0', ?_⟩
    rw [wd_fl2, if_neg (by decide)]
    show nv β 3 = (S.1 806 0).toInt
    exact o0.symm)
theorem bl_fr {mod : List md_T} {S S' : fw_S} (h : fr_in mod S S') (h1 : mod.all (fun d => md_off d 806 806 (1820, 2000, 20)) = true) (c : Nat) (hc : c < 10) : S'.1 806 (1820 + 20 * c) = S.1 806 (1820 + 20 * c) := fr_pg h 806 _ h1 (pg_mk (by omega) (by omega) (by omega))
/- UtilityWorksModel bC -/
def kh_952 : ct_T := (413, [(0, 0, 0, 0), (0, 1, 1, 0)], [], [], [(1, (0, 1821, 1821, 0), [(0, 0, 0, 0), (0, 1, 1, 0)], [], ([], []))], [], 0, 0, 0)
theorem kh_952_ok : ct_ok wd_fl2 kh_952 := ct_of (ff := wd_ff2) (y := (⟨"UtilityWorksModel", "bC", "(II)I"⟩, prog_14_method_227_code, 2, some .int, 12, 0, 2, 33186, 33185, 0, 21014)) (Cs := []) (an := []) (ss := []) (K := 1) (fuel := 4000) wd_fl2_ok rfl (List.forall_mem_nil _) (by decide +kernel)
/- UtilityWorksModel bC -/
def kh_953 : ct_T := (413, [(0, 0, 0, 0), (0, 2, 2, 0)], [], [], [(1, (0, 1822, 1822, 0), [(0, 0, 0, 0), (0, 2, 2, 0)], [], ([], []))], [], 0, 0, 0)
theorem kh_953_ok : ct_ok wd_fl2 kh_953 := ct_of (ff := wd_ff2) (y := (⟨"UtilityWorksModel", "bC", "(II)I"⟩, prog_14_method_227_code, 2, some .int, 12, 0, 2, 33186, 33185, 0, 21014)) (Cs := []) (an := []) (ss := []) (K := 1) (fuel := 4000) wd_fl2_ok rfl (List.forall_mem_nil _) (by decide +kernel)
/- UtilityWorksModel bDue -/
def kh_954 : ct_T := (504, [(2, 805, 805, 0), (0, 0, 0, 0), (0, 0, 214748364, 1)], [], [], [(1, (1, (-9223372036854775808), 9223372036854775807, 1), [(2, 805, 805, 0), (0, 0, 0, 0), (0, 0, 214748364, 1)], [], ([], []))], [], 0, 0, 0)
theorem kh_954_ok : ct_ok wd_fl2 kh_954 := ct_of (ff := wd_ff2) (y := (⟨"UtilityWorksModel", "bDue", "(II)J"⟩, prog_14_method_242_code, 3, some .long, 12, 1, 2, 35069, 35068, 13011, 21014)) (Cs := []) (an := []) (ss := []) (K := 1) (fuel := 4000) wd_fl2_ok rfl (List.forall_mem_nil _) (by decide +kernel)
/- UtilityWorksModel bC -/
def kh_955 : ct_T := (413, [(0, 0, 0, 0), (0, 3, 3, 0)], [], [], [(1, (0, 1823, 1823, 0), [(0, 0, 0, 0), (0, 3, 3, 0)], [], ([], []))], [], 0, 0, 0)
theorem kh_955_ok : ct_ok wd_fl2 kh_955 := ct_of (ff := wd_ff2) (y := (⟨"UtilityWorksModel", "bC", "(II)I"⟩, prog_14_method_227_code, 2, some .int, 12, 0, 2, 33186, 33185, 0, 21014)) (Cs := []) (an := []) (ss := []) (K := 1) (fuel := 4000) wd_fl2_ok rfl (List.forall_mem_nil _) (by decide +kernel)
/- UtilityWorksModel bEndPlan -/
def kh_956 : ct_T := (505, [(2, 805, 805, 0), (0, 0, 0, 0)], [], [], [(0, (0, 0, 0, 0), [(2, 805, 805, 0), (0, 0, 0, 0)], [((806, 806), (1821, 1821, 0), (0, 0, 0, 0)), ((806, 806), (1822, 1822, 0), (0, 0, 0, 0))], ([], []))], [((806, 806), (1821, 1821, 0)), ((806, 806), (1822, 1822, 0)), ((807, 807), (2830, 2830, 0)), ((807, 807), (2840, 2840, 0)), ((807, 807), (2850, 2850, 0))], 1, 21, 0)
theorem kh_956_ok : ct_ok wd_fl2 kh_956 := ct_of (ff := wd_ff2) (y := (⟨"UtilityWorksModel", "bEndPlan", "(I)V"⟩, prog_14_method_241_code, 2, none, 12, 1, 1, 35073, 35072, 13012, 21014)) (Cs := [kh_952, kh_953]) (an := []) (ss := []) (K := 1) (fuel := 4000) wd_fl2_ok rfl (List.forall_mem_cons.mpr ⟨kh_952_ok, (List.forall_mem_cons.mpr ⟨kh_953_ok, (List.forall_mem_nil _)⟩)⟩) (by decide +kernel)
/- UtilityWorksModel bPlanDay -/
def kh_957 : ct_T := (503, [(2, 805, 805, 0), (0, 0, 0, 0)], [], [], [(0, (0, 0, 0, 0), [(2, 805, 805, 0), (0, 0, 0, 0)], [], ([], []))], [((806, 806), (1821, 1821, 0)), ((806, 806), (1822, 1822, 0)), ((806, 806), (1823, 1823, 0)), ((807, 807), (2830, 2830, 0)), ((807, 807), (2840, 2840, 0)), ((807, 807), (2850, 2850, 0))], 2, 42, 0)
theorem kh_957_ok : ct_ok wd_fl2 kh_957 := ct_of (ff := wd_ff2) (y := (⟨"UtilityWorksModel", "bPlanDay", "(I)V"⟩, prog_14_method_243_code, 4, none, 12, 1, 1, 35065, 35064, 13010, 21014)) (Cs := [kh_952, kh_day, kh_953, kh_954, kh_955, kh_956]) (an := [(92, 0, ([((2, 805, 805, 0), none), ((0, 0, 0, 0), none), ((0, 0, 6, 1), none), ((0, (-2147483648), 2147483647, 1), none)], [(0, 0), (1, 1), (2, 2), (3, 3)], [], [], [], [], [], [], none), [(0, 0, 99908)])]) (ss := []) (K := 1) (fuel := 4000) wd_fl2_ok rfl (List.forall_mem_cons.mpr ⟨kh_952_ok, (List.forall_mem_cons.mpr ⟨kh_day_ok, (List.forall_mem_cons.mpr ⟨kh_953_ok, (List.forall_mem_cons.mpr ⟨kh_954_ok, (List.forall_mem_cons.mpr ⟨kh_955_ok, (List.forall_mem_cons.mpr ⟨kh_956_ok, (List.forall_mem_nil _)⟩)⟩)⟩)⟩)⟩)⟩) (by decide +kernel)
/- UtilityWorksModel bB -/
def kh_958 : ct_T := (507, [(0, 0, 0, 0), (0, 0, 32, 1), (0, 7, 7, 0)], [], [], [(1, (0, 107, 363, 8), [(0, 0, 0, 0), (0, 0, 32, 1), (0, 7, 7, 0)], [], ([], []))], [], 0, 0, 0)
theorem kh_958_ok : ct_ok wd_fl2 kh_958 := ct_of (ff := wd_ff2) (y := (⟨"UtilityWorksModel", "bB", "(III)I"⟩, prog_14_method_228_code, 3, some .int, 12, 0, 3, 35080, 35079, 0, 21014)) (Cs := []) (an := []) (ss := []) (K := 1) (fuel := 4000) wd_fl2_ok rfl (List.forall_mem_nil _) (by decide +kernel)
/- UtilityWorksModel bInterest -/
def kh_959 : ct_T := (506, [(2, 805, 805, 0), (0, 0, 0, 0)], [], [], [(0, (0, 0, 0, 0), [(2, 805, 805, 0), (0, 0, 0, 0)], [], ([], []))], [((807, 807), (107, 363, 8)), ((807, 807), (2862, 2862, 0))], 1, 22, 0)
theorem kh_959_ok : ct_ok wd_fl2 kh_959 := ct_of (ff := wd_ff2) (y := (⟨"UtilityWorksModel", "bInterest", "(I)V"⟩, prog_14_method_244_code, 5, none, 12, 1, 1, 35077, 35076, 13013, 21014)) (Cs := [kh_714, kh_958]) (an := [(2, 0, ([((2, 805, 805, 0), none), ((0, 0, 0, 0), none), ((0, 0, 33, 1), none)], [(0, 0), (1, 1), (2, 2)], [], [], [], [], [], [], none), [(0, 0, 99998), (1, 2, 33), (0, 0, 99998)])]) (ss := []) (K := 3) (fuel := 4000) wd_fl2_ok rfl (List.forall_mem_cons.mpr ⟨kh_714_ok, (List.forall_mem_cons.mpr ⟨kh_958_ok, (List.forall_mem_nil _)⟩)⟩) (by decide +kernel)
/- UtilityWorksModel bB -/
def kh_960 : ct_T := (507, [(0, 0, 0, 0), (0, 0, 32, 1), (0, 0, 0, 0)], [], [], [(1, (0, 100, 356, 8), [(0, 0, 0, 0), (0, 0, 32, 1), (0, 0, 0, 0)], [], ([], []))], [], 0, 0, 0)
theorem kh_960_ok : ct_ok wd_fl2 kh_960 := ct_of (ff := wd_ff2) (y := (⟨"UtilityWorksModel", "bB", "(III)I"⟩, prog_14_method_228_code, 3, some .int, 12, 0, 3, 35080, 35079, 0, 21014)) (Cs := []) (an := []) (ss := []) (K := 1) (fuel := 4000) wd_fl2_ok rfl (List.forall_mem_nil _) (by decide +kernel)
/- UtilityWorksModel bNotice -/
def kh_961 : ct_T := (516, [(2, 805, 805, 0), (0, 0, 0, 0)], [], [], [(1, (0, 0, 0, 0), [(2, 805, 805, 0), (0, 0, 0, 0)], [], ([], [])), (1, (0, 1, 1, 0), [(2, 805, 805, 0), (0, 0, 0, 0)], [((806, 806), (1821, 1821, 0), (0, 0, 0, 1))], ([], [])), (1, (0, 2, 3, 1), [(2, 805, 805, 0), (0, 0, 0, 0)], [((806, 806), (1821, 1821, 0), (0, 0, 0, 1))], ([], []))], [], 1, 22, 0)
theorem kh_961_ok : ct_ok wd_fl2 kh_961 := ct_of (ff := wd_ff2) (y := (⟨"UtilityWorksModel", "bNotice", "(I)I"⟩, prog_14_method_248_code, 5, some .int, 12, 1, 1, 35119, 35118, 14006, 21014)) (Cs := [kh_714, kh_952, kh_day, kh_960, kh_958]) (an := [(15, 0, ([((2, 805, 805, 0), none), ((0, 0, 0, 0), none), ((0, (-1), 32, 1), none), ((0, (-1), 32, 1), none)], [(0, 0), (1, 1), (2, 2), (3, 3)], [], [], [], [], [], [], none), [(0, 0, 99985), (2, 3, (-1)), (0, 0, 99985)]), (66, 0, ([((2, 805, 805, 0), none), ((0, 0, 0, 0), none), ((0, (-1), 32, 1), none), ((0, (-1), (-1), 1), none)], [(0, 0), (1, 1), (2, 2), (3, 3)], [], [], [], [], [], [], none), [(0, 0, 99934), (0, 0, 0), (0, 0, 0)])]) (ss := []) (K := 3) (fuel := 4000) wd_fl2_ok rfl (List.forall_mem_cons.mpr ⟨kh_714_ok, (List.forall_mem_cons.mpr ⟨kh_952_ok, (List.forall_mem_cons.mpr ⟨kh_day_ok, (List.forall_mem_cons.mpr ⟨kh_960_ok, (List.forall_mem_cons.mpr ⟨kh_958_ok, (List.forall_mem_nil _)⟩)⟩)⟩)⟩)⟩) (by decide +kernel)
/- UtilityWorksModel cHas -/
def kh_962 : ct_T := (517, [(2, 805, 805, 0), (0, 5, 5, 0), (0, 0, 0, 0)], [], [], [(1, (0, 0, 1, 1), [(2, 805, 805, 0), (0, 5, 5, 0), (0, 0, 0, 0)], [], ([], []))], [], 1, 21, 0)
theorem kh_962_ok : ct_ok wd_fl2 kh_962 := ct_of (ff := wd_ff2) (y := (⟨"UtilityWorksModel", "cHas", "(II)Z"⟩, prog_14_method_276_code, 5, some .boolean, 12, 1, 2, 35126, 35125, 14007, 21014)) (Cs := [kh_cJ0, kh_cJ2, kh_cJ4]) (an := [(5, 0, ([((2, 805, 805, 0), none), ((0, 5, 5, 0), none), ((0, 0, 0, 0), none), ((0, 0, 1, 1), none), ((0, 0, 200, 1), none)], [(0, 0), (1, 1), (2, 2), (3, 3), (4, 4)], [], [], [], [], [], [], none), [(0, 0, 99995), (1, 4, 200), (0, 0, 99995)]), (67, 0, ([((2, 805, 805, 0), none), ((0, 5, 5, 0), none), ((0, 0, 0, 0), none), ((0, 0, 1, 1), none), ((0, 0, 199, 1), none)], [(0, 0), (1, 1), (2, 2), (3, 3), (4, 4)], [], [], [], [], [((806, 806), (2440, 2440, 0), (0, 1, 200, 1))], [], none), [(0, 0, 99995), (1, 4, 200), (0, 0, 99933)]), (71, 0, ([((2, 805, 805, 0), none), ((0, 5, 5, 0), none), ((0, 0, 0, 0), none), ((0, 0, 0, 0), none), ((0, 0, 199, 1), none)], [(0, 0), (1, 1), (2, 2), (3, 3), (4, 4)], [], [], [], [], [((806, 806), (2440, 2440, 0), (0, 1, 200, 1))], [], none), [(0, 0, 99995), (1, 4, 200), (0, 0, 99929)])]) (ss := []) (K := 3) (fuel := 4000) wd_fl2_ok rfl (List.forall_mem_cons.mpr ⟨kh_cJ0_ok, (List.forall_mem_cons.mpr ⟨kh_cJ2_ok, (List.forall_mem_cons.mpr ⟨kh_cJ4_ok, (List.forall_mem_nil _)⟩)⟩)⟩) (by decide +kernel)
/- UtilityWorksModel bC -/
def kh_963 : ct_T := (413, [(0, 0, 0, 0), (0, 5, 5, 0)], [], [], [(1, (0, 1825, 1825, 0), [(0, 0, 0, 0), (0, 5, 5, 0)], [], ([], []))], [], 0, 0, 0)
theorem kh_963_ok : ct_ok wd_fl2 kh_963 := ct_of (ff := wd_ff2) (y := (⟨"UtilityWorksModel", "bC", "(II)I"⟩, prog_14_method_227_code, 2, some .int, 12, 0, 2, 33186, 33185, 0, 21014)) (Cs := []) (an := []) (ss := []) (K := 1) (fuel := 4000) wd_fl2_ok rfl (List.forall_mem_nil _) (by decide +kernel)
/- UtilityWorksModel bCutFrom -/
def kh_964 : ct_T := (412, [(2, 805, 805, 0), (0, 0, 0, 0)], [], [], [(1, (0, (-2147483648), 2147483647, 1), [(2, 805, 805, 0), (0, 0, 0, 0)], [], ([], []))], [], 1, 21, 0)
theorem kh_964_ok : ct_ok wd_fl2 kh_964 := ct_of (ff := wd_ff2) (y := (⟨"UtilityWorksModel", "bCutFrom", "(I)I"⟩, prog_14_method_235_code, 2, some .int, 12, 1, 1, 33183, 33182, 8001, 21014)) (Cs := [kh_963]) (an := []) (ss := []) (K := 1) (fuel := 4000) wd_fl2_ok rfl (List.forall_mem_cons.mpr ⟨kh_963_ok, (List.forall_mem_nil _)⟩) (by decide +kernel)
/- UtilityWorksModel bOpen -/
def kh_965 : ct_T := (522, [(2, 805, 805, 0), (0, 0, 0, 0)], [], [], [(1, (1, (-9223372036854775808), 9223372036854775807, 1), [(2, 805, 805, 0), (0, 0, 0, 0)], [], ([], []))], [], 1, 22, 0)
theorem kh_965_ok : ct_ok wd_fl2 kh_965 := ct_of (ff := wd_ff2) (y := (⟨"UtilityWorksModel", "bOpen", "(I)J"⟩, prog_14_method_238_code, 5, some .long, 12, 1, 1, 35146, 35145, 14012, 21014)) (Cs := [kh_714, kh_958]) (an := [(5, 0, ([((2, 805, 805, 0), none), ((0, 0, 0, 0), none), ((1, (-9223372036854775808), 9223372036854775807, 1), none), ((0, 0, 33, 1), none)], [(0, 0), (1, 1), (2, 2), (4, 3)], [], [], [], [], [], [], none), [(0, 0, 99995), (1, 3, 33), (0, 0, 99995)])]) (ss := []) (K := 3) (fuel := 4000) wd_fl2_ok rfl (List.forall_mem_cons.mpr ⟨kh_714_ok, (List.forall_mem_cons.mpr ⟨kh_958_ok, (List.forall_mem_nil _)⟩)⟩) (by decide +kernel)
/- UtilityWorksModel bOwes -/
def kh_966 : ct_T := (521, [(2, 805, 805, 0), (0, 0, 0, 0)], [], [], [(1, (1, (-9223372036854775808), 9223372036854775807, 1), [(2, 805, 805, 0), (0, 0, 0, 0)], [], ([], []))], [], 2, 46, 0)
theorem kh_966_ok : ct_ok wd_fl2 kh_966 := ct_of (ff := wd_ff2) (y := (⟨"UtilityWorksModel", "bOwes", "(I)J"⟩, prog_14_method_239_code, 2, some .long, 12, 1, 1, 35142, 35141, 14011, 21014)) (Cs := [kh_965]) (an := []) (ss := []) (K := 1) (fuel := 4000) wd_fl2_ok rfl (List.forall_mem_cons.mpr ⟨kh_965_ok, (List.forall_mem_nil _)⟩) (by decide +kernel)
/- UtilityWorksModel cHas -/
def kh_967 : ct_T := (517, [(2, 805, 805, 0), (0, 6, 6, 0), (0, 0, 0, 0)], [], [], [(1, (0, 0, 1, 1), [(2, 805, 805, 0), (0, 6, 6, 0), (0, 0, 0, 0)], [], ([], []))], [], 1, 21, 0)
theorem kh_967_ok : ct_ok wd_fl2 kh_967 := ct_of (ff := wd_ff2) (y := (⟨"UtilityWorksModel", "cHas", "(II)Z"⟩, prog_14_method_276_code, 5, some .boolean, 12, 1, 2, 35126, 35125, 14007, 21014)) (Cs := [kh_cJ0, kh_cJ2, kh_cJ4]) (an := [(5, 0, ([((2, 805, 805, 0), none), ((0, 6, 6, 0), none), ((0, 0, 0, 0), none), ((0, 0, 1, 1), none), ((0, 0, 200, 1), none)], [(0, 0), (1, 1), (2, 2), (3, 3), (4, 4)], [], [], [], [], [], [], none), [(0, 0, 99995), (1, 4, 200), (0, 0, 99995)]), (67, 0, ([((2, 805, 805, 0), none), ((0, 6, 6, 0), none), ((0, 0, 0, 0), none), ((0, 0, 1, 1), none), ((0, 0, 199, 1), none)], [(0, 0), (1, 1), (2, 2), (3, 3), (4, 4)], [], [], [], [], [((806, 806), (2440, 2440, 0), (0, 1, 200, 1))], [], none), [(0, 0, 99995), (1, 4, 200), (0, 0, 99933)]), (71, 0, ([((2, 805, 805, 0), none), ((0, 6, 6, 0), none), ((0, 0, 0, 0), none), ((0, 0, 0, 0), none), ((0, 0, 199, 1), none)], [(0, 0), (1, 1), (2, 2), (3, 3), (4, 4)], [], [], [], [], [((806, 806), (2440, 2440, 0), (0, 1, 200, 1))], [], none), [(0, 0, 99995), (1, 4, 200), (0, 0, 99929)])]) (ss := []) (K := 3) (fuel := 4000) wd_fl2_ok rfl (List.forall_mem_cons.mpr ⟨kh_cJ0_ok, (List.forall_mem_cons.mpr ⟨kh_cJ2_ok, (List.forall_mem_cons.mpr ⟨kh_cJ4_ok, (List.forall_mem_nil _)⟩)⟩)⟩) (by decide +kernel)
/- UtilityWorksModel bNotices -/
def kh_968 : ct_T := (515, [(2, 805, 805, 0), (0, 0, 0, 0)], [], [510], [(0, (0, 0, 0, 0), [(2, 805, 805, 0), (0, 0, 0, 0)], [], ([510], []))], [((806, 806), (2440, 4047, 1))], 3, 67, 0)
theorem kh_968_ok : ct_ok wd_fl2 kh_968 := ct_of (ff := wd_ff2) (y := (⟨"UtilityWorksModel", "bNotices", "(I)V"⟩, prog_14_method_249_code, 2, none, 12, 1, 1, 35115, 35114, 14005, 21014)) (Cs := [kh_961, kh_rankOf, kh_468, kh_962, kh_cMay, kh_cAddb, kh_964, kh_966, kh_967]) (an := [(54, 0, ([((2, 805, 805, 0), none), ((0, 0, 0, 0), none)], [(0, 0), (1, 1)], [], [], [], [], [], [510], none), [(0, 0, 99946)]), (98, 0, ([((2, 805, 805, 0), none), ((0, 0, 0, 0), none)], [(0, 0), (1, 1)], [], [], [], [], [], [510], none), [(0, 0, 99902)])]) (ss := []) (K := 1) (fuel := 4000) wd_fl2_ok rfl (List.forall_mem_cons.mpr ⟨kh_961_ok, (List.forall_mem_cons.mpr ⟨kh_rankOf_l2, (List.forall_mem_cons.mpr ⟨kh_468_l2, (List.forall_mem_cons.mpr ⟨kh_962_ok, (List.forall_mem_cons.mpr ⟨kh_cMay_ok, (List.forall_mem_cons.mpr ⟨kh_cAddb_ok, (List.forall_mem_cons.mpr ⟨kh_964_ok, (List.forall_mem_cons.mpr ⟨kh_966_ok, (List.forall_mem_cons.mpr ⟨kh_967_ok, (List.forall_mem_nil _)⟩)⟩)⟩)⟩)⟩)⟩)⟩)⟩)⟩) (by decide +kernel)
/- UtilityWorksModel bC -/
def kh_969 : ct_T := (413, [(0, 0, 1, 1), (0, 1, 1, 0)], [], [], [(1, (0, 1821, 1841, 20), [(0, 0, 1, 1), (0, 1, 1, 0)], [], ([], []))], [], 0, 0, 0)
theorem kh_969_ok : ct_ok wd_fl2 kh_969 := ct_of (ff := wd_ff2) (y := (⟨"UtilityWorksModel", "bC", "(II)I"⟩, prog_14_method_227_code, 2, some .int, 12, 0, 2, 33186, 33185, 0, 21014)) (Cs := []) (an := []) (ss := []) (K := 1) (fuel := 4000) wd_fl2_ok rfl (List.forall_mem_nil _) (by decide +kernel)
/- UtilityWorksModel bC -/
def kh_970 : ct_T := (413, [(0, 0, 1, 1), (0, 2, 2, 0)], [], [], [(1, (0, 1822, 1842, 20), [(0, 0, 1, 1), (0, 2, 2, 0)], [], ([], []))], [], 0, 0, 0)
theorem kh_970_ok : ct_ok wd_fl2 kh_970 := ct_of (ff := wd_ff2) (y := (⟨"UtilityWorksModel", "bC", "(II)I"⟩, prog_14_method_227_code, 2, some .int, 12, 0, 2, 33186, 33185, 0, 21014)) (Cs := []) (an := []) (ss := []) (K := 1) (fuel := 4000) wd_fl2_ok rfl (List.forall_mem_nil _) (by decide +kernel)
/- UtilityWorksModel bDue -/
def kh_971 : ct_T := (504, [(2, 805, 805, 0), (0, 0, 1, 1), (0, 0, 214748364, 1)], [], [], [(1, (1, (-9223372036854775808), 9223372036854775807, 1), [(2, 805, 805, 0), (0, 0, 1, 1), (0, 0, 214748364, 1)], [], ([], []))], [], 0, 0, 0)
theorem kh_971_ok : ct_ok wd_fl2 kh_971 := ct_of (ff := wd_ff2) (y := (⟨"UtilityWorksModel", "bDue", "(II)J"⟩, prog_14_method_242_code, 3, some .long, 12, 1, 2, 35069, 35068, 13011, 21014)) (Cs := []) (an := []) (ss := []) (K := 1) (fuel := 4000) wd_fl2_ok rfl (List.forall_mem_nil _) (by decide +kernel)
/- UtilityWorksModel bC -/
def kh_972 : ct_T := (413, [(0, 0, 1, 1), (0, 3, 3, 0)], [], [], [(1, (0, 1823, 1843, 20), [(0, 0, 1, 1), (0, 3, 3, 0)], [], ([], []))], [], 0, 0, 0)
theorem kh_972_ok : ct_ok wd_fl2 kh_972 := ct_of (ff := wd_ff2) (y := (⟨"UtilityWorksModel", "bC", "(II)I"⟩, prog_14_method_227_code, 2, some .int, 12, 0, 2, 33186, 33185, 0, 21014)) (Cs := []) (an := []) (ss := []) (K := 1) (fuel := 4000) wd_fl2_ok rfl (List.forall_mem_nil _) (by decide +kernel)
/- UtilityWorksModel bEndPlan -/
def kh_973 : ct_T := (505, [(2, 805, 805, 0), (0, 0, 1, 1)], [], [], [(0, (0, 0, 0, 0), [(2, 805, 805, 0), (0, 0, 1, 1)], [], ([], []))], [((806, 806), (1821, 1841, 20)), ((806, 806), (1822, 1842, 20)), ((807, 807), (2830, 2831, 1)), ((807, 807), (2840, 2841, 1)), ((807, 807), (2850, 2851, 1))], 1, 21, 0)
theorem kh_973_ok : ct_ok wd_fl2 kh_973 := ct_of (ff := wd_ff2) (y := (⟨"UtilityWorksModel", "bEndPlan", "(I)V"⟩, prog_14_method_241_code, 2, none, 12, 1, 1, 35073, 35072, 13012, 21014)) (Cs := [kh_969, kh_970]) (an := []) (ss := []) (K := 1) (fuel := 4000) wd_fl2_ok rfl (List.forall_mem_cons.mpr ⟨kh_969_ok, (List.forall_mem_cons.mpr ⟨kh_970_ok, (List.forall_mem_nil _)⟩)⟩) (by decide +kernel)
/- UtilityWorksModel bPlanDay -/
def kh_974 : ct_T := (503, [(2, 805, 805, 0), (0, 0, 1, 1)], [], [], [(0, (0, 0, 0, 0), [(2, 805, 805, 0), (0, 0, 1, 1)], [], ([], []))], [((806, 806), (1821, 1841, 20)), ((806, 806), (1822, 1842, 20)), ((806, 806), (1823, 1843, 20)), ((807, 807), (2830, 2831, 1)), ((807, 807), (2840, 2841, 1)), ((807, 807), (2850, 2851, 1))], 2, 42, 0)
theorem kh_974_ok : ct_ok wd_fl2 kh_974 := ct_of (ff := wd_ff2) (y := (⟨"UtilityWorksModel", "bPlanDay", "(I)V"⟩, prog_14_method_243_code, 4, none, 12, 1, 1, 35065, 35064, 13010, 21014)) (Cs := [kh_969, kh_day, kh_970, kh_971, kh_972, kh_973]) (an := [(92, 0, ([((2, 805, 805, 0), none), ((0, 0, 1, 1), none), ((0, 0, 6, 1), none), ((0, (-2147483648), 2147483647, 1), none)], [(0, 0), (1, 1), (2, 2), (3, 3)], [], [], [], [], [], [], none), [(0, 0, 99908)])]) (ss := []) (K := 1) (fuel := 4000) wd_fl2_ok rfl (List.forall_mem_cons.mpr ⟨kh_969_ok, (List.forall_mem_cons.mpr ⟨kh_day_ok, (List.forall_mem_cons.mpr ⟨kh_970_ok, (List.forall_mem_cons.mpr ⟨kh_971_ok, (List.forall_mem_cons.mpr ⟨kh_972_ok, (List.forall_mem_cons.mpr ⟨kh_973_ok, (List.forall_mem_nil _)⟩)⟩)⟩)⟩)⟩)⟩) (by decide +kernel)
/- UtilityWorksModel bC -/
def kh_975 : ct_T := (413, [(0, 0, 1, 1), (0, 0, 0, 0)], [], [], [(1, (0, 1820, 1840, 20), [(0, 0, 1, 1), (0, 0, 0, 0)], [], ([], []))], [], 0, 0, 0)
theorem kh_975_ok : ct_ok wd_fl2 kh_975 := ct_of (ff := wd_ff2) (y := (⟨"UtilityWorksModel", "bC", "(II)I"⟩, prog_14_method_227_code, 2, some .int, 12, 0, 2, 33186, 33185, 0, 21014)) (Cs := []) (an := []) (ss := []) (K := 1) (fuel := 4000) wd_fl2_ok rfl (List.forall_mem_nil _) (by decide +kernel)
/- UtilityWorksModel bB -/
def kh_976 : ct_T := (507, [(0, 0, 1, 1), (0, 0, 32, 1), (0, 7, 7, 0)], [], [], [(1, (0, 107, 635, 8), [(0, 0, 1, 1), (0, 0, 32, 1), (0, 7, 7, 0)], [], ([], []))], [], 0, 0, 0)
theorem kh_976_ok : ct_ok wd_fl2 kh_976 := ct_of (ff := wd_ff2) (y := (⟨"UtilityWorksModel", "bB", "(III)I"⟩, prog_14_method_228_code, 3, some .int, 12, 0, 3, 35080, 35079, 0, 21014)) (Cs := []) (an := []) (ss := []) (K := 1) (fuel := 4000) wd_fl2_ok rfl (List.forall_mem_nil _) (by decide +kernel)
/- UtilityWorksModel bInterest -/
def kh_977 : ct_T := (506, [(2, 805, 805, 0), (0, 0, 1, 1)], [], [], [(0, (0, 0, 0, 0), [(2, 805, 805, 0), (0, 0, 1, 1)], [], ([], []))], [((807, 807), (107, 635, 8)), ((807, 807), (2862, 2862, 0))], 1, 22, 0)
theorem kh_977_ok : ct_ok wd_fl2 kh_977 := ct_of (ff := wd_ff2) (y := (⟨"UtilityWorksModel", "bInterest", "(I)V"⟩, prog_14_method_244_code, 5, none, 12, 1, 1, 35077, 35076, 13013, 21014)) (Cs := [kh_975, kh_976]) (an := [(2, 0, ([((2, 805, 805, 0), none), ((0, 0, 1, 1), none), ((0, 0, 33, 1), none)], [(0, 0), (1, 1), (2, 2)], [], [], [], [], [], [], none), [(0, 0, 99998), (1, 2, 33), (0, 0, 99998)])]) (ss := []) (K := 3) (fuel := 4000) wd_fl2_ok rfl (List.forall_mem_cons.mpr ⟨kh_975_ok, (List.forall_mem_cons.mpr ⟨kh_976_ok, (List.forall_mem_nil _)⟩)⟩) (by decide +kernel)
/- UtilityWorksModel bB -/
def kh_978 : ct_T := (507, [(0, 0, 1, 1), (0, 0, 32, 1), (0, 0, 0, 0)], [], [], [(1, (0, 100, 628, 8), [(0, 0, 1, 1), (0, 0, 32, 1), (0, 0, 0, 0)], [], ([], []))], [], 0, 0, 0)
theorem kh_978_ok : ct_ok wd_fl2 kh_978 := ct_of (ff := wd_ff2) (y := (⟨"UtilityWorksModel", "bB", "(III)I"⟩, prog_14_method_228_code, 3, some .int, 12, 0, 3, 35080, 35079, 0, 21014)) (Cs := []) (an := []) (ss := []) (K := 1) (fuel := 4000) wd_fl2_ok rfl (List.forall_mem_nil _) (by decide +kernel)
/- UtilityWorksModel bNotice -/
def kh_979 : ct_T := (516, [(2, 805, 805, 0), (0, 0, 1, 1)], [], [], [(1, (0, 0, 0, 0), [(2, 805, 805, 0), (0, 0, 1, 1)], [], ([], [])), (1, (0, 1, 1, 0), [(2, 805, 805, 0), (0, 0, 1, 1)], [], ([], [])), (1, (0, 2, 3, 1), [(2, 805, 805, 0), (0, 0, 1, 1)], [], ([], []))], [], 1, 22, 0)
theorem kh_979_ok : ct_ok wd_fl2 kh_979 := ct_of (ff := wd_ff2) (y := (⟨"UtilityWorksModel", "bNotice", "(I)I"⟩, prog_14_method_248_code, 5, some .int, 12, 1, 1, 35119, 35118, 14006, 21014)) (Cs := [kh_975, kh_969, kh_day, kh_978, kh_976]) (an := [(15, 0, ([((2, 805, 805, 0), none), ((0, 0, 1, 1), none), ((0, (-1), 32, 1), none), ((0, (-1), 32, 1), none)], [(0, 0), (1, 1), (2, 2), (3, 3)], [], [], [], [], [], [], none), [(0, 0, 99985), (2, 3, (-1)), (0, 0, 99985)]), (66, 0, ([((2, 805, 805, 0), none), ((0, 0, 1, 1), none), ((0, (-1), 32, 1), none), ((0, (-1), (-1), 1), none)], [(0, 0), (1, 1), (2, 2), (3, 3)], [], [], [], [], [], [], none), [(0, 0, 99934), (0, 0, 0), (0, 0, 0)])]) (ss := []) (K := 3) (fuel := 4000) wd_fl2_ok rfl (List.forall_mem_cons.mpr ⟨kh_975_ok, (List.forall_mem_cons.mpr ⟨kh_969_ok, (List.forall_mem_cons.mpr ⟨kh_day_ok, (List.forall_mem_cons.mpr ⟨kh_978_ok, (List.forall_mem_cons.mpr ⟨kh_976_ok, (List.forall_mem_nil _)⟩)⟩)⟩)⟩)⟩) (by decide +kernel)
/- UtilityWorksModel cHas -/
def kh_980 : ct_T := (517, [(2, 805, 805, 0), (0, 5, 5, 0), (0, 0, 1, 1)], [], [], [(1, (0, 0, 1, 1), [(2, 805, 805, 0), (0, 5, 5, 0), (0, 0, 1, 1)], [], ([], []))], [], 1, 21, 0)
theorem kh_980_ok : ct_ok wd_fl2 kh_980 := ct_of (ff := wd_ff2) (y := (⟨"UtilityWorksModel", "cHas", "(II)Z"⟩, prog_14_method_276_code, 5, some .boolean, 12, 1, 2, 35126, 35125, 14007, 21014)) (Cs := [kh_cJ0, kh_cJ2, kh_cJ4]) (an := [(5, 0, ([((2, 805, 805, 0), none), ((0, 5, 5, 0), none), ((0, 0, 1, 1), none), ((0, 0, 1, 1), none), ((0, 0, 200, 1), none)], [(0, 0), (1, 1), (2, 2), (3, 3), (4, 4)], [], [], [], [], [], [], none), [(0, 0, 99995), (1, 4, 200), (0, 0, 99995)]), (67, 0, ([((2, 805, 805, 0), none), ((0, 5, 5, 0), none), ((0, 0, 1, 1), none), ((0, 0, 1, 1), none), ((0, 0, 199, 1), none)], [(0, 0), (1, 1), (2, 2), (3, 3), (4, 4)], [], [], [], [], [((806, 806), (2440, 2440, 0), (0, 1, 200, 1))], [], none), [(0, 0, 99995), (1, 4, 200), (0, 0, 99933)]), (71, 0, ([((2, 805, 805, 0), none), ((0, 5, 5, 0), none), ((0, 0, 1, 1), none), ((0, 0, 0, 0), none), ((0, 0, 199, 1), none)], [(0, 0), (1, 1), (2, 2), (3, 3), (4, 4)], [], [], [], [], [((806, 806), (2440, 2440, 0), (0, 1, 200, 1))], [], none), [(0, 0, 99995), (1, 4, 200), (0, 0, 99929)])]) (ss := []) (K := 3) (fuel := 4000) wd_fl2_ok rfl (List.forall_mem_cons.mpr ⟨kh_cJ0_ok, (List.forall_mem_cons.mpr ⟨kh_cJ2_ok, (List.forall_mem_cons.mpr ⟨kh_cJ4_ok, (List.forall_mem_nil _)⟩)⟩)⟩) (by decide +kernel)
/- UtilityWorksModel bC -/
def kh_981 : ct_T := (413, [(0, 0, 1, 1), (0, 5, 5, 0)], [], [], [(1, (0, 1825, 1845, 20), [(0, 0, 1, 1), (0, 5, 5, 0)], [], ([], []))], [], 0, 0, 0)
theorem kh_981_ok : ct_ok wd_fl2 kh_981 := ct_of (ff := wd_ff2) (y := (⟨"UtilityWorksModel", "bC", "(II)I"⟩, prog_14_method_227_code, 2, some .int, 12, 0, 2, 33186, 33185, 0, 21014)) (Cs := []) (an := []) (ss := []) (K := 1) (fuel := 4000) wd_fl2_ok rfl (List.forall_mem_nil _) (by decide +kernel)
/- UtilityWorksModel bCutFrom -/
def kh_982 : ct_T := (412, [(2, 805, 805, 0), (0, 0, 1, 1)], [], [], [(1, (0, (-2147483648), 2147483647, 1), [(2, 805, 805, 0), (0, 0, 1, 1)], [], ([], []))], [], 1, 21, 0)
theorem kh_982_ok : ct_ok wd_fl2 kh_982 := ct_of (ff := wd_ff2) (y := (⟨"UtilityWorksModel", "bCutFrom", "(I)I"⟩, prog_14_method_235_code, 2, some .int, 12, 1, 1, 33183, 33182, 8001, 21014)) (Cs := [kh_981]) (an := []) (ss := []) (K := 1) (fuel := 4000) wd_fl2_ok rfl (List.forall_mem_cons.mpr ⟨kh_981_ok, (List.forall_mem_nil _)⟩) (by decide +kernel)
/- UtilityWorksModel bOpen -/
def kh_983 : ct_T := (522, [(2, 805, 805, 0), (0, 0, 1, 1)], [], [], [(1, (1, (-9223372036854775808), 9223372036854775807, 1), [(2, 805, 805, 0), (0, 0, 1, 1)], [], ([], []))], [], 1, 22, 0)
theorem kh_983_ok : ct_ok wd_fl2 kh_983 := ct_of (ff := wd_ff2) (y := (⟨"UtilityWorksModel", "bOpen", "(I)J"⟩, prog_14_method_238_code, 5, some .long, 12, 1, 1, 35146, 35145, 14012, 21014)) (Cs := [kh_975, kh_976]) (an := [(5, 0, ([((2, 805, 805, 0), none), ((0, 0, 1, 1), none), ((1, (-9223372036854775808), 9223372036854775807, 1), none), ((0, 0, 33, 1), none)], [(0, 0), (1, 1), (2, 2), (4, 3)], [], [], [], [], [], [], none), [(0, 0, 99995), (1, 3, 33), (0, 0, 99995)])]) (ss := []) (K := 3) (fuel := 4000) wd_fl2_ok rfl (List.forall_mem_cons.mpr ⟨kh_975_ok, (List.forall_mem_cons.mpr ⟨kh_976_ok, (List.forall_mem_nil _)⟩)⟩) (by decide +kernel)
/- UtilityWorksModel bOwes -/
def kh_984 : ct_T := (521, [(2, 805, 805, 0), (0, 0, 1, 1)], [], [], [(1, (1, (-9223372036854775808), 9223372036854775807, 1), [(2, 805, 805, 0), (0, 0, 1, 1)], [], ([], []))], [], 2, 46, 0)
theorem kh_984_ok : ct_ok wd_fl2 kh_984 := ct_of (ff := wd_ff2) (y := (⟨"UtilityWorksModel", "bOwes", "(I)J"⟩, prog_14_method_239_code, 2, some .long, 12, 1, 1, 35142, 35141, 14011, 21014)) (Cs := [kh_983]) (an := []) (ss := []) (K := 1) (fuel := 4000) wd_fl2_ok rfl (List.forall_mem_cons.mpr ⟨kh_983_ok, (List.forall_mem_nil _)⟩) (by decide +kernel)
/- UtilityWorksModel cHas -/
def kh_985 : ct_T := (517, [(2, 805, 805, 0), (0, 6, 6, 0), (0, 0, 1, 1)], [], [], [(1, (0, 0, 1, 1), [(2, 805, 805, 0), (0, 6, 6, 0), (0, 0, 1, 1)], [], ([], []))], [], 1, 21, 0)
theorem kh_985_ok : ct_ok wd_fl2 kh_985 := ct_of (ff := wd_ff2) (y := (⟨"UtilityWorksModel", "cHas", "(II)Z"⟩, prog_14_method_276_code, 5, some .boolean, 12, 1, 2, 35126, 35125, 14007, 21014)) (Cs := [kh_cJ0, kh_cJ2, kh_cJ4]) (an := [(5, 0, ([((2, 805, 805, 0), none), ((0, 6, 6, 0), none), ((0, 0, 1, 1), none), ((0, 0, 1, 1), none), ((0, 0, 200, 1), none)], [(0, 0), (1, 1), (2, 2), (3, 3), (4, 4)], [], [], [], [], [], [], none), [(0, 0, 99995), (1, 4, 200), (0, 0, 99995)]), (67, 0, ([((2, 805, 805, 0), none), ((0, 6, 6, 0), none), ((0, 0, 1, 1), none), ((0, 0, 1, 1), none), ((0, 0, 199, 1), none)], [(0, 0), (1, 1), (2, 2), (3, 3), (4, 4)], [], [], [], [], [((806, 806), (2440, 2440, 0), (0, 1, 200, 1))], [], none), [(0, 0, 99995), (1, 4, 200), (0, 0, 99933)]), (71, 0, ([((2, 805, 805, 0), none), ((0, 6, 6, 0), none), ((0, 0, 1, 1), none), ((0, 0, 0, 0), none), ((0, 0, 199, 1), none)], [(0, 0), (1, 1), (2, 2), (3, 3), (4, 4)], [], [], [], [], [((806, 806), (2440, 2440, 0), (0, 1, 200, 1))], [], none), [(0, 0, 99995), (1, 4, 200), (0, 0, 99929)])]) (ss := []) (K := 3) (fuel := 4000) wd_fl2_ok rfl (List.forall_mem_cons.mpr ⟨kh_cJ0_ok, (List.forall_mem_cons.mpr ⟨kh_cJ2_ok, (List.forall_mem_cons.mpr ⟨kh_cJ4_ok, (List.forall_mem_nil _)⟩)⟩)⟩) (by decide +kernel)
/- UtilityWorksModel bNotices -/
def kh_986 : ct_T := (515, [(2, 805, 805, 0), (0, 0, 1, 1)], [], [510], [(0, (0, 0, 0, 0), [(2, 805, 805, 0), (0, 0, 1, 1)], [], ([510], []))], [((806, 806), (2440, 4047, 1))], 3, 67, 0)
theorem kh_986_ok : ct_ok wd_fl2 kh_986 := ct_of (ff := wd_ff2) (y := (⟨"UtilityWorksModel", "bNotices", "(I)V"⟩, prog_14_method_249_code, 2, none, 12, 1, 1, 35115, 35114, 14005, 21014)) (Cs := [kh_979, kh_rankOf, kh_476, kh_980, kh_cMay, kh_cAddb, kh_982, kh_984, kh_985]) (an := [(54, 0, ([((2, 805, 805, 0), none), ((0, 0, 1, 1), none)], [(0, 0), (1, 1)], [], [], [], [], [], [510], none), [(0, 0, 99946)]), (98, 0, ([((2, 805, 805, 0), none), ((0, 0, 1, 1), none)], [(0, 0), (1, 1)], [], [], [], [], [], [510], none), [(0, 0, 99902)])]) (ss := []) (K := 1) (fuel := 4000) wd_fl2_ok rfl (List.forall_mem_cons.mpr ⟨kh_979_ok, (List.forall_mem_cons.mpr ⟨kh_rankOf_l2, (List.forall_mem_cons.mpr ⟨kh_476_l2, (List.forall_mem_cons.mpr ⟨kh_980_ok, (List.forall_mem_cons.mpr ⟨kh_cMay_ok, (List.forall_mem_cons.mpr ⟨kh_cAddb_ok, (List.forall_mem_cons.mpr ⟨kh_982_ok, (List.forall_mem_cons.mpr ⟨kh_984_ok, (List.forall_mem_cons.mpr ⟨kh_985_ok, (List.forall_mem_nil _)⟩)⟩)⟩)⟩)⟩)⟩)⟩)⟩)⟩) (by decide +kernel)
/- UtilityWorksModel bC -/
def kh_987 : ct_T := (413, [(0, 0, 2, 1), (0, 1, 1, 0)], [], [], [(1, (0, 1821, 1861, 20), [(0, 0, 2, 1), (0, 1, 1, 0)], [], ([], []))], [], 0, 0, 0)
theorem kh_987_ok : ct_ok wd_fl2 kh_987 := ct_of (ff := wd_ff2) (y := (⟨"UtilityWorksModel", "bC", "(II)I"⟩, prog_14_method_227_code, 2, some .int, 12, 0, 2, 33186, 33185, 0, 21014)) (Cs := []) (an := []) (ss := []) (K := 1) (fuel := 4000) wd_fl2_ok rfl (List.forall_mem_nil _) (by decide +kernel)
/- UtilityWorksModel bC -/
def kh_988 : ct_T := (413, [(0, 0, 2, 1), (0, 2, 2, 0)], [], [], [(1, (0, 1822, 1862, 20), [(0, 0, 2, 1), (0, 2, 2, 0)], [], ([], []))], [], 0, 0, 0)
theorem kh_988_ok : ct_ok wd_fl2 kh_988 := ct_of (ff := wd_ff2) (y := (⟨"UtilityWorksModel", "bC", "(II)I"⟩, prog_14_method_227_code, 2, some .int, 12, 0, 2, 33186, 33185, 0, 21014)) (Cs := []) (an := []) (ss := []) (K := 1) (fuel := 4000) wd_fl2_ok rfl (List.forall_mem_nil _) (by decide +kernel)
/- UtilityWorksModel bDue -/
def kh_989 : ct_T := (504, [(2, 805, 805, 0), (0, 0, 2, 1), (0, 0, 214748364, 1)], [], [], [(1, (1, (-9223372036854775808), 9223372036854775807, 1), [(2, 805, 805, 0), (0, 0, 2, 1), (0, 0, 214748364, 1)], [], ([], []))], [], 0, 0, 0)
theorem kh_989_ok : ct_ok wd_fl2 kh_989 := ct_of (ff := wd_ff2) (y := (⟨"UtilityWorksModel", "bDue", "(II)J"⟩, prog_14_method_242_code, 3, some .long, 12, 1, 2, 35069, 35068, 13011, 21014)) (Cs := []) (an := []) (ss := []) (K := 1) (fuel := 4000) wd_fl2_ok rfl (List.forall_mem_nil _) (by decide +kernel)
/- UtilityWorksModel bC -/
def kh_990 : ct_T := (413, [(0, 0, 2, 1), (0, 3, 3, 0)], [], [], [(1, (0, 1823, 1863, 20), [(0, 0, 2, 1), (0, 3, 3, 0)], [], ([], []))], [], 0, 0, 0)
theorem kh_990_ok : ct_ok wd_fl2 kh_990 := ct_of (ff := wd_ff2) (y := (⟨"UtilityWorksModel", "bC", "(II)I"⟩, prog_14_method_227_code, 2, some .int, 12, 0, 2, 33186, 33185, 0, 21014)) (Cs := []) (an := []) (ss := []) (K := 1) (fuel := 4000) wd_fl2_ok rfl (List.forall_mem_nil _) (by decide +kernel)
/- UtilityWorksModel bEndPlan -/
def kh_991 : ct_T := (505, [(2, 805, 805, 0), (0, 0, 2, 1)], [], [], [(0, (0, 0, 0, 0), [(2, 805, 805, 0), (0, 0, 2, 1)], [], ([], []))], [((806, 806), (1821, 1861, 20)), ((806, 806), (1822, 1862, 20)), ((807, 807), (2830, 2832, 1)), ((807, 807), (2840, 2842, 1)), ((807, 807), (2850, 2852, 1))], 1, 21, 0)
theorem kh_991_ok : ct_ok wd_fl2 kh_991 := ct_of (ff := wd_ff2) (y := (⟨"UtilityWorksModel", "bEndPlan", "(I)V"⟩, prog_14_method_241_code, 2, none, 12, 1, 1, 35073, 35072, 13012, 21014)) (Cs := [kh_987, kh_988]) (an := []) (ss := []) (K := 1) (fuel := 4000) wd_fl2_ok rfl (List.forall_mem_cons.mpr ⟨kh_987_ok, (List.forall_mem_cons.mpr ⟨kh_988_ok, (List.forall_mem_nil _)⟩)⟩) (by decide +kernel)
/- UtilityWorksModel bPlanDay -/
def kh_992 : ct_T := (503, [(2, 805, 805, 0), (0, 0, 2, 1)], [], [], [(0, (0, 0, 0, 0), [(2, 805, 805, 0), (0, 0, 2, 1)], [], ([], []))], [((806, 806), (1821, 1861, 20)), ((806, 806), (1822, 1862, 20)), ((806, 806), (1823, 1863, 20)), ((807, 807), (2830, 2832, 1)), ((807, 807), (2840, 2842, 1)), ((807, 807), (2850, 2852, 1))], 2, 42, 0)
theorem kh_992_ok : ct_ok wd_fl2 kh_992 := ct_of (ff := wd_ff2) (y := (⟨"UtilityWorksModel", "bPlanDay", "(I)V"⟩, prog_14_method_243_code, 4, none, 12, 1, 1, 35065, 35064, 13010, 21014)) (Cs := [kh_987, kh_day, kh_988, kh_989, kh_990, kh_991]) (an := [(92, 0, ([((2, 805, 805, 0), none), ((0, 0, 2, 1), none), ((0, 0, 6, 1), none), ((0, (-2147483648), 2147483647, 1), none)], [(0, 0), (1, 1), (2, 2), (3, 3)], [], [], [], [], [], [], none), [(0, 0, 99908)])]) (ss := []) (K := 1) (fuel := 4000) wd_fl2_ok rfl (List.forall_mem_cons.mpr ⟨kh_987_ok, (List.forall_mem_cons.mpr ⟨kh_day_ok, (List.forall_mem_cons.mpr ⟨kh_988_ok, (List.forall_mem_cons.mpr ⟨kh_989_ok, (List.forall_mem_cons.mpr ⟨kh_990_ok, (List.forall_mem_cons.mpr ⟨kh_991_ok, (List.forall_mem_nil _)⟩)⟩)⟩)⟩)⟩)⟩) (by decide +kernel)
/- UtilityWorksModel bC -/
def kh_993 : ct_T := (413, [(0, 0, 2, 1), (0, 0, 0, 0)], [], [], [(1, (0, 1820, 1860, 20), [(0, 0, 2, 1), (0, 0, 0, 0)], [], ([], []))], [], 0, 0, 0)
theorem kh_993_ok : ct_ok wd_fl2 kh_993 := ct_of (ff := wd_ff2) (y := (⟨"UtilityWorksModel", "bC", "(II)I"⟩, prog_14_method_227_code, 2, some .int, 12, 0, 2, 33186, 33185, 0, 21014)) (Cs := []) (an := []) (ss := []) (K := 1) (fuel := 4000) wd_fl2_ok rfl (List.forall_mem_nil _) (by decide +kernel)
/- UtilityWorksModel bB -/
def kh_994 : ct_T := (507, [(0, 0, 2, 1), (0, 0, 32, 1), (0, 7, 7, 0)], [], [], [(1, (0, 107, 907, 8), [(0, 0, 2, 1), (0, 0, 32, 1), (0, 7, 7, 0)], [], ([], []))], [], 0, 0, 0)
theorem kh_994_ok : ct_ok wd_fl2 kh_994 := ct_of (ff := wd_ff2) (y := (⟨"UtilityWorksModel", "bB", "(III)I"⟩, prog_14_method_228_code, 3, some .int, 12, 0, 3, 35080, 35079, 0, 21014)) (Cs := []) (an := []) (ss := []) (K := 1) (fuel := 4000) wd_fl2_ok rfl (List.forall_mem_nil _) (by decide +kernel)
/- UtilityWorksModel bInterest -/
def kh_995 : ct_T := (506, [(2, 805, 805, 0), (0, 0, 2, 1)], [], [], [(0, (0, 0, 0, 0), [(2, 805, 805, 0), (0, 0, 2, 1)], [], ([], []))], [((807, 807), (107, 907, 8)), ((807, 807), (2862, 2862, 0))], 1, 22, 0)
theorem kh_995_ok : ct_ok wd_fl2 kh_995 := ct_of (ff := wd_ff2) (y := (⟨"UtilityWorksModel", "bInterest", "(I)V"⟩, prog_14_method_244_code, 5, none, 12, 1, 1, 35077, 35076, 13013, 21014)) (Cs := [kh_993, kh_994]) (an := [(2, 0, ([((2, 805, 805, 0), none), ((0, 0, 2, 1), none), ((0, 0, 33, 1), none)], [(0, 0), (1, 1), (2, 2)], [], [], [], [], [], [], none), [(0, 0, 99998), (1, 2, 33), (0, 0, 99998)])]) (ss := []) (K := 3) (fuel := 4000) wd_fl2_ok rfl (List.forall_mem_cons.mpr ⟨kh_993_ok, (List.forall_mem_cons.mpr ⟨kh_994_ok, (List.forall_mem_nil _)⟩)⟩) (by decide +kernel)
/- UtilityWorksModel bB -/
def kh_996 : ct_T := (507, [(0, 0, 2, 1), (0, 0, 32, 1), (0, 0, 0, 0)], [], [], [(1, (0, 100, 900, 8), [(0, 0, 2, 1), (0, 0, 32, 1), (0, 0, 0, 0)], [], ([], []))], [], 0, 0, 0)
theorem kh_996_ok : ct_ok wd_fl2 kh_996 := ct_of (ff := wd_ff2) (y := (⟨"UtilityWorksModel", "bB", "(III)I"⟩, prog_14_method_228_code, 3, some .int, 12, 0, 3, 35080, 35079, 0, 21014)) (Cs := []) (an := []) (ss := []) (K := 1) (fuel := 4000) wd_fl2_ok rfl (List.forall_mem_nil _) (by decide +kernel)
/- UtilityWorksModel bNotice -/
def kh_997 : ct_T := (516, [(2, 805, 805, 0), (0, 0, 2, 1)], [], [], [(1, (0, 0, 0, 0), [(2, 805, 805, 0), (0, 0, 2, 1)], [], ([], [])), (1, (0, 1, 1, 0), [(2, 805, 805, 0), (0, 0, 2, 1)], [], ([], [])), (1, (0, 2, 3, 1), [(2, 805, 805, 0), (0, 0, 2, 1)], [], ([], []))], [], 1, 22, 0)
theorem kh_997_ok : ct_ok wd_fl2 kh_997 := ct_of (ff := wd_ff2) (y := (⟨"UtilityWorksModel", "bNotice", "(I)I"⟩, prog_14_method_248_code, 5, some .int, 12, 1, 1, 35119, 35118, 14006, 21014)) (Cs := [kh_993, kh_987, kh_day, kh_996, kh_994]) (an := [(15, 0, ([((2, 805, 805, 0), none), ((0, 0, 2, 1), none), ((0, (-1), 32, 1), none), ((0, (-1), 32, 1), none)], [(0, 0), (1, 1), (2, 2), (3, 3)], [], [], [], [], [], [], none), [(0, 0, 99985), (2, 3, (-1)), (0, 0, 99985)]), (66, 0, ([((2, 805, 805, 0), none), ((0, 0, 2, 1), none), ((0, (-1), 32, 1), none), ((0, (-1), (-1), 1), none)], [(0, 0), (1, 1), (2, 2), (3, 3)], [], [], [], [], [], [], none), [(0, 0, 99934), (0, 0, 0), (0, 0, 0)])]) (ss := []) (K := 3) (fuel := 4000) wd_fl2_ok rfl (List.forall_mem_cons.mpr ⟨kh_993_ok, (List.forall_mem_cons.mpr ⟨kh_987_ok, (List.forall_mem_cons.mpr ⟨kh_day_ok, (List.forall_mem_cons.mpr ⟨kh_996_ok, (List.forall_mem_cons.mpr ⟨kh_994_ok, (List.forall_mem_nil _)⟩)⟩)⟩)⟩)⟩) (by decide +kernel)
/- UtilityWorksModel cHas -/
def kh_998 : ct_T := (517, [(2, 805, 805, 0), (0, 5, 5, 0), (0, 0, 2, 1)], [], [], [(1, (0, 0, 1, 1), [(2, 805, 805, 0), (0, 5, 5, 0), (0, 0, 2, 1)], [], ([], []))], [], 1, 21, 0)
theorem kh_998_ok : ct_ok wd_fl2 kh_998 := ct_of (ff := wd_ff2) (y := (⟨"UtilityWorksModel", "cHas", "(II)Z"⟩, prog_14_method_276_code, 5, some .boolean, 12, 1, 2, 35126, 35125, 14007, 21014)) (Cs := [kh_cJ0, kh_cJ2, kh_cJ4]) (an := [(5, 0, ([((2, 805, 805, 0), none), ((0, 5, 5, 0), none), ((0, 0, 2, 1), none), ((0, 0, 1, 1), none), ((0, 0, 200, 1), none)], [(0, 0), (1, 1), (2, 2), (3, 3), (4, 4)], [], [], [], [], [], [], none), [(0, 0, 99995), (1, 4, 200), (0, 0, 99995)]), (67, 0, ([((2, 805, 805, 0), none), ((0, 5, 5, 0), none), ((0, 0, 2, 1), none), ((0, 0, 1, 1), none), ((0, 0, 199, 1), none)], [(0, 0), (1, 1), (2, 2), (3, 3), (4, 4)], [], [], [], [], [((806, 806), (2440, 2440, 0), (0, 1, 200, 1))], [], none), [(0, 0, 99995), (1, 4, 200), (0, 0, 99933)]), (71, 0, ([((2, 805, 805, 0), none), ((0, 5, 5, 0), none), ((0, 0, 2, 1), none), ((0, 0, 0, 0), none), ((0, 0, 199, 1), none)], [(0, 0), (1, 1), (2, 2), (3, 3), (4, 4)], [], [], [], [], [((806, 806), (2440, 2440, 0), (0, 1, 200, 1))], [], none), [(0, 0, 99995), (1, 4, 200), (0, 0, 99929)])]) (ss := []) (K := 3) (fuel := 4000) wd_fl2_ok rfl (List.forall_mem_cons.mpr ⟨kh_cJ0_ok, (List.forall_mem_cons.mpr ⟨kh_cJ2_ok, (List.forall_mem_cons.mpr ⟨kh_cJ4_ok, (List.forall_mem_nil _)⟩)⟩)⟩) (by decide +kernel)
/- UtilityWorksModel bC -/
def kh_999 : ct_T := (413, [(0, 0, 2, 1), (0, 5, 5, 0)], [], [], [(1, (0, 1825, 1865, 20), [(0, 0, 2, 1), (0, 5, 5, 0)], [], ([], []))], [], 0, 0, 0)
theorem kh_999_ok : ct_ok wd_fl2 kh_999 := ct_of (ff := wd_ff2) (y := (⟨"UtilityWorksModel", "bC", "(II)I"⟩, prog_14_method_227_code, 2, some .int, 12, 0, 2, 33186, 33185, 0, 21014)) (Cs := []) (an := []) (ss := []) (K := 1) (fuel := 4000) wd_fl2_ok rfl (List.forall_mem_nil _) (by decide +kernel)
/- UtilityWorksModel bCutFrom -/
def kh_1000 : ct_T := (412, [(2, 805, 805, 0), (0, 0, 2, 1)], [], [], [(1, (0, (-2147483648), 2147483647, 1), [(2, 805, 805, 0), (0, 0, 2, 1)], [], ([], []))], [], 1, 21, 0)
theorem kh_1000_ok : ct_ok wd_fl2 kh_1000 := ct_of (ff := wd_ff2) (y := (⟨"UtilityWorksModel", "bCutFrom", "(I)I"⟩, prog_14_method_235_code, 2, some .int, 12, 1, 1, 33183, 33182, 8001, 21014)) (Cs := [kh_999]) (an := []) (ss := []) (K := 1) (fuel := 4000) wd_fl2_ok rfl (List.forall_mem_cons.mpr ⟨kh_999_ok, (List.forall_mem_nil _)⟩) (by decide +kernel)
/- UtilityWorksModel bOpen -/
def kh_1001 : ct_T := (522, [(2, 805, 805, 0), (0, 0, 2, 1)], [], [], [(1, (1, (-9223372036854775808), 9223372036854775807, 1), [(2, 805, 805, 0), (0, 0, 2, 1)], [], ([], []))], [], 1, 22, 0)
theorem kh_1001_ok : ct_ok wd_fl2 kh_1001 := ct_of (ff := wd_ff2) (y := (⟨"UtilityWorksModel", "bOpen", "(I)J"⟩, prog_14_method_238_code, 5, some .long, 12, 1, 1, 35146, 35145, 14012, 21014)) (Cs := [kh_993, kh_994]) (an := [(5, 0, ([((2, 805, 805, 0), none), ((0, 0, 2, 1), none), ((1, (-9223372036854775808), 9223372036854775807, 1), none), ((0, 0, 33, 1), none)], [(0, 0), (1, 1), (2, 2), (4, 3)], [], [], [], [], [], [], none), [(0, 0, 99995), (1, 3, 33), (0, 0, 99995)])]) (ss := []) (K := 3) (fuel := 4000) wd_fl2_ok rfl (List.forall_mem_cons.mpr ⟨kh_993_ok, (List.forall_mem_cons.mpr ⟨kh_994_ok, (List.forall_mem_nil _)⟩)⟩) (by decide +kernel)
/- UtilityWorksModel bOwes -/
def kh_1002 : ct_T := (521, [(2, 805, 805, 0), (0, 0, 2, 1)], [], [], [(1, (1, (-9223372036854775808), 9223372036854775807, 1), [(2, 805, 805, 0), (0, 0, 2, 1)], [], ([], []))], [], 2, 46, 0)
theorem kh_1002_ok : ct_ok wd_fl2 kh_1002 := ct_of (ff := wd_ff2) (y := (⟨"UtilityWorksModel", "bOwes", "(I)J"⟩, prog_14_method_239_code, 2, some .long, 12, 1, 1, 35142, 35141, 14011, 21014)) (Cs := [kh_1001]) (an := []) (ss := []) (K := 1) (fuel := 4000) wd_fl2_ok rfl (List.forall_mem_cons.mpr ⟨kh_1001_ok, (List.forall_mem_nil _)⟩) (by decide +kernel)
/- UtilityWorksModel cHas -/
def kh_1003 : ct_T := (517, [(2, 805, 805, 0), (0, 6, 6, 0), (0, 0, 2, 1)], [], [], [(1, (0, 0, 1, 1), [(2, 805, 805, 0), (0, 6, 6, 0), (0, 0, 2, 1)], [], ([], []))], [], 1, 21, 0)
theorem kh_1003_ok : ct_ok wd_fl2 kh_1003 := ct_of (ff := wd_ff2) (y := (⟨"UtilityWorksModel", "cHas", "(II)Z"⟩, prog_14_method_276_code, 5, some .boolean, 12, 1, 2, 35126, 35125, 14007, 21014)) (Cs := [kh_cJ0, kh_cJ2, kh_cJ4]) (an := [(5, 0, ([((2, 805, 805, 0), none), ((0, 6, 6, 0), none), ((0, 0, 2, 1), none), ((0, 0, 1, 1), none), ((0, 0, 200, 1), none)], [(0, 0), (1, 1), (2, 2), (3, 3), (4, 4)], [], [], [], [], [], [], none), [(0, 0, 99995), (1, 4, 200), (0, 0, 99995)]), (67, 0, ([((2, 805, 805, 0), none), ((0, 6, 6, 0), none), ((0, 0, 2, 1), none), ((0, 0, 1, 1), none), ((0, 0, 199, 1), none)], [(0, 0), (1, 1), (2, 2), (3, 3), (4, 4)], [], [], [], [], [((806, 806), (2440, 2440, 0), (0, 1, 200, 1))], [], none), [(0, 0, 99995), (1, 4, 200), (0, 0, 99933)]), (71, 0, ([((2, 805, 805, 0), none), ((0, 6, 6, 0), none), ((0, 0, 2, 1), none), ((0, 0, 0, 0), none), ((0, 0, 199, 1), none)], [(0, 0), (1, 1), (2, 2), (3, 3), (4, 4)], [], [], [], [], [((806, 806), (2440, 2440, 0), (0, 1, 200, 1))], [], none), [(0, 0, 99995), (1, 4, 200), (0, 0, 99929)])]) (ss := []) (K := 3) (fuel := 4000) wd_fl2_ok rfl (List.forall_mem_cons.mpr ⟨kh_cJ0_ok, (List.forall_mem_cons.mpr ⟨kh_cJ2_ok, (List.forall_mem_cons.mpr ⟨kh_cJ4_ok, (List.forall_mem_nil _)⟩)⟩)⟩) (by decide +kernel)
/- UtilityWorksModel bNotices -/
def kh_1004 : ct_T := (515, [(2, 805, 805, 0), (0, 0, 2, 1)], [], [510], [(0, (0, 0, 0, 0), [(2, 805, 805, 0), (0, 0, 2, 1)], [], ([510], []))], [((806, 806), (2440, 4047, 1))], 3, 67, 0)
theorem kh_1004_ok : ct_ok wd_fl2 kh_1004 := ct_of (ff := wd_ff2) (y := (⟨"UtilityWorksModel", "bNotices", "(I)V"⟩, prog_14_method_249_code, 2, none, 12, 1, 1, 35115, 35114, 14005, 21014)) (Cs := [kh_997, kh_rankOf, kh_483, kh_998, kh_cMay, kh_cAddb, kh_1000, kh_1002, kh_1003]) (an := [(54, 0, ([((2, 805, 805, 0), none), ((0, 0, 2, 1), none)], [(0, 0), (1, 1)], [], [], [], [], [], [510], none), [(0, 0, 99946)]), (98, 0, ([((2, 805, 805, 0), none), ((0, 0, 2, 1), none)], [(0, 0), (1, 1)], [], [], [], [], [], [510], none), [(0, 0, 99902)])]) (ss := []) (K := 1) (fuel := 4000) wd_fl2_ok rfl (List.forall_mem_cons.mpr ⟨kh_997_ok, (List.forall_mem_cons.mpr ⟨kh_rankOf_l2, (List.forall_mem_cons.mpr ⟨kh_483_l2, (List.forall_mem_cons.mpr ⟨kh_998_ok, (List.forall_mem_cons.mpr ⟨kh_cMay_ok, (List.forall_mem_cons.mpr ⟨kh_cAddb_ok, (List.forall_mem_cons.mpr ⟨kh_1000_ok, (List.forall_mem_cons.mpr ⟨kh_1002_ok, (List.forall_mem_cons.mpr ⟨kh_1003_ok, (List.forall_mem_nil _)⟩)⟩)⟩)⟩)⟩)⟩)⟩)⟩)⟩) (by decide +kernel)
/- UtilityWorksModel bC -/
def kh_1005 : ct_T := (413, [(0, 0, 3, 1), (0, 1, 1, 0)], [], [], [(1, (0, 1821, 1881, 20), [(0, 0, 3, 1), (0, 1, 1, 0)], [], ([], []))], [], 0, 0, 0)
theorem kh_1005_ok : ct_ok wd_fl2 kh_1005 := ct_of (ff := wd_ff2) (y := (⟨"UtilityWorksModel", "bC", "(II)I"⟩, prog_14_method_227_code, 2, some .int, 12, 0, 2, 33186, 33185, 0, 21014)) (Cs := []) (an := []) (ss := []) (K := 1) (fuel := 4000) wd_fl2_ok rfl (List.forall_mem_nil _) (by decide +kernel)
/- UtilityWorksModel bC -/
def kh_1006 : ct_T := (413, [(0, 0, 3, 1), (0, 2, 2, 0)], [], [], [(1, (0, 1822, 1882, 20), [(0, 0, 3, 1), (0, 2, 2, 0)], [], ([], []))], [], 0, 0, 0)
theorem kh_1006_ok : ct_ok wd_fl2 kh_1006 := ct_of (ff := wd_ff2) (y := (⟨"UtilityWorksModel", "bC", "(II)I"⟩, prog_14_method_227_code, 2, some .int, 12, 0, 2, 33186, 33185, 0, 21014)) (Cs := []) (an := []) (ss := []) (K := 1) (fuel := 4000) wd_fl2_ok rfl (List.forall_mem_nil _) (by decide +kernel)
/- UtilityWorksModel bDue -/
def kh_1007 : ct_T := (504, [(2, 805, 805, 0), (0, 0, 3, 1), (0, 0, 214748364, 1)], [], [], [(1, (1, (-9223372036854775808), 9223372036854775807, 1), [(2, 805, 805, 0), (0, 0, 3, 1), (0, 0, 214748364, 1)], [], ([], []))], [], 0, 0, 0)
theorem kh_1007_ok : ct_ok wd_fl2 kh_1007 := ct_of (ff := wd_ff2) (y := (⟨"UtilityWorksModel", "bDue", "(II)J"⟩, prog_14_method_242_code, 3, some .long, 12, 1, 2, 35069, 35068, 13011, 21014)) (Cs := []) (an := []) (ss := []) (K := 1) (fuel := 4000) wd_fl2_ok rfl (List.forall_mem_nil _) (by decide +kernel)
/- UtilityWorksModel bC -/
def kh_1008 : ct_T := (413, [(0, 0, 3, 1), (0, 3, 3, 0)], [], [], [(1, (0, 1823, 1883, 20), [(0, 0, 3, 1), (0, 3, 3, 0)], [], ([], []))], [], 0, 0, 0)
theorem kh_1008_ok : ct_ok wd_fl2 kh_1008 := ct_of (ff := wd_ff2) (y := (⟨"UtilityWorksModel", "bC", "(II)I"⟩, prog_14_method_227_code, 2, some .int, 12, 0, 2, 33186, 33185, 0, 21014)) (Cs := []) (an := []) (ss := []) (K := 1) (fuel := 4000) wd_fl2_ok rfl (List.forall_mem_nil _) (by decide +kernel)
/- UtilityWorksModel bEndPlan -/
def kh_1009 : ct_T := (505, [(2, 805, 805, 0), (0, 0, 3, 1)], [], [], [(0, (0, 0, 0, 0), [(2, 805, 805, 0), (0, 0, 3, 1)], [], ([], []))], [((806, 806), (1821, 1881, 20)), ((806, 806), (1822, 1882, 20)), ((807, 807), (2830, 2833, 1)), ((807, 807), (2840, 2843, 1)), ((807, 807), (2850, 2853, 1))], 1, 21, 0)
theorem kh_1009_ok : ct_ok wd_fl2 kh_1009 := ct_of (ff := wd_ff2) (y := (⟨"UtilityWorksModel", "bEndPlan", "(I)V"⟩, prog_14_method_241_code, 2, none, 12, 1, 1, 35073, 35072, 13012, 21014)) (Cs := [kh_1005, kh_1006]) (an := []) (ss := []) (K := 1) (fuel := 4000) wd_fl2_ok rfl (List.forall_mem_cons.mpr ⟨kh_1005_ok, (List.forall_mem_cons.mpr ⟨kh_1006_ok, (List.forall_mem_nil _)⟩)⟩) (by decide +kernel)
/- UtilityWorksModel bPlanDay -/
def kh_1010 : ct_T := (503, [(2, 805, 805, 0), (0, 0, 3, 1)], [], [], [(0, (0, 0, 0, 0), [(2, 805, 805, 0), (0, 0, 3, 1)], [], ([], []))], [((806, 806), (1821, 1881, 20)), ((806, 806), (1822, 1882, 20)), ((806, 806), (1823, 1883, 20)), ((807, 807), (2830, 2833, 1)), ((807, 807), (2840, 2843, 1)), ((807, 807), (2850, 2853, 1))], 2, 42, 0)
theorem kh_1010_ok : ct_ok wd_fl2 kh_1010 := ct_of (ff := wd_ff2) (y := (⟨"UtilityWorksModel", "bPlanDay", "(I)V"⟩, prog_14_method_243_code, 4, none, 12, 1, 1, 35065, 35064, 13010, 21014)) (Cs := [kh_1005, kh_day, kh_1006, kh_1007, kh_1008, kh_1009]) (an := [(92, 0, ([((2, 805, 805, 0), none), ((0, 0, 3, 1), none), ((0, 0, 6, 1), none), ((0, (-2147483648), 2147483647, 1), none)], [(0, 0), (1, 1), (2, 2), (3, 3)], [], [], [], [], [], [], none), [(0, 0, 99908)])]) (ss := []) (K := 1) (fuel := 4000) wd_fl2_ok rfl (List.forall_mem_cons.mpr ⟨kh_1005_ok, (List.forall_mem_cons.mpr ⟨kh_day_ok, (List.forall_mem_cons.mpr ⟨kh_1006_ok, (List.forall_mem_cons.mpr ⟨kh_1007_ok, (List.forall_mem_cons.mpr ⟨kh_1008_ok, (List.forall_mem_cons.mpr ⟨kh_1009_ok, (List.forall_mem_nil _)⟩)⟩)⟩)⟩)⟩)⟩) (by decide +kernel)
/- UtilityWorksModel bC -/
def kh_1011 : ct_T := (413, [(0, 0, 3, 1), (0, 0, 0, 0)], [], [], [(1, (0, 1820, 1880, 20), [(0, 0, 3, 1), (0, 0, 0, 0)], [], ([], []))], [], 0, 0, 0)
theorem kh_1011_ok : ct_ok wd_fl2 kh_1011 := ct_of (ff := wd_ff2) (y := (⟨"UtilityWorksModel", "bC", "(II)I"⟩, prog_14_method_227_code, 2, some .int, 12, 0, 2, 33186, 33185, 0, 21014)) (Cs := []) (an := []) (ss := []) (K := 1) (fuel := 4000) wd_fl2_ok rfl (List.forall_mem_nil _) (by decide +kernel)
/- UtilityWorksModel bB -/
def kh_1012 : ct_T := (507, [(0, 0, 3, 1), (0, 0, 32, 1), (0, 7, 7, 0)], [], [], [(1, (0, 107, 1179, 8), [(0, 0, 3, 1), (0, 0, 32, 1), (0, 7, 7, 0)], [], ([], []))], [], 0, 0, 0)
theorem kh_1012_ok : ct_ok wd_fl2 kh_1012 := ct_of (ff := wd_ff2) (y := (⟨"UtilityWorksModel", "bB", "(III)I"⟩, prog_14_method_228_code, 3, some .int, 12, 0, 3, 35080, 35079, 0, 21014)) (Cs := []) (an := []) (ss := []) (K := 1) (fuel := 4000) wd_fl2_ok rfl (List.forall_mem_nil _) (by decide +kernel)
/- UtilityWorksModel bInterest -/
def kh_1013 : ct_T := (506, [(2, 805, 805, 0), (0, 0, 3, 1)], [], [], [(0, (0, 0, 0, 0), [(2, 805, 805, 0), (0, 0, 3, 1)], [], ([], []))], [((807, 807), (107, 1179, 8)), ((807, 807), (2862, 2862, 0))], 1, 22, 0)
theorem kh_1013_ok : ct_ok wd_fl2 kh_1013 := ct_of (ff := wd_ff2) (y := (⟨"UtilityWorksModel", "bInterest", "(I)V"⟩, prog_14_method_244_code, 5, none, 12, 1, 1, 35077, 35076, 13013, 21014)) (Cs := [kh_1011, kh_1012]) (an := [(2, 0, ([((2, 805, 805, 0), none), ((0, 0, 3, 1), none), ((0, 0, 33, 1), none)], [(0, 0), (1, 1), (2, 2)], [], [], [], [], [], [], none), [(0, 0, 99998), (1, 2, 33), (0, 0, 99998)])]) (ss := []) (K := 3) (fuel := 4000) wd_fl2_ok rfl (List.forall_mem_cons.mpr ⟨kh_1011_ok, (List.forall_mem_cons.mpr ⟨kh_1012_ok, (List.forall_mem_nil _)⟩)⟩) (by decide +kernel)
/- UtilityWorksModel bB -/
def kh_1014 : ct_T := (507, [(0, 0, 3, 1), (0, 0, 32, 1), (0, 0, 0, 0)], [], [], [(1, (0, 100, 1172, 8), [(0, 0, 3, 1), (0, 0, 32, 1), (0, 0, 0, 0)], [], ([], []))], [], 0, 0, 0)
theorem kh_1014_ok : ct_ok wd_fl2 kh_1014 := ct_of (ff := wd_ff2) (y := (⟨"UtilityWorksModel", "bB", "(III)I"⟩, prog_14_method_228_code, 3, some .int, 12, 0, 3, 35080, 35079, 0, 21014)) (Cs := []) (an := []) (ss := []) (K := 1) (fuel := 4000) wd_fl2_ok rfl (List.forall_mem_nil _) (by decide +kernel)
/- UtilityWorksModel bNotice -/
def kh_1015 : ct_T := (516, [(2, 805, 805, 0), (0, 0, 3, 1)], [], [], [(1, (0, 0, 0, 0), [(2, 805, 805, 0), (0, 0, 3, 1)], [], ([], [])), (1, (0, 1, 1, 0), [(2, 805, 805, 0), (0, 0, 3, 1)], [], ([], [])), (1, (0, 2, 3, 1), [(2, 805, 805, 0), (0, 0, 3, 1)], [], ([], []))], [], 1, 22, 0)
theorem kh_1015_ok : ct_ok wd_fl2 kh_1015 := ct_of (ff := wd_ff2) (y := (⟨"UtilityWorksModel", "bNotice", "(I)I"⟩, prog_14_method_248_code, 5, some .int, 12, 1, 1, 35119, 35118, 14006, 21014)) (Cs := [kh_1011, kh_1005, kh_day, kh_1014, kh_1012]) (an := [(15, 0, ([((2, 805, 805, 0), none), ((0, 0, 3, 1), none), ((0, (-1), 32, 1), none), ((0, (-1), 32, 1), none)], [(0, 0), (1, 1), (2, 2), (3, 3)], [], [], [], [], [], [], none), [(0, 0, 99985), (2, 3, (-1)), (0, 0, 99985)]), (66, 0, ([((2, 805, 805, 0), none), ((0, 0, 3, 1), none), ((0, (-1), 32, 1), none), ((0, (-1), (-1), 1), none)], [(0, 0), (1, 1), (2, 2), (3, 3)], [], [], [], [], [], [], none), [(0, 0, 99934), (0, 0, 0), (0, 0, 0)])]) (ss := []) (K := 3) (fuel := 4000) wd_fl2_ok rfl (List.forall_mem_cons.mpr ⟨kh_1011_ok, (List.forall_mem_cons.mpr ⟨kh_1005_ok, (List.forall_mem_cons.mpr ⟨kh_day_ok, (List.forall_mem_cons.mpr ⟨kh_1014_ok, (List.forall_mem_cons.mpr ⟨kh_1012_ok, (List.forall_mem_nil _)⟩)⟩)⟩)⟩)⟩) (by decide +kernel)
/- UtilityWorksModel cHas -/
def kh_1016 : ct_T := (517, [(2, 805, 805, 0), (0, 5, 5, 0), (0, 0, 3, 1)], [], [], [(1, (0, 0, 1, 1), [(2, 805, 805, 0), (0, 5, 5, 0), (0, 0, 3, 1)], [], ([], []))], [], 1, 21, 0)
theorem kh_1016_ok : ct_ok wd_fl2 kh_1016 := ct_of (ff := wd_ff2) (y := (⟨"UtilityWorksModel", "cHas", "(II)Z"⟩, prog_14_method_276_code, 5, some .boolean, 12, 1, 2, 35126, 35125, 14007, 21014)) (Cs := [kh_cJ0, kh_cJ2, kh_cJ4]) (an := [(5, 0, ([((2, 805, 805, 0), none), ((0, 5, 5, 0), none), ((0, 0, 3, 1), none), ((0, 0, 1, 1), none), ((0, 0, 200, 1), none)], [(0, 0), (1, 1), (2, 2), (3, 3), (4, 4)], [], [], [], [], [], [], none), [(0, 0, 99995), (1, 4, 200), (0, 0, 99995)]), (67, 0, ([((2, 805, 805, 0), none), ((0, 5, 5, 0), none), ((0, 0, 3, 1), none), ((0, 0, 1, 1), none), ((0, 0, 199, 1), none)], [(0, 0), (1, 1), (2, 2), (3, 3), (4, 4)], [], [], [], [], [((806, 806), (2440, 2440, 0), (0, 1, 200, 1))], [], none), [(0, 0, 99995), (1, 4, 200), (0, 0, 99933)]), (71, 0, ([((2, 805, 805, 0), none), ((0, 5, 5, 0), none), ((0, 0, 3, 1), none), ((0, 0, 0, 0), none), ((0, 0, 199, 1), none)], [(0, 0), (1, 1), (2, 2), (3, 3), (4, 4)], [], [], [], [], [((806, 806), (2440, 2440, 0), (0, 1, 200, 1))], [], none), [(0, 0, 99995), (1, 4, 200), (0, 0, 99929)])]) (ss := []) (K := 3) (fuel := 4000) wd_fl2_ok rfl (List.forall_mem_cons.mpr ⟨kh_cJ0_ok, (List.forall_mem_cons.mpr ⟨kh_cJ2_ok, (List.forall_mem_cons.mpr ⟨kh_cJ4_ok, (List.forall_mem_nil _)⟩)⟩)⟩) (by decide +kernel)
/- UtilityWorksModel bC -/
def kh_1017 : ct_T := (413, [(0, 0, 3, 1), (0, 5, 5, 0)], [], [], [(1, (0, 1825, 1885, 20), [(0, 0, 3, 1), (0, 5, 5, 0)], [], ([], []))], [], 0, 0, 0)
theorem kh_1017_ok : ct_ok wd_fl2 kh_1017 := ct_of (ff := wd_ff2) (y := (⟨"UtilityWorksModel", "bC", "(II)I"⟩, prog_14_method_227_code, 2, some .int, 12, 0, 2, 33186, 33185, 0, 21014)) (Cs := []) (an := []) (ss := []) (K := 1) (fuel := 4000) wd_fl2_ok rfl (List.forall_mem_nil _) (by decide +kernel)
/- UtilityWorksModel bCutFrom -/
def kh_1018 : ct_T := (412, [(2, 805, 805, 0), (0, 0, 3, 1)], [], [], [(1, (0, (-2147483648), 2147483647, 1), [(2, 805, 805, 0), (0, 0, 3, 1)], [], ([], []))], [], 1, 21, 0)
theorem kh_1018_ok : ct_ok wd_fl2 kh_1018 := ct_of (ff := wd_ff2) (y := (⟨"UtilityWorksModel", "bCutFrom", "(I)I"⟩, prog_14_method_235_code, 2, some .int, 12, 1, 1, 33183, 33182, 8001, 21014)) (Cs := [kh_1017]) (an := []) (ss := []) (K := 1) (fuel := 4000) wd_fl2_ok rfl (List.forall_mem_cons.mpr ⟨kh_1017_ok, (List.forall_mem_nil _)⟩) (by decide +kernel)
/- UtilityWorksModel bOpen -/
def kh_1019 : ct_T := (522, [(2, 805, 805, 0), (0, 0, 3, 1)], [], [], [(1, (1, (-9223372036854775808), 9223372036854775807, 1), [(2, 805, 805, 0), (0, 0, 3, 1)], [], ([], []))], [], 1, 22, 0)
theorem kh_1019_ok : ct_ok wd_fl2 kh_1019 := ct_of (ff := wd_ff2) (y := (⟨"UtilityWorksModel", "bOpen", "(I)J"⟩, prog_14_method_238_code, 5, some .long, 12, 1, 1, 35146, 35145, 14012, 21014)) (Cs := [kh_1011, kh_1012]) (an := [(5, 0, ([((2, 805, 805, 0), none), ((0, 0, 3, 1), none), ((1, (-9223372036854775808), 9223372036854775807, 1), none), ((0, 0, 33, 1), none)], [(0, 0), (1, 1), (2, 2), (4, 3)], [], [], [], [], [], [], none), [(0, 0, 99995), (1, 3, 33), (0, 0, 99995)])]) (ss := []) (K := 3) (fuel := 4000) wd_fl2_ok rfl (List.forall_mem_cons.mpr ⟨kh_1011_ok, (List.forall_mem_cons.mpr ⟨kh_1012_ok, (List.forall_mem_nil _)⟩)⟩) (by decide +kernel)
/- UtilityWorksModel bOwes -/
def kh_1020 : ct_T := (521, [(2, 805, 805, 0), (0, 0, 3, 1)], [], [], [(1, (1, (-9223372036854775808), 9223372036854775807, 1), [(2, 805, 805, 0), (0, 0, 3, 1)], [], ([], []))], [], 2, 46, 0)
theorem kh_1020_ok : ct_ok wd_fl2 kh_1020 := ct_of (ff := wd_ff2) (y := (⟨"UtilityWorksModel", "bOwes", "(I)J"⟩, prog_14_method_239_code, 2, some .long, 12, 1, 1, 35142, 35141, 14011, 21014)) (Cs := [kh_1019]) (an := []) (ss := []) (K := 1) (fuel := 4000) wd_fl2_ok rfl (List.forall_mem_cons.mpr ⟨kh_1019_ok, (List.forall_mem_nil _)⟩) (by decide +kernel)
/- UtilityWorksModel cHas -/
def kh_1021 : ct_T := (517, [(2, 805, 805, 0), (0, 6, 6, 0), (0, 0, 3, 1)], [], [], [(1, (0, 0, 1, 1), [(2, 805, 805, 0), (0, 6, 6, 0), (0, 0, 3, 1)], [], ([], []))], [], 1, 21, 0)
theorem kh_1021_ok : ct_ok wd_fl2 kh_1021 := ct_of (ff := wd_ff2) (y := (⟨"UtilityWorksModel", "cHas", "(II)Z"⟩, prog_14_method_276_code, 5, some .boolean, 12, 1, 2, 35126, 35125, 14007, 21014)) (Cs := [kh_cJ0, kh_cJ2, kh_cJ4]) (an := [(5, 0, ([((2, 805, 805, 0), none), ((0, 6, 6, 0), none), ((0, 0, 3, 1), none), ((0, 0, 1, 1), none), ((0, 0, 200, 1), none)], [(0, 0), (1, 1), (2, 2), (3, 3), (4, 4)], [], [], [], [], [], [], none), [(0, 0, 99995), (1, 4, 200), (0, 0, 99995)]), (67, 0, ([((2, 805, 805, 0), none), ((0, 6, 6, 0), none), ((0, 0, 3, 1), none), ((0, 0, 1, 1), none), ((0, 0, 199, 1), none)], [(0, 0), (1, 1), (2, 2), (3, 3), (4, 4)], [], [], [], [], [((806, 806), (2440, 2440, 0), (0, 1, 200, 1))], [], none), [(0, 0, 99995), (1, 4, 200), (0, 0, 99933)]), (71, 0, ([((2, 805, 805, 0), none), ((0, 6, 6, 0), none), ((0, 0, 3, 1), none), ((0, 0, 0, 0), none), ((0, 0, 199, 1), none)], [(0, 0), (1, 1), (2, 2), (3, 3), (4, 4)], [], [], [], [], [((806, 806), (2440, 2440, 0), (0, 1, 200, 1))], [], none), [(0, 0, 99995), (1, 4, 200), (0, 0, 99929)])]) (ss := []) (K := 3) (fuel := 4000) wd_fl2_ok rfl (List.forall_mem_cons.mpr ⟨kh_cJ0_ok, (List.forall_mem_cons.mpr ⟨kh_cJ2_ok, (List.forall_mem_cons.mpr ⟨kh_cJ4_ok, (List.forall_mem_nil _)⟩)⟩)⟩) (by decide +kernel)
/- UtilityWorksModel bNotices -/
def kh_1022 : ct_T := (515, [(2, 805, 805, 0), (0, 0, 3, 1)], [], [510], [(0, (0, 0, 0, 0), [(2, 805, 805, 0), (0, 0, 3, 1)], [], ([510], []))], [((806, 806), (2440, 4047, 1))], 3, 67, 0)
theorem kh_1022_ok : ct_ok wd_fl2 kh_1022 := ct_of (ff := wd_ff2) (y := (⟨"UtilityWorksModel", "bNotices", "(I)V"⟩, prog_14_method_249_code, 2, none, 12, 1, 1, 35115, 35114, 14005, 21014)) (Cs := [kh_1015, kh_rankOf, kh_490, kh_1016, kh_cMay, kh_cAddb, kh_1018, kh_1020, kh_1021]) (an := [(54, 0, ([((2, 805, 805, 0), none), ((0, 0, 3, 1), none)], [(0, 0), (1, 1)], [], [], [], [], [], [510], none), [(0, 0, 99946)]), (98, 0, ([((2, 805, 805, 0), none), ((0, 0, 3, 1), none)], [(0, 0), (1, 1)], [], [], [], [], [], [510], none), [(0, 0, 99902)])]) (ss := []) (K := 1) (fuel := 4000) wd_fl2_ok rfl (List.forall_mem_cons.mpr ⟨kh_1015_ok, (List.forall_mem_cons.mpr ⟨kh_rankOf_l2, (List.forall_mem_cons.mpr ⟨kh_490_l2, (List.forall_mem_cons.mpr ⟨kh_1016_ok, (List.forall_mem_cons.mpr ⟨kh_cMay_ok, (List.forall_mem_cons.mpr ⟨kh_cAddb_ok, (List.forall_mem_cons.mpr ⟨kh_1018_ok, (List.forall_mem_cons.mpr ⟨kh_1020_ok, (List.forall_mem_cons.mpr ⟨kh_1021_ok, (List.forall_mem_nil _)⟩)⟩)⟩)⟩)⟩)⟩)⟩)⟩)⟩) (by decide +kernel)
/- UtilityWorksModel bC -/
def kh_1023 : ct_T := (413, [(0, 0, 4, 1), (0, 1, 1, 0)], [], [], [(1, (0, 1821, 1901, 20), [(0, 0, 4, 1), (0, 1, 1, 0)], [], ([], []))], [], 0, 0, 0)
theorem kh_1023_ok : ct_ok wd_fl2 kh_1023 := ct_of (ff := wd_ff2) (y := (⟨"UtilityWorksModel", "bC", "(II)I"⟩, prog_14_method_227_code, 2, some .int, 12, 0, 2, 33186, 33185, 0, 21014)) (Cs := []) (an := []) (ss := []) (K := 1) (fuel := 4000) wd_fl2_ok rfl (List.forall_mem_nil _) (by decide +kernel)
/- UtilityWorksModel bC -/
def kh_1024 : ct_T := (413, [(0, 0, 4, 1), (0, 2, 2, 0)], [], [], [(1, (0, 1822, 1902, 20), [(0, 0, 4, 1), (0, 2, 2, 0)], [], ([], []))], [], 0, 0, 0)
theorem kh_1024_ok : ct_ok wd_fl2 kh_1024 := ct_of (ff := wd_ff2) (y := (⟨"UtilityWorksModel", "bC", "(II)I"⟩, prog_14_method_227_code, 2, some .int, 12, 0, 2, 33186, 33185, 0, 21014)) (Cs := []) (an := []) (ss := []) (K := 1) (fuel := 4000) wd_fl2_ok rfl (List.forall_mem_nil _) (by decide +kernel)
/- UtilityWorksModel bDue -/
def kh_1025 : ct_T := (504, [(2, 805, 805, 0), (0, 0, 4, 1), (0, 0, 214748364, 1)], [], [], [(1, (1, (-9223372036854775808), 9223372036854775807, 1), [(2, 805, 805, 0), (0, 0, 4, 1), (0, 0, 214748364, 1)], [], ([], []))], [], 0, 0, 0)
theorem kh_1025_ok : ct_ok wd_fl2 kh_1025 := ct_of (ff := wd_ff2) (y := (⟨"UtilityWorksModel", "bDue", "(II)J"⟩, prog_14_method_242_code, 3, some .long, 12, 1, 2, 35069, 35068, 13011, 21014)) (Cs := []) (an := []) (ss := []) (K := 1) (fuel := 4000) wd_fl2_ok rfl (List.forall_mem_nil _) (by decide +kernel)
/- UtilityWorksModel bC -/
def kh_1026 : ct_T := (413, [(0, 0, 4, 1), (0, 3, 3, 0)], [], [], [(1, (0, 1823, 1903, 20), [(0, 0, 4, 1), (0, 3, 3, 0)], [], ([], []))], [], 0, 0, 0)
theorem kh_1026_ok : ct_ok wd_fl2 kh_1026 := ct_of (ff := wd_ff2) (y := (⟨"UtilityWorksModel", "bC", "(II)I"⟩, prog_14_method_227_code, 2, some .int, 12, 0, 2, 33186, 33185, 0, 21014)) (Cs := []) (an := []) (ss := []) (K := 1) (fuel := 4000) wd_fl2_ok rfl (List.forall_mem_nil _) (by decide +kernel)
/- UtilityWorksModel bEndPlan -/
def kh_1027 : ct_T := (505, [(2, 805, 805, 0), (0, 0, 4, 1)], [], [], [(0, (0, 0, 0, 0), [(2, 805, 805, 0), (0, 0, 4, 1)], [], ([], []))], [((806, 806), (1821, 1901, 20)), ((806, 806), (1822, 1902, 20)), ((807, 807), (2830, 2834, 1)), ((807, 807), (2840, 2844, 1)), ((807, 807), (2850, 2854, 1))], 1, 21, 0)
theorem kh_1027_ok : ct_ok wd_fl2 kh_1027 := ct_of (ff := wd_ff2) (y := (⟨"UtilityWorksModel", "bEndPlan", "(I)V"⟩, prog_14_method_241_code, 2, none, 12, 1, 1, 35073, 35072, 13012, 21014)) (Cs := [kh_1023, kh_1024]) (an := []) (ss := []) (K := 1) (fuel := 4000) wd_fl2_ok rfl (List.forall_mem_cons.mpr ⟨kh_1023_ok, (List.forall_mem_cons.mpr ⟨kh_1024_ok, (List.forall_mem_nil _)⟩)⟩) (by decide +kernel)
/- UtilityWorksModel bPlanDay -/
def kh_1028 : ct_T := (503, [(2, 805, 805, 0), (0, 0, 4, 1)], [], [], [(0, (0, 0, 0, 0), [(2, 805, 805, 0), (0, 0, 4, 1)], [], ([], []))], [((806, 806), (1821, 1901, 20)), ((806, 806), (1822, 1902, 20)), ((806, 806), (1823, 1903, 20)), ((807, 807), (2830, 2834, 1)), ((807, 807), (2840, 2844, 1)), ((807, 807), (2850, 2854, 1))], 2, 42, 0)
theorem kh_1028_ok : ct_ok wd_fl2 kh_1028 := ct_of (ff := wd_ff2) (y := (⟨"UtilityWorksModel", "bPlanDay", "(I)V"⟩, prog_14_method_243_code, 4, none, 12, 1, 1, 35065, 35064, 13010, 21014)) (Cs := [kh_1023, kh_day, kh_1024, kh_1025, kh_1026, kh_1027]) (an := [(92, 0, ([((2, 805, 805, 0), none), ((0, 0, 4, 1), none), ((0, 0, 6, 1), none), ((0, (-2147483648), 2147483647, 1), none)], [(0, 0), (1, 1), (2, 2), (3, 3)], [], [], [], [], [], [], none), [(0, 0, 99908)])]) (ss := []) (K := 1) (fuel := 4000) wd_fl2_ok rfl (List.forall_mem_cons.mpr ⟨kh_1023_ok, (List.forall_mem_cons.mpr ⟨kh_day_ok, (List.forall_mem_cons.mpr ⟨kh_1024_ok, (List.forall_mem_cons.mpr ⟨kh_1025_ok, (List.forall_mem_cons.mpr ⟨kh_1026_ok, (List.forall_mem_cons.mpr ⟨kh_1027_ok, (List.forall_mem_nil _)⟩)⟩)⟩)⟩)⟩)⟩) (by decide +kernel)
/- UtilityWorksModel bC -/
def kh_1029 : ct_T := (413, [(0, 0, 4, 1), (0, 0, 0, 0)], [], [], [(1, (0, 1820, 1900, 20), [(0, 0, 4, 1), (0, 0, 0, 0)], [], ([], []))], [], 0, 0, 0)
theorem kh_1029_ok : ct_ok wd_fl2 kh_1029 := ct_of (ff := wd_ff2) (y := (⟨"UtilityWorksModel", "bC", "(II)I"⟩, prog_14_method_227_code, 2, some .int, 12, 0, 2, 33186, 33185, 0, 21014)) (Cs := []) (an := []) (ss := []) (K := 1) (fuel := 4000) wd_fl2_ok rfl (List.forall_mem_nil _) (by decide +kernel)
/- UtilityWorksModel bB -/
def kh_1030 : ct_T := (507, [(0, 0, 4, 1), (0, 0, 32, 1), (0, 7, 7, 0)], [], [], [(1, (0, 107, 1451, 8), [(0, 0, 4, 1), (0, 0, 32, 1), (0, 7, 7, 0)], [], ([], []))], [], 0, 0, 0)
theorem kh_1030_ok : ct_ok wd_fl2 kh_1030 := ct_of (ff := wd_ff2) (y := (⟨"UtilityWorksModel", "bB", "(III)I"⟩, prog_14_method_228_code, 3, some .int, 12, 0, 3, 35080, 35079, 0, 21014)) (Cs := []) (an := []) (ss := []) (K := 1) (fuel := 4000) wd_fl2_ok rfl (List.forall_mem_nil _) (by decide +kernel)
/- UtilityWorksModel bInterest -/
def kh_1031 : ct_T := (506, [(2, 805, 805, 0), (0, 0, 4, 1)], [], [], [(0, (0, 0, 0, 0), [(2, 805, 805, 0), (0, 0, 4, 1)], [], ([], []))], [((807, 807), (107, 1451, 8)), ((807, 807), (2862, 2862, 0))], 1, 22, 0)
theorem kh_1031_ok : ct_ok wd_fl2 kh_1031 := ct_of (ff := wd_ff2) (y := (⟨"UtilityWorksModel", "bInterest", "(I)V"⟩, prog_14_method_244_code, 5, none, 12, 1, 1, 35077, 35076, 13013, 21014)) (Cs := [kh_1029, kh_1030]) (an := [(2, 0, ([((2, 805, 805, 0), none), ((0, 0, 4, 1), none), ((0, 0, 33, 1), none)], [(0, 0), (1, 1), (2, 2)], [], [], [], [], [], [], none), [(0, 0, 99998), (1, 2, 33), (0, 0, 99998)])]) (ss := []) (K := 3) (fuel := 4000) wd_fl2_ok rfl (List.forall_mem_cons.mpr ⟨kh_1029_ok, (List.forall_mem_cons.mpr ⟨kh_1030_ok, (List.forall_mem_nil _)⟩)⟩) (by decide +kernel)
/- UtilityWorksModel bB -/
def kh_1032 : ct_T := (507, [(0, 0, 4, 1), (0, 0, 32, 1), (0, 0, 0, 0)], [], [], [(1, (0, 100, 1444, 8), [(0, 0, 4, 1), (0, 0, 32, 1), (0, 0, 0, 0)], [], ([], []))], [], 0, 0, 0)
theorem kh_1032_ok : ct_ok wd_fl2 kh_1032 := ct_of (ff := wd_ff2) (y := (⟨"UtilityWorksModel", "bB", "(III)I"⟩, prog_14_method_228_code, 3, some .int, 12, 0, 3, 35080, 35079, 0, 21014)) (Cs := []) (an := []) (ss := []) (K := 1) (fuel := 4000) wd_fl2_ok rfl (List.forall_mem_nil _) (by decide +kernel)
/- UtilityWorksModel bNotice -/
def kh_1033 : ct_T := (516, [(2, 805, 805, 0), (0, 0, 4, 1)], [], [], [(1, (0, 0, 0, 0), [(2, 805, 805, 0), (0, 0, 4, 1)], [], ([], [])), (1, (0, 1, 1, 0), [(2, 805, 805, 0), (0, 0, 4, 1)], [], ([], [])), (1, (0, 2, 3, 1), [(2, 805, 805, 0), (0, 0, 4, 1)], [], ([], []))], [], 1, 22, 0)
theorem kh_1033_ok : ct_ok wd_fl2 kh_1033 := ct_of (ff := wd_ff2) (y := (⟨"UtilityWorksModel", "bNotice", "(I)I"⟩, prog_14_method_248_code, 5, some .int, 12, 1, 1, 35119, 35118, 14006, 21014)) (Cs := [kh_1029, kh_1023, kh_day, kh_1032, kh_1030]) (an := [(15, 0, ([((2, 805, 805, 0), none), ((0, 0, 4, 1), none), ((0, (-1), 32, 1), none), ((0, (-1), 32, 1), none)], [(0, 0), (1, 1), (2, 2), (3, 3)], [], [], [], [], [], [], none), [(0, 0, 99985), (2, 3, (-1)), (0, 0, 99985)]), (66, 0, ([((2, 805, 805, 0), none), ((0, 0, 4, 1), none), ((0, (-1), 32, 1), none), ((0, (-1), (-1), 1), none)], [(0, 0), (1, 1), (2, 2), (3, 3)], [], [], [], [], [], [], none), [(0, 0, 99934), (0, 0, 0), (0, 0, 0)])]) (ss := []) (K := 3) (fuel := 4000) wd_fl2_ok rfl (List.forall_mem_cons.mpr ⟨kh_1029_ok, (List.forall_mem_cons.mpr ⟨kh_1023_ok, (List.forall_mem_cons.mpr ⟨kh_day_ok, (List.forall_mem_cons.mpr ⟨kh_1032_ok, (List.forall_mem_cons.mpr ⟨kh_1030_ok, (List.forall_mem_nil _)⟩)⟩)⟩)⟩)⟩) (by decide +kernel)
/- UtilityWorksModel cHas -/
def kh_1034 : ct_T := (517, [(2, 805, 805, 0), (0, 5, 5, 0), (0, 0, 4, 1)], [], [], [(1, (0, 0, 1, 1), [(2, 805, 805, 0), (0, 5, 5, 0), (0, 0, 4, 1)], [], ([], []))], [], 1, 21, 0)
theorem kh_1034_ok : ct_ok wd_fl2 kh_1034 := ct_of (ff := wd_ff2) (y := (⟨"UtilityWorksModel", "cHas", "(II)Z"⟩, prog_14_method_276_code, 5, some .boolean, 12, 1, 2, 35126, 35125, 14007, 21014)) (Cs := [kh_cJ0, kh_cJ2, kh_cJ4]) (an := [(5, 0, ([((2, 805, 805, 0), none), ((0, 5, 5, 0), none), ((0, 0, 4, 1), none), ((0, 0, 1, 1), none), ((0, 0, 200, 1), none)], [(0, 0), (1, 1), (2, 2), (3, 3), (4, 4)], [], [], [], [], [], [], none), [(0, 0, 99995), (1, 4, 200), (0, 0, 99995)]), (67, 0, ([((2, 805, 805, 0), none), ((0, 5, 5, 0), none), ((0, 0, 4, 1), none), ((0, 0, 1, 1), none), ((0, 0, 199, 1), none)], [(0, 0), (1, 1), (2, 2), (3, 3), (4, 4)], [], [], [], [], [((806, 806), (2440, 2440, 0), (0, 1, 200, 1))], [], none), [(0, 0, 99995), (1, 4, 200), (0, 0, 99933)]), (71, 0, ([((2, 805, 805, 0), none), ((0, 5, 5, 0), none), ((0, 0, 4, 1), none), ((0, 0, 0, 0), none), ((0, 0, 199, 1), none)], [(0, 0), (1, 1), (2, 2), (3, 3), (4, 4)], [], [], [], [], [((806, 806), (2440, 2440, 0), (0, 1, 200, 1))], [], none), [(0, 0, 99995), (1, 4, 200), (0, 0, 99929)])]) (ss := []) (K := 3) (fuel := 4000) wd_fl2_ok rfl (List.forall_mem_cons.mpr ⟨kh_cJ0_ok, (List.forall_mem_cons.mpr ⟨kh_cJ2_ok, (List.forall_mem_cons.mpr ⟨kh_cJ4_ok, (List.forall_mem_nil _)⟩)⟩)⟩) (by decide +kernel)
/- UtilityWorksModel bC -/
def kh_1035 : ct_T := (413, [(0, 0, 4, 1), (0, 5, 5, 0)], [], [], [(1, (0, 1825, 1905, 20), [(0, 0, 4, 1), (0, 5, 5, 0)], [], ([], []))], [], 0, 0, 0)
theorem kh_1035_ok : ct_ok wd_fl2 kh_1035 := ct_of (ff := wd_ff2) (y := (⟨"UtilityWorksModel", "bC", "(II)I"⟩, prog_14_method_227_code, 2, some .int, 12, 0, 2, 33186, 33185, 0, 21014)) (Cs := []) (an := []) (ss := []) (K := 1) (fuel := 4000) wd_fl2_ok rfl (List.forall_mem_nil _) (by decide +kernel)
/- UtilityWorksModel bCutFrom -/
def kh_1036 : ct_T := (412, [(2, 805, 805, 0), (0, 0, 4, 1)], [], [], [(1, (0, (-2147483648), 2147483647, 1), [(2, 805, 805, 0), (0, 0, 4, 1)], [], ([], []))], [], 1, 21, 0)
theorem kh_1036_ok : ct_ok wd_fl2 kh_1036 := ct_of (ff := wd_ff2) (y := (⟨"UtilityWorksModel", "bCutFrom", "(I)I"⟩, prog_14_method_235_code, 2, some .int, 12, 1, 1, 33183, 33182, 8001, 21014)) (Cs := [kh_1035]) (an := []) (ss := []) (K := 1) (fuel := 4000) wd_fl2_ok rfl (List.forall_mem_cons.mpr ⟨kh_1035_ok, (List.forall_mem_nil _)⟩) (by decide +kernel)
/- UtilityWorksModel bOpen -/
def kh_1037 : ct_T := (522, [(2, 805, 805, 0), (0, 0, 4, 1)], [], [], [(1, (1, (-9223372036854775808), 9223372036854775807, 1), [(2, 805, 805, 0), (0, 0, 4, 1)], [], ([], []))], [], 1, 22, 0)
theorem kh_1037_ok : ct_ok wd_fl2 kh_1037 := ct_of (ff := wd_ff2) (y := (⟨"UtilityWorksModel", "bOpen", "(I)J"⟩, prog_14_method_238_code, 5, some .long, 12, 1, 1, 35146, 35145, 14012, 21014)) (Cs := [kh_1029, kh_1030]) (an := [(5, 0, ([((2, 805, 805, 0), none), ((0, 0, 4, 1), none), ((1, (-9223372036854775808), 9223372036854775807, 1), none), ((0, 0, 33, 1), none)], [(0, 0), (1, 1), (2, 2), (4, 3)], [], [], [], [], [], [], none), [(0, 0, 99995), (1, 3, 33), (0, 0, 99995)])]) (ss := []) (K := 3) (fuel := 4000) wd_fl2_ok rfl (List.forall_mem_cons.mpr ⟨kh_1029_ok, (List.forall_mem_cons.mpr ⟨kh_1030_ok, (List.forall_mem_nil _)⟩)⟩) (by decide +kernel)
/- UtilityWorksModel bOwes -/
def kh_1038 : ct_T := (521, [(2, 805, 805, 0), (0, 0, 4, 1)], [], [], [(1, (1, (-9223372036854775808), 9223372036854775807, 1), [(2, 805, 805, 0), (0, 0, 4, 1)], [], ([], []))], [], 2, 46, 0)
theorem kh_1038_ok : ct_ok wd_fl2 kh_1038 := ct_of (ff := wd_ff2) (y := (⟨"UtilityWorksModel", "bOwes", "(I)J"⟩, prog_14_method_239_code, 2, some .long, 12, 1, 1, 35142, 35141, 14011, 21014)) (Cs := [kh_1037]) (an := []) (ss := []) (K := 1) (fuel := 4000) wd_fl2_ok rfl (List.forall_mem_cons.mpr ⟨kh_1037_ok, (List.forall_mem_nil _)⟩) (by decide +kernel)
/- UtilityWorksModel cHas -/
def kh_1039 : ct_T := (517, [(2, 805, 805, 0), (0, 6, 6, 0), (0, 0, 4, 1)], [], [], [(1, (0, 0, 1, 1), [(2, 805, 805, 0), (0, 6, 6, 0), (0, 0, 4, 1)], [], ([], []))], [], 1, 21, 0)
theorem kh_1039_ok : ct_ok wd_fl2 kh_1039 := ct_of (ff := wd_ff2) (y := (⟨"UtilityWorksModel", "cHas", "(II)Z"⟩, prog_14_method_276_code, 5, some .boolean, 12, 1, 2, 35126, 35125, 14007, 21014)) (Cs := [kh_cJ0, kh_cJ2, kh_cJ4]) (an := [(5, 0, ([((2, 805, 805, 0), none), ((0, 6, 6, 0), none), ((0, 0, 4, 1), none), ((0, 0, 1, 1), none), ((0, 0, 200, 1), none)], [(0, 0), (1, 1), (2, 2), (3, 3), (4, 4)], [], [], [], [], [], [], none), [(0, 0, 99995), (1, 4, 200), (0, 0, 99995)]), (67, 0, ([((2, 805, 805, 0), none), ((0, 6, 6, 0), none), ((0, 0, 4, 1), none), ((0, 0, 1, 1), none), ((0, 0, 199, 1), none)], [(0, 0), (1, 1), (2, 2), (3, 3), (4, 4)], [], [], [], [], [((806, 806), (2440, 2440, 0), (0, 1, 200, 1))], [], none), [(0, 0, 99995), (1, 4, 200), (0, 0, 99933)]), (71, 0, ([((2, 805, 805, 0), none), ((0, 6, 6, 0), none), ((0, 0, 4, 1), none), ((0, 0, 0, 0), none), ((0, 0, 199, 1), none)], [(0, 0), (1, 1), (2, 2), (3, 3), (4, 4)], [], [], [], [], [((806, 806), (2440, 2440, 0), (0, 1, 200, 1))], [], none), [(0, 0, 99995), (1, 4, 200), (0, 0, 99929)])]) (ss := []) (K := 3) (fuel := 4000) wd_fl2_ok rfl (List.forall_mem_cons.mpr ⟨kh_cJ0_ok, (List.forall_mem_cons.mpr ⟨kh_cJ2_ok, (List.forall_mem_cons.mpr ⟨kh_cJ4_ok, (List.forall_mem_nil _)⟩)⟩)⟩) (by decide +kernel)
/- UtilityWorksModel bNotices -/
def kh_1040 : ct_T := (515, [(2, 805, 805, 0), (0, 0, 4, 1)], [], [510], [(0, (0, 0, 0, 0), [(2, 805, 805, 0), (0, 0, 4, 1)], [], ([510], []))], [((806, 806), (2440, 4047, 1))], 3, 67, 0)
theorem kh_1040_ok : ct_ok wd_fl2 kh_1040 := ct_of (ff := wd_ff2) (y := (⟨"UtilityWorksModel", "bNotices", "(I)V"⟩, prog_14_method_249_code, 2, none, 12, 1, 1, 35115, 35114, 14005, 21014)) (Cs := [kh_1033, kh_rankOf, kh_497, kh_1034, kh_cMay, kh_cAddb, kh_1036, kh_1038, kh_1039]) (an := [(54, 0, ([((2, 805, 805, 0), none), ((0, 0, 4, 1), none)], [(0, 0), (1, 1)], [], [], [], [], [], [510], none), [(0, 0, 99946)]), (98, 0, ([((2, 805, 805, 0), none), ((0, 0, 4, 1), none)], [(0, 0), (1, 1)], [], [], [], [], [], [510], none), [(0, 0, 99902)])]) (ss := []) (K := 1) (fuel := 4000) wd_fl2_ok rfl (List.forall_mem_cons.mpr ⟨kh_1033_ok, (List.forall_mem_cons.mpr ⟨kh_rankOf_l2, (List.forall_mem_cons.mpr ⟨kh_497_l2, (List.forall_mem_cons.mpr ⟨kh_1034_ok, (List.forall_mem_cons.mpr ⟨kh_cMay_ok, (List.forall_mem_cons.mpr ⟨kh_cAddb_ok, (List.forall_mem_cons.mpr ⟨kh_1036_ok, (List.forall_mem_cons.mpr ⟨kh_1038_ok, (List.forall_mem_cons.mpr ⟨kh_1039_ok, (List.forall_mem_nil _)⟩)⟩)⟩)⟩)⟩)⟩)⟩)⟩)⟩) (by decide +kernel)
/- UtilityWorksModel bC -/
def kh_1041 : ct_T := (413, [(0, 0, 5, 1), (0, 1, 1, 0)], [], [], [(1, (0, 1821, 1921, 20), [(0, 0, 5, 1), (0, 1, 1, 0)], [], ([], []))], [], 0, 0, 0)
theorem kh_1041_ok : ct_ok wd_fl2 kh_1041 := ct_of (ff := wd_ff2) (y := (⟨"UtilityWorksModel", "bC", "(II)I"⟩, prog_14_method_227_code, 2, some .int, 12, 0, 2, 33186, 33185, 0, 21014)) (Cs := []) (an := []) (ss := []) (K := 1) (fuel := 4000) wd_fl2_ok rfl (List.forall_mem_nil _) (by decide +kernel)
/- UtilityWorksModel bC -/
def kh_1042 : ct_T := (413, [(0, 0, 5, 1), (0, 2, 2, 0)], [], [], [(1, (0, 1822, 1922, 20), [(0, 0, 5, 1), (0, 2, 2, 0)], [], ([], []))], [], 0, 0, 0)
theorem kh_1042_ok : ct_ok wd_fl2 kh_1042 := ct_of (ff := wd_ff2) (y := (⟨"UtilityWorksModel", "bC", "(II)I"⟩, prog_14_method_227_code, 2, some .int, 12, 0, 2, 33186, 33185, 0, 21014)) (Cs := []) (an := []) (ss := []) (K := 1) (fuel := 4000) wd_fl2_ok rfl (List.forall_mem_nil _) (by decide +kernel)
/- UtilityWorksModel bDue -/
def kh_1043 : ct_T := (504, [(2, 805, 805, 0), (0, 0, 5, 1), (0, 0, 214748364, 1)], [], [], [(1, (1, (-9223372036854775808), 9223372036854775807, 1), [(2, 805, 805, 0), (0, 0, 5, 1), (0, 0, 214748364, 1)], [], ([], []))], [], 0, 0, 0)
theorem kh_1043_ok : ct_ok wd_fl2 kh_1043 := ct_of (ff := wd_ff2) (y := (⟨"UtilityWorksModel", "bDue", "(II)J"⟩, prog_14_method_242_code, 3, some .long, 12, 1, 2, 35069, 35068, 13011, 21014)) (Cs := []) (an := []) (ss := []) (K := 1) (fuel := 4000) wd_fl2_ok rfl (List.forall_mem_nil _) (by decide +kernel)
/- UtilityWorksModel bC -/
def kh_1044 : ct_T := (413, [(0, 0, 5, 1), (0, 3, 3, 0)], [], [], [(1, (0, 1823, 1923, 20), [(0, 0, 5, 1), (0, 3, 3, 0)], [], ([], []))], [], 0, 0, 0)
theorem kh_1044_ok : ct_ok wd_fl2 kh_1044 := ct_of (ff := wd_ff2) (y := (⟨"UtilityWorksModel", "bC", "(II)I"⟩, prog_14_method_227_code, 2, some .int, 12, 0, 2, 33186, 33185, 0, 21014)) (Cs := []) (an := []) (ss := []) (K := 1) (fuel := 4000) wd_fl2_ok rfl (List.forall_mem_nil _) (by decide +kernel)
/- UtilityWorksModel bEndPlan -/
def kh_1045 : ct_T := (505, [(2, 805, 805, 0), (0, 0, 5, 1)], [], [], [(0, (0, 0, 0, 0), [(2, 805, 805, 0), (0, 0, 5, 1)], [], ([], []))], [((806, 806), (1821, 1921, 20)), ((806, 806), (1822, 1922, 20)), ((807, 807), (2830, 2835, 1)), ((807, 807), (2840, 2845, 1)), ((807, 807), (2850, 2855, 1))], 1, 21, 0)
theorem kh_1045_ok : ct_ok wd_fl2 kh_1045 := ct_of (ff := wd_ff2) (y := (⟨"UtilityWorksModel", "bEndPlan", "(I)V"⟩, prog_14_method_241_code, 2, none, 12, 1, 1, 35073, 35072, 13012, 21014)) (Cs := [kh_1041, kh_1042]) (an := []) (ss := []) (K := 1) (fuel := 4000) wd_fl2_ok rfl (List.forall_mem_cons.mpr ⟨kh_1041_ok, (List.forall_mem_cons.mpr ⟨kh_1042_ok, (List.forall_mem_nil _)⟩)⟩) (by decide +kernel)
/- UtilityWorksModel bPlanDay -/
def kh_1046 : ct_T := (503, [(2, 805, 805, 0), (0, 0, 5, 1)], [], [], [(0, (0, 0, 0, 0), [(2, 805, 805, 0), (0, 0, 5, 1)], [], ([], []))], [((806, 806), (1821, 1921, 20)), ((806, 806), (1822, 1922, 20)), ((806, 806), (1823, 1923, 20)), ((807, 807), (2830, 2835, 1)), ((807, 807), (2840, 2845, 1)), ((807, 807), (2850, 2855, 1))], 2, 42, 0)
theorem kh_1046_ok : ct_ok wd_fl2 kh_1046 := ct_of (ff := wd_ff2) (y := (⟨"UtilityWorksModel", "bPlanDay", "(I)V"⟩, prog_14_method_243_code, 4, none, 12, 1, 1, 35065, 35064, 13010, 21014)) (Cs := [kh_1041, kh_day, kh_1042, kh_1043, kh_1044, kh_1045]) (an := [(92, 0, ([((2, 805, 805, 0), none), ((0, 0, 5, 1), none), ((0, 0, 6, 1), none), ((0, (-2147483648), 2147483647, 1), none)], [(0, 0), (1, 1), (2, 2), (3, 3)], [], [], [], [], [], [], none), [(0, 0, 99908)])]) (ss := []) (K := 1) (fuel := 4000) wd_fl2_ok rfl (List.forall_mem_cons.mpr ⟨kh_1041_ok, (List.forall_mem_cons.mpr ⟨kh_day_ok, (List.forall_mem_cons.mpr ⟨kh_1042_ok, (List.forall_mem_cons.mpr ⟨kh_1043_ok, (List.forall_mem_cons.mpr ⟨kh_1044_ok, (List.forall_mem_cons.mpr ⟨kh_1045_ok, (List.forall_mem_nil _)⟩)⟩)⟩)⟩)⟩)⟩) (by decide +kernel)
/- UtilityWorksModel bC -/
def kh_1047 : ct_T := (413, [(0, 0, 5, 1), (0, 0, 0, 0)], [], [], [(1, (0, 1820, 1920, 20), [(0, 0, 5, 1), (0, 0, 0, 0)], [], ([], []))], [], 0, 0, 0)
theorem kh_1047_ok : ct_ok wd_fl2 kh_1047 := ct_of (ff := wd_ff2) (y := (⟨"UtilityWorksModel", "bC", "(II)I"⟩, prog_14_method_227_code, 2, some .int, 12, 0, 2, 33186, 33185, 0, 21014)) (Cs := []) (an := []) (ss := []) (K := 1) (fuel := 4000) wd_fl2_ok rfl (List.forall_mem_nil _) (by decide +kernel)
/- UtilityWorksModel bB -/
def kh_1048 : ct_T := (507, [(0, 0, 5, 1), (0, 0, 32, 1), (0, 7, 7, 0)], [], [], [(1, (0, 107, 1723, 8), [(0, 0, 5, 1), (0, 0, 32, 1), (0, 7, 7, 0)], [], ([], []))], [], 0, 0, 0)
theorem kh_1048_ok : ct_ok wd_fl2 kh_1048 := ct_of (ff := wd_ff2) (y := (⟨"UtilityWorksModel", "bB", "(III)I"⟩, prog_14_method_228_code, 3, some .int, 12, 0, 3, 35080, 35079, 0, 21014)) (Cs := []) (an := []) (ss := []) (K := 1) (fuel := 4000) wd_fl2_ok rfl (List.forall_mem_nil _) (by decide +kernel)
/- UtilityWorksModel bInterest -/
def kh_1049 : ct_T := (506, [(2, 805, 805, 0), (0, 0, 5, 1)], [], [], [(0, (0, 0, 0, 0), [(2, 805, 805, 0), (0, 0, 5, 1)], [], ([], []))], [((807, 807), (107, 1723, 8)), ((807, 807), (2862, 2862, 0))], 1, 22, 0)
theorem kh_1049_ok : ct_ok wd_fl2 kh_1049 := ct_of (ff := wd_ff2) (y := (⟨"UtilityWorksModel", "bInterest", "(I)V"⟩, prog_14_method_244_code, 5, none, 12, 1, 1, 35077, 35076, 13013, 21014)) (Cs := [kh_1047, kh_1048]) (an := [(2, 0, ([((2, 805, 805, 0), none), ((0, 0, 5, 1), none), ((0, 0, 33, 1), none)], [(0, 0), (1, 1), (2, 2)], [], [], [], [], [], [], none), [(0, 0, 99998), (1, 2, 33), (0, 0, 99998)])]) (ss := []) (K := 3) (fuel := 4000) wd_fl2_ok rfl (List.forall_mem_cons.mpr ⟨kh_1047_ok, (List.forall_mem_cons.mpr ⟨kh_1048_ok, (List.forall_mem_nil _)⟩)⟩) (by decide +kernel)
/- UtilityWorksModel bB -/
def kh_1050 : ct_T := (507, [(0, 0, 5, 1), (0, 0, 32, 1), (0, 0, 0, 0)], [], [], [(1, (0, 100, 1716, 8), [(0, 0, 5, 1), (0, 0, 32, 1), (0, 0, 0, 0)], [], ([], []))], [], 0, 0, 0)
theorem kh_1050_ok : ct_ok wd_fl2 kh_1050 := ct_of (ff := wd_ff2) (y := (⟨"UtilityWorksModel", "bB", "(III)I"⟩, prog_14_method_228_code, 3, some .int, 12, 0, 3, 35080, 35079, 0, 21014)) (Cs := []) (an := []) (ss := []) (K := 1) (fuel := 4000) wd_fl2_ok rfl (List.forall_mem_nil _) (by decide +kernel)
/- UtilityWorksModel bNotice -/
def kh_1051 : ct_T := (516, [(2, 805, 805, 0), (0, 0, 5, 1)], [], [], [(1, (0, 0, 0, 0), [(2, 805, 805, 0), (0, 0, 5, 1)], [], ([], [])), (1, (0, 1, 1, 0), [(2, 805, 805, 0), (0, 0, 5, 1)], [], ([], [])), (1, (0, 2, 3, 1), [(2, 805, 805, 0), (0, 0, 5, 1)], [], ([], []))], [], 1, 22, 0)
theorem kh_1051_ok : ct_ok wd_fl2 kh_1051 := ct_of (ff := wd_ff2) (y := (⟨"UtilityWorksModel", "bNotice", "(I)I"⟩, prog_14_method_248_code, 5, some .int, 12, 1, 1, 35119, 35118, 14006, 21014)) (Cs := [kh_1047, kh_1041, kh_day, kh_1050, kh_1048]) (an := [(15, 0, ([((2, 805, 805, 0), none), ((0, 0, 5, 1), none), ((0, (-1), 32, 1), none), ((0, (-1), 32, 1), none)], [(0, 0), (1, 1), (2, 2), (3, 3)], [], [], [], [], [], [], none), [(0, 0, 99985), (2, 3, (-1)), (0, 0, 99985)]), (66, 0, ([((2, 805, 805, 0), none), ((0, 0, 5, 1), none), ((0, (-1), 32, 1), none), ((0, (-1), (-1), 1), none)], [(0, 0), (1, 1), (2, 2), (3, 3)], [], [], [], [], [], [], none), [(0, 0, 99934), (0, 0, 0), (0, 0, 0)])]) (ss := []) (K := 3) (fuel := 4000) wd_fl2_ok rfl (List.forall_mem_cons.mpr ⟨kh_1047_ok, (List.forall_mem_cons.mpr ⟨kh_1041_ok, (List.forall_mem_cons.mpr ⟨kh_day_ok, (List.forall_mem_cons.mpr ⟨kh_1050_ok, (List.forall_mem_cons.mpr ⟨kh_1048_ok, (List.forall_mem_nil _)⟩)⟩)⟩)⟩)⟩) (by decide +kernel)
/- UtilityWorksModel cHas -/
def kh_1052 : ct_T := (517, [(2, 805, 805, 0), (0, 5, 5, 0), (0, 0, 5, 1)], [], [], [(1, (0, 0, 1, 1), [(2, 805, 805, 0), (0, 5, 5, 0), (0, 0, 5, 1)], [], ([], []))], [], 1, 21, 0)
theorem kh_1052_ok : ct_ok wd_fl2 kh_1052 := ct_of (ff := wd_ff2) (y := (⟨"UtilityWorksModel", "cHas", "(II)Z"⟩, prog_14_method_276_code, 5, some .boolean, 12, 1, 2, 35126, 35125, 14007, 21014)) (Cs := [kh_cJ0, kh_cJ2, kh_cJ4]) (an := [(5, 0, ([((2, 805, 805, 0), none), ((0, 5, 5, 0), none), ((0, 0, 5, 1), none), ((0, 0, 1, 1), none), ((0, 0, 200, 1), none)], [(0, 0), (1, 1), (2, 2), (3, 3), (4, 4)], [], [], [], [], [], [], none), [(0, 0, 99995), (1, 4, 200), (0, 0, 99995)]), (67, 0, ([((2, 805, 805, 0), none), ((0, 5, 5, 0), none), ((0, 0, 5, 1), none), ((0, 0, 1, 1), none), ((0, 0, 199, 1), none)], [(0, 0), (1, 1), (2, 2), (3, 3), (4, 4)], [], [], [], [], [((806, 806), (2440, 2440, 0), (0, 1, 200, 1))], [], none), [(0, 0, 99995), (1, 4, 200), (0, 0, 99933)]), (71, 0, ([((2, 805, 805, 0), none), ((0, 5, 5, 0), none), ((0, 0, 5, 1), none), ((0, 0, 0, 0), none), ((0, 0, 199, 1), none)], [(0, 0), (1, 1), (2, 2), (3, 3), (4, 4)], [], [], [], [], [((806, 806), (2440, 2440, 0), (0, 1, 200, 1))], [], none), [(0, 0, 99995), (1, 4, 200), (0, 0, 99929)])]) (ss := []) (K := 3) (fuel := 4000) wd_fl2_ok rfl (List.forall_mem_cons.mpr ⟨kh_cJ0_ok, (List.forall_mem_cons.mpr ⟨kh_cJ2_ok, (List.forall_mem_cons.mpr ⟨kh_cJ4_ok, (List.forall_mem_nil _)⟩)⟩)⟩) (by decide +kernel)
/- UtilityWorksModel bC -/
def kh_1053 : ct_T := (413, [(0, 0, 5, 1), (0, 5, 5, 0)], [], [], [(1, (0, 1825, 1925, 20), [(0, 0, 5, 1), (0, 5, 5, 0)], [], ([], []))], [], 0, 0, 0)
theorem kh_1053_ok : ct_ok wd_fl2 kh_1053 := ct_of (ff := wd_ff2) (y := (⟨"UtilityWorksModel", "bC", "(II)I"⟩, prog_14_method_227_code, 2, some .int, 12, 0, 2, 33186, 33185, 0, 21014)) (Cs := []) (an := []) (ss := []) (K := 1) (fuel := 4000) wd_fl2_ok rfl (List.forall_mem_nil _) (by decide +kernel)
/- UtilityWorksModel bCutFrom -/
def kh_1054 : ct_T := (412, [(2, 805, 805, 0), (0, 0, 5, 1)], [], [], [(1, (0, (-2147483648), 2147483647, 1), [(2, 805, 805, 0), (0, 0, 5, 1)], [], ([], []))], [], 1, 21, 0)
theorem kh_1054_ok : ct_ok wd_fl2 kh_1054 := ct_of (ff := wd_ff2) (y := (⟨"UtilityWorksModel", "bCutFrom", "(I)I"⟩, prog_14_method_235_code, 2, some .int, 12, 1, 1, 33183, 33182, 8001, 21014)) (Cs := [kh_1053]) (an := []) (ss := []) (K := 1) (fuel := 4000) wd_fl2_ok rfl (List.forall_mem_cons.mpr ⟨kh_1053_ok, (List.forall_mem_nil _)⟩) (by decide +kernel)
/- UtilityWorksModel bOpen -/
def kh_1055 : ct_T := (522, [(2, 805, 805, 0), (0, 0, 5, 1)], [], [], [(1, (1, (-9223372036854775808), 9223372036854775807, 1), [(2, 805, 805, 0), (0, 0, 5, 1)], [], ([], []))], [], 1, 22, 0)
theorem kh_1055_ok : ct_ok wd_fl2 kh_1055 := ct_of (ff := wd_ff2) (y := (⟨"UtilityWorksModel", "bOpen", "(I)J"⟩, prog_14_method_238_code, 5, some .long, 12, 1, 1, 35146, 35145, 14012, 21014)) (Cs := [kh_1047, kh_1048]) (an := [(5, 0, ([((2, 805, 805, 0), none), ((0, 0, 5, 1), none), ((1, (-9223372036854775808), 9223372036854775807, 1), none), ((0, 0, 33, 1), none)], [(0, 0), (1, 1), (2, 2), (4, 3)], [], [], [], [], [], [], none), [(0, 0, 99995), (1, 3, 33), (0, 0, 99995)])]) (ss := []) (K := 3) (fuel := 4000) wd_fl2_ok rfl (List.forall_mem_cons.mpr ⟨kh_1047_ok, (List.forall_mem_cons.mpr ⟨kh_1048_ok, (List.forall_mem_nil _)⟩)⟩) (by decide +kernel)
/- UtilityWorksModel bOwes -/
def kh_1056 : ct_T := (521, [(2, 805, 805, 0), (0, 0, 5, 1)], [], [], [(1, (1, (-9223372036854775808), 9223372036854775807, 1), [(2, 805, 805, 0), (0, 0, 5, 1)], [], ([], []))], [], 2, 46, 0)
theorem kh_1056_ok : ct_ok wd_fl2 kh_1056 := ct_of (ff := wd_ff2) (y := (⟨"UtilityWorksModel", "bOwes", "(I)J"⟩, prog_14_method_239_code, 2, some .long, 12, 1, 1, 35142, 35141, 14011, 21014)) (Cs := [kh_1055]) (an := []) (ss := []) (K := 1) (fuel := 4000) wd_fl2_ok rfl (List.forall_mem_cons.mpr ⟨kh_1055_ok, (List.forall_mem_nil _)⟩) (by decide +kernel)
/- UtilityWorksModel cHas -/
def kh_1057 : ct_T := (517, [(2, 805, 805, 0), (0, 6, 6, 0), (0, 0, 5, 1)], [], [], [(1, (0, 0, 1, 1), [(2, 805, 805, 0), (0, 6, 6, 0), (0, 0, 5, 1)], [], ([], []))], [], 1, 21, 0)
theorem kh_1057_ok : ct_ok wd_fl2 kh_1057 := ct_of (ff := wd_ff2) (y := (⟨"UtilityWorksModel", "cHas", "(II)Z"⟩, prog_14_method_276_code, 5, some .boolean, 12, 1, 2, 35126, 35125, 14007, 21014)) (Cs := [kh_cJ0, kh_cJ2, kh_cJ4]) (an := [(5, 0, ([((2, 805, 805, 0), none), ((0, 6, 6, 0), none), ((0, 0, 5, 1), none), ((0, 0, 1, 1), none), ((0, 0, 200, 1), none)], [(0, 0), (1, 1), (2, 2), (3, 3), (4, 4)], [], [], [], [], [], [], none), [(0, 0, 99995), (1, 4, 200), (0, 0, 99995)]), (67, 0, ([((2, 805, 805, 0), none), ((0, 6, 6, 0), none), ((0, 0, 5, 1), none), ((0, 0, 1, 1), none), ((0, 0, 199, 1), none)], [(0, 0), (1, 1), (2, 2), (3, 3), (4, 4)], [], [], [], [], [((806, 806), (2440, 2440, 0), (0, 1, 200, 1))], [], none), [(0, 0, 99995), (1, 4, 200), (0, 0, 99933)]), (71, 0, ([((2, 805, 805, 0), none), ((0, 6, 6, 0), none), ((0, 0, 5, 1), none), ((0, 0, 0, 0), none), ((0, 0, 199, 1), none)], [(0, 0), (1, 1), (2, 2), (3, 3), (4, 4)], [], [], [], [], [((806, 806), (2440, 2440, 0), (0, 1, 200, 1))], [], none), [(0, 0, 99995), (1, 4, 200), (0, 0, 99929)])]) (ss := []) (K := 3) (fuel := 4000) wd_fl2_ok rfl (List.forall_mem_cons.mpr ⟨kh_cJ0_ok, (List.forall_mem_cons.mpr ⟨kh_cJ2_ok, (List.forall_mem_cons.mpr ⟨kh_cJ4_ok, (List.forall_mem_nil _)⟩)⟩)⟩) (by decide +kernel)
/- UtilityWorksModel bNotices -/
def kh_1058 : ct_T := (515, [(2, 805, 805, 0), (0, 0, 5, 1)], [], [510], [(0, (0, 0, 0, 0), [(2, 805, 805, 0), (0, 0, 5, 1)], [], ([510], []))], [((806, 806), (2440, 4047, 1))], 3, 67, 0)
theorem kh_1058_ok : ct_ok wd_fl2 kh_1058 := ct_of (ff := wd_ff2) (y := (⟨"UtilityWorksModel", "bNotices", "(I)V"⟩, prog_14_method_249_code, 2, none, 12, 1, 1, 35115, 35114, 14005, 21014)) (Cs := [kh_1051, kh_rankOf, kh_504, kh_1052, kh_cMay, kh_cAddb, kh_1054, kh_1056, kh_1057]) (an := [(54, 0, ([((2, 805, 805, 0), none), ((0, 0, 5, 1), none)], [(0, 0), (1, 1)], [], [], [], [], [], [510], none), [(0, 0, 99946)]), (98, 0, ([((2, 805, 805, 0), none), ((0, 0, 5, 1), none)], [(0, 0), (1, 1)], [], [], [], [], [], [510], none), [(0, 0, 99902)])]) (ss := []) (K := 1) (fuel := 4000) wd_fl2_ok rfl (List.forall_mem_cons.mpr ⟨kh_1051_ok, (List.forall_mem_cons.mpr ⟨kh_rankOf_l2, (List.forall_mem_cons.mpr ⟨kh_504_l2, (List.forall_mem_cons.mpr ⟨kh_1052_ok, (List.forall_mem_cons.mpr ⟨kh_cMay_ok, (List.forall_mem_cons.mpr ⟨kh_cAddb_ok, (List.forall_mem_cons.mpr ⟨kh_1054_ok, (List.forall_mem_cons.mpr ⟨kh_1056_ok, (List.forall_mem_cons.mpr ⟨kh_1057_ok, (List.forall_mem_nil _)⟩)⟩)⟩)⟩)⟩)⟩)⟩)⟩)⟩) (by decide +kernel)
/- UtilityWorksModel bC -/
def kh_1059 : ct_T := (413, [(0, 0, 6, 1), (0, 1, 1, 0)], [], [], [(1, (0, 1821, 1941, 20), [(0, 0, 6, 1), (0, 1, 1, 0)], [], ([], []))], [], 0, 0, 0)
theorem kh_1059_ok : ct_ok wd_fl2 kh_1059 := ct_of (ff := wd_ff2) (y := (⟨"UtilityWorksModel", "bC", "(II)I"⟩, prog_14_method_227_code, 2, some .int, 12, 0, 2, 33186, 33185, 0, 21014)) (Cs := []) (an := []) (ss := []) (K := 1) (fuel := 4000) wd_fl2_ok rfl (List.forall_mem_nil _) (by decide +kernel)
/- UtilityWorksModel bC -/
def kh_1060 : ct_T := (413, [(0, 0, 6, 1), (0, 2, 2, 0)], [], [], [(1, (0, 1822, 1942, 20), [(0, 0, 6, 1), (0, 2, 2, 0)], [], ([], []))], [], 0, 0, 0)
theorem kh_1060_ok : ct_ok wd_fl2 kh_1060 := ct_of (ff := wd_ff2) (y := (⟨"UtilityWorksModel", "bC", "(II)I"⟩, prog_14_method_227_code, 2, some .int, 12, 0, 2, 33186, 33185, 0, 21014)) (Cs := []) (an := []) (ss := []) (K := 1) (fuel := 4000) wd_fl2_ok rfl (List.forall_mem_nil _) (by decide +kernel)
/- UtilityWorksModel bDue -/
def kh_1061 : ct_T := (504, [(2, 805, 805, 0), (0, 0, 6, 1), (0, 0, 214748364, 1)], [], [], [(1, (1, (-9223372036854775808), 9223372036854775807, 1), [(2, 805, 805, 0), (0, 0, 6, 1), (0, 0, 214748364, 1)], [], ([], []))], [], 0, 0, 0)
theorem kh_1061_ok : ct_ok wd_fl2 kh_1061 := ct_of (ff := wd_ff2) (y := (⟨"UtilityWorksModel", "bDue", "(II)J"⟩, prog_14_method_242_code, 3, some .long, 12, 1, 2, 35069, 35068, 13011, 21014)) (Cs := []) (an := []) (ss := []) (K := 1) (fuel := 4000) wd_fl2_ok rfl (List.forall_mem_nil _) (by decide +kernel)
/- UtilityWorksModel bC -/
def kh_1062 : ct_T := (413, [(0, 0, 6, 1), (0, 3, 3, 0)], [], [], [(1, (0, 1823, 1943, 20), [(0, 0, 6, 1), (0, 3, 3, 0)], [], ([], []))], [], 0, 0, 0)
theorem kh_1062_ok : ct_ok wd_fl2 kh_1062 := ct_of (ff := wd_ff2) (y := (⟨"UtilityWorksModel", "bC", "(II)I"⟩, prog_14_method_227_code, 2, some .int, 12, 0, 2, 33186, 33185, 0, 21014)) (Cs := []) (an := []) (ss := []) (K := 1) (fuel := 4000) wd_fl2_ok rfl (List.forall_mem_nil _) (by decide +kernel)
/- UtilityWorksModel bEndPlan -/
def kh_1063 : ct_T := (505, [(2, 805, 805, 0), (0, 0, 6, 1)], [], [], [(0, (0, 0, 0, 0), [(2, 805, 805, 0), (0, 0, 6, 1)], [], ([], []))], [((806, 806), (1821, 1941, 20)), ((806, 806), (1822, 1942, 20)), ((807, 807), (2830, 2836, 1)), ((807, 807), (2840, 2846, 1)), ((807, 807), (2850, 2856, 1))], 1, 21, 0)
theorem kh_1063_ok : ct_ok wd_fl2 kh_1063 := ct_of (ff := wd_ff2) (y := (⟨"UtilityWorksModel", "bEndPlan", "(I)V"⟩, prog_14_method_241_code, 2, none, 12, 1, 1, 35073, 35072, 13012, 21014)) (Cs := [kh_1059, kh_1060]) (an := []) (ss := []) (K := 1) (fuel := 4000) wd_fl2_ok rfl (List.forall_mem_cons.mpr ⟨kh_1059_ok, (List.forall_mem_cons.mpr ⟨kh_1060_ok, (List.forall_mem_nil _)⟩)⟩) (by decide +kernel)
/- UtilityWorksModel bPlanDay -/
def kh_1064 : ct_T := (503, [(2, 805, 805, 0), (0, 0, 6, 1)], [], [], [(0, (0, 0, 0, 0), [(2, 805, 805, 0), (0, 0, 6, 1)], [], ([], []))], [((806, 806), (1821, 1941, 20)), ((806, 806), (1822, 1942, 20)), ((806, 806), (1823, 1943, 20)), ((807, 807), (2830, 2836, 1)), ((807, 807), (2840, 2846, 1)), ((807, 807), (2850, 2856, 1))], 2, 42, 0)
theorem kh_1064_ok : ct_ok wd_fl2 kh_1064 := ct_of (ff := wd_ff2) (y := (⟨"UtilityWorksModel", "bPlanDay", "(I)V"⟩, prog_14_method_243_code, 4, none, 12, 1, 1, 35065, 35064, 13010, 21014)) (Cs := [kh_1059, kh_day, kh_1060, kh_1061, kh_1062, kh_1063]) (an := [(92, 0, ([((2, 805, 805, 0), none), ((0, 0, 6, 1), none), ((0, 0, 6, 1), none), ((0, (-2147483648), 2147483647, 1), none)], [(0, 0), (1, 1), (2, 2), (3, 3)], [], [], [], [], [], [], none), [(0, 0, 99908)])]) (ss := []) (K := 1) (fuel := 4000) wd_fl2_ok rfl (List.forall_mem_cons.mpr ⟨kh_1059_ok, (List.forall_mem_cons.mpr ⟨kh_day_ok, (List.forall_mem_cons.mpr ⟨kh_1060_ok, (List.forall_mem_cons.mpr ⟨kh_1061_ok, (List.forall_mem_cons.mpr ⟨kh_1062_ok, (List.forall_mem_cons.mpr ⟨kh_1063_ok, (List.forall_mem_nil _)⟩)⟩)⟩)⟩)⟩)⟩) (by decide +kernel)
/- UtilityWorksModel bC -/
def kh_1065 : ct_T := (413, [(0, 0, 6, 1), (0, 0, 0, 0)], [], [], [(1, (0, 1820, 1940, 20), [(0, 0, 6, 1), (0, 0, 0, 0)], [], ([], []))], [], 0, 0, 0)
theorem kh_1065_ok : ct_ok wd_fl2 kh_1065 := ct_of (ff := wd_ff2) (y := (⟨"UtilityWorksModel", "bC", "(II)I"⟩, prog_14_method_227_code, 2, some .int, 12, 0, 2, 33186, 33185, 0, 21014)) (Cs := []) (an := []) (ss := []) (K := 1) (fuel := 4000) wd_fl2_ok rfl (List.forall_mem_nil _) (by decide +kernel)
/- UtilityWorksModel bB -/
def kh_1066 : ct_T := (507, [(0, 0, 6, 1), (0, 0, 32, 1), (0, 7, 7, 0)], [], [], [(1, (0, 107, 1995, 8), [(0, 0, 6, 1), (0, 0, 32, 1), (0, 7, 7, 0)], [], ([], []))], [], 0, 0, 0)
theorem kh_1066_ok : ct_ok wd_fl2 kh_1066 := ct_of (ff := wd_ff2) (y := (⟨"UtilityWorksModel", "bB", "(III)I"⟩, prog_14_method_228_code, 3, some .int, 12, 0, 3, 35080, 35079, 0, 21014)) (Cs := []) (an := []) (ss := []) (K := 1) (fuel := 4000) wd_fl2_ok rfl (List.forall_mem_nil _) (by decide +kernel)
/- UtilityWorksModel bInterest -/
def kh_1067 : ct_T := (506, [(2, 805, 805, 0), (0, 0, 6, 1)], [], [], [(0, (0, 0, 0, 0), [(2, 805, 805, 0), (0, 0, 6, 1)], [], ([], []))], [((807, 807), (107, 1995, 8)), ((807, 807), (2862, 2862, 0))], 1, 22, 0)
theorem kh_1067_ok : ct_ok wd_fl2 kh_1067 := ct_of (ff := wd_ff2) (y := (⟨"UtilityWorksModel", "bInterest", "(I)V"⟩, prog_14_method_244_code, 5, none, 12, 1, 1, 35077, 35076, 13013, 21014)) (Cs := [kh_1065, kh_1066]) (an := [(2, 0, ([((2, 805, 805, 0), none), ((0, 0, 6, 1), none), ((0, 0, 33, 1), none)], [(0, 0), (1, 1), (2, 2)], [], [], [], [], [], [], none), [(0, 0, 99998), (1, 2, 33), (0, 0, 99998)])]) (ss := []) (K := 3) (fuel := 4000) wd_fl2_ok rfl (List.forall_mem_cons.mpr ⟨kh_1065_ok, (List.forall_mem_cons.mpr ⟨kh_1066_ok, (List.forall_mem_nil _)⟩)⟩) (by decide +kernel)
/- UtilityWorksModel bB -/
def kh_1068 : ct_T := (507, [(0, 0, 6, 1), (0, 0, 32, 1), (0, 0, 0, 0)], [], [], [(1, (0, 100, 1988, 8), [(0, 0, 6, 1), (0, 0, 32, 1), (0, 0, 0, 0)], [], ([], []))], [], 0, 0, 0)
theorem kh_1068_ok : ct_ok wd_fl2 kh_1068 := ct_of (ff := wd_ff2) (y := (⟨"UtilityWorksModel", "bB", "(III)I"⟩, prog_14_method_228_code, 3, some .int, 12, 0, 3, 35080, 35079, 0, 21014)) (Cs := []) (an := []) (ss := []) (K := 1) (fuel := 4000) wd_fl2_ok rfl (List.forall_mem_nil _) (by decide +kernel)
/- UtilityWorksModel bNotice -/
def kh_1069 : ct_T := (516, [(2, 805, 805, 0), (0, 0, 6, 1)], [], [], [(1, (0, 0, 0, 0), [(2, 805, 805, 0), (0, 0, 6, 1)], [], ([], [])), (1, (0, 1, 1, 0), [(2, 805, 805, 0), (0, 0, 6, 1)], [], ([], [])), (1, (0, 2, 3, 1), [(2, 805, 805, 0), (0, 0, 6, 1)], [], ([], []))], [], 1, 22, 0)
theorem kh_1069_ok : ct_ok wd_fl2 kh_1069 := ct_of (ff := wd_ff2) (y := (⟨"UtilityWorksModel", "bNotice", "(I)I"⟩, prog_14_method_248_code, 5, some .int, 12, 1, 1, 35119, 35118, 14006, 21014)) (Cs := [kh_1065, kh_1059, kh_day, kh_1068, kh_1066]) (an := [(15, 0, ([((2, 805, 805, 0), none), ((0, 0, 6, 1), none), ((0, (-1), 32, 1), none), ((0, (-1), 32, 1), none)], [(0, 0), (1, 1), (2, 2), (3, 3)], [], [], [], [], [], [], none), [(0, 0, 99985), (2, 3, (-1)), (0, 0, 99985)]), (66, 0, ([((2, 805, 805, 0), none), ((0, 0, 6, 1), none), ((0, (-1), 32, 1), none), ((0, (-1), (-1), 1), none)], [(0, 0), (1, 1), (2, 2), (3, 3)], [], [], [], [], [], [], none), [(0, 0, 99934), (0, 0, 0), (0, 0, 0)])]) (ss := []) (K := 3) (fuel := 4000) wd_fl2_ok rfl (List.forall_mem_cons.mpr ⟨kh_1065_ok, (List.forall_mem_cons.mpr ⟨kh_1059_ok, (List.forall_mem_cons.mpr ⟨kh_day_ok, (List.forall_mem_cons.mpr ⟨kh_1068_ok, (List.forall_mem_cons.mpr ⟨kh_1066_ok, (List.forall_mem_nil _)⟩)⟩)⟩)⟩)⟩) (by decide +kernel)
/- UtilityWorksModel cHas -/
def kh_1070 : ct_T := (517, [(2, 805, 805, 0), (0, 5, 5, 0), (0, 0, 6, 1)], [], [], [(1, (0, 0, 1, 1), [(2, 805, 805, 0), (0, 5, 5, 0), (0, 0, 6, 1)], [], ([], []))], [], 1, 21, 0)
theorem kh_1070_ok : ct_ok wd_fl2 kh_1070 := ct_of (ff := wd_ff2) (y := (⟨"UtilityWorksModel", "cHas", "(II)Z"⟩, prog_14_method_276_code, 5, some .boolean, 12, 1, 2, 35126, 35125, 14007, 21014)) (Cs := [kh_cJ0, kh_cJ2, kh_cJ4]) (an := [(5, 0, ([((2, 805, 805, 0), none), ((0, 5, 5, 0), none), ((0, 0, 6, 1), none), ((0, 0, 1, 1), none), ((0, 0, 200, 1), none)], [(0, 0), (1, 1), (2, 2), (3, 3), (4, 4)], [], [], [], [], [], [], none), [(0, 0, 99995), (1, 4, 200), (0, 0, 99995)]), (67, 0, ([((2, 805, 805, 0), none), ((0, 5, 5, 0), none), ((0, 0, 6, 1), none), ((0, 0, 1, 1), none), ((0, 0, 199, 1), none)], [(0, 0), (1, 1), (2, 2), (3, 3), (4, 4)], [], [], [], [], [((806, 806), (2440, 2440, 0), (0, 1, 200, 1))], [], none), [(0, 0, 99995), (1, 4, 200), (0, 0, 99933)]), (71, 0, ([((2, 805, 805, 0), none), ((0, 5, 5, 0), none), ((0, 0, 6, 1), none), ((0, 0, 0, 0), none), ((0, 0, 199, 1), none)], [(0, 0), (1, 1), (2, 2), (3, 3), (4, 4)], [], [], [], [], [((806, 806), (2440, 2440, 0), (0, 1, 200, 1))], [], none), [(0, 0, 99995), (1, 4, 200), (0, 0, 99929)])]) (ss := []) (K := 3) (fuel := 4000) wd_fl2_ok rfl (List.forall_mem_cons.mpr ⟨kh_cJ0_ok, (List.forall_mem_cons.mpr ⟨kh_cJ2_ok, (List.forall_mem_cons.mpr ⟨kh_cJ4_ok, (List.forall_mem_nil _)⟩)⟩)⟩) (by decide +kernel)
/- UtilityWorksModel bC -/
def kh_1071 : ct_T := (413, [(0, 0, 6, 1), (0, 5, 5, 0)], [], [], [(1, (0, 1825, 1945, 20), [(0, 0, 6, 1), (0, 5, 5, 0)], [], ([], []))], [], 0, 0, 0)
theorem kh_1071_ok : ct_ok wd_fl2 kh_1071 := ct_of (ff := wd_ff2) (y := (⟨"UtilityWorksModel", "bC", "(II)I"⟩, prog_14_method_227_code, 2, some .int, 12, 0, 2, 33186, 33185, 0, 21014)) (Cs := []) (an := []) (ss := []) (K := 1) (fuel := 4000) wd_fl2_ok rfl (List.forall_mem_nil _) (by decide +kernel)
/- UtilityWorksModel bCutFrom -/
def kh_1072 : ct_T := (412, [(2, 805, 805, 0), (0, 0, 6, 1)], [], [], [(1, (0, (-2147483648), 2147483647, 1), [(2, 805, 805, 0), (0, 0, 6, 1)], [], ([], []))], [], 1, 21, 0)
theorem kh_1072_ok : ct_ok wd_fl2 kh_1072 := ct_of (ff := wd_ff2) (y := (⟨"UtilityWorksModel", "bCutFrom", "(I)I"⟩, prog_14_method_235_code, 2, some .int, 12, 1, 1, 33183, 33182, 8001, 21014)) (Cs := [kh_1071]) (an := []) (ss := []) (K := 1) (fuel := 4000) wd_fl2_ok rfl (List.forall_mem_cons.mpr ⟨kh_1071_ok, (List.forall_mem_nil _)⟩) (by decide +kernel)
/- UtilityWorksModel bOpen -/
def kh_1073 : ct_T := (522, [(2, 805, 805, 0), (0, 0, 6, 1)], [], [], [(1, (1, (-9223372036854775808), 9223372036854775807, 1), [(2, 805, 805, 0), (0, 0, 6, 1)], [], ([], []))], [], 1, 22, 0)
theorem kh_1073_ok : ct_ok wd_fl2 kh_1073 := ct_of (ff := wd_ff2) (y := (⟨"UtilityWorksModel", "bOpen", "(I)J"⟩, prog_14_method_238_code, 5, some .long, 12, 1, 1, 35146, 35145, 14012, 21014)) (Cs := [kh_1065, kh_1066]) (an := [(5, 0, ([((2, 805, 805, 0), none), ((0, 0, 6, 1), none), ((1, (-9223372036854775808), 9223372036854775807, 1), none), ((0, 0, 33, 1), none)], [(0, 0), (1, 1), (2, 2), (4, 3)], [], [], [], [], [], [], none), [(0, 0, 99995), (1, 3, 33), (0, 0, 99995)])]) (ss := []) (K := 3) (fuel := 4000) wd_fl2_ok rfl (List.forall_mem_cons.mpr ⟨kh_1065_ok, (List.forall_mem_cons.mpr ⟨kh_1066_ok, (List.forall_mem_nil _)⟩)⟩) (by decide +kernel)
/- UtilityWorksModel bOwes -/
def kh_1074 : ct_T := (521, [(2, 805, 805, 0), (0, 0, 6, 1)], [], [], [(1, (1, (-9223372036854775808), 9223372036854775807, 1), [(2, 805, 805, 0), (0, 0, 6, 1)], [], ([], []))], [], 2, 46, 0)
theorem kh_1074_ok : ct_ok wd_fl2 kh_1074 := ct_of (ff := wd_ff2) (y := (⟨"UtilityWorksModel", "bOwes", "(I)J"⟩, prog_14_method_239_code, 2, some .long, 12, 1, 1, 35142, 35141, 14011, 21014)) (Cs := [kh_1073]) (an := []) (ss := []) (K := 1) (fuel := 4000) wd_fl2_ok rfl (List.forall_mem_cons.mpr ⟨kh_1073_ok, (List.forall_mem_nil _)⟩) (by decide +kernel)
/- UtilityWorksModel cHas -/
def kh_1075 : ct_T := (517, [(2, 805, 805, 0), (0, 6, 6, 0), (0, 0, 6, 1)], [], [], [(1, (0, 0, 1, 1), [(2, 805, 805, 0), (0, 6, 6, 0), (0, 0, 6, 1)], [], ([], []))], [], 1, 21, 0)
theorem kh_1075_ok : ct_ok wd_fl2 kh_1075 := ct_of (ff := wd_ff2) (y := (⟨"UtilityWorksModel", "cHas", "(II)Z"⟩, prog_14_method_276_code, 5, some .boolean, 12, 1, 2, 35126, 35125, 14007, 21014)) (Cs := [kh_cJ0, kh_cJ2, kh_cJ4]) (an := [(5, 0, ([((2, 805, 805, 0), none), ((0, 6, 6, 0), none), ((0, 0, 6, 1), none), ((0, 0, 1, 1), none), ((0, 0, 200, 1), none)], [(0, 0), (1, 1), (2, 2), (3, 3), (4, 4)], [], [], [], [], [], [], none), [(0, 0, 99995), (1, 4, 200), (0, 0, 99995)]), (67, 0, ([((2, 805, 805, 0), none), ((0, 6, 6, 0), none), ((0, 0, 6, 1), none), ((0, 0, 1, 1), none), ((0, 0, 199, 1), none)], [(0, 0), (1, 1), (2, 2), (3, 3), (4, 4)], [], [], [], [], [((806, 806), (2440, 2440, 0), (0, 1, 200, 1))], [], none), [(0, 0, 99995), (1, 4, 200), (0, 0, 99933)]), (71, 0, ([((2, 805, 805, 0), none), ((0, 6, 6, 0), none), ((0, 0, 6, 1), none), ((0, 0, 0, 0), none), ((0, 0, 199, 1), none)], [(0, 0), (1, 1), (2, 2), (3, 3), (4, 4)], [], [], [], [], [((806, 806), (2440, 2440, 0), (0, 1, 200, 1))], [], none), [(0, 0, 99995), (1, 4, 200), (0, 0, 99929)])]) (ss := []) (K := 3) (fuel := 4000) wd_fl2_ok rfl (List.forall_mem_cons.mpr ⟨kh_cJ0_ok, (List.forall_mem_cons.mpr ⟨kh_cJ2_ok, (List.forall_mem_cons.mpr ⟨kh_cJ4_ok, (List.forall_mem_nil _)⟩)⟩)⟩) (by decide +kernel)
/- UtilityWorksModel bNotices -/
def kh_1076 : ct_T := (515, [(2, 805, 805, 0), (0, 0, 6, 1)], [], [510], [(0, (0, 0, 0, 0), [(2, 805, 805, 0), (0, 0, 6, 1)], [], ([510], []))], [((806, 806), (2440, 4047, 1))], 3, 67, 0)
theorem kh_1076_ok : ct_ok wd_fl2 kh_1076 := ct_of (ff := wd_ff2) (y := (⟨"UtilityWorksModel", "bNotices", "(I)V"⟩, prog_14_method_249_code, 2, none, 12, 1, 1, 35115, 35114, 14005, 21014)) (Cs := [kh_1069, kh_rankOf, kh_511, kh_1070, kh_cMay, kh_cAddb, kh_1072, kh_1074, kh_1075]) (an := [(54, 0, ([((2, 805, 805, 0), none), ((0, 0, 6, 1), none)], [(0, 0), (1, 1)], [], [], [], [], [], [510], none), [(0, 0, 99946)]), (98, 0, ([((2, 805, 805, 0), none), ((0, 0, 6, 1), none)], [(0, 0), (1, 1)], [], [], [], [], [], [510], none), [(0, 0, 99902)])]) (ss := []) (K := 1) (fuel := 4000) wd_fl2_ok rfl (List.forall_mem_cons.mpr ⟨kh_1069_ok, (List.forall_mem_cons.mpr ⟨kh_rankOf_l2, (List.forall_mem_cons.mpr ⟨kh_511_l2, (List.forall_mem_cons.mpr ⟨kh_1070_ok, (List.forall_mem_cons.mpr ⟨kh_cMay_ok, (List.forall_mem_cons.mpr ⟨kh_cAddb_ok, (List.forall_mem_cons.mpr ⟨kh_1072_ok, (List.forall_mem_cons.mpr ⟨kh_1074_ok, (List.forall_mem_cons.mpr ⟨kh_1075_ok, (List.forall_mem_nil _)⟩)⟩)⟩)⟩)⟩)⟩)⟩)⟩)⟩) (by decide +kernel)
/- UtilityWorksModel bC -/
def kh_1077 : ct_T := (413, [(0, 0, 7, 1), (0, 1, 1, 0)], [], [], [(1, (0, 1821, 1961, 20), [(0, 0, 7, 1), (0, 1, 1, 0)], [], ([], []))], [], 0, 0, 0)
theorem kh_1077_ok : ct_ok wd_fl2 kh_1077 := ct_of (ff := wd_ff2) (y := (⟨"UtilityWorksModel", "bC", "(II)I"⟩, prog_14_method_227_code, 2, some .int, 12, 0, 2, 33186, 33185, 0, 21014)) (Cs := []) (an := []) (ss := []) (K := 1) (fuel := 4000) wd_fl2_ok rfl (List.forall_mem_nil _) (by decide +kernel)
/- UtilityWorksModel bC -/
def kh_1078 : ct_T := (413, [(0, 0, 7, 1), (0, 2, 2, 0)], [], [], [(1, (0, 1822, 1962, 20), [(0, 0, 7, 1), (0, 2, 2, 0)], [], ([], []))], [], 0, 0, 0)
theorem kh_1078_ok : ct_ok wd_fl2 kh_1078 := ct_of (ff := wd_ff2) (y := (⟨"UtilityWorksModel", "bC", "(II)I"⟩, prog_14_method_227_code, 2, some .int, 12, 0, 2, 33186, 33185, 0, 21014)) (Cs := []) (an := []) (ss := []) (K := 1) (fuel := 4000) wd_fl2_ok rfl (List.forall_mem_nil _) (by decide +kernel)
/- UtilityWorksModel bDue -/
def kh_1079 : ct_T := (504, [(2, 805, 805, 0), (0, 0, 7, 1), (0, 0, 214748364, 1)], [], [], [(1, (1, (-9223372036854775808), 9223372036854775807, 1), [(2, 805, 805, 0), (0, 0, 7, 1), (0, 0, 214748364, 1)], [], ([], []))], [], 0, 0, 0)
theorem kh_1079_ok : ct_ok wd_fl2 kh_1079 := ct_of (ff := wd_ff2) (y := (⟨"UtilityWorksModel", "bDue", "(II)J"⟩, prog_14_method_242_code, 3, some .long, 12, 1, 2, 35069, 35068, 13011, 21014)) (Cs := []) (an := []) (ss := []) (K := 1) (fuel := 4000) wd_fl2_ok rfl (List.forall_mem_nil _) (by decide +kernel)
/- UtilityWorksModel bC -/
def kh_1080 : ct_T := (413, [(0, 0, 7, 1), (0, 3, 3, 0)], [], [], [(1, (0, 1823, 1963, 20), [(0, 0, 7, 1), (0, 3, 3, 0)], [], ([], []))], [], 0, 0, 0)
theorem kh_1080_ok : ct_ok wd_fl2 kh_1080 := ct_of (ff := wd_ff2) (y := (⟨"UtilityWorksModel", "bC", "(II)I"⟩, prog_14_method_227_code, 2, some .int, 12, 0, 2, 33186, 33185, 0, 21014)) (Cs := []) (an := []) (ss := []) (K := 1) (fuel := 4000) wd_fl2_ok rfl (List.forall_mem_nil _) (by decide +kernel)
/- UtilityWorksModel bEndPlan -/
def kh_1081 : ct_T := (505, [(2, 805, 805, 0), (0, 0, 7, 1)], [], [], [(0, (0, 0, 0, 0), [(2, 805, 805, 0), (0, 0, 7, 1)], [], ([], []))], [((806, 806), (1821, 1961, 20)), ((806, 806), (1822, 1962, 20)), ((807, 807), (2830, 2837, 1)), ((807, 807), (2840, 2847, 1)), ((807, 807), (2850, 2857, 1))], 1, 21, 0)
theorem kh_1081_ok : ct_ok wd_fl2 kh_1081 := ct_of (ff := wd_ff2) (y := (⟨"UtilityWorksModel", "bEndPlan", "(I)V"⟩, prog_14_method_241_code, 2, none, 12, 1, 1, 35073, 35072, 13012, 21014)) (Cs := [kh_1077, kh_1078]) (an := []) (ss := []) (K := 1) (fuel := 4000) wd_fl2_ok rfl (List.forall_mem_cons.mpr ⟨kh_1077_ok, (List.forall_mem_cons.mpr ⟨kh_1078_ok, (List.forall_mem_nil _)⟩)⟩) (by decide +kernel)
/- UtilityWorksModel bPlanDay -/
def kh_1082 : ct_T := (503, [(2, 805, 805, 0), (0, 0, 7, 1)], [], [], [(0, (0, 0, 0, 0), [(2, 805, 805, 0), (0, 0, 7, 1)], [], ([], []))], [((806, 806), (1821, 1961, 20)), ((806, 806), (1822, 1962, 20)), ((806, 806), (1823, 1963, 20)), ((807, 807), (2830, 2837, 1)), ((807, 807), (2840, 2847, 1)), ((807, 807), (2850, 2857, 1))], 2, 42, 0)
theorem kh_1082_ok : ct_ok wd_fl2 kh_1082 := ct_of (ff := wd_ff2) (y := (⟨"UtilityWorksModel", "bPlanDay", "(I)V"⟩, prog_14_method_243_code, 4, none, 12, 1, 1, 35065, 35064, 13010, 21014)) (Cs := [kh_1077, kh_day, kh_1078, kh_1079, kh_1080, kh_1081]) (an := [(92, 0, ([((2, 805, 805, 0), none), ((0, 0, 7, 1), none), ((0, 0, 6, 1), none), ((0, (-2147483648), 2147483647, 1), none)], [(0, 0), (1, 1), (2, 2), (3, 3)], [], [], [], [], [], [], none), [(0, 0, 99908)])]) (ss := []) (K := 1) (fuel := 4000) wd_fl2_ok rfl (List.forall_mem_cons.mpr ⟨kh_1077_ok, (List.forall_mem_cons.mpr ⟨kh_day_ok, (List.forall_mem_cons.mpr ⟨kh_1078_ok, (List.forall_mem_cons.mpr ⟨kh_1079_ok, (List.forall_mem_cons.mpr ⟨kh_1080_ok, (List.forall_mem_cons.mpr ⟨kh_1081_ok, (List.forall_mem_nil _)⟩)⟩)⟩)⟩)⟩)⟩) (by decide +kernel)
/- UtilityWorksModel bC -/
def kh_1083 : ct_T := (413, [(0, 0, 7, 1), (0, 0, 0, 0)], [], [], [(1, (0, 1820, 1960, 20), [(0, 0, 7, 1), (0, 0, 0, 0)], [], ([], []))], [], 0, 0, 0)
theorem kh_1083_ok : ct_ok wd_fl2 kh_1083 := ct_of (ff := wd_ff2) (y := (⟨"UtilityWorksModel", "bC", "(II)I"⟩, prog_14_method_227_code, 2, some .int, 12, 0, 2, 33186, 33185, 0, 21014)) (Cs := []) (an := []) (ss := []) (K := 1) (fuel := 4000) wd_fl2_ok rfl (List.forall_mem_nil _) (by decide +kernel)
/- UtilityWorksModel bB -/
def kh_1084 : ct_T := (507, [(0, 0, 7, 1), (0, 0, 32, 1), (0, 7, 7, 0)], [], [], [(1, (0, 107, 2267, 8), [(0, 0, 7, 1), (0, 0, 32, 1), (0, 7, 7, 0)], [], ([], []))], [], 0, 0, 0)
theorem kh_1084_ok : ct_ok wd_fl2 kh_1084 := ct_of (ff := wd_ff2) (y := (⟨"UtilityWorksModel", "bB", "(III)I"⟩, prog_14_method_228_code, 3, some .int, 12, 0, 3, 35080, 35079, 0, 21014)) (Cs := []) (an := []) (ss := []) (K := 1) (fuel := 4000) wd_fl2_ok rfl (List.forall_mem_nil _) (by decide +kernel)
/- UtilityWorksModel bInterest -/
def kh_1085 : ct_T := (506, [(2, 805, 805, 0), (0, 0, 7, 1)], [], [], [(0, (0, 0, 0, 0), [(2, 805, 805, 0), (0, 0, 7, 1)], [], ([], []))], [((807, 807), (107, 2267, 8)), ((807, 807), (2862, 2862, 0))], 1, 22, 0)
theorem kh_1085_ok : ct_ok wd_fl2 kh_1085 := ct_of (ff := wd_ff2) (y := (⟨"UtilityWorksModel", "bInterest", "(I)V"⟩, prog_14_method_244_code, 5, none, 12, 1, 1, 35077, 35076, 13013, 21014)) (Cs := [kh_1083, kh_1084]) (an := [(2, 0, ([((2, 805, 805, 0), none), ((0, 0, 7, 1), none), ((0, 0, 33, 1), none)], [(0, 0), (1, 1), (2, 2)], [], [], [], [], [], [], none), [(0, 0, 99998), (1, 2, 33), (0, 0, 99998)])]) (ss := []) (K := 3) (fuel := 4000) wd_fl2_ok rfl (List.forall_mem_cons.mpr ⟨kh_1083_ok, (List.forall_mem_cons.mpr ⟨kh_1084_ok, (List.forall_mem_nil _)⟩)⟩) (by decide +kernel)
/- UtilityWorksModel bB -/
def kh_1086 : ct_T := (507, [(0, 0, 7, 1), (0, 0, 32, 1), (0, 0, 0, 0)], [], [], [(1, (0, 100, 2260, 8), [(0, 0, 7, 1), (0, 0, 32, 1), (0, 0, 0, 0)], [], ([], []))], [], 0, 0, 0)
theorem kh_1086_ok : ct_ok wd_fl2 kh_1086 := ct_of (ff := wd_ff2) (y := (⟨"UtilityWorksModel", "bB", "(III)I"⟩, prog_14_method_228_code, 3, some .int, 12, 0, 3, 35080, 35079, 0, 21014)) (Cs := []) (an := []) (ss := []) (K := 1) (fuel := 4000) wd_fl2_ok rfl (List.forall_mem_nil _) (by decide +kernel)
/- UtilityWorksModel bNotice -/
def kh_1087 : ct_T := (516, [(2, 805, 805, 0), (0, 0, 7, 1)], [], [], [(1, (0, 0, 0, 0), [(2, 805, 805, 0), (0, 0, 7, 1)], [], ([], [])), (1, (0, 1, 1, 0), [(2, 805, 805, 0), (0, 0, 7, 1)], [], ([], [])), (1, (0, 2, 3, 1), [(2, 805, 805, 0), (0, 0, 7, 1)], [], ([], []))], [], 1, 22, 0)
theorem kh_1087_ok : ct_ok wd_fl2 kh_1087 := ct_of (ff := wd_ff2) (y := (⟨"UtilityWorksModel", "bNotice", "(I)I"⟩, prog_14_method_248_code, 5, some .int, 12, 1, 1, 35119, 35118, 14006, 21014)) (Cs := [kh_1083, kh_1077, kh_day, kh_1086, kh_1084]) (an := [(15, 0, ([((2, 805, 805, 0), none), ((0, 0, 7, 1), none), ((0, (-1), 32, 1), none), ((0, (-1), 32, 1), none)], [(0, 0), (1, 1), (2, 2), (3, 3)], [], [], [], [], [], [], none), [(0, 0, 99985), (2, 3, (-1)), (0, 0, 99985)]), (66, 0, ([((2, 805, 805, 0), none), ((0, 0, 7, 1), none), ((0, (-1), 32, 1), none), ((0, (-1), (-1), 1), none)], [(0, 0), (1, 1), (2, 2), (3, 3)], [], [], [], [], [], [], none), [(0, 0, 99934), (0, 0, 0), (0, 0, 0)])]) (ss := []) (K := 3) (fuel := 4000) wd_fl2_ok rfl (List.forall_mem_cons.mpr ⟨kh_1083_ok, (List.forall_mem_cons.mpr ⟨kh_1077_ok, (List.forall_mem_cons.mpr ⟨kh_day_ok, (List.forall_mem_cons.mpr ⟨kh_1086_ok, (List.forall_mem_cons.mpr ⟨kh_1084_ok, (List.forall_mem_nil _)⟩)⟩)⟩)⟩)⟩) (by decide +kernel)
/- UtilityWorksModel cHas -/
def kh_1088 : ct_T := (517, [(2, 805, 805, 0), (0, 5, 5, 0), (0, 0, 7, 1)], [], [], [(1, (0, 0, 1, 1), [(2, 805, 805, 0), (0, 5, 5, 0), (0, 0, 7, 1)], [], ([], []))], [], 1, 21, 0)
theorem kh_1088_ok : ct_ok wd_fl2 kh_1088 := ct_of (ff := wd_ff2) (y := (⟨"UtilityWorksModel", "cHas", "(II)Z"⟩, prog_14_method_276_code, 5, some .boolean, 12, 1, 2, 35126, 35125, 14007, 21014)) (Cs := [kh_cJ0, kh_cJ2, kh_cJ4]) (an := [(5, 0, ([((2, 805, 805, 0), none), ((0, 5, 5, 0), none), ((0, 0, 7, 1), none), ((0, 0, 1, 1), none), ((0, 0, 200, 1), none)], [(0, 0), (1, 1), (2, 2), (3, 3), (4, 4)], [], [], [], [], [], [], none), [(0, 0, 99995), (1, 4, 200), (0, 0, 99995)]), (67, 0, ([((2, 805, 805, 0), none), ((0, 5, 5, 0), none), ((0, 0, 7, 1), none), ((0, 0, 1, 1), none), ((0, 0, 199, 1), none)], [(0, 0), (1, 1), (2, 2), (3, 3), (4, 4)], [], [], [], [], [((806, 806), (2440, 2440, 0), (0, 1, 200, 1))], [], none), [(0, 0, 99995), (1, 4, 200), (0, 0, 99933)]), (71, 0, ([((2, 805, 805, 0), none), ((0, 5, 5, 0), none), ((0, 0, 7, 1), none), ((0, 0, 0, 0), none), ((0, 0, 199, 1), none)], [(0, 0), (1, 1), (2, 2), (3, 3), (4, 4)], [], [], [], [], [((806, 806), (2440, 2440, 0), (0, 1, 200, 1))], [], none), [(0, 0, 99995), (1, 4, 200), (0, 0, 99929)])]) (ss := []) (K := 3) (fuel := 4000) wd_fl2_ok rfl (List.forall_mem_cons.mpr ⟨kh_cJ0_ok, (List.forall_mem_cons.mpr ⟨kh_cJ2_ok, (List.forall_mem_cons.mpr ⟨kh_cJ4_ok, (List.forall_mem_nil _)⟩)⟩)⟩) (by decide +kernel)
/- UtilityWorksModel bC -/
def kh_1089 : ct_T := (413, [(0, 0, 7, 1), (0, 5, 5, 0)], [], [], [(1, (0, 1825, 1965, 20), [(0, 0, 7, 1), (0, 5, 5, 0)], [], ([], []))], [], 0, 0, 0)
theorem kh_1089_ok : ct_ok wd_fl2 kh_1089 := ct_of (ff := wd_ff2) (y := (⟨"UtilityWorksModel", "bC", "(II)I"⟩, prog_14_method_227_code, 2, some .int, 12, 0, 2, 33186, 33185, 0, 21014)) (Cs := []) (an := []) (ss := []) (K := 1) (fuel := 4000) wd_fl2_ok rfl (List.forall_mem_nil _) (by decide +kernel)
/- UtilityWorksModel bCutFrom -/
def kh_1090 : ct_T := (412, [(2, 805, 805, 0), (0, 0, 7, 1)], [], [], [(1, (0, (-2147483648), 2147483647, 1), [(2, 805, 805, 0), (0, 0, 7, 1)], [], ([], []))], [], 1, 21, 0)
theorem kh_1090_ok : ct_ok wd_fl2 kh_1090 := ct_of (ff := wd_ff2) (y := (⟨"UtilityWorksModel", "bCutFrom", "(I)I"⟩, prog_14_method_235_code, 2, some .int, 12, 1, 1, 33183, 33182, 8001, 21014)) (Cs := [kh_1089]) (an := []) (ss := []) (K := 1) (fuel := 4000) wd_fl2_ok rfl (List.forall_mem_cons.mpr ⟨kh_1089_ok, (List.forall_mem_nil _)⟩) (by decide +kernel)
/- UtilityWorksModel bOpen -/
def kh_1091 : ct_T := (522, [(2, 805, 805, 0), (0, 0, 7, 1)], [], [], [(1, (1, (-9223372036854775808), 9223372036854775807, 1), [(2, 805, 805, 0), (0, 0, 7, 1)], [], ([], []))], [], 1, 22, 0)
theorem kh_1091_ok : ct_ok wd_fl2 kh_1091 := ct_of (ff := wd_ff2) (y := (⟨"UtilityWorksModel", "bOpen", "(I)J"⟩, prog_14_method_238_code, 5, some .long, 12, 1, 1, 35146, 35145, 14012, 21014)) (Cs := [kh_1083, kh_1084]) (an := [(5, 0, ([((2, 805, 805, 0), none), ((0, 0, 7, 1), none), ((1, (-9223372036854775808), 9223372036854775807, 1), none), ((0, 0, 33, 1), none)], [(0, 0), (1, 1), (2, 2), (4, 3)], [], [], [], [], [], [], none), [(0, 0, 99995), (1, 3, 33), (0, 0, 99995)])]) (ss := []) (K := 3) (fuel := 4000) wd_fl2_ok rfl (List.forall_mem_cons.mpr ⟨kh_1083_ok, (List.forall_mem_cons.mpr ⟨kh_1084_ok, (List.forall_mem_nil _)⟩)⟩) (by decide +kernel)
/- UtilityWorksModel bOwes -/
def kh_1092 : ct_T := (521, [(2, 805, 805, 0), (0, 0, 7, 1)], [], [], [(1, (1, (-9223372036854775808), 9223372036854775807, 1), [(2, 805, 805, 0), (0, 0, 7, 1)], [], ([], []))], [], 2, 46, 0)
theorem kh_1092_ok : ct_ok wd_fl2 kh_1092 := ct_of (ff := wd_ff2) (y := (⟨"UtilityWorksModel", "bOwes", "(I)J"⟩, prog_14_method_239_code, 2, some .long, 12, 1, 1, 35142, 35141, 14011, 21014)) (Cs := [kh_1091]) (an := []) (ss := []) (K := 1) (fuel := 4000) wd_fl2_ok rfl (List.forall_mem_cons.mpr ⟨kh_1091_ok, (List.forall_mem_nil _)⟩) (by decide +kernel)
/- UtilityWorksModel cHas -/
def kh_1093 : ct_T := (517, [(2, 805, 805, 0), (0, 6, 6, 0), (0, 0, 7, 1)], [], [], [(1, (0, 0, 1, 1), [(2, 805, 805, 0), (0, 6, 6, 0), (0, 0, 7, 1)], [], ([], []))], [], 1, 21, 0)
theorem kh_1093_ok : ct_ok wd_fl2 kh_1093 := ct_of (ff := wd_ff2) (y := (⟨"UtilityWorksModel", "cHas", "(II)Z"⟩, prog_14_method_276_code, 5, some .boolean, 12, 1, 2, 35126, 35125, 14007, 21014)) (Cs := [kh_cJ0, kh_cJ2, kh_cJ4]) (an := [(5, 0, ([((2, 805, 805, 0), none), ((0, 6, 6, 0), none), ((0, 0, 7, 1), none), ((0, 0, 1, 1), none), ((0, 0, 200, 1), none)], [(0, 0), (1, 1), (2, 2), (3, 3), (4, 4)], [], [], [], [], [], [], none), [(0, 0, 99995), (1, 4, 200), (0, 0, 99995)]), (67, 0, ([((2, 805, 805, 0), none), ((0, 6, 6, 0), none), ((0, 0, 7, 1), none), ((0, 0, 1, 1), none), ((0, 0, 199, 1), none)], [(0, 0), (1, 1), (2, 2), (3, 3), (4, 4)], [], [], [], [], [((806, 806), (2440, 2440, 0), (0, 1, 200, 1))], [], none), [(0, 0, 99995), (1, 4, 200), (0, 0, 99933)]), (71, 0, ([((2, 805, 805, 0), none), ((0, 6, 6, 0), none), ((0, 0, 7, 1), none), ((0, 0, 0, 0), none), ((0, 0, 199, 1), none)], [(0, 0), (1, 1), (2, 2), (3, 3), (4, 4)], [], [], [], [], [((806, 806), (2440, 2440, 0), (0, 1, 200, 1))], [], none), [(0, 0, 99995), (1, 4, 200), (0, 0, 99929)])]) (ss := []) (K := 3) (fuel := 4000) wd_fl2_ok rfl (List.forall_mem_cons.mpr ⟨kh_cJ0_ok, (List.forall_mem_cons.mpr ⟨kh_cJ2_ok, (List.forall_mem_cons.mpr ⟨kh_cJ4_ok, (List.forall_mem_nil _)⟩)⟩)⟩) (by decide +kernel)
/- UtilityWorksModel bNotices -/
def kh_1094 : ct_T := (515, [(2, 805, 805, 0), (0, 0, 7, 1)], [], [510], [(0, (0, 0, 0, 0), [(2, 805, 805, 0), (0, 0, 7, 1)], [], ([510], []))], [((806, 806), (2440, 4047, 1))], 3, 67, 0)
theorem kh_1094_ok : ct_ok wd_fl2 kh_1094 := ct_of (ff := wd_ff2) (y := (⟨"UtilityWorksModel", "bNotices", "(I)V"⟩, prog_14_method_249_code, 2, none, 12, 1, 1, 35115, 35114, 14005, 21014)) (Cs := [kh_1087, kh_rankOf, kh_518, kh_1088, kh_cMay, kh_cAddb, kh_1090, kh_1092, kh_1093]) (an := [(54, 0, ([((2, 805, 805, 0), none), ((0, 0, 7, 1), none)], [(0, 0), (1, 1)], [], [], [], [], [], [510], none), [(0, 0, 99946)]), (98, 0, ([((2, 805, 805, 0), none), ((0, 0, 7, 1), none)], [(0, 0), (1, 1)], [], [], [], [], [], [510], none), [(0, 0, 99902)])]) (ss := []) (K := 1) (fuel := 4000) wd_fl2_ok rfl (List.forall_mem_cons.mpr ⟨kh_1087_ok, (List.forall_mem_cons.mpr ⟨kh_rankOf_l2, (List.forall_mem_cons.mpr ⟨kh_518_l2, (List.forall_mem_cons.mpr ⟨kh_1088_ok, (List.forall_mem_cons.mpr ⟨kh_cMay_ok, (List.forall_mem_cons.mpr ⟨kh_cAddb_ok, (List.forall_mem_cons.mpr ⟨kh_1090_ok, (List.forall_mem_cons.mpr ⟨kh_1092_ok, (List.forall_mem_cons.mpr ⟨kh_1093_ok, (List.forall_mem_nil _)⟩)⟩)⟩)⟩)⟩)⟩)⟩)⟩)⟩) (by decide +kernel)
/- UtilityWorksModel bC -/
def kh_1095 : ct_T := (413, [(0, 0, 8, 1), (0, 1, 1, 0)], [], [], [(1, (0, 1821, 1981, 20), [(0, 0, 8, 1), (0, 1, 1, 0)], [], ([], []))], [], 0, 0, 0)
theorem kh_1095_ok : ct_ok wd_fl2 kh_1095 := ct_of (ff := wd_ff2) (y := (⟨"UtilityWorksModel", "bC", "(II)I"⟩, prog_14_method_227_code, 2, some .int, 12, 0, 2, 33186, 33185, 0, 21014)) (Cs := []) (an := []) (ss := []) (K := 1) (fuel := 4000) wd_fl2_ok rfl (List.forall_mem_nil _) (by decide +kernel)
/- UtilityWorksModel bC -/
def kh_1096 : ct_T := (413, [(0, 0, 8, 1), (0, 2, 2, 0)], [], [], [(1, (0, 1822, 1982, 20), [(0, 0, 8, 1), (0, 2, 2, 0)], [], ([], []))], [], 0, 0, 0)
theorem kh_1096_ok : ct_ok wd_fl2 kh_1096 := ct_of (ff := wd_ff2) (y := (⟨"UtilityWorksModel", "bC", "(II)I"⟩, prog_14_method_227_code, 2, some .int, 12, 0, 2, 33186, 33185, 0, 21014)) (Cs := []) (an := []) (ss := []) (K := 1) (fuel := 4000) wd_fl2_ok rfl (List.forall_mem_nil _) (by decide +kernel)
/- UtilityWorksModel bDue -/
def kh_1097 : ct_T := (504, [(2, 805, 805, 0), (0, 0, 8, 1), (0, 0, 214748364, 1)], [], [], [(1, (1, (-9223372036854775808), 9223372036854775807, 1), [(2, 805, 805, 0), (0, 0, 8, 1), (0, 0, 214748364, 1)], [], ([], []))], [], 0, 0, 0)
theorem kh_1097_ok : ct_ok wd_fl2 kh_1097 := ct_of (ff := wd_ff2) (y := (⟨"UtilityWorksModel", "bDue", "(II)J"⟩, prog_14_method_242_code, 3, some .long, 12, 1, 2, 35069, 35068, 13011, 21014)) (Cs := []) (an := []) (ss := []) (K := 1) (fuel := 4000) wd_fl2_ok rfl (List.forall_mem_nil _) (by decide +kernel)
/- UtilityWorksModel bC -/
def kh_1098 : ct_T := (413, [(0, 0, 8, 1), (0, 3, 3, 0)], [], [], [(1, (0, 1823, 1983, 20), [(0, 0, 8, 1), (0, 3, 3, 0)], [], ([], []))], [], 0, 0, 0)
theorem kh_1098_ok : ct_ok wd_fl2 kh_1098 := ct_of (ff := wd_ff2) (y := (⟨"UtilityWorksModel", "bC", "(II)I"⟩, prog_14_method_227_code, 2, some .int, 12, 0, 2, 33186, 33185, 0, 21014)) (Cs := []) (an := []) (ss := []) (K := 1) (fuel := 4000) wd_fl2_ok rfl (List.forall_mem_nil _) (by decide +kernel)
/- UtilityWorksModel bEndPlan -/
def kh_1099 : ct_T := (505, [(2, 805, 805, 0), (0, 0, 8, 1)], [], [], [(0, (0, 0, 0, 0), [(2, 805, 805, 0), (0, 0, 8, 1)], [], ([], []))], [((806, 806), (1821, 1981, 20)), ((806, 806), (1822, 1982, 20)), ((807, 807), (2830, 2838, 1)), ((807, 807), (2840, 2848, 1)), ((807, 807), (2850, 2858, 1))], 1, 21, 0)
theorem kh_1099_ok : ct_ok wd_fl2 kh_1099 := ct_of (ff := wd_ff2) (y := (⟨"UtilityWorksModel", "bEndPlan", "(I)V"⟩, prog_14_method_241_code, 2, none, 12, 1, 1, 35073, 35072, 13012, 21014)) (Cs := [kh_1095, kh_1096]) (an := []) (ss := []) (K := 1) (fuel := 4000) wd_fl2_ok rfl (List.forall_mem_cons.mpr ⟨kh_1095_ok, (List.forall_mem_cons.mpr ⟨kh_1096_ok, (List.forall_mem_nil _)⟩)⟩) (by decide +kernel)
/- UtilityWorksModel bPlanDay -/
def kh_1100 : ct_T := (503, [(2, 805, 805, 0), (0, 0, 8, 1)], [], [], [(0, (0, 0, 0, 0), [(2, 805, 805, 0), (0, 0, 8, 1)], [], ([], []))], [((806, 806), (1821, 1981, 20)), ((806, 806), (1822, 1982, 20)), ((806, 806), (1823, 1983, 20)), ((807, 807), (2830, 2838, 1)), ((807, 807), (2840, 2848, 1)), ((807, 807), (2850, 2858, 1))], 2, 42, 0)
theorem kh_1100_ok : ct_ok wd_fl2 kh_1100 := ct_of (ff := wd_ff2) (y := (⟨"UtilityWorksModel", "bPlanDay", "(I)V"⟩, prog_14_method_243_code, 4, none, 12, 1, 1, 35065, 35064, 13010, 21014)) (Cs := [kh_1095, kh_day, kh_1096, kh_1097, kh_1098, kh_1099]) (an := [(92, 0, ([((2, 805, 805, 0), none), ((0, 0, 8, 1), none), ((0, 0, 6, 1), none), ((0, (-2147483648), 2147483647, 1), none)], [(0, 0), (1, 1), (2, 2), (3, 3)], [], [], [], [], [], [], none), [(0, 0, 99908)])]) (ss := []) (K := 1) (fuel := 4000) wd_fl2_ok rfl (List.forall_mem_cons.mpr ⟨kh_1095_ok, (List.forall_mem_cons.mpr ⟨kh_day_ok, (List.forall_mem_cons.mpr ⟨kh_1096_ok, (List.forall_mem_cons.mpr ⟨kh_1097_ok, (List.forall_mem_cons.mpr ⟨kh_1098_ok, (List.forall_mem_cons.mpr ⟨kh_1099_ok, (List.forall_mem_nil _)⟩)⟩)⟩)⟩)⟩)⟩) (by decide +kernel)
/- UtilityWorksModel bC -/
def kh_1101 : ct_T := (413, [(0, 0, 8, 1), (0, 0, 0, 0)], [], [], [(1, (0, 1820, 1980, 20), [(0, 0, 8, 1), (0, 0, 0, 0)], [], ([], []))], [], 0, 0, 0)
theorem kh_1101_ok : ct_ok wd_fl2 kh_1101 := ct_of (ff := wd_ff2) (y := (⟨"UtilityWorksModel", "bC", "(II)I"⟩, prog_14_method_227_code, 2, some .int, 12, 0, 2, 33186, 33185, 0, 21014)) (Cs := []) (an := []) (ss := []) (K := 1) (fuel := 4000) wd_fl2_ok rfl (List.forall_mem_nil _) (by decide +kernel)
/- UtilityWorksModel bB -/
def kh_1102 : ct_T := (507, [(0, 0, 8, 1), (0, 0, 32, 1), (0, 7, 7, 0)], [], [], [(1, (0, 107, 2539, 8), [(0, 0, 8, 1), (0, 0, 32, 1), (0, 7, 7, 0)], [], ([], []))], [], 0, 0, 0)
theorem kh_1102_ok : ct_ok wd_fl2 kh_1102 := ct_of (ff := wd_ff2) (y := (⟨"UtilityWorksModel", "bB", "(III)I"⟩, prog_14_method_228_code, 3, some .int, 12, 0, 3, 35080, 35079, 0, 21014)) (Cs := []) (an := []) (ss := []) (K := 1) (fuel := 4000) wd_fl2_ok rfl (List.forall_mem_nil _) (by decide +kernel)
/- UtilityWorksModel bInterest -/
def kh_1103 : ct_T := (506, [(2, 805, 805, 0), (0, 0, 8, 1)], [], [], [(0, (0, 0, 0, 0), [(2, 805, 805, 0), (0, 0, 8, 1)], [], ([], []))], [((807, 807), (107, 2539, 8)), ((807, 807), (2862, 2862, 0))], 1, 22, 0)
theorem kh_1103_ok : ct_ok wd_fl2 kh_1103 := ct_of (ff := wd_ff2) (y := (⟨"UtilityWorksModel", "bInterest", "(I)V"⟩, prog_14_method_244_code, 5, none, 12, 1, 1, 35077, 35076, 13013, 21014)) (Cs := [kh_1101, kh_1102]) (an := [(2, 0, ([((2, 805, 805, 0), none), ((0, 0, 8, 1), none), ((0, 0, 33, 1), none)], [(0, 0), (1, 1), (2, 2)], [], [], [], [], [], [], none), [(0, 0, 99998), (1, 2, 33), (0, 0, 99998)])]) (ss := []) (K := 3) (fuel := 4000) wd_fl2_ok rfl (List.forall_mem_cons.mpr ⟨kh_1101_ok, (List.forall_mem_cons.mpr ⟨kh_1102_ok, (List.forall_mem_nil _)⟩)⟩) (by decide +kernel)
/- UtilityWorksModel bB -/
def kh_1104 : ct_T := (507, [(0, 0, 8, 1), (0, 0, 32, 1), (0, 0, 0, 0)], [], [], [(1, (0, 100, 2532, 8), [(0, 0, 8, 1), (0, 0, 32, 1), (0, 0, 0, 0)], [], ([], []))], [], 0, 0, 0)
theorem kh_1104_ok : ct_ok wd_fl2 kh_1104 := ct_of (ff := wd_ff2) (y := (⟨"UtilityWorksModel", "bB", "(III)I"⟩, prog_14_method_228_code, 3, some .int, 12, 0, 3, 35080, 35079, 0, 21014)) (Cs := []) (an := []) (ss := []) (K := 1) (fuel := 4000) wd_fl2_ok rfl (List.forall_mem_nil _) (by decide +kernel)
/- UtilityWorksModel bNotice -/
def kh_1105 : ct_T := (516, [(2, 805, 805, 0), (0, 0, 8, 1)], [], [], [(1, (0, 0, 0, 0), [(2, 805, 805, 0), (0, 0, 8, 1)], [], ([], [])), (1, (0, 1, 1, 0), [(2, 805, 805, 0), (0, 0, 8, 1)], [], ([], [])), (1, (0, 2, 3, 1), [(2, 805, 805, 0), (0, 0, 8, 1)], [], ([], []))], [], 1, 22, 0)
theorem kh_1105_ok : ct_ok wd_fl2 kh_1105 := ct_of (ff := wd_ff2) (y := (⟨"UtilityWorksModel", "bNotice", "(I)I"⟩, prog_14_method_248_code, 5, some .int, 12, 1, 1, 35119, 35118, 14006, 21014)) (Cs := [kh_1101, kh_1095, kh_day, kh_1104, kh_1102]) (an := [(15, 0, ([((2, 805, 805, 0), none), ((0, 0, 8, 1), none), ((0, (-1), 32, 1), none), ((0, (-1), 32, 1), none)], [(0, 0), (1, 1), (2, 2), (3, 3)], [], [], [], [], [], [], none), [(0, 0, 99985), (2, 3, (-1)), (0, 0, 99985)]), (66, 0, ([((2, 805, 805, 0), none), ((0, 0, 8, 1), none), ((0, (-1), 32, 1), none), ((0, (-1), (-1), 1), none)], [(0, 0), (1, 1), (2, 2), (3, 3)], [], [], [], [], [], [], none), [(0, 0, 99934), (0, 0, 0), (0, 0, 0)])]) (ss := []) (K := 3) (fuel := 4000) wd_fl2_ok rfl (List.forall_mem_cons.mpr ⟨kh_1101_ok, (List.forall_mem_cons.mpr ⟨kh_1095_ok, (List.forall_mem_cons.mpr ⟨kh_day_ok, (List.forall_mem_cons.mpr ⟨kh_1104_ok, (List.forall_mem_cons.mpr ⟨kh_1102_ok, (List.forall_mem_nil _)⟩)⟩)⟩)⟩)⟩) (by decide +kernel)
/- UtilityWorksModel cHas -/
def kh_1106 : ct_T := (517, [(2, 805, 805, 0), (0, 5, 5, 0), (0, 0, 8, 1)], [], [], [(1, (0, 0, 1, 1), [(2, 805, 805, 0), (0, 5, 5, 0), (0, 0, 8, 1)], [], ([], []))], [], 1, 21, 0)
theorem kh_1106_ok : ct_ok wd_fl2 kh_1106 := ct_of (ff := wd_ff2) (y := (⟨"UtilityWorksModel", "cHas", "(II)Z"⟩, prog_14_method_276_code, 5, some .boolean, 12, 1, 2, 35126, 35125, 14007, 21014)) (Cs := [kh_cJ0, kh_cJ2, kh_cJ4]) (an := [(5, 0, ([((2, 805, 805, 0), none), ((0, 5, 5, 0), none), ((0, 0, 8, 1), none), ((0, 0, 1, 1), none), ((0, 0, 200, 1), none)], [(0, 0), (1, 1), (2, 2), (3, 3), (4, 4)], [], [], [], [], [], [], none), [(0, 0, 99995), (1, 4, 200), (0, 0, 99995)]), (67, 0, ([((2, 805, 805, 0), none), ((0, 5, 5, 0), none), ((0, 0, 8, 1), none), ((0, 0, 1, 1), none), ((0, 0, 199, 1), none)], [(0, 0), (1, 1), (2, 2), (3, 3), (4, 4)], [], [], [], [], [((806, 806), (2440, 2440, 0), (0, 1, 200, 1))], [], none), [(0, 0, 99995), (1, 4, 200), (0, 0, 99933)]), (71, 0, ([((2, 805, 805, 0), none), ((0, 5, 5, 0), none), ((0, 0, 8, 1), none), ((0, 0, 0, 0), none), ((0, 0, 199, 1), none)], [(0, 0), (1, 1), (2, 2), (3, 3), (4, 4)], [], [], [], [], [((806, 806), (2440, 2440, 0), (0, 1, 200, 1))], [], none), [(0, 0, 99995), (1, 4, 200), (0, 0, 99929)])]) (ss := []) (K := 3) (fuel := 4000) wd_fl2_ok rfl (List.forall_mem_cons.mpr ⟨kh_cJ0_ok, (List.forall_mem_cons.mpr ⟨kh_cJ2_ok, (List.forall_mem_cons.mpr ⟨kh_cJ4_ok, (List.forall_mem_nil _)⟩)⟩)⟩) (by decide +kernel)
/- UtilityWorksModel bC -/
def kh_1107 : ct_T := (413, [(0, 0, 8, 1), (0, 5, 5, 0)], [], [], [(1, (0, 1825, 1985, 20), [(0, 0, 8, 1), (0, 5, 5, 0)], [], ([], []))], [], 0, 0, 0)
theorem kh_1107_ok : ct_ok wd_fl2 kh_1107 := ct_of (ff := wd_ff2) (y := (⟨"UtilityWorksModel", "bC", "(II)I"⟩, prog_14_method_227_code, 2, some .int, 12, 0, 2, 33186, 33185, 0, 21014)) (Cs := []) (an := []) (ss := []) (K := 1) (fuel := 4000) wd_fl2_ok rfl (List.forall_mem_nil _) (by decide +kernel)
/- UtilityWorksModel bCutFrom -/
def kh_1108 : ct_T := (412, [(2, 805, 805, 0), (0, 0, 8, 1)], [], [], [(1, (0, (-2147483648), 2147483647, 1), [(2, 805, 805, 0), (0, 0, 8, 1)], [], ([], []))], [], 1, 21, 0)
theorem kh_1108_ok : ct_ok wd_fl2 kh_1108 := ct_of (ff := wd_ff2) (y := (⟨"UtilityWorksModel", "bCutFrom", "(I)I"⟩, prog_14_method_235_code, 2, some .int, 12, 1, 1, 33183, 33182, 8001, 21014)) (Cs := [kh_1107]) (an := []) (ss := []) (K := 1) (fuel := 4000) wd_fl2_ok rfl (List.forall_mem_cons.mpr ⟨kh_1107_ok, (List.forall_mem_nil _)⟩) (by decide +kernel)
/- UtilityWorksModel bOpen -/
def kh_1109 : ct_T := (522, [(2, 805, 805, 0), (0, 0, 8, 1)], [], [], [(1, (1, (-9223372036854775808), 9223372036854775807, 1), [(2, 805, 805, 0), (0, 0, 8, 1)], [], ([], []))], [], 1, 22, 0)
theorem kh_1109_ok : ct_ok wd_fl2 kh_1109 := ct_of (ff := wd_ff2) (y := (⟨"UtilityWorksModel", "bOpen", "(I)J"⟩, prog_14_method_238_code, 5, some .long, 12, 1, 1, 35146, 35145, 14012, 21014)) (Cs := [kh_1101, kh_1102]) (an := [(5, 0, ([((2, 805, 805, 0), none), ((0, 0, 8, 1), none), ((1, (-9223372036854775808), 9223372036854775807, 1), none), ((0, 0, 33, 1), none)], [(0, 0), (1, 1), (2, 2), (4, 3)], [], [], [], [], [], [], none), [(0, 0, 99995), (1, 3, 33), (0, 0, 99995)])]) (ss := []) (K := 3) (fuel := 4000) wd_fl2_ok rfl (List.forall_mem_cons.mpr ⟨kh_1101_ok, (List.forall_mem_cons.mpr ⟨kh_1102_ok, (List.forall_mem_nil _)⟩)⟩) (by decide +kernel)
/- UtilityWorksModel bOwes -/
def kh_1110 : ct_T := (521, [(2, 805, 805, 0), (0, 0, 8, 1)], [], [], [(1, (1, (-9223372036854775808), 9223372036854775807, 1), [(2, 805, 805, 0), (0, 0, 8, 1)], [], ([], []))], [], 2, 46, 0)
theorem kh_1110_ok : ct_ok wd_fl2 kh_1110 := ct_of (ff := wd_ff2) (y := (⟨"UtilityWorksModel", "bOwes", "(I)J"⟩, prog_14_method_239_code, 2, some .long, 12, 1, 1, 35142, 35141, 14011, 21014)) (Cs := [kh_1109]) (an := []) (ss := []) (K := 1) (fuel := 4000) wd_fl2_ok rfl (List.forall_mem_cons.mpr ⟨kh_1109_ok, (List.forall_mem_nil _)⟩) (by decide +kernel)
/- UtilityWorksModel cHas -/
def kh_1111 : ct_T := (517, [(2, 805, 805, 0), (0, 6, 6, 0), (0, 0, 8, 1)], [], [], [(1, (0, 0, 1, 1), [(2, 805, 805, 0), (0, 6, 6, 0), (0, 0, 8, 1)], [], ([], []))], [], 1, 21, 0)
theorem kh_1111_ok : ct_ok wd_fl2 kh_1111 := ct_of (ff := wd_ff2) (y := (⟨"UtilityWorksModel", "cHas", "(II)Z"⟩, prog_14_method_276_code, 5, some .boolean, 12, 1, 2, 35126, 35125, 14007, 21014)) (Cs := [kh_cJ0, kh_cJ2, kh_cJ4]) (an := [(5, 0, ([((2, 805, 805, 0), none), ((0, 6, 6, 0), none), ((0, 0, 8, 1), none), ((0, 0, 1, 1), none), ((0, 0, 200, 1), none)], [(0, 0), (1, 1), (2, 2), (3, 3), (4, 4)], [], [], [], [], [], [], none), [(0, 0, 99995), (1, 4, 200), (0, 0, 99995)]), (67, 0, ([((2, 805, 805, 0), none), ((0, 6, 6, 0), none), ((0, 0, 8, 1), none), ((0, 0, 1, 1), none), ((0, 0, 199, 1), none)], [(0, 0), (1, 1), (2, 2), (3, 3), (4, 4)], [], [], [], [], [((806, 806), (2440, 2440, 0), (0, 1, 200, 1))], [], none), [(0, 0, 99995), (1, 4, 200), (0, 0, 99933)]), (71, 0, ([((2, 805, 805, 0), none), ((0, 6, 6, 0), none), ((0, 0, 8, 1), none), ((0, 0, 0, 0), none), ((0, 0, 199, 1), none)], [(0, 0), (1, 1), (2, 2), (3, 3), (4, 4)], [], [], [], [], [((806, 806), (2440, 2440, 0), (0, 1, 200, 1))], [], none), [(0, 0, 99995), (1, 4, 200), (0, 0, 99929)])]) (ss := []) (K := 3) (fuel := 4000) wd_fl2_ok rfl (List.forall_mem_cons.mpr ⟨kh_cJ0_ok, (List.forall_mem_cons.mpr ⟨kh_cJ2_ok, (List.forall_mem_cons.mpr ⟨kh_cJ4_ok, (List.forall_mem_nil _)⟩)⟩)⟩) (by decide +kernel)
/- UtilityWorksModel bNotices -/
def kh_1112 : ct_T := (515, [(2, 805, 805, 0), (0, 0, 8, 1)], [], [510], [(0, (0, 0, 0, 0), [(2, 805, 805, 0), (0, 0, 8, 1)], [], ([510], []))], [((806, 806), (2440, 4047, 1))], 3, 67, 0)
theorem kh_1112_ok : ct_ok wd_fl2 kh_1112 := ct_of (ff := wd_ff2) (y := (⟨"UtilityWorksModel", "bNotices", "(I)V"⟩, prog_14_method_249_code, 2, none, 12, 1, 1, 35115, 35114, 14005, 21014)) (Cs := [kh_1105, kh_rankOf, kh_525, kh_1106, kh_cMay, kh_cAddb, kh_1108, kh_1110, kh_1111]) (an := [(54, 0, ([((2, 805, 805, 0), none), ((0, 0, 8, 1), none)], [(0, 0), (1, 1)], [], [], [], [], [], [510], none), [(0, 0, 99946)]), (98, 0, ([((2, 805, 805, 0), none), ((0, 0, 8, 1), none)], [(0, 0), (1, 1)], [], [], [], [], [], [510], none), [(0, 0, 99902)])]) (ss := []) (K := 1) (fuel := 4000) wd_fl2_ok rfl (List.forall_mem_cons.mpr ⟨kh_1105_ok, (List.forall_mem_cons.mpr ⟨kh_rankOf_l2, (List.forall_mem_cons.mpr ⟨kh_525_l2, (List.forall_mem_cons.mpr ⟨kh_1106_ok, (List.forall_mem_cons.mpr ⟨kh_cMay_ok, (List.forall_mem_cons.mpr ⟨kh_cAddb_ok, (List.forall_mem_cons.mpr ⟨kh_1108_ok, (List.forall_mem_cons.mpr ⟨kh_1110_ok, (List.forall_mem_cons.mpr ⟨kh_1111_ok, (List.forall_mem_nil _)⟩)⟩)⟩)⟩)⟩)⟩)⟩)⟩)⟩) (by decide +kernel)
/- UtilityWorksModel bC -/
def kh_1113 : ct_T := (413, [(0, 0, 9, 1), (0, 1, 1, 0)], [], [], [(1, (0, 1821, 2001, 20), [(0, 0, 9, 1), (0, 1, 1, 0)], [], ([], []))], [], 0, 0, 0)
theorem kh_1113_ok : ct_ok wd_fl2 kh_1113 := ct_of (ff := wd_ff2) (y := (⟨"UtilityWorksModel", "bC", "(II)I"⟩, prog_14_method_227_code, 2, some .int, 12, 0, 2, 33186, 33185, 0, 21014)) (Cs := []) (an := []) (ss := []) (K := 1) (fuel := 4000) wd_fl2_ok rfl (List.forall_mem_nil _) (by decide +kernel)
/- UtilityWorksModel bC -/
def kh_1114 : ct_T := (413, [(0, 0, 9, 1), (0, 2, 2, 0)], [], [], [(1, (0, 1822, 2002, 20), [(0, 0, 9, 1), (0, 2, 2, 0)], [], ([], []))], [], 0, 0, 0)
theorem kh_1114_ok : ct_ok wd_fl2 kh_1114 := ct_of (ff := wd_ff2) (y := (⟨"UtilityWorksModel", "bC", "(II)I"⟩, prog_14_method_227_code, 2, some .int, 12, 0, 2, 33186, 33185, 0, 21014)) (Cs := []) (an := []) (ss := []) (K := 1) (fuel := 4000) wd_fl2_ok rfl (List.forall_mem_nil _) (by decide +kernel)
/- UtilityWorksModel bDue -/
def kh_1115 : ct_T := (504, [(2, 805, 805, 0), (0, 0, 9, 1), (0, 0, 214748364, 1)], [], [], [(1, (1, (-9223372036854775808), 9223372036854775807, 1), [(2, 805, 805, 0), (0, 0, 9, 1), (0, 0, 214748364, 1)], [], ([], []))], [], 0, 0, 0)
theorem kh_1115_ok : ct_ok wd_fl2 kh_1115 := ct_of (ff := wd_ff2) (y := (⟨"UtilityWorksModel", "bDue", "(II)J"⟩, prog_14_method_242_code, 3, some .long, 12, 1, 2, 35069, 35068, 13011, 21014)) (Cs := []) (an := []) (ss := []) (K := 1) (fuel := 4000) wd_fl2_ok rfl (List.forall_mem_nil _) (by decide +kernel)
/- UtilityWorksModel bC -/
def kh_1116 : ct_T := (413, [(0, 0, 9, 1), (0, 3, 3, 0)], [], [], [(1, (0, 1823, 2003, 20), [(0, 0, 9, 1), (0, 3, 3, 0)], [], ([], []))], [], 0, 0, 0)
theorem kh_1116_ok : ct_ok wd_fl2 kh_1116 := ct_of (ff := wd_ff2) (y := (⟨"UtilityWorksModel", "bC", "(II)I"⟩, prog_14_method_227_code, 2, some .int, 12, 0, 2, 33186, 33185, 0, 21014)) (Cs := []) (an := []) (ss := []) (K := 1) (fuel := 4000) wd_fl2_ok rfl (List.forall_mem_nil _) (by decide +kernel)
/- UtilityWorksModel bEndPlan -/
def kh_1117 : ct_T := (505, [(2, 805, 805, 0), (0, 0, 9, 1)], [], [], [(0, (0, 0, 0, 0), [(2, 805, 805, 0), (0, 0, 9, 1)], [], ([], []))], [((806, 806), (1821, 2001, 20)), ((806, 806), (1822, 2002, 20)), ((807, 807), (2830, 2839, 1)), ((807, 807), (2840, 2849, 1)), ((807, 807), (2850, 2859, 1))], 1, 21, 0)
theorem kh_1117_ok : ct_ok wd_fl2 kh_1117 := ct_of (ff := wd_ff2) (y := (⟨"UtilityWorksModel", "bEndPlan", "(I)V"⟩, prog_14_method_241_code, 2, none, 12, 1, 1, 35073, 35072, 13012, 21014)) (Cs := [kh_1113, kh_1114]) (an := []) (ss := []) (K := 1) (fuel := 4000) wd_fl2_ok rfl (List.forall_mem_cons.mpr ⟨kh_1113_ok, (List.forall_mem_cons.mpr ⟨kh_1114_ok, (List.forall_mem_nil _)⟩)⟩) (by decide +kernel)
/- UtilityWorksModel bPlanDay -/
def kh_1118 : ct_T := (503, [(2, 805, 805, 0), (0, 0, 9, 1)], [], [], [(0, (0, 0, 0, 0), [(2, 805, 805, 0), (0, 0, 9, 1)], [], ([], []))], [((806, 806), (1821, 2001, 20)), ((806, 806), (1822, 2002, 20)), ((806, 806), (1823, 2003, 20)), ((807, 807), (2830, 2839, 1)), ((807, 807), (2840, 2849, 1)), ((807, 807), (2850, 2859, 1))], 2, 42, 0)
theorem kh_1118_ok : ct_ok wd_fl2 kh_1118 := ct_of (ff := wd_ff2) (y := (⟨"UtilityWorksModel", "bPlanDay", "(I)V"⟩, prog_14_method_243_code, 4, none, 12, 1, 1, 35065, 35064, 13010, 21014)) (Cs := [kh_1113, kh_day, kh_1114, kh_1115, kh_1116, kh_1117]) (an := [(92, 0, ([((2, 805, 805, 0), none), ((0, 0, 9, 1), none), ((0, 0, 6, 1), none), ((0, (-2147483648), 2147483647, 1), none)], [(0, 0), (1, 1), (2, 2), (3, 3)], [], [], [], [], [], [], none), [(0, 0, 99908)])]) (ss := []) (K := 1) (fuel := 4000) wd_fl2_ok rfl (List.forall_mem_cons.mpr ⟨kh_1113_ok, (List.forall_mem_cons.mpr ⟨kh_day_ok, (List.forall_mem_cons.mpr ⟨kh_1114_ok, (List.forall_mem_cons.mpr ⟨kh_1115_ok, (List.forall_mem_cons.mpr ⟨kh_1116_ok, (List.forall_mem_cons.mpr ⟨kh_1117_ok, (List.forall_mem_nil _)⟩)⟩)⟩)⟩)⟩)⟩) (by decide +kernel)
/- UtilityWorksModel bInterest -/
def kh_1119 : ct_T := (506, [(2, 805, 805, 0), (0, 0, 9, 1)], [], [], [(0, (0, 0, 0, 0), [(2, 805, 805, 0), (0, 0, 9, 1)], [], ([], []))], [((807, 807), (107, 2811, 8)), ((807, 807), (2862, 2862, 0))], 1, 22, 0)
theorem kh_1119_ok : ct_ok wd_fl2 kh_1119 := ct_of (ff := wd_ff2) (y := (⟨"UtilityWorksModel", "bInterest", "(I)V"⟩, prog_14_method_244_code, 5, none, 12, 1, 1, 35077, 35076, 13013, 21014)) (Cs := [kh_724, kh_725]) (an := [(2, 0, ([((2, 805, 805, 0), none), ((0, 0, 9, 1), none), ((0, 0, 33, 1), none)], [(0, 0), (1, 1), (2, 2)], [], [], [], [], [], [], none), [(0, 0, 99998), (1, 2, 33), (0, 0, 99998)])]) (ss := []) (K := 3) (fuel := 4000) wd_fl2_ok rfl (List.forall_mem_cons.mpr ⟨kh_724_ok, (List.forall_mem_cons.mpr ⟨kh_725_ok, (List.forall_mem_nil _)⟩)⟩) (by decide +kernel)
/- UtilityWorksModel bB -/
def kh_1120 : ct_T := (507, [(0, 0, 9, 1), (0, 0, 32, 1), (0, 0, 0, 0)], [], [], [(1, (0, 100, 2804, 8), [(0, 0, 9, 1), (0, 0, 32, 1), (0, 0, 0, 0)], [], ([], []))], [], 0, 0, 0)
theorem kh_1120_ok : ct_ok wd_fl2 kh_1120 := ct_of (ff := wd_ff2) (y := (⟨"UtilityWorksModel", "bB", "(III)I"⟩, prog_14_method_228_code, 3, some .int, 12, 0, 3, 35080, 35079, 0, 21014)) (Cs := []) (an := []) (ss := []) (K := 1) (fuel := 4000) wd_fl2_ok rfl (List.forall_mem_nil _) (by decide +kernel)
/- UtilityWorksModel bNotice -/
def kh_1121 : ct_T := (516, [(2, 805, 805, 0), (0, 0, 9, 1)], [], [], [(1, (0, 0, 0, 0), [(2, 805, 805, 0), (0, 0, 9, 1)], [], ([], [])), (1, (0, 1, 1, 0), [(2, 805, 805, 0), (0, 0, 9, 1)], [], ([], [])), (1, (0, 2, 3, 1), [(2, 805, 805, 0), (0, 0, 9, 1)], [], ([], []))], [], 1, 22, 0)
theorem kh_1121_ok : ct_ok wd_fl2 kh_1121 := ct_of (ff := wd_ff2) (y := (⟨"UtilityWorksModel", "bNotice", "(I)I"⟩, prog_14_method_248_code, 5, some .int, 12, 1, 1, 35119, 35118, 14006, 21014)) (Cs := [kh_724, kh_1113, kh_day, kh_1120, kh_725]) (an := [(15, 0, ([((2, 805, 805, 0), none), ((0, 0, 9, 1), none), ((0, (-1), 32, 1), none), ((0, (-1), 32, 1), none)], [(0, 0), (1, 1), (2, 2), (3, 3)], [], [], [], [], [], [], none), [(0, 0, 99985), (2, 3, (-1)), (0, 0, 99985)]), (66, 0, ([((2, 805, 805, 0), none), ((0, 0, 9, 1), none), ((0, (-1), 32, 1), none), ((0, (-1), (-1), 1), none)], [(0, 0), (1, 1), (2, 2), (3, 3)], [], [], [], [], [], [], none), [(0, 0, 99934), (0, 0, 0), (0, 0, 0)])]) (ss := []) (K := 3) (fuel := 4000) wd_fl2_ok rfl (List.forall_mem_cons.mpr ⟨kh_724_ok, (List.forall_mem_cons.mpr ⟨kh_1113_ok, (List.forall_mem_cons.mpr ⟨kh_day_ok, (List.forall_mem_cons.mpr ⟨kh_1120_ok, (List.forall_mem_cons.mpr ⟨kh_725_ok, (List.forall_mem_nil _)⟩)⟩)⟩)⟩)⟩) (by decide +kernel)
/- UtilityWorksModel cHas -/
def kh_1122 : ct_T := (517, [(2, 805, 805, 0), (0, 5, 5, 0), (0, 0, 9, 1)], [], [], [(1, (0, 0, 1, 1), [(2, 805, 805, 0), (0, 5, 5, 0), (0, 0, 9, 1)], [], ([], []))], [], 1, 21, 0)
theorem kh_1122_ok : ct_ok wd_fl2 kh_1122 := ct_of (ff := wd_ff2) (y := (⟨"UtilityWorksModel", "cHas", "(II)Z"⟩, prog_14_method_276_code, 5, some .boolean, 12, 1, 2, 35126, 35125, 14007, 21014)) (Cs := [kh_cJ0, kh_cJ2, kh_cJ4]) (an := [(5, 0, ([((2, 805, 805, 0), none), ((0, 5, 5, 0), none), ((0, 0, 9, 1), none), ((0, 0, 1, 1), none), ((0, 0, 200, 1), none)], [(0, 0), (1, 1), (2, 2), (3, 3), (4, 4)], [], [], [], [], [], [], none), [(0, 0, 99995), (1, 4, 200), (0, 0, 99995)]), (67, 0, ([((2, 805, 805, 0), none), ((0, 5, 5, 0), none), ((0, 0, 9, 1), none), ((0, 0, 1, 1), none), ((0, 0, 199, 1), none)], [(0, 0), (1, 1), (2, 2), (3, 3), (4, 4)], [], [], [], [], [((806, 806), (2440, 2440, 0), (0, 1, 200, 1))], [], none), [(0, 0, 99995), (1, 4, 200), (0, 0, 99933)]), (71, 0, ([((2, 805, 805, 0), none), ((0, 5, 5, 0), none), ((0, 0, 9, 1), none), ((0, 0, 0, 0), none), ((0, 0, 199, 1), none)], [(0, 0), (1, 1), (2, 2), (3, 3), (4, 4)], [], [], [], [], [((806, 806), (2440, 2440, 0), (0, 1, 200, 1))], [], none), [(0, 0, 99995), (1, 4, 200), (0, 0, 99929)])]) (ss := []) (K := 3) (fuel := 4000) wd_fl2_ok rfl (List.forall_mem_cons.mpr ⟨kh_cJ0_ok, (List.forall_mem_cons.mpr ⟨kh_cJ2_ok, (List.forall_mem_cons.mpr ⟨kh_cJ4_ok, (List.forall_mem_nil _)⟩)⟩)⟩) (by decide +kernel)
/- UtilityWorksModel bCutFrom -/
def kh_1123 : ct_T := (412, [(2, 805, 805, 0), (0, 0, 9, 1)], [], [], [(1, (0, (-2147483648), 2147483647, 1), [(2, 805, 805, 0), (0, 0, 9, 1)], [], ([], []))], [], 1, 21, 0)
theorem kh_1123_ok : ct_ok wd_fl2 kh_1123 := ct_of (ff := wd_ff2) (y := (⟨"UtilityWorksModel", "bCutFrom", "(I)I"⟩, prog_14_method_235_code, 2, some .int, 12, 1, 1, 33183, 33182, 8001, 21014)) (Cs := [kh_617]) (an := []) (ss := []) (K := 1) (fuel := 4000) wd_fl2_ok rfl (List.forall_mem_cons.mpr ⟨kh_617_ok, (List.forall_mem_nil _)⟩) (by decide +kernel)
/- UtilityWorksModel bOpen -/
def kh_1124 : ct_T := (522, [(2, 805, 805, 0), (0, 0, 9, 1)], [], [], [(1, (1, (-9223372036854775808), 9223372036854775807, 1), [(2, 805, 805, 0), (0, 0, 9, 1)], [], ([], []))], [], 1, 22, 0)
theorem kh_1124_ok : ct_ok wd_fl2 kh_1124 := ct_of (ff := wd_ff2) (y := (⟨"UtilityWorksModel", "bOpen", "(I)J"⟩, prog_14_method_238_code, 5, some .long, 12, 1, 1, 35146, 35145, 14012, 21014)) (Cs := [kh_724, kh_725]) (an := [(5, 0, ([((2, 805, 805, 0), none), ((0, 0, 9, 1), none), ((1, (-9223372036854775808), 9223372036854775807, 1), none), ((0, 0, 33, 1), none)], [(0, 0), (1, 1), (2, 2), (4, 3)], [], [], [], [], [], [], none), [(0, 0, 99995), (1, 3, 33), (0, 0, 99995)])]) (ss := []) (K := 3) (fuel := 4000) wd_fl2_ok rfl (List.forall_mem_cons.mpr ⟨kh_724_ok, (List.forall_mem_cons.mpr ⟨kh_725_ok, (List.forall_mem_nil _)⟩)⟩) (by decide +kernel)
/- UtilityWorksModel bOwes -/
def kh_1125 : ct_T := (521, [(2, 805, 805, 0), (0, 0, 9, 1)], [], [], [(1, (1, (-9223372036854775808), 9223372036854775807, 1), [(2, 805, 805, 0), (0, 0, 9, 1)], [], ([], []))], [], 2, 46, 0)
theorem kh_1125_ok : ct_ok wd_fl2 kh_1125 := ct_of (ff := wd_ff2) (y := (⟨"UtilityWorksModel", "bOwes", "(I)J"⟩, prog_14_method_239_code, 2, some .long, 12, 1, 1, 35142, 35141, 14011, 21014)) (Cs := [kh_1124]) (an := []) (ss := []) (K := 1) (fuel := 4000) wd_fl2_ok rfl (List.forall_mem_cons.mpr ⟨kh_1124_ok, (List.forall_mem_nil _)⟩) (by decide +kernel)
/- UtilityWorksModel cHas -/
def kh_1126 : ct_T := (517, [(2, 805, 805, 0), (0, 6, 6, 0), (0, 0, 9, 1)], [], [], [(1, (0, 0, 1, 1), [(2, 805, 805, 0), (0, 6, 6, 0), (0, 0, 9, 1)], [], ([], []))], [], 1, 21, 0)
theorem kh_1126_ok : ct_ok wd_fl2 kh_1126 := ct_of (ff := wd_ff2) (y := (⟨"UtilityWorksModel", "cHas", "(II)Z"⟩, prog_14_method_276_code, 5, some .boolean, 12, 1, 2, 35126, 35125, 14007, 21014)) (Cs := [kh_cJ0, kh_cJ2, kh_cJ4]) (an := [(5, 0, ([((2, 805, 805, 0), none), ((0, 6, 6, 0), none), ((0, 0, 9, 1), none), ((0, 0, 1, 1), none), ((0, 0, 200, 1), none)], [(0, 0), (1, 1), (2, 2), (3, 3), (4, 4)], [], [], [], [], [], [], none), [(0, 0, 99995), (1, 4, 200), (0, 0, 99995)]), (67, 0, ([((2, 805, 805, 0), none), ((0, 6, 6, 0), none), ((0, 0, 9, 1), none), ((0, 0, 1, 1), none), ((0, 0, 199, 1), none)], [(0, 0), (1, 1), (2, 2), (3, 3), (4, 4)], [], [], [], [], [((806, 806), (2440, 2440, 0), (0, 1, 200, 1))], [], none), [(0, 0, 99995), (1, 4, 200), (0, 0, 99933)]), (71, 0, ([((2, 805, 805, 0), none), ((0, 6, 6, 0), none), ((0, 0, 9, 1), none), ((0, 0, 0, 0), none), ((0, 0, 199, 1), none)], [(0, 0), (1, 1), (2, 2), (3, 3), (4, 4)], [], [], [], [], [((806, 806), (2440, 2440, 0), (0, 1, 200, 1))], [], none), [(0, 0, 99995), (1, 4, 200), (0, 0, 99929)])]) (ss := []) (K := 3) (fuel := 4000) wd_fl2_ok rfl (List.forall_mem_cons.mpr ⟨kh_cJ0_ok, (List.forall_mem_cons.mpr ⟨kh_cJ2_ok, (List.forall_mem_cons.mpr ⟨kh_cJ4_ok, (List.forall_mem_nil _)⟩)⟩)⟩) (by decide +kernel)
/- UtilityWorksModel bNotices -/
def kh_1127 : ct_T := (515, [(2, 805, 805, 0), (0, 0, 9, 1)], [], [510], [(0, (0, 0, 0, 0), [(2, 805, 805, 0), (0, 0, 9, 1)], [], ([510], []))], [((806, 806), (2440, 4047, 1))], 3, 67, 0)
theorem kh_1127_ok : ct_ok wd_fl2 kh_1127 := ct_of (ff := wd_ff2) (y := (⟨"UtilityWorksModel", "bNotices", "(I)V"⟩, prog_14_method_249_code, 2, none, 12, 1, 1, 35115, 35114, 14005, 21014)) (Cs := [kh_1121, kh_rankOf, kh_396, kh_1122, kh_cMay, kh_cAddb, kh_1123, kh_1125, kh_1126]) (an := [(54, 0, ([((2, 805, 805, 0), none), ((0, 0, 9, 1), none)], [(0, 0), (1, 1)], [], [], [], [], [], [510], none), [(0, 0, 99946)]), (98, 0, ([((2, 805, 805, 0), none), ((0, 0, 9, 1), none)], [(0, 0), (1, 1)], [], [], [], [], [], [510], none), [(0, 0, 99902)])]) (ss := []) (K := 1) (fuel := 4000) wd_fl2_ok rfl (List.forall_mem_cons.mpr ⟨kh_1121_ok, (List.forall_mem_cons.mpr ⟨kh_rankOf_l2, (List.forall_mem_cons.mpr ⟨kh_396_l2, (List.forall_mem_cons.mpr ⟨kh_1122_ok, (List.forall_mem_cons.mpr ⟨kh_cMay_ok, (List.forall_mem_cons.mpr ⟨kh_cAddb_ok, (List.forall_mem_cons.mpr ⟨kh_1123_ok, (List.forall_mem_cons.mpr ⟨kh_1125_ok, (List.forall_mem_cons.mpr ⟨kh_1126_ok, (List.forall_mem_nil _)⟩)⟩)⟩)⟩)⟩)⟩)⟩)⟩)⟩) (by decide +kernel)
abbrev kh_booksDay_y : mt_T := (⟨"UtilityWorksModel", "booksDay", "()V"⟩, prog_14_method_250_code, 2, none, 12, 1, 0, 35061, 35060, 13009, 21014)
def kh_booksDay : ct_T := (502, [(2, 805, 805, 0)], [], [510, 515], [(0, (0, 0, 0, 0), [(2, 805, 805, 0)], [], ([510, 516], []))], [((805, 805), (65, 65, 0)), ((806, 806), (1464, 2014, 1)), ((806, 806), (2440, 4047, 1)), ((807, 807), (100, 2864, 1)), ((859, 859), (0, 2, 1))], 6, 148, 0)
def kh_booksDay_a2 : an_T := (2, 0, ([((2, 805, 805, 0), none), ((0, 0, 10, 1), none)], [(0, 0), (1, 1)], [], [], [], [], [], [510], none), [])
def kh_booksDay_a19 : an_T := (19, 0, ([((2, 805, 805, 0), none), ((0, 0, 9, 1), none)], [(0, 0), (1, 1)], [], [], [], [], [], [510], none), [])
def kh_booksDay_a38 : an_T := (38, 0, ([((2, 805, 805, 0), none), ((0, 0, 9, 1), none), ((0, 0, 9, 1), none)], [(0, 0), (1, 1)], [2, 0], [], [], [], [], [510], none), [])
def kh_booksDay_a41 : an_T := (41, 0, ([((2, 805, 805, 0), none), ((0, 0, 9, 1), none)], [(0, 0), (1, 1)], [], [], [], [], [], [510], none), [])
def kh_booksDay_b0_0 : sg_T := (2, 0, ([((2, 805, 805, 0), none), ((0, 0, 0, 0), none)], [(1, 1), (0, 0)], [], [], [], [], [], [510, 515], some []))
def kh_booksDay_b2_0 : sg_T := (52, 0, ([((2, 805, 805, 0), none), ((0, 6, 10, 1), none), ((2, 806, 806, 1), none), ((0, 1300, 1300, 0), none), ((0, 6, 10, 1), none)], [(0, 0), (1, 1)], [], [(2, 3, 4)], [], [(200000, 4, 1), (800004, 2, 3)], [], [510], some []))
def kh_booksDay_b2_1 : sg_T := (19, 0, ([((2, 805, 805, 0), none), ((0, 0, 9, 1), none), ((2, 806, 806, 1), none), ((0, 1300, 1300, 0), none), ((0, 6, 10, 1), none)], [(0, 0), (1, 1)], [], [(2, 3, 4)], [], [(100000, 1, 4), (800004, 2, 3)], [], [510], none))
def kh_booksDay_b19_0 : sg_T := (41, 0, ([((2, 805, 805, 0), none), ((0, 0, 9, 1), none), ((0, 0, 999, 1), none), ((0, 30, 30, 0), none), ((0, 0, 28, 1), none), ((0, 29, 29, 0), none)], [(0, 0), (1, 1)], [], [], [(4, 29)], [(400000, 4, 5), (900200004, 2, 3), (103300002, 0, 0)], [], [510], some []))
def kh_booksDay_b19_1 : sg_T := (38, 0, ([((2, 805, 805, 0), none), ((0, 0, 9, 1), none), ((0, 0, 999, 1), none), ((0, 30, 30, 0), none), ((0, 29, 29, 1), none), ((0, 29, 29, 0), none)], [(0, 0), (1, 1)], [1, 0], [], [], [(300000, 4, 5), (900200004, 2, 3), (103300002, 0, 0)], [], [510], none))
def kh_booksDay_b38_0 : sg_T := (41, 0, ([((2, 805, 805, 0), none), ((0, 0, 9, 1), none), ((0, 0, 9, 1), none)], [(0, 0), (1, 1)], [], [], [], [], [], [510], none))
def kh_booksDay_b41_0 : sg_T := (2, 0, ([((2, 805, 805, 0), none), ((0, 0, 9, 1), none), ((0, 1, 10, 1), some (1, 1))], [(1, 2), (0, 0)], [], [], [], [], [], [510], none))
def kh_booksDay_I (l : Launch) (D : va_G) (tc : Nat → ClassId) (ad : Nat → Nat) (kd : Nat → Nat × Nat) (N : Nat) (sm : Nat → Nat) (xs : List av_X) (S : fw_S) (p : Program) (e : Env) (s : State) (m : MethodId) (args : Array Value) (below : List Frame) (meth : Method) (c : Code) (sz : Nat) (k : Nat) : Prop := (∀ (α : List av_X) (lv : List (Nat × Value)) (st : List Value) (S1 : fw_S), as_in ad sm wd_fl2 xs S kh_booksDay.2.2.2.2.2.1 α kh_booksDay_a2.2.2.1 lv st S1 → ((∀ c' : Nat, c' < 10 → 30 * (S1.1 806 (1820 + 20 * c')).toInt ≤ (S1.1 806 0).toInt + (if (c' : Int) < nv α 1 then 1 else 0))) → (11 - nv α 1).toNat * 10 + 9 < k → hd_W wd_fl2 kh_booksDay kh_booksDay_y l D tc ad kd N sm xs S p e s m args below meth c sz 2 lv st S1 0) ∧ (∀ (α : List av_X) (lv : List (Nat × Value)) (st : List Value) (S1 : fw_S), as_in ad sm wd_fl2 xs S kh_booksDay.2.2.2.2.2.1 α kh_booksDay_a19.2.2.1 lv st S1 → ((∀ c' : Nat, c' < 10 → 30 * (S1.1 806 (1820 + 20 * c')).toInt ≤ (S1.1 806 0).toInt + (if (c' : Int) < nv α 1 then 1 else 0))) → (11 - nv α 1).toNat * 10 + 8 < k → hd_W wd_fl2 kh_booksDay kh_booksDay_y l D tc ad kd N sm xs S p e s m args below meth c sz 19 lv st S1 0) ∧ (∀ (α : List av_X) (lv : List (Nat × Value)) (st : List Value) (S1 : fw_S), as_in ad sm wd_fl2 xs S kh_booksDay.2.2.2.2.2.1 α kh_booksDay_a38.2.2.1 lv st S1 → ((∀ c' : Nat, c' < 10 → 30 * (S1.1 806 (1820 + 20 * c')).toInt ≤ (S1.1 806 0).toInt + (if (c' : Int) < nv α 1 then 1 else 0)) ∧ nv α 2 = nv α 1 ∧ (S1.1 806 0).toInt % 30 = 29) → (11 - nv α 1).toNat * 10 + 7 < k → hd_W wd_fl2 kh_booksDay kh_booksDay_y l D tc ad kd N sm xs S p e s m args below meth c sz 38 lv st S1 0) ∧ (∀ (α : List av_X) (lv : List (Nat × Value)) (st : List Value) (S1 : fw_S), as_in ad sm wd_fl2 xs S kh_booksDay.2.2.2.2.2.1 α kh_booksDay_a41.2.2.1 lv st S1 → ((∀ c' : Nat, c' < 10 → 30 * (S1.1 806 (1820 + 20 * c')).toInt ≤ (S1.1 806 0).toInt + (if (c' : Int) < nv α 1 + 1 then 1 else 0))) → (11 - nv α 1).toNat * 10 + 6 < k → hd_W wd_fl2 kh_booksDay kh_booksDay_y l D tc ad kd N sm xs S p e s m args below meth c sz 41 lv st S1 0) ∧ True
set_option maxHeartbeats 16000000 in
set_option maxRecDepth 8000 in
theorem kh_booksDay_h2 {l : Launch} {D : va_G} {tc : Nat → ClassId} {ad : Nat → Nat} {kd : Nat → Nat × Nat} {N : Nat} {sm : Nat → Nat} {xs : List av_X} {S : fw_S} {p : Program} {e : Env} {s : State} {m : MethodId} {args : Array Value} {below : List Frame} {meth : Method} {c : Code} {sz : Nat} {lvE : List (Nat × Value)} (G : hd_C wd_ff2 wd_fl2 kh_booksDay [kh_957, kh_day, kh_959, kh_968, kh_974, kh_977, kh_986, kh_992, kh_995, kh_1004, kh_1010, kh_1013, kh_1022, kh_1028, kh_1031, kh_1040, kh_1046, kh_1049, kh_1058, kh_1064, kh_1067, kh_1076, kh_1082, kh_1085, kh_1094, kh_1100, kh_1103, kh_1112, kh_1118, kh_1119, kh_1127] kh_booksDay_y D tc ad kd N sm xs p s m args meth c sz) (H0 : as_in ad sm wd_fl2 xs S kh_booksDay.2.2.2.2.2.1 xs (hd_0 kh_booksDay) lvE [] S) {k : Nat} (ih : kh_booksDay_I l D tc ad kd N sm xs S p e s m args below meth c sz k) : (∀ (α : List av_X) (lv : List (Nat × Value)) (st : List Value) (S1 : fw_S), as_in ad sm wd_fl2 xs S kh_booksDay.2.2.2.2.2.1 α kh_booksDay_a2.2.2.1 lv st S1 → ((∀ c' : Nat, c' < 10 → 30 * (S1.1 806 (1820 + 20 * c')).toInt ≤ (S1.1 806 0).toInt + (if (c' : Int) < nv α 1 then 1 else 0))) → (11 - nv α 1).toNat * 10 + 9 < k + 1 → hd_W wd_fl2 kh_booksDay kh_booksDay_y l D tc ad kd N sm xs S p e s m args below meth c sz 2 lv st S1 0) := by
  have hx : xs.length = 1 := by rw [H0.2.1.1]; rfl
  have q515 : blF (S.1 806) 0 := by
    have h := H0.2.2.2.2.2.2.2.2.1 515 (by decide +kernel)
    rw [wd_fl2, if_neg (by decide)] at h
    exact h
  intro α lv st S1 H hp hk
  obtain ⟨α1, hle, Hr⟩ := as_recM (pl := []) [((806, 806), (1821, 2001, 20)), ((806, 806), (1822, 2002, 20)), ((806, 806), (1823, 2003, 20)), ((807, 807), (2830, 2839, 1)), ((807, 807), (2840, 2849, 1)), ((807, 807), (2850, 2859, 1))] (by decide +kernel) H
  have hf := H.2.2.2.2.2.2.2.2.2.2.1
  have hl1 : α1.length = 2 := by rw [Hr.2.1.1]; rfl
  have hl0 : α.length = 2 := by rw [H.2.1.1]; rfl
  have hxa : al_le xs α1 := H.1.trans hle
  obtain ⟨g1, -, g3, g4, -⟩ := as_fx Hr
  have g0 : (805 ≤ nv α1 0 ∧ nv α1 0 ≤ 805) ∧ (0 ≤ nv α1 1 ∧ nv α1 1 ≤ 10) ∧ True := by
    refine ⟨by have h := (en_nv (i := 0) Hr.2.1 rfl).2; exact h, by have h := (en_nv (i := 1) Hr.2.1 rfl).2; exact h, trivial⟩
  have r0 : nv α1 0 = nv α 0 := nv_le hle (by omega)
  have r1 : nv α1 1 = nv α 1 := nv_le hle (by omega)
  refine hd_segM G (na := 2) (fuel := 600) (first := true) (Bs := [kh_booksDay_b2_0, kh_booksDay_b2_1]) (by decide +kernel) hl1 Hr ?_
  intro q hq β lv' st' S' H1
  simp only [List.mem_cons, List.not_mem_nil, or_false] at hq
  rcases hq with rfl | rfl
  · obtain ⟨f1, f2, f3, f4, f5⟩ := as_fx H1
    simp only [kh_booksDay_b2_0, fx_env, fx_c, fx_ne, fx_hf, wl_S, Nat.zero_add, Nat.reduceAdd, Nat.reduceDiv, Nat.reduceMod, List.getElem?_cons_zero, List.getElem?_cons_succ, if_true, and_true, true_and] at f1 f2 f3 f4 f5
    have fe0 : nv β 0 = 805 := by omega
    have fe2 : nv β 2 = 806 := by omega
    have fe3 : nv β 3 = 1300 := by omega
    try simp only [fe0, fe2, fe3, Int.reduceToNat] at f2 f3 f4 f5
    have s0 : nv β 0 = nv α1 0 := nv_le H1.1 (by omega)
    have s1 : nv β 1 = nv α1 1 := nv_le H1.1 (by omega)
    obtain ⟨c0, c1⟩ := f2
    have o1 := old_0 c1 rfl
    have hb : blF (S'.1 806) 1 := by
      intro c' hc'
      have h := hp c' hc'
      rw [f5]
      split at h <;> omega
    exact hd_run G (ss := []) (fuel := 20) (by decide +kernel) (as_fl_in (f := [516]) (as_backM H1 (by decide +kernel) hxa hf) (fun g hg' => by
      rcases List.mem_singleton.mp hg' with rfl
      rw [wd_fl2, if_neg (by decide)]
      exact hb))
  · obtain ⟨f1, f2, f3, f4, f5⟩ := as_fx H1
    simp only [kh_booksDay_b2_1, fx_env, fx_c, fx_ne, fx_hf, wl_S, Nat.zero_add, Nat.reduceAdd, Nat.reduceDiv, Nat.reduceMod, List.getElem?_cons_zero, List.getElem?_cons_succ, if_true, and_true, true_and] at f1 f2 f3 f4 f5
    have fe0 : nv β 0 = 805 := by omega
    have fe2 : nv β 2 = 806 := by omega
    have fe3 : nv β 3 = 1300 := by omega
    try simp only [fe0, fe2, fe3, Int.reduceToNat] at f2 f3 f4 f5
    have s0 : nv β 0 = nv α1 0 := nv_le H1.1 (by omega)
    have s1 : nv β 1 = nv α1 1 := nv_le H1.1 (by omega)
    obtain ⟨c0, c1⟩ := f2
    obtain ⟨α', Ha, hm⟩ := hd_gpM (q := kh_booksDay_a19) (n := 0) (by decide +kernel) hx H1 (by decide +kernel) hxa hf
    have hfr := H1.2.2.2.2.2.2.2.2.2.2.1
    have m0 : nv α' 0 = nv β 0 := hm 0 0 rfl
    have m1 : nv α' 1 = nv β 1 := hm 1 1 rfl
    have eb := fun c hc => bl_fr hfr (by decide +kernel) c hc
    have e0 := fr_pl hfr 806 0 (by decide +kernel)
    refine ih.2.1 _ _ _ _ Ha ?_ ?_
    · rw [m1, s1, r1]
      intro c' hc'
      rw [eb c' hc', e0]
      exact hp c' hc'
    · omega
set_option maxHeartbeats 16000000 in
set_option maxRecDepth 8000 in
theorem kh_booksDay_h19 {l : Launch} {D : va_G} {tc : Nat → ClassId} {ad : Nat → Nat} {kd : Nat → Nat × Nat} {N : Nat} {sm : Nat → Nat} {xs : List av_X} {S : fw_S} {p : Program} {e : Env} {s : State} {m : MethodId} {args : Array Value} {below : List Frame} {meth : Method} {c : Code} {sz : Nat} {lvE : List (Nat × Value)} (G : hd_C wd_ff2 wd_fl2 kh_booksDay [kh_957, kh_day, kh_959, kh_968, kh_974, kh_977, kh_986, kh_992, kh_995, kh_1004, kh_1010, kh_1013, kh_1022, kh_1028, kh_1031, kh_1040, kh_1046, kh_1049, kh_1058, kh_1064, kh_1067, kh_1076, kh_1082, kh_1085, kh_1094, kh_1100, kh_1103, kh_1112, kh_1118, kh_1119, kh_1127] kh_booksDay_y D tc ad kd N sm xs p s m args meth c sz) (H0 : as_in ad sm wd_fl2 xs S kh_booksDay.2.2.2.2.2.1 xs (hd_0 kh_booksDay) lvE [] S) {k : Nat} (ih : kh_booksDay_I l D tc ad kd N sm xs S p e s m args below meth c sz k) : (∀ (α : List av_X) (lv : List (Nat × Value)) (st : List Value) (S1 : fw_S), as_in ad sm wd_fl2 xs S kh_booksDay.2.2.2.2.2.1 α kh_booksDay_a19.2.2.1 lv st S1 → ((∀ c' : Nat, c' < 10 → 30 * (S1.1 806 (1820 + 20 * c')).toInt ≤ (S1.1 806 0).toInt + (if (c' : Int) < nv α 1 then 1 else 0))) → (11 - nv α 1).toNat * 10 + 8 < k + 1 → hd_W wd_fl2 kh_booksDay kh_booksDay_y l D tc ad kd N sm xs S p e s m args below meth c sz 19 lv st S1 0) := by
  have hx : xs.length = 1 := by rw [H0.2.1.1]; rfl
  have q515 : blF (S.1 806) 0 := by
    have h := H0.2.2.2.2.2.2.2.2.1 515 (by decide +kernel)
    rw [wd_fl2, if_neg (by decide)] at h
    exact h
  intro α lv st S1 H hp hk
  obtain ⟨α1, hle, Hr⟩ := as_recM (pl := []) [((807, 807), (107, 2811, 8)), ((807, 807), (2862, 2862, 0))] (by decide +kernel) H
  have hf := H.2.2.2.2.2.2.2.2.2.2.1
  have hl1 : α1.length = 2 := by rw [Hr.2.1.1]; rfl
  have hl0 : α.length = 2 := by rw [H.2.1.1]; rfl
  have hxa : al_le xs α1 := H.1.trans hle
  obtain ⟨g1, -, g3, g4, -⟩ := as_fx Hr
  have g0 : (805 ≤ nv α1 0 ∧ nv α1 0 ≤ 805) ∧ (0 ≤ nv α1 1 ∧ nv α1 1 ≤ 9) ∧ True := by
    refine ⟨by have h := (en_nv (i := 0) Hr.2.1 rfl).2; exact h, by have h := (en_nv (i := 1) Hr.2.1 rfl).2; exact h, trivial⟩
  have r0 : nv α1 0 = nv α 0 := nv_le hle (by omega)
  have r1 : nv α1 1 = nv α 1 := nv_le hle (by omega)
  refine hd_segM G (na := 2) (fuel := 600) (first := true) (Bs := [kh_booksDay_b19_0, kh_booksDay_b19_1]) (by decide +kernel) hl1 Hr ?_
  intro q hq β lv' st' S' H1
  simp only [List.mem_cons, List.not_mem_nil, or_false] at hq
  rcases hq with rfl | rfl
  · obtain ⟨f1, f2, f3, f4, f5⟩ := as_fx H1
    simp only [kh_booksDay_b19_0, fx_env, fx_c, fx_ne, fx_hf, wl_S, Nat.zero_add, Nat.reduceAdd, Nat.reduceDiv, Nat.reduceMod, List.getElem?_cons_zero, List.getElem?_cons_succ, if_true, and_true, true_and] at f1 f2 f3 f4 f5
    have fe0 : nv β 0 = 805 := by omega
    have fe3 : nv β 3 = 30 := by omega
    have fe5 : nv β 5 = 29 := by omega
    try simp only [fe0, fe3, fe5, Int.reduceToNat] at f2 f3 f4 f5
    have s0 : nv β 0 = nv α1 0 := nv_le H1.1 (by omega)
    have s1 : nv β 1 = nv α1 1 := nv_le H1.1 (by omega)
    obtain ⟨c0, c1, c2⟩ := f2
    obtain ⟨α', Ha, hm⟩ := hd_gpM (q := kh_booksDay_a41) (n := 0) (by decide +kernel) hx H1 (by decide +kernel) hxa hf
    have hfr := H1.2.2.2.2.2.2.2.2.2.2.1
    have m0 : nv α' 0 = nv β 0 := hm 0 0 rfl
    have m1 : nv α' 1 = nv β 1 := hm 1 1 rfl
    subst S'
    have eb := fun c hc => bl_fr hfr (by decide +kernel) c hc
    have e0 := fr_pl hfr 806 0 (by decide +kernel)
    refine ih.2.2.2.1 _ _ _ _ Ha ?_ ?_
    · rw [m1, s1, r1]
      intro c' hc'
      rw [eb c' hc', e0]
      exact hp c' hc'
    · omega
  · obtain ⟨f1, f2, f3, f4, f5⟩ := as_fx H1
    simp only [kh_booksDay_b19_1, fx_env, fx_c, fx_ne, fx_hf, wl_S, Nat.zero_add, Nat.reduceAdd, Nat.reduceDiv, Nat.reduceMod, List.getElem?_cons_zero, List.getElem?_cons_succ, if_true, and_true, true_and] at f1 f2 f3 f4 f5
    have fe0 : nv β 0 = 805 := by omega
    have fe3 : nv β 3 = 30 := by omega
    have fe4 : nv β 4 = 29 := by omega
    have fe5 : nv β 5 = 29 := by omega
    try simp only [fe0, fe3, fe4, fe5, Int.reduceToNat] at f2 f3 f4 f5
    have s0 : nv β 0 = nv α1 0 := nv_le H1.1 (by omega)
    have s1 : nv β 1 = nv α1 1 := nv_le H1.1 (by omega)
    obtain ⟨c0, c1, c2⟩ := f2
    obtain ⟨α', Ha, hm⟩ := hd_gpM (q := kh_booksDay_a38) (n := 0) (by decide +kernel) hx H1 (by decide +kernel) hxa hf
    have hfr := H1.2.2.2.2.2.2.2.2.2.2.1
    have m0 : nv α' 0 = nv β 0 := hm 0 0 rfl
    have m1 : nv α' 1 = nv β 1 := hm 1 1 rfl
    have m2 : nv α' 2 = nv β 1 := hm 2 1 rfl
    have eb := fun c hc => bl_fr hfr (by decide +kernel) c hc
    have e0 := fr_pl hfr 806 0 (by decide +kernel)
    have d2 := c2
    simp only [wd_fl2, if_neg (show ¬ (wd_base1 1033 = true) by decide)] at d2
    refine ih.2.2.1 _ _ _ _ Ha ?_ ?_
    · rw [m1, m2, s1, r1, e0]
      refine ⟨fun c' hc' => ?_, rfl, ?_⟩
      · rw [eb c' hc', e0]; exact hp c' hc'
      · rw [← d2]; omega
    · omega
set_option maxHeartbeats 16000000 in
set_option maxRecDepth 8000 in
theorem kh_booksDay_h38 {l : Launch} {D : va_G} {tc : Nat → ClassId} {ad : Nat → Nat} {kd : Nat → Nat × Nat} {N : Nat} {sm : Nat → Nat} {xs : List av_X} {S : fw_S} {p : Program} {e : Env} {s : State} {m : MethodId} {args : Array Value} {below : List Frame} {meth : Method} {c : Code} {sz : Nat} {lvE : List (Nat × Value)} (G : hd_C wd_ff2 wd_fl2 kh_booksDay [kh_957, kh_day, kh_959, kh_968, kh_974, kh_977, kh_986, kh_992, kh_995, kh_1004, kh_1010, kh_1013, kh_1022, kh_1028, kh_1031, kh_1040, kh_1046, kh_1049, kh_1058, kh_1064, kh_1067, kh_1076, kh_1082, kh_1085, kh_1094, kh_1100, kh_1103, kh_1112, kh_1118, kh_1119, kh_1127] kh_booksDay_y D tc ad kd N sm xs p s m args meth c sz) (H0 : as_in ad sm wd_fl2 xs S kh_booksDay.2.2.2.2.2.1 xs (hd_0 kh_booksDay) lvE [] S) {k : Nat} (ih : kh_booksDay_I l D tc ad kd N sm xs S p e s m args below meth c sz k) : (∀ (α : List av_X) (lv : List (Nat × Value)) (st : List Value) (S1 : fw_S), as_in ad sm wd_fl2 xs S kh_booksDay.2.2.2.2.2.1 α kh_booksDay_a38.2.2.1 lv st S1 → ((∀ c' : Nat, c' < 10 → 30 * (S1.1 806 (1820 + 20 * c')).toInt ≤ (S1.1 806 0).toInt + (if (c' : Int) < nv α 1 then 1 else 0)) ∧ nv α 2 = nv α 1 ∧ (S1.1 806 0).toInt % 30 = 29) → (11 - nv α 1).toNat * 10 + 7 < k + 1 → hd_W wd_fl2 kh_booksDay kh_booksDay_y l D tc ad kd N sm xs S p e s m args below meth c sz 38 lv st S1 0) := by
  have hx : xs.length = 1 := by rw [H0.2.1.1]; rfl
  have q515 : blF (S.1 806) 0 := by
    have h := H0.2.2.2.2.2.2.2.2.1 515 (by decide +kernel)
    rw [wd_fl2, if_neg (by decide)] at h
    exact h
  intro α lv st S1 H hp hk
  obtain ⟨α1, hle, Hr⟩ := as_recM (pl := []) [((805, 805), (65, 65, 0)), ((806, 806), (1464, 2014, 1)), ((807, 807), (100, 2864, 1)), ((859, 859), (0, 2, 1))] (by decide +kernel) H
  have hf := H.2.2.2.2.2.2.2.2.2.2.1
  have hl1 : α1.length = 3 := by rw [Hr.2.1.1]; rfl
  have hl0 : α.length = 3 := by rw [H.2.1.1]; rfl
  have hxa : al_le xs α1 := H.1.trans hle
  obtain ⟨g1, -, g3, g4, -⟩ := as_fx Hr
  have g0 : (805 ≤ nv α1 0 ∧ nv α1 0 ≤ 805) ∧ (0 ≤ nv α1 1 ∧ nv α1 1 ≤ 9) ∧ (0 ≤ nv α1 2 ∧ nv α1 2 ≤ 9) ∧ True := by
    refine ⟨by have h := (en_nv (i := 0) Hr.2.1 rfl).2; exact h, by have h := (en_nv (i := 1) Hr.2.1 rfl).2; exact h, by have h := (en_nv (i := 2) Hr.2.1 rfl).2; exact h, trivial⟩
  have r0 : nv α1 0 = nv α 0 := nv_le hle (by omega)
  have r1 : nv α1 1 = nv α 1 := nv_le hle (by omega)
  have r2 : nv α1 2 = nv α 2 := nv_le hle (by omega)
  refine hd_callPN (Rr := R_bBill) (Rs := [kh_bBill]) (idx := 814) G (List.forall_mem_cons.mpr ⟨kh_bBill_okP, List.forall_mem_nil _⟩) (fun Cc hCc ys hnm => by
      rcases List.mem_singleton.mp hCc with rfl
      have y1 : nv ys 1 = nv α1 2 := nm_nv hnm (i := 1) (v := 2) rfl
      obtain ⟨p1, p2, p3⟩ := hp
      have hd := rg_bd1 (q_rg_in (q := ((806, 806), (0, 0, 0), (0, 0, 999, 1))) (by decide +kernel) H)
      have h := p1 (nv α 1).toNat (by omega)
      rw [if_neg (by omega)] at h
      show (S1.1 806 (1820 + 20 * nv ys 1).toNat).toInt ≤ 32
      rw [y1, r2, p2, show (1820 + 20 * nv α 1).toNat = 1820 + 20 * (nv α 1).toNat by omega]
      omega) (na := 3) (Bs := [kh_booksDay_b38_0]) (by decide +kernel) (by decide +kernel) hl1 Hr ?_
  intro q hq β lv' st' S' H1 hRx
  simp only [List.mem_cons, List.not_mem_nil, or_false] at hq
  rcases hq with rfl
  · obtain ⟨f1, f2, f3, f4, f5⟩ := as_fx H1
    simp only [kh_booksDay_b38_0, fx_env, fx_c, fx_ne, fx_hf, wl_S, Nat.zero_add, Nat.reduceAdd, Nat.reduceDiv, Nat.reduceMod, List.getElem?_cons_zero, List.getElem?_cons_succ, if_true, and_true, true_and] at f1 f2 f3 f4 f5
    have fe0 : nv β 0 = 805 := by omega
    try simp only [fe0, Int.reduceToNat] at f2 f3 f4 f5
    have s0 : nv β 0 = nv α1 0 := nv_le H1.1 (by omega)
    have s1 : nv β 1 = nv α1 1 := nv_le H1.1 (by omega)
    have s2 : nv β 2 = nv α1 2 := nv_le H1.1 (by omega)
    obtain ⟨α', Ha, hm⟩ := hd_gpM (q := kh_booksDay_a41) (n := 0) (by decide +kernel) hx H1 (by decide +kernel) hxa hf
    have hfr := H1.2.2.2.2.2.2.2.2.2.2.1
    have m0 : nv α' 0 = nv β 0 := hm 0 0 rfl
    have m1 : nv α' 1 = nv β 1 := hm 1 1 rfl
    obtain ⟨Cc, hCc, ys, rr, hnm, hR, rest, hre⟩ := hRx
    rcases List.mem_singleton.mp hCc with rfl
    have y1 : nv ys 1 = nv α1 2 := nm_nv hnm (i := 1) (v := 2) rfl
    obtain ⟨R1, R2, R3⟩ := hR
    obtain ⟨p1, p2, p3⟩ := hp
    rw [y1, r2, p2] at R1 R2
    refine ih.2.2.2.1 _ _ _ _ Ha ?_ ?_
    · rw [m1, s1, r1]
      intro c' hc'
      have h := p1 c' hc'
      by_cases e : (c' : Int) = nv α 1
      · rw [show 1820 + 20 * nv α 1 = ((1820 + 20 * c' : Nat) : Int) by omega, Int.toNat_natCast] at R1
        rw [if_neg (by omega)] at h
        rw [if_pos (by omega), R1, R3]
        omega
      · rw [R2 c' hc' e, R3]
        split at h <;> split <;> omega
    · omega
set_option maxHeartbeats 16000000 in
set_option maxRecDepth 8000 in
theorem kh_booksDay_h41 {l : Launch} {D : va_G} {tc : Nat → ClassId} {ad : Nat → Nat} {kd : Nat → Nat × Nat} {N : Nat} {sm : Nat → Nat} {xs : List av_X} {S : fw_S} {p : Program} {e : Env} {s : State} {m : MethodId} {args : Array Value} {below : List Frame} {meth : Method} {c : Code} {sz : Nat} {lvE : List (Nat × Value)} (G : hd_C wd_ff2 wd_fl2 kh_booksDay [kh_957, kh_day, kh_959, kh_968, kh_974, kh_977, kh_986, kh_992, kh_995, kh_1004, kh_1010, kh_1013, kh_1022, kh_1028, kh_1031, kh_1040, kh_1046, kh_1049, kh_1058, kh_1064, kh_1067, kh_1076, kh_1082, kh_1085, kh_1094, kh_1100, kh_1103, kh_1112, kh_1118, kh_1119, kh_1127] kh_booksDay_y D tc ad kd N sm xs p s m args meth c sz) (H0 : as_in ad sm wd_fl2 xs S kh_booksDay.2.2.2.2.2.1 xs (hd_0 kh_booksDay) lvE [] S) {k : Nat} (ih : kh_booksDay_I l D tc ad kd N sm xs S p e s m args below meth c sz k) : (∀ (α : List av_X) (lv : List (Nat × Value)) (st : List Value) (S1 : fw_S), as_in ad sm wd_fl2 xs S kh_booksDay.2.2.2.2.2.1 α kh_booksDay_a41.2.2.1 lv st S1 → ((∀ c' : Nat, c' < 10 → 30 * (S1.1 806 (1820 + 20 * c')).toInt ≤ (S1.1 806 0).toInt + (if (c' : Int) < nv α 1 + 1 then 1 else 0))) → (11 - nv α 1).toNat * 10 + 6 < k + 1 → hd_W wd_fl2 kh_booksDay kh_booksDay_y l D tc ad kd N sm xs S p e s m args below meth c sz 41 lv st S1 0) := by
  have hx : xs.length = 1 := by rw [H0.2.1.1]; rfl
  have q515 : blF (S.1 806) 0 := by
    have h := H0.2.2.2.2.2.2.2.2.1 515 (by decide +kernel)
    rw [wd_fl2, if_neg (by decide)] at h
    exact h
  intro α lv st S1 H hp hk
  obtain ⟨α1, hle, Hr⟩ := as_recM (pl := []) [((806, 806), (2440, 4047, 1))] (by decide +kernel) H
  have hf := H.2.2.2.2.2.2.2.2.2.2.1
  have hl1 : α1.length = 2 := by rw [Hr.2.1.1]; rfl
  have hl0 : α.length = 2 := by rw [H.2.1.1]; rfl
  have hxa : al_le xs α1 := H.1.trans hle
  obtain ⟨g1, -, g3, g4, -⟩ := as_fx Hr
  have g0 : (805 ≤ nv α1 0 ∧ nv α1 0 ≤ 805) ∧ (0 ≤ nv α1 1 ∧ nv α1 1 ≤ 9) ∧ True := by
    refine ⟨by have h := (en_nv (i := 0) Hr.2.1 rfl).2; exact h, by have h := (en_nv (i := 1) Hr.2.1 rfl).2; exact h, trivial⟩
  have r0 : nv α1 0 = nv α 0 := nv_le hle (by omega)
  have r1 : nv α1 1 = nv α 1 := nv_le hle (by omega)
  refine hd_segM G (na := 2) (fuel := 600) (first := true) (Bs := [kh_booksDay_b41_0]) (by decide +kernel) hl1 Hr ?_
  intro q hq β lv' st' S' H1
  simp only [List.mem_cons, List.not_mem_nil, or_false] at hq
  rcases hq with rfl
  · obtain ⟨f1, f2, f3, f4, f5⟩ := as_fx H1
    simp only [kh_booksDay_b41_0, fx_env, fx_c, fx_ne, fx_hf, wl_S, Nat.zero_add, Nat.reduceAdd, Nat.reduceDiv, Nat.reduceMod, List.getElem?_cons_zero, List.getElem?_cons_succ, if_true, and_true, true_and] at f1 f2 f3 f4 f5
    have fe0 : nv β 0 = 805 := by omega
    try simp only [fe0, Int.reduceToNat] at f2 f3 f4 f5
    have s0 : nv β 0 = nv α1 0 := nv_le H1.1 (by omega)
    have s1 : nv β 1 = nv α1 1 := nv_le H1.1 (by omega)
    obtain ⟨α', Ha, hm⟩ := hd_gpM (q := kh_booksDay_a2) (n := 0) (by decide +kernel) hx H1 (by decide +kernel) hxa hf
    have hfr := H1.2.2.2.2.2.2.2.2.2.2.1
    have m0 : nv α' 0 = nv β 0 := hm 0 0 rfl
    have m1 : nv α' 1 = nv β 2 := hm 1 2 rfl
    have eb := fun c hc => bl_fr hfr (by decide +kernel) c hc
    have e0 := fr_pl hfr 806 0 (by decide +kernel)
    refine ih.1 _ _ _ _ Ha ?_ ?_
    · rw [m1]
      intro c' hc'
      rw [eb c' hc', e0]
      have h := hp c' hc'
      split at h <;> split <;> omega
    · omega
set_option maxHeartbeats 16000000 in
set_option maxRecDepth 8000 in
theorem kh_booksDay_ok : ct_ok wd_fl2 kh_booksDay := ct_hand (ff := wd_ff2) (y := kh_booksDay_y) (Cs := [kh_957, kh_day, kh_959, kh_968, kh_974, kh_977, kh_986, kh_992, kh_995, kh_1004, kh_1010, kh_1013, kh_1022, kh_1028, kh_1031, kh_1040, kh_1046, kh_1049, kh_1058, kh_1064, kh_1067, kh_1076, kh_1082, kh_1085, kh_1094, kh_1100, kh_1103, kh_1112, kh_1118, kh_1119, kh_1127]) wd_fl2_ok rfl (List.forall_mem_cons.mpr ⟨kh_957_ok, (List.forall_mem_cons.mpr ⟨kh_day_ok, (List.forall_mem_cons.mpr ⟨kh_959_ok, (List.forall_mem_cons.mpr ⟨kh_968_ok, (List.forall_mem_cons.mpr ⟨kh_974_ok, (List.forall_mem_cons.mpr ⟨kh_977_ok, (List.forall_mem_cons.mpr ⟨kh_986_ok, (List.forall_mem_cons.mpr ⟨kh_992_ok, (List.forall_mem_cons.mpr ⟨kh_995_ok, (List.forall_mem_cons.mpr ⟨kh_1004_ok, (List.forall_mem_cons.mpr ⟨kh_1010_ok, (List.forall_mem_cons.mpr ⟨kh_1013_ok, (List.forall_mem_cons.mpr ⟨kh_1022_ok, (List.forall_mem_cons.mpr ⟨kh_1028_ok, (List.forall_mem_cons.mpr ⟨kh_1031_ok, (List.forall_mem_cons.mpr ⟨kh_1040_ok, (List.forall_mem_cons.mpr ⟨kh_1046_ok, (List.forall_mem_cons.mpr ⟨kh_1049_ok, (List.forall_mem_cons.mpr ⟨kh_1058_ok, (List.forall_mem_cons.mpr ⟨kh_1064_ok, (List.forall_mem_cons.mpr ⟨kh_1067_ok, (List.forall_mem_cons.mpr ⟨kh_1076_ok, (List.forall_mem_cons.mpr ⟨kh_1082_ok, (List.forall_mem_cons.mpr ⟨kh_1085_ok, (List.forall_mem_cons.mpr ⟨kh_1094_ok, (List.forall_mem_cons.mpr ⟨kh_1100_ok, (List.forall_mem_cons.mpr ⟨kh_1103_ok, (List.forall_mem_cons.mpr ⟨kh_1112_ok, (List.forall_mem_cons.mpr ⟨kh_1118_ok, (List.forall_mem_cons.mpr ⟨kh_1119_ok, (List.forall_mem_cons.mpr ⟨kh_1127_ok, (List.forall_mem_nil _)⟩)⟩)⟩)⟩)⟩)⟩)⟩)⟩)⟩)⟩)⟩)⟩)⟩)⟩)⟩)⟩)⟩)⟩)⟩)⟩)⟩)⟩)⟩)⟩)⟩)⟩)⟩)⟩)⟩)⟩)⟩) (by decide +kernel) (fun l D tc ad kd N sm xs S p e s m args below meth c sz lv G H0 => by
  have hx : xs.length = 1 := by rw [H0.2.1.1]; rfl
  have q515 : blF (S.1 806) 0 := by
    have h := H0.2.2.2.2.2.2.2.2.1 515 (by decide +kernel)
    rw [wd_fl2, if_neg (by decide)] at h
    exact h
  have hP : ∀ (k : Nat), kh_booksDay_I l D tc ad kd N sm xs S p e s m args below meth c sz k := by
    intro k
    induction k with
    | zero => exact ⟨fun _ _ _ _ _ _ h => absurd h (Nat.not_lt_zero _), fun _ _ _ _ _ _ h => absurd h (Nat.not_lt_zero _), fun _ _ _ _ _ _ h => absurd h (Nat.not_lt_zero _), fun _ _ _ _ _ _ h => absurd h (Nat.not_lt_zero _), trivial⟩
    | succ k ih => exact ⟨kh_booksDay_h2 G H0 ih, kh_booksDay_h19 G H0 ih, kh_booksDay_h38 G H0 ih, kh_booksDay_h41 G H0 ih, trivial⟩
  obtain ⟨α1, hle, Hr⟩ := as_recM (pl := []) [] (by decide +kernel) H0
  have hf := H0.2.2.2.2.2.2.2.2.2.2.1
  have hl1 : α1.length = 1 := by rw [Hr.2.1.1]; rfl
  have hl0 : xs.length = 1 := by rw [H0.2.1.1]; rfl
  have hxa : al_le xs α1 := H0.1.trans hle
  obtain ⟨g1, -, g3, g4, -⟩ := as_fx Hr
  have g0 : (805 ≤ nv α1 0 ∧ nv α1 0 ≤ 805) ∧ True := by
    refine ⟨by have h := (en_nv (i := 0) Hr.2.1 rfl).2; exact h, trivial⟩
  have r0 : nv α1 0 = nv xs 0 := nv_le hle (by omega)
  refine hd_segM G (na := 1) (fuel := 600) (first := true) (Bs := [kh_booksDay_b0_0]) (by decide +kernel) hl1 Hr ?_
  intro q hq β lv' st' S' H1
  simp only [List.mem_cons, List.not_mem_nil, or_false] at hq
  rcases hq with rfl
  · obtain ⟨f1, f2, f3, f4, f5⟩ := as_fx H1
    simp only [kh_booksDay_b0_0, fx_env, fx_c, fx_ne, fx_hf, wl_S, Nat.zero_add, Nat.reduceAdd, Nat.reduceDiv, Nat.reduceMod, List.getElem?_cons_zero, List.getElem?_cons_succ, if_true, and_true, true_and] at f1 f2 f3 f4 f5
    have fe0 : nv β 0 = 805 := by omega
    have fe1 : nv β 1 = 0 := by omega
    try simp only [fe0, fe1, Int.reduceToNat] at f2 f3 f4 f5
    have s0 : nv β 0 = nv α1 0 := nv_le H1.1 (by omega)
    obtain ⟨α', Ha, hm⟩ := hd_gpM (q := kh_booksDay_a2) (n := 0) (by decide +kernel) hx H1 (by decide +kernel) hxa hf
    have hfr := H1.2.2.2.2.2.2.2.2.2.2.1
    have m0 : nv α' 0 = nv β 0 := hm 0 0 rfl
    have m1 : nv α' 1 = nv β 1 := hm 1 1 rfl
    subst S'

    refine (hP _).1 _ _ _ _ Ha ?_ (Nat.lt_succ_self _)
    · intro c' hc'
      have h := q515 c' hc'
      rw [m1, if_neg (by omega)]
      omega)
def P_dayGoes : List av_X → fw_S → Prop := fun _ S => (S.1 806 0).toInt ≤ 998
def R_dayGoes : List av_X → fw_S → fw_O → fw_S → Prop := fun _ S _ S' => (S'.1 806 0).toInt = (S.1 806 0).toInt + 1
/- UtilityWorksModel drawn -/
def kh_1128 : ct_T := (381, [(2, 805, 805, 0)], [], [], [(1, (0, 0, 65536, 1), [(2, 805, 805, 0)], [], ([], []))], [], 0, 0, 0)
theorem kh_1128_ok : ct_ok wd_fl2 kh_1128 := ct_of (ff := wd_ff2) (y := (⟨"UtilityWorksModel", "drawn", "()I"⟩, prog_14_method_320_code, 1, some .int, 12, 1, 0, 33060, 33059, 6004, 21014)) (Cs := []) (an := []) (ss := []) (K := 1) (fuel := 4000) wd_fl2_ok rfl (List.forall_mem_nil _) (by decide +kernel)
/- UtilityWorksModel draw -/
def kh_1129 : ct_T := (380, [(2, 805, 805, 0)], [], [], [(0, (0, 0, 0, 0), [(2, 805, 805, 0)], [((806, 806), (1, 1, 0), (0, (-10), 20, 1)), ((806, 806), (2, 2, 0), (0, 0, 9, 1)), ((806, 806), (3, 3, 0), (0, 0, 9, 1))], ([], []))], [((806, 806), (1, 1, 0)), ((806, 806), (2, 2, 0)), ((806, 806), (3, 3, 0)), ((806, 806), (5, 5, 0))], 1, 20, 0)
theorem kh_1129_ok : ct_ok wd_fl2 kh_1129 := ct_of (ff := wd_ff2) (y := (⟨"UtilityWorksModel", "draw", "()V"⟩, prog_14_method_323_code, 2, none, 12, 1, 0, 33056, 33055, 6003, 21014)) (Cs := [kh_1128]) (an := []) (ss := []) (K := 1) (fuel := 4000) wd_fl2_ok rfl (List.forall_mem_cons.mpr ⟨kh_1128_ok, (List.forall_mem_nil _)⟩) (by decide +kernel)
/- UtilityWorksModel in -/
def kh_1130 : ct_T := (353, [(0, 0, 3, 1), (0, 0, 0, 0), (0, 3, 3, 0)], [], [], [(1, (0, 1, 1, 0), [(0, 0, 3, 1), (0, 0, 0, 0), (0, 3, 3, 0)], [], ([], []))], [], 0, 0, 0)
theorem kh_1130_ok : ct_ok wd_fl2 kh_1130 := ct_of (ff := wd_ff2) (y := (⟨"UtilityWorksModel", "in", "(III)Z"⟩, prog_14_method_5_code, 3, some .boolean, 12, 0, 3, 32192, 32191, 0, 21014)) (Cs := []) (an := []) (ss := []) (K := 1) (fuel := 4000) wd_fl2_ok rfl (List.forall_mem_nil _) (by decide +kernel)
/- UtilityWorksModel stormCell -/
def kh_1131 : ct_T := (384, [(2, 805, 805, 0), (0, 0, 3, 1), (0, 0, 0, 0)], [], [], [(1, (0, (-1), 2, 1), [(2, 805, 805, 0), (0, 0, 3, 1), (0, 0, 0, 0)], [], ([], []))], [], 0, 0, 0)
theorem kh_1131_ok : ct_ok wd_fl2 kh_1131 := ct_of (ff := wd_ff2) (y := (⟨"UtilityWorksModel", "stormCell", "(II)I"⟩, prog_14_method_316_code, 3, some .int, 12, 1, 2, 33073, 33072, 6007, 21014)) (Cs := []) (an := []) (ss := []) (K := 1) (fuel := 4000) wd_fl2_ok rfl (List.forall_mem_nil _) (by decide +kernel)
/- UtilityWorksModel isStorm -/
def kh_1132 : ct_T := (383, [(2, 805, 805, 0), (0, 0, 3, 1)], [], [], [(1, (0, 1, 1, 0), [(2, 805, 805, 0), (0, 0, 3, 1)], [], ([], [])), (1, (0, 0, 0, 0), [(2, 805, 805, 0), (0, 0, 3, 1)], [], ([], []))], [], 1, 22, 0)
theorem kh_1132_ok : ct_ok wd_fl2 kh_1132 := ct_of (ff := wd_ff2) (y := (⟨"UtilityWorksModel", "isStorm", "(I)Z"⟩, prog_14_method_317_code, 2, some .boolean, 12, 1, 1, 33069, 33068, 6006, 21014)) (Cs := [kh_1130, kh_1131]) (an := [(23, 0, ([((2, 805, 805, 0), none), ((0, 0, 3, 1), none)], [(0, 0), (1, 1)], [], [], [], [], [], [], none), [(0, 0, 99977)])]) (ss := []) (K := 1) (fuel := 4000) wd_fl2_ok rfl (List.forall_mem_cons.mpr ⟨kh_1130_ok, (List.forall_mem_cons.mpr ⟨kh_1131_ok, (List.forall_mem_nil _)⟩)⟩) (by decide +kernel)
/- UtilityWorksModel stormCell -/
def kh_1133 : ct_T := (384, [(2, 805, 805, 0), (0, 0, 3, 1), (0, 2, 2, 0)], [], [], [(1, (0, (-2147483648), 2147483647, 1), [(2, 805, 805, 0), (0, 0, 3, 1), (0, 2, 2, 0)], [], ([], []))], [], 0, 0, 0)
theorem kh_1133_ok : ct_ok wd_fl2 kh_1133 := ct_of (ff := wd_ff2) (y := (⟨"UtilityWorksModel", "stormCell", "(II)I"⟩, prog_14_method_316_code, 3, some .int, 12, 1, 2, 33073, 33072, 6007, 21014)) (Cs := []) (an := []) (ss := []) (K := 1) (fuel := 4000) wd_fl2_ok rfl (List.forall_mem_nil _) (by decide +kernel)
/- UtilityWorksModel stormsGo -/
def kh_1134 : ct_T := (382, [(2, 805, 805, 0)], [], [], [(0, (0, 0, 0, 0), [(2, 805, 805, 0)], [], ([], []))], [((806, 806), (500, 512, 4)), ((806, 806), (502, 514, 4))], 2, 43, 0)
theorem kh_1134_ok : ct_ok wd_fl2 kh_1134 := ct_of (ff := wd_ff2) (y := (⟨"UtilityWorksModel", "stormsGo", "()V"⟩, prog_14_method_324_code, 2, none, 12, 1, 0, 33065, 33064, 6005, 21014)) (Cs := [kh_1132, kh_1133, kh_1131]) (an := [(2, 0, ([((2, 805, 805, 0), none), ((0, 0, 4, 1), none)], [(0, 0), (1, 1)], [], [], [], [], [], [], none), [(0, 0, 99998), (1, 1, 4), (0, 0, 99998)]), (65, 0, ([((2, 805, 805, 0), none), ((0, 0, 3, 1), none)], [(0, 0), (1, 1)], [], [], [], [], [], [], none), [(0, 0, 99998), (1, 1, 4), (0, 0, 99935)])]) (ss := []) (K := 3) (fuel := 4000) wd_fl2_ok rfl (List.forall_mem_cons.mpr ⟨kh_1132_ok, (List.forall_mem_cons.mpr ⟨kh_1133_ok, (List.forall_mem_cons.mpr ⟨kh_1131_ok, (List.forall_mem_nil _)⟩)⟩)⟩) (by decide +kernel)
/- UtilityWorksModel in -/
def kh_1135 : ct_T := (353, [(0, 0, 2, 1), (0, (-2), 1, 1), (0, 0, 3, 1)], [], [], [(1, (0, 1, 1, 0), [(0, 0, 2, 1), (0, (-2), 1, 1), (0, 0, 3, 1)], [], ([], [])), (1, (0, 0, 0, 0), [(0, 0, 2, 1), (0, (-2), 1, 1), (0, 0, 3, 1)], [], ([], []))], [], 0, 0, 0)
theorem kh_1135_ok : ct_ok wd_fl2 kh_1135 := ct_of (ff := wd_ff2) (y := (⟨"UtilityWorksModel", "in", "(III)Z"⟩, prog_14_method_5_code, 3, some .boolean, 12, 0, 3, 32192, 32191, 0, 21014)) (Cs := []) (an := [(14, 0, ([((0, 0, 2, 1), none), ((0, (-2), 1, 1), none), ((0, 0, 3, 1), none)], [(0, 0), (1, 1), (2, 2)], [], [], [], [], [], [], none), [(0, 0, 99986)])]) (ss := []) (K := 1) (fuel := 4000) wd_fl2_ok rfl (List.forall_mem_nil _) (by decide +kernel)
/- UtilityWorksModel isOver -/
def kh_1136 : ct_T := (388, [(2, 805, 805, 0), (0, 0, 3, 1), (0, 0, 10, 1)], [], [], [(1, (0, 1, 1, 0), [(2, 805, 805, 0), (0, 0, 3, 1), (0, 0, 10, 1)], [], ([], [])), (1, (0, 0, 0, 0), [(2, 805, 805, 0), (0, 0, 3, 1), (0, 0, 10, 1)], [], ([], []))], [], 2, 43, 0)
theorem kh_1136_ok : ct_ok wd_fl2 kh_1136 := ct_of (ff := wd_ff2) (y := (⟨"UtilityWorksModel", "isOver", "(II)Z"⟩, prog_14_method_318_code, 4, some .boolean, 12, 1, 2, 33089, 33088, 6011, 21014)) (Cs := [kh_1132, kh_1133, kh_1131, kh_1135]) (an := [(24, 0, ([((2, 805, 805, 0), none), ((0, 0, 3, 1), none), ((0, 0, 10, 1), none)], [(0, 0), (1, 1), (2, 2)], [], [], [], [], [], [], none), [(0, 0, 99976)]), (59, 0, ([((2, 805, 805, 0), none), ((0, 0, 3, 1), none), ((0, 0, 10, 1), none), ((0, 0, 1, 1), none)], [(0, 0), (1, 1), (2, 2), (3, 3)], [], [], [], [], [], [], none), [(0, 0, 99941)])]) (ss := []) (K := 1) (fuel := 4000) wd_fl2_ok rfl (List.forall_mem_cons.mpr ⟨kh_1132_ok, (List.forall_mem_cons.mpr ⟨kh_1133_ok, (List.forall_mem_cons.mpr ⟨kh_1131_ok, (List.forall_mem_cons.mpr ⟨kh_1135_ok, (List.forall_mem_nil _)⟩)⟩)⟩)⟩) (by decide +kernel)
/- UtilityWorksModel stormCell -/
def kh_1137 : ct_T := (384, [(2, 805, 805, 0), (0, 0, 3, 1), (0, 1, 1, 0)], [], [], [(1, (0, (-2147483648), 2147483647, 1), [(2, 805, 805, 0), (0, 0, 3, 1), (0, 1, 1, 0)], [], ([], []))], [], 0, 0, 0)
theorem kh_1137_ok : ct_ok wd_fl2 kh_1137 := ct_of (ff := wd_ff2) (y := (⟨"UtilityWorksModel", "stormCell", "(II)I"⟩, prog_14_method_316_code, 3, some .int, 12, 1, 2, 33073, 33072, 6007, 21014)) (Cs := []) (an := []) (ss := []) (K := 1) (fuel := 4000) wd_fl2_ok rfl (List.forall_mem_nil _) (by decide +kernel)
/- UtilityWorksModel forceAt -/
def kh_1138 : ct_T := (387, [(2, 805, 805, 0), (0, 0, 10, 1)], [], [], [(1, (0, (-2147483648), 2147483647, 1), [(2, 805, 805, 0), (0, 0, 10, 1)], [], ([], []))], [], 3, 66, 0)
theorem kh_1138_ok : ct_ok wd_fl2 kh_1138 := ct_of (ff := wd_ff2) (y := (⟨"UtilityWorksModel", "forceAt", "(I)I"⟩, prog_14_method_319_code, 4, some .int, 12, 1, 1, 33085, 33084, 6010, 21014)) (Cs := [kh_1136, kh_1137]) (an := [(4, 0, ([((2, 805, 805, 0), none), ((0, 0, 10, 1), none), ((0, (-2147483648), 2147483647, 1), none), ((0, 0, 4, 1), none)], [(0, 0), (1, 1), (2, 2), (3, 3)], [], [], [], [], [], [], none), [(0, 0, 99996), (1, 3, 4), (0, 0, 99996)]), (37, 0, ([((2, 805, 805, 0), none), ((0, 0, 10, 1), none), ((0, (-2147483648), 2147483647, 1), none), ((0, 0, 3, 1), none)], [(0, 0), (1, 1), (2, 2), (3, 3)], [], [], [], [], [], [], none), [(0, 0, 99996), (1, 3, 4), (0, 0, 99963)])]) (ss := []) (K := 3) (fuel := 4000) wd_fl2_ok rfl (List.forall_mem_cons.mpr ⟨kh_1136_ok, (List.forall_mem_cons.mpr ⟨kh_1137_ok, (List.forall_mem_nil _)⟩)⟩) (by decide +kernel)
/- UtilityWorksModel tears -/
def kh_1139 : ct_T := (386, [(2, 805, 805, 0), (0, 0, 10, 1)], [], [], [(1, (0, 1, 1, 0), [(2, 805, 805, 0), (0, 0, 10, 1)], [], ([], [])), (1, (0, 0, 0, 0), [(2, 805, 805, 0), (0, 0, 10, 1)], [], ([], []))], [], 4, 89, 0)
theorem kh_1139_ok : ct_ok wd_fl2 kh_1139 := ct_of (ff := wd_ff2) (y := (⟨"UtilityWorksModel", "tears", "(I)Z"⟩, prog_14_method_325_code, 3, some .boolean, 12, 1, 1, 33081, 33080, 6009, 21014)) (Cs := [kh_1138, kh_heightOf]) (an := [(30, 0, ([((2, 805, 805, 0), none), ((0, 0, 10, 1), none), ((0, (-2147483648), 2147483647, 1), none)], [(0, 0), (1, 1), (2, 2)], [], [], [], [], [], [], none), [(0, 0, 99970)])]) (ss := []) (K := 1) (fuel := 4000) wd_fl2_ok rfl (List.forall_mem_cons.mpr ⟨kh_1138_ok, (List.forall_mem_cons.mpr ⟨kh_heightOf_ok, (List.forall_mem_nil _)⟩)⟩) (by decide +kernel)
/- UtilityWorksModel isOver -/
def kh_1140 : ct_T := (388, [(2, 805, 805, 0), (0, 0, 3, 1), (0, 1, 11, 1)], [], [], [(1, (0, 1, 1, 0), [(2, 805, 805, 0), (0, 0, 3, 1), (0, 1, 11, 1)], [], ([], [])), (1, (0, 0, 0, 0), [(2, 805, 805, 0), (0, 0, 3, 1), (0, 1, 11, 1)], [], ([], []))], [], 2, 43, 0)
theorem kh_1140_ok : ct_ok wd_fl2 kh_1140 := ct_of (ff := wd_ff2) (y := (⟨"UtilityWorksModel", "isOver", "(II)Z"⟩, prog_14_method_318_code, 4, some .boolean, 12, 1, 2, 33089, 33088, 6011, 21014)) (Cs := [kh_1132, kh_1133, kh_1131, kh_1135]) (an := [(24, 0, ([((2, 805, 805, 0), none), ((0, 0, 3, 1), none), ((0, 1, 11, 1), none)], [(0, 0), (1, 1), (2, 2)], [], [], [], [], [], [], none), [(0, 0, 99976)]), (59, 0, ([((2, 805, 805, 0), none), ((0, 0, 3, 1), none), ((0, 1, 11, 1), none), ((0, 0, 1, 1), none)], [(0, 0), (1, 1), (2, 2), (3, 3)], [], [], [], [], [], [], none), [(0, 0, 99941)])]) (ss := []) (K := 1) (fuel := 4000) wd_fl2_ok rfl (List.forall_mem_cons.mpr ⟨kh_1132_ok, (List.forall_mem_cons.mpr ⟨kh_1133_ok, (List.forall_mem_cons.mpr ⟨kh_1131_ok, (List.forall_mem_cons.mpr ⟨kh_1135_ok, (List.forall_mem_nil _)⟩)⟩)⟩)⟩) (by decide +kernel)
/- UtilityWorksModel forceAt -/
def kh_1141 : ct_T := (387, [(2, 805, 805, 0), (0, 1, 11, 1)], [], [], [(1, (0, (-2147483648), 2147483647, 1), [(2, 805, 805, 0), (0, 1, 11, 1)], [], ([], []))], [], 3, 66, 0)
theorem kh_1141_ok : ct_ok wd_fl2 kh_1141 := ct_of (ff := wd_ff2) (y := (⟨"UtilityWorksModel", "forceAt", "(I)I"⟩, prog_14_method_319_code, 4, some .int, 12, 1, 1, 33085, 33084, 6010, 21014)) (Cs := [kh_1140, kh_1137]) (an := [(4, 0, ([((2, 805, 805, 0), none), ((0, 1, 11, 1), none), ((0, (-2147483648), 2147483647, 1), none), ((0, 0, 4, 1), none)], [(0, 0), (1, 1), (2, 2), (3, 3)], [], [], [], [], [], [], none), [(0, 0, 99996), (1, 3, 4), (0, 0, 99996)]), (37, 0, ([((2, 805, 805, 0), none), ((0, 1, 11, 1), none), ((0, (-2147483648), 2147483647, 1), none), ((0, 0, 3, 1), none)], [(0, 0), (1, 1), (2, 2), (3, 3)], [], [], [], [], [], [], none), [(0, 0, 99996), (1, 3, 4), (0, 0, 99963)])]) (ss := []) (K := 3) (fuel := 4000) wd_fl2_ok rfl (List.forall_mem_cons.mpr ⟨kh_1140_ok, (List.forall_mem_cons.mpr ⟨kh_1137_ok, (List.forall_mem_nil _)⟩)⟩) (by decide +kernel)
/- UtilityWorksModel tears -/
def kh_1142 : ct_T := (386, [(2, 805, 805, 0), (0, 1, 11, 1)], [], [], [(1, (0, 1, 1, 0), [(2, 805, 805, 0), (0, 1, 11, 1)], [], ([], [])), (1, (0, 0, 0, 0), [(2, 805, 805, 0), (0, 1, 11, 1)], [], ([], []))], [], 4, 89, 0)
theorem kh_1142_ok : ct_ok wd_fl2 kh_1142 := ct_of (ff := wd_ff2) (y := (⟨"UtilityWorksModel", "tears", "(I)Z"⟩, prog_14_method_325_code, 3, some .boolean, 12, 1, 1, 33081, 33080, 6009, 21014)) (Cs := [kh_1141, kh_heightOf]) (an := [(30, 0, ([((2, 805, 805, 0), none), ((0, 1, 11, 1), none), ((0, (-2147483648), 2147483647, 1), none)], [(0, 0), (1, 1), (2, 2)], [], [], [], [], [], [], none), [(0, 0, 99970)])]) (ss := []) (K := 1) (fuel := 4000) wd_fl2_ok rfl (List.forall_mem_cons.mpr ⟨kh_1141_ok, (List.forall_mem_cons.mpr ⟨kh_heightOf_ok, (List.forall_mem_nil _)⟩)⟩) (by decide +kernel)
/- UtilityWorksModel breakLink -/
def kh_1143 : ct_T := (374, [(2, 805, 805, 0), (0, 0, 0, 0), (0, 0, 16, 1)], [], [], [(0, (0, 0, 0, 0), [(2, 805, 805, 0), (0, 0, 0, 0), (0, 0, 16, 1)], [], ([], []))], [((806, 806), (142, 342, 4))], 1, 22, 0)
theorem kh_1143_ok : ct_ok wd_fl2 kh_1143 := ct_of (ff := wd_ff2) (y := (⟨"UtilityWorksModel", "breakLink", "(II)V"⟩, prog_14_method_27_code, 3, none, 12, 1, 2, 33033, 33032, 6000, 21014)) (Cs := [kh_link]) (an := []) (ss := []) (K := 1) (fuel := 4000) wd_fl2_ok rfl (List.forall_mem_cons.mpr ⟨kh_link_l2, (List.forall_mem_nil _)⟩) (by decide +kernel)
/- UtilityWorksModel reports -/
def kh_1144 : ct_T := (390, [(2, 805, 805, 0), (0, 0, 0, 0), (0, 1, 1, 0)], [], [], [(0, (0, 0, 0, 0), [(2, 805, 805, 0), (0, 0, 0, 0), (0, 1, 1, 0)], [], ([], []))], [((806, 806), (7, 7, 0))], 0, 0, 0)
theorem kh_1144_ok : ct_ok wd_fl2 kh_1144 := ct_of (ff := wd_ff2) (y := (⟨"UtilityWorksModel", "reports", "(II)V"⟩, prog_14_method_315_code, 3, none, 12, 1, 2, 33097, 33096, 6013, 21014)) (Cs := []) (an := []) (ss := []) (K := 1) (fuel := 4000) wd_fl2_ok rfl (List.forall_mem_nil _) (by decide +kernel)
/- UtilityWorksModel linesBreak -/
def kh_1145 : ct_T := (385, [(2, 805, 805, 0)], [], [], [(0, (0, 0, 0, 0), [(2, 805, 805, 0)], [], ([], []))], [((806, 806), (7, 7, 0)), ((806, 806), (142, 342, 4)), ((806, 806), (503, 515, 4))], 5, 111, 0)
theorem kh_1145_ok : ct_ok wd_fl2 kh_1145 := ct_of (ff := wd_ff2) (y := (⟨"UtilityWorksModel", "linesBreak", "()V"⟩, prog_14_method_326_code, 3, none, 12, 1, 0, 33077, 33076, 6008, 21014)) (Cs := [kh_isFine, kh_290, kh_1139, kh_291, kh_1142, kh_1143, kh_1144, kh_1136, kh_1140]) (an := [(2, 0, ([((2, 805, 805, 0), none), ((0, 0, 17, 1), none)], [(0, 0), (1, 1)], [], [], [], [], [], [], none), [(0, 0, 99998), (1, 1, 17), (0, 0, 99998), (0, 0, 0), (0, 0, 0)]), (39, 0, ([((2, 805, 805, 0), none), ((0, 0, 16, 1), none)], [(0, 0), (1, 1)], [], [], [], [], [], [], none), [(0, 0, 99998), (1, 1, 17), (0, 0, 99961), (0, 0, 0), (0, 0, 0)]), (53, 0, ([((2, 805, 805, 0), none), ((0, 0, 16, 1), none), ((0, 0, 4, 1), none)], [(0, 0), (1, 1), (2, 2)], [], [], [], [], [], [], none), [(0, 0, 99998), (1, 1, 17), (0, 0, 99947), (1, 2, 4), (0, 0, 99947)]), (110, 0, ([((2, 805, 805, 0), none), ((0, 0, 16, 1), none)], [(0, 0), (1, 1)], [], [], [], [], [], [], none), [(0, 0, 99998), (1, 1, 17), (0, 0, 99890), (0, 0, 0), (0, 0, 0)])]) (ss := []) (K := 5) (fuel := 4000) wd_fl2_ok rfl (List.forall_mem_cons.mpr ⟨kh_isFine_l2, (List.forall_mem_cons.mpr ⟨kh_290_l2, (List.forall_mem_cons.mpr ⟨kh_1139_ok, (List.forall_mem_cons.mpr ⟨kh_291_l2, (List.forall_mem_cons.mpr ⟨kh_1142_ok, (List.forall_mem_cons.mpr ⟨kh_1143_ok, (List.forall_mem_cons.mpr ⟨kh_1144_ok, (List.forall_mem_cons.mpr ⟨kh_1136_ok, (List.forall_mem_cons.mpr ⟨kh_1140_ok, (List.forall_mem_nil _)⟩)⟩)⟩)⟩)⟩)⟩)⟩)⟩)⟩) (by decide +kernel)
/- UtilityWorksModel isWet -/
def kh_1146 : ct_T := (391, [(2, 805, 805, 0), (0, 0, 16, 1), (0, (-2147483648), 2147483647, 1)], [], [], [(1, (0, 1, 1, 0), [(2, 805, 805, 0), (0, 0, 16, 1), (0, (-2147483648), 2147483647, 1)], [], ([], [])), (1, (0, 0, 0, 0), [(2, 805, 805, 0), (0, 0, 16, 1), (0, (-2147483648), 2147483647, 1)], [], ([], []))], [], 2, 40, 0)
theorem kh_1146_ok : ct_ok wd_fl2 kh_1146 := ct_of (ff := wd_ff2) (y := (⟨"UtilityWorksModel", "isWet", "(II)Z"⟩, prog_14_method_322_code, 3, some .boolean, 12, 1, 2, 33101, 33100, 6014, 21014)) (Cs := [kh_290, kh_heightOf, kh_291]) (an := [(32, 0, ([((2, 805, 805, 0), none), ((0, 0, 16, 1), none), ((0, (-2147483648), 2147483647, 1), none)], [(0, 0), (1, 1), (2, 2)], [], [], [], [], [], [], none), [(0, 0, 99968)])]) (ss := []) (K := 1) (fuel := 4000) wd_fl2_ok rfl (List.forall_mem_cons.mpr ⟨kh_290_l2, (List.forall_mem_cons.mpr ⟨kh_heightOf_ok, (List.forall_mem_cons.mpr ⟨kh_291_l2, (List.forall_mem_nil _)⟩)⟩)⟩) (by decide +kernel)
/- UtilityWorksModel reports -/
def kh_1147 : ct_T := (390, [(2, 805, 805, 0), (0, 5, 5, 0), (0, 1, 1, 0)], [], [], [(0, (0, 0, 0, 0), [(2, 805, 805, 0), (0, 5, 5, 0), (0, 1, 1, 0)], [], ([], []))], [((806, 806), (12, 12, 0))], 0, 0, 0)
theorem kh_1147_ok : ct_ok wd_fl2 kh_1147 := ct_of (ff := wd_ff2) (y := (⟨"UtilityWorksModel", "reports", "(II)V"⟩, prog_14_method_315_code, 3, none, 12, 1, 2, 33097, 33096, 6013, 21014)) (Cs := []) (an := []) (ss := []) (K := 1) (fuel := 4000) wd_fl2_ok rfl (List.forall_mem_nil _) (by decide +kernel)
/- UtilityWorksModel reports -/
def kh_1148 : ct_T := (390, [(2, 805, 805, 0), (0, 5, 5, 0), (0, 0, 0, 0)], [], [], [(0, (0, 0, 0, 0), [(2, 805, 805, 0), (0, 5, 5, 0), (0, 0, 0, 0)], [], ([], []))], [((806, 806), (12, 12, 0))], 0, 0, 0)
theorem kh_1148_ok : ct_ok wd_fl2 kh_1148 := ct_of (ff := wd_ff2) (y := (⟨"UtilityWorksModel", "reports", "(II)V"⟩, prog_14_method_315_code, 3, none, 12, 1, 2, 33097, 33096, 6013, 21014)) (Cs := []) (an := []) (ss := []) (K := 1) (fuel := 4000) wd_fl2_ok rfl (List.forall_mem_nil _) (by decide +kernel)
/- UtilityWorksModel weatherDay -/
def kh_1149 : ct_T := (379, [(2, 805, 805, 0)], [], [], [(0, (0, 0, 0, 0), [(2, 805, 805, 0)], [], ([], []))], [((806, 806), (1, 515, 1))], 6, 133, 0)
theorem kh_1149_ok : ct_ok wd_fl2 kh_1149 := ct_of (ff := wd_ff2) (y := (⟨"UtilityWorksModel", "weatherDay", "()V"⟩, prog_14_method_327_code, 3, none, 12, 1, 0, 33052, 33051, 6002, 21014)) (Cs := [kh_1129, kh_1134, kh_1145, kh_1146, kh_1147, kh_1148]) (an := [(14, 0, ([((2, 805, 805, 0), none)], [(0, 0)], [], [], [], [], [], [], none), [(0, 0, 99986), (0, 0, 0), (0, 0, 0)]), (24, 0, ([((2, 805, 805, 0), none), ((0, 0, 17, 1), none)], [(0, 0), (1, 1)], [], [], [], [], [], [], none), [(0, 0, 99976), (1, 1, 17), (0, 0, 99976)])]) (ss := []) (K := 3) (fuel := 4000) wd_fl2_ok rfl (List.forall_mem_cons.mpr ⟨kh_1129_ok, (List.forall_mem_cons.mpr ⟨kh_1134_ok, (List.forall_mem_cons.mpr ⟨kh_1145_ok, (List.forall_mem_cons.mpr ⟨kh_1146_ok, (List.forall_mem_cons.mpr ⟨kh_1147_ok, (List.forall_mem_cons.mpr ⟨kh_1148_ok, (List.forall_mem_nil _)⟩)⟩)⟩)⟩)⟩)⟩) (by decide +kernel)
/- UtilityWorksModel isShed -/
def kh_1150 : ct_T := (458, [(2, 805, 805, 0), (0, 0, 9, 1)], [], [], [(1, (0, 1, 1, 0), [(2, 805, 805, 0), (0, 0, 9, 1)], [], ([], [])), (1, (0, 0, 0, 0), [(2, 805, 805, 0), (0, 0, 9, 1)], [], ([], []))], [], 3, 64, 0)
theorem kh_1150_ok : ct_ok wd_fl2 kh_1150 := ct_of (ff := wd_ff2) (y := (⟨"UtilityWorksModel", "isShed", "(I)Z"⟩, prog_14_method_93_code, 2, some .boolean, 12, 1, 1, 34125, 34124, 10013, 21014)) (Cs := [kh_400]) (an := [(21, 0, ([((2, 805, 805, 0), none), ((0, 0, 9, 1), none)], [(0, 0), (1, 1)], [], [], [], [], [], [], none), [(0, 0, 99979)])]) (ss := []) (K := 1) (fuel := 4000) wd_fl2_ok rfl (List.forall_mem_cons.mpr ⟨kh_400_l2, (List.forall_mem_nil _)⟩) (by decide +kernel)
/- UtilityWorksModel reports -/
def kh_1151 : ct_T := (390, [(2, 805, 805, 0), (0, 2, 2, 0), (0, 1, 1, 0)], [], [], [(0, (0, 0, 0, 0), [(2, 805, 805, 0), (0, 2, 2, 0), (0, 1, 1, 0)], [], ([], []))], [((806, 806), (9, 9, 0))], 0, 0, 0)
theorem kh_1151_ok : ct_ok wd_fl2 kh_1151 := ct_of (ff := wd_ff2) (y := (⟨"UtilityWorksModel", "reports", "(II)V"⟩, prog_14_method_315_code, 3, none, 12, 1, 2, 33097, 33096, 6013, 21014)) (Cs := []) (an := []) (ss := []) (K := 1) (fuel := 4000) wd_fl2_ok rfl (List.forall_mem_nil _) (by decide +kernel)
/- UtilityWorksModel powerDay -/
def kh_1152 : ct_T := (432, [(2, 805, 805, 0)], [], [], [(0, (0, 0, 0, 0), [(2, 805, 805, 0)], [], ([], []))], [((805, 805), (21, 21, 0)), ((805, 805), (22, 22, 0)), ((805, 805), (23, 23, 0)), ((805, 805), (24, 24, 0)), ((805, 805), (25, 25, 0)), ((806, 806), (9, 9, 0)), ((806, 806), (143, 343, 4)), ((806, 806), (344, 360, 1)), ((806, 806), (490, 499, 1)), ((807, 807), (0, 0, 0)), ((807, 807), (1, 1, 0)), ((807, 807), (2, 2, 0)), ((807, 807), (3, 3, 0)), ((807, 807), (4, 4, 0)), ((807, 807), (5, 5, 0)), ((815, 815), (0, 16, 1)), ((816, 816), (0, 16, 1)), ((817, 817), (0, 11, 1)), ((818, 818), (0, 3, 1)), ((819, 819), (0, 11, 1)), ((820, 820), (0, 16, 1)), ((821, 821), (0, 2, 1)), ((822, 822), (0, 1, 1)), ((823, 823), (0, 9, 1)), ((824, 824), (0, 9, 1)), ((825, 825), (0, 11, 1)), ((858, 858), (0, 9, 1))], 6, 131, 0)
theorem kh_1152_ok : ct_ok wd_fl2 kh_1152 := ct_of (ff := wd_ff2) (y := (⟨"UtilityWorksModel", "powerDay", "()V"⟩, prog_14_method_94_code, 2, none, 12, 1, 0, 34022, 34021, 9004, 21014)) (Cs := [kh_powerDeal, kh_link, kh_393, kh_1150, kh_1151]) (an := [(6, 0, ([((2, 805, 805, 0), none), ((0, 0, 17, 1), none)], [(0, 0), (1, 1)], [], [], [], [], [], [], none), [(0, 0, 99994), (1, 1, 17), (0, 0, 99994)]), (56, 0, ([((2, 805, 805, 0), none), ((0, 0, 16, 1), none)], [(0, 0), (1, 1)], [], [], [], [], [], [], none), [(0, 0, 99994), (1, 1, 17), (0, 0, 99944)]), (64, 0, ([((2, 805, 805, 0), none), ((0, 0, 10, 1), none)], [(0, 0), (1, 1)], [], [], [], [], [], [], none), [(0, 0, 99936), (1, 1, 10), (0, 0, 99936)]), (110, 0, ([((2, 805, 805, 0), none), ((0, 0, 9, 1), none)], [(0, 0), (1, 1)], [], [], [], [], [], [], none), [(0, 0, 99936), (1, 1, 10), (0, 0, 99890)])]) (ss := []) (K := 3) (fuel := 4000) wd_fl2_ok rfl (List.forall_mem_cons.mpr ⟨kh_powerDeal_l2, (List.forall_mem_cons.mpr ⟨kh_link_l2, (List.forall_mem_cons.mpr ⟨kh_393_l2, (List.forall_mem_cons.mpr ⟨kh_1150_ok, (List.forall_mem_cons.mpr ⟨kh_1151_ok, (List.forall_mem_nil _)⟩)⟩)⟩)⟩)⟩) (by decide +kernel)
/- UtilityWorksModel reports -/
def kh_1153 : ct_T := (390, [(2, 805, 805, 0), (0, 3, 3, 0), (0, 0, 0, 0)], [], [], [(0, (0, 0, 0, 0), [(2, 805, 805, 0), (0, 3, 3, 0), (0, 0, 0, 0)], [], ([], []))], [((806, 806), (10, 10, 0))], 0, 0, 0)
theorem kh_1153_ok : ct_ok wd_fl2 kh_1153 := ct_of (ff := wd_ff2) (y := (⟨"UtilityWorksModel", "reports", "(II)V"⟩, prog_14_method_315_code, 3, none, 12, 1, 2, 33097, 33096, 6013, 21014)) (Cs := []) (an := []) (ss := []) (K := 1) (fuel := 4000) wd_fl2_ok rfl (List.forall_mem_nil _) (by decide +kernel)
/- UtilityWorksModel reports -/
def kh_1154 : ct_T := (390, [(2, 805, 805, 0), (0, 3, 3, 0), (0, 1, 1, 0)], [], [], [(0, (0, 0, 0, 0), [(2, 805, 805, 0), (0, 3, 3, 0), (0, 1, 1, 0)], [], ([], []))], [((806, 806), (10, 10, 0))], 0, 0, 0)
theorem kh_1154_ok : ct_ok wd_fl2 kh_1154 := ct_of (ff := wd_ff2) (y := (⟨"UtilityWorksModel", "reports", "(II)V"⟩, prog_14_method_315_code, 3, none, 12, 1, 2, 33097, 33096, 6013, 21014)) (Cs := []) (an := []) (ss := []) (K := 1) (fuel := 4000) wd_fl2_ok rfl (List.forall_mem_nil _) (by decide +kernel)
/- UtilityWorksModel wLevelThen -/
def kh_1155 : ct_T := (478, [(2, 805, 805, 0), (0, 0, 3, 1)], [], [], [(1, (0, (-2147483648), 2147483647, 1), [(2, 805, 805, 0), (0, 0, 3, 1)], [], ([], []))], [], 0, 0, 0)
theorem kh_1155_ok : ct_ok wd_fl2 kh_1155 := ct_of (ff := wd_ff2) (y := (⟨"UtilityWorksModel", "wLevelThen", "(I)I"⟩, prog_14_method_135_code, 2, some .int, 12, 1, 1, 34205, 34204, 12001, 21014)) (Cs := []) (an := []) (ss := []) (K := 1) (fuel := 4000) wd_fl2_ok rfl (List.forall_mem_nil _) (by decide +kernel)
/- UtilityWorksModel breakLink -/
def kh_1156 : ct_T := (374, [(2, 805, 805, 0), (0, 1, 1, 0), (0, 0, 16, 1)], [], [], [(0, (0, 0, 0, 0), [(2, 805, 805, 0), (0, 1, 1, 0), (0, 0, 16, 1)], [], ([], []))], [((806, 806), (142, 342, 4))], 1, 22, 0)
theorem kh_1156_ok : ct_ok wd_fl2 kh_1156 := ct_of (ff := wd_ff2) (y := (⟨"UtilityWorksModel", "breakLink", "(II)V"⟩, prog_14_method_27_code, 3, none, 12, 1, 2, 33033, 33032, 6000, 21014)) (Cs := [kh_link]) (an := []) (ss := []) (K := 1) (fuel := 4000) wd_fl2_ok rfl (List.forall_mem_cons.mpr ⟨kh_link_l2, (List.forall_mem_nil _)⟩) (by decide +kernel)
/- UtilityWorksModel reports -/
def kh_1157 : ct_T := (390, [(2, 805, 805, 0), (0, 1, 1, 0), (0, 1, 1, 0)], [], [], [(0, (0, 0, 0, 0), [(2, 805, 805, 0), (0, 1, 1, 0), (0, 1, 1, 0)], [], ([], []))], [((806, 806), (8, 8, 0))], 0, 0, 0)
theorem kh_1157_ok : ct_ok wd_fl2 kh_1157 := ct_of (ff := wd_ff2) (y := (⟨"UtilityWorksModel", "reports", "(II)V"⟩, prog_14_method_315_code, 3, none, 12, 1, 2, 33097, 33096, 6013, 21014)) (Cs := []) (an := []) (ss := []) (K := 1) (fuel := 4000) wd_fl2_ok rfl (List.forall_mem_nil _) (by decide +kernel)
/- UtilityWorksModel wStrain -/
def kh_1158 : ct_T := (479, [(2, 805, 805, 0), (0, 0, 16, 1)], [], [], [(0, (0, 0, 0, 0), [(2, 805, 805, 0), (0, 0, 16, 1)], [], ([], []))], [((806, 806), (8, 8, 0)), ((806, 806), (142, 342, 4)), ((806, 806), (1047, 1063, 1))], 2, 44, 0)
theorem kh_1158_ok : ct_ok wd_fl2 kh_1158 := ct_of (ff := wd_ff2) (y := (⟨"UtilityWorksModel", "wStrain", "(I)V"⟩, prog_14_method_133_code, 5, none, 12, 1, 1, 34209, 34208, 12002, 21014)) (Cs := [kh_424, kh_1156, kh_1157]) (an := [(121, 0, ([((2, 805, 805, 0), none), ((0, 0, 16, 1), none), ((0, (-40), 30, 1), none), ((0, 0, 1998, 1), none), ((0, (-2147483648), 2147483647, 1), none)], [(0, 0), (1, 1), (2, 2), (3, 3), (4, 4)], [], [], [], [], [], [], none), [(0, 0, 99879)])]) (ss := []) (K := 1) (fuel := 4000) wd_fl2_ok rfl (List.forall_mem_cons.mpr ⟨kh_424_l2, (List.forall_mem_cons.mpr ⟨kh_1156_ok, (List.forall_mem_cons.mpr ⟨kh_1157_ok, (List.forall_mem_nil _)⟩)⟩)⟩) (by decide +kernel)
/- UtilityWorksModel waterDay -/
def kh_1159 : ct_T := (459, [(2, 805, 805, 0)], [], [], [(0, (0, 0, 0, 0), [(2, 805, 805, 0)], [], ([], []))], [((805, 805), (46, 46, 0)), ((805, 805), (47, 47, 0)), ((805, 805), (48, 48, 0)), ((806, 806), (8, 8, 0)), ((806, 806), (10, 10, 0)), ((806, 806), (142, 342, 4)), ((806, 806), (1016, 1028, 4)), ((806, 806), (1047, 1063, 1)), ((806, 806), (1064, 1075, 1)), ((807, 807), (20, 20, 0)), ((807, 807), (21, 21, 0)), ((807, 807), (22, 22, 0)), ((807, 807), (23, 23, 0)), ((807, 807), (24, 24, 0)), ((827, 827), (0, 2, 1)), ((827, 827), (3, 6, 1)), ((828, 828), (0, 2, 1)), ((828, 828), (3, 6, 1)), ((829, 829), (0, 6, 1)), ((830, 830), (0, 6, 1)), ((831, 831), (0, 11, 1)), ((832, 832), (0, 11, 1)), ((833, 833), (0, 11, 1)), ((834, 834), (0, 11, 1)), ((835, 835), (0, 11, 1)), ((836, 836), (0, 11, 1)), ((837, 837), (0, 11, 1)), ((838, 838), (0, 11, 1)), ((839, 839), (0, 33, 1)), ((840, 840), (0, 11, 1)), ((841, 841), (0, 10, 1)), ((843, 843), (0, 1, 1)), ((844, 844), (0, 9, 1)), ((845, 845), (0, 11, 1)), ((858, 858), (0, 9, 1))], 9, 209, 0)
theorem kh_1159_ok : ct_ok wd_fl2 kh_1159 := ct_of (ff := wd_ff2) (y := (⟨"UtilityWorksModel", "waterDay", "()V"⟩, prog_14_method_134_code, 2, none, 12, 1, 0, 34129, 34128, 10014, 21014)) (Cs := [kh_waterDeal, kh_1153, kh_1154, kh_1155, kh_hasLink, kh_isFine, kh_1158]) (an := [(6, 0, ([((2, 805, 805, 0), none), ((0, 0, 12, 1), none)], [(0, 0), (1, 1)], [], [], [], [], [], [], none), [(0, 0, 99994), (1, 1, 12), (0, 0, 99994)]), (142, 0, ([((2, 805, 805, 0), none), ((0, 0, 3, 1), none)], [(0, 0), (1, 1)], [], [], [], [], [], [], none), [(0, 0, 99858), (1, 1, 3), (0, 0, 99858)]), (172, 0, ([((2, 805, 805, 0), none), ((0, 0, 4, 1), none)], [(0, 0), (1, 1)], [], [], [], [], [], [], none), [(0, 0, 99828), (1, 1, 4), (0, 0, 99828)]), (211, 0, ([((2, 805, 805, 0), none), ((0, 0, 17, 1), none)], [(0, 0), (1, 1)], [], [], [], [], [], [], none), [(0, 0, 99789), (1, 1, 17), (0, 0, 99789)]), (240, 0, ([((2, 805, 805, 0), none), ((0, 0, 16, 1), none)], [(0, 0), (1, 1)], [], [], [], [], [], [], none), [(0, 0, 99789), (1, 1, 17), (0, 0, 99760)])]) (ss := []) (K := 3) (fuel := 4000) wd_fl2_ok rfl (List.forall_mem_cons.mpr ⟨kh_waterDeal_ok, (List.forall_mem_cons.mpr ⟨kh_1153_ok, (List.forall_mem_cons.mpr ⟨kh_1154_ok, (List.forall_mem_cons.mpr ⟨kh_1155_ok, (List.forall_mem_cons.mpr ⟨kh_hasLink_l2, (List.forall_mem_cons.mpr ⟨kh_isFine_l2, (List.forall_mem_cons.mpr ⟨kh_1158_ok, (List.forall_mem_nil _)⟩)⟩)⟩)⟩)⟩)⟩)⟩) (by decide +kernel)
/- UtilityWorksModel mWants -/
def kh_1160 : ct_T := (500, [(2, 805, 805, 0), (0, 0, 9, 1), (0, 0, 0, 0)], [], [], [(1, (0, 0, 0, 0), [(2, 805, 805, 0), (0, 0, 9, 1), (0, 0, 0, 0)], [], ([], [])), (1, (0, (-2147483648), 2147483647, 1), [(2, 805, 805, 0), (0, 0, 9, 1), (0, 0, 0, 0)], [], ([], []))], [], 2, 43, 0)
theorem kh_1160_ok : ct_ok wd_fl2 kh_1160 := ct_of (ff := wd_ff2) (y := (⟨"UtilityWorksModel", "mWants", "(II)I"⟩, prog_14_method_205_code, 3, some .int, 12, 1, 2, 35053, 35052, 13007, 21014)) (Cs := [kh_397, kh_399]) (an := []) (ss := []) (K := 1) (fuel := 4000) wd_fl2_ok rfl (List.forall_mem_cons.mpr ⟨kh_397_l2, (List.forall_mem_cons.mpr ⟨kh_399_l2, (List.forall_mem_nil _)⟩)⟩) (by decide +kernel)
/- UtilityWorksModel mC -/
def kh_1161 : ct_T := (338, [(0, 0, 9, 1), (0, 6, 6, 0)], [], [], [(1, (0, 1307, 1451, 16), [(0, 0, 9, 1), (0, 6, 6, 0)], [], ([], []))], [], 0, 0, 0)
theorem kh_1161_ok : ct_ok wd_fl2 kh_1161 := ct_of (ff := wd_ff2) (y := (⟨"UtilityWorksModel", "mC", "(II)I"⟩, prog_14_method_192_code, 2, some .int, 12, 0, 2, 31168, 31167, 0, 21014)) (Cs := []) (an := []) (ss := []) (K := 1) (fuel := 4000) wd_fl2_ok rfl (List.forall_mem_nil _) (by decide +kernel)
/- UtilityWorksModel mC -/
def kh_1162 : ct_T := (338, [(0, 0, 9, 1), (0, 9, 9, 0)], [], [], [(1, (0, 1310, 1454, 16), [(0, 0, 9, 1), (0, 9, 9, 0)], [], ([], []))], [], 0, 0, 0)
theorem kh_1162_ok : ct_ok wd_fl2 kh_1162 := ct_of (ff := wd_ff2) (y := (⟨"UtilityWorksModel", "mC", "(II)I"⟩, prog_14_method_192_code, 2, some .int, 12, 0, 2, 31168, 31167, 0, 21014)) (Cs := []) (an := []) (ss := []) (K := 1) (fuel := 4000) wd_fl2_ok rfl (List.forall_mem_nil _) (by decide +kernel)
/- UtilityWorksModel mTurn -/
def kh_1163 : ct_T := (501, [(2, 805, 805, 0), (0, 0, 9, 1), (0, 0, 0, 0), (0, (-2147483648), 2147483647, 1)], [], [], [(0, (0, 0, 0, 0), [(2, 805, 805, 0), (0, 0, 9, 1), (0, 0, 0, 0), (0, (-2147483648), 2147483647, 1)], [], ([], []))], [((806, 806), (1461, 1758, 33)), ((806, 806), (1462, 1759, 33))], 1, 22, 0)
theorem kh_1163_ok : ct_ok wd_fl2 kh_1163 := ct_of (ff := wd_ff2) (y := (⟨"UtilityWorksModel", "mTurn", "(III)V"⟩, prog_14_method_206_code, 6, none, 12, 1, 3, 35057, 35056, 13008, 21014)) (Cs := [kh_604]) (an := []) (ss := []) (K := 1) (fuel := 4000) wd_fl2_ok rfl (List.forall_mem_cons.mpr ⟨kh_604_ok, (List.forall_mem_nil _)⟩) (by decide +kernel)
/- UtilityWorksModel mTurn -/
def kh_1164 : ct_T := (501, [(2, 805, 805, 0), (0, 0, 9, 1), (0, 0, 0, 0), (0, 0, 0, 1)], [], [], [(0, (0, 0, 0, 0), [(2, 805, 805, 0), (0, 0, 9, 1), (0, 0, 0, 0), (0, 0, 0, 1)], [], ([], []))], [((806, 806), (1461, 1758, 33)), ((806, 806), (1462, 1759, 33))], 1, 22, 0)
theorem kh_1164_ok : ct_ok wd_fl2 kh_1164 := ct_of (ff := wd_ff2) (y := (⟨"UtilityWorksModel", "mTurn", "(III)V"⟩, prog_14_method_206_code, 6, none, 12, 1, 3, 35057, 35056, 13008, 21014)) (Cs := [kh_604]) (an := []) (ss := []) (K := 1) (fuel := 4000) wd_fl2_ok rfl (List.forall_mem_cons.mpr ⟨kh_604_ok, (List.forall_mem_nil _)⟩) (by decide +kernel)
/- UtilityWorksModel mWants -/
def kh_1165 : ct_T := (500, [(2, 805, 805, 0), (0, 0, 9, 1), (0, 1, 1, 0)], [], [], [(1, (0, 0, 0, 0), [(2, 805, 805, 0), (0, 0, 9, 1), (0, 1, 1, 0)], [], ([], [])), (1, (0, (-2147483648), 2147483647, 1), [(2, 805, 805, 0), (0, 0, 9, 1), (0, 1, 1, 0)], [], ([], []))], [], 2, 43, 0)
theorem kh_1165_ok : ct_ok wd_fl2 kh_1165 := ct_of (ff := wd_ff2) (y := (⟨"UtilityWorksModel", "mWants", "(II)I"⟩, prog_14_method_205_code, 3, some .int, 12, 1, 2, 35053, 35052, 13007, 21014)) (Cs := [kh_566, kh_568]) (an := []) (ss := []) (K := 1) (fuel := 4000) wd_fl2_ok rfl (List.forall_mem_cons.mpr ⟨kh_566_ok, (List.forall_mem_cons.mpr ⟨kh_568_ok, (List.forall_mem_nil _)⟩)⟩) (by decide +kernel)
/- UtilityWorksModel mC -/
def kh_1166 : ct_T := (338, [(0, 0, 9, 1), (0, 7, 7, 0)], [], [], [(1, (0, 1308, 1452, 16), [(0, 0, 9, 1), (0, 7, 7, 0)], [], ([], []))], [], 0, 0, 0)
theorem kh_1166_ok : ct_ok wd_fl2 kh_1166 := ct_of (ff := wd_ff2) (y := (⟨"UtilityWorksModel", "mC", "(II)I"⟩, prog_14_method_192_code, 2, some .int, 12, 0, 2, 31168, 31167, 0, 21014)) (Cs := []) (an := []) (ss := []) (K := 1) (fuel := 4000) wd_fl2_ok rfl (List.forall_mem_nil _) (by decide +kernel)
/- UtilityWorksModel mC -/
def kh_1167 : ct_T := (338, [(0, 0, 9, 1), (0, 10, 10, 0)], [], [], [(1, (0, 1311, 1455, 16), [(0, 0, 9, 1), (0, 10, 10, 0)], [], ([], []))], [], 0, 0, 0)
theorem kh_1167_ok : ct_ok wd_fl2 kh_1167 := ct_of (ff := wd_ff2) (y := (⟨"UtilityWorksModel", "mC", "(II)I"⟩, prog_14_method_192_code, 2, some .int, 12, 0, 2, 31168, 31167, 0, 21014)) (Cs := []) (an := []) (ss := []) (K := 1) (fuel := 4000) wd_fl2_ok rfl (List.forall_mem_nil _) (by decide +kernel)
/- UtilityWorksModel mM -/
def kh_1168 : ct_T := (340, [(0, 0, 9, 1), (0, 1, 1, 0), (0, 0, 0, 0)], [], [], [(1, (0, 1472, 1769, 33), [(0, 0, 9, 1), (0, 1, 1, 0), (0, 0, 0, 0)], [], ([], []))], [], 0, 0, 0)
theorem kh_1168_ok : ct_ok wd_fl2 kh_1168 := ct_of (ff := wd_ff2) (y := (⟨"UtilityWorksModel", "mM", "(III)I"⟩, prog_14_method_193_code, 3, some .int, 12, 0, 3, 31175, 31174, 0, 21014)) (Cs := []) (an := []) (ss := []) (K := 1) (fuel := 4000) wd_fl2_ok rfl (List.forall_mem_nil _) (by decide +kernel)
/- UtilityWorksModel mTurn -/
def kh_1169 : ct_T := (501, [(2, 805, 805, 0), (0, 0, 9, 1), (0, 1, 1, 0), (0, (-2147483648), 2147483647, 1)], [], [], [(0, (0, 0, 0, 0), [(2, 805, 805, 0), (0, 0, 9, 1), (0, 1, 1, 0), (0, (-2147483648), 2147483647, 1)], [], ([], []))], [((806, 806), (1472, 1769, 33)), ((806, 806), (1473, 1770, 33))], 1, 22, 0)
theorem kh_1169_ok : ct_ok wd_fl2 kh_1169 := ct_of (ff := wd_ff2) (y := (⟨"UtilityWorksModel", "mTurn", "(III)V"⟩, prog_14_method_206_code, 6, none, 12, 1, 3, 35057, 35056, 13008, 21014)) (Cs := [kh_1168]) (an := []) (ss := []) (K := 1) (fuel := 4000) wd_fl2_ok rfl (List.forall_mem_cons.mpr ⟨kh_1168_ok, (List.forall_mem_nil _)⟩) (by decide +kernel)
/- UtilityWorksModel mTurn -/
def kh_1170 : ct_T := (501, [(2, 805, 805, 0), (0, 0, 9, 1), (0, 1, 1, 0), (0, 0, 0, 1)], [], [], [(0, (0, 0, 0, 0), [(2, 805, 805, 0), (0, 0, 9, 1), (0, 1, 1, 0), (0, 0, 0, 1)], [], ([], []))], [((806, 806), (1472, 1769, 33)), ((806, 806), (1473, 1770, 33))], 1, 22, 0)
theorem kh_1170_ok : ct_ok wd_fl2 kh_1170 := ct_of (ff := wd_ff2) (y := (⟨"UtilityWorksModel", "mTurn", "(III)V"⟩, prog_14_method_206_code, 6, none, 12, 1, 3, 35057, 35056, 13008, 21014)) (Cs := [kh_1168]) (an := []) (ss := []) (K := 1) (fuel := 4000) wd_fl2_ok rfl (List.forall_mem_cons.mpr ⟨kh_1168_ok, (List.forall_mem_nil _)⟩) (by decide +kernel)
/- UtilityWorksModel mWants -/
def kh_1171 : ct_T := (500, [(2, 805, 805, 0), (0, 0, 9, 1), (0, 2, 2, 0)], [], [], [(1, (0, 0, 0, 0), [(2, 805, 805, 0), (0, 0, 9, 1), (0, 2, 2, 0)], [], ([], [])), (1, (0, (-2147483648), 2147483647, 1), [(2, 805, 805, 0), (0, 0, 9, 1), (0, 2, 2, 0)], [], ([], []))], [], 2, 43, 0)
theorem kh_1171_ok : ct_ok wd_fl2 kh_1171 := ct_of (ff := wd_ff2) (y := (⟨"UtilityWorksModel", "mWants", "(II)I"⟩, prog_14_method_205_code, 3, some .int, 12, 1, 2, 35053, 35052, 13007, 21014)) (Cs := [kh_530, kh_532, kh_472]) (an := []) (ss := []) (K := 1) (fuel := 4000) wd_fl2_ok rfl (List.forall_mem_cons.mpr ⟨kh_530_l2, (List.forall_mem_cons.mpr ⟨kh_532_l2, (List.forall_mem_cons.mpr ⟨kh_472_l2, (List.forall_mem_nil _)⟩)⟩)⟩) (by decide +kernel)
/- UtilityWorksModel mC -/
def kh_1172 : ct_T := (338, [(0, 0, 9, 1), (0, 8, 8, 0)], [], [], [(1, (0, 1309, 1453, 16), [(0, 0, 9, 1), (0, 8, 8, 0)], [], ([], []))], [], 0, 0, 0)
theorem kh_1172_ok : ct_ok wd_fl2 kh_1172 := ct_of (ff := wd_ff2) (y := (⟨"UtilityWorksModel", "mC", "(II)I"⟩, prog_14_method_192_code, 2, some .int, 12, 0, 2, 31168, 31167, 0, 21014)) (Cs := []) (an := []) (ss := []) (K := 1) (fuel := 4000) wd_fl2_ok rfl (List.forall_mem_nil _) (by decide +kernel)
/- UtilityWorksModel mC -/
def kh_1173 : ct_T := (338, [(0, 0, 9, 1), (0, 11, 11, 0)], [], [], [(1, (0, 1312, 1456, 16), [(0, 0, 9, 1), (0, 11, 11, 0)], [], ([], []))], [], 0, 0, 0)
theorem kh_1173_ok : ct_ok wd_fl2 kh_1173 := ct_of (ff := wd_ff2) (y := (⟨"UtilityWorksModel", "mC", "(II)I"⟩, prog_14_method_192_code, 2, some .int, 12, 0, 2, 31168, 31167, 0, 21014)) (Cs := []) (an := []) (ss := []) (K := 1) (fuel := 4000) wd_fl2_ok rfl (List.forall_mem_nil _) (by decide +kernel)
/- UtilityWorksModel mM -/
def kh_1174 : ct_T := (340, [(0, 0, 9, 1), (0, 2, 2, 0), (0, 0, 0, 0)], [], [], [(1, (0, 1483, 1780, 33), [(0, 0, 9, 1), (0, 2, 2, 0), (0, 0, 0, 0)], [], ([], []))], [], 0, 0, 0)
theorem kh_1174_ok : ct_ok wd_fl2 kh_1174 := ct_of (ff := wd_ff2) (y := (⟨"UtilityWorksModel", "mM", "(III)I"⟩, prog_14_method_193_code, 3, some .int, 12, 0, 3, 31175, 31174, 0, 21014)) (Cs := []) (an := []) (ss := []) (K := 1) (fuel := 4000) wd_fl2_ok rfl (List.forall_mem_nil _) (by decide +kernel)
/- UtilityWorksModel mTurn -/
def kh_1175 : ct_T := (501, [(2, 805, 805, 0), (0, 0, 9, 1), (0, 2, 2, 0), (0, (-2147483648), 2147483647, 1)], [], [], [(0, (0, 0, 0, 0), [(2, 805, 805, 0), (0, 0, 9, 1), (0, 2, 2, 0), (0, (-2147483648), 2147483647, 1)], [], ([], []))], [((806, 806), (1483, 1780, 33)), ((806, 806), (1484, 1781, 33))], 1, 22, 0)
theorem kh_1175_ok : ct_ok wd_fl2 kh_1175 := ct_of (ff := wd_ff2) (y := (⟨"UtilityWorksModel", "mTurn", "(III)V"⟩, prog_14_method_206_code, 6, none, 12, 1, 3, 35057, 35056, 13008, 21014)) (Cs := [kh_1174]) (an := []) (ss := []) (K := 1) (fuel := 4000) wd_fl2_ok rfl (List.forall_mem_cons.mpr ⟨kh_1174_ok, (List.forall_mem_nil _)⟩) (by decide +kernel)
/- UtilityWorksModel mTurn -/
def kh_1176 : ct_T := (501, [(2, 805, 805, 0), (0, 0, 9, 1), (0, 2, 2, 0), (0, 0, 0, 1)], [], [], [(0, (0, 0, 0, 0), [(2, 805, 805, 0), (0, 0, 9, 1), (0, 2, 2, 0), (0, 0, 0, 1)], [], ([], []))], [((806, 806), (1483, 1780, 33)), ((806, 806), (1484, 1781, 33))], 1, 22, 0)
theorem kh_1176_ok : ct_ok wd_fl2 kh_1176 := ct_of (ff := wd_ff2) (y := (⟨"UtilityWorksModel", "mTurn", "(III)V"⟩, prog_14_method_206_code, 6, none, 12, 1, 3, 35057, 35056, 13008, 21014)) (Cs := [kh_1174]) (an := []) (ss := []) (K := 1) (fuel := 4000) wd_fl2_ok rfl (List.forall_mem_cons.mpr ⟨kh_1174_ok, (List.forall_mem_nil _)⟩) (by decide +kernel)
/- UtilityWorksModel metersDay -/
def kh_1177 : ct_T := (499, [(2, 805, 805, 0)], [], [], [(0, (0, 0, 0, 0), [(2, 805, 805, 0)], [], ([], []))], [((806, 806), (1307, 1781, 1)), ((807, 807), (40, 40, 0)), ((807, 807), (41, 41, 0)), ((807, 807), (42, 42, 0)), ((807, 807), (43, 70, 3)), ((807, 807), (44, 71, 3)), ((807, 807), (45, 72, 3))], 3, 65, 0)
theorem kh_1177_ok : ct_ok wd_fl2 kh_1177 := ct_of (ff := wd_ff2) (y := (⟨"UtilityWorksModel", "metersDay", "()V"⟩, prog_14_method_207_code, 5, none, 12, 1, 0, 35049, 35048, 13006, 21014)) (Cs := [kh_1160, kh_1161, kh_1162, kh_1163, kh_1164, kh_1165, kh_1166, kh_1167, kh_1169, kh_1170, kh_1171, kh_1172, kh_1173, kh_1175, kh_1176]) (an := [(2, 0, ([((2, 805, 805, 0), none), ((0, 0, 10, 1), none)], [(0, 0), (1, 1)], [], [], [], [], [], [], none), [(0, 0, 99998), (1, 1, 10), (0, 0, 99998), (0, 0, 0), (0, 0, 0)]), (16, 0, ([((2, 805, 805, 0), none), ((0, 0, 9, 1), none), ((0, 0, 3, 1), none)], [(0, 0), (1, 1), (2, 2)], [], [], [], [], [], [], none), [(0, 0, 99998), (1, 1, 10), (0, 0, 99984), (1, 2, 3), (0, 0, 99984)])]) (ss := [(21, 2)]) (K := 5) (fuel := 4000) wd_fl2_ok rfl (List.forall_mem_cons.mpr ⟨kh_1160_ok, (List.forall_mem_cons.mpr ⟨kh_1161_ok, (List.forall_mem_cons.mpr ⟨kh_1162_ok, (List.forall_mem_cons.mpr ⟨kh_1163_ok, (List.forall_mem_cons.mpr ⟨kh_1164_ok, (List.forall_mem_cons.mpr ⟨kh_1165_ok, (List.forall_mem_cons.mpr ⟨kh_1166_ok, (List.forall_mem_cons.mpr ⟨kh_1167_ok, (List.forall_mem_cons.mpr ⟨kh_1169_ok, (List.forall_mem_cons.mpr ⟨kh_1170_ok, (List.forall_mem_cons.mpr ⟨kh_1171_ok, (List.forall_mem_cons.mpr ⟨kh_1172_ok, (List.forall_mem_cons.mpr ⟨kh_1173_ok, (List.forall_mem_cons.mpr ⟨kh_1175_ok, (List.forall_mem_cons.mpr ⟨kh_1176_ok, (List.forall_mem_nil _)⟩)⟩)⟩)⟩)⟩)⟩)⟩)⟩)⟩)⟩)⟩)⟩)⟩)⟩)⟩) (by decide +kernel)
/- UtilityWorksModel bNotices -/
def kh_1178 : ct_T := (515, [(2, 805, 805, 0), (0, 0, 9, 1)], [], [510, 513], [(0, (0, 0, 0, 0), [(2, 805, 805, 0), (0, 0, 9, 1)], [], ([510, 513], []))], [((806, 806), (2440, 4047, 1))], 3, 67, 0)
theorem kh_1178_ok : ct_ok wd_fl2 kh_1178 := ct_of (ff := wd_ff2) (y := (⟨"UtilityWorksModel", "bNotices", "(I)V"⟩, prog_14_method_249_code, 2, none, 12, 1, 1, 35115, 35114, 14005, 21014)) (Cs := [kh_1121, kh_rankOf, kh_396, kh_1122, kh_cMay, kh_cAddb, kh_1123, kh_1125, kh_1126]) (an := [(54, 0, ([((2, 805, 805, 0), none), ((0, 0, 9, 1), none)], [(0, 0), (1, 1)], [], [], [], [], [], [510, 513], none), [(0, 0, 99946)]), (98, 0, ([((2, 805, 805, 0), none), ((0, 0, 9, 1), none)], [(0, 0), (1, 1)], [], [], [], [], [], [510, 513], none), [(0, 0, 99902)])]) (ss := []) (K := 1) (fuel := 4000) wd_fl2_ok rfl (List.forall_mem_cons.mpr ⟨kh_1121_ok, (List.forall_mem_cons.mpr ⟨kh_rankOf_l2, (List.forall_mem_cons.mpr ⟨kh_396_l2, (List.forall_mem_cons.mpr ⟨kh_1122_ok, (List.forall_mem_cons.mpr ⟨kh_cMay_ok, (List.forall_mem_cons.mpr ⟨kh_cAddb_ok, (List.forall_mem_cons.mpr ⟨kh_1123_ok, (List.forall_mem_cons.mpr ⟨kh_1125_ok, (List.forall_mem_cons.mpr ⟨kh_1126_ok, (List.forall_mem_nil _)⟩)⟩)⟩)⟩)⟩)⟩)⟩)⟩)⟩) (by decide +kernel)
/- UtilityWorksModel booksDay -/
def kh_1179 : ct_T := (502, [(2, 805, 805, 0)], [], [510, 513], [(0, (0, 0, 0, 0), [(2, 805, 805, 0)], [], ([510, 513], []))], [((805, 805), (65, 65, 0)), ((806, 806), (1464, 2014, 1)), ((806, 806), (2440, 4047, 1)), ((807, 807), (100, 2864, 1)), ((859, 859), (0, 2, 1))], 6, 148, 0)
theorem kh_1179_ok : ct_ok wd_fl2 kh_1179 := ct_of (ff := wd_ff2) (y := (⟨"UtilityWorksModel", "booksDay", "()V"⟩, prog_14_method_250_code, 2, none, 12, 1, 0, 35061, 35060, 13009, 21014)) (Cs := [kh_1118, kh_day, kh_1119, kh_bBill, kh_1178]) (an := [(2, 0, ([((2, 805, 805, 0), none), ((0, 0, 10, 1), none)], [(0, 0), (1, 1)], [], [], [], [], [], [510, 513], none), [(0, 0, 99998), (1, 1, 10), (0, 0, 99998)]), (41, 0, ([((2, 805, 805, 0), none), ((0, 0, 9, 1), none)], [(0, 0), (1, 1)], [], [], [], [], [], [510, 513], none), [(0, 0, 99998), (1, 1, 10), (0, 0, 99959)])]) (ss := []) (K := 3) (fuel := 4000) wd_fl2_ok rfl (List.forall_mem_cons.mpr ⟨kh_1118_ok, (List.forall_mem_cons.mpr ⟨kh_day_ok, (List.forall_mem_cons.mpr ⟨kh_1119_ok, (List.forall_mem_cons.mpr ⟨kh_bBill_ok, (List.forall_mem_cons.mpr ⟨kh_1178_ok, (List.forall_mem_nil _)⟩)⟩)⟩)⟩)⟩) (by decide +kernel)
/- UtilityWorksModel spends -/
def kh_1180 : ct_T := (371, [(2, 805, 805, 0), (0, 1000, 1000, 0)], [], [], [(0, (0, 0, 0, 0), [(2, 805, 805, 0), (0, 1000, 1000, 0)], [], ([], []))], [((807, 807), (2860, 2860, 0)), ((807, 807), (2865, 2865, 0))], 0, 0, 0)
theorem kh_1180_ok : ct_ok wd_fl2 kh_1180 := ct_of (ff := wd_ff2) (y := (⟨"UtilityWorksModel", "spends", "(I)V"⟩, prog_14_method_232_code, 2, none, 12, 1, 1, 33021, 33020, 5014, 21014)) (Cs := []) (an := []) (ss := []) (K := 1) (fuel := 4000) wd_fl2_ok rfl (List.forall_mem_nil _) (by decide +kernel)
/- UtilityWorksModel streetsDay -/
def kh_1181 : ct_T := (529, [(2, 805, 805, 0)], [], [], [(0, (0, 0, 0, 0), [(2, 805, 805, 0)], [], ([], []))], [((806, 806), (117, 133, 1)), ((806, 806), (370, 460, 6)), ((807, 807), (2860, 2860, 0)), ((807, 807), (2865, 2865, 0))], 4, 90, 0)
theorem kh_1181_ok : ct_ok wd_fl2 kh_1181 := ct_of (ff := wd_ff2) (y := (⟨"UtilityWorksModel", "streetsDay", "()V"⟩, prog_14_method_75_code, 2, none, 12, 1, 0, 35173, 35172, 15002, 21014)) (Cs := [kh_isDug, kh_day, kh_632, kh_1180, kh_626, kh_629]) (an := [(2, 0, ([((2, 805, 805, 0), none), ((0, 0, 17, 1), none)], [(0, 0), (1, 1)], [], [], [], [], [], [], none), [(0, 0, 99998), (1, 1, 17), (0, 0, 99998)]), (49, 0, ([((2, 805, 805, 0), none), ((0, 0, 16, 1), none)], [(0, 0), (1, 1)], [], [], [], [], [], [], none), [(0, 0, 99998), (1, 1, 17), (0, 0, 99951)]), (57, 0, ([((2, 805, 805, 0), none), ((0, 0, 16, 1), none)], [(0, 0), (1, 1)], [], [], [], [], [], [], none), [(0, 0, 99943), (1, 1, 16), (0, 0, 99943)]), (98, 0, ([((2, 805, 805, 0), none), ((0, 0, 15, 1), none)], [(0, 0), (1, 1)], [], [], [], [], [], [], none), [(0, 0, 99943), (1, 1, 16), (0, 0, 99902)])]) (ss := []) (K := 3) (fuel := 4000) wd_fl2_ok rfl (List.forall_mem_cons.mpr ⟨kh_isDug_l2, (List.forall_mem_cons.mpr ⟨kh_day_ok, (List.forall_mem_cons.mpr ⟨kh_632_ok, (List.forall_mem_cons.mpr ⟨kh_1180_ok, (List.forall_mem_cons.mpr ⟨kh_626_ok, (List.forall_mem_cons.mpr ⟨kh_629_ok, (List.forall_mem_nil _)⟩)⟩)⟩)⟩)⟩)⟩) (by decide +kernel)
abbrev kh_dayGoes_y : mt_T := (⟨"UtilityWorksModel", "dayGoes", "()V"⟩, prog_14_method_38_code, 1, none, 12, 1, 0, 33048, 33047, 6001, 21014)
def kh_dayGoes : ct_T := (378, [(2, 805, 805, 0)], [], [510, 513, 515], [(0, (0, 0, 0, 0), [(2, 805, 805, 0)], [], ([510, 513, 515], []))], [((805, 805), (21, 65, 1)), ((806, 806), (0, 4104, 1)), ((807, 807), (0, 3501, 1)), ((813, 813), (0, 11, 1)), ((814, 814), (0, 11, 1)), ((815, 815), (0, 16, 1)), ((816, 816), (0, 16, 1)), ((817, 817), (0, 11, 1)), ((818, 818), (0, 3, 1)), ((819, 819), (0, 11, 1)), ((820, 820), (0, 16, 1)), ((821, 821), (0, 2, 1)), ((822, 822), (0, 1, 1)), ((823, 823), (0, 9, 1)), ((824, 824), (0, 9, 1)), ((825, 825), (0, 11, 1)), ((827, 827), (0, 2, 1)), ((827, 827), (3, 6, 1)), ((828, 828), (0, 2, 1)), ((828, 828), (3, 6, 1)), ((829, 829), (0, 6, 1)), ((830, 830), (0, 6, 1)), ((831, 831), (0, 11, 1)), ((832, 832), (0, 11, 1)), ((833, 833), (0, 11, 1)), ((834, 834), (0, 11, 1)), ((835, 835), (0, 11, 1)), ((836, 836), (0, 11, 1)), ((837, 837), (0, 11, 1)), ((838, 838), (0, 11, 1)), ((839, 839), (0, 33, 1)), ((840, 840), (0, 11, 1)), ((841, 841), (0, 10, 1)), ((843, 843), (0, 1, 1)), ((844, 844), (0, 9, 1)), ((845, 845), (0, 11, 1)), ((846, 846), (0, 1, 1)), ((847, 847), (0, 1, 1)), ((848, 848), (0, 33, 1)), ((849, 849), (0, 16, 1)), ((850, 850), (0, 11, 1)), ((851, 851), (0, 11, 1)), ((852, 852), (0, 11, 1)), ((854, 854), (0, 11, 1)), ((855, 855), (0, 23, 1)), ((856, 856), (0, 287, 1)), ((857, 857), (0, 9, 1)), ((858, 858), (0, 9, 1)), ((859, 859), (0, 2, 1))], 10, 231, 0)
def kh_dayGoes_a36 : an_T := (36, 0, ([((2, 805, 805, 0), none)], [(0, 0)], [], [], [], [], [], [510, 513], none), [])
def kh_dayGoes_a45 : an_T := (45, 0, ([((2, 805, 805, 0), none), ((0, 1, 1000, 1), none), ((0, 0, 0, 0), none), ((2, 806, 806, 1), none)], [(0, 0)], [1, 2, 3], [], [], [], [], [510, 513], none), [])
def kh_dayGoes_b0_0 : sg_T := (36, 0, ([((2, 805, 805, 0), none)], [(0, 0)], [], [], [], [], [], [513, 510], none))
def kh_dayGoes_b36_0 : sg_T := (45, 0, ([((2, 805, 805, 0), none), ((2, 806, 806, 1), none), ((0, 0, 0, 0), none), ((0, 0, 999, 1), none), ((0, 1, 1, 0), none), ((0, 1, 1000, 1), some (3, 1))], [(0, 0)], [5, 2, 1], [(1, 2, 3)], [], [(500005, 3, 4), (800003, 1, 2)], [], [510, 513], some []))
def kh_dayGoes_b45_0 : sg_T := (46, 0, ([((2, 805, 805, 0), none), ((0, 1, 999, 1), none), ((0, 0, 0, 0), none), ((2, 806, 806, 1), none)], [(0, 0)], [], [(3, 2, 1)], [], [], [], [510, 513], some [(3, 2, 1)]))
def kh_dayGoes_I (l : Launch) (D : va_G) (tc : Nat → ClassId) (ad : Nat → Nat) (kd : Nat → Nat × Nat) (N : Nat) (sm : Nat → Nat) (xs : List av_X) (S : fw_S) (p : Program) (e : Env) (s : State) (m : MethodId) (args : Array Value) (below : List Frame) (meth : Method) (c : Code) (sz : Nat) (k : Nat) : Prop := (∀ (α : List av_X) (lv : List (Nat × Value)) (st : List Value) (S1 : fw_S), as_in ad sm wd_fl2 xs S kh_dayGoes.2.2.2.2.2.1 α kh_dayGoes_a36.2.2.1 lv st S1 → (S1.1 806 0 = S.1 806 0 ∧ blF (S1.1 806) 1) → 5 < k → hd_WR R_dayGoes wd_fl2 kh_dayGoes kh_dayGoes_y l D tc ad kd N sm xs S p e s m args below meth c sz 36 lv st S1 0) ∧ (∀ (α : List av_X) (lv : List (Nat × Value)) (st : List Value) (S1 : fw_S), as_in ad sm wd_fl2 xs S kh_dayGoes.2.2.2.2.2.1 α kh_dayGoes_a45.2.2.1 lv st S1 → (S1.1 806 0 = S.1 806 0 ∧ blF (S1.1 806) 1 ∧ nv α 1 = (S.1 806 0).toInt + 1 ∧ nv α 1 ≤ 999) → 1 < k → hd_WR R_dayGoes wd_fl2 kh_dayGoes kh_dayGoes_y l D tc ad kd N sm xs S p e s m args below meth c sz 45 lv st S1 0) ∧ True
set_option maxHeartbeats 16000000 in
set_option maxRecDepth 8000 in
theorem kh_dayGoes_h36 {l : Launch} {D : va_G} {tc : Nat → ClassId} {ad : Nat → Nat} {kd : Nat → Nat × Nat} {N : Nat} {sm : Nat → Nat} {xs : List av_X} {S : fw_S} {p : Program} {e : Env} {s : State} {m : MethodId} {args : Array Value} {below : List Frame} {meth : Method} {c : Code} {sz : Nat} {lvE : List (Nat × Value)} (G : hd_C wd_ff2 wd_fl2 kh_dayGoes [kh_1149, kh_crewsDay, kh_1152, kh_1159, kh_heatDay, kh_1177, kh_1179, kh_storesDay2, kh_1181] kh_dayGoes_y D tc ad kd N sm xs p s m args meth c sz) (H0 : as_in ad sm wd_fl2 xs S kh_dayGoes.2.2.2.2.2.1 xs (hd_0 kh_dayGoes) lvE [] S) (hpre : P_dayGoes xs S) {k : Nat} (ih : kh_dayGoes_I l D tc ad kd N sm xs S p e s m args below meth c sz k) : (∀ (α : List av_X) (lv : List (Nat × Value)) (st : List Value) (S1 : fw_S), as_in ad sm wd_fl2 xs S kh_dayGoes.2.2.2.2.2.1 α kh_dayGoes_a36.2.2.1 lv st S1 → (S1.1 806 0 = S.1 806 0 ∧ blF (S1.1 806) 1) → 5 < k + 1 → hd_WR R_dayGoes wd_fl2 kh_dayGoes kh_dayGoes_y l D tc ad kd N sm xs S p e s m args below meth c sz 36 lv st S1 0) := by
  have hx : xs.length = 1 := by rw [H0.2.1.1]; rfl
  intro α lv st S1 H hp hk
  obtain ⟨α1, hle, Hr⟩ := as_recM (pl := []) [] (by decide +kernel) H
  have hf := H.2.2.2.2.2.2.2.2.2.2.1
  have hl1 : α1.length = 1 := by rw [Hr.2.1.1]; rfl
  have hl0 : α.length = 1 := by rw [H.2.1.1]; rfl
  have hxa : al_le xs α1 := H.1.trans hle
  obtain ⟨g1, -, g3, g4, -⟩ := as_fx Hr
  have g0 : (805 ≤ nv α1 0 ∧ nv α1 0 ≤ 805) ∧ True := by
    refine ⟨by have h := (en_nv (i := 0) Hr.2.1 rfl).2; exact h, trivial⟩
  have r0 : nv α1 0 = nv α 0 := nv_le hle (by omega)
  refine hd_segMR G (na := 1) (fuel := 600) (first := true) (Bs := [kh_dayGoes_b36_0]) (by decide +kernel) hl1 Hr ?_
  intro q hq β lv' st' S' H1
  simp only [List.mem_cons, List.not_mem_nil, or_false] at hq
  rcases hq with rfl
  · obtain ⟨f1, f2, f3, f4, f5⟩ := as_fx H1
    simp only [kh_dayGoes_b36_0, fx_env, fx_c, fx_ne, fx_hf, wl_S, Nat.zero_add, Nat.reduceAdd, Nat.reduceDiv, Nat.reduceMod, List.getElem?_cons_zero, List.getElem?_cons_succ, if_true, and_true, true_and] at f1 f2 f3 f4 f5
    have fe0 : nv β 0 = 805 := by omega
    have fe1 : nv β 1 = 806 := by omega
    have fe2 : nv β 2 = 0 := by omega
    have fe4 : nv β 4 = 1 := by omega
    try simp only [fe0, fe1, fe2, fe4, Int.reduceToNat] at f2 f3 f4 f5
    have s0 : nv β 0 = nv α1 0 := nv_le H1.1 (by omega)
    obtain ⟨c0, c1⟩ := f2
    obtain ⟨α', Ha, hm⟩ := hd_gpM (q := kh_dayGoes_a45) (n := 0) (by decide +kernel) hx H1 (by decide +kernel) hxa hf
    have hfr := H1.2.2.2.2.2.2.2.2.2.2.1
    have m0 : nv α' 0 = nv β 0 := hm 0 0 rfl
    have m1 : nv α' 1 = nv β 5 := hm 1 5 rfl
    have m2 : nv α' 2 = nv β 2 := hm 2 2 rfl
    have m3 : nv α' 3 = nv β 1 := hm 3 1 rfl
    subst S'
    have o1 := old_0 c1 rfl
    have h9 : (S.1 806 0).toInt ≤ 998 := hpre
    obtain ⟨p1, p2⟩ := hp
    rw [p1] at o1
    refine ih.2.1 _ _ _ _ Ha ?_ ?_
    · rw [m1]
      exact ⟨p1, p2, by rw [o1]; omega, by omega⟩
    · omega
set_option maxHeartbeats 16000000 in
set_option maxRecDepth 8000 in
theorem kh_dayGoes_h45 {l : Launch} {D : va_G} {tc : Nat → ClassId} {ad : Nat → Nat} {kd : Nat → Nat × Nat} {N : Nat} {sm : Nat → Nat} {xs : List av_X} {S : fw_S} {p : Program} {e : Env} {s : State} {m : MethodId} {args : Array Value} {below : List Frame} {meth : Method} {c : Code} {sz : Nat} {lvE : List (Nat × Value)} (G : hd_C wd_ff2 wd_fl2 kh_dayGoes [kh_1149, kh_crewsDay, kh_1152, kh_1159, kh_heatDay, kh_1177, kh_1179, kh_storesDay2, kh_1181] kh_dayGoes_y D tc ad kd N sm xs p s m args meth c sz) (H0 : as_in ad sm wd_fl2 xs S kh_dayGoes.2.2.2.2.2.1 xs (hd_0 kh_dayGoes) lvE [] S) (hpre : P_dayGoes xs S) {k : Nat} (ih : kh_dayGoes_I l D tc ad kd N sm xs S p e s m args below meth c sz k) : (∀ (α : List av_X) (lv : List (Nat × Value)) (st : List Value) (S1 : fw_S), as_in ad sm wd_fl2 xs S kh_dayGoes.2.2.2.2.2.1 α kh_dayGoes_a45.2.2.1 lv st S1 → (S1.1 806 0 = S.1 806 0 ∧ blF (S1.1 806) 1 ∧ nv α 1 = (S.1 806 0).toInt + 1 ∧ nv α 1 ≤ 999) → 1 < k + 1 → hd_WR R_dayGoes wd_fl2 kh_dayGoes kh_dayGoes_y l D tc ad kd N sm xs S p e s m args below meth c sz 45 lv st S1 0) := by
  have hx : xs.length = 1 := by rw [H0.2.1.1]; rfl
  intro α lv st S1 H hp hk
  have bp := (en_nv (i := 1) H.2.1 rfl).2
  change 1 ≤ nv α 1 ∧ nv α 1 ≤ 1000 at bp
  replace H := as_clamp (i := 1) (lo := 1) (hi := 999) H rfl rfl (by omega) (by exact hp.2.2.2) (by decide)
  obtain ⟨α1, hle, Hr⟩ := as_recM (pl := []) [((806, 806), (0, 0, 0))] (by decide +kernel) H
  have hf := H.2.2.2.2.2.2.2.2.2.2.1
  have hl1 : α1.length = 4 := by rw [Hr.2.1.1]; rfl
  have hl0 : α.length = 4 := by rw [H.2.1.1]; rfl
  have hxa : al_le xs α1 := H.1.trans hle
  obtain ⟨g1, -, g3, g4, -⟩ := as_fx Hr
  have g0 : (805 ≤ nv α1 0 ∧ nv α1 0 ≤ 805) ∧ (1 ≤ nv α1 1 ∧ nv α1 1 ≤ 999) ∧ (0 ≤ nv α1 2 ∧ nv α1 2 ≤ 0) ∧ (806 ≤ nv α1 3 ∧ nv α1 3 ≤ 806) ∧ True := by
    refine ⟨by have h := (en_nv (i := 0) Hr.2.1 rfl).2; exact h, by have h := (en_nv (i := 1) Hr.2.1 rfl).2; exact h, by have h := (en_nv (i := 2) Hr.2.1 rfl).2; exact h, by have h := (en_nv (i := 3) Hr.2.1 rfl).2; exact h, trivial⟩
  have r0 : nv α1 0 = nv α 0 := nv_le hle (by omega)
  have r1 : nv α1 1 = nv α 1 := nv_le hle (by omega)
  have r2 : nv α1 2 = nv α 2 := nv_le hle (by omega)
  have r3 : nv α1 3 = nv α 3 := nv_le hle (by omega)
  refine hd_segMR G (na := 4) (fuel := 600) (first := true) (Bs := [kh_dayGoes_b45_0]) (by decide +kernel) hl1 Hr ?_
  intro q hq β lv' st' S' H1
  simp only [List.mem_cons, List.not_mem_nil, or_false] at hq
  rcases hq with rfl
  · obtain ⟨f1, f2, f3, f4, f5⟩ := as_fx H1
    simp only [kh_dayGoes_b45_0, fx_env, fx_c, fx_ne, fx_hf, wl_S, Nat.zero_add, Nat.reduceAdd, Nat.reduceDiv, Nat.reduceMod, List.getElem?_cons_zero, List.getElem?_cons_succ, if_true, and_true, true_and] at f1 f2 f3 f4 f5
    have fe0 : nv β 0 = 805 := by omega
    have fe2 : nv β 2 = 0 := by omega
    have fe3 : nv β 3 = 806 := by omega
    try simp only [fe0, fe2, fe3, Int.reduceToNat] at f2 f3 f4 f5
    have s0 : nv β 0 = nv α1 0 := nv_le H1.1 (by omega)
    have s1 : nv β 1 = nv α1 1 := nv_le H1.1 (by omega)
    have s2 : nv β 2 = nv α1 2 := nv_le H1.1 (by omega)
    have s3 : nv β 3 = nv α1 3 := nv_le H1.1 (by omega)
    obtain ⟨p1, p2, p3, p4⟩ := hp
    have hv : (S'.1 806 0).toInt = nv β 1 := by rw [f5, fw_i_row, if_pos rfl, i32_of (by omega) (by omega)]
    have hb : blF (S'.1 806) 0 := by
      intro c' hc'
      have h := p2 c' hc'
      rw [hv, f5, fw_i_row, if_neg (by omega)]
      rw [p1] at h
      omega
    exact hd_retVR G (by decide +kernel) (as_fl_in (f := [515]) (as_backM H1 (by decide +kernel) hxa hf) (fun g hg' => by
      rcases List.mem_singleton.mp hg' with rfl
      rw [wd_fl2, if_neg (by decide)]
      exact hb)) (by decide +kernel) (by decide) (by show (S'.1 806 0).toInt = (S.1 806 0).toInt + 1; rw [hv]; omega)
set_option maxHeartbeats 16000000 in
set_option maxRecDepth 8000 in
theorem kh_dayGoes_okP : ct_okPR wd_fl2 kh_dayGoes P_dayGoes R_dayGoes := ct_handPR (P := P_dayGoes) (R := R_dayGoes) (ff := wd_ff2) (y := kh_dayGoes_y) (Cs := [kh_1149, kh_crewsDay, kh_1152, kh_1159, kh_heatDay, kh_1177, kh_1179, kh_storesDay2, kh_1181]) wd_fl2_ok rfl (List.forall_mem_cons.mpr ⟨kh_1149_ok, (List.forall_mem_cons.mpr ⟨kh_crewsDay_ok, (List.forall_mem_cons.mpr ⟨kh_1152_ok, (List.forall_mem_cons.mpr ⟨kh_1159_ok, (List.forall_mem_cons.mpr ⟨kh_heatDay_l2, (List.forall_mem_cons.mpr ⟨kh_1177_ok, (List.forall_mem_cons.mpr ⟨kh_1179_ok, (List.forall_mem_cons.mpr ⟨kh_storesDay2_ok, (List.forall_mem_cons.mpr ⟨kh_1181_ok, (List.forall_mem_nil _)⟩)⟩)⟩)⟩)⟩)⟩)⟩)⟩)⟩) (by decide +kernel) (fun l D tc ad kd N sm xs S p e s m args below meth c sz lv G H0 hpre => by
  have hx : xs.length = 1 := by rw [H0.2.1.1]; rfl
  have hP : ∀ (k : Nat), kh_dayGoes_I l D tc ad kd N sm xs S p e s m args below meth c sz k := by
    intro k
    induction k with
    | zero => exact ⟨fun _ _ _ _ _ _ h => absurd h (Nat.not_lt_zero _), fun _ _ _ _ _ _ h => absurd h (Nat.not_lt_zero _), trivial⟩
    | succ k ih => exact ⟨kh_dayGoes_h36 G H0 hpre ih, kh_dayGoes_h45 G H0 hpre ih, trivial⟩
  obtain ⟨α1, hle, Hr⟩ := as_recM (pl := []) [((805, 805), (21, 65, 1)), ((806, 806), (1, 515, 1)), ((806, 806), (66, 4071, 1)), ((806, 806), (4072, 4075, 1)), ((806, 806), (4076, 4079, 1)), ((806, 806), (4080, 4080, 0)), ((806, 806), (4081, 4104, 1)), ((807, 807), (0, 3501, 1)), ((813, 813), (0, 11, 1)), ((814, 814), (0, 11, 1)), ((815, 815), (0, 16, 1)), ((816, 816), (0, 16, 1)), ((817, 817), (0, 11, 1)), ((818, 818), (0, 3, 1)), ((819, 819), (0, 11, 1)), ((820, 820), (0, 16, 1)), ((821, 821), (0, 2, 1)), ((822, 822), (0, 1, 1)), ((823, 823), (0, 9, 1)), ((824, 824), (0, 9, 1)), ((825, 825), (0, 11, 1)), ((827, 827), (0, 2, 1)), ((827, 827), (3, 6, 1)), ((828, 828), (0, 2, 1)), ((828, 828), (3, 6, 1)), ((829, 829), (0, 6, 1)), ((830, 830), (0, 6, 1)), ((831, 831), (0, 11, 1)), ((832, 832), (0, 11, 1)), ((833, 833), (0, 11, 1)), ((834, 834), (0, 11, 1)), ((835, 835), (0, 11, 1)), ((836, 836), (0, 11, 1)), ((837, 837), (0, 11, 1)), ((838, 838), (0, 11, 1)), ((839, 839), (0, 33, 1)), ((840, 840), (0, 11, 1)), ((841, 841), (0, 10, 1)), ((843, 843), (0, 1, 1)), ((844, 844), (0, 9, 1)), ((845, 845), (0, 11, 1)), ((846, 846), (0, 1, 1)), ((847, 847), (0, 1, 1)), ((848, 848), (0, 33, 1)), ((849, 849), (0, 16, 1)), ((850, 850), (0, 11, 1)), ((851, 851), (0, 11, 1)), ((852, 852), (0, 11, 1)), ((854, 854), (0, 11, 1)), ((855, 855), (0, 23, 1)), ((856, 856), (0, 287, 1)), ((857, 857), (0, 9, 1)), ((858, 858), (0, 9, 1)), ((859, 859), (0, 2, 1))] (by decide +kernel) H0
  have hf := H0.2.2.2.2.2.2.2.2.2.2.1
  have hl1 : α1.length = 1 := by rw [Hr.2.1.1]; rfl
  have hl0 : xs.length = 1 := by rw [H0.2.1.1]; rfl
  have hxa : al_le xs α1 := H0.1.trans hle
  obtain ⟨g1, -, g3, g4, -⟩ := as_fx Hr
  have g0 : (805 ≤ nv α1 0 ∧ nv α1 0 ≤ 805) ∧ True := by
    refine ⟨by have h := (en_nv (i := 0) Hr.2.1 rfl).2; exact h, trivial⟩
  have r0 : nv α1 0 = nv xs 0 := nv_le hle (by omega)
  refine hd_segMR G (na := 1) (fuel := 600) (first := true) (Bs := [kh_dayGoes_b0_0]) (by decide +kernel) hl1 Hr ?_
  intro q hq β lv' st' S' H1
  simp only [List.mem_cons, List.not_mem_nil, or_false] at hq
  rcases hq with rfl
  · obtain ⟨f1, f2, f3, f4, f5⟩ := as_fx H1
    simp only [kh_dayGoes_b0_0, fx_env, fx_c, fx_ne, fx_hf, wl_S, Nat.zero_add, Nat.reduceAdd, Nat.reduceDiv, Nat.reduceMod, List.getElem?_cons_zero, List.getElem?_cons_succ, if_true, and_true, true_and] at f1 f2 f3 f4 f5
    have fe0 : nv β 0 = 805 := by omega
    try simp only [fe0, Int.reduceToNat] at f2 f3 f4 f5
    have s0 : nv β 0 = nv α1 0 := nv_le H1.1 (by omega)
    obtain ⟨α', Ha, hm⟩ := hd_gpM (q := kh_dayGoes_a36) (n := 0) (by decide +kernel) hx H1 (by decide +kernel) hxa hf
    have hfr := H1.2.2.2.2.2.2.2.2.2.2.1
    have m0 : nv α' 0 = nv β 0 := hm 0 0 rfl
    have hq : blF (S'.1 806) 1 := by
      have h := H1.2.2.2.2.2.2.2.2.1 516 (by decide +kernel)
      rw [wd_fl2, if_neg (by decide)] at h
      exact h
    have e0 := fr_pl hfr 806 0 (by decide +kernel)
    refine (hP _).1 _ _ _ _ Ha ?_ (Nat.lt_succ_self _)
    · exact ⟨e0, hq⟩)
abbrev kh_pass_y : mt_T := (⟨"UtilityWorksModel", "pass", "(I)I"⟩, prog_14_method_39_code, 3, some .int, 12, 1, 1, 33044, 33042, 33043, 21014)
def kh_pass : ct_T := (377, [(2, 805, 805, 0), (0, (-2147483648), 2147483647, 1)], [], [510, 513, 515], [(1, (0, 0, 999, 1), [(2, 805, 805, 0), (0, (-2147483648), 2147483647, 1)], [], ([510, 513, 515], []))], [((805, 805), (8, 8, 0)), ((805, 805), (21, 65, 1)), ((806, 806), (0, 4104, 1)), ((807, 807), (0, 3501, 1)), ((813, 813), (0, 11, 1)), ((814, 814), (0, 11, 1)), ((815, 815), (0, 16, 1)), ((816, 816), (0, 16, 1)), ((817, 817), (0, 11, 1)), ((818, 818), (0, 3, 1)), ((819, 819), (0, 11, 1)), ((820, 820), (0, 16, 1)), ((821, 821), (0, 2, 1)), ((822, 822), (0, 1, 1)), ((823, 823), (0, 9, 1)), ((824, 824), (0, 9, 1)), ((825, 825), (0, 11, 1)), ((827, 827), (0, 2, 1)), ((827, 827), (3, 6, 1)), ((828, 828), (0, 2, 1)), ((828, 828), (3, 6, 1)), ((829, 829), (0, 6, 1)), ((830, 830), (0, 6, 1)), ((831, 831), (0, 11, 1)), ((832, 832), (0, 11, 1)), ((833, 833), (0, 11, 1)), ((834, 834), (0, 11, 1)), ((835, 835), (0, 11, 1)), ((836, 836), (0, 11, 1)), ((837, 837), (0, 11, 1)), ((838, 838), (0, 11, 1)), ((839, 839), (0, 33, 1)), ((840, 840), (0, 11, 1)), ((841, 841), (0, 10, 1)), ((843, 843), (0, 1, 1)), ((844, 844), (0, 9, 1)), ((845, 845), (0, 11, 1)), ((846, 846), (0, 1, 1)), ((847, 847), (0, 1, 1)), ((848, 848), (0, 33, 1)), ((849, 849), (0, 16, 1)), ((850, 850), (0, 11, 1)), ((851, 851), (0, 11, 1)), ((852, 852), (0, 11, 1)), ((854, 854), (0, 11, 1)), ((855, 855), (0, 23, 1)), ((856, 856), (0, 287, 1)), ((857, 857), (0, 9, 1)), ((858, 858), (0, 9, 1)), ((859, 859), (0, 2, 1))], 11, 251, 0)
def kh_pass_a17 : an_T := (17, 0, ([((2, 805, 805, 0), none), ((0, 1, 60, 1), none)], [(0, 0), (1, 1)], [], [], [], [], [], [510, 513, 515], none), [])
def kh_pass_a46 : an_T := (46, 0, ([((2, 805, 805, 0), none), ((0, 1, 60, 1), none), ((0, 0, 60, 1), none)], [(0, 0), (1, 1), (2, 2)], [], [], [], [], [], [510, 513, 515], none), [])
def kh_pass_a52 : an_T := (52, 0, ([((2, 805, 805, 0), none), ((0, 1, 60, 1), none), ((0, 0, 59, 1), none)], [(0, 0), (1, 1), (2, 2)], [0], [], [], [], [], [510, 513, 515], none), [])
def kh_pass_a55 : an_T := (55, 0, ([((2, 805, 805, 0), none), ((0, 1, 60, 1), none), ((0, 0, 59, 1), none)], [(0, 0), (1, 1), (2, 2)], [], [], [], [], [], [510, 513, 515], none), [])
def kh_pass_b0_0 : sg_T := (16, 0, ([((2, 805, 805, 0), none), ((0, (-2147483648), 2147483647, 1), none), ((0, 1, 1, 0), none), ((0, 60, 60, 0), none), ((0, 0, 0, 0), none), ((0, 1, 1, 0), none), ((0, 1, 1, 0), none), ((0, 0, 0, 0), none)], [(0, 0), (1, 1)], [7], [], [(6, 0)], [(4600004, 1, 1)], [], [510, 513, 515], none))
def kh_pass_b0_1 : sg_T := (17, 0, ([((2, 805, 805, 0), none), ((0, 1, 60, 1), none), ((0, 1, 1, 0), none), ((0, 60, 60, 0), none), ((0, 1, 1, 0), none), ((0, 1, 1, 0), none), ((0, 0, 0, 0), none)], [(0, 0), (1, 1)], [], [], [], [(4600004, 1, 1)], [], [510, 513, 515], none))
def kh_pass_b17_0 : sg_T := (43, 0, ([((2, 805, 805, 0), none), ((0, 1, 60, 1), none), ((0, 0, 999, 1), none), ((0, 1000, 1059, 1), none), ((0, 999, 999, 0), none), ((0, 0, 0, 0), none), ((0, 2, 2, 0), none), ((0, 1, 1, 0), none), ((0, 0, 0, 0), none)], [(0, 0), (1, 1)], [8], [], [(7, 0)], [(100000, 4, 3), (500003, 2, 1), (103300002, 0, 0)], [], [510, 513, 515], none))
def kh_pass_b17_1 : sg_T := (46, 0, ([((2, 805, 805, 0), none), ((0, 1, 60, 1), none), ((0, 0, 999, 1), none), ((0, 1, 999, 1), none), ((0, 999, 999, 0), none), ((0, 1, 1, 0), none), ((0, 2, 2, 0), none), ((0, 0, 0, 0), none), ((0, 0, 0, 0), none)], [(2, 8), (0, 0), (1, 1)], [], [], [], [(200000, 3, 4), (500003, 2, 1), (103300002, 0, 0)], [], [510, 513, 515], none))
def kh_pass_b46_0 : sg_T := (69, 0, ([((2, 805, 805, 0), none), ((0, 1, 60, 1), none), ((0, 1, 60, 1), none), ((0, 0, 999, 1), none)], [(0, 0), (1, 1), (2, 2)], [3], [], [], [(200000, 1, 2)], [], [510, 513, 515], none))
def kh_pass_b46_1 : sg_T := (52, 0, ([((2, 805, 805, 0), none), ((0, 1, 60, 1), none), ((0, 0, 59, 1), none)], [(0, 0), (1, 1), (2, 2)], [0], [], [], [(100000, 2, 1)], [], [510, 513, 515], some []))
def kh_pass_b52_0 : sg_T := (55, 0, ([((2, 805, 805, 0), none), ((0, 1, 60, 1), none), ((0, 0, 59, 1), none)], [(0, 0), (1, 1), (2, 2)], [], [], [], [], [], [510, 513, 515], none))
def kh_pass_b55_0 : sg_T := (46, 0, ([((2, 805, 805, 0), none), ((0, 1, 60, 1), none), ((0, 0, 59, 1), none), ((0, 1, 60, 1), some (2, 1))], [(2, 3), (0, 0), (1, 1)], [], [], [], [], [], [510, 513, 515], some []))
def kh_pass_I (l : Launch) (D : va_G) (tc : Nat → ClassId) (ad : Nat → Nat) (kd : Nat → Nat × Nat) (N : Nat) (sm : Nat → Nat) (xs : List av_X) (S : fw_S) (p : Program) (e : Env) (s : State) (m : MethodId) (args : Array Value) (below : List Frame) (meth : Method) (c : Code) (sz : Nat) (k : Nat) : Prop := (∀ (α : List av_X) (lv : List (Nat × Value)) (st : List Value) (S1 : fw_S), as_in ad sm wd_fl2 xs S kh_pass.2.2.2.2.2.1 α kh_pass_a17.2.2.1 lv st S1 → (True) → 10000 < k → hd_W wd_fl2 kh_pass kh_pass_y l D tc ad kd N sm xs S p e s m args below meth c sz 17 lv st S1 0) ∧ (∀ (α : List av_X) (lv : List (Nat × Value)) (st : List Value) (S1 : fw_S), as_in ad sm wd_fl2 xs S kh_pass.2.2.2.2.2.1 α kh_pass_a46.2.2.1 lv st S1 → ((S1.1 806 0).toInt + (nv α 1 - nv α 2 - 0) ≤ 999 ∧ 0 ≤ nv α 2) → (100 - nv α 2).toNat * 10 + 9 < k → hd_W wd_fl2 kh_pass kh_pass_y l D tc ad kd N sm xs S p e s m args below meth c sz 46 lv st S1 0) ∧ (∀ (α : List av_X) (lv : List (Nat × Value)) (st : List Value) (S1 : fw_S), as_in ad sm wd_fl2 xs S kh_pass.2.2.2.2.2.1 α kh_pass_a52.2.2.1 lv st S1 → ((S1.1 806 0).toInt + (nv α 1 - nv α 2 - 0) ≤ 999 ∧ 0 ≤ nv α 2 ∧ nv α 2 < nv α 1) → (100 - nv α 2).toNat * 10 + 8 < k → hd_W wd_fl2 kh_pass kh_pass_y l D tc ad kd N sm xs S p e s m args below meth c sz 52 lv st S1 0) ∧ (∀ (α : List av_X) (lv : List (Nat × Value)) (st : List Value) (S1 : fw_S), as_in ad sm wd_fl2 xs S kh_pass.2.2.2.2.2.1 α kh_pass_a55.2.2.1 lv st S1 → ((S1.1 806 0).toInt + (nv α 1 - nv α 2 - 1) ≤ 999 ∧ 0 ≤ nv α 2 ∧ nv α 2 < nv α 1) → (100 - nv α 2).toNat * 10 + 7 < k → hd_W wd_fl2 kh_pass kh_pass_y l D tc ad kd N sm xs S p e s m args below meth c sz 55 lv st S1 0) ∧ True
set_option maxHeartbeats 16000000 in
set_option maxRecDepth 8000 in
theorem kh_pass_h17 {l : Launch} {D : va_G} {tc : Nat → ClassId} {ad : Nat → Nat} {kd : Nat → Nat × Nat} {N : Nat} {sm : Nat → Nat} {xs : List av_X} {S : fw_S} {p : Program} {e : Env} {s : State} {m : MethodId} {args : Array Value} {below : List Frame} {meth : Method} {c : Code} {sz : Nat} {lvE : List (Nat × Value)} (G : hd_C wd_ff2 wd_fl2 kh_pass [kh_in6, kh_592, kh_588, kh_day, kh_591, kh_590, kh_651] kh_pass_y D tc ad kd N sm xs p s m args meth c sz) (H0 : as_in ad sm wd_fl2 xs S kh_pass.2.2.2.2.2.1 xs (hd_0 kh_pass) lvE [] S) {k : Nat} (ih : kh_pass_I l D tc ad kd N sm xs S p e s m args below meth c sz k) : (∀ (α : List av_X) (lv : List (Nat × Value)) (st : List Value) (S1 : fw_S), as_in ad sm wd_fl2 xs S kh_pass.2.2.2.2.2.1 α kh_pass_a17.2.2.1 lv st S1 → (True) → 10000 < k + 1 → hd_W wd_fl2 kh_pass kh_pass_y l D tc ad kd N sm xs S p e s m args below meth c sz 17 lv st S1 0) := by
  have hx : xs.length = 2 := by rw [H0.2.1.1]; rfl
  intro α lv st S1 H hp hk
  obtain ⟨α1, hle, Hr⟩ := as_recM (pl := []) [((805, 805), (8, 8, 0))] (by decide +kernel) H
  have hf := H.2.2.2.2.2.2.2.2.2.2.1
  have hl1 : α1.length = 2 := by rw [Hr.2.1.1]; rfl
  have hl0 : α.length = 2 := by rw [H.2.1.1]; rfl
  have hxa : al_le xs α1 := H.1.trans hle
  obtain ⟨g1, -, g3, g4, -⟩ := as_fx Hr
  have g0 : (805 ≤ nv α1 0 ∧ nv α1 0 ≤ 805) ∧ (1 ≤ nv α1 1 ∧ nv α1 1 ≤ 60) ∧ True := by
    refine ⟨by have h := (en_nv (i := 0) Hr.2.1 rfl).2; exact h, by have h := (en_nv (i := 1) Hr.2.1 rfl).2; exact h, trivial⟩
  have r0 : nv α1 0 = nv α 0 := nv_le hle (by omega)
  have r1 : nv α1 1 = nv α 1 := nv_le hle (by omega)
  refine hd_segM G (na := 2) (fuel := 600) (first := true) (Bs := [kh_pass_b17_0, kh_pass_b17_1]) (by decide +kernel) hl1 Hr ?_
  intro q hq β lv' st' S' H1
  simp only [List.mem_cons, List.not_mem_nil, or_false] at hq
  rcases hq with rfl | rfl
  · obtain ⟨f1, f2, f3, f4, f5⟩ := as_fx H1
    simp only [kh_pass_b17_0, fx_env, fx_c, fx_ne, fx_hf, wl_S, Nat.zero_add, Nat.reduceAdd, Nat.reduceDiv, Nat.reduceMod, List.getElem?_cons_zero, List.getElem?_cons_succ, if_true, and_true, true_and] at f1 f2 f3 f4 f5
    have fe0 : nv β 0 = 805 := by omega
    have fe4 : nv β 4 = 999 := by omega
    have fe5 : nv β 5 = 0 := by omega
    have fe6 : nv β 6 = 2 := by omega
    have fe7 : nv β 7 = 1 := by omega
    have fe8 : nv β 8 = 0 := by omega
    try simp only [fe0, fe4, fe5, fe6, fe7, fe8, Int.reduceToNat] at f2 f3 f4 f5
    have s0 : nv β 0 = nv α1 0 := nv_le H1.1 (by omega)
    have s1 : nv β 1 = nv α1 1 := nv_le H1.1 (by omega)
    obtain ⟨c0, c1, c2⟩ := f2
    exact hd_run G (ss := []) (fuel := 20) (by decide +kernel) (as_backM H1 (by decide +kernel) hxa hf)
  · obtain ⟨f1, f2, f3, f4, f5⟩ := as_fx H1
    simp only [kh_pass_b17_1, fx_env, fx_c, fx_ne, fx_hf, wl_S, Nat.zero_add, Nat.reduceAdd, Nat.reduceDiv, Nat.reduceMod, List.getElem?_cons_zero, List.getElem?_cons_succ, if_true, and_true, true_and] at f1 f2 f3 f4 f5
    have fe0 : nv β 0 = 805 := by omega
    have fe4 : nv β 4 = 999 := by omega
    have fe5 : nv β 5 = 1 := by omega
    have fe6 : nv β 6 = 2 := by omega
    have fe7 : nv β 7 = 0 := by omega
    have fe8 : nv β 8 = 0 := by omega
    try simp only [fe0, fe4, fe5, fe6, fe7, fe8, Int.reduceToNat] at f2 f3 f4 f5
    have s0 : nv β 0 = nv α1 0 := nv_le H1.1 (by omega)
    have s1 : nv β 1 = nv α1 1 := nv_le H1.1 (by omega)
    obtain ⟨c0, c1, c2⟩ := f2
    obtain ⟨α', Ha, hm⟩ := hd_gpM (q := kh_pass_a46) (n := 0) (by decide +kernel) hx H1 (by decide +kernel) hxa hf
    have hfr := H1.2.2.2.2.2.2.2.2.2.2.1
    have m0 : nv α' 0 = nv β 0 := hm 0 0 rfl
    have m1 : nv α' 1 = nv β 1 := hm 1 1 rfl
    have m2 : nv α' 2 = nv β 8 := hm 2 8 rfl
    have d2 := c2
    simp only [wd_fl2, if_neg (show ¬ (wd_base1 1033 = true) by decide)] at d2
    refine ih.2.1 _ _ _ _ Ha ?_ ?_
    · rw [m1, m2, fr_row hfr 806 (by decide +kernel), ← d2]; exact ⟨by omega, by omega⟩
    · rw [m2]; omega
set_option maxHeartbeats 16000000 in
set_option maxRecDepth 8000 in
theorem kh_pass_h46 {l : Launch} {D : va_G} {tc : Nat → ClassId} {ad : Nat → Nat} {kd : Nat → Nat × Nat} {N : Nat} {sm : Nat → Nat} {xs : List av_X} {S : fw_S} {p : Program} {e : Env} {s : State} {m : MethodId} {args : Array Value} {below : List Frame} {meth : Method} {c : Code} {sz : Nat} {lvE : List (Nat × Value)} (G : hd_C wd_ff2 wd_fl2 kh_pass [kh_in6, kh_592, kh_588, kh_day, kh_591, kh_590, kh_651] kh_pass_y D tc ad kd N sm xs p s m args meth c sz) (H0 : as_in ad sm wd_fl2 xs S kh_pass.2.2.2.2.2.1 xs (hd_0 kh_pass) lvE [] S) {k : Nat} (ih : kh_pass_I l D tc ad kd N sm xs S p e s m args below meth c sz k) : (∀ (α : List av_X) (lv : List (Nat × Value)) (st : List Value) (S1 : fw_S), as_in ad sm wd_fl2 xs S kh_pass.2.2.2.2.2.1 α kh_pass_a46.2.2.1 lv st S1 → ((S1.1 806 0).toInt + (nv α 1 - nv α 2 - 0) ≤ 999 ∧ 0 ≤ nv α 2) → (100 - nv α 2).toNat * 10 + 9 < k + 1 → hd_W wd_fl2 kh_pass kh_pass_y l D tc ad kd N sm xs S p e s m args below meth c sz 46 lv st S1 0) := by
  have hx : xs.length = 2 := by rw [H0.2.1.1]; rfl
  intro α lv st S1 H hp hk
  obtain ⟨α1, hle, Hr⟩ := as_recM (pl := []) [((805, 805), (8, 8, 0))] (by decide +kernel) H
  have hf := H.2.2.2.2.2.2.2.2.2.2.1
  have hl1 : α1.length = 3 := by rw [Hr.2.1.1]; rfl
  have hl0 : α.length = 3 := by rw [H.2.1.1]; rfl
  have hxa : al_le xs α1 := H.1.trans hle
  obtain ⟨g1, -, g3, g4, -⟩ := as_fx Hr
  have g0 : (805 ≤ nv α1 0 ∧ nv α1 0 ≤ 805) ∧ (1 ≤ nv α1 1 ∧ nv α1 1 ≤ 60) ∧ (0 ≤ nv α1 2 ∧ nv α1 2 ≤ 60) ∧ True := by
    refine ⟨by have h := (en_nv (i := 0) Hr.2.1 rfl).2; exact h, by have h := (en_nv (i := 1) Hr.2.1 rfl).2; exact h, by have h := (en_nv (i := 2) Hr.2.1 rfl).2; exact h, trivial⟩
  have r0 : nv α1 0 = nv α 0 := nv_le hle (by omega)
  have r1 : nv α1 1 = nv α 1 := nv_le hle (by omega)
  have r2 : nv α1 2 = nv α 2 := nv_le hle (by omega)
  refine hd_segM G (na := 3) (fuel := 600) (first := true) (Bs := [kh_pass_b46_0, kh_pass_b46_1]) (by decide +kernel) hl1 Hr ?_
  intro q hq β lv' st' S' H1
  simp only [List.mem_cons, List.not_mem_nil, or_false] at hq
  rcases hq with rfl | rfl
  · obtain ⟨f1, f2, f3, f4, f5⟩ := as_fx H1
    simp only [kh_pass_b46_0, fx_env, fx_c, fx_ne, fx_hf, wl_S, Nat.zero_add, Nat.reduceAdd, Nat.reduceDiv, Nat.reduceMod, List.getElem?_cons_zero, List.getElem?_cons_succ, if_true, and_true, true_and] at f1 f2 f3 f4 f5
    have fe0 : nv β 0 = 805 := by omega
    try simp only [fe0, Int.reduceToNat] at f2 f3 f4 f5
    have s0 : nv β 0 = nv α1 0 := nv_le H1.1 (by omega)
    have s1 : nv β 1 = nv α1 1 := nv_le H1.1 (by omega)
    have s2 : nv β 2 = nv α1 2 := nv_le H1.1 (by omega)
    have c0 := f2
    exact hd_run G (ss := []) (fuel := 20) (by decide +kernel) (as_backM H1 (by decide +kernel) hxa hf)
  · obtain ⟨f1, f2, f3, f4, f5⟩ := as_fx H1
    simp only [kh_pass_b46_1, fx_env, fx_c, fx_ne, fx_hf, wl_S, Nat.zero_add, Nat.reduceAdd, Nat.reduceDiv, Nat.reduceMod, List.getElem?_cons_zero, List.getElem?_cons_succ, if_true, and_true, true_and] at f1 f2 f3 f4 f5
    have fe0 : nv β 0 = 805 := by omega
    try simp only [fe0, Int.reduceToNat] at f2 f3 f4 f5
    have s0 : nv β 0 = nv α1 0 := nv_le H1.1 (by omega)
    have s1 : nv β 1 = nv α1 1 := nv_le H1.1 (by omega)
    have s2 : nv β 2 = nv α1 2 := nv_le H1.1 (by omega)
    have c0 := f2
    obtain ⟨α', Ha, hm⟩ := hd_gpM (q := kh_pass_a52) (n := 0) (by decide +kernel) hx H1 (by decide +kernel) hxa hf
    have hfr := H1.2.2.2.2.2.2.2.2.2.2.1
    have m0 : nv α' 0 = nv β 0 := hm 0 0 rfl
    have m1 : nv α' 1 = nv β 1 := hm 1 1 rfl
    have m2 : nv α' 2 = nv β 2 := hm 2 2 rfl
    subst S'
    refine ih.2.2.1 _ _ _ _ Ha ?_ ?_
    · rw [m1, m2]; exact ⟨by omega, by omega, by omega⟩
    · rw [m2]; omega
set_option maxHeartbeats 16000000 in
set_option maxRecDepth 8000 in
theorem kh_pass_h52 {l : Launch} {D : va_G} {tc : Nat → ClassId} {ad : Nat → Nat} {kd : Nat → Nat × Nat} {N : Nat} {sm : Nat → Nat} {xs : List av_X} {S : fw_S} {p : Program} {e : Env} {s : State} {m : MethodId} {args : Array Value} {below : List Frame} {meth : Method} {c : Code} {sz : Nat} {lvE : List (Nat × Value)} (G : hd_C wd_ff2 wd_fl2 kh_pass [kh_in6, kh_592, kh_588, kh_day, kh_591, kh_590, kh_651] kh_pass_y D tc ad kd N sm xs p s m args meth c sz) (H0 : as_in ad sm wd_fl2 xs S kh_pass.2.2.2.2.2.1 xs (hd_0 kh_pass) lvE [] S) {k : Nat} (ih : kh_pass_I l D tc ad kd N sm xs S p e s m args below meth c sz k) : (∀ (α : List av_X) (lv : List (Nat × Value)) (st : List Value) (S1 : fw_S), as_in ad sm wd_fl2 xs S kh_pass.2.2.2.2.2.1 α kh_pass_a52.2.2.1 lv st S1 → ((S1.1 806 0).toInt + (nv α 1 - nv α 2 - 0) ≤ 999 ∧ 0 ≤ nv α 2 ∧ nv α 2 < nv α 1) → (100 - nv α 2).toNat * 10 + 8 < k + 1 → hd_W wd_fl2 kh_pass kh_pass_y l D tc ad kd N sm xs S p e s m args below meth c sz 52 lv st S1 0) := by
  have hx : xs.length = 2 := by rw [H0.2.1.1]; rfl
  intro α lv st S1 H hp hk
  obtain ⟨α1, hle, Hr⟩ := as_recM (pl := []) [((805, 805), (21, 65, 1)), ((806, 806), (0, 4104, 1)), ((807, 807), (0, 3501, 1)), ((813, 813), (0, 11, 1)), ((814, 814), (0, 11, 1)), ((815, 815), (0, 16, 1)), ((816, 816), (0, 16, 1)), ((817, 817), (0, 11, 1)), ((818, 818), (0, 3, 1)), ((819, 819), (0, 11, 1)), ((820, 820), (0, 16, 1)), ((821, 821), (0, 2, 1)), ((822, 822), (0, 1, 1)), ((823, 823), (0, 9, 1)), ((824, 824), (0, 9, 1)), ((825, 825), (0, 11, 1)), ((827, 827), (0, 2, 1)), ((827, 827), (3, 6, 1)), ((828, 828), (0, 2, 1)), ((828, 828), (3, 6, 1)), ((829, 829), (0, 6, 1)), ((830, 830), (0, 6, 1)), ((831, 831), (0, 11, 1)), ((832, 832), (0, 11, 1)), ((833, 833), (0, 11, 1)), ((834, 834), (0, 11, 1)), ((835, 835), (0, 11, 1)), ((836, 836), (0, 11, 1)), ((837, 837), (0, 11, 1)), ((838, 838), (0, 11, 1)), ((839, 839), (0, 33, 1)), ((840, 840), (0, 11, 1)), ((841, 841), (0, 10, 1)), ((843, 843), (0, 1, 1)), ((844, 844), (0, 9, 1)), ((845, 845), (0, 11, 1)), ((846, 846), (0, 1, 1)), ((847, 847), (0, 1, 1)), ((848, 848), (0, 33, 1)), ((849, 849), (0, 16, 1)), ((850, 850), (0, 11, 1)), ((851, 851), (0, 11, 1)), ((852, 852), (0, 11, 1)), ((854, 854), (0, 11, 1)), ((855, 855), (0, 23, 1)), ((856, 856), (0, 287, 1)), ((857, 857), (0, 9, 1)), ((858, 858), (0, 9, 1)), ((859, 859), (0, 2, 1))] (by decide +kernel) H
  have hf := H.2.2.2.2.2.2.2.2.2.2.1
  have hl1 : α1.length = 3 := by rw [Hr.2.1.1]; rfl
  have hl0 : α.length = 3 := by rw [H.2.1.1]; rfl
  have hxa : al_le xs α1 := H.1.trans hle
  obtain ⟨g1, -, g3, g4, -⟩ := as_fx Hr
  have g0 : (805 ≤ nv α1 0 ∧ nv α1 0 ≤ 805) ∧ (1 ≤ nv α1 1 ∧ nv α1 1 ≤ 60) ∧ (0 ≤ nv α1 2 ∧ nv α1 2 ≤ 59) ∧ True := by
    refine ⟨by have h := (en_nv (i := 0) Hr.2.1 rfl).2; exact h, by have h := (en_nv (i := 1) Hr.2.1 rfl).2; exact h, by have h := (en_nv (i := 2) Hr.2.1 rfl).2; exact h, trivial⟩
  have r0 : nv α1 0 = nv α 0 := nv_le hle (by omega)
  have r1 : nv α1 1 = nv α 1 := nv_le hle (by omega)
  have r2 : nv α1 2 = nv α 2 := nv_le hle (by omega)
  refine hd_callPN (Rr := R_dayGoes) (Rs := [kh_dayGoes]) (idx := 321) G (List.forall_mem_cons.mpr ⟨kh_dayGoes_okP, List.forall_mem_nil _⟩) (fun Cc hCc ys hnm => by
      show (S1.1 806 0).toInt ≤ 998
      omega) (na := 3) (Bs := [kh_pass_b52_0]) (by decide +kernel) (by decide +kernel) hl1 Hr ?_
  intro q hq β lv' st' S' H1 hRx
  simp only [List.mem_cons, List.not_mem_nil, or_false] at hq
  rcases hq with rfl
  · obtain ⟨f1, f2, f3, f4, f5⟩ := as_fx H1
    simp only [kh_pass_b52_0, fx_env, fx_c, fx_ne, fx_hf, wl_S, Nat.zero_add, Nat.reduceAdd, Nat.reduceDiv, Nat.reduceMod, List.getElem?_cons_zero, List.getElem?_cons_succ, if_true, and_true, true_and] at f1 f2 f3 f4 f5
    have fe0 : nv β 0 = 805 := by omega
    try simp only [fe0, Int.reduceToNat] at f2 f3 f4 f5
    have s0 : nv β 0 = nv α1 0 := nv_le H1.1 (by omega)
    have s1 : nv β 1 = nv α1 1 := nv_le H1.1 (by omega)
    have s2 : nv β 2 = nv α1 2 := nv_le H1.1 (by omega)
    obtain ⟨α', Ha, hm⟩ := hd_gpM (q := kh_pass_a55) (n := 0) (by decide +kernel) hx H1 (by decide +kernel) hxa hf
    have hfr := H1.2.2.2.2.2.2.2.2.2.2.1
    have m0 : nv α' 0 = nv β 0 := hm 0 0 rfl
    have m1 : nv α' 1 = nv β 1 := hm 1 1 rfl
    have m2 : nv α' 2 = nv β 2 := hm 2 2 rfl
    obtain ⟨Cc, hCc, ys, rr, hnm, hR, rest, hre⟩ := hRx
    rcases List.mem_singleton.mp hCc with rfl
    have R1 : (S'.1 806 0).toInt = (S1.1 806 0).toInt + 1 := hR
    refine ih.2.2.2.1 _ _ _ _ Ha ?_ ?_
    · rw [m1, m2, R1]; exact ⟨by omega, by omega, by omega⟩
    · rw [m2]; omega
set_option maxHeartbeats 16000000 in
set_option maxRecDepth 8000 in
theorem kh_pass_h55 {l : Launch} {D : va_G} {tc : Nat → ClassId} {ad : Nat → Nat} {kd : Nat → Nat × Nat} {N : Nat} {sm : Nat → Nat} {xs : List av_X} {S : fw_S} {p : Program} {e : Env} {s : State} {m : MethodId} {args : Array Value} {below : List Frame} {meth : Method} {c : Code} {sz : Nat} {lvE : List (Nat × Value)} (G : hd_C wd_ff2 wd_fl2 kh_pass [kh_in6, kh_592, kh_588, kh_day, kh_591, kh_590, kh_651] kh_pass_y D tc ad kd N sm xs p s m args meth c sz) (H0 : as_in ad sm wd_fl2 xs S kh_pass.2.2.2.2.2.1 xs (hd_0 kh_pass) lvE [] S) {k : Nat} (ih : kh_pass_I l D tc ad kd N sm xs S p e s m args below meth c sz k) : (∀ (α : List av_X) (lv : List (Nat × Value)) (st : List Value) (S1 : fw_S), as_in ad sm wd_fl2 xs S kh_pass.2.2.2.2.2.1 α kh_pass_a55.2.2.1 lv st S1 → ((S1.1 806 0).toInt + (nv α 1 - nv α 2 - 1) ≤ 999 ∧ 0 ≤ nv α 2 ∧ nv α 2 < nv α 1) → (100 - nv α 2).toNat * 10 + 7 < k + 1 → hd_W wd_fl2 kh_pass kh_pass_y l D tc ad kd N sm xs S p e s m args below meth c sz 55 lv st S1 0) := by
  have hx : xs.length = 2 := by rw [H0.2.1.1]; rfl
  intro α lv st S1 H hp hk
  obtain ⟨α1, hle, Hr⟩ := as_recM (pl := []) [] (by decide +kernel) H
  have hf := H.2.2.2.2.2.2.2.2.2.2.1
  have hl1 : α1.length = 3 := by rw [Hr.2.1.1]; rfl
  have hl0 : α.length = 3 := by rw [H.2.1.1]; rfl
  have hxa : al_le xs α1 := H.1.trans hle
  obtain ⟨g1, -, g3, g4, -⟩ := as_fx Hr
  have g0 : (805 ≤ nv α1 0 ∧ nv α1 0 ≤ 805) ∧ (1 ≤ nv α1 1 ∧ nv α1 1 ≤ 60) ∧ (0 ≤ nv α1 2 ∧ nv α1 2 ≤ 59) ∧ True := by
    refine ⟨by have h := (en_nv (i := 0) Hr.2.1 rfl).2; exact h, by have h := (en_nv (i := 1) Hr.2.1 rfl).2; exact h, by have h := (en_nv (i := 2) Hr.2.1 rfl).2; exact h, trivial⟩
  have r0 : nv α1 0 = nv α 0 := nv_le hle (by omega)
  have r1 : nv α1 1 = nv α 1 := nv_le hle (by omega)
  have r2 : nv α1 2 = nv α 2 := nv_le hle (by omega)
  refine hd_segM G (na := 3) (fuel := 600) (first := true) (Bs := [kh_pass_b55_0]) (by decide +kernel) hl1 Hr ?_
  intro q hq β lv' st' S' H1
  simp only [List.mem_cons, List.not_mem_nil, or_false] at hq
  rcases hq with rfl
  · obtain ⟨f1, f2, f3, f4, f5⟩ := as_fx H1
    simp only [kh_pass_b55_0, fx_env, fx_c, fx_ne, fx_hf, wl_S, Nat.zero_add, Nat.reduceAdd, Nat.reduceDiv, Nat.reduceMod, List.getElem?_cons_zero, List.getElem?_cons_succ, if_true, and_true, true_and] at f1 f2 f3 f4 f5
    have fe0 : nv β 0 = 805 := by omega
    try simp only [fe0, Int.reduceToNat] at f2 f3 f4 f5
    have s0 : nv β 0 = nv α1 0 := nv_le H1.1 (by omega)
    have s1 : nv β 1 = nv α1 1 := nv_le H1.1 (by omega)
    have s2 : nv β 2 = nv α1 2 := nv_le H1.1 (by omega)
    obtain ⟨α', Ha, hm⟩ := hd_gpM (q := kh_pass_a46) (n := 0) (by decide +kernel) hx H1 (by decide +kernel) hxa hf
    have hfr := H1.2.2.2.2.2.2.2.2.2.2.1
    have m0 : nv α' 0 = nv β 0 := hm 0 0 rfl
    have m1 : nv α' 1 = nv β 1 := hm 1 1 rfl
    have m2 : nv α' 2 = nv β 3 := hm 2 3 rfl
    subst S'
    refine ih.2.1 _ _ _ _ Ha ?_ ?_
    · rw [m1, m2]; exact ⟨by omega, by omega⟩
    · rw [m2]; omega
set_option maxHeartbeats 16000000 in
set_option maxRecDepth 8000 in
theorem kh_pass_ok : ct_ok wd_fl2 kh_pass := ct_hand (ff := wd_ff2) (y := kh_pass_y) (Cs := [kh_in6, kh_592, kh_588, kh_day, kh_591, kh_590, kh_651]) wd_fl2_ok rfl (List.forall_mem_cons.mpr ⟨kh_in6_ok, (List.forall_mem_cons.mpr ⟨kh_592_ok, (List.forall_mem_cons.mpr ⟨kh_588_ok, (List.forall_mem_cons.mpr ⟨kh_day_ok, (List.forall_mem_cons.mpr ⟨kh_591_ok, (List.forall_mem_cons.mpr ⟨kh_590_ok, (List.forall_mem_cons.mpr ⟨kh_651_ok, (List.forall_mem_nil _)⟩)⟩)⟩)⟩)⟩)⟩)⟩) (by decide +kernel) (fun l D tc ad kd N sm xs S p e s m args below meth c sz lv G H0 => by
  have hx : xs.length = 2 := by rw [H0.2.1.1]; rfl
  have hP : ∀ (k : Nat), kh_pass_I l D tc ad kd N sm xs S p e s m args below meth c sz k := by
    intro k
    induction k with
    | zero => exact ⟨fun _ _ _ _ _ _ h => absurd h (Nat.not_lt_zero _), fun _ _ _ _ _ _ h => absurd h (Nat.not_lt_zero _), fun _ _ _ _ _ _ h => absurd h (Nat.not_lt_zero _), fun _ _ _ _ _ _ h => absurd h (Nat.not_lt_zero _), trivial⟩
    | succ k ih => exact ⟨kh_pass_h17 G H0 ih, kh_pass_h46 G H0 ih, kh_pass_h52 G H0 ih, kh_pass_h55 G H0 ih, trivial⟩
  obtain ⟨α1, hle, Hr⟩ := as_recM (pl := []) [((805, 805), (8, 8, 0))] (by decide +kernel) H0
  have hf := H0.2.2.2.2.2.2.2.2.2.2.1
  have hl1 : α1.length = 2 := by rw [Hr.2.1.1]; rfl
  have hl0 : xs.length = 2 := by rw [H0.2.1.1]; rfl
  have hxa : al_le xs α1 := H0.1.trans hle
  obtain ⟨g1, -, g3, g4, -⟩ := as_fx Hr
  have g0 : (805 ≤ nv α1 0 ∧ nv α1 0 ≤ 805) ∧ ((-2147483648) ≤ nv α1 1 ∧ nv α1 1 ≤ 2147483647) ∧ True := by
    refine ⟨by have h := (en_nv (i := 0) Hr.2.1 rfl).2; exact h, by have h := (en_nv (i := 1) Hr.2.1 rfl).2; exact h, trivial⟩
  have r0 : nv α1 0 = nv xs 0 := nv_le hle (by omega)
  have r1 : nv α1 1 = nv xs 1 := nv_le hle (by omega)
  refine hd_segM G (na := 2) (fuel := 600) (first := true) (Bs := [kh_pass_b0_0, kh_pass_b0_1]) (by decide +kernel) hl1 Hr ?_
  intro q hq β lv' st' S' H1
  simp only [List.mem_cons, List.not_mem_nil, or_false] at hq
  rcases hq with rfl | rfl
  · obtain ⟨f1, f2, f3, f4, f5⟩ := as_fx H1
    simp only [kh_pass_b0_0, fx_env, fx_c, fx_ne, fx_hf, wl_S, Nat.zero_add, Nat.reduceAdd, Nat.reduceDiv, Nat.reduceMod, List.getElem?_cons_zero, List.getElem?_cons_succ, if_true, and_true, true_and] at f1 f2 f3 f4 f5
    have fe0 : nv β 0 = 805 := by omega
    have fe2 : nv β 2 = 1 := by omega
    have fe3 : nv β 3 = 60 := by omega
    have fe4 : nv β 4 = 0 := by omega
    have fe5 : nv β 5 = 1 := by omega
    have fe6 : nv β 6 = 1 := by omega
    have fe7 : nv β 7 = 0 := by omega
    try simp only [fe0, fe2, fe3, fe4, fe5, fe6, fe7, Int.reduceToNat] at f2 f3 f4 f5
    have s0 : nv β 0 = nv α1 0 := nv_le H1.1 (by omega)
    have s1 : nv β 1 = nv α1 1 := nv_le H1.1 (by omega)
    have c0 := f2
    exact hd_run G (ss := []) (fuel := 20) (by decide +kernel) (as_backM H1 (by decide +kernel) hxa hf)
  · obtain ⟨f1, f2, f3, f4, f5⟩ := as_fx H1
    simp only [kh_pass_b0_1, fx_env, fx_c, fx_ne, fx_hf, wl_S, Nat.zero_add, Nat.reduceAdd, Nat.reduceDiv, Nat.reduceMod, List.getElem?_cons_zero, List.getElem?_cons_succ, if_true, and_true, true_and] at f1 f2 f3 f4 f5
    have fe0 : nv β 0 = 805 := by omega
    have fe2 : nv β 2 = 1 := by omega
    have fe3 : nv β 3 = 60 := by omega
    have fe4 : nv β 4 = 1 := by omega
    have fe5 : nv β 5 = 1 := by omega
    have fe6 : nv β 6 = 0 := by omega
    try simp only [fe0, fe2, fe3, fe4, fe5, fe6, Int.reduceToNat] at f2 f3 f4 f5
    have s0 : nv β 0 = nv α1 0 := nv_le H1.1 (by omega)
    have s1 : nv β 1 = nv α1 1 := nv_le H1.1 (by omega)
    have c0 := f2
    obtain ⟨α', Ha, hm⟩ := hd_gpM (q := kh_pass_a17) (n := 0) (by decide +kernel) hx H1 (by decide +kernel) hxa hf
    have hfr := H1.2.2.2.2.2.2.2.2.2.2.1
    have m0 : nv α' 0 = nv β 0 := hm 0 0 rfl
    have m1 : nv α' 1 = nv β 1 := hm 1 1 rfl
    refine (hP _).1 _ _ _ _ Ha ?_ (Nat.lt_succ_self _)
    · trivial)
