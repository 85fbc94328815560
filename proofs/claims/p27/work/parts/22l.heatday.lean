/-! ===== heatDay: what is burnt was there ===== -/
abbrev kh_hFuel_y : mt_T := (⟨"UtilityWorksModel", "hFuel", "(I)I"⟩, prog_14_method_175_code, 2, some .int, 12, 1, 1, 35041, 35040, 13004, 21014)
def kh_hFuel : ct_T := (497, [(2, 805, 805, 0), (0, 0, 1, 1)], [], [], [(1, (0, 0, 30, 1), [(2, 805, 805, 0), (0, 0, 1, 1)], [], ([], [(1018, 1, 1)]))], [], 0, 0, 0)
def kh_hFuel_b0_0 : sg_T := (12, 0, ([((2, 805, 805, 0), none), ((0, 0, 1, 1), none), ((2, 847, 847, 1), none), ((0, 0, 300, 1), none), ((0, 9, 9, 0), none), ((0, 9, 309, 1), some (3, 9)), ((0, 10, 10, 0), none), ((0, 0, 30, 1), none)], [(0, 0), (1, 1)], [7], [(2, 1, 3)], [], [(900007, 5, 6), (500005, 3, 4), (800003, 2, 1)], [], [], some []))
theorem kh_hFuel_ok : ct_ok wd_fl1 kh_hFuel := ct_hand (ff := wd_ff1) (y := kh_hFuel_y) (Cs := []) wd_fl1_ok rfl (List.forall_mem_nil _) (by decide +kernel) (fun l D tc ad kd N sm xs S p e s m args below meth c sz lv G H0 => by
  have hx : xs.length = 2 := by rw [H0.2.1.1]; rfl
  obtain ⟨α1, hle, Hr⟩ := as_recM (pl := []) [] (by decide +kernel) H0
  have hf := H0.2.2.2.2.2.2.2.2.2.2.1
  have hl1 : α1.length = 2 := by rw [Hr.2.1.1]; rfl
  have hl0 : xs.length = 2 := by rw [H0.2.1.1]; rfl
  have hxa : al_le xs α1 := H0.1.trans hle
  obtain ⟨g1, -, g3, g4, -⟩ := as_fx Hr
  have g0 : (805 ≤ nv α1 0 ∧ nv α1 0 ≤ 805) ∧ (0 ≤ nv α1 1 ∧ nv α1 1 ≤ 1) ∧ True := by
    refine ⟨by have h := (en_nv (i := 0) Hr.2.1 rfl).2; exact h, by have h := (en_nv (i := 1) Hr.2.1 rfl).2; exact h, trivial⟩
  have r0 : nv α1 0 = nv xs 0 := nv_le hle (by omega)
  have r1 : nv α1 1 = nv xs 1 := nv_le hle (by omega)
  refine hd_segM G (na := 2) (fuel := 600) (first := true) (Bs := [kh_hFuel_b0_0]) (by decide +kernel) hl1 Hr ?_
  intro q hq β lv' st' S' H1
  simp only [List.mem_cons, List.not_mem_nil, or_false] at hq
  rcases hq with rfl
  · obtain ⟨f1, f2, f3, f4, f5⟩ := as_fx H1
    simp only [kh_hFuel_b0_0, fx_env, fx_c, fx_ne, fx_hf, wl_S, Nat.zero_add, Nat.reduceAdd, Nat.reduceDiv, Nat.reduceMod, List.getElem?_cons_zero, List.getElem?_cons_succ, if_true, and_true, true_and] at f1 f2 f3 f4 f5
    have fe0 : nv β 0 = 805 := by omega
    have fe2 : nv β 2 = 847 := by omega
    have fe4 : nv β 4 = 9 := by omega
    have fe6 : nv β 6 = 10 := by omega
    try simp only [fe0, fe2, fe4, fe6, Int.reduceToNat] at f2 f3 f4 f5
    have s0 : nv β 0 = nv α1 0 := nv_le H1.1 (by omega)
    have s1 : nv β 1 = nv α1 1 := nv_le H1.1 (by omega)
    obtain ⟨c0, c1, c2⟩ := f2
    have o2 := old_0 c2 rfl
    refine hd_retI G (v := 7) (by decide +kernel) (as_backM H1 (by decide +kernel) hxa hf) _ List.mem_cons_self rfl (by decide +kernel) (by decide) (fun w hw => ?_)
    rcases List.mem_singleton.mp hw with rfl
    have g0' := (en_nv (i := 1) H0.2.1 rfl).1
    refine ⟨_, _, g0', g0', ?_⟩
    rw [wd_fl1, if_neg (by decide)]
    show nv β 7 = ((S.1 847 (nv xs 1).toNat).toInt + 9) / 10
    rw [← r1, ← s1]
    omega)
/- UtilityWorksModel isLit -/
def kh_546 : ct_T := (448, [(2, 805, 805, 0), (0, 0, 0, 0)], [], [], [(1, (0, 0, 0, 0), [(2, 805, 805, 0), (0, 0, 0, 0)], [], ([], [])), (1, (0, 1, 1, 0), [(2, 805, 805, 0), (0, 0, 0, 0)], [((806, 806), (1204, 1204, 0), (0, 1, 1, 1))], ([], []))], [], 0, 0, 0)
theorem kh_546_ok : ct_ok wd_fl1 kh_546 := ct_of (ff := wd_ff1) (y := (⟨"UtilityWorksModel", "isLit", "(I)Z"⟩, prog_14_method_157_code, 2, some .boolean, 12, 1, 1, 34086, 34085, 10004, 21014)) (Cs := []) (an := []) (ss := []) (K := 1) (fuel := 4000) wd_fl1_ok rfl (List.forall_mem_nil _) (by decide +kernel)
/- UtilityWorksModel hLacks -/
def kh_547 : ct_T := (486, [(2, 805, 805, 0), (0, 0, 0, 0)], [], [], [(1, (0, 1, 1, 0), [(2, 805, 805, 0), (0, 0, 0, 0)], [], ([], [])), (1, (0, 0, 0, 0), [(2, 805, 805, 0), (0, 0, 0, 0)], [((806, 806), (1203, 1203, 0), (0, 1, 999, 1)), ((806, 806), (1204, 1204, 0), (0, 1, 1, 1)), ((822, 822), (0, 0, 0), (0, 1, 1, 1)), ((843, 843), (0, 0, 0), (0, 1, 1, 1))], ([], [])), (1, (0, 2, 4, 1), [(2, 805, 805, 0), (0, 0, 0, 0)], [((806, 806), (1204, 1204, 0), (0, 1, 1, 1))], ([], []))], [], 1, 21, 0)
theorem kh_547_ok : ct_ok wd_fl1 kh_547 := ct_of (ff := wd_ff1) (y := (⟨"UtilityWorksModel", "hLacks", "(I)I"⟩, prog_14_method_161_code, 2, some .int, 12, 1, 1, 34237, 34236, 12009, 21014)) (Cs := [kh_546]) (an := []) (ss := []) (K := 1) (fuel := 4000) wd_fl1_ok rfl (List.forall_mem_cons.mpr ⟨kh_546_ok, (List.forall_mem_nil _)⟩) (by decide +kernel)
/- UtilityWorksModel reports -/
def kh_548 : ct_T := (390, [(2, 805, 805, 0), (0, 4, 4, 0), (0, 1, 1, 0)], [], [], [(0, (0, 0, 0, 0), [(2, 805, 805, 0), (0, 4, 4, 0), (0, 1, 1, 0)], [], ([], []))], [((806, 806), (11, 11, 0))], 0, 0, 0)
theorem kh_548_ok : ct_ok wd_fl1 kh_548 := ct_of (ff := wd_ff1) (y := (⟨"UtilityWorksModel", "reports", "(II)V"⟩, prog_14_method_315_code, 3, none, 12, 1, 2, 33097, 33096, 6013, 21014)) (Cs := []) (an := []) (ss := []) (K := 1) (fuel := 4000) wd_fl1_ok rfl (List.forall_mem_nil _) (by decide +kernel)
/- UtilityWorksModel hWarmth -/
def kh_549 : ct_T := (498, [(2, 805, 805, 0), (0, 0, 0, 0)], [], [], [(0, (0, 0, 0, 0), [(2, 805, 805, 0), (0, 0, 0, 0)], [], ([], []))], [((806, 806), (11, 11, 0)), ((806, 806), (1211, 1211, 0)), ((807, 807), (34, 34, 0))], 3, 64, 0)
theorem kh_549_ok : ct_ok wd_fl1 kh_549 := ct_of (ff := wd_ff1) (y := (⟨"UtilityWorksModel", "hWarmth", "(I)V"⟩, prog_14_method_176_code, 3, none, 12, 1, 1, 35045, 35044, 13005, 21014)) (Cs := [kh_473, kh_424, kh_548]) (an := [(66, 0, ([((2, 805, 805, 0), none), ((0, 0, 0, 0), none), ((0, (-2147483648), 2147483647, 1), none)], [(0, 0), (1, 1), (2, 2)], [], [], [], [], [], [], none), [(0, 0, 99934)]), (100, 0, ([((2, 805, 805, 0), none), ((0, 0, 0, 0), none), ((0, (-2147483648), 2147483647, 1), none)], [(0, 0), (1, 1), (2, 2)], [], [], [], [], [], [], none), [(0, 0, 99900)])]) (ss := []) (K := 1) (fuel := 4000) wd_fl1_ok rfl (List.forall_mem_cons.mpr ⟨kh_473_ok, (List.forall_mem_cons.mpr ⟨kh_424_ok, (List.forall_mem_cons.mpr ⟨kh_548_ok, (List.forall_mem_nil _)⟩)⟩)⟩) (by decide +kernel)
/- UtilityWorksModel hWarmth -/
def kh_550 : ct_T := (498, [(2, 805, 805, 0), (0, 0, 1, 1)], [], [], [(0, (0, 0, 0, 0), [(2, 805, 805, 0), (0, 0, 1, 1)], [], ([], []))], [((806, 806), (11, 11, 0)), ((806, 806), (1211, 1212, 1)), ((807, 807), (34, 34, 0))], 3, 64, 0)
theorem kh_550_ok : ct_ok wd_fl1 kh_550 := ct_of (ff := wd_ff1) (y := (⟨"UtilityWorksModel", "hWarmth", "(I)V"⟩, prog_14_method_176_code, 3, none, 12, 1, 1, 35045, 35044, 13005, 21014)) (Cs := [kh_480, kh_424, kh_548]) (an := [(66, 0, ([((2, 805, 805, 0), none), ((0, 0, 1, 1), none), ((0, (-2147483648), 2147483647, 1), none)], [(0, 0), (1, 1), (2, 2)], [], [], [], [], [], [], none), [(0, 0, 99934)]), (100, 0, ([((2, 805, 805, 0), none), ((0, 0, 1, 1), none), ((0, (-2147483648), 2147483647, 1), none)], [(0, 0), (1, 1), (2, 2)], [], [], [], [], [], [], none), [(0, 0, 99900)])]) (ss := []) (K := 1) (fuel := 4000) wd_fl1_ok rfl (List.forall_mem_cons.mpr ⟨kh_480_ok, (List.forall_mem_cons.mpr ⟨kh_424_ok, (List.forall_mem_cons.mpr ⟨kh_548_ok, (List.forall_mem_nil _)⟩)⟩)⟩) (by decide +kernel)
/- UtilityWorksModel hWarmth -/
def kh_551 : ct_T := (498, [(2, 805, 805, 0), (0, 0, 2, 1)], [], [], [(0, (0, 0, 0, 0), [(2, 805, 805, 0), (0, 0, 2, 1)], [], ([], []))], [((806, 806), (11, 11, 0)), ((806, 806), (1211, 1213, 1)), ((807, 807), (34, 34, 0))], 3, 64, 0)
theorem kh_551_ok : ct_ok wd_fl1 kh_551 := ct_of (ff := wd_ff1) (y := (⟨"UtilityWorksModel", "hWarmth", "(I)V"⟩, prog_14_method_176_code, 3, none, 12, 1, 1, 35045, 35044, 13005, 21014)) (Cs := [kh_487, kh_424, kh_548]) (an := [(66, 0, ([((2, 805, 805, 0), none), ((0, 0, 2, 1), none), ((0, (-2147483648), 2147483647, 1), none)], [(0, 0), (1, 1), (2, 2)], [], [], [], [], [], [], none), [(0, 0, 99934)]), (100, 0, ([((2, 805, 805, 0), none), ((0, 0, 2, 1), none), ((0, (-2147483648), 2147483647, 1), none)], [(0, 0), (1, 1), (2, 2)], [], [], [], [], [], [], none), [(0, 0, 99900)])]) (ss := []) (K := 1) (fuel := 4000) wd_fl1_ok rfl (List.forall_mem_cons.mpr ⟨kh_487_ok, (List.forall_mem_cons.mpr ⟨kh_424_ok, (List.forall_mem_cons.mpr ⟨kh_548_ok, (List.forall_mem_nil _)⟩)⟩)⟩) (by decide +kernel)
/- UtilityWorksModel hWarmth -/
def kh_552 : ct_T := (498, [(2, 805, 805, 0), (0, 0, 3, 1)], [], [], [(0, (0, 0, 0, 0), [(2, 805, 805, 0), (0, 0, 3, 1)], [], ([], []))], [((806, 806), (11, 11, 0)), ((806, 806), (1211, 1214, 1)), ((807, 807), (34, 34, 0))], 3, 64, 0)
theorem kh_552_ok : ct_ok wd_fl1 kh_552 := ct_of (ff := wd_ff1) (y := (⟨"UtilityWorksModel", "hWarmth", "(I)V"⟩, prog_14_method_176_code, 3, none, 12, 1, 1, 35045, 35044, 13005, 21014)) (Cs := [kh_494, kh_424, kh_548]) (an := [(66, 0, ([((2, 805, 805, 0), none), ((0, 0, 3, 1), none), ((0, (-2147483648), 2147483647, 1), none)], [(0, 0), (1, 1), (2, 2)], [], [], [], [], [], [], none), [(0, 0, 99934)]), (100, 0, ([((2, 805, 805, 0), none), ((0, 0, 3, 1), none), ((0, (-2147483648), 2147483647, 1), none)], [(0, 0), (1, 1), (2, 2)], [], [], [], [], [], [], none), [(0, 0, 99900)])]) (ss := []) (K := 1) (fuel := 4000) wd_fl1_ok rfl (List.forall_mem_cons.mpr ⟨kh_494_ok, (List.forall_mem_cons.mpr ⟨kh_424_ok, (List.forall_mem_cons.mpr ⟨kh_548_ok, (List.forall_mem_nil _)⟩)⟩)⟩) (by decide +kernel)
/- UtilityWorksModel hWarmth -/
def kh_553 : ct_T := (498, [(2, 805, 805, 0), (0, 0, 4, 1)], [], [], [(0, (0, 0, 0, 0), [(2, 805, 805, 0), (0, 0, 4, 1)], [], ([], []))], [((806, 806), (11, 11, 0)), ((806, 806), (1211, 1215, 1)), ((807, 807), (34, 34, 0))], 3, 64, 0)
theorem kh_553_ok : ct_ok wd_fl1 kh_553 := ct_of (ff := wd_ff1) (y := (⟨"UtilityWorksModel", "hWarmth", "(I)V"⟩, prog_14_method_176_code, 3, none, 12, 1, 1, 35045, 35044, 13005, 21014)) (Cs := [kh_501, kh_424, kh_548]) (an := [(66, 0, ([((2, 805, 805, 0), none), ((0, 0, 4, 1), none), ((0, (-2147483648), 2147483647, 1), none)], [(0, 0), (1, 1), (2, 2)], [], [], [], [], [], [], none), [(0, 0, 99934)]), (100, 0, ([((2, 805, 805, 0), none), ((0, 0, 4, 1), none), ((0, (-2147483648), 2147483647, 1), none)], [(0, 0), (1, 1), (2, 2)], [], [], [], [], [], [], none), [(0, 0, 99900)])]) (ss := []) (K := 1) (fuel := 4000) wd_fl1_ok rfl (List.forall_mem_cons.mpr ⟨kh_501_ok, (List.forall_mem_cons.mpr ⟨kh_424_ok, (List.forall_mem_cons.mpr ⟨kh_548_ok, (List.forall_mem_nil _)⟩)⟩)⟩) (by decide +kernel)
/- UtilityWorksModel hWarmth -/
def kh_554 : ct_T := (498, [(2, 805, 805, 0), (0, 0, 5, 1)], [], [], [(0, (0, 0, 0, 0), [(2, 805, 805, 0), (0, 0, 5, 1)], [], ([], []))], [((806, 806), (11, 11, 0)), ((806, 806), (1211, 1216, 1)), ((807, 807), (34, 34, 0))], 3, 64, 0)
theorem kh_554_ok : ct_ok wd_fl1 kh_554 := ct_of (ff := wd_ff1) (y := (⟨"UtilityWorksModel", "hWarmth", "(I)V"⟩, prog_14_method_176_code, 3, none, 12, 1, 1, 35045, 35044, 13005, 21014)) (Cs := [kh_508, kh_424, kh_548]) (an := [(66, 0, ([((2, 805, 805, 0), none), ((0, 0, 5, 1), none), ((0, (-2147483648), 2147483647, 1), none)], [(0, 0), (1, 1), (2, 2)], [], [], [], [], [], [], none), [(0, 0, 99934)]), (100, 0, ([((2, 805, 805, 0), none), ((0, 0, 5, 1), none), ((0, (-2147483648), 2147483647, 1), none)], [(0, 0), (1, 1), (2, 2)], [], [], [], [], [], [], none), [(0, 0, 99900)])]) (ss := []) (K := 1) (fuel := 4000) wd_fl1_ok rfl (List.forall_mem_cons.mpr ⟨kh_508_ok, (List.forall_mem_cons.mpr ⟨kh_424_ok, (List.forall_mem_cons.mpr ⟨kh_548_ok, (List.forall_mem_nil _)⟩)⟩)⟩) (by decide +kernel)
/- UtilityWorksModel hWarmth -/
def kh_555 : ct_T := (498, [(2, 805, 805, 0), (0, 0, 6, 1)], [], [], [(0, (0, 0, 0, 0), [(2, 805, 805, 0), (0, 0, 6, 1)], [], ([], []))], [((806, 806), (11, 11, 0)), ((806, 806), (1211, 1217, 1)), ((807, 807), (34, 34, 0))], 3, 64, 0)
theorem kh_555_ok : ct_ok wd_fl1 kh_555 := ct_of (ff := wd_ff1) (y := (⟨"UtilityWorksModel", "hWarmth", "(I)V"⟩, prog_14_method_176_code, 3, none, 12, 1, 1, 35045, 35044, 13005, 21014)) (Cs := [kh_515, kh_424, kh_548]) (an := [(66, 0, ([((2, 805, 805, 0), none), ((0, 0, 6, 1), none), ((0, (-2147483648), 2147483647, 1), none)], [(0, 0), (1, 1), (2, 2)], [], [], [], [], [], [], none), [(0, 0, 99934)]), (100, 0, ([((2, 805, 805, 0), none), ((0, 0, 6, 1), none), ((0, (-2147483648), 2147483647, 1), none)], [(0, 0), (1, 1), (2, 2)], [], [], [], [], [], [], none), [(0, 0, 99900)])]) (ss := []) (K := 1) (fuel := 4000) wd_fl1_ok rfl (List.forall_mem_cons.mpr ⟨kh_515_ok, (List.forall_mem_cons.mpr ⟨kh_424_ok, (List.forall_mem_cons.mpr ⟨kh_548_ok, (List.forall_mem_nil _)⟩)⟩)⟩) (by decide +kernel)
/- UtilityWorksModel hWarmth -/
def kh_556 : ct_T := (498, [(2, 805, 805, 0), (0, 0, 7, 1)], [], [], [(0, (0, 0, 0, 0), [(2, 805, 805, 0), (0, 0, 7, 1)], [], ([], []))], [((806, 806), (11, 11, 0)), ((806, 806), (1211, 1218, 1)), ((807, 807), (34, 34, 0))], 3, 64, 0)
theorem kh_556_ok : ct_ok wd_fl1 kh_556 := ct_of (ff := wd_ff1) (y := (⟨"UtilityWorksModel", "hWarmth", "(I)V"⟩, prog_14_method_176_code, 3, none, 12, 1, 1, 35045, 35044, 13005, 21014)) (Cs := [kh_522, kh_424, kh_548]) (an := [(66, 0, ([((2, 805, 805, 0), none), ((0, 0, 7, 1), none), ((0, (-2147483648), 2147483647, 1), none)], [(0, 0), (1, 1), (2, 2)], [], [], [], [], [], [], none), [(0, 0, 99934)]), (100, 0, ([((2, 805, 805, 0), none), ((0, 0, 7, 1), none), ((0, (-2147483648), 2147483647, 1), none)], [(0, 0), (1, 1), (2, 2)], [], [], [], [], [], [], none), [(0, 0, 99900)])]) (ss := []) (K := 1) (fuel := 4000) wd_fl1_ok rfl (List.forall_mem_cons.mpr ⟨kh_522_ok, (List.forall_mem_cons.mpr ⟨kh_424_ok, (List.forall_mem_cons.mpr ⟨kh_548_ok, (List.forall_mem_nil _)⟩)⟩)⟩) (by decide +kernel)
/- UtilityWorksModel hWarmth -/
def kh_557 : ct_T := (498, [(2, 805, 805, 0), (0, 0, 8, 1)], [], [], [(0, (0, 0, 0, 0), [(2, 805, 805, 0), (0, 0, 8, 1)], [], ([], []))], [((806, 806), (11, 11, 0)), ((806, 806), (1211, 1219, 1)), ((807, 807), (34, 34, 0))], 3, 64, 0)
theorem kh_557_ok : ct_ok wd_fl1 kh_557 := ct_of (ff := wd_ff1) (y := (⟨"UtilityWorksModel", "hWarmth", "(I)V"⟩, prog_14_method_176_code, 3, none, 12, 1, 1, 35045, 35044, 13005, 21014)) (Cs := [kh_529, kh_424, kh_548]) (an := [(66, 0, ([((2, 805, 805, 0), none), ((0, 0, 8, 1), none), ((0, (-2147483648), 2147483647, 1), none)], [(0, 0), (1, 1), (2, 2)], [], [], [], [], [], [], none), [(0, 0, 99934)]), (100, 0, ([((2, 805, 805, 0), none), ((0, 0, 8, 1), none), ((0, (-2147483648), 2147483647, 1), none)], [(0, 0), (1, 1), (2, 2)], [], [], [], [], [], [], none), [(0, 0, 99900)])]) (ss := []) (K := 1) (fuel := 4000) wd_fl1_ok rfl (List.forall_mem_cons.mpr ⟨kh_529_ok, (List.forall_mem_cons.mpr ⟨kh_424_ok, (List.forall_mem_cons.mpr ⟨kh_548_ok, (List.forall_mem_nil _)⟩)⟩)⟩) (by decide +kernel)
/- UtilityWorksModel hWarmth -/
def kh_558 : ct_T := (498, [(2, 805, 805, 0), (0, 0, 9, 1)], [], [], [(0, (0, 0, 0, 0), [(2, 805, 805, 0), (0, 0, 9, 1)], [], ([], []))], [((806, 806), (11, 11, 0)), ((806, 806), (1211, 1220, 1)), ((807, 807), (34, 34, 0))], 3, 64, 0)
theorem kh_558_ok : ct_ok wd_fl1 kh_558 := ct_of (ff := wd_ff1) (y := (⟨"UtilityWorksModel", "hWarmth", "(I)V"⟩, prog_14_method_176_code, 3, none, 12, 1, 1, 35045, 35044, 13005, 21014)) (Cs := [kh_533, kh_424, kh_548]) (an := [(66, 0, ([((2, 805, 805, 0), none), ((0, 0, 9, 1), none), ((0, (-2147483648), 2147483647, 1), none)], [(0, 0), (1, 1), (2, 2)], [], [], [], [], [], [], none), [(0, 0, 99934)]), (100, 0, ([((2, 805, 805, 0), none), ((0, 0, 9, 1), none), ((0, (-2147483648), 2147483647, 1), none)], [(0, 0), (1, 1), (2, 2)], [], [], [], [], [], [], none), [(0, 0, 99900)])]) (ss := []) (K := 1) (fuel := 4000) wd_fl1_ok rfl (List.forall_mem_cons.mpr ⟨kh_533_ok, (List.forall_mem_cons.mpr ⟨kh_424_ok, (List.forall_mem_cons.mpr ⟨kh_548_ok, (List.forall_mem_nil _)⟩)⟩)⟩) (by decide +kernel)
abbrev kh_heatDay_y : mt_T := (⟨"UtilityWorksModel", "heatDay", "()V"⟩, prog_14_method_177_code, 4, none, 12, 1, 0, 34217, 34216, 12004, 21014)
def kh_heatDay : ct_T := (481, [(2, 805, 805, 0)], [], [], [(0, (0, 0, 0, 0), [(2, 805, 805, 0)], [], ([], []))], [((805, 805), (61, 61, 0)), ((805, 805), (62, 62, 0)), ((806, 806), (11, 11, 0)), ((806, 806), (1203, 1208, 5)), ((806, 806), (1204, 1209, 5)), ((806, 806), (1205, 1210, 5)), ((806, 806), (1211, 1220, 1)), ((807, 807), (30, 30, 0)), ((807, 807), (31, 31, 0)), ((807, 807), (32, 32, 0)), ((807, 807), (33, 33, 0)), ((807, 807), (34, 34, 0)), ((846, 846), (0, 1, 1)), ((847, 847), (0, 1, 1)), ((848, 848), (0, 33, 1)), ((849, 849), (0, 16, 1)), ((850, 850), (0, 11, 1)), ((851, 851), (0, 11, 1)), ((852, 852), (0, 11, 1)), ((854, 854), (0, 11, 1)), ((855, 855), (0, 23, 1)), ((856, 856), (0, 287, 1)), ((857, 857), (0, 9, 1)), ((858, 858), (0, 9, 1))], 7, 162, 0)
def kh_heatDay_a6 : an_T := (6, 0, ([((2, 805, 805, 0), none), ((0, 0, 2, 1), none)], [(0, 0), (1, 1)], [], [], [], [], [], [], none), [])
def kh_heatDay_a67 : an_T := (67, 0, ([((2, 805, 805, 0), none), ((0, 0, 1, 1), none), ((0, 0, 1, 1), none), ((0, 0, 30, 1), none)], [(0, 0), (1, 1), (2, 2), (3, 3)], [], [], [], [], [], [], none), [])
def kh_heatDay_a84 : an_T := (84, 0, ([((2, 805, 805, 0), none), ((0, 0, 1, 1), none), ((0, 0, 1, 1), none), ((0, 0, 30, 1), none), ((0, (-30), 999, 1), none), ((0, 1203, 1208, 5), none), ((2, 806, 806, 1), none)], [(0, 0), (1, 1), (2, 2), (3, 3)], [4, 5, 6], [], [], [], [], [], none), [])
def kh_heatDay_a139 : an_T := (139, 0, ([((2, 805, 805, 0), none), ((0, 0, 12, 1), none)], [(0, 0), (1, 1)], [], [], [], [], [], [], none), [])
def kh_heatDay_a170 : an_T := (170, 0, ([((2, 805, 805, 0), none), ((0, 0, 17, 1), none)], [(0, 0), (1, 1)], [], [], [], [], [], [], none), [])
def kh_heatDay_a201 : an_T := (201, 0, ([((2, 805, 805, 0), none), ((0, 0, 10, 1), none)], [(0, 0), (1, 1)], [], [], [], [], [], [], none), [])
def kh_heatDay_b0_0 : sg_T := (6, 0, ([((2, 805, 805, 0), none), ((0, 0, 0, 0), none)], [(1, 1), (0, 0)], [], [], [], [], [], [502], none))
def kh_heatDay_b6_0 : sg_T := (139, 0, ([((2, 805, 805, 0), none), ((0, 1, 2, 1), none), ((2, 806, 806, 1), none), ((0, 1200, 1200, 0), none), ((0, 1, 2, 1), none), ((0, 0, 0, 0), none)], [(1, 5), (0, 0)], [], [(2, 3, 4)], [], [(200000, 4, 1), (800004, 2, 3)], [], [], some []))
def kh_heatDay_b6_1 : sg_T := (67, 0, ([((2, 805, 805, 0), none), ((0, 0, 1, 1), none), ((2, 806, 806, 1), none), ((0, 1200, 1200, 0), none), ((0, 1, 2, 1), none), ((0, 1, 1, 0), none), ((0, 0, 0, 0), none), ((0, 0, 30, 1), none), ((2, 807, 807, 1), none), ((0, 30, 30, 0), none), ((1, (-9223372036854775808), 9223372036854775807, 1), none), ((2, 847, 847, 1), none), ((0, 0, 300, 1), none), ((1, 0, 300, 1), none), ((1, (-9223372036854775808), 9223372036854775807, 1), none), ((2, 807, 807, 1), none), ((0, 33, 33, 0), none), ((1, (-9223372036854775808), 9223372036854775807, 1), none), ((1, 0, 30, 1), none), ((1, (-9223372036854775808), 9223372036854775807, 1), none)], [(3, 7), (2, 6), (0, 0), (1, 1)], [], [(11, 1, 12), (2, 3, 4)], [(5, 0)], [(800012, 11, 1), (800010, 8, 9), (101800007, 1, 1), (100000, 1, 4), (800004, 2, 3)], [], [], none))
def kh_heatDay_b6_2 : sg_T := (67, 0, ([((2, 805, 805, 0), none), ((0, 0, 1, 1), none), ((2, 806, 806, 1), none), ((0, 1200, 1200, 0), none), ((0, 1, 2, 1), none), ((0, 0, 0, 0), none), ((0, 1, 1, 0), none), ((0, 0, 30, 1), none), ((2, 807, 807, 1), none), ((0, 30, 30, 0), none), ((1, (-9223372036854775808), 9223372036854775807, 1), none), ((2, 847, 847, 1), none), ((0, 0, 300, 1), none), ((1, 0, 300, 1), none), ((1, (-9223372036854775808), 9223372036854775807, 1), none), ((2, 807, 807, 1), none), ((0, 33, 33, 0), none), ((1, (-9223372036854775808), 9223372036854775807, 1), none), ((1, 0, 30, 1), none), ((1, (-9223372036854775808), 9223372036854775807, 1), none)], [(3, 7), (2, 6), (0, 0), (1, 1)], [], [(11, 1, 12), (2, 3, 4)], [], [(800012, 11, 1), (800010, 8, 9), (101800007, 1, 1), (100000, 1, 4), (800004, 2, 3)], [], [], none))
def kh_heatDay_b6_3 : sg_T := (67, 0, ([((2, 805, 805, 0), none), ((0, 0, 1, 1), none), ((2, 806, 806, 1), none), ((0, 1200, 1200, 0), none), ((0, 1, 2, 1), none), ((0, 2, 4, 1), none), ((0, 0, 0, 0), none), ((0, 0, 30, 1), none), ((2, 807, 807, 1), none), ((0, 30, 30, 0), none), ((1, (-9223372036854775808), 9223372036854775807, 1), none), ((2, 847, 847, 1), none), ((0, 0, 300, 1), none), ((1, 0, 300, 1), none), ((1, (-9223372036854775808), 9223372036854775807, 1), none), ((2, 807, 807, 1), none), ((0, 33, 33, 0), none), ((1, (-9223372036854775808), 9223372036854775807, 1), none), ((1, 0, 30, 1), none), ((1, (-9223372036854775808), 9223372036854775807, 1), none)], [(3, 7), (2, 6), (0, 0), (1, 1)], [], [(11, 1, 12), (2, 3, 4)], [(5, 0)], [(800012, 11, 1), (800010, 8, 9), (101800007, 1, 1), (100000, 1, 4), (800004, 2, 3)], [], [], none))
def kh_heatDay_b67_0 : sg_T := (84, 0, ([((2, 805, 805, 0), none), ((0, 0, 1, 1), none), ((0, 0, 1, 1), none), ((0, 0, 30, 1), none), ((2, 806, 806, 1), none), ((0, 1201, 1201, 0), none), ((0, 5, 5, 0), none), ((0, 0, 5, 5), none), ((0, 1201, 1206, 5), none), ((0, 2, 2, 0), none), ((0, 1203, 1208, 5), some (8, 2)), ((0, 0, 999, 1), none), ((0, (-30), 999, 1), none)], [(0, 0), (1, 1), (2, 2), (3, 3)], [12, 10, 4], [(4, 10, 11)], [], [(600012, 11, 3), (800011, 4, 10), (500010, 8, 9), (500008, 5, 7), (700007, 6, 1)], [], [], some []))
def kh_heatDay_b84_0 : sg_T := (6, 0, ([((2, 805, 805, 0), none), ((0, 0, 1, 1), none), ((0, 0, 0, 1), none), ((0, 0, 30, 1), none), ((0, 0, 999, 1), none), ((0, 1203, 1208, 5), none), ((2, 806, 806, 1), none), ((2, 806, 806, 1), none), ((0, 1201, 1201, 0), none), ((0, 5, 5, 0), none), ((0, 0, 5, 5), none), ((0, 1201, 1206, 5), none), ((0, 3, 3, 0), none), ((0, 1204, 1209, 5), some (11, 3)), ((0, 0, 0, 0), none), ((2, 806, 806, 1), none), ((0, 1201, 1201, 0), none), ((0, 5, 5, 0), none), ((0, 0, 5, 5), none), ((0, 1201, 1206, 5), none), ((0, 4, 4, 0), none), ((0, 1205, 1210, 5), some (19, 4)), ((0, 0, 0, 0), none), ((0, 1, 2, 1), some (1, 1))], [(1, 23), (0, 0), (2, 2), (3, 3)], [], [(15, 21, 22), (7, 13, 14), (6, 5, 4)], [], [(500021, 19, 20), (500019, 16, 18), (700018, 17, 1), (500013, 11, 12), (500011, 8, 10), (700010, 9, 1)], [], [], some [(15, 21, 22), (7, 13, 14), (6, 5, 4)]))
def kh_heatDay_b84_1 : sg_T := (6, 0, ([((2, 805, 805, 0), none), ((0, 0, 1, 1), none), ((0, 1, 1, 1), none), ((0, 0, 30, 1), none), ((0, 0, 999, 1), none), ((0, 1203, 1208, 5), none), ((2, 806, 806, 1), none), ((2, 806, 806, 1), none), ((0, 1201, 1201, 0), none), ((0, 5, 5, 0), none), ((0, 0, 5, 5), none), ((0, 1201, 1206, 5), none), ((0, 3, 3, 0), none), ((0, 1204, 1209, 5), some (11, 3)), ((0, 1, 1, 0), none), ((2, 806, 806, 1), none), ((0, 1201, 1201, 0), none), ((0, 5, 5, 0), none), ((0, 0, 5, 5), none), ((0, 1201, 1206, 5), none), ((0, 4, 4, 0), none), ((0, 1205, 1210, 5), some (19, 4)), ((0, 1, 1, 0), none), ((0, 1, 2, 1), some (1, 1))], [(1, 23), (0, 0), (2, 2), (3, 3)], [], [(15, 21, 22), (7, 13, 14), (6, 5, 4)], [(2, 0)], [(500021, 19, 20), (500019, 16, 18), (700018, 17, 1), (500013, 11, 12), (500011, 8, 10), (700010, 9, 1)], [], [], some [(15, 21, 22), (7, 13, 14), (6, 5, 4)]))
def kh_heatDay_b139_0 : sg_T := (170, 0, ([((2, 805, 805, 0), none), ((0, 12, 12, 1), none), ((0, 12, 12, 0), none), ((0, 0, 0, 0), none)], [(1, 3), (0, 0)], [], [], [], [(200000, 2, 1)], [], [], some []))
def kh_heatDay_b139_1 : sg_T := (139, 0, ([((2, 805, 805, 0), none), ((0, 0, 11, 1), none), ((0, 12, 12, 0), none), ((2, 807, 807, 1), none), ((0, 31, 31, 0), none), ((1, (-9223372036854775808), 9223372036854775807, 1), none), ((2, 851, 851, 1), none), ((0, (-2147483648), 2147483647, 1), none), ((1, (-2147483648), 2147483647, 1), none), ((1, (-9223372036854775808), 9223372036854775807, 1), none), ((0, 1, 12, 1), some (1, 1))], [(1, 10), (0, 0)], [], [(6, 1, 7)], [], [(800007, 6, 1), (800005, 3, 4), (100000, 1, 2)], [], [], none))
def kh_heatDay_b170_0 : sg_T := (201, 0, ([((2, 805, 805, 0), none), ((0, 17, 17, 1), none), ((0, 17, 17, 0), none), ((0, 0, 0, 0), none)], [(1, 3), (0, 0)], [], [], [], [(200000, 2, 1)], [], [], some []))
def kh_heatDay_b170_1 : sg_T := (170, 0, ([((2, 805, 805, 0), none), ((0, 0, 16, 1), none), ((0, 17, 17, 0), none), ((2, 807, 807, 1), none), ((0, 32, 32, 0), none), ((1, (-9223372036854775808), 9223372036854775807, 1), none), ((2, 849, 849, 1), none), ((0, (-2147483648), 2147483647, 1), none), ((1, (-2147483648), 2147483647, 1), none), ((1, (-9223372036854775808), 9223372036854775807, 1), none), ((0, 1, 17, 1), some (1, 1))], [(1, 10), (0, 0)], [], [(6, 1, 7)], [], [(800007, 6, 1), (800005, 3, 4), (100000, 1, 2)], [], [], none))
def kh_heatDay_b201_0 : sg_T := (229, 0, ([((2, 805, 805, 0), none), ((0, 6, 10, 1), none), ((0, 6, 10, 1), none)], [(0, 0), (1, 1)], [], [], [], [(200000, 2, 1)], [], [], some []))
def kh_heatDay_b201_1 : sg_T := (201, 0, ([((2, 805, 805, 0), none), ((0, 0, 9, 1), none), ((0, 6, 10, 1), none), ((0, 2, 2, 0), none), ((0, 0, 0, 0), none), ((0, 1, 10, 1), some (1, 1))], [(1, 5), (0, 0)], [], [], [], [(100000, 1, 2)], [], [], some []))
def kh_heatDay_b201_2 : sg_T := (201, 0, ([((2, 805, 805, 0), none), ((0, 0, 9, 1), none), ((0, 6, 10, 1), none), ((0, 2, 2, 0), none), ((0, 1, 1, 0), none), ((0, 1, 10, 1), some (1, 1))], [(1, 5), (0, 0)], [], [], [(4, 0)], [(100000, 1, 2)], [], [], none))
theorem kh_heatDay_ok : ct_ok wd_fl1 kh_heatDay := ct_hand (ff := wd_ff1) (y := kh_heatDay_y) (Cs := [kh_heatDeal, kh_547, kh_hFuel, kh_421, kh_393, kh_469, kh_549, kh_477, kh_550, kh_484, kh_551, kh_491, kh_552, kh_498, kh_553, kh_505, kh_554, kh_512, kh_555, kh_519, kh_556, kh_526, kh_557, kh_530, kh_558]) wd_fl1_ok rfl (List.forall_mem_cons.mpr ⟨kh_heatDeal_ok, (List.forall_mem_cons.mpr ⟨kh_547_ok, (List.forall_mem_cons.mpr ⟨kh_hFuel_ok, (List.forall_mem_cons.mpr ⟨kh_421_ok, (List.forall_mem_cons.mpr ⟨kh_393_l, (List.forall_mem_cons.mpr ⟨kh_469_ok, (List.forall_mem_cons.mpr ⟨kh_549_ok, (List.forall_mem_cons.mpr ⟨kh_477_ok, (List.forall_mem_cons.mpr ⟨kh_550_ok, (List.forall_mem_cons.mpr ⟨kh_484_ok, (List.forall_mem_cons.mpr ⟨kh_551_ok, (List.forall_mem_cons.mpr ⟨kh_491_ok, (List.forall_mem_cons.mpr ⟨kh_552_ok, (List.forall_mem_cons.mpr ⟨kh_498_ok, (List.forall_mem_cons.mpr ⟨kh_553_ok, (List.forall_mem_cons.mpr ⟨kh_505_ok, (List.forall_mem_cons.mpr ⟨kh_554_ok, (List.forall_mem_cons.mpr ⟨kh_512_ok, (List.forall_mem_cons.mpr ⟨kh_555_ok, (List.forall_mem_cons.mpr ⟨kh_519_ok, (List.forall_mem_cons.mpr ⟨kh_556_ok, (List.forall_mem_cons.mpr ⟨kh_526_ok, (List.forall_mem_cons.mpr ⟨kh_557_ok, (List.forall_mem_cons.mpr ⟨kh_530_ok, (List.forall_mem_cons.mpr ⟨kh_558_ok, (List.forall_mem_nil _)⟩)⟩)⟩)⟩)⟩)⟩)⟩)⟩)⟩)⟩)⟩)⟩)⟩)⟩)⟩)⟩)⟩)⟩)⟩)⟩)⟩)⟩)⟩)⟩)⟩) (by decide +kernel) (fun l D tc ad kd N sm xs S p e s m args below meth c sz lv G H0 => by
  have hx : xs.length = 1 := by rw [H0.2.1.1]; rfl
  have hP : ∀ (k : Nat), (∀ (α : List av_X) (lv : List (Nat × Value)) (st : List Value) (S1 : fw_S), as_in ad sm wd_fl1 xs S kh_heatDay.2.2.2.2.2.1 α kh_heatDay_a6.2.2.1 lv st S1 → (∀ b : Nat, nv α 1 ≤ (b : Int) → b < 2 → (b : Int) < (S1.1 806 1200).toInt → (S1.1 847 b).toInt ≤ 10 * (S1.1 806 (1203 + 5 * b)).toInt) → 1000000 + (2 - nv α 1).toNat * 10 + 9 < k → hd_W wd_fl1 kh_heatDay kh_heatDay_y l D tc ad kd N sm xs S p e s m args below meth c sz 6 lv st S1 0) ∧ (∀ (α : List av_X) (lv : List (Nat × Value)) (st : List Value) (S1 : fw_S), as_in ad sm wd_fl1 xs S kh_heatDay.2.2.2.2.2.1 α kh_heatDay_a67.2.2.1 lv st S1 → ((∀ b : Nat, nv α 1 + 1 ≤ (b : Int) → b < 2 → (b : Int) < (S1.1 806 1200).toInt → (S1.1 847 b).toInt ≤ 10 * (S1.1 806 (1203 + 5 * b)).toInt) ∧ nv α 3 ≤ (S1.1 806 (1203 + 5 * nv α 1).toNat).toInt ∧ 0 ≤ nv α 3) → 1000000 + (2 - nv α 1).toNat * 10 + 8 < k → hd_W wd_fl1 kh_heatDay kh_heatDay_y l D tc ad kd N sm xs S p e s m args below meth c sz 67 lv st S1 0) ∧ (∀ (α : List av_X) (lv : List (Nat × Value)) (st : List Value) (S1 : fw_S), as_in ad sm wd_fl1 xs S kh_heatDay.2.2.2.2.2.1 α kh_heatDay_a84.2.2.1 lv st S1 → ((∀ b : Nat, nv α 1 + 1 ≤ (b : Int) → b < 2 → (b : Int) < (S1.1 806 1200).toInt → (S1.1 847 b).toInt ≤ 10 * (S1.1 806 (1203 + 5 * b)).toInt) ∧ 0 ≤ nv α 4 ∧ nv α 4 ≤ 999 ∧ nv α 5 = 1203 + 5 * nv α 1) → 1000000 + (2 - nv α 1).toNat * 10 + 7 < k → hd_W wd_fl1 kh_heatDay kh_heatDay_y l D tc ad kd N sm xs S p e s m args below meth c sz 84 lv st S1 0) ∧ (∀ (α : List av_X) (lv : List (Nat × Value)) (st : List Value) (S1 : fw_S), as_in ad sm wd_fl1 xs S kh_heatDay.2.2.2.2.2.1 α kh_heatDay_a139.2.2.1 lv st S1 → (True) → 30000 + (12 - nv α 1).toNat < k → hd_W wd_fl1 kh_heatDay kh_heatDay_y l D tc ad kd N sm xs S p e s m args below meth c sz 139 lv st S1 0) ∧ (∀ (α : List av_X) (lv : List (Nat × Value)) (st : List Value) (S1 : fw_S), as_in ad sm wd_fl1 xs S kh_heatDay.2.2.2.2.2.1 α kh_heatDay_a170.2.2.1 lv st S1 → (True) → 20000 + (17 - nv α 1).toNat < k → hd_W wd_fl1 kh_heatDay kh_heatDay_y l D tc ad kd N sm xs S p e s m args below meth c sz 170 lv st S1 0) ∧ (∀ (α : List av_X) (lv : List (Nat × Value)) (st : List Value) (S1 : fw_S), as_in ad sm wd_fl1 xs S kh_heatDay.2.2.2.2.2.1 α kh_heatDay_a201.2.2.1 lv st S1 → (True) → (10 - nv α 1).toNat < k → hd_W wd_fl1 kh_heatDay kh_heatDay_y l D tc ad kd N sm xs S p e s m args below meth c sz 201 lv st S1 0) ∧ True := by
    intro k
    induction k with
    | zero => exact ⟨fun _ _ _ _ _ _ h => absurd h (Nat.not_lt_zero _), fun _ _ _ _ _ _ h => absurd h (Nat.not_lt_zero _), fun _ _ _ _ _ _ h => absurd h (Nat.not_lt_zero _), fun _ _ _ _ _ _ h => absurd h (Nat.not_lt_zero _), fun _ _ _ _ _ _ h => absurd h (Nat.not_lt_zero _), fun _ _ _ _ _ _ h => absurd h (Nat.not_lt_zero _), trivial⟩
    | succ k ih =>
    refine ⟨?_, ?_, ?_, ?_, ?_, ?_, trivial⟩
    · intro α lv st S1 H hp hk
      obtain ⟨α1, hle, Hr⟩ := as_recM (pl := []) [((807, 807), (30, 30, 0)), ((807, 807), (33, 33, 0))] (by decide +kernel) H
      have hf := H.2.2.2.2.2.2.2.2.2.2.1
      have hl1 : α1.length = 2 := by rw [Hr.2.1.1]; rfl
      have hl0 : α.length = 2 := by rw [H.2.1.1]; rfl
      have hxa : al_le xs α1 := H.1.trans hle
      obtain ⟨g1, -, g3, g4, -⟩ := as_fx Hr
      have g0 : (805 ≤ nv α1 0 ∧ nv α1 0 ≤ 805) ∧ (0 ≤ nv α1 1 ∧ nv α1 1 ≤ 2) ∧ True := by
        refine ⟨by have h := (en_nv (i := 0) Hr.2.1 rfl).2; exact h, by have h := (en_nv (i := 1) Hr.2.1 rfl).2; exact h, trivial⟩
      have r0 : nv α1 0 = nv α 0 := nv_le hle (by omega)
      have r1 : nv α1 1 = nv α 1 := nv_le hle (by omega)
      refine hd_segM G (na := 2) (fuel := 600) (first := true) (Bs := [kh_heatDay_b6_0, kh_heatDay_b6_1, kh_heatDay_b6_2, kh_heatDay_b6_3]) (by decide +kernel) hl1 Hr ?_
      intro q hq β lv' st' S' H1
      simp only [List.mem_cons, List.not_mem_nil, or_false] at hq
      rcases hq with rfl | rfl | rfl | rfl
      · obtain ⟨f1, f2, f3, f4, f5⟩ := as_fx H1
        simp only [kh_heatDay_b6_0, fx_env, fx_c, fx_ne, fx_hf, wl_S, Nat.zero_add, Nat.reduceAdd, Nat.reduceDiv, Nat.reduceMod, List.getElem?_cons_zero, List.getElem?_cons_succ, if_true, and_true, true_and] at f1 f2 f3 f4 f5
        have fe0 : nv β 0 = 805 := by omega
        have fe2 : nv β 2 = 806 := by omega
        have fe3 : nv β 3 = 1200 := by omega
        have fe5 : nv β 5 = 0 := by omega
        try simp only [fe0, fe2, fe3, fe5, Int.reduceToNat] at f2 f3 f4 f5
        have s0 : nv β 0 = nv α1 0 := nv_le H1.1 (by omega)
        have s1 : nv β 1 = nv α1 1 := nv_le H1.1 (by omega)
        obtain ⟨c0, c1⟩ := f2
        obtain ⟨α', Ha, hm⟩ := hd_gpM (q := kh_heatDay_a139) (n := 0) (by decide +kernel) hx H1 (by decide +kernel) hxa hf
        have hfr := H1.2.2.2.2.2.2.2.2.2.2.1
        have m0 : nv α' 0 = nv β 0 := hm 0 0 rfl
        have m1 : nv α' 1 = nv β 5 := hm 1 5 rfl
        subst S'
        refine ih.2.2.2.1 _ _ _ _ Ha ?_ ?_
        · trivial
        · omega
      · obtain ⟨f1, f2, f3, f4, f5⟩ := as_fx H1
        simp only [kh_heatDay_b6_1, fx_env, fx_c, fx_ne, fx_hf, wl_S, Nat.zero_add, Nat.reduceAdd, Nat.reduceDiv, Nat.reduceMod, List.getElem?_cons_zero, List.getElem?_cons_succ, if_true, and_true, true_and] at f1 f2 f3 f4 f5
        have fe0 : nv β 0 = 805 := by omega
        have fe2 : nv β 2 = 806 := by omega
        have fe3 : nv β 3 = 1200 := by omega
        have fe5 : nv β 5 = 1 := by omega
        have fe6 : nv β 6 = 0 := by omega
        have fe8 : nv β 8 = 807 := by omega
        have fe9 : nv β 9 = 30 := by omega
        have fe11 : nv β 11 = 847 := by omega
        have fe15 : nv β 15 = 807 := by omega
        have fe16 : nv β 16 = 33 := by omega
        try simp only [fe0, fe2, fe3, fe5, fe6, fe8, fe9, fe11, fe15, fe16, Int.reduceToNat] at f2 f3 f4 f5
        have s0 : nv β 0 = nv α1 0 := nv_le H1.1 (by omega)
        have s1 : nv β 1 = nv α1 1 := nv_le H1.1 (by omega)
        obtain ⟨c0, c1, c2, c3, c4⟩ := f2
        obtain ⟨α', Ha, hm⟩ := hd_gpM (q := kh_heatDay_a67) (n := 0) (by decide +kernel) hx H1 (by decide +kernel) hxa hf
        have hfr := H1.2.2.2.2.2.2.2.2.2.2.1
        have m0 : nv α' 0 = nv β 0 := hm 0 0 rfl
        have m1 : nv α' 1 = nv β 1 := hm 1 1 rfl
        have m2 : nv α' 2 = nv β 6 := hm 2 6 rfl
        have m3 : nv α' 3 = nv β 7 := hm 3 7 rfl
        have d2 := c2
        simp only [wd_fl1, if_neg (show ¬ (wd_base 1018 = true) by decide)] at d2
        have o0 := old_0 c0 rfl
        have o4 := old_0 c4 rfl
        have e2 := fr_row hfr 847 (by decide +kernel)
        have e3 := fr_row hfr 806 (by decide +kernel)
        have h1 := hp (nv β 1).toNat (by omega) (by omega) (by rw [o4]; omega)
        rw [show 1203 + 5 * (nv β 1).toNat = (1203 + 5 * nv β 1).toNat by omega] at h1
        refine ih.2.1 _ _ _ _ Ha ?_ ?_
        · rw [m1, m3]
          refine ⟨fun b hb hb2 hb3 => ?_, ?_, by omega⟩
          · rw [e2, e3]; rw [e3] at hb3
            exact hp b (by omega) hb2 hb3
          · rw [e3]; omega
        · omega
      · obtain ⟨f1, f2, f3, f4, f5⟩ := as_fx H1
        simp only [kh_heatDay_b6_2, fx_env, fx_c, fx_ne, fx_hf, wl_S, Nat.zero_add, Nat.reduceAdd, Nat.reduceDiv, Nat.reduceMod, List.getElem?_cons_zero, List.getElem?_cons_succ, if_true, and_true, true_and] at f1 f2 f3 f4 f5
        have fe0 : nv β 0 = 805 := by omega
        have fe2 : nv β 2 = 806 := by omega
        have fe3 : nv β 3 = 1200 := by omega
        have fe5 : nv β 5 = 0 := by omega
        have fe6 : nv β 6 = 1 := by omega
        have fe8 : nv β 8 = 807 := by omega
        have fe9 : nv β 9 = 30 := by omega
        have fe11 : nv β 11 = 847 := by omega
        have fe15 : nv β 15 = 807 := by omega
        have fe16 : nv β 16 = 33 := by omega
        try simp only [fe0, fe2, fe3, fe5, fe6, fe8, fe9, fe11, fe15, fe16, Int.reduceToNat] at f2 f3 f4 f5
        have s0 : nv β 0 = nv α1 0 := nv_le H1.1 (by omega)
        have s1 : nv β 1 = nv α1 1 := nv_le H1.1 (by omega)
        obtain ⟨c0, c1, c2, c3, c4⟩ := f2
        obtain ⟨α', Ha, hm⟩ := hd_gpM (q := kh_heatDay_a67) (n := 0) (by decide +kernel) hx H1 (by decide +kernel) hxa hf
        have hfr := H1.2.2.2.2.2.2.2.2.2.2.1
        have m0 : nv α' 0 = nv β 0 := hm 0 0 rfl
        have m1 : nv α' 1 = nv β 1 := hm 1 1 rfl
        have m2 : nv α' 2 = nv β 6 := hm 2 6 rfl
        have m3 : nv α' 3 = nv β 7 := hm 3 7 rfl
        have d2 := c2
        simp only [wd_fl1, if_neg (show ¬ (wd_base 1018 = true) by decide)] at d2
        have o0 := old_0 c0 rfl
        have o4 := old_0 c4 rfl
        have e2 := fr_row hfr 847 (by decide +kernel)
        have e3 := fr_row hfr 806 (by decide +kernel)
        have h1 := hp (nv β 1).toNat (by omega) (by omega) (by rw [o4]; omega)
        rw [show 1203 + 5 * (nv β 1).toNat = (1203 + 5 * nv β 1).toNat by omega] at h1
        refine ih.2.1 _ _ _ _ Ha ?_ ?_
        · rw [m1, m3]
          refine ⟨fun b hb hb2 hb3 => ?_, ?_, by omega⟩
          · rw [e2, e3]; rw [e3] at hb3
            exact hp b (by omega) hb2 hb3
          · rw [e3]; omega
        · omega
      · obtain ⟨f1, f2, f3, f4, f5⟩ := as_fx H1
        simp only [kh_heatDay_b6_3, fx_env, fx_c, fx_ne, fx_hf, wl_S, Nat.zero_add, Nat.reduceAdd, Nat.reduceDiv, Nat.reduceMod, List.getElem?_cons_zero, List.getElem?_cons_succ, if_true, and_true, true_and] at f1 f2 f3 f4 f5
        have fe0 : nv β 0 = 805 := by omega
        have fe2 : nv β 2 = 806 := by omega
        have fe3 : nv β 3 = 1200 := by omega
        have fe6 : nv β 6 = 0 := by omega
        have fe8 : nv β 8 = 807 := by omega
        have fe9 : nv β 9 = 30 := by omega
        have fe11 : nv β 11 = 847 := by omega
        have fe15 : nv β 15 = 807 := by omega
        have fe16 : nv β 16 = 33 := by omega
        try simp only [fe0, fe2, fe3, fe6, fe8, fe9, fe11, fe15, fe16, Int.reduceToNat] at f2 f3 f4 f5
        have s0 : nv β 0 = nv α1 0 := nv_le H1.1 (by omega)
        have s1 : nv β 1 = nv α1 1 := nv_le H1.1 (by omega)
        obtain ⟨c0, c1, c2, c3, c4⟩ := f2
        obtain ⟨α', Ha, hm⟩ := hd_gpM (q := kh_heatDay_a67) (n := 0) (by decide +kernel) hx H1 (by decide +kernel) hxa hf
        have hfr := H1.2.2.2.2.2.2.2.2.2.2.1
        have m0 : nv α' 0 = nv β 0 := hm 0 0 rfl
        have m1 : nv α' 1 = nv β 1 := hm 1 1 rfl
        have m2 : nv α' 2 = nv β 6 := hm 2 6 rfl
        have m3 : nv α' 3 = nv β 7 := hm 3 7 rfl
        have d2 := c2
        simp only [wd_fl1, if_neg (show ¬ (wd_base 1018 = true) by decide)] at d2
        have o0 := old_0 c0 rfl
        have o4 := old_0 c4 rfl
        have e2 := fr_row hfr 847 (by decide +kernel)
        have e3 := fr_row hfr 806 (by decide +kernel)
        have h1 := hp (nv β 1).toNat (by omega) (by omega) (by rw [o4]; omega)
        rw [show 1203 + 5 * (nv β 1).toNat = (1203 + 5 * nv β 1).toNat by omega] at h1
        refine ih.2.1 _ _ _ _ Ha ?_ ?_
        · rw [m1, m3]
          refine ⟨fun b hb hb2 hb3 => ?_, ?_, by omega⟩
          · rw [e2, e3]; rw [e3] at hb3
            exact hp b (by omega) hb2 hb3
          · rw [e3]; omega
        · omega
    · intro α lv st S1 H hp hk
      obtain ⟨α1, hle, Hr⟩ := as_recM (pl := []) [] (by decide +kernel) H
      have hf := H.2.2.2.2.2.2.2.2.2.2.1
      have hl1 : α1.length = 4 := by rw [Hr.2.1.1]; rfl
      have hl0 : α.length = 4 := by rw [H.2.1.1]; rfl
      have hxa : al_le xs α1 := H.1.trans hle
      obtain ⟨g1, -, g3, g4, -⟩ := as_fx Hr
      have g0 : (805 ≤ nv α1 0 ∧ nv α1 0 ≤ 805) ∧ (0 ≤ nv α1 1 ∧ nv α1 1 ≤ 1) ∧ (0 ≤ nv α1 2 ∧ nv α1 2 ≤ 1) ∧ (0 ≤ nv α1 3 ∧ nv α1 3 ≤ 30) ∧ True := by
        refine ⟨by have h := (en_nv (i := 0) Hr.2.1 rfl).2; exact h, by have h := (en_nv (i := 1) Hr.2.1 rfl).2; exact h, by have h := (en_nv (i := 2) Hr.2.1 rfl).2; exact h, by have h := (en_nv (i := 3) Hr.2.1 rfl).2; exact h, trivial⟩
      have r0 : nv α1 0 = nv α 0 := nv_le hle (by omega)
      have r1 : nv α1 1 = nv α 1 := nv_le hle (by omega)
      have r2 : nv α1 2 = nv α 2 := nv_le hle (by omega)
      have r3 : nv α1 3 = nv α 3 := nv_le hle (by omega)
      refine hd_segM G (na := 4) (fuel := 600) (first := true) (Bs := [kh_heatDay_b67_0]) (by decide +kernel) hl1 Hr ?_
      intro q hq β lv' st' S' H1
      simp only [List.mem_cons, List.not_mem_nil, or_false] at hq
      rcases hq with rfl
      · obtain ⟨f1, f2, f3, f4, f5⟩ := as_fx H1
        simp only [kh_heatDay_b67_0, fx_env, fx_c, fx_ne, fx_hf, wl_S, Nat.zero_add, Nat.reduceAdd, Nat.reduceDiv, Nat.reduceMod, List.getElem?_cons_zero, List.getElem?_cons_succ, if_true, and_true, true_and] at f1 f2 f3 f4 f5
        have fe0 : nv β 0 = 805 := by omega
        have fe4 : nv β 4 = 806 := by omega
        have fe5 : nv β 5 = 1201 := by omega
        have fe6 : nv β 6 = 5 := by omega
        have fe9 : nv β 9 = 2 := by omega
        try simp only [fe0, fe4, fe5, fe6, fe9, Int.reduceToNat] at f2 f3 f4 f5
        have s0 : nv β 0 = nv α1 0 := nv_le H1.1 (by omega)
        have s1 : nv β 1 = nv α1 1 := nv_le H1.1 (by omega)
        have s2 : nv β 2 = nv α1 2 := nv_le H1.1 (by omega)
        have s3 : nv β 3 = nv α1 3 := nv_le H1.1 (by omega)
        obtain ⟨c0, c1, c2, c3, c4⟩ := f2
        obtain ⟨α', Ha, hm⟩ := hd_gpM (q := kh_heatDay_a84) (n := 0) (by decide +kernel) hx H1 (by decide +kernel) hxa hf
        have hfr := H1.2.2.2.2.2.2.2.2.2.2.1
        have m0 : nv α' 0 = nv β 0 := hm 0 0 rfl
        have m1 : nv α' 1 = nv β 1 := hm 1 1 rfl
        have m2 : nv α' 2 = nv β 2 := hm 2 2 rfl
        have m3 : nv α' 3 = nv β 3 := hm 3 3 rfl
        have m4 : nv α' 4 = nv β 12 := hm 4 12 rfl
        have m5 : nv α' 5 = nv β 10 := hm 5 10 rfl
        have m6 : nv α' 6 = nv β 4 := hm 6 4 rfl
        subst S'
        have o1 := old_0 c1 rfl
        have hi : nv β 10 = 1203 + 5 * nv β 1 := by omega
        rw [hi] at o1
        have hq1 := hp.2.1
        rw [← r1, ← s1] at hq1
        refine ih.2.2.1 _ _ _ _ Ha ?_ ?_
        · rw [m1, m4, m5]
          exact ⟨fun b hb hb2 hb3 => hp.1 b (by omega) hb2 hb3, by omega, by omega, hi⟩
        · omega
    · intro α lv st S1 H hp hk
      have bp := (en_nv (i := 4) H.2.1 rfl).2
      change (-30) ≤ nv α 4 ∧ nv α 4 ≤ 999 at bp
      replace H := as_clamp (i := 4) (lo := 0) (hi := 999) H rfl rfl (by omega) (by omega) (by decide)
      obtain ⟨α1, hle, Hr⟩ := as_recM (pl := []) [((806, 806), (1203, 1208, 5)), ((806, 806), (1204, 1209, 5)), ((806, 806), (1205, 1210, 5))] (by decide +kernel) H
      have hf := H.2.2.2.2.2.2.2.2.2.2.1
      have hl1 : α1.length = 7 := by rw [Hr.2.1.1]; rfl
      have hl0 : α.length = 7 := by rw [H.2.1.1]; rfl
      have hxa : al_le xs α1 := H.1.trans hle
      obtain ⟨g1, -, g3, g4, -⟩ := as_fx Hr
      have g0 : (805 ≤ nv α1 0 ∧ nv α1 0 ≤ 805) ∧ (0 ≤ nv α1 1 ∧ nv α1 1 ≤ 1) ∧ (0 ≤ nv α1 2 ∧ nv α1 2 ≤ 1) ∧ (0 ≤ nv α1 3 ∧ nv α1 3 ≤ 30) ∧ (0 ≤ nv α1 4 ∧ nv α1 4 ≤ 999) ∧ (1203 ≤ nv α1 5 ∧ nv α1 5 ≤ 1208) ∧ (806 ≤ nv α1 6 ∧ nv α1 6 ≤ 806) ∧ True := by
        refine ⟨by have h := (en_nv (i := 0) Hr.2.1 rfl).2; exact h, by have h := (en_nv (i := 1) Hr.2.1 rfl).2; exact h, by have h := (en_nv (i := 2) Hr.2.1 rfl).2; exact h, by have h := (en_nv (i := 3) Hr.2.1 rfl).2; exact h, by have h := (en_nv (i := 4) Hr.2.1 rfl).2; exact h, by have h := (en_nv (i := 5) Hr.2.1 rfl).2; exact h, by have h := (en_nv (i := 6) Hr.2.1 rfl).2; exact h, trivial⟩
      have r0 : nv α1 0 = nv α 0 := nv_le hle (by omega)
      have r1 : nv α1 1 = nv α 1 := nv_le hle (by omega)
      have r2 : nv α1 2 = nv α 2 := nv_le hle (by omega)
      have r3 : nv α1 3 = nv α 3 := nv_le hle (by omega)
      have r4 : nv α1 4 = nv α 4 := nv_le hle (by omega)
      have r5 : nv α1 5 = nv α 5 := nv_le hle (by omega)
      have r6 : nv α1 6 = nv α 6 := nv_le hle (by omega)
      refine hd_segM G (na := 7) (fuel := 600) (first := true) (Bs := [kh_heatDay_b84_0, kh_heatDay_b84_1]) (by decide +kernel) hl1 Hr ?_
      intro q hq β lv' st' S' H1
      simp only [List.mem_cons, List.not_mem_nil, or_false] at hq
      rcases hq with rfl | rfl
      · obtain ⟨f1, f2, f3, f4, f5⟩ := as_fx H1
        simp only [kh_heatDay_b84_0, fx_env, fx_c, fx_ne, fx_hf, wl_S, Nat.zero_add, Nat.reduceAdd, Nat.reduceDiv, Nat.reduceMod, List.getElem?_cons_zero, List.getElem?_cons_succ, if_true, and_true, true_and] at f1 f2 f3 f4 f5
        have fe0 : nv β 0 = 805 := by omega
        have fe2 : nv β 2 = 0 := by omega
        have fe6 : nv β 6 = 806 := by omega
        have fe7 : nv β 7 = 806 := by omega
        have fe8 : nv β 8 = 1201 := by omega
        have fe9 : nv β 9 = 5 := by omega
        have fe12 : nv β 12 = 3 := by omega
        have fe14 : nv β 14 = 0 := by omega
        have fe15 : nv β 15 = 806 := by omega
        have fe16 : nv β 16 = 1201 := by omega
        have fe17 : nv β 17 = 5 := by omega
        have fe20 : nv β 20 = 4 := by omega
        have fe22 : nv β 22 = 0 := by omega
        try simp only [fe0, fe2, fe6, fe7, fe8, fe9, fe12, fe14, fe15, fe16, fe17, fe20, fe22, Int.reduceToNat] at f2 f3 f4 f5
        have s0 : nv β 0 = nv α1 0 := nv_le H1.1 (by omega)
        have s1 : nv β 1 = nv α1 1 := nv_le H1.1 (by omega)
        have s2 : nv β 2 = nv α1 2 := nv_le H1.1 (by omega)
        have s3 : nv β 3 = nv α1 3 := nv_le H1.1 (by omega)
        have s4 : nv β 4 = nv α1 4 := nv_le H1.1 (by omega)
        have s5 : nv β 5 = nv α1 5 := nv_le H1.1 (by omega)
        have s6 : nv β 6 = nv α1 6 := nv_le H1.1 (by omega)
        obtain ⟨c0, c1, c2, c3, c4, c5⟩ := f2
        obtain ⟨α', Ha, hm⟩ := hd_gpM (q := kh_heatDay_a6) (n := 0) (by decide +kernel) hx H1 (by decide +kernel) hxa hf
        have hfr := H1.2.2.2.2.2.2.2.2.2.2.1
        have m0 : nv α' 0 = nv β 0 := hm 0 0 rfl
        have m1 : nv α' 1 = nv β 23 := hm 1 23 rfl
        subst S'
        have e2 := fr_row hfr 847 (by decide +kernel)
        refine ih.1 _ _ _ _ Ha ?_ ?_
        · intro b hb hb2 hb3
          rw [m1] at hb
          rw [e2]
          have ea : ∀ j : Nat, (j : Int) ≠ nv β 5 → (j : Int) ≠ 1204 + 5 * nv β 1 → (j : Int) ≠ 1205 + 5 * nv β 1 → (fw_i (fw_i (fw_i S1 806 (nv β 5).toNat (Int32.ofInt (nv β 4))) 806 (nv β 13).toNat (Int32.ofInt (0))) 806 (nv β 21).toNat (Int32.ofInt (0))).1 806 j = S1.1 806 j := by
            intro j h1 h2 h3
            rw [fw_i_row, if_neg (by omega), fw_i_row, if_neg (by omega), fw_i_row, if_neg (by omega)]
          rw [ea 1200 (by omega) (by omega) (by omega)] at hb3
          rw [ea (1203 + 5 * b) (by omega) (by omega) (by omega)]
          exact hp.1 b (by omega) hb2 hb3
        · omega
      · obtain ⟨f1, f2, f3, f4, f5⟩ := as_fx H1
        simp only [kh_heatDay_b84_1, fx_env, fx_c, fx_ne, fx_hf, wl_S, Nat.zero_add, Nat.reduceAdd, Nat.reduceDiv, Nat.reduceMod, List.getElem?_cons_zero, List.getElem?_cons_succ, if_true, and_true, true_and] at f1 f2 f3 f4 f5
        have fe0 : nv β 0 = 805 := by omega
        have fe2 : nv β 2 = 1 := by omega
        have fe6 : nv β 6 = 806 := by omega
        have fe7 : nv β 7 = 806 := by omega
        have fe8 : nv β 8 = 1201 := by omega
        have fe9 : nv β 9 = 5 := by omega
        have fe12 : nv β 12 = 3 := by omega
        have fe14 : nv β 14 = 1 := by omega
        have fe15 : nv β 15 = 806 := by omega
        have fe16 : nv β 16 = 1201 := by omega
        have fe17 : nv β 17 = 5 := by omega
        have fe20 : nv β 20 = 4 := by omega
        have fe22 : nv β 22 = 1 := by omega
        try simp only [fe0, fe2, fe6, fe7, fe8, fe9, fe12, fe14, fe15, fe16, fe17, fe20, fe22, Int.reduceToNat] at f2 f3 f4 f5
        have s0 : nv β 0 = nv α1 0 := nv_le H1.1 (by omega)
        have s1 : nv β 1 = nv α1 1 := nv_le H1.1 (by omega)
        have s2 : nv β 2 = nv α1 2 := nv_le H1.1 (by omega)
        have s3 : nv β 3 = nv α1 3 := nv_le H1.1 (by omega)
        have s4 : nv β 4 = nv α1 4 := nv_le H1.1 (by omega)
        have s5 : nv β 5 = nv α1 5 := nv_le H1.1 (by omega)
        have s6 : nv β 6 = nv α1 6 := nv_le H1.1 (by omega)
        obtain ⟨c0, c1, c2, c3, c4, c5⟩ := f2
        obtain ⟨α', Ha, hm⟩ := hd_gpM (q := kh_heatDay_a6) (n := 0) (by decide +kernel) hx H1 (by decide +kernel) hxa hf
        have hfr := H1.2.2.2.2.2.2.2.2.2.2.1
        have m0 : nv α' 0 = nv β 0 := hm 0 0 rfl
        have m1 : nv α' 1 = nv β 23 := hm 1 23 rfl
        subst S'
        have e2 := fr_row hfr 847 (by decide +kernel)
        refine ih.1 _ _ _ _ Ha ?_ ?_
        · intro b hb hb2 hb3
          rw [m1] at hb
          rw [e2]
          have ea : ∀ j : Nat, (j : Int) ≠ nv β 5 → (j : Int) ≠ 1204 + 5 * nv β 1 → (j : Int) ≠ 1205 + 5 * nv β 1 → (fw_i (fw_i (fw_i S1 806 (nv β 5).toNat (Int32.ofInt (nv β 4))) 806 (nv β 13).toNat (Int32.ofInt (1))) 806 (nv β 21).toNat (Int32.ofInt (1))).1 806 j = S1.1 806 j := by
            intro j h1 h2 h3
            rw [fw_i_row, if_neg (by omega), fw_i_row, if_neg (by omega), fw_i_row, if_neg (by omega)]
          rw [ea 1200 (by omega) (by omega) (by omega)] at hb3
          rw [ea (1203 + 5 * b) (by omega) (by omega) (by omega)]
          exact hp.1 b (by omega) hb2 hb3
        · omega
    · intro α lv st S1 H hp hk
      obtain ⟨α1, hle, Hr⟩ := as_recM (pl := []) [((807, 807), (31, 31, 0))] (by decide +kernel) H
      have hf := H.2.2.2.2.2.2.2.2.2.2.1
      have hl1 : α1.length = 2 := by rw [Hr.2.1.1]; rfl
      have hl0 : α.length = 2 := by rw [H.2.1.1]; rfl
      have hxa : al_le xs α1 := H.1.trans hle
      obtain ⟨g1, -, g3, g4, -⟩ := as_fx Hr
      have g0 : (805 ≤ nv α1 0 ∧ nv α1 0 ≤ 805) ∧ (0 ≤ nv α1 1 ∧ nv α1 1 ≤ 12) ∧ True := by
        refine ⟨by have h := (en_nv (i := 0) Hr.2.1 rfl).2; exact h, by have h := (en_nv (i := 1) Hr.2.1 rfl).2; exact h, trivial⟩
      have r0 : nv α1 0 = nv α 0 := nv_le hle (by omega)
      have r1 : nv α1 1 = nv α 1 := nv_le hle (by omega)
      refine hd_segM G (na := 2) (fuel := 600) (first := true) (Bs := [kh_heatDay_b139_0, kh_heatDay_b139_1]) (by decide +kernel) hl1 Hr ?_
      intro q hq β lv' st' S' H1
      simp only [List.mem_cons, List.not_mem_nil, or_false] at hq
      rcases hq with rfl | rfl
      · obtain ⟨f1, f2, f3, f4, f5⟩ := as_fx H1
        simp only [kh_heatDay_b139_0, fx_env, fx_c, fx_ne, fx_hf, wl_S, Nat.zero_add, Nat.reduceAdd, Nat.reduceDiv, Nat.reduceMod, List.getElem?_cons_zero, List.getElem?_cons_succ, if_true, and_true, true_and] at f1 f2 f3 f4 f5
        have fe0 : nv β 0 = 805 := by omega
        have fe1 : nv β 1 = 12 := by omega
        have fe2 : nv β 2 = 12 := by omega
        have fe3 : nv β 3 = 0 := by omega
        try simp only [fe0, fe1, fe2, fe3, Int.reduceToNat] at f2 f3 f4 f5
        have s0 : nv β 0 = nv α1 0 := nv_le H1.1 (by omega)
        have s1 : nv β 1 = nv α1 1 := nv_le H1.1 (by omega)
        have c0 := f2
        obtain ⟨α', Ha, hm⟩ := hd_gpM (q := kh_heatDay_a170) (n := 0) (by decide +kernel) hx H1 (by decide +kernel) hxa hf
        have hfr := H1.2.2.2.2.2.2.2.2.2.2.1
        have m0 : nv α' 0 = nv β 0 := hm 0 0 rfl
        have m1 : nv α' 1 = nv β 3 := hm 1 3 rfl
        subst S'
        refine ih.2.2.2.2.1 _ _ _ _ Ha ?_ ?_
        · trivial
        · omega
      · obtain ⟨f1, f2, f3, f4, f5⟩ := as_fx H1
        simp only [kh_heatDay_b139_1, fx_env, fx_c, fx_ne, fx_hf, wl_S, Nat.zero_add, Nat.reduceAdd, Nat.reduceDiv, Nat.reduceMod, List.getElem?_cons_zero, List.getElem?_cons_succ, if_true, and_true, true_and] at f1 f2 f3 f4 f5
        have fe0 : nv β 0 = 805 := by omega
        have fe2 : nv β 2 = 12 := by omega
        have fe3 : nv β 3 = 807 := by omega
        have fe4 : nv β 4 = 31 := by omega
        have fe6 : nv β 6 = 851 := by omega
        try simp only [fe0, fe2, fe3, fe4, fe6, Int.reduceToNat] at f2 f3 f4 f5
        have s0 : nv β 0 = nv α1 0 := nv_le H1.1 (by omega)
        have s1 : nv β 1 = nv α1 1 := nv_le H1.1 (by omega)
        obtain ⟨c0, c1, c2⟩ := f2
        obtain ⟨α', Ha, hm⟩ := hd_gpM (q := kh_heatDay_a139) (n := 0) (by decide +kernel) hx H1 (by decide +kernel) hxa hf
        have hfr := H1.2.2.2.2.2.2.2.2.2.2.1
        have m0 : nv α' 0 = nv β 0 := hm 0 0 rfl
        have m1 : nv α' 1 = nv β 10 := hm 1 10 rfl
        refine ih.2.2.2.1 _ _ _ _ Ha ?_ ?_
        · trivial
        · omega
    · intro α lv st S1 H hp hk
      obtain ⟨α1, hle, Hr⟩ := as_recM (pl := []) [((807, 807), (32, 32, 0))] (by decide +kernel) H
      have hf := H.2.2.2.2.2.2.2.2.2.2.1
      have hl1 : α1.length = 2 := by rw [Hr.2.1.1]; rfl
      have hl0 : α.length = 2 := by rw [H.2.1.1]; rfl
      have hxa : al_le xs α1 := H.1.trans hle
      obtain ⟨g1, -, g3, g4, -⟩ := as_fx Hr
      have g0 : (805 ≤ nv α1 0 ∧ nv α1 0 ≤ 805) ∧ (0 ≤ nv α1 1 ∧ nv α1 1 ≤ 17) ∧ True := by
        refine ⟨by have h := (en_nv (i := 0) Hr.2.1 rfl).2; exact h, by have h := (en_nv (i := 1) Hr.2.1 rfl).2; exact h, trivial⟩
      have r0 : nv α1 0 = nv α 0 := nv_le hle (by omega)
      have r1 : nv α1 1 = nv α 1 := nv_le hle (by omega)
      refine hd_segM G (na := 2) (fuel := 600) (first := true) (Bs := [kh_heatDay_b170_0, kh_heatDay_b170_1]) (by decide +kernel) hl1 Hr ?_
      intro q hq β lv' st' S' H1
      simp only [List.mem_cons, List.not_mem_nil, or_false] at hq
      rcases hq with rfl | rfl
      · obtain ⟨f1, f2, f3, f4, f5⟩ := as_fx H1
        simp only [kh_heatDay_b170_0, fx_env, fx_c, fx_ne, fx_hf, wl_S, Nat.zero_add, Nat.reduceAdd, Nat.reduceDiv, Nat.reduceMod, List.getElem?_cons_zero, List.getElem?_cons_succ, if_true, and_true, true_and] at f1 f2 f3 f4 f5
        have fe0 : nv β 0 = 805 := by omega
        have fe1 : nv β 1 = 17 := by omega
        have fe2 : nv β 2 = 17 := by omega
        have fe3 : nv β 3 = 0 := by omega
        try simp only [fe0, fe1, fe2, fe3, Int.reduceToNat] at f2 f3 f4 f5
        have s0 : nv β 0 = nv α1 0 := nv_le H1.1 (by omega)
        have s1 : nv β 1 = nv α1 1 := nv_le H1.1 (by omega)
        have c0 := f2
        obtain ⟨α', Ha, hm⟩ := hd_gpM (q := kh_heatDay_a201) (n := 0) (by decide +kernel) hx H1 (by decide +kernel) hxa hf
        have hfr := H1.2.2.2.2.2.2.2.2.2.2.1
        have m0 : nv α' 0 = nv β 0 := hm 0 0 rfl
        have m1 : nv α' 1 = nv β 3 := hm 1 3 rfl
        subst S'
        refine ih.2.2.2.2.2.1 _ _ _ _ Ha ?_ ?_
        · trivial
        · omega
      · obtain ⟨f1, f2, f3, f4, f5⟩ := as_fx H1
        simp only [kh_heatDay_b170_1, fx_env, fx_c, fx_ne, fx_hf, wl_S, Nat.zero_add, Nat.reduceAdd, Nat.reduceDiv, Nat.reduceMod, List.getElem?_cons_zero, List.getElem?_cons_succ, if_true, and_true, true_and] at f1 f2 f3 f4 f5
        have fe0 : nv β 0 = 805 := by omega
        have fe2 : nv β 2 = 17 := by omega
        have fe3 : nv β 3 = 807 := by omega
        have fe4 : nv β 4 = 32 := by omega
        have fe6 : nv β 6 = 849 := by omega
        try simp only [fe0, fe2, fe3, fe4, fe6, Int.reduceToNat] at f2 f3 f4 f5
        have s0 : nv β 0 = nv α1 0 := nv_le H1.1 (by omega)
        have s1 : nv β 1 = nv α1 1 := nv_le H1.1 (by omega)
        obtain ⟨c0, c1, c2⟩ := f2
        obtain ⟨α', Ha, hm⟩ := hd_gpM (q := kh_heatDay_a170) (n := 0) (by decide +kernel) hx H1 (by decide +kernel) hxa hf
        have hfr := H1.2.2.2.2.2.2.2.2.2.2.1
        have m0 : nv α' 0 = nv β 0 := hm 0 0 rfl
        have m1 : nv α' 1 = nv β 10 := hm 1 10 rfl
        refine ih.2.2.2.2.1 _ _ _ _ Ha ?_ ?_
        · trivial
        · omega
    · intro α lv st S1 H hp hk
      obtain ⟨α1, hle, Hr⟩ := as_recM (pl := []) [((806, 806), (11, 11, 0)), ((806, 806), (1211, 1220, 1)), ((807, 807), (34, 34, 0))] (by decide +kernel) H
      have hf := H.2.2.2.2.2.2.2.2.2.2.1
      have hl1 : α1.length = 2 := by rw [Hr.2.1.1]; rfl
      have hl0 : α.length = 2 := by rw [H.2.1.1]; rfl
      have hxa : al_le xs α1 := H.1.trans hle
      obtain ⟨g1, -, g3, g4, -⟩ := as_fx Hr
      have g0 : (805 ≤ nv α1 0 ∧ nv α1 0 ≤ 805) ∧ (0 ≤ nv α1 1 ∧ nv α1 1 ≤ 10) ∧ True := by
        refine ⟨by have h := (en_nv (i := 0) Hr.2.1 rfl).2; exact h, by have h := (en_nv (i := 1) Hr.2.1 rfl).2; exact h, trivial⟩
      have r0 : nv α1 0 = nv α 0 := nv_le hle (by omega)
      have r1 : nv α1 1 = nv α 1 := nv_le hle (by omega)
      refine hd_segM G (na := 2) (fuel := 600) (first := true) (Bs := [kh_heatDay_b201_0, kh_heatDay_b201_1, kh_heatDay_b201_2]) (by decide +kernel) hl1 Hr ?_
      intro q hq β lv' st' S' H1
      simp only [List.mem_cons, List.not_mem_nil, or_false] at hq
      rcases hq with rfl | rfl | rfl
      · obtain ⟨f1, f2, f3, f4, f5⟩ := as_fx H1
        simp only [kh_heatDay_b201_0, fx_env, fx_c, fx_ne, fx_hf, wl_S, Nat.zero_add, Nat.reduceAdd, Nat.reduceDiv, Nat.reduceMod, List.getElem?_cons_zero, List.getElem?_cons_succ, if_true, and_true, true_and] at f1 f2 f3 f4 f5
        have fe0 : nv β 0 = 805 := by omega
        try simp only [fe0, Int.reduceToNat] at f2 f3 f4 f5
        have s0 : nv β 0 = nv α1 0 := nv_le H1.1 (by omega)
        have s1 : nv β 1 = nv α1 1 := nv_le H1.1 (by omega)
        have c0 := f2
        exact hd_run G (ss := []) (fuel := 20) (by decide +kernel) (as_backM H1 (by decide +kernel) hxa hf)
      · obtain ⟨f1, f2, f3, f4, f5⟩ := as_fx H1
        simp only [kh_heatDay_b201_1, fx_env, fx_c, fx_ne, fx_hf, wl_S, Nat.zero_add, Nat.reduceAdd, Nat.reduceDiv, Nat.reduceMod, List.getElem?_cons_zero, List.getElem?_cons_succ, if_true, and_true, true_and] at f1 f2 f3 f4 f5
        have fe0 : nv β 0 = 805 := by omega
        have fe3 : nv β 3 = 2 := by omega
        have fe4 : nv β 4 = 0 := by omega
        try simp only [fe0, fe3, fe4, Int.reduceToNat] at f2 f3 f4 f5
        have s0 : nv β 0 = nv α1 0 := nv_le H1.1 (by omega)
        have s1 : nv β 1 = nv α1 1 := nv_le H1.1 (by omega)
        have c0 := f2
        obtain ⟨α', Ha, hm⟩ := hd_gpM (q := kh_heatDay_a201) (n := 0) (by decide +kernel) hx H1 (by decide +kernel) hxa hf
        have hfr := H1.2.2.2.2.2.2.2.2.2.2.1
        have m0 : nv α' 0 = nv β 0 := hm 0 0 rfl
        have m1 : nv α' 1 = nv β 5 := hm 1 5 rfl
        subst S'
        refine ih.2.2.2.2.2.1 _ _ _ _ Ha ?_ ?_
        · trivial
        · omega
      · obtain ⟨f1, f2, f3, f4, f5⟩ := as_fx H1
        simp only [kh_heatDay_b201_2, fx_env, fx_c, fx_ne, fx_hf, wl_S, Nat.zero_add, Nat.reduceAdd, Nat.reduceDiv, Nat.reduceMod, List.getElem?_cons_zero, List.getElem?_cons_succ, if_true, and_true, true_and] at f1 f2 f3 f4 f5
        have fe0 : nv β 0 = 805 := by omega
        have fe3 : nv β 3 = 2 := by omega
        have fe4 : nv β 4 = 1 := by omega
        try simp only [fe0, fe3, fe4, Int.reduceToNat] at f2 f3 f4 f5
        have s0 : nv β 0 = nv α1 0 := nv_le H1.1 (by omega)
        have s1 : nv β 1 = nv α1 1 := nv_le H1.1 (by omega)
        have c0 := f2
        obtain ⟨α', Ha, hm⟩ := hd_gpM (q := kh_heatDay_a201) (n := 0) (by decide +kernel) hx H1 (by decide +kernel) hxa hf
        have hfr := H1.2.2.2.2.2.2.2.2.2.2.1
        have m0 : nv α' 0 = nv β 0 := hm 0 0 rfl
        have m1 : nv α' 1 = nv β 5 := hm 1 5 rfl
        refine ih.2.2.2.2.2.1 _ _ _ _ Ha ?_ ?_
        · trivial
        · omega
  obtain ⟨α1, hle, Hr⟩ := as_recM (pl := []) [((805, 805), (61, 61, 0)), ((805, 805), (62, 62, 0)), ((846, 846), (0, 1, 1)), ((847, 847), (0, 1, 1)), ((848, 848), (0, 33, 1)), ((849, 849), (0, 16, 1)), ((850, 850), (0, 11, 1)), ((851, 851), (0, 11, 1)), ((852, 852), (0, 11, 1)), ((854, 854), (0, 11, 1)), ((855, 855), (0, 23, 1)), ((856, 856), (0, 287, 1)), ((857, 857), (0, 9, 1)), ((858, 858), (0, 9, 1))] (by decide +kernel) H0
  have hf := H0.2.2.2.2.2.2.2.2.2.2.1
  have hl1 : α1.length = 1 := by rw [Hr.2.1.1]; rfl
  have hl0 : xs.length = 1 := by rw [H0.2.1.1]; rfl
  have hxa : al_le xs α1 := H0.1.trans hle
  obtain ⟨g1, -, g3, g4, -⟩ := as_fx Hr
  have g0 : (805 ≤ nv α1 0 ∧ nv α1 0 ≤ 805) ∧ True := by
    refine ⟨by have h := (en_nv (i := 0) Hr.2.1 rfl).2; exact h, trivial⟩
  have r0 : nv α1 0 = nv xs 0 := nv_le hle (by omega)
  refine hd_segM G (na := 1) (fuel := 600) (first := true) (Bs := [kh_heatDay_b0_0]) (by decide +kernel) hl1 Hr ?_
  intro q hq β lv' st' S' H1
  simp only [List.mem_cons, List.not_mem_nil, or_false] at hq
  rcases hq with rfl
  · obtain ⟨f1, f2, f3, f4, f5⟩ := as_fx H1
    simp only [kh_heatDay_b0_0, fx_env, fx_c, fx_ne, fx_hf, wl_S, Nat.zero_add, Nat.reduceAdd, Nat.reduceDiv, Nat.reduceMod, List.getElem?_cons_zero, List.getElem?_cons_succ, if_true, and_true, true_and] at f1 f2 f3 f4 f5
    have fe0 : nv β 0 = 805 := by omega
    have fe1 : nv β 1 = 0 := by omega
    try simp only [fe0, fe1, Int.reduceToNat] at f2 f3 f4 f5
    have s0 : nv β 0 = nv α1 0 := nv_le H1.1 (by omega)
    obtain ⟨α', Ha, hm⟩ := hd_gpM (q := kh_heatDay_a6) (n := 0) (by decide +kernel) hx H1 (by decide +kernel) hxa hf
    have hfr := H1.2.2.2.2.2.2.2.2.2.2.1
    have m0 : nv α' 0 = nv β 0 := hm 0 0 rfl
    have m1 : nv α' 1 = nv β 1 := hm 1 1 rfl
    have hq : hFits S' := by
      have h := H1.2.2.2.2.2.2.2.2.1 502 (by decide +kernel)
      rw [wd_fl1, if_neg (by decide)] at h
      exact h
    refine (hP _).1 _ _ _ _ Ha ?_ (Nat.lt_succ_self _)
    · intro b _ hb hb3; obtain ⟨a1, a2⟩ := hq b hb; have := a2 hb3; omega)
