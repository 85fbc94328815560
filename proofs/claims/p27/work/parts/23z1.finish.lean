/-! ===== the class: what a crew has done ===== -/
/- UtilityWorks$Grid fill -/
def kh_922 : ct_T := (141, [(2, 8, 8, 1), (0, 0, 16, 1), (0, 0, 999, 1)], [], [], [(0, (0, 0, 0, 0), [(2, 8, 8, 1), (0, 0, 16, 1), (0, 0, 999, 1)], [], ([], []))], [((62, 78), (3, 3, 0)), ((62, 78), (6, 6, 0))], 0, 0, 0)
theorem kh_922_ok : ct_ok wd_fl2 kh_922 := ct_of (ff := wd_ff2) (y := (⟨"UtilityWorks$Grid", "fill", "(II)V"⟩, prog_5_method_20_code, 3, none, 3, 1, 2, 26182, 26180, 26181, 21004)) (Cs := []) (an := []) (ss := []) (K := 1) (fuel := 4000) wd_fl2_ok rfl (List.forall_mem_nil _) (by decide +kernel)
/- UtilityWorks$Grid leads -/
def kh_923 : ct_T := (20, [(2, 8, 8, 1), (0, 0, 0, 0), (0, 0, 16, 1)], [], [], [(1, (0, 1, 1, 0), [(2, 8, 8, 1), (0, 0, 0, 0), (0, 0, 16, 1)], [], ([], [])), (1, (0, 0, 0, 0), [(2, 8, 8, 1), (0, 0, 0, 0), (0, 0, 16, 1)], [], ([], []))], [], 0, 0, 0)
theorem kh_923_ok : ct_ok wd_fl2 kh_923 := ct_of (ff := wd_ff2) (y := (⟨"UtilityWorks$Grid", "leads", "(II)Z"⟩, prog_5_method_6_code, 4, some .boolean, 3, 1, 2, 23225, 23223, 23224, 21004)) (Cs := []) (an := [(30, 0, ([((2, 8, 8, 1), none), ((0, 0, 0, 0), none), ((0, 0, 16, 1), none), ((2, 10, 26, 1), none)], [(0, 0), (1, 1), (2, 2), (3, 3)], [], [], [], [], [], [], none), [(0, 0, 99970)])]) (ss := []) (K := 1) (fuel := 4000) wd_fl2_ok rfl (List.forall_mem_nil _) (by decide +kernel)
/- UtilityWorks$Grid openLinks -/
def kh_924 : ct_T := (19, [(2, 8, 8, 1), (0, 0, 0, 0), (2, 2, 2, 1)], [], [], [(0, (0, 0, 0, 0), [(2, 8, 8, 1), (0, 0, 0, 0), (2, 2, 2, 1)], [], ([], []))], [((3, 3), (0, 16, 1))], 1, 23, 0)
theorem kh_924_ok : ct_ok wd_fl2 kh_924 := ct_of (ff := wd_ff2) (y := (⟨"UtilityWorks$Grid", "openLinks", "(ILUtilityWorks$Ways;)V"⟩, prog_5_method_12_code, 4, none, 3, 1, 2, 23221, 23219, 23220, 21004)) (Cs := [kh_923]) (an := [(2, 0, ([((2, 8, 8, 1), none), ((0, 0, 0, 0), none), ((2, 2, 2, 1), none), ((0, 0, 17, 1), none)], [(0, 0), (1, 1), (2, 2), (3, 3)], [], [], [], [], [], [], none), [(0, 0, 99998), (1, 3, 17), (0, 0, 99998)])]) (ss := []) (K := 3) (fuel := 4000) wd_fl2_ok rfl (List.forall_mem_cons.mpr ⟨kh_923_ok, (List.forall_mem_nil _)⟩) (by decide +kernel)
/- UtilityWorks$Grid makeSound -/
def kh_925 : ct_T := (142, [(2, 8, 8, 1), (0, 0, 2, 1), (0, 0, 16, 1), (2, 2, 2, 1)], [], [], [(0, (0, 0, 0, 0), [(2, 8, 8, 1), (0, 0, 2, 1), (0, 0, 16, 1), (2, 2, 2, 1)], [], ([], []))], [((2, 2), (4, 4, 0)), ((3, 3), (0, 16, 1)), ((4, 4), (0, 11, 1)), ((5, 5), (0, 11, 1)), ((6, 6), (0, 11, 1)), ((10, 60), (2, 2, 0)), ((10, 60), (3, 3, 0))], 2, 46, 0)
theorem kh_925_ok : ct_ok wd_fl2 kh_925 := ct_of (ff := wd_ff2) (y := (⟨"UtilityWorks$Grid", "makeSound", "(IILUtilityWorks$Ways;)V"⟩, prog_5_method_15_code, 5, none, 3, 1, 3, 26186, 26184, 26185, 21004)) (Cs := [kh_924, kh_spread]) (an := [(71, 0, ([((2, 8, 8, 1), none), ((0, 0, 2, 1), none), ((0, 0, 16, 1), none), ((2, 2, 2, 1), none), ((2, 10, 60, 1), none)], [(0, 0), (1, 1), (2, 2), (3, 3), (4, 4)], [], [], [], [], [], [], none), [(0, 0, 99929)])]) (ss := []) (K := 1) (fuel := 4000) wd_fl2_ok rfl (List.forall_mem_cons.mpr ⟨kh_924_ok, (List.forall_mem_cons.mpr ⟨kh_spread_ok, (List.forall_mem_nil _)⟩)⟩) (by decide +kernel)
/- UtilityWorks bit -/
def kh_926 : ct_T := (1, [(0, 0, 0, 0)], [], [], [(1, (0, 0, 0, 0), [(0, 0, 0, 0)], [], ([], []))], [], 0, 0, 0)
theorem kh_926_ok : ct_ok wd_fl2 kh_926 := ct_of (ff := wd_ff2) (y := (⟨"UtilityWorks", "bit", "(Z)I"⟩, prog_1_method_124_code, 1, some .int, 11, 0, 1, 21097, 21096, 0, 21001)) (Cs := []) (an := []) (ss := []) (K := 1) (fuel := 4000) wd_fl2_ok rfl (List.forall_mem_nil _) (by decide +kernel)
/- UtilityWorks$Grid putLink -/
def kh_927 : ct_T := (0, [(2, 8, 8, 1), (0, 0, 2, 1), (0, 0, 16, 1), (0, 40, 40, 0), (0, 0, 0, 0)], [], [], [(0, (0, 0, 0, 0), [(2, 8, 8, 1), (0, 0, 2, 1), (0, 0, 16, 1), (0, 40, 40, 0), (0, 0, 0, 0)], [], ([], []))], [((10, 60), (0, 0, 0)), ((10, 60), (1, 1, 0)), ((10, 60), (2, 2, 0)), ((10, 60), (3, 3, 0))], 1, 20, 0)
theorem kh_927_ok : ct_ok wd_fl2 kh_927 := ct_of (ff := wd_ff2) (y := (⟨"UtilityWorks$Grid", "putLink", "(IIIZ)V"⟩, prog_5_method_4_code, 6, none, 3, 1, 4, 21094, 21092, 21093, 21004)) (Cs := [kh_926]) (an := []) (ss := []) (K := 1) (fuel := 4000) wd_fl2_ok rfl (List.forall_mem_cons.mpr ⟨kh_926_ok, (List.forall_mem_nil _)⟩) (by decide +kernel)
/- UtilityWorks$Customers readRight -/
def kh_928 : ct_T := (143, [(2, 165, 165, 1), (0, 0, 9, 1), (0, 0, 0, 0), (0, 0, 999, 1)], [], [], [(1, (0, 0, 9999, 1), [(2, 165, 165, 1), (0, 0, 9, 1), (0, 0, 0, 0), (0, 0, 999, 1)], [], ([], []))], [((179, 206), (3, 13, 1))], 1, 22, 0)
theorem kh_928_ok : ct_ok wd_fl2 kh_928 := ct_of (ff := wd_ff2) (y := (⟨"UtilityWorks$Customers", "readRight", "(III)I"⟩, prog_4_method_11_code, 6, some .int, 2, 1, 3, 26191, 26189, 26190, 21009)) (Cs := [kh_floorMod]) (an := []) (ss := []) (K := 1) (fuel := 4000) wd_fl2_ok rfl (List.forall_mem_cons.mpr ⟨kh_floorMod_ok, (List.forall_mem_nil _)⟩) (by decide +kernel)
/- UtilityWorks$Customers readRight -/
def kh_929 : ct_T := (143, [(2, 165, 165, 1), (0, 0, 9, 1), (0, 0, 1, 1), (0, 0, 999, 1)], [], [], [(1, (0, 0, 9999, 1), [(2, 165, 165, 1), (0, 0, 9, 1), (0, 0, 1, 1), (0, 0, 999, 1)], [], ([], []))], [((179, 207), (3, 13, 1))], 1, 22, 0)
theorem kh_929_ok : ct_ok wd_fl2 kh_929 := ct_of (ff := wd_ff2) (y := (⟨"UtilityWorks$Customers", "readRight", "(III)I"⟩, prog_4_method_11_code, 6, some .int, 2, 1, 3, 26191, 26189, 26190, 21009)) (Cs := [kh_floorMod]) (an := []) (ss := []) (K := 1) (fuel := 4000) wd_fl2_ok rfl (List.forall_mem_cons.mpr ⟨kh_floorMod_ok, (List.forall_mem_nil _)⟩) (by decide +kernel)
/- UtilityWorks$Customers readRight -/
def kh_930 : ct_T := (143, [(2, 165, 165, 1), (0, 0, 9, 1), (0, 0, 2, 1), (0, 0, 999, 1)], [], [], [(1, (0, 0, 9999, 1), [(2, 165, 165, 1), (0, 0, 9, 1), (0, 0, 2, 1), (0, 0, 999, 1)], [], ([], []))], [((179, 208), (3, 13, 1))], 1, 22, 0)
theorem kh_930_ok : ct_ok wd_fl2 kh_930 := ct_of (ff := wd_ff2) (y := (⟨"UtilityWorks$Customers", "readRight", "(III)I"⟩, prog_4_method_11_code, 6, some .int, 2, 1, 3, 26191, 26189, 26190, 21009)) (Cs := [kh_floorMod]) (an := []) (ss := []) (K := 1) (fuel := 4000) wd_fl2_ok rfl (List.forall_mem_cons.mpr ⟨kh_floorMod_ok, (List.forall_mem_nil _)⟩) (by decide +kernel)
/- UtilityWorks$Customers cutOff -/
def kh_931 : ct_T := (144, [(2, 165, 165, 1), (0, 0, 9, 1)], [], [], [(0, (0, 0, 0, 0), [(2, 165, 165, 1), (0, 0, 9, 1)], [], ([], []))], [((167, 176), (2, 2, 0)), ((167, 176), (12, 12, 0))], 0, 0, 0)
theorem kh_931_ok : ct_ok wd_fl2 kh_931 := ct_of (ff := wd_ff2) (y := (⟨"UtilityWorks$Customers", "cutOff", "(I)V"⟩, prog_4_method_7_code, 2, none, 2, 1, 1, 26198, 26196, 26197, 21009)) (Cs := []) (an := []) (ss := []) (K := 1) (fuel := 4000) wd_fl2_ok rfl (List.forall_mem_nil _) (by decide +kernel)
/- UtilityWorks$Customers hookAgain -/
def kh_932 : ct_T := (145, [(2, 165, 165, 1), (0, 0, 9, 1)], [], [], [(0, (0, 0, 0, 0), [(2, 165, 165, 1), (0, 0, 9, 1)], [], ([], []))], [((167, 176), (2, 2, 0)), ((167, 176), (12, 12, 0))], 0, 0, 0)
theorem kh_932_ok : ct_ok wd_fl2 kh_932 := ct_of (ff := wd_ff2) (y := (⟨"UtilityWorks$Customers", "hookAgain", "(I)V"⟩, prog_4_method_8_code, 2, none, 2, 1, 1, 26202, 26200, 26201, 21009)) (Cs := []) (an := []) (ss := []) (K := 1) (fuel := 4000) wd_fl2_ok rfl (List.forall_mem_nil _) (by decide +kernel)
abbrev kh_finish_y : mt_T := (⟨"UtilityWorks$Crews", "finish", "(LUtilityWorks$Town;[I)V"⟩, prog_3_method_19_code, 5, none, 1, 1, 2, 26178, 26177, 2009, 21011)
def kh_finish : ct_T := (140, [(2, 572, 572, 1), (2, 1, 1, 1), (2, 579, 778, 1)], [], [520], [(0, (0, 0, 0, 0), [(2, 572, 572, 1), (2, 1, 1, 1), (2, 579, 778, 1)], [], ([520], []))], [((2, 2), (4, 4, 0)), ((3, 3), (0, 16, 1)), ((4, 4), (0, 11, 1)), ((5, 5), (0, 11, 1)), ((6, 6), (0, 11, 1)), ((10, 60), (0, 0, 0)), ((10, 60), (1, 1, 0)), ((10, 60), (2, 2, 0)), ((10, 60), (3, 3, 0)), ((62, 78), (3, 3, 0)), ((62, 78), (6, 6, 0)), ((167, 176), (2, 2, 0)), ((167, 176), (12, 12, 0)), ((179, 208), (3, 13, 1))], 3, 70, 0)
def kh_finish_a112 : an_T := (112, 0, ([((2, 572, 572, 1), none), ((2, 1, 1, 1), none), ((2, 579, 778, 1), none), ((0, 0, 16, 1), none), ((0, 0, 3, 1), none)], [(0, 0), (1, 1), (2, 2), (3, 3), (4, 4)], [], [], [], [], [], [520], none), [])
def kh_finish_a142 : an_T := (142, 0, ([((2, 572, 572, 1), none), ((2, 1, 1, 1), none), ((2, 579, 778, 1), none), ((0, 0, 16, 1), none)], [(0, 0), (1, 1), (2, 2), (3, 3)], [], [], [], [], [], [520], none), [])
def kh_finish_a153 : an_T := (153, 0, ([((2, 572, 572, 1), none), ((2, 1, 1, 1), none), ((2, 579, 778, 1), none), ((0, 0, 16, 1), none)], [(0, 0), (1, 1), (2, 2), (3, 3)], [], [], [], [], [], [520], none), [])
def kh_finish_b0_0 : sg_T := (161, 0, ([((2, 572, 572, 1), none), ((2, 1, 1, 1), none), ((2, 579, 778, 1), none), ((0, 2, 2, 0), none), ((0, 0, 16, 1), none), ((0, 0, 0, 0), none), ((0, 0, 0, 0), none), ((2, 8, 8, 1), none), ((2, 61, 61, 1), none), ((2, 62, 78, 1), none), ((0, 3, 3, 0), none), ((0, 1, 1, 0), none)], [(3, 4), (0, 0), (1, 1), (2, 2)], [], [(9, 10, 11), (2, 5, 6), (2, 3, 4)], [], [(800006, 2, 5), (800004, 2, 3)], [], [520], some [(9, 10, 11)]))
def kh_finish_b0_1 : sg_T := (161, 0, ([((2, 572, 572, 1), none), ((2, 1, 1, 1), none), ((2, 579, 778, 1), none), ((0, 2, 2, 0), none), ((0, 0, 16, 1), none), ((0, 0, 0, 0), none), ((0, 1, 1, 0), none), ((2, 8, 8, 1), none), ((0, 0, 0, 0), none), ((0, 0, 999, 1), none)], [(3, 4), (0, 0), (1, 1), (2, 2)], [], [(1, 8, 9), (2, 5, 6), (2, 3, 4)], [], [(800009, 1, 8), (800006, 2, 5), (800004, 2, 3)], [], [520], none))
def kh_finish_b0_2 : sg_T := (161, 0, ([((2, 572, 572, 1), none), ((2, 1, 1, 1), none), ((2, 579, 778, 1), none), ((0, 2, 2, 0), none), ((0, 0, 16, 1), none), ((0, 0, 0, 0), none), ((0, 2, 2, 0), none), ((2, 8, 8, 1), none), ((0, 1, 1, 0), none), ((0, 0, 2, 1), none), ((2, 2, 2, 1), none)], [(3, 4), (0, 0), (1, 1), (2, 2)], [], [(2, 8, 9), (2, 5, 6), (2, 3, 4)], [], [(800009, 2, 8), (800006, 2, 5), (800004, 2, 3)], [], [520], none))
def kh_finish_b0_3 : sg_T := (161, 0, ([((2, 572, 572, 1), none), ((2, 1, 1, 1), none), ((2, 579, 778, 1), none), ((0, 2, 2, 0), none), ((0, 0, 16, 1), none), ((0, 0, 0, 0), none), ((0, 3, 3, 0), none), ((2, 8, 8, 1), none), ((0, 1, 1, 0), none), ((0, 0, 2, 1), none), ((0, 40, 40, 0), none), ((0, 0, 0, 0), none)], [(3, 4), (0, 0), (1, 1), (2, 2)], [], [(2, 8, 9), (2, 5, 6), (2, 3, 4)], [], [(800009, 2, 8), (800006, 2, 5), (800004, 2, 3)], [], [520], none))
def kh_finish_b0_4 : sg_T := (112, 0, ([((2, 572, 572, 1), none), ((2, 1, 1, 1), none), ((2, 579, 778, 1), none), ((0, 2, 2, 0), none), ((0, 0, 16, 1), none), ((0, 0, 0, 0), none), ((0, 4, 4, 0), none), ((0, 0, 0, 0), none)], [(4, 7), (3, 4), (0, 0), (1, 1), (2, 2)], [], [(2, 5, 6), (2, 3, 4)], [], [(800006, 2, 5), (800004, 2, 3)], [], [520], some []))
def kh_finish_b0_5 : sg_T := (142, 0, ([((2, 572, 572, 1), none), ((2, 1, 1, 1), none), ((2, 579, 778, 1), none), ((0, 2, 2, 0), none), ((0, 0, 16, 1), none), ((0, 0, 0, 0), none), ((0, 5, 5, 0), none)], [(3, 4), (0, 0), (1, 1), (2, 2)], [], [(2, 5, 6), (2, 3, 4)], [], [(800006, 2, 5), (800004, 2, 3)], [], [520], some []))
def kh_finish_b0_6 : sg_T := (153, 0, ([((2, 572, 572, 1), none), ((2, 1, 1, 1), none), ((2, 579, 778, 1), none), ((0, 2, 2, 0), none), ((0, 0, 16, 1), none), ((0, 0, 0, 0), none), ((0, 6, 6, 1), none)], [(3, 4), (0, 0), (1, 1), (2, 2)], [], [(2, 5, 6), (2, 3, 4)], [], [(800006, 2, 5), (800004, 2, 3)], [], [520], some []))
def kh_finish_b112_0 : sg_T := (161, 0, ([((2, 572, 572, 1), none), ((2, 1, 1, 1), none), ((2, 579, 778, 1), none), ((0, 0, 9, 1), none), ((0, 3, 3, 1), none), ((0, 3, 3, 0), none)], [(0, 0), (1, 1), (2, 2), (3, 3), (4, 4)], [], [], [], [(200000, 5, 4)], [], [520], some []))
def kh_finish_b112_1 : sg_T := (112, 0, ([((2, 572, 572, 1), none), ((2, 1, 1, 1), none), ((2, 579, 778, 1), none), ((0, 0, 9, 1), none), ((0, 0, 2, 1), none), ((0, 3, 3, 0), none), ((2, 165, 165, 1), none), ((0, 0, 0, 0), none), ((0, 0, 999, 1), none), ((0, 0, 9999, 1), none), ((0, 1, 3, 1), some (4, 1))], [(4, 10), (0, 0), (1, 1), (2, 2), (3, 3)], [], [(1, 7, 8)], [], [(800008, 1, 7), (100000, 4, 5)], [], [520], none))
def kh_finish_b142_0 : sg_T := (161, 0, ([((2, 572, 572, 1), none), ((2, 1, 1, 1), none), ((2, 579, 778, 1), none), ((0, 0, 9, 1), none), ((2, 165, 165, 1), none)], [(0, 0), (1, 1), (2, 2), (3, 3)], [], [], [], [], [], [520], none))
def kh_finish_b153_0 : sg_T := (161, 0, ([((2, 572, 572, 1), none), ((2, 1, 1, 1), none), ((2, 579, 778, 1), none), ((0, 0, 9, 1), none), ((2, 165, 165, 1), none)], [(0, 0), (1, 1), (2, 2), (3, 3)], [], [], [], [], [], [520], none))
def kh_finish_I (l : Launch) (D : va_G) (tc : Nat → ClassId) (ad : Nat → Nat) (kd : Nat → Nat × Nat) (N : Nat) (sm : Nat → Nat) (xs : List av_X) (S : fw_S) (p : Program) (e : Env) (s : State) (m : MethodId) (args : Array Value) (below : List Frame) (meth : Method) (c : Code) (sz : Nat) (k : Nat) : Prop := (∀ (α : List av_X) (lv : List (Nat × Value)) (st : List Value) (S1 : fw_S), as_in ad sm wd_fl2 xs S kh_finish.2.2.2.2.2.1 α kh_finish_a112.2.2.1 lv st S1 → (nv α 3 ≤ 9) → (3 - nv α 4).toNat < k → hd_W wd_fl2 kh_finish kh_finish_y l D tc ad kd N sm xs S p e s m args below meth c sz 112 lv st S1 0) ∧ (∀ (α : List av_X) (lv : List (Nat × Value)) (st : List Value) (S1 : fw_S), as_in ad sm wd_fl2 xs S kh_finish.2.2.2.2.2.1 α kh_finish_a142.2.2.1 lv st S1 → (nv α 3 ≤ 9) → 0 < k → hd_W wd_fl2 kh_finish kh_finish_y l D tc ad kd N sm xs S p e s m args below meth c sz 142 lv st S1 0) ∧ (∀ (α : List av_X) (lv : List (Nat × Value)) (st : List Value) (S1 : fw_S), as_in ad sm wd_fl2 xs S kh_finish.2.2.2.2.2.1 α kh_finish_a153.2.2.1 lv st S1 → (nv α 3 ≤ 9) → 0 < k → hd_W wd_fl2 kh_finish kh_finish_y l D tc ad kd N sm xs S p e s m args below meth c sz 153 lv st S1 0) ∧ True
set_option maxHeartbeats 16000000 in
set_option maxRecDepth 8000 in
theorem kh_finish_h112 {l : Launch} {D : va_G} {tc : Nat → ClassId} {ad : Nat → Nat} {kd : Nat → Nat × Nat} {N : Nat} {sm : Nat → Nat} {xs : List av_X} {S : fw_S} {p : Program} {e : Env} {s : State} {m : MethodId} {args : Array Value} {below : List Frame} {meth : Method} {c : Code} {sz : Nat} {lvE : List (Nat × Value)} (G : hd_C wd_ff2 wd_fl2 kh_finish [kh_922, kh_925, kh_927, kh_928, kh_929, kh_930, kh_931, kh_932] kh_finish_y l D tc ad kd N sm xs p s m args meth c sz) (H0 : as_in ad sm wd_fl2 xs S kh_finish.2.2.2.2.2.1 xs (hd_0 kh_finish) lvE [] S) {k : Nat} (ih : kh_finish_I l D tc ad kd N sm xs S p e s m args below meth c sz k) : (∀ (α : List av_X) (lv : List (Nat × Value)) (st : List Value) (S1 : fw_S), as_in ad sm wd_fl2 xs S kh_finish.2.2.2.2.2.1 α kh_finish_a112.2.2.1 lv st S1 → (nv α 3 ≤ 9) → (3 - nv α 4).toNat < k + 1 → hd_W wd_fl2 kh_finish kh_finish_y l D tc ad kd N sm xs S p e s m args below meth c sz 112 lv st S1 0) := by
  have hx : xs.length = 3 := by rw [H0.2.1.1]; rfl
  have q520 : jbW S := by
    have h := H0.2.2.2.2.2.2.2.2.1 520 (by decide +kernel)
    rw [wd_fl2, if_neg (by decide)] at h
    exact h
  intro α lv st S1 H hp hk
  have bp := (en_nv (i := 3) H.2.1 rfl).2
  change 0 ≤ nv α 3 ∧ nv α 3 ≤ 16 at bp
  replace H := as_clamp (i := 3) (lo := 0) (hi := 9) H rfl rfl (by omega) (by exact hp) (by decide)
  obtain ⟨α1, hle, Hr⟩ := as_recM (pl := []) [((179, 208), (3, 13, 1))] (by decide +kernel) H
  have hf := H.2.2.2.2.2.2.2.2.2.2.1
  have hl1 : α1.length = 5 := by rw [Hr.2.1.1]; rfl
  have hl0 : α.length = 5 := by rw [H.2.1.1]; rfl
  have hxa : al_le xs α1 := H.1.trans hle
  obtain ⟨g1, -, g3, g4, -⟩ := as_fx Hr
  have g0 : (572 ≤ nv α1 0 ∧ nv α1 0 ≤ 572) ∧ (1 ≤ nv α1 1 ∧ nv α1 1 ≤ 1) ∧ (579 ≤ nv α1 2 ∧ nv α1 2 ≤ 778) ∧ (0 ≤ nv α1 3 ∧ nv α1 3 ≤ 9) ∧ (0 ≤ nv α1 4 ∧ nv α1 4 ≤ 3) ∧ True := by
    refine ⟨by have h := (en_nv (i := 0) Hr.2.1 rfl).2; exact h, by have h := (en_nv (i := 1) Hr.2.1 rfl).2; exact h, by have h := (en_nv (i := 2) Hr.2.1 rfl).2; exact h, by have h := (en_nv (i := 3) Hr.2.1 rfl).2; exact h, by have h := (en_nv (i := 4) Hr.2.1 rfl).2; exact h, trivial⟩
  have r0 : nv α1 0 = nv α 0 := nv_le hle (by omega)
  have r1 : nv α1 1 = nv α 1 := nv_le hle (by omega)
  have r2 : nv α1 2 = nv α 2 := nv_le hle (by omega)
  have r3 : nv α1 3 = nv α 3 := nv_le hle (by omega)
  have r4 : nv α1 4 = nv α 4 := nv_le hle (by omega)
  refine hd_segM G (na := 5) (fuel := 600) (first := true) (Bs := [kh_finish_b112_0, kh_finish_b112_1]) (by decide +kernel) hl1 Hr ?_
  intro q hq β lv' st' S' H1
  simp only [List.mem_cons, List.not_mem_nil, or_false] at hq
  rcases hq with rfl | rfl
  · obtain ⟨f1, f2, f3, f4, f5⟩ := as_fx H1
    simp only [kh_finish_b112_0, fx_env, fx_c, fx_ne, fx_hf, wl_S, Nat.zero_add, Nat.reduceAdd, Nat.reduceDiv, Nat.reduceMod, List.getElem?_cons_zero, List.getElem?_cons_succ, if_true, and_true, true_and] at f1 f2 f3 f4 f5
    have fe0 : nv β 0 = 572 := by omega
    have fe1 : nv β 1 = 1 := by omega
    have fe4 : nv β 4 = 3 := by omega
    have fe5 : nv β 5 = 3 := by omega
    try simp only [fe0, fe1, fe4, fe5, Int.reduceToNat] at f2 f3 f4 f5
    have s0 : nv β 0 = nv α1 0 := nv_le H1.1 (by omega)
    have s1 : nv β 1 = nv α1 1 := nv_le H1.1 (by omega)
    have s2 : nv β 2 = nv α1 2 := nv_le H1.1 (by omega)
    have s3 : nv β 3 = nv α1 3 := nv_le H1.1 (by omega)
    have s4 : nv β 4 = nv α1 4 := nv_le H1.1 (by omega)
    have c0 := f2
    exact hd_run G (ss := []) (fuel := 20) (by decide +kernel) (as_backM H1 (by decide +kernel) hxa hf)
  · obtain ⟨f1, f2, f3, f4, f5⟩ := as_fx H1
    simp only [kh_finish_b112_1, fx_env, fx_c, fx_ne, fx_hf, wl_S, Nat.zero_add, Nat.reduceAdd, Nat.reduceDiv, Nat.reduceMod, List.getElem?_cons_zero, List.getElem?_cons_succ, if_true, and_true, true_and] at f1 f2 f3 f4 f5
    have fe0 : nv β 0 = 572 := by omega
    have fe1 : nv β 1 = 1 := by omega
    have fe5 : nv β 5 = 3 := by omega
    have fe6 : nv β 6 = 165 := by omega
    have fe7 : nv β 7 = 0 := by omega
    try simp only [fe0, fe1, fe5, fe6, fe7, Int.reduceToNat] at f2 f3 f4 f5
    have s0 : nv β 0 = nv α1 0 := nv_le H1.1 (by omega)
    have s1 : nv β 1 = nv α1 1 := nv_le H1.1 (by omega)
    have s2 : nv β 2 = nv α1 2 := nv_le H1.1 (by omega)
    have s3 : nv β 3 = nv α1 3 := nv_le H1.1 (by omega)
    have s4 : nv β 4 = nv α1 4 := nv_le H1.1 (by omega)
    obtain ⟨c0, c1⟩ := f2
    obtain ⟨α', Ha, hm⟩ := hd_gpM (q := kh_finish_a112) (n := 0) (by decide +kernel) hx H1 (by decide +kernel) hxa hf
    have hfr := H1.2.2.2.2.2.2.2.2.2.2.1
    have m0 : nv α' 0 = nv β 0 := hm 0 0 rfl
    have m1 : nv α' 1 = nv β 1 := hm 1 1 rfl
    have m2 : nv α' 2 = nv β 2 := hm 2 2 rfl
    have m3 : nv α' 3 = nv β 3 := hm 3 3 rfl
    have m4 : nv α' 4 = nv β 10 := hm 4 10 rfl
    refine ih.1 _ _ _ _ Ha ?_ ?_
    · omega
    · omega
set_option maxHeartbeats 16000000 in
set_option maxRecDepth 8000 in
theorem kh_finish_h142 {l : Launch} {D : va_G} {tc : Nat → ClassId} {ad : Nat → Nat} {kd : Nat → Nat × Nat} {N : Nat} {sm : Nat → Nat} {xs : List av_X} {S : fw_S} {p : Program} {e : Env} {s : State} {m : MethodId} {args : Array Value} {below : List Frame} {meth : Method} {c : Code} {sz : Nat} {lvE : List (Nat × Value)} (G : hd_C wd_ff2 wd_fl2 kh_finish [kh_922, kh_925, kh_927, kh_928, kh_929, kh_930, kh_931, kh_932] kh_finish_y l D tc ad kd N sm xs p s m args meth c sz) (H0 : as_in ad sm wd_fl2 xs S kh_finish.2.2.2.2.2.1 xs (hd_0 kh_finish) lvE [] S) {k : Nat} (ih : kh_finish_I l D tc ad kd N sm xs S p e s m args below meth c sz k) : (∀ (α : List av_X) (lv : List (Nat × Value)) (st : List Value) (S1 : fw_S), as_in ad sm wd_fl2 xs S kh_finish.2.2.2.2.2.1 α kh_finish_a142.2.2.1 lv st S1 → (nv α 3 ≤ 9) → 0 < k + 1 → hd_W wd_fl2 kh_finish kh_finish_y l D tc ad kd N sm xs S p e s m args below meth c sz 142 lv st S1 0) := by
  have hx : xs.length = 3 := by rw [H0.2.1.1]; rfl
  have q520 : jbW S := by
    have h := H0.2.2.2.2.2.2.2.2.1 520 (by decide +kernel)
    rw [wd_fl2, if_neg (by decide)] at h
    exact h
  intro α lv st S1 H hp hk
  have bp := (en_nv (i := 3) H.2.1 rfl).2
  change 0 ≤ nv α 3 ∧ nv α 3 ≤ 16 at bp
  replace H := as_clamp (i := 3) (lo := 0) (hi := 9) H rfl rfl (by omega) (by exact hp) (by decide)
  obtain ⟨α1, hle, Hr⟩ := as_recM (pl := []) [((167, 176), (2, 2, 0)), ((167, 176), (12, 12, 0))] (by decide +kernel) H
  have hf := H.2.2.2.2.2.2.2.2.2.2.1
  have hl1 : α1.length = 4 := by rw [Hr.2.1.1]; rfl
  have hl0 : α.length = 4 := by rw [H.2.1.1]; rfl
  have hxa : al_le xs α1 := H.1.trans hle
  obtain ⟨g1, -, g3, g4, -⟩ := as_fx Hr
  have g0 : (572 ≤ nv α1 0 ∧ nv α1 0 ≤ 572) ∧ (1 ≤ nv α1 1 ∧ nv α1 1 ≤ 1) ∧ (579 ≤ nv α1 2 ∧ nv α1 2 ≤ 778) ∧ (0 ≤ nv α1 3 ∧ nv α1 3 ≤ 9) ∧ True := by
    refine ⟨by have h := (en_nv (i := 0) Hr.2.1 rfl).2; exact h, by have h := (en_nv (i := 1) Hr.2.1 rfl).2; exact h, by have h := (en_nv (i := 2) Hr.2.1 rfl).2; exact h, by have h := (en_nv (i := 3) Hr.2.1 rfl).2; exact h, trivial⟩
  have r0 : nv α1 0 = nv α 0 := nv_le hle (by omega)
  have r1 : nv α1 1 = nv α 1 := nv_le hle (by omega)
  have r2 : nv α1 2 = nv α 2 := nv_le hle (by omega)
  have r3 : nv α1 3 = nv α 3 := nv_le hle (by omega)
  refine hd_segM G (na := 4) (fuel := 600) (first := true) (Bs := [kh_finish_b142_0]) (by decide +kernel) hl1 Hr ?_
  intro q hq β lv' st' S' H1
  simp only [List.mem_cons, List.not_mem_nil, or_false] at hq
  rcases hq with rfl
  · obtain ⟨f1, f2, f3, f4, f5⟩ := as_fx H1
    simp only [kh_finish_b142_0, fx_env, fx_c, fx_ne, fx_hf, wl_S, Nat.zero_add, Nat.reduceAdd, Nat.reduceDiv, Nat.reduceMod, List.getElem?_cons_zero, List.getElem?_cons_succ, if_true, and_true, true_and] at f1 f2 f3 f4 f5
    have fe0 : nv β 0 = 572 := by omega
    have fe1 : nv β 1 = 1 := by omega
    have fe4 : nv β 4 = 165 := by omega
    try simp only [fe0, fe1, fe4, Int.reduceToNat] at f2 f3 f4 f5
    have s0 : nv β 0 = nv α1 0 := nv_le H1.1 (by omega)
    have s1 : nv β 1 = nv α1 1 := nv_le H1.1 (by omega)
    have s2 : nv β 2 = nv α1 2 := nv_le H1.1 (by omega)
    have s3 : nv β 3 = nv α1 3 := nv_le H1.1 (by omega)
    exact hd_run G (ss := []) (fuel := 20) (by decide +kernel) (as_backM H1 (by decide +kernel) hxa hf)
set_option maxHeartbeats 16000000 in
set_option maxRecDepth 8000 in
theorem kh_finish_h153 {l : Launch} {D : va_G} {tc : Nat → ClassId} {ad : Nat → Nat} {kd : Nat → Nat × Nat} {N : Nat} {sm : Nat → Nat} {xs : List av_X} {S : fw_S} {p : Program} {e : Env} {s : State} {m : MethodId} {args : Array Value} {below : List Frame} {meth : Method} {c : Code} {sz : Nat} {lvE : List (Nat × Value)} (G : hd_C wd_ff2 wd_fl2 kh_finish [kh_922, kh_925, kh_927, kh_928, kh_929, kh_930, kh_931, kh_932] kh_finish_y l D tc ad kd N sm xs p s m args meth c sz) (H0 : as_in ad sm wd_fl2 xs S kh_finish.2.2.2.2.2.1 xs (hd_0 kh_finish) lvE [] S) {k : Nat} (ih : kh_finish_I l D tc ad kd N sm xs S p e s m args below meth c sz k) : (∀ (α : List av_X) (lv : List (Nat × Value)) (st : List Value) (S1 : fw_S), as_in ad sm wd_fl2 xs S kh_finish.2.2.2.2.2.1 α kh_finish_a153.2.2.1 lv st S1 → (nv α 3 ≤ 9) → 0 < k + 1 → hd_W wd_fl2 kh_finish kh_finish_y l D tc ad kd N sm xs S p e s m args below meth c sz 153 lv st S1 0) := by
  have hx : xs.length = 3 := by rw [H0.2.1.1]; rfl
  have q520 : jbW S := by
    have h := H0.2.2.2.2.2.2.2.2.1 520 (by decide +kernel)
    rw [wd_fl2, if_neg (by decide)] at h
    exact h
  intro α lv st S1 H hp hk
  have bp := (en_nv (i := 3) H.2.1 rfl).2
  change 0 ≤ nv α 3 ∧ nv α 3 ≤ 16 at bp
  replace H := as_clamp (i := 3) (lo := 0) (hi := 9) H rfl rfl (by omega) (by exact hp) (by decide)
  obtain ⟨α1, hle, Hr⟩ := as_recM (pl := []) [((167, 176), (2, 2, 0)), ((167, 176), (12, 12, 0))] (by decide +kernel) H
  have hf := H.2.2.2.2.2.2.2.2.2.2.1
  have hl1 : α1.length = 4 := by rw [Hr.2.1.1]; rfl
  have hl0 : α.length = 4 := by rw [H.2.1.1]; rfl
  have hxa : al_le xs α1 := H.1.trans hle
  obtain ⟨g1, -, g3, g4, -⟩ := as_fx Hr
  have g0 : (572 ≤ nv α1 0 ∧ nv α1 0 ≤ 572) ∧ (1 ≤ nv α1 1 ∧ nv α1 1 ≤ 1) ∧ (579 ≤ nv α1 2 ∧ nv α1 2 ≤ 778) ∧ (0 ≤ nv α1 3 ∧ nv α1 3 ≤ 9) ∧ True := by
    refine ⟨by have h := (en_nv (i := 0) Hr.2.1 rfl).2; exact h, by have h := (en_nv (i := 1) Hr.2.1 rfl).2; exact h, by have h := (en_nv (i := 2) Hr.2.1 rfl).2; exact h, by have h := (en_nv (i := 3) Hr.2.1 rfl).2; exact h, trivial⟩
  have r0 : nv α1 0 = nv α 0 := nv_le hle (by omega)
  have r1 : nv α1 1 = nv α 1 := nv_le hle (by omega)
  have r2 : nv α1 2 = nv α 2 := nv_le hle (by omega)
  have r3 : nv α1 3 = nv α 3 := nv_le hle (by omega)
  refine hd_segM G (na := 4) (fuel := 600) (first := true) (Bs := [kh_finish_b153_0]) (by decide +kernel) hl1 Hr ?_
  intro q hq β lv' st' S' H1
  simp only [List.mem_cons, List.not_mem_nil, or_false] at hq
  rcases hq with rfl
  · obtain ⟨f1, f2, f3, f4, f5⟩ := as_fx H1
    simp only [kh_finish_b153_0, fx_env, fx_c, fx_ne, fx_hf, wl_S, Nat.zero_add, Nat.reduceAdd, Nat.reduceDiv, Nat.reduceMod, List.getElem?_cons_zero, List.getElem?_cons_succ, if_true, and_true, true_and] at f1 f2 f3 f4 f5
    have fe0 : nv β 0 = 572 := by omega
    have fe1 : nv β 1 = 1 := by omega
    have fe4 : nv β 4 = 165 := by omega
    try simp only [fe0, fe1, fe4, Int.reduceToNat] at f2 f3 f4 f5
    have s0 : nv β 0 = nv α1 0 := nv_le H1.1 (by omega)
    have s1 : nv β 1 = nv α1 1 := nv_le H1.1 (by omega)
    have s2 : nv β 2 = nv α1 2 := nv_le H1.1 (by omega)
    have s3 : nv β 3 = nv α1 3 := nv_le H1.1 (by omega)
    exact hd_run G (ss := []) (fuel := 20) (by decide +kernel) (as_backM H1 (by decide +kernel) hxa hf)
set_option maxHeartbeats 16000000 in
set_option maxRecDepth 8000 in
theorem kh_finish_ok : ct_ok wd_fl2 kh_finish := ct_hand (ff := wd_ff2) (y := kh_finish_y) (Cs := [kh_922, kh_925, kh_927, kh_928, kh_929, kh_930, kh_931, kh_932]) wd_fl2_ok rfl (List.forall_mem_cons.mpr ⟨kh_922_ok, (List.forall_mem_cons.mpr ⟨kh_925_ok, (List.forall_mem_cons.mpr ⟨kh_927_ok, (List.forall_mem_cons.mpr ⟨kh_928_ok, (List.forall_mem_cons.mpr ⟨kh_929_ok, (List.forall_mem_cons.mpr ⟨kh_930_ok, (List.forall_mem_cons.mpr ⟨kh_931_ok, (List.forall_mem_cons.mpr ⟨kh_932_ok, (List.forall_mem_nil _)⟩)⟩)⟩)⟩)⟩)⟩)⟩)⟩) (by decide +kernel) (fun l D tc ad kd N sm xs S p e s m args below meth c sz lv G H0 => by
  have hx : xs.length = 3 := by rw [H0.2.1.1]; rfl
  have q520 : jbW S := by
    have h := H0.2.2.2.2.2.2.2.2.1 520 (by decide +kernel)
    rw [wd_fl2, if_neg (by decide)] at h
    exact h
  have hP : ∀ (k : Nat), kh_finish_I l D tc ad kd N sm xs S p e s m args below meth c sz k := by
    intro k
    induction k with
    | zero => exact ⟨fun _ _ _ _ _ _ h => absurd h (Nat.not_lt_zero _), fun _ _ _ _ _ _ h => absurd h (Nat.not_lt_zero _), fun _ _ _ _ _ _ h => absurd h (Nat.not_lt_zero _), trivial⟩
    | succ k ih => exact ⟨kh_finish_h112 G H0 ih, kh_finish_h142 G H0 ih, kh_finish_h153 G H0 ih, trivial⟩
  obtain ⟨α1, hle, Hr⟩ := as_recM (pl := []) [((2, 2), (4, 4, 0)), ((3, 3), (0, 16, 1)), ((4, 4), (0, 11, 1)), ((5, 5), (0, 11, 1)), ((6, 6), (0, 11, 1)), ((10, 60), (0, 0, 0)), ((10, 60), (1, 1, 0)), ((10, 60), (2, 2, 0)), ((10, 60), (3, 3, 0)), ((62, 78), (3, 3, 0)), ((62, 78), (6, 6, 0))] (by decide +kernel) H0
  have hf := H0.2.2.2.2.2.2.2.2.2.2.1
  have hl1 : α1.length = 3 := by rw [Hr.2.1.1]; rfl
  have hl0 : xs.length = 3 := by rw [H0.2.1.1]; rfl
  have hxa : al_le xs α1 := H0.1.trans hle
  obtain ⟨g1, -, g3, g4, -⟩ := as_fx Hr
  have g0 : (572 ≤ nv α1 0 ∧ nv α1 0 ≤ 572) ∧ (1 ≤ nv α1 1 ∧ nv α1 1 ≤ 1) ∧ (579 ≤ nv α1 2 ∧ nv α1 2 ≤ 778) ∧ True := by
    refine ⟨by have h := (en_nv (i := 0) Hr.2.1 rfl).2; exact h, by have h := (en_nv (i := 1) Hr.2.1 rfl).2; exact h, by have h := (en_nv (i := 2) Hr.2.1 rfl).2; exact h, trivial⟩
  have r0 : nv α1 0 = nv xs 0 := nv_le hle (by omega)
  have r1 : nv α1 1 = nv xs 1 := nv_le hle (by omega)
  have r2 : nv α1 2 = nv xs 2 := nv_le hle (by omega)
  refine hd_segM G (na := 3) (fuel := 600) (first := true) (Bs := [kh_finish_b0_0, kh_finish_b0_1, kh_finish_b0_2, kh_finish_b0_3, kh_finish_b0_4, kh_finish_b0_5, kh_finish_b0_6]) (by decide +kernel) hl1 Hr ?_
  intro q hq β lv' st' S' H1
  simp only [List.mem_cons, List.not_mem_nil, or_false] at hq
  rcases hq with rfl | rfl | rfl | rfl | rfl | rfl | rfl
  · obtain ⟨f1, f2, f3, f4, f5⟩ := as_fx H1
    simp only [kh_finish_b0_0, fx_env, fx_c, fx_ne, fx_hf, wl_S, Nat.zero_add, Nat.reduceAdd, Nat.reduceDiv, Nat.reduceMod, List.getElem?_cons_zero, List.getElem?_cons_succ, if_true, and_true, true_and] at f1 f2 f3 f4 f5
    have fe0 : nv β 0 = 572 := by omega
    have fe1 : nv β 1 = 1 := by omega
    have fe3 : nv β 3 = 2 := by omega
    have fe5 : nv β 5 = 0 := by omega
    have fe6 : nv β 6 = 0 := by omega
    have fe7 : nv β 7 = 8 := by omega
    have fe8 : nv β 8 = 61 := by omega
    have fe10 : nv β 10 = 3 := by omega
    have fe11 : nv β 11 = 1 := by omega
    try simp only [fe0, fe1, fe3, fe5, fe6, fe7, fe8, fe10, fe11, Int.reduceToNat] at f2 f3 f4 f5
    have s0 : nv β 0 = nv α1 0 := nv_le H1.1 (by omega)
    have s1 : nv β 1 = nv α1 1 := nv_le H1.1 (by omega)
    have s2 : nv β 2 = nv α1 2 := nv_le H1.1 (by omega)
    obtain ⟨c0, c1⟩ := f2
    exact hd_run G (ss := []) (fuel := 20) (by decide +kernel) (as_backM H1 (by decide +kernel) hxa hf)
  · obtain ⟨f1, f2, f3, f4, f5⟩ := as_fx H1
    simp only [kh_finish_b0_1, fx_env, fx_c, fx_ne, fx_hf, wl_S, Nat.zero_add, Nat.reduceAdd, Nat.reduceDiv, Nat.reduceMod, List.getElem?_cons_zero, List.getElem?_cons_succ, if_true, and_true, true_and] at f1 f2 f3 f4 f5
    have fe0 : nv β 0 = 572 := by omega
    have fe1 : nv β 1 = 1 := by omega
    have fe3 : nv β 3 = 2 := by omega
    have fe5 : nv β 5 = 0 := by omega
    have fe6 : nv β 6 = 1 := by omega
    have fe7 : nv β 7 = 8 := by omega
    have fe8 : nv β 8 = 0 := by omega
    try simp only [fe0, fe1, fe3, fe5, fe6, fe7, fe8, Int.reduceToNat] at f2 f3 f4 f5
    have s0 : nv β 0 = nv α1 0 := nv_le H1.1 (by omega)
    have s1 : nv β 1 = nv α1 1 := nv_le H1.1 (by omega)
    have s2 : nv β 2 = nv α1 2 := nv_le H1.1 (by omega)
    obtain ⟨c0, c1, c2⟩ := f2
    exact hd_run G (ss := []) (fuel := 20) (by decide +kernel) (as_backM H1 (by decide +kernel) hxa hf)
  · obtain ⟨f1, f2, f3, f4, f5⟩ := as_fx H1
    simp only [kh_finish_b0_2, fx_env, fx_c, fx_ne, fx_hf, wl_S, Nat.zero_add, Nat.reduceAdd, Nat.reduceDiv, Nat.reduceMod, List.getElem?_cons_zero, List.getElem?_cons_succ, if_true, and_true, true_and] at f1 f2 f3 f4 f5
    have fe0 : nv β 0 = 572 := by omega
    have fe1 : nv β 1 = 1 := by omega
    have fe3 : nv β 3 = 2 := by omega
    have fe5 : nv β 5 = 0 := by omega
    have fe6 : nv β 6 = 2 := by omega
    have fe7 : nv β 7 = 8 := by omega
    have fe8 : nv β 8 = 1 := by omega
    have fe10 : nv β 10 = 2 := by omega
    try simp only [fe0, fe1, fe3, fe5, fe6, fe7, fe8, fe10, Int.reduceToNat] at f2 f3 f4 f5
    have s0 : nv β 0 = nv α1 0 := nv_le H1.1 (by omega)
    have s1 : nv β 1 = nv α1 1 := nv_le H1.1 (by omega)
    have s2 : nv β 2 = nv α1 2 := nv_le H1.1 (by omega)
    obtain ⟨c0, c1, c2⟩ := f2
    exact hd_run G (ss := []) (fuel := 20) (by decide +kernel) (as_backM H1 (by decide +kernel) hxa hf)
  · obtain ⟨f1, f2, f3, f4, f5⟩ := as_fx H1
    simp only [kh_finish_b0_3, fx_env, fx_c, fx_ne, fx_hf, wl_S, Nat.zero_add, Nat.reduceAdd, Nat.reduceDiv, Nat.reduceMod, List.getElem?_cons_zero, List.getElem?_cons_succ, if_true, and_true, true_and] at f1 f2 f3 f4 f5
    have fe0 : nv β 0 = 572 := by omega
    have fe1 : nv β 1 = 1 := by omega
    have fe3 : nv β 3 = 2 := by omega
    have fe5 : nv β 5 = 0 := by omega
    have fe6 : nv β 6 = 3 := by omega
    have fe7 : nv β 7 = 8 := by omega
    have fe8 : nv β 8 = 1 := by omega
    have fe10 : nv β 10 = 40 := by omega
    have fe11 : nv β 11 = 0 := by omega
    try simp only [fe0, fe1, fe3, fe5, fe6, fe7, fe8, fe10, fe11, Int.reduceToNat] at f2 f3 f4 f5
    have s0 : nv β 0 = nv α1 0 := nv_le H1.1 (by omega)
    have s1 : nv β 1 = nv α1 1 := nv_le H1.1 (by omega)
    have s2 : nv β 2 = nv α1 2 := nv_le H1.1 (by omega)
    obtain ⟨c0, c1, c2⟩ := f2
    exact hd_run G (ss := []) (fuel := 20) (by decide +kernel) (as_backM H1 (by decide +kernel) hxa hf)
  · obtain ⟨f1, f2, f3, f4, f5⟩ := as_fx H1
    simp only [kh_finish_b0_4, fx_env, fx_c, fx_ne, fx_hf, wl_S, Nat.zero_add, Nat.reduceAdd, Nat.reduceDiv, Nat.reduceMod, List.getElem?_cons_zero, List.getElem?_cons_succ, if_true, and_true, true_and] at f1 f2 f3 f4 f5
    have fe0 : nv β 0 = 572 := by omega
    have fe1 : nv β 1 = 1 := by omega
    have fe3 : nv β 3 = 2 := by omega
    have fe5 : nv β 5 = 0 := by omega
    have fe6 : nv β 6 = 4 := by omega
    have fe7 : nv β 7 = 0 := by omega
    try simp only [fe0, fe1, fe3, fe5, fe6, fe7, Int.reduceToNat] at f2 f3 f4 f5
    have s0 : nv β 0 = nv α1 0 := nv_le H1.1 (by omega)
    have s1 : nv β 1 = nv α1 1 := nv_le H1.1 (by omega)
    have s2 : nv β 2 = nv α1 2 := nv_le H1.1 (by omega)
    obtain ⟨c0, c1⟩ := f2
    obtain ⟨α', Ha, hm⟩ := hd_gpM (q := kh_finish_a112) (n := 0) (by decide +kernel) hx H1 (by decide +kernel) hxa hf
    have hfr := H1.2.2.2.2.2.2.2.2.2.2.1
    have m0 : nv α' 0 = nv β 0 := hm 0 0 rfl
    have m1 : nv α' 1 = nv β 1 := hm 1 1 rfl
    have m2 : nv α' 2 = nv β 2 := hm 2 2 rfl
    have m3 : nv α' 3 = nv β 4 := hm 3 4 rfl
    have m4 : nv α' 4 = nv β 7 := hm 4 7 rfl
    subst S'
    obtain ⟨h0, h1⟩ := f4
    have q := q520 (nv β 2 - 579).toNat (by omega)
    rw [show 579 + (nv β 2 - 579).toNat = (nv β 2).toNat by omega] at q
    refine (hP _).1 _ _ _ _ Ha ?_ (Nat.lt_succ_self _)
    · omega
  · obtain ⟨f1, f2, f3, f4, f5⟩ := as_fx H1
    simp only [kh_finish_b0_5, fx_env, fx_c, fx_ne, fx_hf, wl_S, Nat.zero_add, Nat.reduceAdd, Nat.reduceDiv, Nat.reduceMod, List.getElem?_cons_zero, List.getElem?_cons_succ, if_true, and_true, true_and] at f1 f2 f3 f4 f5
    have fe0 : nv β 0 = 572 := by omega
    have fe1 : nv β 1 = 1 := by omega
    have fe3 : nv β 3 = 2 := by omega
    have fe5 : nv β 5 = 0 := by omega
    have fe6 : nv β 6 = 5 := by omega
    try simp only [fe0, fe1, fe3, fe5, fe6, Int.reduceToNat] at f2 f3 f4 f5
    have s0 : nv β 0 = nv α1 0 := nv_le H1.1 (by omega)
    have s1 : nv β 1 = nv α1 1 := nv_le H1.1 (by omega)
    have s2 : nv β 2 = nv α1 2 := nv_le H1.1 (by omega)
    obtain ⟨c0, c1⟩ := f2
    obtain ⟨α', Ha, hm⟩ := hd_gpM (q := kh_finish_a142) (n := 0) (by decide +kernel) hx H1 (by decide +kernel) hxa hf
    have hfr := H1.2.2.2.2.2.2.2.2.2.2.1
    have m0 : nv α' 0 = nv β 0 := hm 0 0 rfl
    have m1 : nv α' 1 = nv β 1 := hm 1 1 rfl
    have m2 : nv α' 2 = nv β 2 := hm 2 2 rfl
    have m3 : nv α' 3 = nv β 4 := hm 3 4 rfl
    subst S'
    obtain ⟨h0, h1⟩ := f4
    have q := q520 (nv β 2 - 579).toNat (by omega)
    rw [show 579 + (nv β 2 - 579).toNat = (nv β 2).toNat by omega] at q
    refine (hP _).2.1 _ _ _ _ Ha ?_ (Nat.lt_succ_self _)
    · omega
  · obtain ⟨f1, f2, f3, f4, f5⟩ := as_fx H1
    simp only [kh_finish_b0_6, fx_env, fx_c, fx_ne, fx_hf, wl_S, Nat.zero_add, Nat.reduceAdd, Nat.reduceDiv, Nat.reduceMod, List.getElem?_cons_zero, List.getElem?_cons_succ, if_true, and_true, true_and] at f1 f2 f3 f4 f5
    have fe0 : nv β 0 = 572 := by omega
    have fe1 : nv β 1 = 1 := by omega
    have fe3 : nv β 3 = 2 := by omega
    have fe5 : nv β 5 = 0 := by omega
    have fe6 : nv β 6 = 6 := by omega
    try simp only [fe0, fe1, fe3, fe5, fe6, Int.reduceToNat] at f2 f3 f4 f5
    have s0 : nv β 0 = nv α1 0 := nv_le H1.1 (by omega)
    have s1 : nv β 1 = nv α1 1 := nv_le H1.1 (by omega)
    have s2 : nv β 2 = nv α1 2 := nv_le H1.1 (by omega)
    obtain ⟨c0, c1⟩ := f2
    obtain ⟨α', Ha, hm⟩ := hd_gpM (q := kh_finish_a153) (n := 0) (by decide +kernel) hx H1 (by decide +kernel) hxa hf
    have hfr := H1.2.2.2.2.2.2.2.2.2.2.1
    have m0 : nv α' 0 = nv β 0 := hm 0 0 rfl
    have m1 : nv α' 1 = nv β 1 := hm 1 1 rfl
    have m2 : nv α' 2 = nv β 2 := hm 2 2 rfl
    have m3 : nv α' 3 = nv β 4 := hm 3 4 rfl
    subst S'
    obtain ⟨h0, h1⟩ := f4
    have q := q520 (nv β 2 - 579).toNat (by omega)
    rw [show 579 + (nv β 2 - 579).toNat = (nv β 2).toNat by omega] at q
    refine (hP _).2.2.1 _ _ _ _ Ha ?_ (Nat.lt_succ_self _)
    · omega)
