/-! ===== hReach, with what it lays down ===== -/
theorem lead_e {S S1 : fw_S} {g s : Int} (e6 : S1.1 806 = S.1 806) : leadsP S1 g s ↔ leadsP S g s := by
  unfold leadsP lkv
  rw [e6]
theorem fw_i_u {S : fw_S} {c j : Nat} {v : Int} : (fw_i S c j (Int32.ofInt v)).1 c = rw_u (S.1 c) j v := funext (fun i => fw_i_row i)
theorem b2i_1 {p : Prop} [Decidable p] (h : b2i p = 1) : p := by
  unfold b2i at h
  split at h
  · assumption
  · omega
theorem b2i_0 {p : Prop} [Decidable p] (h : b2i p = 0) : ¬ p := by
  unfold b2i at h
  split at h
  · omega
  · assumption
abbrev kh_hReach2_y : mt_T := (⟨"UtilityWorksModel", "hReach", "(I)V"⟩, prog_14_method_165_code, 6, none, 12, 1, 1, 35001, 35000, 12010, 21014)
def kh_hReach2 : ct_T := (487, [(2, 805, 805, 0), (0, 0, 11, 1)], [], [], [(0, (0, 0, 0, 0), [(2, 805, 805, 0), (0, 0, 11, 1)], [], ([500], []))], [((854, 854), (0, 11, 1))], 4, 88, 0)
def kh_hReach2_a2 : an_T := (2, 0, ([((2, 805, 805, 0), none), ((0, 0, 11, 1), none), ((0, 0, 12, 1), none)], [(0, 0), (1, 1), (2, 2)], [], [], [], [], [], [], none), [])
def kh_hReach2_a31 : an_T := (31, 0, ([((2, 805, 805, 0), none), ((0, 0, 11, 1), none), ((0, 0, 1, 1), none)], [(0, 0), (1, 1), (2, 2)], [], [], [], [], [], [], none), [])
def kh_hReach2_a39 : an_T := (39, 0, ([((2, 805, 805, 0), none), ((0, 0, 11, 1), none), ((0, 0, 1, 1), none), ((0, 0, 17, 1), none)], [(0, 0), (1, 1), (2, 2), (3, 3)], [], [], [], [], [], [], none), [])
def kh_hReach2_b0_0 : sg_T := (2, 0, ([((2, 805, 805, 0), none), ((0, 0, 11, 1), none), ((0, 0, 0, 0), none)], [(2, 2), (0, 0), (1, 1)], [], [], [], [], [], [], some []))
def kh_hReach2_b2_0 : sg_T := (31, 0, ([((2, 805, 805, 0), none), ((0, 0, 11, 1), none), ((0, 12, 12, 1), none), ((0, 12, 12, 0), none), ((2, 854, 854, 1), none), ((0, 0, 0, 0), none), ((0, 1, 1, 0), none)], [(2, 6), (0, 0), (1, 1)], [], [(4, 1, 5)], [], [(200000, 3, 2)], [], [], some [(4, 1, 5)]))
def kh_hReach2_b2_1 : sg_T := (2, 0, ([((2, 805, 805, 0), none), ((0, 0, 11, 1), none), ((0, 0, 11, 1), none), ((0, 12, 12, 0), none), ((2, 854, 854, 1), none), ((0, 99, 99, 0), none), ((0, 1, 12, 1), some (2, 1))], [(2, 6), (0, 0), (1, 1)], [], [(4, 2, 5)], [], [(100000, 2, 3)], [], [], some [(4, 2, 5)]))
def kh_hReach2_b31_0 : sg_T := (159, 0, ([((2, 805, 805, 0), none), ((0, 0, 11, 1), none), ((0, 0, 0, 1), none)], [(0, 0), (1, 1), (2, 2)], [], [], [], [], [], [], some []))
def kh_hReach2_b31_1 : sg_T := (39, 0, ([((2, 805, 805, 0), none), ((0, 0, 11, 1), none), ((0, 1, 1, 1), none), ((0, 0, 0, 0), none), ((0, 0, 0, 0), none)], [(3, 4), (2, 3), (0, 0), (1, 1)], [], [], [(2, 0)], [], [], [], some []))
def kh_hReach2_b39_0 : sg_T := (31, 0, ([((2, 805, 805, 0), none), ((0, 0, 11, 1), none), ((0, 0, 1, 1), none), ((0, 17, 17, 1), none), ((0, 17, 17, 0), none)], [(0, 0), (1, 1), (2, 2), (3, 3)], [], [], [], [(200000, 4, 3)], [], [], some []))
def kh_hReach2_b39_1 : sg_T := (39, 0, ([((2, 805, 805, 0), none), ((0, 0, 11, 1), none), ((0, 0, 1, 1), none), ((0, 0, 16, 1), none), ((0, 17, 17, 0), none), ((2, 854, 854, 1), none), ((0, 0, 10, 1), none), ((0, 0, 99, 1), none), ((2, 854, 854, 1), none), ((0, 1, 11, 1), none), ((0, 0, 99, 1), none), ((0, 2, 2, 0), none), ((0, 0, 0, 1), none), ((0, 1, 17, 1), some (3, 1))], [(3, 13), (5, 10), (4, 7), (0, 0), (1, 1), (2, 2)], [], [(8, 9, 10), (5, 6, 7)], [], [(101300012, 11, 3), (800010, 8, 9), (1100009, 3, 3), (800007, 5, 6), (1000006, 3, 3), (100000, 3, 4)], [], [], some []))
def kh_hReach2_b39_2 : sg_T := (39, 0, ([((2, 805, 805, 0), none), ((0, 0, 11, 1), none), ((0, 0, 1, 1), none), ((0, 0, 16, 1), none), ((0, 17, 17, 0), none), ((2, 854, 854, 1), none), ((0, 0, 10, 1), none), ((0, 1, 97, 1), none), ((2, 854, 854, 1), none), ((0, 1, 11, 1), none), ((0, 2, 98, 1), none), ((0, 2, 2, 0), none), ((0, 1, 1, 1), none), ((0, 1, 1, 0), none), ((0, 1, 98, 1), some (7, 1)), ((2, 854, 854, 1), none), ((0, 0, 10, 1), none), ((0, 1, 1, 0), none), ((0, 3, 100, 1), some (10, 1)), ((2, 854, 854, 1), none), ((0, 1, 11, 1), none), ((0, 1, 1, 0), none), ((0, 2, 98, 1), some (7, 1)), ((0, 1, 1, 0), none), ((0, 1, 17, 1), some (3, 1))], [(3, 24), (2, 23), (5, 10), (4, 7), (0, 0), (1, 1)], [], [(19, 20, 10)], [(12, 0)], [(200000, 10, 22), (500022, 7, 21), (1100020, 3, 3), (200000, 7, 18), (500018, 10, 17), (1000016, 3, 3), (100000, 14, 10), (500014, 7, 13), (101300012, 11, 3), (800010, 8, 9), (1100009, 3, 3), (800007, 5, 6), (1000006, 3, 3), (100000, 3, 4)], [], [], some [(19, 20, 10), (15, 16, 7)]))
def kh_hReach2_b39_3 : sg_T := (39, 0, ([((2, 805, 805, 0), none), ((0, 0, 11, 1), none), ((0, 0, 1, 1), none), ((0, 0, 16, 1), none), ((0, 17, 17, 0), none), ((2, 854, 854, 1), none), ((0, 0, 10, 1), none), ((0, 0, 97, 1), none), ((2, 854, 854, 1), none), ((0, 1, 11, 1), none), ((0, 2, 99, 1), none), ((0, 2, 2, 0), none), ((0, 1, 1, 1), none), ((0, 1, 1, 0), none), ((0, 1, 98, 1), some (7, 1)), ((2, 854, 854, 1), none), ((0, 0, 10, 1), none), ((0, 1, 1, 0), none), ((0, 3, 100, 1), some (10, 1)), ((2, 854, 854, 1), none), ((0, 1, 11, 1), none), ((0, 1, 1, 0), none), ((0, 1, 98, 1), some (7, 1)), ((0, 1, 1, 0), none), ((0, 1, 98, 1), some (7, 1)), ((0, 1, 1, 0), none), ((0, 1, 17, 1), some (3, 1))], [(3, 26), (2, 25), (5, 10), (4, 7), (0, 0), (1, 1)], [], [(19, 20, 24)], [(12, 0)], [(500024, 7, 23), (100000, 22, 10), (500022, 7, 21), (1100020, 3, 3), (200000, 7, 18), (500018, 10, 17), (1000016, 3, 3), (100000, 14, 10), (500014, 7, 13), (101300012, 11, 3), (800010, 8, 9), (1100009, 3, 3), (800007, 5, 6), (1000006, 3, 3), (100000, 3, 4)], [], [], some [(19, 20, 24), (15, 16, 7)]))
def kh_hReach2_b39_4 : sg_T := (39, 0, ([((2, 805, 805, 0), none), ((0, 0, 11, 1), none), ((0, 0, 1, 1), none), ((0, 0, 16, 1), none), ((0, 17, 17, 0), none), ((2, 854, 854, 1), none), ((0, 0, 10, 1), none), ((0, 4, 97, 1), none), ((2, 854, 854, 1), none), ((0, 1, 11, 1), none), ((0, 2, 95, 1), none), ((0, 2, 2, 0), none), ((0, 1, 1, 1), none), ((0, 1, 1, 0), none), ((0, 1, 98, 1), some (7, 1)), ((2, 854, 854, 1), none), ((0, 0, 10, 1), none), ((0, 1, 1, 0), none), ((0, 3, 96, 1), some (10, 1)), ((0, 1, 1, 0), none), ((0, 3, 96, 1), some (10, 1)), ((2, 854, 854, 1), none), ((0, 1, 11, 1), none), ((0, 1, 1, 0), none), ((0, 5, 98, 1), some (7, 1)), ((0, 1, 1, 0), none), ((0, 1, 17, 1), some (3, 1))], [(3, 26), (2, 25), (5, 10), (4, 7), (0, 0), (1, 1)], [], [(21, 22, 10)], [(12, 0)], [(200000, 10, 24), (500024, 7, 23), (1100022, 3, 3), (500020, 10, 19), (100000, 18, 7), (500018, 10, 17), (1000016, 3, 3), (100000, 14, 10), (500014, 7, 13), (101300012, 11, 3), (800010, 8, 9), (1100009, 3, 3), (800007, 5, 6), (1000006, 3, 3), (100000, 3, 4)], [], [], some [(21, 22, 10), (15, 16, 20)]))
def kh_hReach2_b39_5 : sg_T := (39, 0, ([((2, 805, 805, 0), none), ((0, 0, 11, 1), none), ((0, 0, 1, 1), none), ((0, 0, 16, 1), none), ((0, 17, 17, 0), none), ((2, 854, 854, 1), none), ((0, 0, 10, 1), none), ((0, 4, 93, 1), none), ((2, 854, 854, 1), none), ((0, 1, 11, 1), none), ((0, 6, 95, 1), none), ((0, 2, 2, 0), none), ((0, 1, 1, 1), none), ((0, 1, 1, 0), none), ((0, 1, 98, 1), some (7, 1)), ((2, 854, 854, 1), none), ((0, 0, 10, 1), none), ((0, 1, 1, 0), none), ((0, 3, 96, 1), some (10, 1)), ((0, 1, 1, 0), none), ((0, 3, 96, 1), some (10, 1)), ((2, 854, 854, 1), none), ((0, 1, 11, 1), none), ((0, 1, 1, 0), none), ((0, 5, 94, 1), some (7, 1)), ((0, 1, 1, 0), none), ((0, 5, 94, 1), some (7, 1)), ((0, 1, 1, 0), none), ((0, 1, 17, 1), some (3, 1))], [(3, 28), (2, 27), (5, 10), (4, 7), (0, 0), (1, 1)], [], [(21, 22, 26)], [(12, 0)], [(500026, 7, 25), (100000, 24, 10), (500024, 7, 23), (1100022, 3, 3), (500020, 10, 19), (100000, 18, 7), (500018, 10, 17), (1000016, 3, 3), (100000, 14, 10), (500014, 7, 13), (101300012, 11, 3), (800010, 8, 9), (1100009, 3, 3), (800007, 5, 6), (1000006, 3, 3), (100000, 3, 4)], [], [], some [(21, 22, 26), (15, 16, 20)]))
def kh_hReach2_b39_6 : sg_T := (39, 0, ([((2, 805, 805, 0), none), ((0, 0, 11, 1), none), ((0, 0, 1, 1), none), ((0, 0, 16, 1), none), ((0, 17, 17, 0), none), ((2, 854, 854, 1), none), ((0, 0, 10, 1), none), ((0, 0, 99, 1), none), ((2, 854, 854, 1), none), ((0, 1, 11, 1), none), ((0, 0, 99, 1), none), ((0, 2, 2, 0), none), ((0, 1, 1, 1), none), ((0, 1, 1, 0), none), ((0, 1, 100, 1), some (7, 1)), ((0, 1, 1, 0), none), ((0, 1, 100, 1), some (10, 1)), ((0, 1, 17, 1), some (3, 1))], [(3, 17), (5, 10), (4, 7), (0, 0), (1, 1), (2, 2)], [], [(8, 9, 10), (5, 6, 7)], [(12, 0)], [(200000, 7, 16), (500016, 10, 15), (200000, 10, 14), (500014, 7, 13), (101300012, 11, 3), (800010, 8, 9), (1100009, 3, 3), (800007, 5, 6), (1000006, 3, 3), (100000, 3, 4)], [], [], some []))
def kh_hReach2_b39_7 : sg_T := (39, 0, ([((2, 805, 805, 0), none), ((0, 0, 11, 1), none), ((0, 0, 1, 1), none), ((0, 0, 16, 1), none), ((0, 17, 17, 0), none), ((2, 854, 854, 1), none), ((0, 0, 10, 1), none), ((0, 2, 98, 1), none), ((2, 854, 854, 1), none), ((0, 1, 11, 1), none), ((0, 1, 97, 1), none), ((0, 2, 2, 0), none), ((0, 1, 1, 1), none), ((0, 1, 1, 0), none), ((0, 1, 100, 1), some (7, 1)), ((0, 1, 1, 0), none), ((0, 1, 98, 1), some (10, 1)), ((2, 854, 854, 1), none), ((0, 0, 10, 1), none), ((0, 1, 1, 0), none), ((0, 2, 98, 1), some (10, 1)), ((2, 854, 854, 1), none), ((0, 1, 11, 1), none), ((0, 1, 1, 0), none), ((0, 3, 99, 1), some (7, 1)), ((0, 1, 1, 0), none), ((0, 1, 17, 1), some (3, 1))], [(3, 26), (2, 25), (5, 10), (4, 7), (0, 0), (1, 1)], [], [(21, 22, 10)], [(12, 0)], [(200000, 10, 24), (500024, 7, 23), (1100022, 3, 3), (200000, 7, 20), (500020, 10, 19), (1000018, 3, 3), (100000, 16, 7), (500016, 10, 15), (200000, 10, 14), (500014, 7, 13), (101300012, 11, 3), (800010, 8, 9), (1100009, 3, 3), (800007, 5, 6), (1000006, 3, 3), (100000, 3, 4)], [], [], some [(21, 22, 10), (17, 18, 7)]))
def kh_hReach2_b39_8 : sg_T := (39, 0, ([((2, 805, 805, 0), none), ((0, 0, 11, 1), none), ((0, 0, 1, 1), none), ((0, 0, 16, 1), none), ((0, 17, 17, 0), none), ((2, 854, 854, 1), none), ((0, 0, 10, 1), none), ((0, 2, 95, 1), none), ((2, 854, 854, 1), none), ((0, 1, 11, 1), none), ((0, 4, 97, 1), none), ((0, 2, 2, 0), none), ((0, 1, 1, 1), none), ((0, 1, 1, 0), none), ((0, 1, 100, 1), some (7, 1)), ((0, 1, 1, 0), none), ((0, 1, 98, 1), some (10, 1)), ((2, 854, 854, 1), none), ((0, 0, 10, 1), none), ((0, 1, 1, 0), none), ((0, 2, 98, 1), some (10, 1)), ((2, 854, 854, 1), none), ((0, 1, 11, 1), none), ((0, 1, 1, 0), none), ((0, 3, 96, 1), some (7, 1)), ((0, 1, 1, 0), none), ((0, 3, 96, 1), some (7, 1)), ((0, 1, 1, 0), none), ((0, 1, 17, 1), some (3, 1))], [(3, 28), (2, 27), (5, 10), (4, 7), (0, 0), (1, 1)], [], [(21, 22, 26)], [(12, 0)], [(500026, 7, 25), (100000, 24, 10), (500024, 7, 23), (1100022, 3, 3), (200000, 7, 20), (500020, 10, 19), (1000018, 3, 3), (100000, 16, 7), (500016, 10, 15), (200000, 10, 14), (500014, 7, 13), (101300012, 11, 3), (800010, 8, 9), (1100009, 3, 3), (800007, 5, 6), (1000006, 3, 3), (100000, 3, 4)], [], [], some [(21, 22, 26), (17, 18, 7)]))
def kh_hReach2_b39_9 : sg_T := (39, 0, ([((2, 805, 805, 0), none), ((0, 0, 11, 1), none), ((0, 0, 1, 1), none), ((0, 0, 16, 1), none), ((0, 17, 17, 0), none), ((2, 854, 854, 1), none), ((0, 0, 10, 1), none), ((0, 2, 99, 1), none), ((2, 854, 854, 1), none), ((0, 1, 11, 1), none), ((0, 0, 97, 1), none), ((0, 2, 2, 0), none), ((0, 1, 1, 1), none), ((0, 1, 1, 0), none), ((0, 1, 100, 1), some (7, 1)), ((0, 1, 1, 0), none), ((0, 1, 98, 1), some (10, 1)), ((2, 854, 854, 1), none), ((0, 0, 10, 1), none), ((0, 1, 1, 0), none), ((0, 1, 98, 1), some (10, 1)), ((0, 1, 1, 0), none), ((0, 1, 98, 1), some (10, 1)), ((2, 854, 854, 1), none), ((0, 1, 11, 1), none), ((0, 1, 1, 0), none), ((0, 3, 100, 1), some (7, 1)), ((0, 1, 1, 0), none), ((0, 1, 17, 1), some (3, 1))], [(3, 28), (2, 27), (5, 10), (4, 7), (0, 0), (1, 1)], [], [(23, 24, 10)], [(12, 0)], [(200000, 10, 26), (500026, 7, 25), (1100024, 3, 3), (500022, 10, 21), (100000, 20, 7), (500020, 10, 19), (1000018, 3, 3), (100000, 16, 7), (500016, 10, 15), (200000, 10, 14), (500014, 7, 13), (101300012, 11, 3), (800010, 8, 9), (1100009, 3, 3), (800007, 5, 6), (1000006, 3, 3), (100000, 3, 4)], [], [], some [(23, 24, 10), (17, 18, 22)]))
def kh_hReach2_b39_10 : sg_T := (39, 0, ([((2, 805, 805, 0), none), ((0, 0, 11, 1), none), ((0, 0, 1, 1), none), ((0, 0, 16, 1), none), ((0, 17, 17, 0), none), ((2, 854, 854, 1), none), ((0, 0, 10, 1), none), ((0, 2, 95, 1), none), ((2, 854, 854, 1), none), ((0, 1, 11, 1), none), ((0, 4, 97, 1), none), ((0, 2, 2, 0), none), ((0, 1, 1, 1), none), ((0, 1, 1, 0), none), ((0, 1, 100, 1), some (7, 1)), ((0, 1, 1, 0), none), ((0, 1, 98, 1), some (10, 1)), ((2, 854, 854, 1), none), ((0, 0, 10, 1), none), ((0, 1, 1, 0), none), ((0, 1, 98, 1), some (10, 1)), ((0, 1, 1, 0), none), ((0, 1, 98, 1), some (10, 1)), ((2, 854, 854, 1), none), ((0, 1, 11, 1), none), ((0, 1, 1, 0), none), ((0, 3, 96, 1), some (7, 1)), ((0, 1, 1, 0), none), ((0, 3, 96, 1), some (7, 1)), ((0, 1, 1, 0), none), ((0, 1, 17, 1), some (3, 1))], [(3, 30), (2, 29), (5, 10), (4, 7), (0, 0), (1, 1)], [], [(23, 24, 28)], [(12, 0)], [(500028, 7, 27), (100000, 26, 10), (500026, 7, 25), (1100024, 3, 3), (500022, 10, 21), (100000, 20, 7), (500020, 10, 19), (1000018, 3, 3), (100000, 16, 7), (500016, 10, 15), (200000, 10, 14), (500014, 7, 13), (101300012, 11, 3), (800010, 8, 9), (1100009, 3, 3), (800007, 5, 6), (1000006, 3, 3), (100000, 3, 4)], [], [], some [(23, 24, 28), (17, 18, 22)]))
theorem kh_hReach2_ok : ct_ok wd_fl1 kh_hReach2 := ct_hand (ff := wd_ff1) (y := kh_hReach2_y) (Cs := [kh_low, kh_high, kh_leads]) wd_fl1_ok rfl (List.forall_mem_cons.mpr ⟨kh_low_l, (List.forall_mem_cons.mpr ⟨kh_high_l, (List.forall_mem_cons.mpr ⟨kh_leads_ok, (List.forall_mem_nil _)⟩)⟩)⟩) (by decide +kernel) (fun l D tc ad kd N sm xs S p e s m args below meth c sz lv G H0 => by
  have hx : xs.length = 2 := by rw [H0.2.1.1]; rfl
  have hP : ∀ (k : Nat), (∀ (α : List av_X) (lv : List (Nat × Value)) (S1 : fw_S), as_in ad sm wd_fl1 xs S kh_hReach2.2.2.2.2.2.1 α kh_hReach2_a2.2.2.1 lv [] S1 → (∀ j : Nat, (j : Int) < nv α 2 → j < 12 → (S1.1 854 j).toInt = 99) → 10000000 + (12 - nv α 2).toNat < k → hd_W wd_fl1 kh_hReach2 kh_hReach2_y l D tc ad kd N sm xs S p e s m args below meth c sz 2 lv [] S1 0) ∧ (∀ (α : List av_X) (lv : List (Nat × Value)) (S1 : fw_S), as_in ad sm wd_fl1 xs S kh_hReach2.2.2.2.2.2.1 α kh_hReach2_a31.2.2.1 lv [] S1 → (hWg (S1.1 854) (fun t => leadsP S 2 t) ∧ (nv α 2 = 0 → hFg (S1.1 854) (fun t => leadsP S 2 t) 17)) → 100 * (sm_S (S1.1 854) 12).toNat + 60 * (nv α 2).toNat < k → hd_W wd_fl1 kh_hReach2 kh_hReach2_y l D tc ad kd N sm xs S p e s m args below meth c sz 31 lv [] S1 0) ∧ (∀ (α : List av_X) (lv : List (Nat × Value)) (S1 : fw_S), as_in ad sm wd_fl1 xs S kh_hReach2.2.2.2.2.2.1 α kh_hReach2_a39.2.2.1 lv [] S1 → (hWg (S1.1 854) (fun t => leadsP S 2 t) ∧ (nv α 2 = 0 → hFg (S1.1 854) (fun t => leadsP S 2 t) (nv α 3))) → 100 * (sm_S (S1.1 854) 12).toNat + (17 - nv α 3).toNat + 60 * (nv α 2).toNat + 1 < k → hd_W wd_fl1 kh_hReach2 kh_hReach2_y l D tc ad kd N sm xs S p e s m args below meth c sz 39 lv [] S1 0) ∧ True := by
    intro k
    induction k with
    | zero => exact ⟨fun _ _ _ _ _ h => absurd h (Nat.not_lt_zero _), fun _ _ _ _ _ h => absurd h (Nat.not_lt_zero _), fun _ _ _ _ _ h => absurd h (Nat.not_lt_zero _), trivial⟩
    | succ k ih =>
    refine ⟨?_, ?_, ?_, trivial⟩
    · intro α lv S1 H hp hk
      obtain ⟨α1, hle, Hr⟩ := as_recM (pl := []) [((854, 854), (0, 11, 1))] (by decide +kernel) H
      have hf := H.2.2.2.2.2.2.2.2.2.2.1
      have hl1 : α1.length = 3 := by rw [Hr.2.1.1]; rfl
      have hl0 : α.length = 3 := by rw [H.2.1.1]; rfl
      have hxa : al_le xs α1 := H.1.trans hle
      obtain ⟨g1, -, g3, g4, -⟩ := as_fx Hr
      have g0 : (805 ≤ nv α1 0 ∧ nv α1 0 ≤ 805) ∧ (0 ≤ nv α1 1 ∧ nv α1 1 ≤ 11) ∧ (0 ≤ nv α1 2 ∧ nv α1 2 ≤ 12) ∧ True := by
        refine ⟨by have h := (en_nv (i := 0) Hr.2.1 rfl).2; exact h, by have h := (en_nv (i := 1) Hr.2.1 rfl).2; exact h, by have h := (en_nv (i := 2) Hr.2.1 rfl).2; exact h, trivial⟩
      have r0 : nv α1 0 = nv α 0 := nv_le hle (by omega)
      have r1 : nv α1 1 = nv α 1 := nv_le hle (by omega)
      have r2 : nv α1 2 = nv α 2 := nv_le hle (by omega)
      refine hd_segM G (na := 3) (fuel := 600) (first := true) (Bs := [kh_hReach2_b2_0, kh_hReach2_b2_1]) (by decide +kernel) hl1 Hr ?_
      intro q hq β lv' st' S' H1
      simp only [List.mem_cons, List.not_mem_nil, or_false] at hq
      rcases hq with rfl | rfl
      · have hst := st_nil H1 rfl
        subst hst
        obtain ⟨f1, f2, f3, f4, f5⟩ := as_fx H1
        simp only [kh_hReach2_b2_0, fx_env, fx_c, fx_ne, fx_hf, wl_S, Nat.zero_add, Nat.reduceAdd, Nat.reduceDiv, Nat.reduceMod, List.getElem?_cons_zero, List.getElem?_cons_succ, if_true, and_true, true_and] at f1 f2 f3 f4 f5
        have fe0 : nv β 0 = 805 := by omega
        have fe2 : nv β 2 = 12 := by omega
        have fe3 : nv β 3 = 12 := by omega
        have fe4 : nv β 4 = 854 := by omega
        have fe5 : nv β 5 = 0 := by omega
        have fe6 : nv β 6 = 1 := by omega
        try simp only [fe0, fe2, fe3, fe4, fe5, fe6, Int.reduceToNat] at f2 f3 f4 f5
        have s0 : nv β 0 = nv α1 0 := nv_le H1.1 (by omega)
        have s1 : nv β 1 = nv α1 1 := nv_le H1.1 (by omega)
        have s2 : nv β 2 = nv α1 2 := nv_le H1.1 (by omega)
        have c0 := f2
        obtain ⟨α', Ha, hm⟩ := hd_gpM (q := kh_hReach2_a31) (n := 0) (by decide +kernel) hx H1 (by decide +kernel) hxa hf
        have hfr := H1.2.2.2.2.2.2.2.2.2.2.1
        have m0 : nv α' 0 = nv β 0 := hm 0 0 rfl
        have m1 : nv α' 1 = nv β 1 := hm 1 1 rfl
        have m2 : nv α' 2 = nv β 6 := hm 2 6 rfl
        subst S'
        have hb2 := sm_bd (n := 12) (fun j hj => rg_bd (q_rg_in (q := ((854, 854), (0, 11, 1), (0, 0, 99, 1))) (by decide +kernel) Ha) (j := j) (by omega))
        refine ih.2.1 _ _ _ Ha ?_ ?_
        · refine ⟨fun y hy => ?_, fun hg => by omega⟩
          rw [fw_i_row]
          by_cases e : y = (nv β 1).toNat
          · rw [if_pos e]; exact Or.inr (Or.inl (by decide))
          · rw [if_neg e]; exact Or.inl (hp y (by omega) hy)
        · rw [m2]; omega
      · have hst := st_nil H1 rfl
        subst hst
        obtain ⟨f1, f2, f3, f4, f5⟩ := as_fx H1
        simp only [kh_hReach2_b2_1, fx_env, fx_c, fx_ne, fx_hf, wl_S, Nat.zero_add, Nat.reduceAdd, Nat.reduceDiv, Nat.reduceMod, List.getElem?_cons_zero, List.getElem?_cons_succ, if_true, and_true, true_and] at f1 f2 f3 f4 f5
        have fe0 : nv β 0 = 805 := by omega
        have fe3 : nv β 3 = 12 := by omega
        have fe4 : nv β 4 = 854 := by omega
        have fe5 : nv β 5 = 99 := by omega
        try simp only [fe0, fe3, fe4, fe5, Int.reduceToNat] at f2 f3 f4 f5
        have s0 : nv β 0 = nv α1 0 := nv_le H1.1 (by omega)
        have s1 : nv β 1 = nv α1 1 := nv_le H1.1 (by omega)
        have s2 : nv β 2 = nv α1 2 := nv_le H1.1 (by omega)
        have c0 := f2
        obtain ⟨α', Ha, hm⟩ := hd_gpM (q := kh_hReach2_a2) (n := 0) (by decide +kernel) hx H1 (by decide +kernel) hxa hf
        have hfr := H1.2.2.2.2.2.2.2.2.2.2.1
        have m0 : nv α' 0 = nv β 0 := hm 0 0 rfl
        have m1 : nv α' 1 = nv β 1 := hm 1 1 rfl
        have m2 : nv α' 2 = nv β 6 := hm 2 6 rfl
        subst S'
        refine ih.1 _ _ _ Ha ?_ ?_
        · intro j hj hj2
          rw [m2] at hj
          rw [fw_i_row]
          by_cases e : j = (nv β 2).toNat
          · rw [if_pos e]; decide
          · rw [if_neg e]; exact hp j (by omega) hj2
        · omega
    · intro α lv S1 H hp hk
      obtain ⟨α1, hle, Hr⟩ := as_recM (pl := []) [] (by decide +kernel) H
      have hf := H.2.2.2.2.2.2.2.2.2.2.1
      have hl1 : α1.length = 3 := by rw [Hr.2.1.1]; rfl
      have hl0 : α.length = 3 := by rw [H.2.1.1]; rfl
      have hxa : al_le xs α1 := H.1.trans hle
      obtain ⟨g1, -, g3, g4, -⟩ := as_fx Hr
      have g0 : (805 ≤ nv α1 0 ∧ nv α1 0 ≤ 805) ∧ (0 ≤ nv α1 1 ∧ nv α1 1 ≤ 11) ∧ (0 ≤ nv α1 2 ∧ nv α1 2 ≤ 1) ∧ True := by
        refine ⟨by have h := (en_nv (i := 0) Hr.2.1 rfl).2; exact h, by have h := (en_nv (i := 1) Hr.2.1 rfl).2; exact h, by have h := (en_nv (i := 2) Hr.2.1 rfl).2; exact h, trivial⟩
      have r0 : nv α1 0 = nv α 0 := nv_le hle (by omega)
      have r1 : nv α1 1 = nv α 1 := nv_le hle (by omega)
      have r2 : nv α1 2 = nv α 2 := nv_le hle (by omega)
      refine hd_segM G (na := 3) (fuel := 600) (first := true) (Bs := [kh_hReach2_b31_0, kh_hReach2_b31_1]) (by decide +kernel) hl1 Hr ?_
      intro q hq β lv' st' S' H1
      simp only [List.mem_cons, List.not_mem_nil, or_false] at hq
      rcases hq with rfl | rfl
      · obtain ⟨f1, f2, f3, f4, f5⟩ := as_fx H1
        simp only [kh_hReach2_b31_0, fx_env, fx_c, fx_ne, fx_hf, wl_S, Nat.zero_add, Nat.reduceAdd, Nat.reduceDiv, Nat.reduceMod, List.getElem?_cons_zero, List.getElem?_cons_succ, if_true, and_true, true_and] at f1 f2 f3 f4 f5
        have fe0 : nv β 0 = 805 := by omega
        have fe2 : nv β 2 = 0 := by omega
        try simp only [fe0, fe2, Int.reduceToNat] at f2 f3 f4 f5
        have s0 : nv β 0 = nv α1 0 := nv_le H1.1 (by omega)
        have s1 : nv β 1 = nv α1 1 := nv_le H1.1 (by omega)
        have s2 : nv β 2 = nv α1 2 := nv_le H1.1 (by omega)
        subst S'
        have e6 : S1.1 806 = S.1 806 := fr_row hf 806 (by decide +kernel)
        have hfin := h_fin hp.1 (hp.2 (by omega)) (fun j hj => rg_bd (q_rg_in (q := ((854, 854), (0, 11, 1), (0, 0, 99, 1))) (by decide +kernel) H) (j := j) (by omega))
        have hpr : hPred S1 := by
          intro y hy
          rcases hfin y hy with g | g | ⟨g1, g2, t, t1, t2, t3⟩
          · exact Or.inl g
          · exact Or.inr (Or.inl g)
          · exact Or.inr (Or.inr ⟨g1, g2, t, t1, (lead_e e6).mpr t2, t3⟩)
        exact hd_run G (ss := []) (fuel := 20) (by decide +kernel) (as_fl_in (f := [500]) (as_backM H1 (by decide +kernel) hxa hf) (fun g hg => by
          rcases List.mem_singleton.mp hg with rfl
          exact hpr))
      · have hst := st_nil H1 rfl
        subst hst
        obtain ⟨f1, f2, f3, f4, f5⟩ := as_fx H1
        simp only [kh_hReach2_b31_1, fx_env, fx_c, fx_ne, fx_hf, wl_S, Nat.zero_add, Nat.reduceAdd, Nat.reduceDiv, Nat.reduceMod, List.getElem?_cons_zero, List.getElem?_cons_succ, if_true, and_true, true_and] at f1 f2 f3 f4 f5
        have fe0 : nv β 0 = 805 := by omega
        have fe2 : nv β 2 = 1 := by omega
        have fe3 : nv β 3 = 0 := by omega
        have fe4 : nv β 4 = 0 := by omega
        try simp only [fe0, fe2, fe3, fe4, Int.reduceToNat] at f2 f3 f4 f5
        have s0 : nv β 0 = nv α1 0 := nv_le H1.1 (by omega)
        have s1 : nv β 1 = nv α1 1 := nv_le H1.1 (by omega)
        have s2 : nv β 2 = nv α1 2 := nv_le H1.1 (by omega)
        obtain ⟨α', Ha, hm⟩ := hd_gpM (q := kh_hReach2_a39) (n := 0) (by decide +kernel) hx H1 (by decide +kernel) hxa hf
        have hfr := H1.2.2.2.2.2.2.2.2.2.2.1
        have m0 : nv α' 0 = nv β 0 := hm 0 0 rfl
        have m1 : nv α' 1 = nv β 1 := hm 1 1 rfl
        have m2 : nv α' 2 = nv β 3 := hm 2 3 rfl
        have m3 : nv α' 3 = nv β 4 := hm 3 4 rfl
        subst S'
        refine ih.2.2.1 _ _ _ Ha ?_ ?_
        · exact ⟨hp.1, fun _ t ht _ _ => by rw [m3] at ht; omega⟩
        · rw [m3, m2]; omega
    · intro α lv S1 H hp hk
      obtain ⟨α1, hle, Hr⟩ := as_recM (pl := []) [((854, 854), (0, 10, 1)), ((854, 854), (1, 11, 1))] (by decide +kernel) H
      have hf := H.2.2.2.2.2.2.2.2.2.2.1
      have hl1 : α1.length = 4 := by rw [Hr.2.1.1]; rfl
      have hl0 : α.length = 4 := by rw [H.2.1.1]; rfl
      have hxa : al_le xs α1 := H.1.trans hle
      obtain ⟨g1, -, g3, g4, -⟩ := as_fx Hr
      have g0 : (805 ≤ nv α1 0 ∧ nv α1 0 ≤ 805) ∧ (0 ≤ nv α1 1 ∧ nv α1 1 ≤ 11) ∧ (0 ≤ nv α1 2 ∧ nv α1 2 ≤ 1) ∧ (0 ≤ nv α1 3 ∧ nv α1 3 ≤ 17) ∧ True := by
        refine ⟨by have h := (en_nv (i := 0) Hr.2.1 rfl).2; exact h, by have h := (en_nv (i := 1) Hr.2.1 rfl).2; exact h, by have h := (en_nv (i := 2) Hr.2.1 rfl).2; exact h, by have h := (en_nv (i := 3) Hr.2.1 rfl).2; exact h, trivial⟩
      have r0 : nv α1 0 = nv α 0 := nv_le hle (by omega)
      have r1 : nv α1 1 = nv α 1 := nv_le hle (by omega)
      have r2 : nv α1 2 = nv α 2 := nv_le hle (by omega)
      have r3 : nv α1 3 = nv α 3 := nv_le hle (by omega)
      refine hd_segM G (na := 4) (fuel := 600) (first := true) (Bs := [kh_hReach2_b39_0, kh_hReach2_b39_1, kh_hReach2_b39_2, kh_hReach2_b39_3, kh_hReach2_b39_4, kh_hReach2_b39_5, kh_hReach2_b39_6, kh_hReach2_b39_7, kh_hReach2_b39_8, kh_hReach2_b39_9, kh_hReach2_b39_10]) (by decide +kernel) hl1 Hr ?_
      intro q hq β lv' st' S' H1
      simp only [List.mem_cons, List.not_mem_nil, or_false] at hq
      rcases hq with rfl | rfl | rfl | rfl | rfl | rfl | rfl | rfl | rfl | rfl | rfl
      · have hst := st_nil H1 rfl
        subst hst
        obtain ⟨f1, f2, f3, f4, f5⟩ := as_fx H1
        simp only [kh_hReach2_b39_0, fx_env, fx_c, fx_ne, fx_hf, wl_S, Nat.zero_add, Nat.reduceAdd, Nat.reduceDiv, Nat.reduceMod, List.getElem?_cons_zero, List.getElem?_cons_succ, if_true, and_true, true_and] at f1 f2 f3 f4 f5
        have fe0 : nv β 0 = 805 := by omega
        have fe3 : nv β 3 = 17 := by omega
        have fe4 : nv β 4 = 17 := by omega
        try simp only [fe0, fe3, fe4, Int.reduceToNat] at f2 f3 f4 f5
        have s0 : nv β 0 = nv α1 0 := nv_le H1.1 (by omega)
        have s1 : nv β 1 = nv α1 1 := nv_le H1.1 (by omega)
        have s2 : nv β 2 = nv α1 2 := nv_le H1.1 (by omega)
        have s3 : nv β 3 = nv α1 3 := nv_le H1.1 (by omega)
        have c0 := f2
        obtain ⟨α', Ha, hm⟩ := hd_gpM (q := kh_hReach2_a31) (n := 0) (by decide +kernel) hx H1 (by decide +kernel) hxa hf
        have hfr := H1.2.2.2.2.2.2.2.2.2.2.1
        have m0 : nv α' 0 = nv β 0 := hm 0 0 rfl
        have m1 : nv α' 1 = nv β 1 := hm 1 1 rfl
        have m2 : nv α' 2 = nv β 2 := hm 2 2 rfl
        subst S'
        refine ih.2.1 _ _ _ Ha ?_ ?_
        · exact ⟨hp.1, fun hg => by have h := hp.2 (by omega); rw [show nv α 3 = 17 by omega] at h; exact h⟩
        · rw [m2]; omega
      · have hst := st_nil H1 rfl
        subst hst
        obtain ⟨f1, f2, f3, f4, f5⟩ := as_fx H1
        simp only [kh_hReach2_b39_1, fx_env, fx_c, fx_ne, fx_hf, wl_S, Nat.zero_add, Nat.reduceAdd, Nat.reduceDiv, Nat.reduceMod, List.getElem?_cons_zero, List.getElem?_cons_succ, if_true, and_true, true_and] at f1 f2 f3 f4 f5
        have fe0 : nv β 0 = 805 := by omega
        have fe4 : nv β 4 = 17 := by omega
        have fe5 : nv β 5 = 854 := by omega
        have fe8 : nv β 8 = 854 := by omega
        have fe11 : nv β 11 = 2 := by omega
        have fe12 : nv β 12 = 0 := by omega
        try simp only [fe0, fe4, fe5, fe8, fe11, fe12, Int.reduceToNat] at f2 f3 f4 f5
        have s0 : nv β 0 = nv α1 0 := nv_le H1.1 (by omega)
        have s1 : nv β 1 = nv α1 1 := nv_le H1.1 (by omega)
        have s2 : nv β 2 = nv α1 2 := nv_le H1.1 (by omega)
        have s3 : nv β 3 = nv α1 3 := nv_le H1.1 (by omega)
        obtain ⟨c0, c1, c2, c3, c4, c5⟩ := f2
        obtain ⟨α', Ha, hm⟩ := hd_gpM (q := kh_hReach2_a39) (n := 0) (by decide +kernel) hx H1 (by decide +kernel) hxa hf
        have hfr := H1.2.2.2.2.2.2.2.2.2.2.1
        have m0 : nv α' 0 = nv β 0 := hm 0 0 rfl
        have m1 : nv α' 1 = nv β 1 := hm 1 1 rfl
        have m2 : nv α' 2 = nv β 2 := hm 2 2 rfl
        have m3 : nv α' 3 = nv β 13 := hm 3 13 rfl
        subst S'
        have d0 := c0
        simp only [wd_fl1, if_neg (show ¬ (wd_base 1013 = true) by decide)] at d0
        have d2 := fl1_b (by decide) c2
        simp only [wd_fl] at d2
        have d4 := fl1_b (by decide) c4
        simp only [wd_fl] at d4
        have oL := old_0 c3 rfl
        have oH := old_0 c1 rfl
        have ht : (((nv β 3).toNat : Nat) : Int) = nv β 3 := Int.toNat_of_nonneg (by omega)
        have e6 : S1.1 806 = S.1 806 := fr_row hf 806 (by decide +kernel)
        have hF : nv α' 2 = 0 → hFg (S1.1 854) (fun t => leadsP S 2 t) (nv β 3 + 1) := by
          intro hg t h1 h2 h3
          by_cases e : (t : Int) < nv α 3
          · exact hp.2 (by omega) t e h2 h3
          · have et : (t : Int) = nv β 3 := by omega
            have h3' :  leadsP S 2 t := h3
            rw [et] at h3' ⊢
            have hn := b2i_0 (d0.symm.trans (by omega))
            exact absurd ((lead_e e6).mpr h3') hn
        refine ih.2.2.1 _ _ _ Ha ?_ ?_
        · exact ⟨hp.1, fun hg => by rw [m3, show nv β 13 = nv β 3 + 1 by omega]; exact hF hg⟩
        · rw [m3, m2]; omega
      · have hst := st_nil H1 rfl
        subst hst
        obtain ⟨f1, f2, f3, f4, f5⟩ := as_fx H1
        simp only [kh_hReach2_b39_2, fx_env, fx_c, fx_ne, fx_hf, wl_S, Nat.zero_add, Nat.reduceAdd, Nat.reduceDiv, Nat.reduceMod, List.getElem?_cons_zero, List.getElem?_cons_succ, if_true, and_true, true_and] at f1 f2 f3 f4 f5
        have fe0 : nv β 0 = 805 := by omega
        have fe4 : nv β 4 = 17 := by omega
        have fe5 : nv β 5 = 854 := by omega
        have fe8 : nv β 8 = 854 := by omega
        have fe11 : nv β 11 = 2 := by omega
        have fe12 : nv β 12 = 1 := by omega
        have fe13 : nv β 13 = 1 := by omega
        have fe15 : nv β 15 = 854 := by omega
        have fe17 : nv β 17 = 1 := by omega
        have fe19 : nv β 19 = 854 := by omega
        have fe21 : nv β 21 = 1 := by omega
        have fe23 : nv β 23 = 1 := by omega
        try simp only [fe0, fe4, fe5, fe8, fe11, fe12, fe13, fe15, fe17, fe19, fe21, fe23, Int.reduceToNat] at f2 f3 f4 f5
        have s0 : nv β 0 = nv α1 0 := nv_le H1.1 (by omega)
        have s1 : nv β 1 = nv α1 1 := nv_le H1.1 (by omega)
        have s2 : nv β 2 = nv α1 2 := nv_le H1.1 (by omega)
        have s3 : nv β 3 = nv α1 3 := nv_le H1.1 (by omega)
        obtain ⟨c0, c1, c2, c3, c4, c5, c6, c7, c8, c9, c10, c11, c12, c13⟩ := f2
        obtain ⟨α', Ha, hm⟩ := hd_gpM (q := kh_hReach2_a39) (n := 0) (by decide +kernel) hx H1 (by decide +kernel) hxa hf
        have hfr := H1.2.2.2.2.2.2.2.2.2.2.1
        have m0 : nv α' 0 = nv β 0 := hm 0 0 rfl
        have m1 : nv α' 1 = nv β 1 := hm 1 1 rfl
        have m2 : nv α' 2 = nv β 23 := hm 2 23 rfl
        have m3 : nv α' 3 = nv β 24 := hm 3 24 rfl
        subst S'
        have d2 := fl1_b (by decide) c2
        simp only [wd_fl] at d2
        have d5 := fl1_b (by decide) c5
        simp only [wd_fl] at d5
        have d8 := c8
        simp only [wd_fl1, if_neg (show ¬ (wd_base 1013 = true) by decide)] at d8
        have d10 := fl1_b (by decide) c10
        simp only [wd_fl] at d10
        have d12 := fl1_b (by decide) c12
        simp only [wd_fl] at d12
        have oL := old_0 c11 rfl
        have oH := old_0 c9 rfl
        have ht : (((nv β 3).toNat : Nat) : Int) = nv β 3 := Int.toNat_of_nonneg (by omega)
        have e6 : S1.1 806 = S.1 806 := fr_row hf 806 (by decide +kernel)
        have hi1 : (nv β 16).toNat = (lowI ((nv β 3).toNat : Nat)).toNat := by rw [ht]; omega
        have hi2 : (nv β 20).toNat = (highI ((nv β 3).toNat : Nat)).toNat := by rw [ht]; omega
        have hopen := ((lead_e e6).mp (b2i_1 (d8.symm.trans (by omega))))
        have U := h_upd (L := fun t => leadsP S 2 t) (t := (nv β 3).toNat) (a := nv β 7) (b := nv β 10) (va := nv β 7) (vb := nv β 10) hp.1 (by omega) (by show (fun t => leadsP S 2 t) ((nv β 3).toNat); rw [ht]; exact hopen)
          (by rw [ht, ← d12]; exact oL) (by rw [ht, ← d10]; exact oH) (by omega) (by omega) (by omega) (by omega)
        have R : (fw_i (fw_i S1 854 (nv β 16).toNat (Int32.ofInt (nv β 7))) 854 (nv β 20).toNat (Int32.ofInt (nv β 10))).1 854 = rw_u (rw_u (S1.1 854) (lowI ((nv β 3).toNat : Nat)).toNat (nv β 7)) (highI ((nv β 3).toNat : Nat)).toNat (nv β 10) := by rw [fw_i_u, fw_i_u, hi1, hi2]
        have hb2 := sm_bd (n := 12) (fun j hj => rg_bd (q_rg_in (q := ((854, 854), (0, 11, 1), (0, 0, 99, 1))) (by decide +kernel) Ha) (j := j) (by omega))
        rw [R] at hb2
        refine ih.2.2.1 _ _ _ Ha ?_ ?_
        · exact ⟨by rw [R]; exact U.1, fun hg => by omega⟩
        · rw [R, m3, m2]; have := U.2; omega
      · have hst := st_nil H1 rfl
        subst hst
        obtain ⟨f1, f2, f3, f4, f5⟩ := as_fx H1
        simp only [kh_hReach2_b39_3, fx_env, fx_c, fx_ne, fx_hf, wl_S, Nat.zero_add, Nat.reduceAdd, Nat.reduceDiv, Nat.reduceMod, List.getElem?_cons_zero, List.getElem?_cons_succ, if_true, and_true, true_and] at f1 f2 f3 f4 f5
        have fe0 : nv β 0 = 805 := by omega
        have fe4 : nv β 4 = 17 := by omega
        have fe5 : nv β 5 = 854 := by omega
        have fe8 : nv β 8 = 854 := by omega
        have fe11 : nv β 11 = 2 := by omega
        have fe12 : nv β 12 = 1 := by omega
        have fe13 : nv β 13 = 1 := by omega
        have fe15 : nv β 15 = 854 := by omega
        have fe17 : nv β 17 = 1 := by omega
        have fe19 : nv β 19 = 854 := by omega
        have fe21 : nv β 21 = 1 := by omega
        have fe23 : nv β 23 = 1 := by omega
        have fe25 : nv β 25 = 1 := by omega
        try simp only [fe0, fe4, fe5, fe8, fe11, fe12, fe13, fe15, fe17, fe19, fe21, fe23, fe25, Int.reduceToNat] at f2 f3 f4 f5
        have s0 : nv β 0 = nv α1 0 := nv_le H1.1 (by omega)
        have s1 : nv β 1 = nv α1 1 := nv_le H1.1 (by omega)
        have s2 : nv β 2 = nv α1 2 := nv_le H1.1 (by omega)
        have s3 : nv β 3 = nv α1 3 := nv_le H1.1 (by omega)
        obtain ⟨c0, c1, c2, c3, c4, c5, c6, c7, c8, c9, c10, c11, c12, c13, c14⟩ := f2
        obtain ⟨α', Ha, hm⟩ := hd_gpM (q := kh_hReach2_a39) (n := 0) (by decide +kernel) hx H1 (by decide +kernel) hxa hf
        have hfr := H1.2.2.2.2.2.2.2.2.2.2.1
        have m0 : nv α' 0 = nv β 0 := hm 0 0 rfl
        have m1 : nv α' 1 = nv β 1 := hm 1 1 rfl
        have m2 : nv α' 2 = nv β 25 := hm 2 25 rfl
        have m3 : nv α' 3 = nv β 26 := hm 3 26 rfl
        subst S'
        have d3 := fl1_b (by decide) c3
        simp only [wd_fl] at d3
        have d6 := fl1_b (by decide) c6
        simp only [wd_fl] at d6
        have d9 := c9
        simp only [wd_fl1, if_neg (show ¬ (wd_base 1013 = true) by decide)] at d9
        have d11 := fl1_b (by decide) c11
        simp only [wd_fl] at d11
        have d13 := fl1_b (by decide) c13
        simp only [wd_fl] at d13
        have oL := old_0 c12 rfl
        have oH := old_0 c10 rfl
        have ht : (((nv β 3).toNat : Nat) : Int) = nv β 3 := Int.toNat_of_nonneg (by omega)
        have e6 : S1.1 806 = S.1 806 := fr_row hf 806 (by decide +kernel)
        have hi1 : (nv β 16).toNat = (lowI ((nv β 3).toNat : Nat)).toNat := by rw [ht]; omega
        have hi2 : (nv β 20).toNat = (highI ((nv β 3).toNat : Nat)).toNat := by rw [ht]; omega
        have hopen := ((lead_e e6).mp (b2i_1 (d9.symm.trans (by omega))))
        have U := h_upd (L := fun t => leadsP S 2 t) (t := (nv β 3).toNat) (a := nv β 7) (b := nv β 10) (va := nv β 7) (vb := nv β 24) hp.1 (by omega) (by show (fun t => leadsP S 2 t) ((nv β 3).toNat); rw [ht]; exact hopen)
          (by rw [ht, ← d13]; exact oL) (by rw [ht, ← d11]; exact oH) (by omega) (by omega) (by omega) (by omega)
        have R : (fw_i (fw_i S1 854 (nv β 16).toNat (Int32.ofInt (nv β 7))) 854 (nv β 20).toNat (Int32.ofInt (nv β 24))).1 854 = rw_u (rw_u (S1.1 854) (lowI ((nv β 3).toNat : Nat)).toNat (nv β 7)) (highI ((nv β 3).toNat : Nat)).toNat (nv β 24) := by rw [fw_i_u, fw_i_u, hi1, hi2]
        have hb2 := sm_bd (n := 12) (fun j hj => rg_bd (q_rg_in (q := ((854, 854), (0, 11, 1), (0, 0, 99, 1))) (by decide +kernel) Ha) (j := j) (by omega))
        rw [R] at hb2
        refine ih.2.2.1 _ _ _ Ha ?_ ?_
        · exact ⟨by rw [R]; exact U.1, fun hg => by omega⟩
        · rw [R, m3, m2]; have := U.2; omega
      · have hst := st_nil H1 rfl
        subst hst
        obtain ⟨f1, f2, f3, f4, f5⟩ := as_fx H1
        simp only [kh_hReach2_b39_4, fx_env, fx_c, fx_ne, fx_hf, wl_S, Nat.zero_add, Nat.reduceAdd, Nat.reduceDiv, Nat.reduceMod, List.getElem?_cons_zero, List.getElem?_cons_succ, if_true, and_true, true_and] at f1 f2 f3 f4 f5
        have fe0 : nv β 0 = 805 := by omega
        have fe4 : nv β 4 = 17 := by omega
        have fe5 : nv β 5 = 854 := by omega
        have fe8 : nv β 8 = 854 := by omega
        have fe11 : nv β 11 = 2 := by omega
        have fe12 : nv β 12 = 1 := by omega
        have fe13 : nv β 13 = 1 := by omega
        have fe15 : nv β 15 = 854 := by omega
        have fe17 : nv β 17 = 1 := by omega
        have fe19 : nv β 19 = 1 := by omega
        have fe21 : nv β 21 = 854 := by omega
        have fe23 : nv β 23 = 1 := by omega
        have fe25 : nv β 25 = 1 := by omega
        try simp only [fe0, fe4, fe5, fe8, fe11, fe12, fe13, fe15, fe17, fe19, fe21, fe23, fe25, Int.reduceToNat] at f2 f3 f4 f5
        have s0 : nv β 0 = nv α1 0 := nv_le H1.1 (by omega)
        have s1 : nv β 1 = nv α1 1 := nv_le H1.1 (by omega)
        have s2 : nv β 2 = nv α1 2 := nv_le H1.1 (by omega)
        have s3 : nv β 3 = nv α1 3 := nv_le H1.1 (by omega)
        obtain ⟨c0, c1, c2, c3, c4, c5, c6, c7, c8, c9, c10, c11, c12, c13, c14⟩ := f2
        obtain ⟨α', Ha, hm⟩ := hd_gpM (q := kh_hReach2_a39) (n := 0) (by decide +kernel) hx H1 (by decide +kernel) hxa hf
        have hfr := H1.2.2.2.2.2.2.2.2.2.2.1
        have m0 : nv α' 0 = nv β 0 := hm 0 0 rfl
        have m1 : nv α' 1 = nv β 1 := hm 1 1 rfl
        have m2 : nv α' 2 = nv β 25 := hm 2 25 rfl
        have m3 : nv α' 3 = nv β 26 := hm 3 26 rfl
        subst S'
        have d2 := fl1_b (by decide) c2
        simp only [wd_fl] at d2
        have d6 := fl1_b (by decide) c6
        simp only [wd_fl] at d6
        have d9 := c9
        simp only [wd_fl1, if_neg (show ¬ (wd_base 1013 = true) by decide)] at d9
        have d11 := fl1_b (by decide) c11
        simp only [wd_fl] at d11
        have d13 := fl1_b (by decide) c13
        simp only [wd_fl] at d13
        have oL := old_0 c12 rfl
        have oH := old_0 c10 rfl
        have ht : (((nv β 3).toNat : Nat) : Int) = nv β 3 := Int.toNat_of_nonneg (by omega)
        have e6 : S1.1 806 = S.1 806 := fr_row hf 806 (by decide +kernel)
        have hi1 : (nv β 16).toNat = (lowI ((nv β 3).toNat : Nat)).toNat := by rw [ht]; omega
        have hi2 : (nv β 22).toNat = (highI ((nv β 3).toNat : Nat)).toNat := by rw [ht]; omega
        have hopen := ((lead_e e6).mp (b2i_1 (d9.symm.trans (by omega))))
        have U := h_upd (L := fun t => leadsP S 2 t) (t := (nv β 3).toNat) (a := nv β 7) (b := nv β 10) (va := nv β 20) (vb := nv β 10) hp.1 (by omega) (by show (fun t => leadsP S 2 t) ((nv β 3).toNat); rw [ht]; exact hopen)
          (by rw [ht, ← d13]; exact oL) (by rw [ht, ← d11]; exact oH) (by omega) (by omega) (by omega) (by omega)
        have R : (fw_i (fw_i S1 854 (nv β 16).toNat (Int32.ofInt (nv β 20))) 854 (nv β 22).toNat (Int32.ofInt (nv β 10))).1 854 = rw_u (rw_u (S1.1 854) (lowI ((nv β 3).toNat : Nat)).toNat (nv β 20)) (highI ((nv β 3).toNat : Nat)).toNat (nv β 10) := by rw [fw_i_u, fw_i_u, hi1, hi2]
        have hb2 := sm_bd (n := 12) (fun j hj => rg_bd (q_rg_in (q := ((854, 854), (0, 11, 1), (0, 0, 99, 1))) (by decide +kernel) Ha) (j := j) (by omega))
        rw [R] at hb2
        refine ih.2.2.1 _ _ _ Ha ?_ ?_
        · exact ⟨by rw [R]; exact U.1, fun hg => by omega⟩
        · rw [R, m3, m2]; have := U.2; omega
      · have hst := st_nil H1 rfl
        subst hst
        obtain ⟨f1, f2, f3, f4, f5⟩ := as_fx H1
        simp only [kh_hReach2_b39_5, fx_env, fx_c, fx_ne, fx_hf, wl_S, Nat.zero_add, Nat.reduceAdd, Nat.reduceDiv, Nat.reduceMod, List.getElem?_cons_zero, List.getElem?_cons_succ, if_true, and_true, true_and] at f1 f2 f3 f4 f5
        have fe0 : nv β 0 = 805 := by omega
        have fe4 : nv β 4 = 17 := by omega
        have fe5 : nv β 5 = 854 := by omega
        have fe8 : nv β 8 = 854 := by omega
        have fe11 : nv β 11 = 2 := by omega
        have fe12 : nv β 12 = 1 := by omega
        have fe13 : nv β 13 = 1 := by omega
        have fe15 : nv β 15 = 854 := by omega
        have fe17 : nv β 17 = 1 := by omega
        have fe19 : nv β 19 = 1 := by omega
        have fe21 : nv β 21 = 854 := by omega
        have fe23 : nv β 23 = 1 := by omega
        have fe25 : nv β 25 = 1 := by omega
        have fe27 : nv β 27 = 1 := by omega
        try simp only [fe0, fe4, fe5, fe8, fe11, fe12, fe13, fe15, fe17, fe19, fe21, fe23, fe25, fe27, Int.reduceToNat] at f2 f3 f4 f5
        have s0 : nv β 0 = nv α1 0 := nv_le H1.1 (by omega)
        have s1 : nv β 1 = nv α1 1 := nv_le H1.1 (by omega)
        have s2 : nv β 2 = nv α1 2 := nv_le H1.1 (by omega)
        have s3 : nv β 3 = nv α1 3 := nv_le H1.1 (by omega)
        obtain ⟨c0, c1, c2, c3, c4, c5, c6, c7, c8, c9, c10, c11, c12, c13, c14, c15⟩ := f2
        obtain ⟨α', Ha, hm⟩ := hd_gpM (q := kh_hReach2_a39) (n := 0) (by decide +kernel) hx H1 (by decide +kernel) hxa hf
        have hfr := H1.2.2.2.2.2.2.2.2.2.2.1
        have m0 : nv α' 0 = nv β 0 := hm 0 0 rfl
        have m1 : nv α' 1 = nv β 1 := hm 1 1 rfl
        have m2 : nv α' 2 = nv β 27 := hm 2 27 rfl
        have m3 : nv α' 3 = nv β 28 := hm 3 28 rfl
        subst S'
        have d3 := fl1_b (by decide) c3
        simp only [wd_fl] at d3
        have d7 := fl1_b (by decide) c7
        simp only [wd_fl] at d7
        have d10 := c10
        simp only [wd_fl1, if_neg (show ¬ (wd_base 1013 = true) by decide)] at d10
        have d12 := fl1_b (by decide) c12
        simp only [wd_fl] at d12
        have d14 := fl1_b (by decide) c14
        simp only [wd_fl] at d14
        have oL := old_0 c13 rfl
        have oH := old_0 c11 rfl
        have ht : (((nv β 3).toNat : Nat) : Int) = nv β 3 := Int.toNat_of_nonneg (by omega)
        have e6 : S1.1 806 = S.1 806 := fr_row hf 806 (by decide +kernel)
        have hi1 : (nv β 16).toNat = (lowI ((nv β 3).toNat : Nat)).toNat := by rw [ht]; omega
        have hi2 : (nv β 22).toNat = (highI ((nv β 3).toNat : Nat)).toNat := by rw [ht]; omega
        have hopen := ((lead_e e6).mp (b2i_1 (d10.symm.trans (by omega))))
        have U := h_upd (L := fun t => leadsP S 2 t) (t := (nv β 3).toNat) (a := nv β 7) (b := nv β 10) (va := nv β 20) (vb := nv β 26) hp.1 (by omega) (by show (fun t => leadsP S 2 t) ((nv β 3).toNat); rw [ht]; exact hopen)
          (by rw [ht, ← d14]; exact oL) (by rw [ht, ← d12]; exact oH) (by omega) (by omega) (by omega) (by omega)
        have R : (fw_i (fw_i S1 854 (nv β 16).toNat (Int32.ofInt (nv β 20))) 854 (nv β 22).toNat (Int32.ofInt (nv β 26))).1 854 = rw_u (rw_u (S1.1 854) (lowI ((nv β 3).toNat : Nat)).toNat (nv β 20)) (highI ((nv β 3).toNat : Nat)).toNat (nv β 26) := by rw [fw_i_u, fw_i_u, hi1, hi2]
        have hb2 := sm_bd (n := 12) (fun j hj => rg_bd (q_rg_in (q := ((854, 854), (0, 11, 1), (0, 0, 99, 1))) (by decide +kernel) Ha) (j := j) (by omega))
        rw [R] at hb2
        refine ih.2.2.1 _ _ _ Ha ?_ ?_
        · exact ⟨by rw [R]; exact U.1, fun hg => by omega⟩
        · rw [R, m3, m2]; have := U.2; omega
      · have hst := st_nil H1 rfl
        subst hst
        obtain ⟨f1, f2, f3, f4, f5⟩ := as_fx H1
        simp only [kh_hReach2_b39_6, fx_env, fx_c, fx_ne, fx_hf, wl_S, Nat.zero_add, Nat.reduceAdd, Nat.reduceDiv, Nat.reduceMod, List.getElem?_cons_zero, List.getElem?_cons_succ, if_true, and_true, true_and] at f1 f2 f3 f4 f5
        have fe0 : nv β 0 = 805 := by omega
        have fe4 : nv β 4 = 17 := by omega
        have fe5 : nv β 5 = 854 := by omega
        have fe8 : nv β 8 = 854 := by omega
        have fe11 : nv β 11 = 2 := by omega
        have fe12 : nv β 12 = 1 := by omega
        have fe13 : nv β 13 = 1 := by omega
        have fe15 : nv β 15 = 1 := by omega
        try simp only [fe0, fe4, fe5, fe8, fe11, fe12, fe13, fe15, Int.reduceToNat] at f2 f3 f4 f5
        have s0 : nv β 0 = nv α1 0 := nv_le H1.1 (by omega)
        have s1 : nv β 1 = nv α1 1 := nv_le H1.1 (by omega)
        have s2 : nv β 2 = nv α1 2 := nv_le H1.1 (by omega)
        have s3 : nv β 3 = nv α1 3 := nv_le H1.1 (by omega)
        obtain ⟨c0, c1, c2, c3, c4, c5, c6, c7, c8, c9⟩ := f2
        obtain ⟨α', Ha, hm⟩ := hd_gpM (q := kh_hReach2_a39) (n := 0) (by decide +kernel) hx H1 (by decide +kernel) hxa hf
        have hfr := H1.2.2.2.2.2.2.2.2.2.2.1
        have m0 : nv α' 0 = nv β 0 := hm 0 0 rfl
        have m1 : nv α' 1 = nv β 1 := hm 1 1 rfl
        have m2 : nv α' 2 = nv β 2 := hm 2 2 rfl
        have m3 : nv α' 3 = nv β 17 := hm 3 17 rfl
        subst S'
        have d4 := c4
        simp only [wd_fl1, if_neg (show ¬ (wd_base 1013 = true) by decide)] at d4
        have d6 := fl1_b (by decide) c6
        simp only [wd_fl] at d6
        have d8 := fl1_b (by decide) c8
        simp only [wd_fl] at d8
        have oL := old_0 c7 rfl
        have oH := old_0 c5 rfl
        have ht : (((nv β 3).toNat : Nat) : Int) = nv β 3 := Int.toNat_of_nonneg (by omega)
        have e6 : S1.1 806 = S.1 806 := fr_row hf 806 (by decide +kernel)
        have hF : nv α' 2 = 0 → hFg (S1.1 854) (fun t => leadsP S 2 t) (nv β 3 + 1) := by
          intro hg t h1 h2 h3
          by_cases e : (t : Int) < nv α 3
          · exact hp.2 (by omega) t e h2 h3
          · have et : (t : Int) = nv β 3 := by omega
            have h3' :  leadsP S 2 t := h3
            rw [et] at h3' ⊢
            rw [← d8, ← d6, oL, oH]
            omega
        refine ih.2.2.1 _ _ _ Ha ?_ ?_
        · exact ⟨hp.1, fun hg => by rw [m3, show nv β 17 = nv β 3 + 1 by omega]; exact hF hg⟩
        · rw [m3, m2]; omega
      · have hst := st_nil H1 rfl
        subst hst
        obtain ⟨f1, f2, f3, f4, f5⟩ := as_fx H1
        simp only [kh_hReach2_b39_7, fx_env, fx_c, fx_ne, fx_hf, wl_S, Nat.zero_add, Nat.reduceAdd, Nat.reduceDiv, Nat.reduceMod, List.getElem?_cons_zero, List.getElem?_cons_succ, if_true, and_true, true_and] at f1 f2 f3 f4 f5
        have fe0 : nv β 0 = 805 := by omega
        have fe4 : nv β 4 = 17 := by omega
        have fe5 : nv β 5 = 854 := by omega
        have fe8 : nv β 8 = 854 := by omega
        have fe11 : nv β 11 = 2 := by omega
        have fe12 : nv β 12 = 1 := by omega
        have fe13 : nv β 13 = 1 := by omega
        have fe15 : nv β 15 = 1 := by omega
        have fe17 : nv β 17 = 854 := by omega
        have fe19 : nv β 19 = 1 := by omega
        have fe21 : nv β 21 = 854 := by omega
        have fe23 : nv β 23 = 1 := by omega
        have fe25 : nv β 25 = 1 := by omega
        try simp only [fe0, fe4, fe5, fe8, fe11, fe12, fe13, fe15, fe17, fe19, fe21, fe23, fe25, Int.reduceToNat] at f2 f3 f4 f5
        have s0 : nv β 0 = nv α1 0 := nv_le H1.1 (by omega)
        have s1 : nv β 1 = nv α1 1 := nv_le H1.1 (by omega)
        have s2 : nv β 2 = nv α1 2 := nv_le H1.1 (by omega)
        have s3 : nv β 3 = nv α1 3 := nv_le H1.1 (by omega)
        obtain ⟨c0, c1, c2, c3, c4, c5, c6, c7, c8, c9, c10, c11, c12, c13, c14, c15⟩ := f2
        obtain ⟨α', Ha, hm⟩ := hd_gpM (q := kh_hReach2_a39) (n := 0) (by decide +kernel) hx H1 (by decide +kernel) hxa hf
        have hfr := H1.2.2.2.2.2.2.2.2.2.2.1
        have m0 : nv α' 0 = nv β 0 := hm 0 0 rfl
        have m1 : nv α' 1 = nv β 1 := hm 1 1 rfl
        have m2 : nv α' 2 = nv β 25 := hm 2 25 rfl
        have m3 : nv α' 3 = nv β 26 := hm 3 26 rfl
        subst S'
        have d2 := fl1_b (by decide) c2
        simp only [wd_fl] at d2
        have d5 := fl1_b (by decide) c5
        simp only [wd_fl] at d5
        have d10 := c10
        simp only [wd_fl1, if_neg (show ¬ (wd_base 1013 = true) by decide)] at d10
        have d12 := fl1_b (by decide) c12
        simp only [wd_fl] at d12
        have d14 := fl1_b (by decide) c14
        simp only [wd_fl] at d14
        have oL := old_0 c13 rfl
        have oH := old_0 c11 rfl
        have ht : (((nv β 3).toNat : Nat) : Int) = nv β 3 := Int.toNat_of_nonneg (by omega)
        have e6 : S1.1 806 = S.1 806 := fr_row hf 806 (by decide +kernel)
        have hi1 : (nv β 18).toNat = (lowI ((nv β 3).toNat : Nat)).toNat := by rw [ht]; omega
        have hi2 : (nv β 22).toNat = (highI ((nv β 3).toNat : Nat)).toNat := by rw [ht]; omega
        have hopen := ((lead_e e6).mp (b2i_1 (d10.symm.trans (by omega))))
        have U := h_upd (L := fun t => leadsP S 2 t) (t := (nv β 3).toNat) (a := nv β 7) (b := nv β 10) (va := nv β 7) (vb := nv β 10) hp.1 (by omega) (by show (fun t => leadsP S 2 t) ((nv β 3).toNat); rw [ht]; exact hopen)
          (by rw [ht, ← d14]; exact oL) (by rw [ht, ← d12]; exact oH) (by omega) (by omega) (by omega) (by omega)
        have R : (fw_i (fw_i S1 854 (nv β 18).toNat (Int32.ofInt (nv β 7))) 854 (nv β 22).toNat (Int32.ofInt (nv β 10))).1 854 = rw_u (rw_u (S1.1 854) (lowI ((nv β 3).toNat : Nat)).toNat (nv β 7)) (highI ((nv β 3).toNat : Nat)).toNat (nv β 10) := by rw [fw_i_u, fw_i_u, hi1, hi2]
        have hb2 := sm_bd (n := 12) (fun j hj => rg_bd (q_rg_in (q := ((854, 854), (0, 11, 1), (0, 0, 99, 1))) (by decide +kernel) Ha) (j := j) (by omega))
        rw [R] at hb2
        refine ih.2.2.1 _ _ _ Ha ?_ ?_
        · exact ⟨by rw [R]; exact U.1, fun hg => by omega⟩
        · rw [R, m3, m2]; have := U.2; omega
      · have hst := st_nil H1 rfl
        subst hst
        obtain ⟨f1, f2, f3, f4, f5⟩ := as_fx H1
        simp only [kh_hReach2_b39_8, fx_env, fx_c, fx_ne, fx_hf, wl_S, Nat.zero_add, Nat.reduceAdd, Nat.reduceDiv, Nat.reduceMod, List.getElem?_cons_zero, List.getElem?_cons_succ, if_true, and_true, true_and] at f1 f2 f3 f4 f5
        have fe0 : nv β 0 = 805 := by omega
        have fe4 : nv β 4 = 17 := by omega
        have fe5 : nv β 5 = 854 := by omega
        have fe8 : nv β 8 = 854 := by omega
        have fe11 : nv β 11 = 2 := by omega
        have fe12 : nv β 12 = 1 := by omega
        have fe13 : nv β 13 = 1 := by omega
        have fe15 : nv β 15 = 1 := by omega
        have fe17 : nv β 17 = 854 := by omega
        have fe19 : nv β 19 = 1 := by omega
        have fe21 : nv β 21 = 854 := by omega
        have fe23 : nv β 23 = 1 := by omega
        have fe25 : nv β 25 = 1 := by omega
        have fe27 : nv β 27 = 1 := by omega
        try simp only [fe0, fe4, fe5, fe8, fe11, fe12, fe13, fe15, fe17, fe19, fe21, fe23, fe25, fe27, Int.reduceToNat] at f2 f3 f4 f5
        have s0 : nv β 0 = nv α1 0 := nv_le H1.1 (by omega)
        have s1 : nv β 1 = nv α1 1 := nv_le H1.1 (by omega)
        have s2 : nv β 2 = nv α1 2 := nv_le H1.1 (by omega)
        have s3 : nv β 3 = nv α1 3 := nv_le H1.1 (by omega)
        obtain ⟨c0, c1, c2, c3, c4, c5, c6, c7, c8, c9, c10, c11, c12, c13, c14, c15, c16⟩ := f2
        obtain ⟨α', Ha, hm⟩ := hd_gpM (q := kh_hReach2_a39) (n := 0) (by decide +kernel) hx H1 (by decide +kernel) hxa hf
        have hfr := H1.2.2.2.2.2.2.2.2.2.2.1
        have m0 : nv α' 0 = nv β 0 := hm 0 0 rfl
        have m1 : nv α' 1 = nv β 1 := hm 1 1 rfl
        have m2 : nv α' 2 = nv β 27 := hm 2 27 rfl
        have m3 : nv α' 3 = nv β 28 := hm 3 28 rfl
        subst S'
        have d3 := fl1_b (by decide) c3
        simp only [wd_fl] at d3
        have d6 := fl1_b (by decide) c6
        simp only [wd_fl] at d6
        have d11 := c11
        simp only [wd_fl1, if_neg (show ¬ (wd_base 1013 = true) by decide)] at d11
        have d13 := fl1_b (by decide) c13
        simp only [wd_fl] at d13
        have d15 := fl1_b (by decide) c15
        simp only [wd_fl] at d15
        have oL := old_0 c14 rfl
        have oH := old_0 c12 rfl
        have ht : (((nv β 3).toNat : Nat) : Int) = nv β 3 := Int.toNat_of_nonneg (by omega)
        have e6 : S1.1 806 = S.1 806 := fr_row hf 806 (by decide +kernel)
        have hi1 : (nv β 18).toNat = (lowI ((nv β 3).toNat : Nat)).toNat := by rw [ht]; omega
        have hi2 : (nv β 22).toNat = (highI ((nv β 3).toNat : Nat)).toNat := by rw [ht]; omega
        have hopen := ((lead_e e6).mp (b2i_1 (d11.symm.trans (by omega))))
        have U := h_upd (L := fun t => leadsP S 2 t) (t := (nv β 3).toNat) (a := nv β 7) (b := nv β 10) (va := nv β 7) (vb := nv β 26) hp.1 (by omega) (by show (fun t => leadsP S 2 t) ((nv β 3).toNat); rw [ht]; exact hopen)
          (by rw [ht, ← d15]; exact oL) (by rw [ht, ← d13]; exact oH) (by omega) (by omega) (by omega) (by omega)
        have R : (fw_i (fw_i S1 854 (nv β 18).toNat (Int32.ofInt (nv β 7))) 854 (nv β 22).toNat (Int32.ofInt (nv β 26))).1 854 = rw_u (rw_u (S1.1 854) (lowI ((nv β 3).toNat : Nat)).toNat (nv β 7)) (highI ((nv β 3).toNat : Nat)).toNat (nv β 26) := by rw [fw_i_u, fw_i_u, hi1, hi2]
        have hb2 := sm_bd (n := 12) (fun j hj => rg_bd (q_rg_in (q := ((854, 854), (0, 11, 1), (0, 0, 99, 1))) (by decide +kernel) Ha) (j := j) (by omega))
        rw [R] at hb2
        refine ih.2.2.1 _ _ _ Ha ?_ ?_
        · exact ⟨by rw [R]; exact U.1, fun hg => by omega⟩
        · rw [R, m3, m2]; have := U.2; omega
      · have hst := st_nil H1 rfl
        subst hst
        obtain ⟨f1, f2, f3, f4, f5⟩ := as_fx H1
        simp only [kh_hReach2_b39_9, fx_env, fx_c, fx_ne, fx_hf, wl_S, Nat.zero_add, Nat.reduceAdd, Nat.reduceDiv, Nat.reduceMod, List.getElem?_cons_zero, List.getElem?_cons_succ, if_true, and_true, true_and] at f1 f2 f3 f4 f5
        have fe0 : nv β 0 = 805 := by omega
        have fe4 : nv β 4 = 17 := by omega
        have fe5 : nv β 5 = 854 := by omega
        have fe8 : nv β 8 = 854 := by omega
        have fe11 : nv β 11 = 2 := by omega
        have fe12 : nv β 12 = 1 := by omega
        have fe13 : nv β 13 = 1 := by omega
        have fe15 : nv β 15 = 1 := by omega
        have fe17 : nv β 17 = 854 := by omega
        have fe19 : nv β 19 = 1 := by omega
        have fe21 : nv β 21 = 1 := by omega
        have fe23 : nv β 23 = 854 := by omega
        have fe25 : nv β 25 = 1 := by omega
        have fe27 : nv β 27 = 1 := by omega
        try simp only [fe0, fe4, fe5, fe8, fe11, fe12, fe13, fe15, fe17, fe19, fe21, fe23, fe25, fe27, Int.reduceToNat] at f2 f3 f4 f5
        have s0 : nv β 0 = nv α1 0 := nv_le H1.1 (by omega)
        have s1 : nv β 1 = nv α1 1 := nv_le H1.1 (by omega)
        have s2 : nv β 2 = nv α1 2 := nv_le H1.1 (by omega)
        have s3 : nv β 3 = nv α1 3 := nv_le H1.1 (by omega)
        obtain ⟨c0, c1, c2, c3, c4, c5, c6, c7, c8, c9, c10, c11, c12, c13, c14, c15, c16⟩ := f2
        obtain ⟨α', Ha, hm⟩ := hd_gpM (q := kh_hReach2_a39) (n := 0) (by decide +kernel) hx H1 (by decide +kernel) hxa hf
        have hfr := H1.2.2.2.2.2.2.2.2.2.2.1
        have m0 : nv α' 0 = nv β 0 := hm 0 0 rfl
        have m1 : nv α' 1 = nv β 1 := hm 1 1 rfl
        have m2 : nv α' 2 = nv β 27 := hm 2 27 rfl
        have m3 : nv α' 3 = nv β 28 := hm 3 28 rfl
        subst S'
        have d2 := fl1_b (by decide) c2
        simp only [wd_fl] at d2
        have d6 := fl1_b (by decide) c6
        simp only [wd_fl] at d6
        have d11 := c11
        simp only [wd_fl1, if_neg (show ¬ (wd_base 1013 = true) by decide)] at d11
        have d13 := fl1_b (by decide) c13
        simp only [wd_fl] at d13
        have d15 := fl1_b (by decide) c15
        simp only [wd_fl] at d15
        have oL := old_0 c14 rfl
        have oH := old_0 c12 rfl
        have ht : (((nv β 3).toNat : Nat) : Int) = nv β 3 := Int.toNat_of_nonneg (by omega)
        have e6 : S1.1 806 = S.1 806 := fr_row hf 806 (by decide +kernel)
        have hi1 : (nv β 18).toNat = (lowI ((nv β 3).toNat : Nat)).toNat := by rw [ht]; omega
        have hi2 : (nv β 24).toNat = (highI ((nv β 3).toNat : Nat)).toNat := by rw [ht]; omega
        have hopen := ((lead_e e6).mp (b2i_1 (d11.symm.trans (by omega))))
        have U := h_upd (L := fun t => leadsP S 2 t) (t := (nv β 3).toNat) (a := nv β 7) (b := nv β 10) (va := nv β 22) (vb := nv β 10) hp.1 (by omega) (by show (fun t => leadsP S 2 t) ((nv β 3).toNat); rw [ht]; exact hopen)
          (by rw [ht, ← d15]; exact oL) (by rw [ht, ← d13]; exact oH) (by omega) (by omega) (by omega) (by omega)
        have R : (fw_i (fw_i S1 854 (nv β 18).toNat (Int32.ofInt (nv β 22))) 854 (nv β 24).toNat (Int32.ofInt (nv β 10))).1 854 = rw_u (rw_u (S1.1 854) (lowI ((nv β 3).toNat : Nat)).toNat (nv β 22)) (highI ((nv β 3).toNat : Nat)).toNat (nv β 10) := by rw [fw_i_u, fw_i_u, hi1, hi2]
        have hb2 := sm_bd (n := 12) (fun j hj => rg_bd (q_rg_in (q := ((854, 854), (0, 11, 1), (0, 0, 99, 1))) (by decide +kernel) Ha) (j := j) (by omega))
        rw [R] at hb2
        refine ih.2.2.1 _ _ _ Ha ?_ ?_
        · exact ⟨by rw [R]; exact U.1, fun hg => by omega⟩
        · rw [R, m3, m2]; have := U.2; omega
      · have hst := st_nil H1 rfl
        subst hst
        obtain ⟨f1, f2, f3, f4, f5⟩ := as_fx H1
        simp only [kh_hReach2_b39_10, fx_env, fx_c, fx_ne, fx_hf, wl_S, Nat.zero_add, Nat.reduceAdd, Nat.reduceDiv, Nat.reduceMod, List.getElem?_cons_zero, List.getElem?_cons_succ, if_true, and_true, true_and] at f1 f2 f3 f4 f5
        have fe0 : nv β 0 = 805 := by omega
        have fe4 : nv β 4 = 17 := by omega
        have fe5 : nv β 5 = 854 := by omega
        have fe8 : nv β 8 = 854 := by omega
        have fe11 : nv β 11 = 2 := by omega
        have fe12 : nv β 12 = 1 := by omega
        have fe13 : nv β 13 = 1 := by omega
        have fe15 : nv β 15 = 1 := by omega
        have fe17 : nv β 17 = 854 := by omega
        have fe19 : nv β 19 = 1 := by omega
        have fe21 : nv β 21 = 1 := by omega
        have fe23 : nv β 23 = 854 := by omega
        have fe25 : nv β 25 = 1 := by omega
        have fe27 : nv β 27 = 1 := by omega
        have fe29 : nv β 29 = 1 := by omega
        try simp only [fe0, fe4, fe5, fe8, fe11, fe12, fe13, fe15, fe17, fe19, fe21, fe23, fe25, fe27, fe29, Int.reduceToNat] at f2 f3 f4 f5
        have s0 : nv β 0 = nv α1 0 := nv_le H1.1 (by omega)
        have s1 : nv β 1 = nv α1 1 := nv_le H1.1 (by omega)
        have s2 : nv β 2 = nv α1 2 := nv_le H1.1 (by omega)
        have s3 : nv β 3 = nv α1 3 := nv_le H1.1 (by omega)
        obtain ⟨c0, c1, c2, c3, c4, c5, c6, c7, c8, c9, c10, c11, c12, c13, c14, c15, c16, c17⟩ := f2
        obtain ⟨α', Ha, hm⟩ := hd_gpM (q := kh_hReach2_a39) (n := 0) (by decide +kernel) hx H1 (by decide +kernel) hxa hf
        have hfr := H1.2.2.2.2.2.2.2.2.2.2.1
        have m0 : nv α' 0 = nv β 0 := hm 0 0 rfl
        have m1 : nv α' 1 = nv β 1 := hm 1 1 rfl
        have m2 : nv α' 2 = nv β 29 := hm 2 29 rfl
        have m3 : nv α' 3 = nv β 30 := hm 3 30 rfl
        subst S'
        have d3 := fl1_b (by decide) c3
        simp only [wd_fl] at d3
        have d7 := fl1_b (by decide) c7
        simp only [wd_fl] at d7
        have d12 := c12
        simp only [wd_fl1, if_neg (show ¬ (wd_base 1013 = true) by decide)] at d12
        have d14 := fl1_b (by decide) c14
        simp only [wd_fl] at d14
        have d16 := fl1_b (by decide) c16
        simp only [wd_fl] at d16
        have oL := old_0 c15 rfl
        have oH := old_0 c13 rfl
        have ht : (((nv β 3).toNat : Nat) : Int) = nv β 3 := Int.toNat_of_nonneg (by omega)
        have e6 : S1.1 806 = S.1 806 := fr_row hf 806 (by decide +kernel)
        have hi1 : (nv β 18).toNat = (lowI ((nv β 3).toNat : Nat)).toNat := by rw [ht]; omega
        have hi2 : (nv β 24).toNat = (highI ((nv β 3).toNat : Nat)).toNat := by rw [ht]; omega
        have hopen := ((lead_e e6).mp (b2i_1 (d12.symm.trans (by omega))))
        have U := h_upd (L := fun t => leadsP S 2 t) (t := (nv β 3).toNat) (a := nv β 7) (b := nv β 10) (va := nv β 22) (vb := nv β 28) hp.1 (by omega) (by show (fun t => leadsP S 2 t) ((nv β 3).toNat); rw [ht]; exact hopen)
          (by rw [ht, ← d16]; exact oL) (by rw [ht, ← d14]; exact oH) (by omega) (by omega) (by omega) (by omega)
        have R : (fw_i (fw_i S1 854 (nv β 18).toNat (Int32.ofInt (nv β 22))) 854 (nv β 24).toNat (Int32.ofInt (nv β 28))).1 854 = rw_u (rw_u (S1.1 854) (lowI ((nv β 3).toNat : Nat)).toNat (nv β 22)) (highI ((nv β 3).toNat : Nat)).toNat (nv β 28) := by rw [fw_i_u, fw_i_u, hi1, hi2]
        have hb2 := sm_bd (n := 12) (fun j hj => rg_bd (q_rg_in (q := ((854, 854), (0, 11, 1), (0, 0, 99, 1))) (by decide +kernel) Ha) (j := j) (by omega))
        rw [R] at hb2
        refine ih.2.2.1 _ _ _ Ha ?_ ?_
        · exact ⟨by rw [R]; exact U.1, fun hg => by omega⟩
        · rw [R, m3, m2]; have := U.2; omega
  obtain ⟨α1, hle, Hr⟩ := as_recM (pl := []) [] (by decide +kernel) H0
  have hf := H0.2.2.2.2.2.2.2.2.2.2.1
  have hl1 : α1.length = 2 := by rw [Hr.2.1.1]; rfl
  have hl0 : xs.length = 2 := by rw [H0.2.1.1]; rfl
  have hxa : al_le xs α1 := H0.1.trans hle
  obtain ⟨g1, -, g3, g4, -⟩ := as_fx Hr
  have g0 : (805 ≤ nv α1 0 ∧ nv α1 0 ≤ 805) ∧ (0 ≤ nv α1 1 ∧ nv α1 1 ≤ 11) ∧ True := by
    refine ⟨by have h := (en_nv (i := 0) Hr.2.1 rfl).2; exact h, by have h := (en_nv (i := 1) Hr.2.1 rfl).2; exact h, trivial⟩
  have r0 : nv α1 0 = nv xs 0 := nv_le hle (by omega)
  have r1 : nv α1 1 = nv xs 1 := nv_le hle (by omega)
  refine hd_segM G (na := 2) (fuel := 600) (first := true) (Bs := [kh_hReach2_b0_0]) (by decide +kernel) hl1 Hr ?_
  intro q hq β lv' st' S' H1
  simp only [List.mem_cons, List.not_mem_nil, or_false] at hq
  rcases hq with rfl
  · have hst := st_nil H1 rfl
    subst hst
    obtain ⟨f1, f2, f3, f4, f5⟩ := as_fx H1
    simp only [kh_hReach2_b0_0, fx_env, fx_c, fx_ne, fx_hf, wl_S, Nat.zero_add, Nat.reduceAdd, Nat.reduceDiv, Nat.reduceMod, List.getElem?_cons_zero, List.getElem?_cons_succ, if_true, and_true, true_and] at f1 f2 f3 f4 f5
    have fe0 : nv β 0 = 805 := by omega
    have fe2 : nv β 2 = 0 := by omega
    try simp only [fe0, fe2, Int.reduceToNat] at f2 f3 f4 f5
    have s0 : nv β 0 = nv α1 0 := nv_le H1.1 (by omega)
    have s1 : nv β 1 = nv α1 1 := nv_le H1.1 (by omega)
    obtain ⟨α', Ha, hm⟩ := hd_gpM (q := kh_hReach2_a2) (n := 0) (by decide +kernel) hx H1 (by decide +kernel) hxa hf
    have hfr := H1.2.2.2.2.2.2.2.2.2.2.1
    have m0 : nv α' 0 = nv β 0 := hm 0 0 rfl
    have m1 : nv α' 1 = nv β 1 := hm 1 1 rfl
    have m2 : nv α' 2 = nv β 2 := hm 2 2 rfl
    subst S'
    refine (hP _).1 _ _ _ Ha ?_ (Nat.lt_succ_self _)
    · intro j hj _; rw [m2] at hj; omega)
