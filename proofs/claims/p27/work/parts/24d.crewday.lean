/-! ===== the class: what the crews do in a day ===== -/
/- UtilityWorks$Grid openStreets -/
def kh_997 : ct_T := (14, [(2, 8, 8, 1), (2, 2, 2, 1)], [], [], [(0, (0, 0, 0, 0), [(2, 8, 8, 1), (2, 2, 2, 1)], [], ([], []))], [((3, 3), (0, 16, 1))], 0, 0, 0)
theorem kh_997_ok : ct_ok wd_fl2 kh_997 := ct_of (ff := wd_ff2) (y := (⟨"UtilityWorks$Grid", "openStreets", "(LUtilityWorks$Ways;)V"⟩, prog_5_method_21_code, 3, none, 3, 1, 1, 23195, 23193, 23194, 21004)) (Cs := []) (an := [(2, 0, ([((2, 8, 8, 1), none), ((2, 2, 2, 1), none), ((0, 0, 17, 1), none)], [(0, 0), (1, 1), (2, 2)], [], [], [], [], [], [], none), [(0, 0, 99998), (1, 2, 17), (0, 0, 99998)])]) (ss := []) (K := 3) (fuel := 4000) wd_fl2_ok rfl (List.forall_mem_nil _) (by decide +kernel)
/- UtilityWorks$Books spend -/
def kh_998 : ct_T := (109, [(2, 209, 209, 1), (0, 200, 200, 0)], [], [], [(0, (0, 0, 0, 0), [(2, 209, 209, 1), (0, 200, 200, 0)], [], ([], []))], [((214, 214), (0, 0, 0)), ((214, 214), (6, 6, 0))], 0, 0, 0)
theorem kh_998_ok : ct_ok wd_fl2 kh_998 := ct_of (ff := wd_ff2) (y := (⟨"UtilityWorks$Books", "spend", "(I)V"⟩, prog_2_method_4_code, 2, none, 0, 1, 1, 26027, 26025, 26026, 21010)) (Cs := []) (an := []) (ss := []) (K := 1) (fuel := 4000) wd_fl2_ok rfl (List.forall_mem_nil _) (by decide +kernel)
/- UtilityWorks$Books spend -/
def kh_999 : ct_T := (109, [(2, 209, 209, 1), (0, 500, 500, 0)], [], [], [(0, (0, 0, 0, 0), [(2, 209, 209, 1), (0, 500, 500, 0)], [], ([], []))], [((214, 214), (0, 0, 0)), ((214, 214), (6, 6, 0))], 0, 0, 0)
theorem kh_999_ok : ct_ok wd_fl2 kh_999 := ct_of (ff := wd_ff2) (y := (⟨"UtilityWorks$Books", "spend", "(I)V"⟩, prog_2_method_4_code, 2, none, 0, 1, 1, 26027, 26025, 26026, 21010)) (Cs := []) (an := []) (ss := []) (K := 1) (fuel := 4000) wd_fl2_ok rfl (List.forall_mem_nil _) (by decide +kernel)
/- UtilityWorks$Books spend -/
def kh_1000 : ct_T := (109, [(2, 209, 209, 1), (0, 100, 100, 0)], [], [], [(0, (0, 0, 0, 0), [(2, 209, 209, 1), (0, 100, 100, 0)], [], ([], []))], [((214, 214), (0, 0, 0)), ((214, 214), (6, 6, 0))], 0, 0, 0)
theorem kh_1000_ok : ct_ok wd_fl2 kh_1000 := ct_of (ff := wd_ff2) (y := (⟨"UtilityWorks$Books", "spend", "(I)V"⟩, prog_2_method_4_code, 2, none, 0, 1, 1, 26027, 26025, 26026, 21010)) (Cs := []) (an := []) (ss := []) (K := 1) (fuel := 4000) wd_fl2_ok rfl (List.forall_mem_nil _) (by decide +kernel)
abbrev kh_crewsGoBy_y : mt_T := (⟨"UtilityWorks$Crews", "goBy", "(LUtilityWorks$Town;)V"⟩, prog_3_method_12_code, 6, none, 1, 1, 1, 26100, 26098, 26099, 21011)
def kh_crewsGoBy : ct_T := (123, [(2, 572, 572, 1), (2, 1, 1, 1)], [], [520, 521, 522], [(0, (0, 0, 0, 0), [(2, 572, 572, 1), (2, 1, 1, 1)], [], ([520, 521, 522], []))], [((2, 2), (4, 4, 0)), ((3, 3), (0, 16, 1)), ((4, 4), (0, 11, 1)), ((5, 5), (0, 11, 1)), ((6, 6), (0, 11, 1)), ((7, 7), (0, 10, 1)), ((10, 60), (0, 0, 0)), ((10, 60), (1, 1, 0)), ((10, 60), (2, 2, 0)), ((10, 60), (3, 3, 0)), ((62, 78), (3, 3, 0)), ((62, 78), (6, 6, 0)), ((167, 176), (2, 2, 0)), ((167, 176), (12, 12, 0)), ((179, 208), (3, 13, 1)), ((209, 209), (2, 2, 0)), ((214, 214), (0, 0, 0)), ((214, 214), (6, 6, 0)), ((574, 577), (0, 0, 0)), ((574, 577), (3, 3, 0)), ((574, 577), (4, 4, 0)), ((574, 577), (6, 6, 0)), ((579, 778), (4, 4, 0)), ((579, 778), (5, 5, 0)), ((781, 784), (0, 0, 0)), ((781, 784), (4, 4, 0))], 6, 147, 0)
def kh_crewsGoBy_a2 : an_T := (2, 0, ([((2, 572, 572, 1), none), ((2, 1, 1, 1), none), ((0, 0, 4, 1), none)], [(0, 0), (1, 1), (2, 2)], [], [], [], [], [], [520, 521, 522], none), [])
def kh_crewsGoBy_a62 : an_T := (62, 0, ([((2, 572, 572, 1), none), ((2, 1, 1, 1), none), ((0, 0, 3, 1), none), ((2, 574, 577, 1), none), ((0, 1, 1, 0), none), ((0, 0, 3, 1), none)], [(0, 0), (1, 1), (2, 2), (3, 3), (4, 4)], [5, 0], [], [], [], [], [520, 521, 522], none), [])
def kh_crewsGoBy_a65 : an_T := (65, 0, ([((2, 572, 572, 1), none), ((2, 1, 1, 1), none), ((0, 0, 3, 1), none), ((2, 574, 577, 1), none), ((0, 0, 1, 1), none)], [(0, 0), (1, 1), (2, 2), (3, 3), (4, 4)], [], [], [], [], [], [520, 521, 522], none), [])
def kh_crewsGoBy_a92 : an_T := (92, 0, ([((2, 572, 572, 1), none), ((2, 1, 1, 1), none), ((0, 0, 3, 1), none), ((2, 574, 577, 1), none), ((0, 0, 1, 1), none), ((0, 99, 99, 0), none), ((2, 96, 96, 1), none), ((0, 0, 11, 1), none), ((2, 2, 2, 1), none)], [(0, 0), (1, 1), (2, 2), (3, 3), (4, 4)], [5, 6, 7, 8], [], [], [], [], [520, 521, 522], none), [])
def kh_crewsGoBy_a95 : an_T := (95, 0, ([((2, 572, 572, 1), none), ((2, 1, 1, 1), none), ((0, 0, 3, 1), none), ((2, 574, 577, 1), none), ((0, 0, 1, 1), none)], [(0, 0), (1, 1), (2, 2), (3, 3), (4, 4)], [], [], [], [], [], [520, 521, 522, 601], none), [])
def kh_crewsGoBy_a107 : an_T := (107, 0, ([((2, 572, 572, 1), none), ((2, 1, 1, 1), none), ((0, 0, 3, 1), none), ((2, 574, 577, 1), none), ((0, 0, 1, 1), none), ((0, 0, 3, 1), none), ((0, 0, 3, 1), none)], [(0, 0), (1, 1), (2, 2), (3, 3), (4, 4)], [5, 1, 0, 6, 0], [], [], [], [], [520, 521, 522, 601], none), [])
def kh_crewsGoBy_a110 : an_T := (110, 0, ([((2, 572, 572, 1), none), ((2, 1, 1, 1), none), ((0, 0, 3, 1), none), ((2, 574, 577, 1), none), ((0, 0, 1, 1), none), ((0, (-1), 199, 1), none), ((0, 0, 3, 1), none)], [(0, 0), (1, 1), (2, 2), (3, 3), (4, 4)], [5, 6, 0], [], [], [], [], [520, 521, 522, 601], none), [])
def kh_crewsGoBy_a113 : an_T := (113, 0, ([((2, 572, 572, 1), none), ((2, 1, 1, 1), none), ((0, 0, 3, 1), none), ((2, 574, 577, 1), none), ((0, 0, 1, 1), none)], [(0, 0), (1, 1), (2, 2), (3, 3), (4, 4)], [], [], [], [], [], [520, 521, 522, 601], none), [])
def kh_crewsGoBy_a135 : an_T := (135, 0, ([((2, 572, 572, 1), none), ((2, 1, 1, 1), none), ((0, 0, 3, 1), none), ((2, 574, 577, 1), none), ((0, 0, 1, 1), none), ((0, 0, 3, 1), none)], [(0, 0), (1, 1), (2, 2), (3, 3), (4, 4)], [5, 1, 0], [], [], [], [], [520, 521, 522, 601], none), [])
def kh_crewsGoBy_a138 : an_T := (138, 0, ([((2, 572, 572, 1), none), ((2, 1, 1, 1), none), ((0, 0, 3, 1), none), ((2, 574, 577, 1), none), ((0, 0, 1, 1), none)], [(0, 0), (1, 1), (2, 2), (3, 3), (4, 4)], [], [], [], [], [], [520, 521, 522], none), [])
def kh_crewsGoBy_b0_0 : sg_T := (2, 0, ([((2, 572, 572, 1), none), ((2, 1, 1, 1), none), ((0, 0, 0, 0), none)], [(2, 2), (0, 0), (1, 1)], [], [], [], [], [], [520, 521, 522], some []))
def kh_crewsGoBy_b2_0 : sg_T := (196, 0, ([((2, 572, 572, 1), none), ((2, 1, 1, 1), none), ((0, 2, 4, 1), none), ((0, 0, 0, 0), none), ((0, 2, 4, 1), none)], [(0, 0), (1, 1), (2, 2)], [], [(0, 3, 4)], [], [(200000, 4, 2), (800004, 0, 3)], [], [520, 521, 522], some []))
def kh_crewsGoBy_b2_1 : sg_T := (65, 0, ([((2, 572, 572, 1), none), ((2, 1, 1, 1), none), ((0, 0, 3, 1), none), ((0, 0, 0, 0), none), ((0, 2, 4, 1), none), ((2, 573, 573, 1), none), ((2, 574, 577, 1), none), ((0, 3, 3, 0), none), ((0, (-1), (-1), 1), none), ((0, (-1), (-1), 0), none), ((0, 0, 0, 0), none)], [(4, 10), (3, 6), (0, 0), (1, 1), (2, 2)], [], [(6, 7, 8), (5, 2, 6), (0, 3, 4)], [], [(300000, 8, 9), (800008, 6, 7), (100000, 2, 4), (800004, 0, 3)], [], [520, 521, 522], some []))
def kh_crewsGoBy_b2_2 : sg_T := (65, 0, ([((2, 572, 572, 1), none), ((2, 1, 1, 1), none), ((0, 0, 3, 1), none), ((0, 0, 0, 0), none), ((0, 2, 4, 1), none), ((2, 573, 573, 1), none), ((2, 574, 577, 1), none), ((0, 3, 3, 0), none), ((0, 0, 199, 1), none), ((0, (-1), (-1), 0), none), ((0, 1, 1, 0), none), ((2, 794, 794, 1), none), ((0, 5, 5, 0), none), ((0, 0, 0, 1), none)], [(4, 10), (3, 6), (0, 0), (1, 1), (2, 2)], [], [(11, 12, 13), (6, 7, 8), (5, 2, 6), (0, 3, 4)], [(10, 0), (8, (-1))], [(800013, 11, 12), (400000, 8, 9), (800008, 6, 7), (100000, 2, 4), (800004, 0, 3)], [], [520, 521, 522], some []))
def kh_crewsGoBy_b2_3 : sg_T := (65, 0, ([((2, 572, 572, 1), none), ((2, 1, 1, 1), none), ((0, 0, 3, 1), none), ((0, 0, 0, 0), none), ((0, 2, 4, 1), none), ((2, 573, 573, 1), none), ((2, 574, 577, 1), none), ((0, 3, 3, 0), none), ((0, 0, 199, 1), none), ((0, (-1), (-1), 0), none), ((0, 1, 1, 0), none), ((2, 794, 794, 1), none), ((0, 5, 5, 0), none), ((0, 1, 1, 1), none), ((2, 578, 578, 1), none), ((0, 3, 3, 0), none), ((2, 579, 778, 1), none), ((0, 0, 0, 0), none), ((0, 2, 2, 1), none), ((0, 2, 2, 0), none)], [(4, 10), (3, 6), (0, 0), (1, 1), (2, 2)], [], [(16, 17, 18), (14, 8, 16), (11, 12, 13), (6, 7, 8), (5, 2, 6), (0, 3, 4)], [(13, 0), (10, 0), (8, (-1))], [(300000, 18, 19), (800018, 16, 17), (800013, 11, 12), (400000, 8, 9), (800008, 6, 7), (100000, 2, 4), (800004, 0, 3)], [], [520, 521, 522], some []))
def kh_crewsGoBy_b2_4 : sg_T := (62, 0, ([((2, 572, 572, 1), none), ((2, 1, 1, 1), none), ((0, 0, 3, 1), none), ((0, 0, 0, 0), none), ((0, 2, 4, 1), none), ((2, 573, 573, 1), none), ((2, 574, 577, 1), none), ((0, 3, 3, 0), none), ((0, 0, 199, 1), none), ((0, (-1), (-1), 0), none), ((0, 1, 1, 0), none), ((2, 794, 794, 1), none), ((0, 5, 5, 0), none), ((0, 1, 1, 1), none), ((2, 578, 578, 1), none), ((0, 3, 3, 0), none), ((2, 579, 778, 1), none), ((0, 0, 0, 0), none), ((0, 0, 6, 1), none), ((0, 2, 2, 0), none)], [(4, 10), (3, 6), (0, 0), (1, 1), (2, 2)], [2, 0], [(16, 17, 18), (14, 8, 16), (11, 12, 13), (6, 7, 8), (5, 2, 6), (0, 3, 4)], [(18, 2), (13, 0), (10, 0), (8, (-1))], [(400000, 18, 19), (800018, 16, 17), (800013, 11, 12), (400000, 8, 9), (800008, 6, 7), (100000, 2, 4), (800004, 0, 3)], [], [520, 521, 522], some []))
def kh_crewsGoBy_b62_0 : sg_T := (65, 0, ([((2, 572, 572, 1), none), ((2, 1, 1, 1), none), ((0, 0, 3, 1), none), ((2, 574, 577, 1), none), ((0, 1, 1, 0), none), ((0, 0, 3, 1), none)], [(0, 0), (1, 1), (2, 2), (3, 3), (4, 4)], [], [], [], [], [], [521, 520, 522], none))
def kh_crewsGoBy_b65_0 : sg_T := (92, 0, ([((2, 572, 572, 1), none), ((2, 1, 1, 1), none), ((0, 0, 3, 1), none), ((2, 574, 577, 1), none), ((0, 0, 1, 1), none), ((2, 8, 8, 1), none), ((2, 2, 2, 1), none), ((2, 2, 2, 1), none), ((0, 0, 0, 0), none), ((0, 0, 11, 1), none), ((2, 8, 8, 1), none), ((2, 96, 96, 1), none), ((0, 99, 99, 0), none)], [(0, 0), (1, 1), (2, 2), (3, 3), (4, 4)], [12, 11, 9, 7], [(3, 8, 9)], [], [], [], [520, 521, 522], none))
def kh_crewsGoBy_b92_0 : sg_T := (95, 0, ([((2, 572, 572, 1), none), ((2, 1, 1, 1), none), ((0, 0, 3, 1), none), ((2, 574, 577, 1), none), ((0, 0, 1, 1), none), ((0, 99, 99, 0), none), ((2, 96, 96, 1), none), ((0, 0, 11, 1), none), ((2, 2, 2, 1), none)], [(0, 0), (1, 1), (2, 2), (3, 3), (4, 4)], [], [], [], [], [], [601, 520, 521, 522], none))
def kh_crewsGoBy_b95_0 : sg_T := (113, 0, ([((2, 572, 572, 1), none), ((2, 1, 1, 1), none), ((0, 0, 3, 1), none), ((2, 574, 577, 1), none), ((0, 0, 1, 1), none), ((0, 3, 3, 0), none), ((0, 0, 199, 1), none), ((0, (-1), (-1), 0), none)], [(0, 0), (1, 1), (2, 2), (3, 3), (4, 4)], [], [(3, 5, 6)], [(6, (-1))], [(400000, 6, 7), (800006, 3, 5)], [], [520, 521, 522, 601], some []))
def kh_crewsGoBy_b95_1 : sg_T := (107, 0, ([((2, 572, 572, 1), none), ((2, 1, 1, 1), none), ((0, 0, 3, 1), none), ((2, 574, 577, 1), none), ((0, 0, 1, 1), none), ((0, 3, 3, 0), none), ((0, (-1), (-1), 1), none), ((0, (-1), (-1), 0), none)], [(0, 0), (1, 1), (2, 2), (3, 3), (4, 4)], [2, 1, 0, 2, 0], [(3, 5, 6)], [], [(300000, 6, 7), (800006, 3, 5)], [], [520, 521, 522, 601], some []))
def kh_crewsGoBy_b107_0 : sg_T := (110, 0, ([((2, 572, 572, 1), none), ((2, 1, 1, 1), none), ((0, 0, 3, 1), none), ((2, 574, 577, 1), none), ((0, 0, 1, 1), none), ((0, 0, 3, 1), none), ((0, 0, 3, 1), none), ((0, (-1), 199, 1), none)], [(0, 0), (1, 1), (2, 2), (3, 3), (4, 4)], [7, 6, 0], [], [], [], [], [520, 521, 522, 601], some []))
def kh_crewsGoBy_b110_0 : sg_T := (113, 0, ([((2, 572, 572, 1), none), ((2, 1, 1, 1), none), ((0, 0, 3, 1), none), ((2, 574, 577, 1), none), ((0, 0, 1, 1), none), ((0, (-1), 199, 1), none), ((0, 0, 3, 1), none)], [(0, 0), (1, 1), (2, 2), (3, 3), (4, 4)], [], [], [], [], [], [521, 520, 522, 601], none))
def kh_crewsGoBy_b113_0 : sg_T := (135, 0, ([((2, 572, 572, 1), none), ((2, 1, 1, 1), none), ((0, 0, 3, 1), none), ((2, 574, 577, 1), none), ((0, 1, 1, 1), none), ((0, 1, 1, 0), none)], [(4, 5), (0, 0), (1, 1), (2, 2), (3, 3)], [2, 1, 0], [], [(4, 0)], [], [], [520, 521, 522, 601], some []))
def kh_crewsGoBy_b113_1 : sg_T := (135, 0, ([((2, 572, 572, 1), none), ((2, 1, 1, 1), none), ((0, 0, 3, 1), none), ((2, 574, 577, 1), none), ((0, 0, 0, 1), none), ((0, 3, 3, 0), none), ((0, (-1), (-1), 1), none), ((0, (-1), (-1), 0), none), ((0, 0, 0, 0), none)], [(4, 8), (0, 0), (1, 1), (2, 2), (3, 3)], [2, 1, 0], [(3, 5, 6)], [], [(300000, 6, 7), (800006, 3, 5)], [], [520, 521, 522, 601], some []))
def kh_crewsGoBy_b113_2 : sg_T := (135, 0, ([((2, 572, 572, 1), none), ((2, 1, 1, 1), none), ((0, 0, 3, 1), none), ((2, 574, 577, 1), none), ((0, 0, 0, 1), none), ((0, 3, 3, 0), none), ((0, 0, 199, 1), none), ((0, (-1), (-1), 0), none), ((0, 1, 1, 0), none)], [(4, 8), (0, 0), (1, 1), (2, 2), (3, 3)], [2, 1, 0], [(3, 5, 6)], [(6, (-1))], [(400000, 6, 7), (800006, 3, 5)], [], [520, 521, 522, 601], some []))
def kh_crewsGoBy_b135_0 : sg_T := (138, 0, ([((2, 572, 572, 1), none), ((2, 1, 1, 1), none), ((0, 0, 3, 1), none), ((2, 574, 577, 1), none), ((0, 0, 1, 1), none), ((0, 0, 3, 1), none)], [(0, 0), (1, 1), (2, 2), (3, 3), (4, 4)], [], [], [], [], [], [520, 521, 522, 520], none))
def kh_crewsGoBy_b138_0 : sg_T := (2, 0, ([((2, 572, 572, 1), none), ((2, 1, 1, 1), none), ((0, 0, 3, 1), none), ((2, 574, 577, 1), none), ((0, 1, 1, 1), none), ((0, 5, 5, 0), none), ((0, 0, 0, 1), none), ((0, 1, 1, 0), none), ((0, 200, 200, 0), none), ((2, 209, 209, 1), none), ((2, 209, 209, 1), none), ((0, 2, 2, 0), none), ((1, (-9223372036854775808), 9223372036854775807, 1), none), ((1, 200, 200, 0), none), ((1, (-9223372036854775808), 9223372036854775807, 1), none), ((0, 2, 2, 0), none), ((0, 1, 4, 1), some (2, 1))], [(2, 16), (5, 8), (0, 0), (1, 1), (3, 3), (4, 4)], [], [(3, 5, 6)], [(6, 1), (4, 0)], [(400000, 6, 7), (800006, 3, 5)], [], [520, 521, 522], none))
def kh_crewsGoBy_b138_1 : sg_T := (2, 0, ([((2, 572, 572, 1), none), ((2, 1, 1, 1), none), ((0, 0, 3, 1), none), ((2, 574, 577, 1), none), ((0, 1, 1, 1), none), ((0, 5, 5, 0), none), ((0, 1, 1, 1), none), ((0, 1, 1, 0), none), ((0, 500, 500, 0), none), ((2, 209, 209, 1), none), ((2, 209, 209, 1), none), ((0, 2, 2, 0), none), ((1, (-9223372036854775808), 9223372036854775807, 1), none), ((1, 500, 500, 0), none), ((1, (-9223372036854775808), 9223372036854775807, 1), none), ((0, 2, 2, 0), none), ((0, 1, 4, 1), some (2, 1))], [(2, 16), (5, 8), (0, 0), (1, 1), (3, 3), (4, 4)], [], [(3, 5, 6)], [(4, 0)], [(300000, 6, 7), (800006, 3, 5)], [], [520, 521, 522], none))
def kh_crewsGoBy_b138_2 : sg_T := (2, 0, ([((2, 572, 572, 1), none), ((2, 1, 1, 1), none), ((0, 0, 3, 1), none), ((2, 574, 577, 1), none), ((0, 0, 0, 1), none), ((0, 100, 100, 0), none), ((2, 209, 209, 1), none), ((2, 209, 209, 1), none), ((0, 2, 2, 0), none), ((1, (-9223372036854775808), 9223372036854775807, 1), none), ((1, 100, 100, 0), none), ((1, (-9223372036854775808), 9223372036854775807, 1), none), ((0, 2, 2, 0), none), ((0, 1, 4, 1), some (2, 1))], [(2, 13), (5, 5), (0, 0), (1, 1), (3, 3), (4, 4)], [], [], [], [], [], [520, 521, 522], none))
def kh_crewsGoBy_I (l : Launch) (D : va_G) (tc : Nat → ClassId) (ad : Nat → Nat) (kd : Nat → Nat × Nat) (N : Nat) (sm : Nat → Nat) (xs : List av_X) (S : fw_S) (p : Program) (e : Env) (s : State) (m : MethodId) (args : Array Value) (below : List Frame) (meth : Method) (c : Code) (sz : Nat) (k : Nat) : Prop := (∀ (α : List av_X) (lv : List (Nat × Value)) (st : List Value) (S1 : fw_S), as_in ad sm wd_fl2 xs S kh_crewsGoBy.2.2.2.2.2.1 α kh_crewsGoBy_a2.2.2.1 lv st S1 → (True) → (5 - nv α 2).toNat * 100 + 99 < k → hd_W wd_fl2 kh_crewsGoBy kh_crewsGoBy_y l D tc ad kd N sm xs S p e s m args below meth c sz 2 lv st S1 0) ∧ (∀ (α : List av_X) (lv : List (Nat × Value)) (st : List Value) (S1 : fw_S), as_in ad sm wd_fl2 xs S kh_crewsGoBy.2.2.2.2.2.1 α kh_crewsGoBy_a62.2.2.1 lv st S1 → (nv α 3 = 574 + nv α 2 ∧ nv α 2 < (S1.1 572 0).toInt ∧ nv α 5 = nv α 2) → (5 - nv α 2).toNat * 100 + 98 < k → hd_W wd_fl2 kh_crewsGoBy kh_crewsGoBy_y l D tc ad kd N sm xs S p e s m args below meth c sz 62 lv st S1 0) ∧ (∀ (α : List av_X) (lv : List (Nat × Value)) (st : List Value) (S1 : fw_S), as_in ad sm wd_fl2 xs S kh_crewsGoBy.2.2.2.2.2.1 α kh_crewsGoBy_a65.2.2.1 lv st S1 → (nv α 3 = 574 + nv α 2 ∧ nv α 2 < (S1.1 572 0).toInt) → (5 - nv α 2).toNat * 100 + 97 < k → hd_W wd_fl2 kh_crewsGoBy kh_crewsGoBy_y l D tc ad kd N sm xs S p e s m args below meth c sz 65 lv st S1 0) ∧ (∀ (α : List av_X) (lv : List (Nat × Value)) (st : List Value) (S1 : fw_S), as_in ad sm wd_fl2 xs S kh_crewsGoBy.2.2.2.2.2.1 α kh_crewsGoBy_a92.2.2.1 lv st S1 → (nv α 3 = 574 + nv α 2 ∧ nv α 2 < (S1.1 572 0).toInt ∧ nv α 7 = (S1.1 (574 + (nv α 2).toNat) 0).toInt) → (5 - nv α 2).toNat * 100 + 96 < k → hd_W wd_fl2 kh_crewsGoBy kh_crewsGoBy_y l D tc ad kd N sm xs S p e s m args below meth c sz 92 lv st S1 0) ∧ (∀ (α : List av_X) (lv : List (Nat × Value)) (st : List Value) (S1 : fw_S), as_in ad sm wd_fl2 xs S kh_crewsGoBy.2.2.2.2.2.1 α kh_crewsGoBy_a95.2.2.1 lv st S1 → (nv α 3 = 574 + nv α 2 ∧ nv α 2 < (S1.1 572 0).toInt ∧ yF S1 (S1.1 (574 + (nv α 2).toNat) 0).toInt = 0) → (5 - nv α 2).toNat * 100 + 95 < k → hd_W wd_fl2 kh_crewsGoBy kh_crewsGoBy_y l D tc ad kd N sm xs S p e s m args below meth c sz 95 lv st S1 0) ∧ (∀ (α : List av_X) (lv : List (Nat × Value)) (st : List Value) (S1 : fw_S), as_in ad sm wd_fl2 xs S kh_crewsGoBy.2.2.2.2.2.1 α kh_crewsGoBy_a107.2.2.1 lv st S1 → (nv α 3 = 574 + nv α 2 ∧ nv α 2 < (S1.1 572 0).toInt ∧ yF S1 (S1.1 (574 + (nv α 2).toNat) 0).toInt = 0 ∧ mck (vF S1) (nv α 2).toNat 3 = -1 ∧ nv α 6 = nv α 2) → (5 - nv α 2).toNat * 100 + 94 < k → hd_W wd_fl2 kh_crewsGoBy kh_crewsGoBy_y l D tc ad kd N sm xs S p e s m args below meth c sz 107 lv st S1 0) ∧ (∀ (α : List av_X) (lv : List (Nat × Value)) (st : List Value) (S1 : fw_S), as_in ad sm wd_fl2 xs S kh_crewsGoBy.2.2.2.2.2.1 α kh_crewsGoBy_a110.2.2.1 lv st S1 → (nv α 3 = 574 + nv α 2 ∧ nv α 2 < (S1.1 572 0).toInt ∧ yF S1 (S1.1 (574 + (nv α 2).toNat) 0).toInt = 0 ∧ mck (vF S1) (nv α 2).toNat 3 = -1 ∧ okB S1 (nv α 5) ∧ nv α 6 = nv α 2) → (5 - nv α 2).toNat * 100 + 93 < k → hd_W wd_fl2 kh_crewsGoBy kh_crewsGoBy_y l D tc ad kd N sm xs S p e s m args below meth c sz 110 lv st S1 0) ∧ (∀ (α : List av_X) (lv : List (Nat × Value)) (st : List Value) (S1 : fw_S), as_in ad sm wd_fl2 xs S kh_crewsGoBy.2.2.2.2.2.1 α kh_crewsGoBy_a113.2.2.1 lv st S1 → (nv α 3 = 574 + nv α 2 ∧ nv α 2 < (S1.1 572 0).toInt ∧ yF S1 (S1.1 (574 + (nv α 2).toNat) 0).toInt = 0) → (5 - nv α 2).toNat * 100 + 92 < k → hd_W wd_fl2 kh_crewsGoBy kh_crewsGoBy_y l D tc ad kd N sm xs S p e s m args below meth c sz 113 lv st S1 0) ∧ (∀ (α : List av_X) (lv : List (Nat × Value)) (st : List Value) (S1 : fw_S), as_in ad sm wd_fl2 xs S kh_crewsGoBy.2.2.2.2.2.1 α kh_crewsGoBy_a135.2.2.1 lv st S1 → (nv α 3 = 574 + nv α 2 ∧ nv α 2 < (S1.1 572 0).toInt ∧ yF S1 (S1.1 (574 + (nv α 2).toNat) 0).toInt = 0 ∧ nv α 5 = nv α 2) → (5 - nv α 2).toNat * 100 + 91 < k → hd_W wd_fl2 kh_crewsGoBy kh_crewsGoBy_y l D tc ad kd N sm xs S p e s m args below meth c sz 135 lv st S1 0) ∧ (∀ (α : List av_X) (lv : List (Nat × Value)) (st : List Value) (S1 : fw_S), as_in ad sm wd_fl2 xs S kh_crewsGoBy.2.2.2.2.2.1 α kh_crewsGoBy_a138.2.2.1 lv st S1 → (True) → (5 - nv α 2).toNat * 100 + 90 < k → hd_W wd_fl2 kh_crewsGoBy kh_crewsGoBy_y l D tc ad kd N sm xs S p e s m args below meth c sz 138 lv st S1 0) ∧ True
set_option maxHeartbeats 16000000 in
set_option maxRecDepth 8000 in
theorem kh_crewsGoBy_h2 {l : Launch} {D : va_G} {tc : Nat → ClassId} {ad : Nat → Nat} {kd : Nat → Nat × Nat} {N : Nat} {sm : Nat → Nat} {xs : List av_X} {S : fw_S} {p : Program} {e : Env} {s : State} {m : MethodId} {args : Array Value} {below : List Frame} {meth : Method} {c : Code} {sz : Nat} {lvE : List (Nat × Value)} (G : hd_C wd_ff2 wd_fl2 kh_crewsGoBy [kh_997, kh_spread, kh_bestJob, kh_998, kh_999, kh_1000] kh_crewsGoBy_y l D tc ad kd N sm xs p s m args meth c sz) (H0 : as_in ad sm wd_fl2 xs S kh_crewsGoBy.2.2.2.2.2.1 xs (hd_0 kh_crewsGoBy) lvE [] S) {k : Nat} (ih : kh_crewsGoBy_I l D tc ad kd N sm xs S p e s m args below meth c sz k) : (∀ (α : List av_X) (lv : List (Nat × Value)) (st : List Value) (S1 : fw_S), as_in ad sm wd_fl2 xs S kh_crewsGoBy.2.2.2.2.2.1 α kh_crewsGoBy_a2.2.2.1 lv st S1 → (True) → (5 - nv α 2).toNat * 100 + 99 < k + 1 → hd_W wd_fl2 kh_crewsGoBy kh_crewsGoBy_y l D tc ad kd N sm xs S p e s m args below meth c sz 2 lv st S1 0) := by
  have hx : xs.length = 2 := by rw [H0.2.1.1]; rfl
  intro α lv st S1 H hp hk
  obtain ⟨α1, hle, Hr⟩ := as_recM (pl := []) [] (by decide +kernel) H
  have hf := H.2.2.2.2.2.2.2.2.2.2.1
  have hl1 : α1.length = 3 := by rw [Hr.2.1.1]; rfl
  have hl0 : α.length = 3 := by rw [H.2.1.1]; rfl
  have hxa : al_le xs α1 := H.1.trans hle
  obtain ⟨g1, -, g3, g4, -⟩ := as_fx Hr
  have g0 : (572 ≤ nv α1 0 ∧ nv α1 0 ≤ 572) ∧ (1 ≤ nv α1 1 ∧ nv α1 1 ≤ 1) ∧ (0 ≤ nv α1 2 ∧ nv α1 2 ≤ 4) ∧ True := by
    refine ⟨by have h := (en_nv (i := 0) Hr.2.1 rfl).2; exact h, by have h := (en_nv (i := 1) Hr.2.1 rfl).2; exact h, by have h := (en_nv (i := 2) Hr.2.1 rfl).2; exact h, trivial⟩
  have r0 : nv α1 0 = nv α 0 := nv_le hle (by omega)
  have r1 : nv α1 1 = nv α 1 := nv_le hle (by omega)
  have r2 : nv α1 2 = nv α 2 := nv_le hle (by omega)
  refine hd_segM G (na := 3) (fuel := 600) (first := true) (Bs := [kh_crewsGoBy_b2_0, kh_crewsGoBy_b2_1, kh_crewsGoBy_b2_2, kh_crewsGoBy_b2_3, kh_crewsGoBy_b2_4]) (by decide +kernel) hl1 Hr ?_
  intro q hq β lv' st' S' H1
  simp only [List.mem_cons, List.not_mem_nil, or_false] at hq
  rcases hq with rfl | rfl | rfl | rfl | rfl
  · obtain ⟨f1, f2, f3, f4, f5⟩ := as_fx H1
    simp only [kh_crewsGoBy_b2_0, Nat.reduceEqDiff, if_false, fx_env, fx_c, fx_ne, fx_hf, wl_S, Nat.zero_add, Nat.reduceAdd, Nat.reduceDiv, Nat.reduceMod, List.getElem?_cons_zero, List.getElem?_cons_succ, if_true, and_true, true_and] at f1 f2 f3 f4 f5
    have fe0 : nv β 0 = 572 := by omega
    have fe1 : nv β 1 = 1 := by omega
    have fe3 : nv β 3 = 0 := by omega
    try simp only [fe0, fe1, fe3, Int.reduceToNat] at f2 f3 f4 f5
    have s0 : nv β 0 = nv α1 0 := nv_le H1.1 (by omega)
    have s1 : nv β 1 = nv α1 1 := nv_le H1.1 (by omega)
    have s2 : nv β 2 = nv α1 2 := nv_le H1.1 (by omega)
    obtain ⟨c0, c1⟩ := f2
    exact hd_run G (ss := []) (fuel := 20) (by decide +kernel) (as_backM H1 (by decide +kernel) hxa hf)
  · obtain ⟨f1, f2, f3, f4, f5⟩ := as_fx H1
    simp only [kh_crewsGoBy_b2_1, Nat.reduceEqDiff, if_false, fx_env, fx_c, fx_ne, fx_hf, wl_S, Nat.zero_add, Nat.reduceAdd, Nat.reduceDiv, Nat.reduceMod, List.getElem?_cons_zero, List.getElem?_cons_succ, if_true, and_true, true_and] at f1 f2 f3 f4 f5
    have fe0 : nv β 0 = 572 := by omega
    have fe1 : nv β 1 = 1 := by omega
    have fe3 : nv β 3 = 0 := by omega
    have fe5 : nv β 5 = 573 := by omega
    have fe7 : nv β 7 = 3 := by omega
    have fe8 : nv β 8 = (-1) := by omega
    have fe9 : nv β 9 = (-1) := by omega
    have fe10 : nv β 10 = 0 := by omega
    try simp only [fe0, fe1, fe3, fe5, fe7, fe8, fe9, fe10, Int.reduceToNat] at f2 f3 f4 f5
    have s0 : nv β 0 = nv α1 0 := nv_le H1.1 (by omega)
    have s1 : nv β 1 = nv α1 1 := nv_le H1.1 (by omega)
    have s2 : nv β 2 = nv α1 2 := nv_le H1.1 (by omega)
    obtain ⟨c0, c1, c2, c3⟩ := f2
    obtain ⟨α', Ha, hm⟩ := hd_gpM (q := kh_crewsGoBy_a65) (n := 0) (by decide +kernel) hx H1 (by decide +kernel) hxa hf
    have hfr := H1.2.2.2.2.2.2.2.2.2.2.1
    have m0 : nv α' 0 = nv β 0 := hm 0 0 rfl
    have m1 : nv α' 1 = nv β 1 := hm 1 1 rfl
    have m2 : nv α' 2 = nv β 2 := hm 2 2 rfl
    have m3 : nv α' 3 = nv β 6 := hm 3 6 rfl
    have m4 : nv α' 4 = nv β 10 := hm 4 10 rfl
    have rt6 := hf_rt (c := 573) (lo := 0) (hi := 3) (base := 574) (rv := 5) (iv := 2) (n := 6) (by decide +kernel) (by decide +kernel) H1 (by decide +kernel) (by omega) (by omega) (by omega)
    have o1 := old_i c1 (by have h := (en_nv (i := 8) H1.2.1 rfl).1; rw [fe8] at h; exact h)
    have o3 := old_i c3 (en_nv (i := 4) H1.2.1 rfl).1
    have e5 : S' = S1 := f5
    refine ih.2.2.1 _ _ _ _ Ha ?_ ?_
    · rw [e5, m2, m3]
      refine ⟨by omega, by rw [o3]; omega⟩
    · omega
  · obtain ⟨f1, f2, f3, f4, f5⟩ := as_fx H1
    simp only [kh_crewsGoBy_b2_2, Nat.reduceEqDiff, if_false, fx_env, fx_c, fx_ne, fx_hf, wl_S, Nat.zero_add, Nat.reduceAdd, Nat.reduceDiv, Nat.reduceMod, List.getElem?_cons_zero, List.getElem?_cons_succ, if_true, and_true, true_and] at f1 f2 f3 f4 f5
    have fe0 : nv β 0 = 572 := by omega
    have fe1 : nv β 1 = 1 := by omega
    have fe3 : nv β 3 = 0 := by omega
    have fe5 : nv β 5 = 573 := by omega
    have fe7 : nv β 7 = 3 := by omega
    have fe9 : nv β 9 = (-1) := by omega
    have fe10 : nv β 10 = 1 := by omega
    have fe11 : nv β 11 = 794 := by omega
    have fe12 : nv β 12 = 5 := by omega
    have fe13 : nv β 13 = 0 := by omega
    try simp only [fe0, fe1, fe3, fe5, fe7, fe9, fe10, fe11, fe12, fe13, Int.reduceToNat] at f2 f3 f4 f5
    have s0 : nv β 0 = nv α1 0 := nv_le H1.1 (by omega)
    have s1 : nv β 1 = nv α1 1 := nv_le H1.1 (by omega)
    have s2 : nv β 2 = nv α1 2 := nv_le H1.1 (by omega)
    obtain ⟨c0, c1, c2, c3, c4⟩ := f2
    obtain ⟨α', Ha, hm⟩ := hd_gpM (q := kh_crewsGoBy_a65) (n := 0) (by decide +kernel) hx H1 (by decide +kernel) hxa hf
    have hfr := H1.2.2.2.2.2.2.2.2.2.2.1
    have m0 : nv α' 0 = nv β 0 := hm 0 0 rfl
    have m1 : nv α' 1 = nv β 1 := hm 1 1 rfl
    have m2 : nv α' 2 = nv β 2 := hm 2 2 rfl
    have m3 : nv α' 3 = nv β 6 := hm 3 6 rfl
    have m4 : nv α' 4 = nv β 10 := hm 4 10 rfl
    have rt6 := hf_rt (c := 573) (lo := 0) (hi := 3) (base := 574) (rv := 5) (iv := 2) (n := 6) (by decide +kernel) (by decide +kernel) H1 (by decide +kernel) (by omega) (by omega) (by omega)
    have o0 := old_i c0 (by have h := (en_nv (i := 13) H1.2.1 rfl).1; rw [fe13] at h; exact h)
    have o2 := old_i c2 (en_nv (i := 8) H1.2.1 rfl).1
    have o4 := old_i c4 (en_nv (i := 4) H1.2.1 rfl).1
    have e5 : S' = S1 := f5
    refine ih.2.2.1 _ _ _ _ Ha ?_ ?_
    · rw [e5, m2, m3]
      refine ⟨by omega, by rw [o4]; omega⟩
    · omega
  · obtain ⟨f1, f2, f3, f4, f5⟩ := as_fx H1
    simp only [kh_crewsGoBy_b2_3, Nat.reduceEqDiff, if_false, fx_env, fx_c, fx_ne, fx_hf, wl_S, Nat.zero_add, Nat.reduceAdd, Nat.reduceDiv, Nat.reduceMod, List.getElem?_cons_zero, List.getElem?_cons_succ, if_true, and_true, true_and] at f1 f2 f3 f4 f5
    have fe0 : nv β 0 = 572 := by omega
    have fe1 : nv β 1 = 1 := by omega
    have fe3 : nv β 3 = 0 := by omega
    have fe5 : nv β 5 = 573 := by omega
    have fe7 : nv β 7 = 3 := by omega
    have fe9 : nv β 9 = (-1) := by omega
    have fe10 : nv β 10 = 1 := by omega
    have fe11 : nv β 11 = 794 := by omega
    have fe12 : nv β 12 = 5 := by omega
    have fe13 : nv β 13 = 1 := by omega
    have fe14 : nv β 14 = 578 := by omega
    have fe15 : nv β 15 = 3 := by omega
    have fe17 : nv β 17 = 0 := by omega
    have fe18 : nv β 18 = 2 := by omega
    have fe19 : nv β 19 = 2 := by omega
    try simp only [fe0, fe1, fe3, fe5, fe7, fe9, fe10, fe11, fe12, fe13, fe14, fe15, fe17, fe18, fe19, Int.reduceToNat] at f2 f3 f4 f5
    have s0 : nv β 0 = nv α1 0 := nv_le H1.1 (by omega)
    have s1 : nv β 1 = nv α1 1 := nv_le H1.1 (by omega)
    have s2 : nv β 2 = nv α1 2 := nv_le H1.1 (by omega)
    obtain ⟨c0, c1, c2, c3, c4, c5, c6⟩ := f2
    obtain ⟨α', Ha, hm⟩ := hd_gpM (q := kh_crewsGoBy_a65) (n := 0) (by decide +kernel) hx H1 (by decide +kernel) hxa hf
    have hfr := H1.2.2.2.2.2.2.2.2.2.2.1
    have m0 : nv α' 0 = nv β 0 := hm 0 0 rfl
    have m1 : nv α' 1 = nv β 1 := hm 1 1 rfl
    have m2 : nv α' 2 = nv β 2 := hm 2 2 rfl
    have m3 : nv α' 3 = nv β 6 := hm 3 6 rfl
    have m4 : nv α' 4 = nv β 10 := hm 4 10 rfl
    have rt16 := hf_rt (c := 578) (lo := 0) (hi := 199) (base := 579) (rv := 14) (iv := 8) (n := 16) (by decide +kernel) (by decide +kernel) H1 (by decide +kernel) (by omega) (by omega) (by omega)
    have rt6 := hf_rt (c := 573) (lo := 0) (hi := 3) (base := 574) (rv := 5) (iv := 2) (n := 6) (by decide +kernel) (by decide +kernel) H1 (by decide +kernel) (by omega) (by omega) (by omega)
    have o1 := old_i c1 (by have h := (en_nv (i := 18) H1.2.1 rfl).1; rw [fe18] at h; exact h)
    have o2 := old_i c2 (by have h := (en_nv (i := 13) H1.2.1 rfl).1; rw [fe13] at h; exact h)
    have o4 := old_i c4 (en_nv (i := 8) H1.2.1 rfl).1
    have o6 := old_i c6 (en_nv (i := 4) H1.2.1 rfl).1
    have e5 : S' = S1 := f5
    refine ih.2.2.1 _ _ _ _ Ha ?_ ?_
    · rw [e5, m2, m3]
      refine ⟨by omega, by rw [o6]; omega⟩
    · omega
  · obtain ⟨f1, f2, f3, f4, f5⟩ := as_fx H1
    simp only [kh_crewsGoBy_b2_4, Nat.reduceEqDiff, if_false, fx_env, fx_c, fx_ne, fx_hf, wl_S, Nat.zero_add, Nat.reduceAdd, Nat.reduceDiv, Nat.reduceMod, List.getElem?_cons_zero, List.getElem?_cons_succ, if_true, and_true, true_and] at f1 f2 f3 f4 f5
    have fe0 : nv β 0 = 572 := by omega
    have fe1 : nv β 1 = 1 := by omega
    have fe3 : nv β 3 = 0 := by omega
    have fe5 : nv β 5 = 573 := by omega
    have fe7 : nv β 7 = 3 := by omega
    have fe9 : nv β 9 = (-1) := by omega
    have fe10 : nv β 10 = 1 := by omega
    have fe11 : nv β 11 = 794 := by omega
    have fe12 : nv β 12 = 5 := by omega
    have fe13 : nv β 13 = 1 := by omega
    have fe14 : nv β 14 = 578 := by omega
    have fe15 : nv β 15 = 3 := by omega
    have fe17 : nv β 17 = 0 := by omega
    have fe19 : nv β 19 = 2 := by omega
    try simp only [fe0, fe1, fe3, fe5, fe7, fe9, fe10, fe11, fe12, fe13, fe14, fe15, fe17, fe19, Int.reduceToNat] at f2 f3 f4 f5
    have s0 : nv β 0 = nv α1 0 := nv_le H1.1 (by omega)
    have s1 : nv β 1 = nv α1 1 := nv_le H1.1 (by omega)
    have s2 : nv β 2 = nv α1 2 := nv_le H1.1 (by omega)
    obtain ⟨c0, c1, c2, c3, c4, c5, c6⟩ := f2
    obtain ⟨α', Ha, hm⟩ := hd_gpM (q := kh_crewsGoBy_a62) (n := 0) (by decide +kernel) hx H1 (by decide +kernel) hxa hf
    have hfr := H1.2.2.2.2.2.2.2.2.2.2.1
    have m0 : nv α' 0 = nv β 0 := hm 0 0 rfl
    have m1 : nv α' 1 = nv β 1 := hm 1 1 rfl
    have m2 : nv α' 2 = nv β 2 := hm 2 2 rfl
    have m3 : nv α' 3 = nv β 6 := hm 3 6 rfl
    have m4 : nv α' 4 = nv β 10 := hm 4 10 rfl
    have m5 : nv α' 5 = nv β 2 := hm 5 2 rfl
    have rt16 := hf_rt (c := 578) (lo := 0) (hi := 199) (base := 579) (rv := 14) (iv := 8) (n := 16) (by decide +kernel) (by decide +kernel) H1 (by decide +kernel) (by omega) (by omega) (by omega)
    have rt6 := hf_rt (c := 573) (lo := 0) (hi := 3) (base := 574) (rv := 5) (iv := 2) (n := 6) (by decide +kernel) (by decide +kernel) H1 (by decide +kernel) (by omega) (by omega) (by omega)
    have o1 := old_i c1 (en_nv (i := 18) H1.2.1 rfl).1
    have o2 := old_i c2 (by have h := (en_nv (i := 13) H1.2.1 rfl).1; rw [fe13] at h; exact h)
    have o4 := old_i c4 (en_nv (i := 8) H1.2.1 rfl).1
    have o6 := old_i c6 (en_nv (i := 4) H1.2.1 rfl).1
    have e5 : S' = S1 := f5
    refine ih.2.1 _ _ _ _ Ha ?_ ?_
    · rw [e5, m2, m3, m5]
      refine ⟨by omega, by rw [o6]; omega, by omega⟩
    · omega
set_option maxHeartbeats 16000000 in
set_option maxRecDepth 8000 in
theorem kh_crewsGoBy_h62 {l : Launch} {D : va_G} {tc : Nat → ClassId} {ad : Nat → Nat} {kd : Nat → Nat × Nat} {N : Nat} {sm : Nat → Nat} {xs : List av_X} {S : fw_S} {p : Program} {e : Env} {s : State} {m : MethodId} {args : Array Value} {below : List Frame} {meth : Method} {c : Code} {sz : Nat} {lvE : List (Nat × Value)} (G : hd_C wd_ff2 wd_fl2 kh_crewsGoBy [kh_997, kh_spread, kh_bestJob, kh_998, kh_999, kh_1000] kh_crewsGoBy_y l D tc ad kd N sm xs p s m args meth c sz) (H0 : as_in ad sm wd_fl2 xs S kh_crewsGoBy.2.2.2.2.2.1 xs (hd_0 kh_crewsGoBy) lvE [] S) {k : Nat} (ih : kh_crewsGoBy_I l D tc ad kd N sm xs S p e s m args below meth c sz k) : (∀ (α : List av_X) (lv : List (Nat × Value)) (st : List Value) (S1 : fw_S), as_in ad sm wd_fl2 xs S kh_crewsGoBy.2.2.2.2.2.1 α kh_crewsGoBy_a62.2.2.1 lv st S1 → (nv α 3 = 574 + nv α 2 ∧ nv α 2 < (S1.1 572 0).toInt ∧ nv α 5 = nv α 2) → (5 - nv α 2).toNat * 100 + 98 < k + 1 → hd_W wd_fl2 kh_crewsGoBy kh_crewsGoBy_y l D tc ad kd N sm xs S p e s m args below meth c sz 62 lv st S1 0) := by
  have hx : xs.length = 2 := by rw [H0.2.1.1]; rfl
  intro α lv st S1 H hp hk
  obtain ⟨α1, hle, Hr⟩ := as_recM (pl := []) [((574, 577), (3, 3, 0)), ((574, 577), (4, 4, 0)), ((579, 778), (4, 4, 0)), ((579, 778), (5, 5, 0))] (by decide +kernel) H
  have hf := H.2.2.2.2.2.2.2.2.2.2.1
  have hl1 : α1.length = 6 := by rw [Hr.2.1.1]; rfl
  have hl0 : α.length = 6 := by rw [H.2.1.1]; rfl
  have hxa : al_le xs α1 := H.1.trans hle
  obtain ⟨g1, -, g3, g4, -⟩ := as_fx Hr
  have g0 : (572 ≤ nv α1 0 ∧ nv α1 0 ≤ 572) ∧ (1 ≤ nv α1 1 ∧ nv α1 1 ≤ 1) ∧ (0 ≤ nv α1 2 ∧ nv α1 2 ≤ 3) ∧ (574 ≤ nv α1 3 ∧ nv α1 3 ≤ 577) ∧ (1 ≤ nv α1 4 ∧ nv α1 4 ≤ 1) ∧ (0 ≤ nv α1 5 ∧ nv α1 5 ≤ 3) ∧ True := by
    refine ⟨by have h := (en_nv (i := 0) Hr.2.1 rfl).2; exact h, by have h := (en_nv (i := 1) Hr.2.1 rfl).2; exact h, by have h := (en_nv (i := 2) Hr.2.1 rfl).2; exact h, by have h := (en_nv (i := 3) Hr.2.1 rfl).2; exact h, by have h := (en_nv (i := 4) Hr.2.1 rfl).2; exact h, by have h := (en_nv (i := 5) Hr.2.1 rfl).2; exact h, trivial⟩
  have r0 : nv α1 0 = nv α 0 := nv_le hle (by omega)
  have r1 : nv α1 1 = nv α 1 := nv_le hle (by omega)
  have r2 : nv α1 2 = nv α 2 := nv_le hle (by omega)
  have r3 : nv α1 3 = nv α 3 := nv_le hle (by omega)
  have r4 : nv α1 4 = nv α 4 := nv_le hle (by omega)
  have r5 : nv α1 5 = nv α 5 := nv_le hle (by omega)
  refine hd_callPN (Rr := R_putBack) (Rs := [kh_putBack]) (idx := 86) G (List.forall_mem_cons.mpr ⟨kh_putBack_okP, List.forall_mem_nil _⟩) (fun Cc hCc ys hnm => by
      rcases List.mem_singleton.mp hCc with rfl
      have y1 : nv ys 1 = nv α1 5 := nm_nv hnm (i := 1) (v := 5) rfl
      show nv ys 1 < (S1.1 572 0).toInt
      rw [y1, r5, hp.2.2]
      exact hp.2.1) (na := 6) (Bs := [kh_crewsGoBy_b62_0]) (by decide +kernel) (by decide +kernel) hl1 Hr ?_
  intro q hq β lv' st' S' H1 hRx
  simp only [List.mem_cons, List.not_mem_nil, or_false] at hq
  rcases hq with rfl
  · obtain ⟨f1, f2, f3, f4, f5⟩ := as_fx H1
    simp only [kh_crewsGoBy_b62_0, Nat.reduceEqDiff, if_false, fx_env, fx_c, fx_ne, fx_hf, wl_S, Nat.zero_add, Nat.reduceAdd, Nat.reduceDiv, Nat.reduceMod, List.getElem?_cons_zero, List.getElem?_cons_succ, if_true, and_true, true_and] at f1 f2 f3 f4 f5
    have fe0 : nv β 0 = 572 := by omega
    have fe1 : nv β 1 = 1 := by omega
    have fe4 : nv β 4 = 1 := by omega
    try simp only [fe0, fe1, fe4, Int.reduceToNat] at f2 f3 f4 f5
    have s0 : nv β 0 = nv α1 0 := nv_le H1.1 (by omega)
    have s1 : nv β 1 = nv α1 1 := nv_le H1.1 (by omega)
    have s2 : nv β 2 = nv α1 2 := nv_le H1.1 (by omega)
    have s3 : nv β 3 = nv α1 3 := nv_le H1.1 (by omega)
    have s4 : nv β 4 = nv α1 4 := nv_le H1.1 (by omega)
    have s5 : nv β 5 = nv α1 5 := nv_le H1.1 (by omega)
    obtain ⟨α', Ha, hm⟩ := hd_gpM (q := kh_crewsGoBy_a65) (n := 0) (by decide +kernel) hx H1 (by decide +kernel) hxa hf
    have hfr := H1.2.2.2.2.2.2.2.2.2.2.1
    have m0 : nv α' 0 = nv β 0 := hm 0 0 rfl
    have m1 : nv α' 1 = nv β 1 := hm 1 1 rfl
    have m2 : nv α' 2 = nv β 2 := hm 2 2 rfl
    have m3 : nv α' 3 = nv β 3 := hm 3 3 rfl
    have m4 : nv α' 4 = nv β 4 := hm 4 4 rfl
    have e0 := fr_pl hfr 572 0 (by decide +kernel)
    refine ih.2.2.1 _ _ _ _ Ha ?_ ?_
    · rw [e0, m2, m3, s2, r2, s3, r3]
      exact ⟨hp.1, hp.2.1⟩
    · omega
set_option maxHeartbeats 16000000 in
set_option maxRecDepth 8000 in
theorem kh_crewsGoBy_h65 {l : Launch} {D : va_G} {tc : Nat → ClassId} {ad : Nat → Nat} {kd : Nat → Nat × Nat} {N : Nat} {sm : Nat → Nat} {xs : List av_X} {S : fw_S} {p : Program} {e : Env} {s : State} {m : MethodId} {args : Array Value} {below : List Frame} {meth : Method} {c : Code} {sz : Nat} {lvE : List (Nat × Value)} (G : hd_C wd_ff2 wd_fl2 kh_crewsGoBy [kh_997, kh_spread, kh_bestJob, kh_998, kh_999, kh_1000] kh_crewsGoBy_y l D tc ad kd N sm xs p s m args meth c sz) (H0 : as_in ad sm wd_fl2 xs S kh_crewsGoBy.2.2.2.2.2.1 xs (hd_0 kh_crewsGoBy) lvE [] S) {k : Nat} (ih : kh_crewsGoBy_I l D tc ad kd N sm xs S p e s m args below meth c sz k) : (∀ (α : List av_X) (lv : List (Nat × Value)) (st : List Value) (S1 : fw_S), as_in ad sm wd_fl2 xs S kh_crewsGoBy.2.2.2.2.2.1 α kh_crewsGoBy_a65.2.2.1 lv st S1 → (nv α 3 = 574 + nv α 2 ∧ nv α 2 < (S1.1 572 0).toInt) → (5 - nv α 2).toNat * 100 + 97 < k + 1 → hd_W wd_fl2 kh_crewsGoBy kh_crewsGoBy_y l D tc ad kd N sm xs S p e s m args below meth c sz 65 lv st S1 0) := by
  have hx : xs.length = 2 := by rw [H0.2.1.1]; rfl
  intro α lv st S1 H hp hk
  obtain ⟨α1, hle, Hr⟩ := as_recM (pl := []) [((3, 3), (0, 16, 1))] (by decide +kernel) H
  have hf := H.2.2.2.2.2.2.2.2.2.2.1
  have hl1 : α1.length = 5 := by rw [Hr.2.1.1]; rfl
  have hl0 : α.length = 5 := by rw [H.2.1.1]; rfl
  have hxa : al_le xs α1 := H.1.trans hle
  obtain ⟨g1, -, g3, g4, -⟩ := as_fx Hr
  have g0 : (572 ≤ nv α1 0 ∧ nv α1 0 ≤ 572) ∧ (1 ≤ nv α1 1 ∧ nv α1 1 ≤ 1) ∧ (0 ≤ nv α1 2 ∧ nv α1 2 ≤ 3) ∧ (574 ≤ nv α1 3 ∧ nv α1 3 ≤ 577) ∧ (0 ≤ nv α1 4 ∧ nv α1 4 ≤ 1) ∧ True := by
    refine ⟨by have h := (en_nv (i := 0) Hr.2.1 rfl).2; exact h, by have h := (en_nv (i := 1) Hr.2.1 rfl).2; exact h, by have h := (en_nv (i := 2) Hr.2.1 rfl).2; exact h, by have h := (en_nv (i := 3) Hr.2.1 rfl).2; exact h, by have h := (en_nv (i := 4) Hr.2.1 rfl).2; exact h, trivial⟩
  have r0 : nv α1 0 = nv α 0 := nv_le hle (by omega)
  have r1 : nv α1 1 = nv α 1 := nv_le hle (by omega)
  have r2 : nv α1 2 = nv α 2 := nv_le hle (by omega)
  have r3 : nv α1 3 = nv α 3 := nv_le hle (by omega)
  have r4 : nv α1 4 = nv α 4 := nv_le hle (by omega)
  refine hd_segM G (na := 5) (fuel := 600) (first := true) (Bs := [kh_crewsGoBy_b65_0]) (by decide +kernel) hl1 Hr ?_
  intro q hq β lv' st' S' H1
  simp only [List.mem_cons, List.not_mem_nil, or_false] at hq
  rcases hq with rfl
  · obtain ⟨f1, f2, f3, f4, f5⟩ := as_fx H1
    simp only [kh_crewsGoBy_b65_0, Nat.reduceEqDiff, if_false, fx_env, fx_c, fx_ne, fx_hf, wl_S, Nat.zero_add, Nat.reduceAdd, Nat.reduceDiv, Nat.reduceMod, List.getElem?_cons_zero, List.getElem?_cons_succ, if_true, and_true, true_and] at f1 f2 f3 f4 f5
    have fe0 : nv β 0 = 572 := by omega
    have fe1 : nv β 1 = 1 := by omega
    have fe5 : nv β 5 = 8 := by omega
    have fe6 : nv β 6 = 2 := by omega
    have fe7 : nv β 7 = 2 := by omega
    have fe8 : nv β 8 = 0 := by omega
    have fe10 : nv β 10 = 8 := by omega
    have fe11 : nv β 11 = 96 := by omega
    have fe12 : nv β 12 = 99 := by omega
    try simp only [fe0, fe1, fe5, fe6, fe7, fe8, fe10, fe11, fe12, Int.reduceToNat] at f2 f3 f4 f5
    have s0 : nv β 0 = nv α1 0 := nv_le H1.1 (by omega)
    have s1 : nv β 1 = nv α1 1 := nv_le H1.1 (by omega)
    have s2 : nv β 2 = nv α1 2 := nv_le H1.1 (by omega)
    have s3 : nv β 3 = nv α1 3 := nv_le H1.1 (by omega)
    have s4 : nv β 4 = nv α1 4 := nv_le H1.1 (by omega)
    obtain ⟨α', Ha, hm⟩ := hd_gpM (q := kh_crewsGoBy_a92) (n := 0) (by decide +kernel) hx H1 (by decide +kernel) hxa hf
    have hfr := H1.2.2.2.2.2.2.2.2.2.2.1
    have m0 : nv α' 0 = nv β 0 := hm 0 0 rfl
    have m1 : nv α' 1 = nv β 1 := hm 1 1 rfl
    have m2 : nv α' 2 = nv β 2 := hm 2 2 rfl
    have m3 : nv α' 3 = nv β 3 := hm 3 3 rfl
    have m4 : nv α' 4 = nv β 4 := hm 4 4 rfl
    have m5 : nv α' 5 = nv β 12 := hm 5 12 rfl
    have m6 : nv α' 6 = nv β 11 := hm 6 11 rfl
    have m7 : nv α' 7 = nv β 9 := hm 7 9 rfl
    have m8 : nv α' 8 = nv β 7 := hm 8 7 rfl
    have h0 := f4
    have e0 := fr_pl hfr 572 0 (by decide +kernel)
    refine ih.2.2.2.1 _ _ _ _ Ha ?_ ?_
    · rw [e0, m2, m3, m7]
      refine ⟨by omega, by have := hp.2; omega, ?_⟩
      rw [show 574 + (nv β 2).toNat = (nv β 3).toNat by omega]
      exact h0.symm
    · omega
set_option maxHeartbeats 16000000 in
set_option maxRecDepth 8000 in
theorem kh_crewsGoBy_h92 {l : Launch} {D : va_G} {tc : Nat → ClassId} {ad : Nat → Nat} {kd : Nat → Nat × Nat} {N : Nat} {sm : Nat → Nat} {xs : List av_X} {S : fw_S} {p : Program} {e : Env} {s : State} {m : MethodId} {args : Array Value} {below : List Frame} {meth : Method} {c : Code} {sz : Nat} {lvE : List (Nat × Value)} (G : hd_C wd_ff2 wd_fl2 kh_crewsGoBy [kh_997, kh_spread, kh_bestJob, kh_998, kh_999, kh_1000] kh_crewsGoBy_y l D tc ad kd N sm xs p s m args meth c sz) (H0 : as_in ad sm wd_fl2 xs S kh_crewsGoBy.2.2.2.2.2.1 xs (hd_0 kh_crewsGoBy) lvE [] S) {k : Nat} (ih : kh_crewsGoBy_I l D tc ad kd N sm xs S p e s m args below meth c sz k) : (∀ (α : List av_X) (lv : List (Nat × Value)) (st : List Value) (S1 : fw_S), as_in ad sm wd_fl2 xs S kh_crewsGoBy.2.2.2.2.2.1 α kh_crewsGoBy_a92.2.2.1 lv st S1 → (nv α 3 = 574 + nv α 2 ∧ nv α 2 < (S1.1 572 0).toInt ∧ nv α 7 = (S1.1 (574 + (nv α 2).toNat) 0).toInt) → (5 - nv α 2).toNat * 100 + 96 < k + 1 → hd_W wd_fl2 kh_crewsGoBy kh_crewsGoBy_y l D tc ad kd N sm xs S p e s m args below meth c sz 92 lv st S1 0) := by
  have hx : xs.length = 2 := by rw [H0.2.1.1]; rfl
  intro α lv st S1 H hp hk
  obtain ⟨α1, hle, Hr⟩ := as_recM (pl := []) [((2, 2), (4, 4, 0)), ((4, 4), (0, 11, 1)), ((5, 5), (0, 11, 1)), ((6, 6), (0, 11, 1))] (by decide +kernel) H
  have hf := H.2.2.2.2.2.2.2.2.2.2.1
  have hl1 : α1.length = 9 := by rw [Hr.2.1.1]; rfl
  have hl0 : α.length = 9 := by rw [H.2.1.1]; rfl
  have hxa : al_le xs α1 := H.1.trans hle
  obtain ⟨g1, -, g3, g4, -⟩ := as_fx Hr
  have g0 : (572 ≤ nv α1 0 ∧ nv α1 0 ≤ 572) ∧ (1 ≤ nv α1 1 ∧ nv α1 1 ≤ 1) ∧ (0 ≤ nv α1 2 ∧ nv α1 2 ≤ 3) ∧ (574 ≤ nv α1 3 ∧ nv α1 3 ≤ 577) ∧ (0 ≤ nv α1 4 ∧ nv α1 4 ≤ 1) ∧ (99 ≤ nv α1 5 ∧ nv α1 5 ≤ 99) ∧ (96 ≤ nv α1 6 ∧ nv α1 6 ≤ 96) ∧ (0 ≤ nv α1 7 ∧ nv α1 7 ≤ 11) ∧ (2 ≤ nv α1 8 ∧ nv α1 8 ≤ 2) ∧ True := by
    refine ⟨by have h := (en_nv (i := 0) Hr.2.1 rfl).2; exact h, by have h := (en_nv (i := 1) Hr.2.1 rfl).2; exact h, by have h := (en_nv (i := 2) Hr.2.1 rfl).2; exact h, by have h := (en_nv (i := 3) Hr.2.1 rfl).2; exact h, by have h := (en_nv (i := 4) Hr.2.1 rfl).2; exact h, by have h := (en_nv (i := 5) Hr.2.1 rfl).2; exact h, by have h := (en_nv (i := 6) Hr.2.1 rfl).2; exact h, by have h := (en_nv (i := 7) Hr.2.1 rfl).2; exact h, by have h := (en_nv (i := 8) Hr.2.1 rfl).2; exact h, trivial⟩
  have r0 : nv α1 0 = nv α 0 := nv_le hle (by omega)
  have r1 : nv α1 1 = nv α 1 := nv_le hle (by omega)
  have r2 : nv α1 2 = nv α 2 := nv_le hle (by omega)
  have r3 : nv α1 3 = nv α 3 := nv_le hle (by omega)
  have r4 : nv α1 4 = nv α 4 := nv_le hle (by omega)
  have r5 : nv α1 5 = nv α 5 := nv_le hle (by omega)
  have r6 : nv α1 6 = nv α 6 := nv_le hle (by omega)
  have r7 : nv α1 7 = nv α 7 := nv_le hle (by omega)
  have r8 : nv α1 8 = nv α 8 := nv_le hle (by omega)
  refine hd_callR (Rr := R_spread) (Rs := [kh_spread]) (idx := 103) G (List.forall_mem_cons.mpr ⟨kh_spread_okR, List.forall_mem_nil _⟩) (na := 9) (Bs := [kh_crewsGoBy_b92_0]) (by decide +kernel) (by decide +kernel) hl1 Hr ?_
  intro q hq β lv' st' S' H1 hRx
  simp only [List.mem_cons, List.not_mem_nil, or_false] at hq
  rcases hq with rfl
  · obtain ⟨f1, f2, f3, f4, f5⟩ := as_fx H1
    simp only [kh_crewsGoBy_b92_0, Nat.reduceEqDiff, if_false, fx_env, fx_c, fx_ne, fx_hf, wl_S, Nat.zero_add, Nat.reduceAdd, Nat.reduceDiv, Nat.reduceMod, List.getElem?_cons_zero, List.getElem?_cons_succ, if_true, and_true, true_and] at f1 f2 f3 f4 f5
    have fe0 : nv β 0 = 572 := by omega
    have fe1 : nv β 1 = 1 := by omega
    have fe5 : nv β 5 = 99 := by omega
    have fe6 : nv β 6 = 96 := by omega
    have fe8 : nv β 8 = 2 := by omega
    try simp only [fe0, fe1, fe5, fe6, fe8, Int.reduceToNat] at f2 f3 f4 f5
    have s0 : nv β 0 = nv α1 0 := nv_le H1.1 (by omega)
    have s1 : nv β 1 = nv α1 1 := nv_le H1.1 (by omega)
    have s2 : nv β 2 = nv α1 2 := nv_le H1.1 (by omega)
    have s3 : nv β 3 = nv α1 3 := nv_le H1.1 (by omega)
    have s4 : nv β 4 = nv α1 4 := nv_le H1.1 (by omega)
    have s5 : nv β 5 = nv α1 5 := nv_le H1.1 (by omega)
    have s6 : nv β 6 = nv α1 6 := nv_le H1.1 (by omega)
    have s7 : nv β 7 = nv α1 7 := nv_le H1.1 (by omega)
    have s8 : nv β 8 = nv α1 8 := nv_le H1.1 (by omega)
    obtain ⟨α', Ha, hm⟩ := hd_gpM (q := kh_crewsGoBy_a95) (n := 0) (by decide +kernel) hx H1 (by decide +kernel) hxa hf
    have hfr := H1.2.2.2.2.2.2.2.2.2.2.1
    have m0 : nv α' 0 = nv β 0 := hm 0 0 rfl
    have m1 : nv α' 1 = nv β 1 := hm 1 1 rfl
    have m2 : nv α' 2 = nv β 2 := hm 2 2 rfl
    have m3 : nv α' 3 = nv β 3 := hm 3 3 rfl
    have m4 : nv α' 4 = nv β 4 := hm 4 4 rfl
    obtain ⟨Cc, hCc, ys, rr, hnm, hR, rest, hre⟩ := hRx
    rcases List.mem_singleton.mp hCc with rfl
    have y1 : nv ys 1 = nv α1 7 := nm_nv hnm (i := 1) (v := 7) rfl
    have e0 := fr_pl hfr 572 0 (by decide +kernel)
    have eA := fr_cs hfr 574 577 (0, 0, 0) (by decide +kernel) (k := 574 + (nv β 2).toNat) (j := 0) (by omega) (by omega) (pg_mk (by omega) (by omega) (by omega))
    have hR2 : yF S' (nv ys 1) = 0 := hR.1
    rw [y1, r7, hp.2.2] at hR2
    refine ih.2.2.2.2.1 _ _ _ _ Ha ?_ ?_
    · rw [e0, m2, m3]
      refine ⟨by omega, by have := hp.2.1; omega, ?_⟩
      rw [eA, show (nv β 2).toNat = (nv α 2).toNat by omega]
      exact hR2
    · omega
set_option maxHeartbeats 16000000 in
set_option maxRecDepth 8000 in
theorem kh_crewsGoBy_h95 {l : Launch} {D : va_G} {tc : Nat → ClassId} {ad : Nat → Nat} {kd : Nat → Nat × Nat} {N : Nat} {sm : Nat → Nat} {xs : List av_X} {S : fw_S} {p : Program} {e : Env} {s : State} {m : MethodId} {args : Array Value} {below : List Frame} {meth : Method} {c : Code} {sz : Nat} {lvE : List (Nat × Value)} (G : hd_C wd_ff2 wd_fl2 kh_crewsGoBy [kh_997, kh_spread, kh_bestJob, kh_998, kh_999, kh_1000] kh_crewsGoBy_y l D tc ad kd N sm xs p s m args meth c sz) (H0 : as_in ad sm wd_fl2 xs S kh_crewsGoBy.2.2.2.2.2.1 xs (hd_0 kh_crewsGoBy) lvE [] S) {k : Nat} (ih : kh_crewsGoBy_I l D tc ad kd N sm xs S p e s m args below meth c sz k) : (∀ (α : List av_X) (lv : List (Nat × Value)) (st : List Value) (S1 : fw_S), as_in ad sm wd_fl2 xs S kh_crewsGoBy.2.2.2.2.2.1 α kh_crewsGoBy_a95.2.2.1 lv st S1 → (nv α 3 = 574 + nv α 2 ∧ nv α 2 < (S1.1 572 0).toInt ∧ yF S1 (S1.1 (574 + (nv α 2).toNat) 0).toInt = 0) → (5 - nv α 2).toNat * 100 + 95 < k + 1 → hd_W wd_fl2 kh_crewsGoBy kh_crewsGoBy_y l D tc ad kd N sm xs S p e s m args below meth c sz 95 lv st S1 0) := by
  have hx : xs.length = 2 := by rw [H0.2.1.1]; rfl
  intro α lv st S1 H hp hk
  obtain ⟨α1, hle, Hr⟩ := as_recM (pl := []) [] (by decide +kernel) H
  have hf := H.2.2.2.2.2.2.2.2.2.2.1
  have hl1 : α1.length = 5 := by rw [Hr.2.1.1]; rfl
  have hl0 : α.length = 5 := by rw [H.2.1.1]; rfl
  have hxa : al_le xs α1 := H.1.trans hle
  obtain ⟨g1, -, g3, g4, -⟩ := as_fx Hr
  have g0 : (572 ≤ nv α1 0 ∧ nv α1 0 ≤ 572) ∧ (1 ≤ nv α1 1 ∧ nv α1 1 ≤ 1) ∧ (0 ≤ nv α1 2 ∧ nv α1 2 ≤ 3) ∧ (574 ≤ nv α1 3 ∧ nv α1 3 ≤ 577) ∧ (0 ≤ nv α1 4 ∧ nv α1 4 ≤ 1) ∧ True := by
    refine ⟨by have h := (en_nv (i := 0) Hr.2.1 rfl).2; exact h, by have h := (en_nv (i := 1) Hr.2.1 rfl).2; exact h, by have h := (en_nv (i := 2) Hr.2.1 rfl).2; exact h, by have h := (en_nv (i := 3) Hr.2.1 rfl).2; exact h, by have h := (en_nv (i := 4) Hr.2.1 rfl).2; exact h, trivial⟩
  have r0 : nv α1 0 = nv α 0 := nv_le hle (by omega)
  have r1 : nv α1 1 = nv α 1 := nv_le hle (by omega)
  have r2 : nv α1 2 = nv α 2 := nv_le hle (by omega)
  have r3 : nv α1 3 = nv α 3 := nv_le hle (by omega)
  have r4 : nv α1 4 = nv α 4 := nv_le hle (by omega)
  refine hd_segM G (na := 5) (fuel := 600) (first := true) (Bs := [kh_crewsGoBy_b95_0, kh_crewsGoBy_b95_1]) (by decide +kernel) hl1 Hr ?_
  intro q hq β lv' st' S' H1
  simp only [List.mem_cons, List.not_mem_nil, or_false] at hq
  rcases hq with rfl | rfl
  · obtain ⟨f1, f2, f3, f4, f5⟩ := as_fx H1
    simp only [kh_crewsGoBy_b95_0, Nat.reduceEqDiff, if_false, fx_env, fx_c, fx_ne, fx_hf, wl_S, Nat.zero_add, Nat.reduceAdd, Nat.reduceDiv, Nat.reduceMod, List.getElem?_cons_zero, List.getElem?_cons_succ, if_true, and_true, true_and] at f1 f2 f3 f4 f5
    have fe0 : nv β 0 = 572 := by omega
    have fe1 : nv β 1 = 1 := by omega
    have fe5 : nv β 5 = 3 := by omega
    have fe7 : nv β 7 = (-1) := by omega
    try simp only [fe0, fe1, fe5, fe7, Int.reduceToNat] at f2 f3 f4 f5
    have s0 : nv β 0 = nv α1 0 := nv_le H1.1 (by omega)
    have s1 : nv β 1 = nv α1 1 := nv_le H1.1 (by omega)
    have s2 : nv β 2 = nv α1 2 := nv_le H1.1 (by omega)
    have s3 : nv β 3 = nv α1 3 := nv_le H1.1 (by omega)
    have s4 : nv β 4 = nv α1 4 := nv_le H1.1 (by omega)
    obtain ⟨c0, c1⟩ := f2
    obtain ⟨α', Ha, hm⟩ := hd_gpM (q := kh_crewsGoBy_a113) (n := 0) (by decide +kernel) hx H1 (by decide +kernel) hxa hf
    have hfr := H1.2.2.2.2.2.2.2.2.2.2.1
    have m0 : nv α' 0 = nv β 0 := hm 0 0 rfl
    have m1 : nv α' 1 = nv β 1 := hm 1 1 rfl
    have m2 : nv α' 2 = nv β 2 := hm 2 2 rfl
    have m3 : nv α' 3 = nv β 3 := hm 3 3 rfl
    have m4 : nv α' 4 = nv β 4 := hm 4 4 rfl
    have o1 := old_i c1 (en_nv (i := 6) H1.2.1 rfl).1
    have e5 : S' = S1 := f5
    refine ih.2.2.2.2.2.2.2.1 _ _ _ _ Ha ?_ ?_
    · rw [e5, m2, m3, s2, r2, s3, r3]
      exact hp
    · omega
  · obtain ⟨f1, f2, f3, f4, f5⟩ := as_fx H1
    simp only [kh_crewsGoBy_b95_1, Nat.reduceEqDiff, if_false, fx_env, fx_c, fx_ne, fx_hf, wl_S, Nat.zero_add, Nat.reduceAdd, Nat.reduceDiv, Nat.reduceMod, List.getElem?_cons_zero, List.getElem?_cons_succ, if_true, and_true, true_and] at f1 f2 f3 f4 f5
    have fe0 : nv β 0 = 572 := by omega
    have fe1 : nv β 1 = 1 := by omega
    have fe5 : nv β 5 = 3 := by omega
    have fe6 : nv β 6 = (-1) := by omega
    have fe7 : nv β 7 = (-1) := by omega
    try simp only [fe0, fe1, fe5, fe6, fe7, Int.reduceToNat] at f2 f3 f4 f5
    have s0 : nv β 0 = nv α1 0 := nv_le H1.1 (by omega)
    have s1 : nv β 1 = nv α1 1 := nv_le H1.1 (by omega)
    have s2 : nv β 2 = nv α1 2 := nv_le H1.1 (by omega)
    have s3 : nv β 3 = nv α1 3 := nv_le H1.1 (by omega)
    have s4 : nv β 4 = nv α1 4 := nv_le H1.1 (by omega)
    obtain ⟨c0, c1⟩ := f2
    obtain ⟨α', Ha, hm⟩ := hd_gpM (q := kh_crewsGoBy_a107) (n := 0) (by decide +kernel) hx H1 (by decide +kernel) hxa hf
    have hfr := H1.2.2.2.2.2.2.2.2.2.2.1
    have m0 : nv α' 0 = nv β 0 := hm 0 0 rfl
    have m1 : nv α' 1 = nv β 1 := hm 1 1 rfl
    have m2 : nv α' 2 = nv β 2 := hm 2 2 rfl
    have m3 : nv α' 3 = nv β 3 := hm 3 3 rfl
    have m4 : nv α' 4 = nv β 4 := hm 4 4 rfl
    have m5 : nv α' 5 = nv β 2 := hm 5 2 rfl
    have m6 : nv α' 6 = nv β 2 := hm 6 2 rfl
    have o1 := old_i c1 (by have h := (en_nv (i := 6) H1.2.1 rfl).1; rw [fe6] at h; exact h)
    have e5 : S' = S1 := f5
    have hm : mck (vF S1) (nv β 2).toNat 3 = -1 := by
      rw [mck_v (by omega) (by decide), show 574 + (nv β 2).toNat = (nv β 3).toNat by omega, o1] <;> omega
    refine ih.2.2.2.2.2.1 _ _ _ _ Ha ?_ ?_
    · rw [e5, m2, m3, m6]
      refine ⟨by omega, by have := hp.2.1; omega, ?_, hm, rfl⟩
      rw [s2, r2]
      exact hp.2.2
    · omega
set_option maxHeartbeats 16000000 in
set_option maxRecDepth 8000 in
theorem kh_crewsGoBy_h107 {l : Launch} {D : va_G} {tc : Nat → ClassId} {ad : Nat → Nat} {kd : Nat → Nat × Nat} {N : Nat} {sm : Nat → Nat} {xs : List av_X} {S : fw_S} {p : Program} {e : Env} {s : State} {m : MethodId} {args : Array Value} {below : List Frame} {meth : Method} {c : Code} {sz : Nat} {lvE : List (Nat × Value)} (G : hd_C wd_ff2 wd_fl2 kh_crewsGoBy [kh_997, kh_spread, kh_bestJob, kh_998, kh_999, kh_1000] kh_crewsGoBy_y l D tc ad kd N sm xs p s m args meth c sz) (H0 : as_in ad sm wd_fl2 xs S kh_crewsGoBy.2.2.2.2.2.1 xs (hd_0 kh_crewsGoBy) lvE [] S) {k : Nat} (ih : kh_crewsGoBy_I l D tc ad kd N sm xs S p e s m args below meth c sz k) : (∀ (α : List av_X) (lv : List (Nat × Value)) (st : List Value) (S1 : fw_S), as_in ad sm wd_fl2 xs S kh_crewsGoBy.2.2.2.2.2.1 α kh_crewsGoBy_a107.2.2.1 lv st S1 → (nv α 3 = 574 + nv α 2 ∧ nv α 2 < (S1.1 572 0).toInt ∧ yF S1 (S1.1 (574 + (nv α 2).toNat) 0).toInt = 0 ∧ mck (vF S1) (nv α 2).toNat 3 = -1 ∧ nv α 6 = nv α 2) → (5 - nv α 2).toNat * 100 + 94 < k + 1 → hd_W wd_fl2 kh_crewsGoBy kh_crewsGoBy_y l D tc ad kd N sm xs S p e s m args below meth c sz 107 lv st S1 0) := by
  have hx : xs.length = 2 := by rw [H0.2.1.1]; rfl
  intro α lv st S1 H hp hk
  obtain ⟨α1, hle, Hr⟩ := as_recM (pl := []) [] (by decide +kernel) H
  have hf := H.2.2.2.2.2.2.2.2.2.2.1
  have hl1 : α1.length = 7 := by rw [Hr.2.1.1]; rfl
  have hl0 : α.length = 7 := by rw [H.2.1.1]; rfl
  have hxa : al_le xs α1 := H.1.trans hle
  obtain ⟨g1, -, g3, g4, -⟩ := as_fx Hr
  have g0 : (572 ≤ nv α1 0 ∧ nv α1 0 ≤ 572) ∧ (1 ≤ nv α1 1 ∧ nv α1 1 ≤ 1) ∧ (0 ≤ nv α1 2 ∧ nv α1 2 ≤ 3) ∧ (574 ≤ nv α1 3 ∧ nv α1 3 ≤ 577) ∧ (0 ≤ nv α1 4 ∧ nv α1 4 ≤ 1) ∧ (0 ≤ nv α1 5 ∧ nv α1 5 ≤ 3) ∧ (0 ≤ nv α1 6 ∧ nv α1 6 ≤ 3) ∧ True := by
    refine ⟨by have h := (en_nv (i := 0) Hr.2.1 rfl).2; exact h, by have h := (en_nv (i := 1) Hr.2.1 rfl).2; exact h, by have h := (en_nv (i := 2) Hr.2.1 rfl).2; exact h, by have h := (en_nv (i := 3) Hr.2.1 rfl).2; exact h, by have h := (en_nv (i := 4) Hr.2.1 rfl).2; exact h, by have h := (en_nv (i := 5) Hr.2.1 rfl).2; exact h, by have h := (en_nv (i := 6) Hr.2.1 rfl).2; exact h, trivial⟩
  have r0 : nv α1 0 = nv α 0 := nv_le hle (by omega)
  have r1 : nv α1 1 = nv α 1 := nv_le hle (by omega)
  have r2 : nv α1 2 = nv α 2 := nv_le hle (by omega)
  have r3 : nv α1 3 = nv α 3 := nv_le hle (by omega)
  have r4 : nv α1 4 = nv α 4 := nv_le hle (by omega)
  have r5 : nv α1 5 = nv α 5 := nv_le hle (by omega)
  have r6 : nv α1 6 = nv α 6 := nv_le hle (by omega)
  refine hd_callR (Rr := R_bestJob) (Rs := [kh_bestJob]) (idx := 107) G (List.forall_mem_cons.mpr ⟨kh_bestJob_okR, List.forall_mem_nil _⟩) (na := 7) (Bs := [kh_crewsGoBy_b107_0]) (by decide +kernel) (by decide +kernel) hl1 Hr ?_
  intro q hq β lv' st' S' H1 hRx
  simp only [List.mem_cons, List.not_mem_nil, or_false] at hq
  rcases hq with rfl
  · obtain ⟨f1, f2, f3, f4, f5⟩ := as_fx H1
    simp only [kh_crewsGoBy_b107_0, Nat.reduceEqDiff, if_false, fx_env, fx_c, fx_ne, fx_hf, wl_S, Nat.zero_add, Nat.reduceAdd, Nat.reduceDiv, Nat.reduceMod, List.getElem?_cons_zero, List.getElem?_cons_succ, if_true, and_true, true_and] at f1 f2 f3 f4 f5
    have fe0 : nv β 0 = 572 := by omega
    have fe1 : nv β 1 = 1 := by omega
    try simp only [fe0, fe1, Int.reduceToNat] at f2 f3 f4 f5
    have s0 : nv β 0 = nv α1 0 := nv_le H1.1 (by omega)
    have s1 : nv β 1 = nv α1 1 := nv_le H1.1 (by omega)
    have s2 : nv β 2 = nv α1 2 := nv_le H1.1 (by omega)
    have s3 : nv β 3 = nv α1 3 := nv_le H1.1 (by omega)
    have s4 : nv β 4 = nv α1 4 := nv_le H1.1 (by omega)
    have s5 : nv β 5 = nv α1 5 := nv_le H1.1 (by omega)
    have s6 : nv β 6 = nv α1 6 := nv_le H1.1 (by omega)
    obtain ⟨α', Ha, hm⟩ := hd_gpM (q := kh_crewsGoBy_a110) (n := 0) (by decide +kernel) hx H1 (by decide +kernel) hxa hf
    have hfr := H1.2.2.2.2.2.2.2.2.2.2.1
    have m0 : nv α' 0 = nv β 0 := hm 0 0 rfl
    have m1 : nv α' 1 = nv β 1 := hm 1 1 rfl
    have m2 : nv α' 2 = nv β 2 := hm 2 2 rfl
    have m3 : nv α' 3 = nv β 3 := hm 3 3 rfl
    have m4 : nv α' 4 = nv β 4 := hm 4 4 rfl
    have m5 : nv α' 5 = nv β 7 := hm 5 7 rfl
    have m6 : nv α' 6 = nv β 6 := hm 6 6 rfl
    obtain ⟨Cc, hCc, ys, rr, hnm, hR, rest, hre⟩ := hRx
    rcases List.mem_singleton.mp hCc with rfl
    obtain ⟨v, v1, v2⟩ := hR
    have hv := hd_rv H1 (i := 7) rfl rfl rfl hre (Sum.inl.inj v1)
    rw [hv] at v2
    have e5 : S' = S1 := f5
    obtain ⟨p1, p2, p3, p4, p5⟩ := hp
    refine ih.2.2.2.2.2.2.1 _ _ _ _ Ha ?_ ?_
    · rw [e5, m2, m3, m5, m6, s2, r2, s3, r3, s6, r6]
      exact ⟨p1, p2, p3, p4, v2, p5⟩
    · omega
set_option maxHeartbeats 16000000 in
set_option maxRecDepth 8000 in
theorem kh_crewsGoBy_h110 {l : Launch} {D : va_G} {tc : Nat → ClassId} {ad : Nat → Nat} {kd : Nat → Nat × Nat} {N : Nat} {sm : Nat → Nat} {xs : List av_X} {S : fw_S} {p : Program} {e : Env} {s : State} {m : MethodId} {args : Array Value} {below : List Frame} {meth : Method} {c : Code} {sz : Nat} {lvE : List (Nat × Value)} (G : hd_C wd_ff2 wd_fl2 kh_crewsGoBy [kh_997, kh_spread, kh_bestJob, kh_998, kh_999, kh_1000] kh_crewsGoBy_y l D tc ad kd N sm xs p s m args meth c sz) (H0 : as_in ad sm wd_fl2 xs S kh_crewsGoBy.2.2.2.2.2.1 xs (hd_0 kh_crewsGoBy) lvE [] S) {k : Nat} (ih : kh_crewsGoBy_I l D tc ad kd N sm xs S p e s m args below meth c sz k) : (∀ (α : List av_X) (lv : List (Nat × Value)) (st : List Value) (S1 : fw_S), as_in ad sm wd_fl2 xs S kh_crewsGoBy.2.2.2.2.2.1 α kh_crewsGoBy_a110.2.2.1 lv st S1 → (nv α 3 = 574 + nv α 2 ∧ nv α 2 < (S1.1 572 0).toInt ∧ yF S1 (S1.1 (574 + (nv α 2).toNat) 0).toInt = 0 ∧ mck (vF S1) (nv α 2).toNat 3 = -1 ∧ okB S1 (nv α 5) ∧ nv α 6 = nv α 2) → (5 - nv α 2).toNat * 100 + 93 < k + 1 → hd_W wd_fl2 kh_crewsGoBy kh_crewsGoBy_y l D tc ad kd N sm xs S p e s m args below meth c sz 110 lv st S1 0) := by
  have hx : xs.length = 2 := by rw [H0.2.1.1]; rfl
  intro α lv st S1 H hp hk
  obtain ⟨α1, hle, Hr⟩ := as_recM (pl := []) [((574, 577), (3, 3, 0)), ((574, 577), (4, 4, 0)), ((579, 778), (4, 4, 0)), ((579, 778), (5, 5, 0))] (by decide +kernel) H
  have hf := H.2.2.2.2.2.2.2.2.2.2.1
  have hl1 : α1.length = 7 := by rw [Hr.2.1.1]; rfl
  have hl0 : α.length = 7 := by rw [H.2.1.1]; rfl
  have hxa : al_le xs α1 := H.1.trans hle
  obtain ⟨g1, -, g3, g4, -⟩ := as_fx Hr
  have g0 : (572 ≤ nv α1 0 ∧ nv α1 0 ≤ 572) ∧ (1 ≤ nv α1 1 ∧ nv α1 1 ≤ 1) ∧ (0 ≤ nv α1 2 ∧ nv α1 2 ≤ 3) ∧ (574 ≤ nv α1 3 ∧ nv α1 3 ≤ 577) ∧ (0 ≤ nv α1 4 ∧ nv α1 4 ≤ 1) ∧ ((-1) ≤ nv α1 5 ∧ nv α1 5 ≤ 199) ∧ (0 ≤ nv α1 6 ∧ nv α1 6 ≤ 3) ∧ True := by
    refine ⟨by have h := (en_nv (i := 0) Hr.2.1 rfl).2; exact h, by have h := (en_nv (i := 1) Hr.2.1 rfl).2; exact h, by have h := (en_nv (i := 2) Hr.2.1 rfl).2; exact h, by have h := (en_nv (i := 3) Hr.2.1 rfl).2; exact h, by have h := (en_nv (i := 4) Hr.2.1 rfl).2; exact h, by have h := (en_nv (i := 5) Hr.2.1 rfl).2; exact h, by have h := (en_nv (i := 6) Hr.2.1 rfl).2; exact h, trivial⟩
  have r0 : nv α1 0 = nv α 0 := nv_le hle (by omega)
  have r1 : nv α1 1 = nv α 1 := nv_le hle (by omega)
  have r2 : nv α1 2 = nv α 2 := nv_le hle (by omega)
  have r3 : nv α1 3 = nv α 3 := nv_le hle (by omega)
  have r4 : nv α1 4 = nv α 4 := nv_le hle (by omega)
  have r5 : nv α1 5 = nv α 5 := nv_le hle (by omega)
  have r6 : nv α1 6 = nv α 6 := nv_le hle (by omega)
  refine hd_callPN (Rr := R_any) (Rs := [kh_takeJob]) (idx := 111) G (List.forall_mem_cons.mpr ⟨kh_takeJob_okP, List.forall_mem_nil _⟩) (fun Cc hCc ys hnm => by
      rcases List.mem_singleton.mp hCc with rfl
      have y1 : nv ys 1 = nv α1 6 := nm_nv hnm (i := 1) (v := 6) rfl
      have y2 : nv ys 2 = nv α1 5 := nm_nv hnm (i := 2) (v := 5) rfl
      obtain ⟨p1, p2, p3, p4, p5, p6⟩ := hp
      refine ⟨?_, ?_, ?_⟩
      · rw [y1, r6, p6]; exact p2
      · rw [y1, r6, p6]; exact p4
      · rw [y2, r5]; exact p5) (na := 7) (Bs := [kh_crewsGoBy_b110_0]) (by decide +kernel) (by decide +kernel) hl1 Hr ?_
  intro q hq β lv' st' S' H1 hRx
  simp only [List.mem_cons, List.not_mem_nil, or_false] at hq
  rcases hq with rfl
  · obtain ⟨f1, f2, f3, f4, f5⟩ := as_fx H1
    simp only [kh_crewsGoBy_b110_0, Nat.reduceEqDiff, if_false, fx_env, fx_c, fx_ne, fx_hf, wl_S, Nat.zero_add, Nat.reduceAdd, Nat.reduceDiv, Nat.reduceMod, List.getElem?_cons_zero, List.getElem?_cons_succ, if_true, and_true, true_and] at f1 f2 f3 f4 f5
    have fe0 : nv β 0 = 572 := by omega
    have fe1 : nv β 1 = 1 := by omega
    try simp only [fe0, fe1, Int.reduceToNat] at f2 f3 f4 f5
    have s0 : nv β 0 = nv α1 0 := nv_le H1.1 (by omega)
    have s1 : nv β 1 = nv α1 1 := nv_le H1.1 (by omega)
    have s2 : nv β 2 = nv α1 2 := nv_le H1.1 (by omega)
    have s3 : nv β 3 = nv α1 3 := nv_le H1.1 (by omega)
    have s4 : nv β 4 = nv α1 4 := nv_le H1.1 (by omega)
    have s5 : nv β 5 = nv α1 5 := nv_le H1.1 (by omega)
    have s6 : nv β 6 = nv α1 6 := nv_le H1.1 (by omega)
    obtain ⟨α', Ha, hm⟩ := hd_gpM (q := kh_crewsGoBy_a113) (n := 0) (by decide +kernel) hx H1 (by decide +kernel) hxa hf
    have hfr := H1.2.2.2.2.2.2.2.2.2.2.1
    have m0 : nv α' 0 = nv β 0 := hm 0 0 rfl
    have m1 : nv α' 1 = nv β 1 := hm 1 1 rfl
    have m2 : nv α' 2 = nv β 2 := hm 2 2 rfl
    have m3 : nv α' 3 = nv β 3 := hm 3 3 rfl
    have m4 : nv α' 4 = nv β 4 := hm 4 4 rfl
    have e0 := fr_pl hfr 572 0 (by decide +kernel)
    have e4 : S'.1 4 = S1.1 4 := fr_row hfr 4 (by decide +kernel)
    have eA := fr_cs hfr 574 577 (0, 0, 0) (by decide +kernel) (k := 574 + (nv β 2).toNat) (j := 0) (by omega) (by omega) (pg_mk (by omega) (by omega) (by omega))
    obtain ⟨p1, p2, p3, -⟩ := hp
    refine ih.2.2.2.2.2.2.2.1 _ _ _ _ Ha ?_ ?_
    · rw [e0, m2, m3]
      refine ⟨by omega, by omega, ?_⟩
      rw [eA, show (nv β 2).toNat = (nv α 2).toNat by omega]
      unfold yF at p3 ⊢
      rw [e4]
      exact p3
    · omega
set_option maxHeartbeats 16000000 in
set_option maxRecDepth 8000 in
theorem kh_crewsGoBy_h113 {l : Launch} {D : va_G} {tc : Nat → ClassId} {ad : Nat → Nat} {kd : Nat → Nat × Nat} {N : Nat} {sm : Nat → Nat} {xs : List av_X} {S : fw_S} {p : Program} {e : Env} {s : State} {m : MethodId} {args : Array Value} {below : List Frame} {meth : Method} {c : Code} {sz : Nat} {lvE : List (Nat × Value)} (G : hd_C wd_ff2 wd_fl2 kh_crewsGoBy [kh_997, kh_spread, kh_bestJob, kh_998, kh_999, kh_1000] kh_crewsGoBy_y l D tc ad kd N sm xs p s m args meth c sz) (H0 : as_in ad sm wd_fl2 xs S kh_crewsGoBy.2.2.2.2.2.1 xs (hd_0 kh_crewsGoBy) lvE [] S) {k : Nat} (ih : kh_crewsGoBy_I l D tc ad kd N sm xs S p e s m args below meth c sz k) : (∀ (α : List av_X) (lv : List (Nat × Value)) (st : List Value) (S1 : fw_S), as_in ad sm wd_fl2 xs S kh_crewsGoBy.2.2.2.2.2.1 α kh_crewsGoBy_a113.2.2.1 lv st S1 → (nv α 3 = 574 + nv α 2 ∧ nv α 2 < (S1.1 572 0).toInt ∧ yF S1 (S1.1 (574 + (nv α 2).toNat) 0).toInt = 0) → (5 - nv α 2).toNat * 100 + 92 < k + 1 → hd_W wd_fl2 kh_crewsGoBy kh_crewsGoBy_y l D tc ad kd N sm xs S p e s m args below meth c sz 113 lv st S1 0) := by
  have hx : xs.length = 2 := by rw [H0.2.1.1]; rfl
  intro α lv st S1 H hp hk
  obtain ⟨α1, hle, Hr⟩ := as_recM (pl := []) [] (by decide +kernel) H
  have hf := H.2.2.2.2.2.2.2.2.2.2.1
  have hl1 : α1.length = 5 := by rw [Hr.2.1.1]; rfl
  have hl0 : α.length = 5 := by rw [H.2.1.1]; rfl
  have hxa : al_le xs α1 := H.1.trans hle
  obtain ⟨g1, -, g3, g4, -⟩ := as_fx Hr
  have g0 : (572 ≤ nv α1 0 ∧ nv α1 0 ≤ 572) ∧ (1 ≤ nv α1 1 ∧ nv α1 1 ≤ 1) ∧ (0 ≤ nv α1 2 ∧ nv α1 2 ≤ 3) ∧ (574 ≤ nv α1 3 ∧ nv α1 3 ≤ 577) ∧ (0 ≤ nv α1 4 ∧ nv α1 4 ≤ 1) ∧ True := by
    refine ⟨by have h := (en_nv (i := 0) Hr.2.1 rfl).2; exact h, by have h := (en_nv (i := 1) Hr.2.1 rfl).2; exact h, by have h := (en_nv (i := 2) Hr.2.1 rfl).2; exact h, by have h := (en_nv (i := 3) Hr.2.1 rfl).2; exact h, by have h := (en_nv (i := 4) Hr.2.1 rfl).2; exact h, trivial⟩
  have r0 : nv α1 0 = nv α 0 := nv_le hle (by omega)
  have r1 : nv α1 1 = nv α 1 := nv_le hle (by omega)
  have r2 : nv α1 2 = nv α 2 := nv_le hle (by omega)
  have r3 : nv α1 3 = nv α 3 := nv_le hle (by omega)
  have r4 : nv α1 4 = nv α 4 := nv_le hle (by omega)
  refine hd_segM G (na := 5) (fuel := 600) (first := true) (Bs := [kh_crewsGoBy_b113_0, kh_crewsGoBy_b113_1, kh_crewsGoBy_b113_2]) (by decide +kernel) hl1 Hr ?_
  intro q hq β lv' st' S' H1
  simp only [List.mem_cons, List.not_mem_nil, or_false] at hq
  rcases hq with rfl | rfl | rfl
  · obtain ⟨f1, f2, f3, f4, f5⟩ := as_fx H1
    simp only [kh_crewsGoBy_b113_0, Nat.reduceEqDiff, if_false, fx_env, fx_c, fx_ne, fx_hf, wl_S, Nat.zero_add, Nat.reduceAdd, Nat.reduceDiv, Nat.reduceMod, List.getElem?_cons_zero, List.getElem?_cons_succ, if_true, and_true, true_and] at f1 f2 f3 f4 f5
    have fe0 : nv β 0 = 572 := by omega
    have fe1 : nv β 1 = 1 := by omega
    have fe4 : nv β 4 = 1 := by omega
    have fe5 : nv β 5 = 1 := by omega
    try simp only [fe0, fe1, fe4, fe5, Int.reduceToNat] at f2 f3 f4 f5
    have s0 : nv β 0 = nv α1 0 := nv_le H1.1 (by omega)
    have s1 : nv β 1 = nv α1 1 := nv_le H1.1 (by omega)
    have s2 : nv β 2 = nv α1 2 := nv_le H1.1 (by omega)
    have s3 : nv β 3 = nv α1 3 := nv_le H1.1 (by omega)
    have s4 : nv β 4 = nv α1 4 := nv_le H1.1 (by omega)
    obtain ⟨α', Ha, hm⟩ := hd_gpM (q := kh_crewsGoBy_a135) (n := 0) (by decide +kernel) hx H1 (by decide +kernel) hxa hf
    have hfr := H1.2.2.2.2.2.2.2.2.2.2.1
    have m0 : nv α' 0 = nv β 0 := hm 0 0 rfl
    have m1 : nv α' 1 = nv β 1 := hm 1 1 rfl
    have m2 : nv α' 2 = nv β 2 := hm 2 2 rfl
    have m3 : nv α' 3 = nv β 3 := hm 3 3 rfl
    have m4 : nv α' 4 = nv β 5 := hm 4 5 rfl
    have m5 : nv α' 5 = nv β 2 := hm 5 2 rfl
    have e5 : S' = S1 := f5
    refine ih.2.2.2.2.2.2.2.2.1 _ _ _ _ Ha ?_ ?_
    · rw [e5, m2, m3, m5]
      refine ⟨by omega, by have := hp.2.1; omega, ?_, rfl⟩
      rw [s2, r2]
      exact hp.2.2
    · omega
  · obtain ⟨f1, f2, f3, f4, f5⟩ := as_fx H1
    simp only [kh_crewsGoBy_b113_1, Nat.reduceEqDiff, if_false, fx_env, fx_c, fx_ne, fx_hf, wl_S, Nat.zero_add, Nat.reduceAdd, Nat.reduceDiv, Nat.reduceMod, List.getElem?_cons_zero, List.getElem?_cons_succ, if_true, and_true, true_and] at f1 f2 f3 f4 f5
    have fe0 : nv β 0 = 572 := by omega
    have fe1 : nv β 1 = 1 := by omega
    have fe4 : nv β 4 = 0 := by omega
    have fe5 : nv β 5 = 3 := by omega
    have fe6 : nv β 6 = (-1) := by omega
    have fe7 : nv β 7 = (-1) := by omega
    have fe8 : nv β 8 = 0 := by omega
    try simp only [fe0, fe1, fe4, fe5, fe6, fe7, fe8, Int.reduceToNat] at f2 f3 f4 f5
    have s0 : nv β 0 = nv α1 0 := nv_le H1.1 (by omega)
    have s1 : nv β 1 = nv α1 1 := nv_le H1.1 (by omega)
    have s2 : nv β 2 = nv α1 2 := nv_le H1.1 (by omega)
    have s3 : nv β 3 = nv α1 3 := nv_le H1.1 (by omega)
    have s4 : nv β 4 = nv α1 4 := nv_le H1.1 (by omega)
    obtain ⟨c0, c1⟩ := f2
    obtain ⟨α', Ha, hm⟩ := hd_gpM (q := kh_crewsGoBy_a135) (n := 0) (by decide +kernel) hx H1 (by decide +kernel) hxa hf
    have hfr := H1.2.2.2.2.2.2.2.2.2.2.1
    have m0 : nv α' 0 = nv β 0 := hm 0 0 rfl
    have m1 : nv α' 1 = nv β 1 := hm 1 1 rfl
    have m2 : nv α' 2 = nv β 2 := hm 2 2 rfl
    have m3 : nv α' 3 = nv β 3 := hm 3 3 rfl
    have m4 : nv α' 4 = nv β 8 := hm 4 8 rfl
    have m5 : nv α' 5 = nv β 2 := hm 5 2 rfl
    have e5 : S' = S1 := f5
    refine ih.2.2.2.2.2.2.2.2.1 _ _ _ _ Ha ?_ ?_
    · rw [e5, m2, m3, m5]
      refine ⟨by omega, by have := hp.2.1; omega, ?_, rfl⟩
      rw [s2, r2]
      exact hp.2.2
    · omega
  · obtain ⟨f1, f2, f3, f4, f5⟩ := as_fx H1
    simp only [kh_crewsGoBy_b113_2, Nat.reduceEqDiff, if_false, fx_env, fx_c, fx_ne, fx_hf, wl_S, Nat.zero_add, Nat.reduceAdd, Nat.reduceDiv, Nat.reduceMod, List.getElem?_cons_zero, List.getElem?_cons_succ, if_true, and_true, true_and] at f1 f2 f3 f4 f5
    have fe0 : nv β 0 = 572 := by omega
    have fe1 : nv β 1 = 1 := by omega
    have fe4 : nv β 4 = 0 := by omega
    have fe5 : nv β 5 = 3 := by omega
    have fe7 : nv β 7 = (-1) := by omega
    have fe8 : nv β 8 = 1 := by omega
    try simp only [fe0, fe1, fe4, fe5, fe7, fe8, Int.reduceToNat] at f2 f3 f4 f5
    have s0 : nv β 0 = nv α1 0 := nv_le H1.1 (by omega)
    have s1 : nv β 1 = nv α1 1 := nv_le H1.1 (by omega)
    have s2 : nv β 2 = nv α1 2 := nv_le H1.1 (by omega)
    have s3 : nv β 3 = nv α1 3 := nv_le H1.1 (by omega)
    have s4 : nv β 4 = nv α1 4 := nv_le H1.1 (by omega)
    obtain ⟨c0, c1⟩ := f2
    obtain ⟨α', Ha, hm⟩ := hd_gpM (q := kh_crewsGoBy_a135) (n := 0) (by decide +kernel) hx H1 (by decide +kernel) hxa hf
    have hfr := H1.2.2.2.2.2.2.2.2.2.2.1
    have m0 : nv α' 0 = nv β 0 := hm 0 0 rfl
    have m1 : nv α' 1 = nv β 1 := hm 1 1 rfl
    have m2 : nv α' 2 = nv β 2 := hm 2 2 rfl
    have m3 : nv α' 3 = nv β 3 := hm 3 3 rfl
    have m4 : nv α' 4 = nv β 8 := hm 4 8 rfl
    have m5 : nv α' 5 = nv β 2 := hm 5 2 rfl
    have e5 : S' = S1 := f5
    refine ih.2.2.2.2.2.2.2.2.1 _ _ _ _ Ha ?_ ?_
    · rw [e5, m2, m3, m5]
      refine ⟨by omega, by have := hp.2.1; omega, ?_, rfl⟩
      rw [s2, r2]
      exact hp.2.2
    · omega
set_option maxHeartbeats 16000000 in
set_option maxRecDepth 8000 in
theorem kh_crewsGoBy_h135 {l : Launch} {D : va_G} {tc : Nat → ClassId} {ad : Nat → Nat} {kd : Nat → Nat × Nat} {N : Nat} {sm : Nat → Nat} {xs : List av_X} {S : fw_S} {p : Program} {e : Env} {s : State} {m : MethodId} {args : Array Value} {below : List Frame} {meth : Method} {c : Code} {sz : Nat} {lvE : List (Nat × Value)} (G : hd_C wd_ff2 wd_fl2 kh_crewsGoBy [kh_997, kh_spread, kh_bestJob, kh_998, kh_999, kh_1000] kh_crewsGoBy_y l D tc ad kd N sm xs p s m args meth c sz) (H0 : as_in ad sm wd_fl2 xs S kh_crewsGoBy.2.2.2.2.2.1 xs (hd_0 kh_crewsGoBy) lvE [] S) {k : Nat} (ih : kh_crewsGoBy_I l D tc ad kd N sm xs S p e s m args below meth c sz k) : (∀ (α : List av_X) (lv : List (Nat × Value)) (st : List Value) (S1 : fw_S), as_in ad sm wd_fl2 xs S kh_crewsGoBy.2.2.2.2.2.1 α kh_crewsGoBy_a135.2.2.1 lv st S1 → (nv α 3 = 574 + nv α 2 ∧ nv α 2 < (S1.1 572 0).toInt ∧ yF S1 (S1.1 (574 + (nv α 2).toNat) 0).toInt = 0 ∧ nv α 5 = nv α 2) → (5 - nv α 2).toNat * 100 + 91 < k + 1 → hd_W wd_fl2 kh_crewsGoBy kh_crewsGoBy_y l D tc ad kd N sm xs S p e s m args below meth c sz 135 lv st S1 0) := by
  have hx : xs.length = 2 := by rw [H0.2.1.1]; rfl
  intro α lv st S1 H hp hk
  obtain ⟨α1, hle, Hr⟩ := as_recM (pl := []) [((2, 2), (4, 4, 0)), ((3, 3), (0, 16, 1)), ((4, 4), (0, 11, 1)), ((5, 5), (0, 11, 1)), ((6, 6), (0, 11, 1)), ((7, 7), (0, 10, 1)), ((10, 60), (0, 0, 0)), ((10, 60), (1, 1, 0)), ((10, 60), (2, 2, 0)), ((10, 60), (3, 3, 0)), ((62, 78), (3, 3, 0)), ((62, 78), (6, 6, 0)), ((167, 176), (2, 2, 0)), ((167, 176), (12, 12, 0)), ((179, 208), (3, 13, 1)), ((574, 577), (0, 0, 0)), ((574, 577), (3, 3, 0)), ((574, 577), (4, 4, 0)), ((574, 577), (6, 6, 0)), ((579, 778), (4, 4, 0)), ((781, 784), (0, 0, 0)), ((781, 784), (4, 4, 0))] (by decide +kernel) H
  have hf := H.2.2.2.2.2.2.2.2.2.2.1
  have hl1 : α1.length = 6 := by rw [Hr.2.1.1]; rfl
  have hl0 : α.length = 6 := by rw [H.2.1.1]; rfl
  have hxa : al_le xs α1 := H.1.trans hle
  obtain ⟨g1, -, g3, g4, -⟩ := as_fx Hr
  have g0 : (572 ≤ nv α1 0 ∧ nv α1 0 ≤ 572) ∧ (1 ≤ nv α1 1 ∧ nv α1 1 ≤ 1) ∧ (0 ≤ nv α1 2 ∧ nv α1 2 ≤ 3) ∧ (574 ≤ nv α1 3 ∧ nv α1 3 ≤ 577) ∧ (0 ≤ nv α1 4 ∧ nv α1 4 ≤ 1) ∧ (0 ≤ nv α1 5 ∧ nv α1 5 ≤ 3) ∧ True := by
    refine ⟨by have h := (en_nv (i := 0) Hr.2.1 rfl).2; exact h, by have h := (en_nv (i := 1) Hr.2.1 rfl).2; exact h, by have h := (en_nv (i := 2) Hr.2.1 rfl).2; exact h, by have h := (en_nv (i := 3) Hr.2.1 rfl).2; exact h, by have h := (en_nv (i := 4) Hr.2.1 rfl).2; exact h, by have h := (en_nv (i := 5) Hr.2.1 rfl).2; exact h, trivial⟩
  have r0 : nv α1 0 = nv α 0 := nv_le hle (by omega)
  have r1 : nv α1 1 = nv α 1 := nv_le hle (by omega)
  have r2 : nv α1 2 = nv α 2 := nv_le hle (by omega)
  have r3 : nv α1 3 = nv α 3 := nv_le hle (by omega)
  have r4 : nv α1 4 = nv α 4 := nv_le hle (by omega)
  have r5 : nv α1 5 = nv α 5 := nv_le hle (by omega)
  refine hd_callPN (Rr := R_any) (Rs := [kh_work]) (idx := 115) G (List.forall_mem_cons.mpr ⟨kh_work_okP, List.forall_mem_nil _⟩) (fun Cc hCc ys hnm => by
      rcases List.mem_singleton.mp hCc with rfl
      have y2 : nv ys 2 = nv α1 5 := nm_nv hnm (i := 2) (v := 5) rfl
      obtain ⟨p1, p2, p3, p4⟩ := hp
      refine ⟨?_, ?_⟩
      · rw [y2, r5, p4]; exact p2
      · rw [y2, r5, p4]; exact p3) (na := 6) (Bs := [kh_crewsGoBy_b135_0]) (by decide +kernel) (by decide +kernel) hl1 Hr ?_
  intro q hq β lv' st' S' H1 hRx
  simp only [List.mem_cons, List.not_mem_nil, or_false] at hq
  rcases hq with rfl
  · obtain ⟨f1, f2, f3, f4, f5⟩ := as_fx H1
    simp only [kh_crewsGoBy_b135_0, Nat.reduceEqDiff, if_false, fx_env, fx_c, fx_ne, fx_hf, wl_S, Nat.zero_add, Nat.reduceAdd, Nat.reduceDiv, Nat.reduceMod, List.getElem?_cons_zero, List.getElem?_cons_succ, if_true, and_true, true_and] at f1 f2 f3 f4 f5
    have fe0 : nv β 0 = 572 := by omega
    have fe1 : nv β 1 = 1 := by omega
    try simp only [fe0, fe1, Int.reduceToNat] at f2 f3 f4 f5
    have s0 : nv β 0 = nv α1 0 := nv_le H1.1 (by omega)
    have s1 : nv β 1 = nv α1 1 := nv_le H1.1 (by omega)
    have s2 : nv β 2 = nv α1 2 := nv_le H1.1 (by omega)
    have s3 : nv β 3 = nv α1 3 := nv_le H1.1 (by omega)
    have s4 : nv β 4 = nv α1 4 := nv_le H1.1 (by omega)
    have s5 : nv β 5 = nv α1 5 := nv_le H1.1 (by omega)
    obtain ⟨α', Ha, hm⟩ := hd_gpM (q := kh_crewsGoBy_a138) (n := 0) (by decide +kernel) hx H1 (by decide +kernel) hxa hf
    have hfr := H1.2.2.2.2.2.2.2.2.2.2.1
    have m0 : nv α' 0 = nv β 0 := hm 0 0 rfl
    have m1 : nv α' 1 = nv β 1 := hm 1 1 rfl
    have m2 : nv α' 2 = nv β 2 := hm 2 2 rfl
    have m3 : nv α' 3 = nv β 3 := hm 3 3 rfl
    have m4 : nv α' 4 = nv β 4 := hm 4 4 rfl
    refine ih.2.2.2.2.2.2.2.2.2.1 _ _ _ _ Ha ?_ ?_
    · trivial
    · omega
set_option maxHeartbeats 16000000 in
set_option maxRecDepth 8000 in
theorem kh_crewsGoBy_h138 {l : Launch} {D : va_G} {tc : Nat → ClassId} {ad : Nat → Nat} {kd : Nat → Nat × Nat} {N : Nat} {sm : Nat → Nat} {xs : List av_X} {S : fw_S} {p : Program} {e : Env} {s : State} {m : MethodId} {args : Array Value} {below : List Frame} {meth : Method} {c : Code} {sz : Nat} {lvE : List (Nat × Value)} (G : hd_C wd_ff2 wd_fl2 kh_crewsGoBy [kh_997, kh_spread, kh_bestJob, kh_998, kh_999, kh_1000] kh_crewsGoBy_y l D tc ad kd N sm xs p s m args meth c sz) (H0 : as_in ad sm wd_fl2 xs S kh_crewsGoBy.2.2.2.2.2.1 xs (hd_0 kh_crewsGoBy) lvE [] S) {k : Nat} (ih : kh_crewsGoBy_I l D tc ad kd N sm xs S p e s m args below meth c sz k) : (∀ (α : List av_X) (lv : List (Nat × Value)) (st : List Value) (S1 : fw_S), as_in ad sm wd_fl2 xs S kh_crewsGoBy.2.2.2.2.2.1 α kh_crewsGoBy_a138.2.2.1 lv st S1 → (True) → (5 - nv α 2).toNat * 100 + 90 < k + 1 → hd_W wd_fl2 kh_crewsGoBy kh_crewsGoBy_y l D tc ad kd N sm xs S p e s m args below meth c sz 138 lv st S1 0) := by
  have hx : xs.length = 2 := by rw [H0.2.1.1]; rfl
  intro α lv st S1 H hp hk
  obtain ⟨α1, hle, Hr⟩ := as_recM (pl := []) [((209, 209), (2, 2, 0)), ((214, 214), (0, 0, 0)), ((214, 214), (6, 6, 0))] (by decide +kernel) H
  have hf := H.2.2.2.2.2.2.2.2.2.2.1
  have hl1 : α1.length = 5 := by rw [Hr.2.1.1]; rfl
  have hl0 : α.length = 5 := by rw [H.2.1.1]; rfl
  have hxa : al_le xs α1 := H.1.trans hle
  obtain ⟨g1, -, g3, g4, -⟩ := as_fx Hr
  have g0 : (572 ≤ nv α1 0 ∧ nv α1 0 ≤ 572) ∧ (1 ≤ nv α1 1 ∧ nv α1 1 ≤ 1) ∧ (0 ≤ nv α1 2 ∧ nv α1 2 ≤ 3) ∧ (574 ≤ nv α1 3 ∧ nv α1 3 ≤ 577) ∧ (0 ≤ nv α1 4 ∧ nv α1 4 ≤ 1) ∧ True := by
    refine ⟨by have h := (en_nv (i := 0) Hr.2.1 rfl).2; exact h, by have h := (en_nv (i := 1) Hr.2.1 rfl).2; exact h, by have h := (en_nv (i := 2) Hr.2.1 rfl).2; exact h, by have h := (en_nv (i := 3) Hr.2.1 rfl).2; exact h, by have h := (en_nv (i := 4) Hr.2.1 rfl).2; exact h, trivial⟩
  have r0 : nv α1 0 = nv α 0 := nv_le hle (by omega)
  have r1 : nv α1 1 = nv α 1 := nv_le hle (by omega)
  have r2 : nv α1 2 = nv α 2 := nv_le hle (by omega)
  have r3 : nv α1 3 = nv α 3 := nv_le hle (by omega)
  have r4 : nv α1 4 = nv α 4 := nv_le hle (by omega)
  refine hd_segM G (na := 5) (fuel := 600) (first := true) (Bs := [kh_crewsGoBy_b138_0, kh_crewsGoBy_b138_1, kh_crewsGoBy_b138_2]) (by decide +kernel) hl1 Hr ?_
  intro q hq β lv' st' S' H1
  simp only [List.mem_cons, List.not_mem_nil, or_false] at hq
  rcases hq with rfl | rfl | rfl
  · obtain ⟨f1, f2, f3, f4, f5⟩ := as_fx H1
    simp only [kh_crewsGoBy_b138_0, Nat.reduceEqDiff, if_false, fx_env, fx_c, fx_ne, fx_hf, wl_S, Nat.zero_add, Nat.reduceAdd, Nat.reduceDiv, Nat.reduceMod, List.getElem?_cons_zero, List.getElem?_cons_succ, if_true, and_true, true_and] at f1 f2 f3 f4 f5
    have fe0 : nv β 0 = 572 := by omega
    have fe1 : nv β 1 = 1 := by omega
    have fe4 : nv β 4 = 1 := by omega
    have fe5 : nv β 5 = 5 := by omega
    have fe6 : nv β 6 = 0 := by omega
    have fe7 : nv β 7 = 1 := by omega
    have fe8 : nv β 8 = 200 := by omega
    have fe9 : nv β 9 = 209 := by omega
    have fe10 : nv β 10 = 209 := by omega
    have fe11 : nv β 11 = 2 := by omega
    have fe15 : nv β 15 = 2 := by omega
    try simp only [fe0, fe1, fe4, fe5, fe6, fe7, fe8, fe9, fe10, fe11, fe15, Int.reduceToNat] at f2 f3 f4 f5
    have s0 : nv β 0 = nv α1 0 := nv_le H1.1 (by omega)
    have s1 : nv β 1 = nv α1 1 := nv_le H1.1 (by omega)
    have s2 : nv β 2 = nv α1 2 := nv_le H1.1 (by omega)
    have s3 : nv β 3 = nv α1 3 := nv_le H1.1 (by omega)
    have s4 : nv β 4 = nv α1 4 := nv_le H1.1 (by omega)
    obtain ⟨c0, c1⟩ := f2
    obtain ⟨α', Ha, hm⟩ := hd_gpM (q := kh_crewsGoBy_a2) (n := 0) (by decide +kernel) hx H1 (by decide +kernel) hxa hf
    have hfr := H1.2.2.2.2.2.2.2.2.2.2.1
    have m0 : nv α' 0 = nv β 0 := hm 0 0 rfl
    have m1 : nv α' 1 = nv β 1 := hm 1 1 rfl
    have m2 : nv α' 2 = nv β 16 := hm 2 16 rfl
    refine ih.1 _ _ _ _ Ha ?_ ?_
    · trivial
    · omega
  · obtain ⟨f1, f2, f3, f4, f5⟩ := as_fx H1
    simp only [kh_crewsGoBy_b138_1, Nat.reduceEqDiff, if_false, fx_env, fx_c, fx_ne, fx_hf, wl_S, Nat.zero_add, Nat.reduceAdd, Nat.reduceDiv, Nat.reduceMod, List.getElem?_cons_zero, List.getElem?_cons_succ, if_true, and_true, true_and] at f1 f2 f3 f4 f5
    have fe0 : nv β 0 = 572 := by omega
    have fe1 : nv β 1 = 1 := by omega
    have fe4 : nv β 4 = 1 := by omega
    have fe5 : nv β 5 = 5 := by omega
    have fe6 : nv β 6 = 1 := by omega
    have fe7 : nv β 7 = 1 := by omega
    have fe8 : nv β 8 = 500 := by omega
    have fe9 : nv β 9 = 209 := by omega
    have fe10 : nv β 10 = 209 := by omega
    have fe11 : nv β 11 = 2 := by omega
    have fe15 : nv β 15 = 2 := by omega
    try simp only [fe0, fe1, fe4, fe5, fe6, fe7, fe8, fe9, fe10, fe11, fe15, Int.reduceToNat] at f2 f3 f4 f5
    have s0 : nv β 0 = nv α1 0 := nv_le H1.1 (by omega)
    have s1 : nv β 1 = nv α1 1 := nv_le H1.1 (by omega)
    have s2 : nv β 2 = nv α1 2 := nv_le H1.1 (by omega)
    have s3 : nv β 3 = nv α1 3 := nv_le H1.1 (by omega)
    have s4 : nv β 4 = nv α1 4 := nv_le H1.1 (by omega)
    obtain ⟨c0, c1⟩ := f2
    obtain ⟨α', Ha, hm⟩ := hd_gpM (q := kh_crewsGoBy_a2) (n := 0) (by decide +kernel) hx H1 (by decide +kernel) hxa hf
    have hfr := H1.2.2.2.2.2.2.2.2.2.2.1
    have m0 : nv α' 0 = nv β 0 := hm 0 0 rfl
    have m1 : nv α' 1 = nv β 1 := hm 1 1 rfl
    have m2 : nv α' 2 = nv β 16 := hm 2 16 rfl
    refine ih.1 _ _ _ _ Ha ?_ ?_
    · trivial
    · omega
  · obtain ⟨f1, f2, f3, f4, f5⟩ := as_fx H1
    simp only [kh_crewsGoBy_b138_2, Nat.reduceEqDiff, if_false, fx_env, fx_c, fx_ne, fx_hf, wl_S, Nat.zero_add, Nat.reduceAdd, Nat.reduceDiv, Nat.reduceMod, List.getElem?_cons_zero, List.getElem?_cons_succ, if_true, and_true, true_and] at f1 f2 f3 f4 f5
    have fe0 : nv β 0 = 572 := by omega
    have fe1 : nv β 1 = 1 := by omega
    have fe4 : nv β 4 = 0 := by omega
    have fe5 : nv β 5 = 100 := by omega
    have fe6 : nv β 6 = 209 := by omega
    have fe7 : nv β 7 = 209 := by omega
    have fe8 : nv β 8 = 2 := by omega
    have fe12 : nv β 12 = 2 := by omega
    try simp only [fe0, fe1, fe4, fe5, fe6, fe7, fe8, fe12, Int.reduceToNat] at f2 f3 f4 f5
    have s0 : nv β 0 = nv α1 0 := nv_le H1.1 (by omega)
    have s1 : nv β 1 = nv α1 1 := nv_le H1.1 (by omega)
    have s2 : nv β 2 = nv α1 2 := nv_le H1.1 (by omega)
    have s3 : nv β 3 = nv α1 3 := nv_le H1.1 (by omega)
    have s4 : nv β 4 = nv α1 4 := nv_le H1.1 (by omega)
    obtain ⟨α', Ha, hm⟩ := hd_gpM (q := kh_crewsGoBy_a2) (n := 0) (by decide +kernel) hx H1 (by decide +kernel) hxa hf
    have hfr := H1.2.2.2.2.2.2.2.2.2.2.1
    have m0 : nv α' 0 = nv β 0 := hm 0 0 rfl
    have m1 : nv α' 1 = nv β 1 := hm 1 1 rfl
    have m2 : nv α' 2 = nv β 13 := hm 2 13 rfl
    refine ih.1 _ _ _ _ Ha ?_ ?_
    · trivial
    · omega
set_option maxHeartbeats 16000000 in
set_option maxRecDepth 8000 in
theorem kh_crewsGoBy_ok : ct_ok wd_fl2 kh_crewsGoBy := ct_hand (ff := wd_ff2) (y := kh_crewsGoBy_y) (Cs := [kh_997, kh_spread, kh_bestJob, kh_998, kh_999, kh_1000]) wd_fl2_ok rfl (List.forall_mem_cons.mpr ⟨kh_997_ok, (List.forall_mem_cons.mpr ⟨kh_spread_ok, (List.forall_mem_cons.mpr ⟨kh_bestJob_ok, (List.forall_mem_cons.mpr ⟨kh_998_ok, (List.forall_mem_cons.mpr ⟨kh_999_ok, (List.forall_mem_cons.mpr ⟨kh_1000_ok, (List.forall_mem_nil _)⟩)⟩)⟩)⟩)⟩)⟩) (by decide +kernel) (fun l D tc ad kd N sm xs S p e s m args below meth c sz lv G H0 => by
  have hx : xs.length = 2 := by rw [H0.2.1.1]; rfl
  have hP : ∀ (k : Nat), kh_crewsGoBy_I l D tc ad kd N sm xs S p e s m args below meth c sz k := by
    intro k
    induction k with
    | zero => exact ⟨fun _ _ _ _ _ _ h => absurd h (Nat.not_lt_zero _), fun _ _ _ _ _ _ h => absurd h (Nat.not_lt_zero _), fun _ _ _ _ _ _ h => absurd h (Nat.not_lt_zero _), fun _ _ _ _ _ _ h => absurd h (Nat.not_lt_zero _), fun _ _ _ _ _ _ h => absurd h (Nat.not_lt_zero _), fun _ _ _ _ _ _ h => absurd h (Nat.not_lt_zero _), fun _ _ _ _ _ _ h => absurd h (Nat.not_lt_zero _), fun _ _ _ _ _ _ h => absurd h (Nat.not_lt_zero _), fun _ _ _ _ _ _ h => absurd h (Nat.not_lt_zero _), fun _ _ _ _ _ _ h => absurd h (Nat.not_lt_zero _), trivial⟩
    | succ k ih => exact ⟨kh_crewsGoBy_h2 G H0 ih, kh_crewsGoBy_h62 G H0 ih, kh_crewsGoBy_h65 G H0 ih, kh_crewsGoBy_h92 G H0 ih, kh_crewsGoBy_h95 G H0 ih, kh_crewsGoBy_h107 G H0 ih, kh_crewsGoBy_h110 G H0 ih, kh_crewsGoBy_h113 G H0 ih, kh_crewsGoBy_h135 G H0 ih, kh_crewsGoBy_h138 G H0 ih, trivial⟩
  obtain ⟨α1, hle, Hr⟩ := as_recM (pl := []) [] (by decide +kernel) H0
  have hf := H0.2.2.2.2.2.2.2.2.2.2.1
  have hl1 : α1.length = 2 := by rw [Hr.2.1.1]; rfl
  have hl0 : xs.length = 2 := by rw [H0.2.1.1]; rfl
  have hxa : al_le xs α1 := H0.1.trans hle
  obtain ⟨g1, -, g3, g4, -⟩ := as_fx Hr
  have g0 : (572 ≤ nv α1 0 ∧ nv α1 0 ≤ 572) ∧ (1 ≤ nv α1 1 ∧ nv α1 1 ≤ 1) ∧ True := by
    refine ⟨by have h := (en_nv (i := 0) Hr.2.1 rfl).2; exact h, by have h := (en_nv (i := 1) Hr.2.1 rfl).2; exact h, trivial⟩
  have r0 : nv α1 0 = nv xs 0 := nv_le hle (by omega)
  have r1 : nv α1 1 = nv xs 1 := nv_le hle (by omega)
  refine hd_segM G (na := 2) (fuel := 600) (first := true) (Bs := [kh_crewsGoBy_b0_0]) (by decide +kernel) hl1 Hr ?_
  intro q hq β lv' st' S' H1
  simp only [List.mem_cons, List.not_mem_nil, or_false] at hq
  rcases hq with rfl
  · obtain ⟨f1, f2, f3, f4, f5⟩ := as_fx H1
    simp only [kh_crewsGoBy_b0_0, Nat.reduceEqDiff, if_false, fx_env, fx_c, fx_ne, fx_hf, wl_S, Nat.zero_add, Nat.reduceAdd, Nat.reduceDiv, Nat.reduceMod, List.getElem?_cons_zero, List.getElem?_cons_succ, if_true, and_true, true_and] at f1 f2 f3 f4 f5
    have fe0 : nv β 0 = 572 := by omega
    have fe1 : nv β 1 = 1 := by omega
    have fe2 : nv β 2 = 0 := by omega
    try simp only [fe0, fe1, fe2, Int.reduceToNat] at f2 f3 f4 f5
    have s0 : nv β 0 = nv α1 0 := nv_le H1.1 (by omega)
    have s1 : nv β 1 = nv α1 1 := nv_le H1.1 (by omega)
    obtain ⟨α', Ha, hm⟩ := hd_gpM (q := kh_crewsGoBy_a2) (n := 0) (by decide +kernel) hx H1 (by decide +kernel) hxa hf
    have hfr := H1.2.2.2.2.2.2.2.2.2.2.1
    have m0 : nv α' 0 = nv β 0 := hm 0 0 rfl
    have m1 : nv α' 1 = nv β 1 := hm 1 1 rfl
    have m2 : nv α' 2 = nv β 2 := hm 2 2 rfl
    refine (hP _).1 _ _ _ _ Ha ?_ (Nat.lt_succ_self _)
    · trivial)
