/-! ===== the class: a crew goes its way and works ===== -/
abbrev kh_work_y : mt_T := (⟨"UtilityWorks$Crews", "work", "(LUtilityWorks$Town;I)V"⟩, prog_3_method_14_code, 8, none, 1, 1, 2, 26127, 26126, 2004, 21011)
def kh_work : ct_T := (129, [(2, 572, 572, 1), (2, 1, 1, 1), (0, 0, 3, 1)], [], [520, 521, 522, 601], [(0, (0, 0, 0, 0), [(2, 572, 572, 1), (2, 1, 1, 1), (0, 0, 3, 1)], [], ([520, 521, 522], []))], [((2, 2), (4, 4, 0)), ((3, 3), (0, 16, 1)), ((4, 4), (0, 11, 1)), ((5, 5), (0, 11, 1)), ((6, 6), (0, 11, 1)), ((7, 7), (0, 10, 1)), ((10, 60), (0, 0, 0)), ((10, 60), (1, 1, 0)), ((10, 60), (2, 2, 0)), ((10, 60), (3, 3, 0)), ((62, 78), (3, 3, 0)), ((62, 78), (6, 6, 0)), ((167, 176), (2, 2, 0)), ((167, 176), (12, 12, 0)), ((179, 208), (3, 13, 1)), ((574, 577), (0, 0, 0)), ((574, 577), (3, 3, 0)), ((574, 577), (4, 4, 0)), ((574, 577), (6, 6, 0)), ((579, 778), (4, 4, 0)), ((781, 784), (0, 0, 0)), ((781, 784), (4, 4, 0))], 5, 120, 0)
def kh_work_a36 : an_T := (36, 0, ([((2, 572, 572, 1), none), ((2, 1, 1, 1), none), ((0, 0, 3, 1), none), ((2, 574, 577, 1), none), ((0, 0, 11, 1), none), ((0, 0, 11, 1), none), ((2, 2, 2, 1), none)], [(0, 0), (1, 1), (2, 2), (3, 3), (4, 4)], [5, 6], [], [], [], [], [520, 521, 522, 601], none), [])
def kh_work_a39 : an_T := (39, 0, ([((2, 572, 572, 1), none), ((2, 1, 1, 1), none), ((0, 0, 3, 1), none), ((2, 574, 577, 1), none), ((0, 0, 11, 1), none), ((0, (-1), 11, 1), none)], [(0, 0), (1, 1), (2, 2), (3, 3), (4, 4)], [5], [], [], [], [], [520, 521, 522, 601], none), [])
def kh_work_a44 : an_T := (44, 0, ([((2, 572, 572, 1), none), ((2, 1, 1, 1), none), ((0, 0, 3, 1), none), ((2, 574, 577, 1), none), ((0, 0, 11, 1), none), ((0, (-1), 11, 1), none), ((0, 0, 4, 1), none)], [(0, 0), (1, 1), (2, 2), (3, 3), (4, 4), (5, 5), (6, 6)], [], [], [], [], [], [520, 521, 522, 601], none), [])
def kh_work_a90 : an_T := (90, 0, ([((2, 572, 572, 1), none), ((2, 1, 1, 1), none), ((0, 0, 3, 1), none), ((2, 574, 577, 1), none), ((0, 0, 11, 1), none), ((0, 1, 11, 1), none), ((0, 0, 3, 1), none), ((0, 0, 16, 1), none), ((0, (-10), 21, 1), none), ((0, 0, 0, 0), none), ((2, 574, 577, 1), none)], [(0, 0), (1, 1), (2, 2), (3, 3), (4, 4), (5, 5), (6, 6), (7, 7)], [8, 9, 10], [], [], [], [], [520, 521, 522, 601], none), [])
def kh_work_a114 : an_T := (114, 0, ([((2, 572, 572, 1), none), ((2, 1, 1, 1), none), ((0, 0, 3, 1), none), ((2, 574, 577, 1), none), ((0, 0, 11, 1), none), ((0, (-1), 11, 1), none), ((0, 1, 2, 1), none), ((0, 0, 2, 1), none)], [(0, 0), (1, 1), (2, 2), (3, 3), (4, 4), (5, 5), (6, 6), (7, 7)], [], [], [], [], [], [520, 521, 522], none), [])
def kh_work_a132 : an_T := (132, 0, ([((2, 572, 572, 1), none), ((2, 1, 1, 1), none), ((0, 0, 3, 1), none), ((2, 574, 577, 1), none), ((0, 0, 11, 1), none), ((0, (-1), 11, 1), none), ((0, 1, 2, 1), none), ((0, 0, 1, 1), none)], [(0, 0), (1, 1), (2, 2), (3, 3), (4, 4), (5, 5), (6, 6), (7, 7)], [2, 1, 0], [], [], [], [], [520, 521, 522], none), [])
def kh_work_a135 : an_T := (135, 0, ([((2, 572, 572, 1), none), ((2, 1, 1, 1), none), ((0, 0, 3, 1), none), ((2, 574, 577, 1), none), ((0, 0, 11, 1), none), ((0, (-1), 11, 1), none), ((0, 1, 2, 1), none), ((0, 0, 1, 1), none)], [(0, 0), (1, 1), (2, 2), (3, 3), (4, 4), (5, 5), (6, 6), (7, 7)], [], [], [], [], [], [520, 521, 522], none), [])
def kh_work_b0_0 : sg_T := (36, 0, ([((2, 572, 572, 1), none), ((2, 1, 1, 1), none), ((0, 0, 3, 1), none), ((2, 573, 573, 1), none), ((2, 574, 577, 1), none), ((0, 3, 3, 0), none), ((0, 0, 199, 1), none), ((0, (-1), (-1), 0), none), ((2, 578, 578, 1), none), ((0, 3, 3, 0), none), ((2, 579, 778, 1), none), ((0, 0, 11, 1), none), ((2, 2, 2, 1), none)], [(4, 11), (3, 4), (0, 0), (1, 1), (2, 2)], [11, 12], [(8, 6, 10), (4, 5, 6), (3, 2, 4)], [(6, (-1))], [(400000, 6, 7), (800006, 4, 5)], [], [520, 521, 522, 601], some []))
def kh_work_b0_1 : sg_T := (14, 0, ([((2, 572, 572, 1), none), ((2, 1, 1, 1), none), ((0, 0, 3, 1), none), ((2, 573, 573, 1), none), ((2, 574, 577, 1), none), ((0, 3, 3, 0), none), ((0, (-1), (-1), 1), none), ((0, (-1), (-1), 0), none)], [(3, 4), (0, 0), (1, 1), (2, 2)], [], [(4, 5, 6), (3, 2, 4)], [], [(300000, 6, 7), (800006, 4, 5)], [], [520, 521, 522, 601], some []))
def kh_work_b36_0 : sg_T := (39, 0, ([((2, 572, 572, 1), none), ((2, 1, 1, 1), none), ((0, 0, 3, 1), none), ((2, 574, 577, 1), none), ((0, 0, 11, 1), none), ((0, 0, 11, 1), none), ((2, 2, 2, 1), none), ((0, (-1), 11, 1), none)], [(0, 0), (1, 1), (2, 2), (3, 3), (4, 4)], [7], [], [], [], [], [601, 520, 521, 522, 601], none))
def kh_work_b39_0 : sg_T := (44, 0, ([((2, 572, 572, 1), none), ((2, 1, 1, 1), none), ((0, 0, 3, 1), none), ((2, 574, 577, 1), none), ((0, 0, 11, 1), none), ((0, (-1), 11, 1), none), ((0, 0, 0, 0), none)], [(6, 6), (5, 5), (0, 0), (1, 1), (2, 2), (3, 3), (4, 4)], [], [], [], [], [], [520, 521, 522, 601], some []))
def kh_work_b44_0 : sg_T := (114, 0, ([((2, 572, 572, 1), none), ((2, 1, 1, 1), none), ((0, 0, 3, 1), none), ((2, 574, 577, 1), none), ((0, 0, 11, 1), none), ((0, (-1), 4, 1), none), ((0, 0, 4, 1), none), ((0, 5, 5, 0), none), ((0, 0, 0, 1), none), ((0, 1, 1, 0), none), ((0, 1, 1, 0), none), ((0, 0, 0, 0), none)], [(7, 11), (6, 10), (0, 0), (1, 1), (2, 2), (3, 3), (4, 4), (5, 5)], [], [(3, 7, 8)], [(8, 1)], [(400000, 8, 9), (800008, 3, 7), (200000, 5, 6)], [], [520, 521, 522, 601], some []))
def kh_work_b44_1 : sg_T := (114, 0, ([((2, 572, 572, 1), none), ((2, 1, 1, 1), none), ((0, 0, 3, 1), none), ((2, 574, 577, 1), none), ((0, 0, 11, 1), none), ((0, (-1), 4, 1), none), ((0, 0, 4, 1), none), ((0, 5, 5, 0), none), ((0, 1, 1, 1), none), ((0, 1, 1, 0), none), ((0, 2, 2, 0), none), ((0, 0, 0, 0), none)], [(7, 11), (6, 10), (0, 0), (1, 1), (2, 2), (3, 3), (4, 4), (5, 5)], [], [(3, 7, 8)], [], [(300000, 8, 9), (800008, 3, 7), (200000, 5, 6)], [], [520, 521, 522, 601], some []))
def kh_work_b44_2 : sg_T := (114, 0, ([((2, 572, 572, 1), none), ((2, 1, 1, 1), none), ((0, 0, 3, 1), none), ((2, 574, 577, 1), none), ((0, 0, 11, 1), none), ((0, 1, 11, 1), none), ((0, 0, 4, 1), none), ((0, 2, 2, 0), none), ((0, 0, 4, 1), none), ((0, 5, 5, 0), none), ((0, 0, 0, 1), none), ((0, 1, 1, 0), none), ((0, 1, 1, 0), none), ((0, 0, 0, 0), none)], [(7, 13), (6, 12), (0, 0), (1, 1), (2, 2), (3, 3), (4, 4), (5, 5)], [], [(3, 9, 10), (3, 7, 8)], [(10, 1)], [(400000, 10, 11), (800010, 3, 9), (200000, 8, 6), (800008, 3, 7), (100000, 6, 5)], [], [520, 521, 522, 601], some []))
def kh_work_b44_3 : sg_T := (114, 0, ([((2, 572, 572, 1), none), ((2, 1, 1, 1), none), ((0, 0, 3, 1), none), ((2, 574, 577, 1), none), ((0, 0, 11, 1), none), ((0, 1, 11, 1), none), ((0, 0, 4, 1), none), ((0, 2, 2, 0), none), ((0, 0, 4, 1), none), ((0, 5, 5, 0), none), ((0, 1, 1, 1), none), ((0, 1, 1, 0), none), ((0, 2, 2, 0), none), ((0, 0, 0, 0), none)], [(7, 13), (6, 12), (0, 0), (1, 1), (2, 2), (3, 3), (4, 4), (5, 5)], [], [(3, 9, 10), (3, 7, 8)], [], [(300000, 10, 11), (800010, 3, 9), (200000, 8, 6), (800008, 3, 7), (100000, 6, 5)], [], [520, 521, 522, 601], some []))
def kh_work_b44_4 : sg_T := (90, 0, ([((2, 572, 572, 1), none), ((2, 1, 1, 1), none), ((0, 0, 3, 1), none), ((2, 574, 577, 1), none), ((0, 0, 11, 1), none), ((0, 1, 11, 1), none), ((0, 0, 3, 1), none), ((0, 2, 2, 0), none), ((0, 1, 4, 1), none), ((2, 2, 2, 1), none), ((2, 7, 7, 1), none), ((0, 0, 16, 1), none), ((0, 0, 0, 0), none), ((3, 0, 0, 0), none), ((0, 0, 10, 1), none), ((3, 1, 1, 0), none), ((0, 1, 11, 1), none), ((0, 1, 21, 1), none), ((0, 0, 0, 0), none), ((0, 0, 11, 1), none), ((0, (-10), 21, 1), none)], [(7, 11), (0, 0), (1, 1), (2, 2), (3, 3), (4, 4), (5, 5), (6, 6)], [20, 12, 3], [(3, 18, 19), (10, 6, 11), (3, 7, 8)], [], [(600020, 17, 19), (800019, 3, 18), (500017, 14, 16), (901100016, 11, 11), (901000014, 11, 11), (800011, 10, 6), (100000, 6, 8), (800008, 3, 7), (100000, 6, 5)], [], [520, 521, 522, 601], some []))
def kh_work_b90_0 : sg_T := (44, 0, ([((2, 572, 572, 1), none), ((2, 1, 1, 1), none), ((0, 0, 3, 1), none), ((2, 574, 577, 1), none), ((0, 0, 11, 1), none), ((0, 1, 11, 1), none), ((0, 0, 3, 1), none), ((0, 0, 16, 1), none), ((0, 0, 11, 1), none), ((0, 0, 0, 0), none), ((2, 574, 577, 1), none), ((0, 1, 4, 1), some (6, 1))], [(6, 11), (0, 0), (1, 1), (2, 2), (3, 3), (4, 4), (5, 5), (7, 7)], [], [(10, 9, 8)], [], [], [], [520, 521, 522, 601], some [(10, 9, 8)]))
def kh_work_b114_0 : sg_T := (141, 0, ([((2, 572, 572, 1), none), ((2, 1, 1, 1), none), ((0, 0, 3, 1), none), ((2, 574, 577, 1), none), ((0, 0, 11, 1), none), ((0, (-1), 11, 1), none), ((0, 1, 2, 1), none), ((0, 1, 2, 1), none)], [(0, 0), (1, 1), (2, 2), (3, 3), (4, 4), (5, 5), (6, 6), (7, 7)], [], [], [], [(200000, 6, 7)], [], [520, 521, 522], some []))
def kh_work_b114_1 : sg_T := (141, 0, ([((2, 572, 572, 1), none), ((2, 1, 1, 1), none), ((0, 0, 3, 1), none), ((2, 574, 577, 1), none), ((0, 0, 11, 1), none), ((0, (-1), 11, 1), none), ((0, 1, 2, 1), none), ((0, 0, 1, 1), none), ((0, 0, 0, 0), none), ((0, 0, 11, 1), none)], [(0, 0), (1, 1), (2, 2), (3, 3), (4, 4), (5, 5), (6, 6), (7, 7)], [], [(3, 8, 9)], [], [(400000, 9, 4), (800009, 3, 8), (100000, 7, 6)], [], [520, 521, 522], some []))
def kh_work_b114_2 : sg_T := (132, 0, ([((2, 572, 572, 1), none), ((2, 1, 1, 1), none), ((0, 0, 3, 1), none), ((2, 574, 577, 1), none), ((0, 0, 11, 1), none), ((0, (-1), 11, 1), none), ((0, 1, 2, 1), none), ((0, 0, 1, 1), none), ((0, 0, 0, 0), none), ((0, 0, 11, 1), none)], [(0, 0), (1, 1), (2, 2), (3, 3), (4, 4), (5, 5), (6, 6), (7, 7)], [2, 1, 0], [(3, 8, 9)], [], [(300000, 9, 4), (800009, 3, 8), (100000, 7, 6)], [], [520, 521, 522], some []))
def kh_work_b132_0 : sg_T := (135, 0, ([((2, 572, 572, 1), none), ((2, 1, 1, 1), none), ((0, 0, 3, 1), none), ((2, 574, 577, 1), none), ((0, 0, 11, 1), none), ((0, (-1), 11, 1), none), ((0, 1, 2, 1), none), ((0, 0, 1, 1), none)], [(0, 0), (1, 1), (2, 2), (3, 3), (4, 4), (5, 5), (6, 6), (7, 7)], [], [], [], [], [], [520, 521, 522, 520], none))
def kh_work_b135_0 : sg_T := (114, 0, ([((2, 572, 572, 1), none), ((2, 1, 1, 1), none), ((0, 0, 3, 1), none), ((2, 574, 577, 1), none), ((0, 0, 11, 1), none), ((0, (-1), 11, 1), none), ((0, 1, 2, 1), none), ((0, 0, 1, 1), none), ((0, 1, 2, 1), some (7, 1))], [(7, 8), (0, 0), (1, 1), (2, 2), (3, 3), (4, 4), (5, 5), (6, 6)], [], [], [], [], [], [520, 521, 522], some []))
def kh_work_I (l : Launch) (D : va_G) (tc : Nat → ClassId) (ad : Nat → Nat) (kd : Nat → Nat × Nat) (N : Nat) (sm : Nat → Nat) (xs : List av_X) (S : fw_S) (p : Program) (e : Env) (s : State) (m : MethodId) (args : Array Value) (below : List Frame) (meth : Method) (c : Code) (sz : Nat) (k : Nat) : Prop := (∀ (α : List av_X) (lv : List (Nat × Value)) (st : List Value) (S1 : fw_S), as_in ad sm wd_fl2 xs S kh_work.2.2.2.2.2.1 α kh_work_a36.2.2.1 lv st S1 → (S1 = S ∧ nv α 3 = 574 + nv xs 2) → 100000 < k → hd_WR R_any wd_fl2 kh_work kh_work_y l D tc ad kd N sm xs S p e s m args below meth c sz 36 lv st S1 0) ∧ (∀ (α : List av_X) (lv : List (Nat × Value)) (st : List Value) (S1 : fw_S), as_in ad sm wd_fl2 xs S kh_work.2.2.2.2.2.1 α kh_work_a39.2.2.1 lv st S1 → (nv α 3 = 574 + nv xs 2 ∧ nv xs 2 < (S1.1 572 0).toInt ∧ (0 ≤ nv α 5 → wkI S S1 (nv xs 2) (nv α 5) 0)) → 90000 < k → hd_WR R_any wd_fl2 kh_work kh_work_y l D tc ad kd N sm xs S p e s m args below meth c sz 39 lv st S1 0) ∧ (∀ (α : List av_X) (lv : List (Nat × Value)) (st : List Value) (S1 : fw_S), as_in ad sm wd_fl2 xs S kh_work.2.2.2.2.2.1 α kh_work_a44.2.2.1 lv st S1 → (nv α 3 = 574 + nv xs 2 ∧ nv xs 2 < (S1.1 572 0).toInt ∧ 0 ≤ nv α 6 ∧ (0 ≤ nv α 5 → wkI S S1 (nv xs 2) (nv α 5) (nv α 6))) → 5000 + (20 - nv α 6).toNat * 2 + 1 < k → hd_WR R_any wd_fl2 kh_work kh_work_y l D tc ad kd N sm xs S p e s m args below meth c sz 44 lv st S1 0) ∧ (∀ (α : List av_X) (lv : List (Nat × Value)) (st : List Value) (S1 : fw_S), as_in ad sm wd_fl2 xs S kh_work.2.2.2.2.2.1 α kh_work_a90.2.2.1 lv st S1 → (nv α 3 = 574 + nv xs 2 ∧ nv xs 2 < (S1.1 572 0).toInt ∧ nv α 10 = 574 + nv xs 2 ∧ 0 ≤ nv α 6 ∧ wkI S S1 (nv xs 2) (nv α 5) (nv α 6) ∧ nv α 6 < nv α 5 ∧ nv α 8 = othT (yT S1 (nv α 6)) ((S1.1 (574 + (nv xs 2).toNat) 0).toInt) ∧ (0 ≤ nv α 8 ∧ nv α 8 ≤ 11)) → 5000 + (20 - nv α 6).toNat * 2 < k → hd_WR R_any wd_fl2 kh_work kh_work_y l D tc ad kd N sm xs S p e s m args below meth c sz 90 lv st S1 0) ∧ (∀ (α : List av_X) (lv : List (Nat × Value)) (st : List Value) (S1 : fw_S), as_in ad sm wd_fl2 xs S kh_work.2.2.2.2.2.1 α kh_work_a114.2.2.1 lv st S1 → (nv α 3 = 574 + nv xs 2 ∧ nv xs 2 < (S1.1 572 0).toInt) → (nv α 6 - nv α 7).toNat * 10 + 5 < k → hd_WR R_any wd_fl2 kh_work kh_work_y l D tc ad kd N sm xs S p e s m args below meth c sz 114 lv st S1 0) ∧ (∀ (α : List av_X) (lv : List (Nat × Value)) (st : List Value) (S1 : fw_S), as_in ad sm wd_fl2 xs S kh_work.2.2.2.2.2.1 α kh_work_a132.2.2.1 lv st S1 → (nv α 3 = 574 + nv xs 2 ∧ nv xs 2 < (S1.1 572 0).toInt ∧ nv α 7 < nv α 6) → (nv α 6 - nv α 7).toNat * 10 + 4 < k → hd_WR R_any wd_fl2 kh_work kh_work_y l D tc ad kd N sm xs S p e s m args below meth c sz 132 lv st S1 0) ∧ (∀ (α : List av_X) (lv : List (Nat × Value)) (st : List Value) (S1 : fw_S), as_in ad sm wd_fl2 xs S kh_work.2.2.2.2.2.1 α kh_work_a135.2.2.1 lv st S1 → (nv α 3 = 574 + nv xs 2 ∧ nv xs 2 < (S1.1 572 0).toInt ∧ nv α 7 < nv α 6) → (nv α 6 - nv α 7).toNat * 10 + 3 < k → hd_WR R_any wd_fl2 kh_work kh_work_y l D tc ad kd N sm xs S p e s m args below meth c sz 135 lv st S1 0) ∧ True
set_option maxHeartbeats 16000000 in
set_option maxRecDepth 8000 in
theorem kh_work_h36 {l : Launch} {D : va_G} {tc : Nat → ClassId} {ad : Nat → Nat} {kd : Nat → Nat × Nat} {N : Nat} {sm : Nat → Nat} {xs : List av_X} {S : fw_S} {p : Program} {e : Env} {s : State} {m : MethodId} {args : Array Value} {below : List Frame} {meth : Method} {c : Code} {sz : Nat} {lvE : List (Nat × Value)} (G : hd_C wd_ff2 wd_fl2 kh_work [kh_spotOf, kh_trace] kh_work_y l D tc ad kd N sm xs p s m args meth c sz) (H0 : as_in ad sm wd_fl2 xs S kh_work.2.2.2.2.2.1 xs (hd_0 kh_work) lvE [] S) (hpre : P_work xs S) {k : Nat} (ih : kh_work_I l D tc ad kd N sm xs S p e s m args below meth c sz k) : (∀ (α : List av_X) (lv : List (Nat × Value)) (st : List Value) (S1 : fw_S), as_in ad sm wd_fl2 xs S kh_work.2.2.2.2.2.1 α kh_work_a36.2.2.1 lv st S1 → (S1 = S ∧ nv α 3 = 574 + nv xs 2) → 100000 < k + 1 → hd_WR R_any wd_fl2 kh_work kh_work_y l D tc ad kd N sm xs S p e s m args below meth c sz 36 lv st S1 0) := by
  have hx : xs.length = 3 := by rw [H0.2.1.1]; rfl
  have x2 := (en_nv (i := 2) H0.2.1 rfl).2
  change 0 ≤ nv xs 2 ∧ nv xs 2 ≤ 3 at x2
  intro α lv st S1 H hp hk
  obtain ⟨α1, hle, Hr⟩ := as_recM (pl := []) [((7, 7), (0, 10, 1))] (by decide +kernel) H
  have hf := H.2.2.2.2.2.2.2.2.2.2.1
  have hl1 : α1.length = 7 := by rw [Hr.2.1.1]; rfl
  have hl0 : α.length = 7 := by rw [H.2.1.1]; rfl
  have hxa : al_le xs α1 := H.1.trans hle
  obtain ⟨g1, -, g3, g4, -⟩ := as_fx Hr
  have g0 : (572 ≤ nv α1 0 ∧ nv α1 0 ≤ 572) ∧ (1 ≤ nv α1 1 ∧ nv α1 1 ≤ 1) ∧ (0 ≤ nv α1 2 ∧ nv α1 2 ≤ 3) ∧ (574 ≤ nv α1 3 ∧ nv α1 3 ≤ 577) ∧ (0 ≤ nv α1 4 ∧ nv α1 4 ≤ 11) ∧ (0 ≤ nv α1 5 ∧ nv α1 5 ≤ 11) ∧ (2 ≤ nv α1 6 ∧ nv α1 6 ≤ 2) ∧ True := by
    refine ⟨by have h := (en_nv (i := 0) Hr.2.1 rfl).2; exact h, by have h := (en_nv (i := 1) Hr.2.1 rfl).2; exact h, by have h := (en_nv (i := 2) Hr.2.1 rfl).2; exact h, by have h := (en_nv (i := 3) Hr.2.1 rfl).2; exact h, by have h := (en_nv (i := 4) Hr.2.1 rfl).2; exact h, by have h := (en_nv (i := 5) Hr.2.1 rfl).2; exact h, by have h := (en_nv (i := 6) Hr.2.1 rfl).2; exact h, trivial⟩
  have r0 : nv α1 0 = nv α 0 := nv_le hle (by omega)
  have r1 : nv α1 1 = nv α 1 := nv_le hle (by omega)
  have r2 : nv α1 2 = nv α 2 := nv_le hle (by omega)
  have r3 : nv α1 3 = nv α 3 := nv_le hle (by omega)
  have r4 : nv α1 4 = nv α 4 := nv_le hle (by omega)
  have r5 : nv α1 5 = nv α 5 := nv_le hle (by omega)
  have r6 : nv α1 6 = nv α 6 := nv_le hle (by omega)
  refine hd_callRR (Rr := R_trace) (Rs := [kh_trace]) (idx := 132) G (List.forall_mem_cons.mpr ⟨kh_trace_okR, List.forall_mem_nil _⟩) (na := 7) (Bs := [kh_work_b36_0]) (by decide +kernel) (by decide +kernel) hl1 Hr ?_
  intro q hq β lv' st' S' H1 hRx
  simp only [List.mem_cons, List.not_mem_nil, or_false] at hq
  rcases hq with rfl
  · obtain ⟨f1, f2, f3, f4, f5⟩ := as_fx H1
    simp only [kh_work_b36_0, Nat.reduceEqDiff, if_false, fx_env, fx_c, fx_ne, fx_hf, wl_S, Nat.zero_add, Nat.reduceAdd, Nat.reduceDiv, Nat.reduceMod, List.getElem?_cons_zero, List.getElem?_cons_succ, if_true, and_true, true_and] at f1 f2 f3 f4 f5
    have fe0 : nv β 0 = 572 := by omega
    have fe1 : nv β 1 = 1 := by omega
    have fe6 : nv β 6 = 2 := by omega
    try simp only [fe0, fe1, fe6, Int.reduceToNat] at f2 f3 f4 f5
    have s0 : nv β 0 = nv α1 0 := nv_le H1.1 (by omega)
    have s1 : nv β 1 = nv α1 1 := nv_le H1.1 (by omega)
    have s2 : nv β 2 = nv α1 2 := nv_le H1.1 (by omega)
    have s3 : nv β 3 = nv α1 3 := nv_le H1.1 (by omega)
    have s4 : nv β 4 = nv α1 4 := nv_le H1.1 (by omega)
    have s5 : nv β 5 = nv α1 5 := nv_le H1.1 (by omega)
    have s6 : nv β 6 = nv α1 6 := nv_le H1.1 (by omega)
    obtain ⟨α', Ha, hm⟩ := hd_gpM (q := kh_work_a39) (n := 0) (by decide +kernel) hx H1 (by decide +kernel) hxa hf
    have hfr := H1.2.2.2.2.2.2.2.2.2.2.1
    have m0 : nv α' 0 = nv β 0 := hm 0 0 rfl
    have m1 : nv α' 1 = nv β 1 := hm 1 1 rfl
    have m2 : nv α' 2 = nv β 2 := hm 2 2 rfl
    have m3 : nv α' 3 = nv β 3 := hm 3 3 rfl
    have m4 : nv α' 4 = nv β 4 := hm 4 4 rfl
    have m5 : nv α' 5 = nv β 7 := hm 5 7 rfl
    obtain ⟨Cc, hCc, ys, rr, hnm, hR, rest, hre⟩ := hRx
    rcases List.mem_singleton.mp hCc with rfl
    have y1 : nv ys 1 = nv α1 5 := nm_nv hnm (i := 1) (v := 5) rfl
    have q601 : wyF S := by
      have h := H0.2.2.2.2.2.2.2.2.1 601 (by decide +kernel)
      rw [wd_fl2, if_neg (by decide)] at h
      exact h
    obtain ⟨v, v1, v2, v3⟩ := hR
    have hv := hd_rv H1 (i := 7) rfl rfl rfl hre (Sum.inl.inj v1)
    obtain ⟨p1, p2⟩ := hp
    have e0 := fr_pl hfr 572 0 (by decide +kernel)
    have eA := fr_cs hfr 574 577 (0, 0, 0) (by decide +kernel) (k := 574 + (nv xs 2).toNat) (j := 0) (by omega) (by omega) (pg_mk (by omega) (by omega) (by omega))
    have bA := q_rg_in (q := ((574, 577), (0, 0, 0), (0, 0, 11, 1))) (by decide +kernel) H0 (574 + (nv xs 2).toNat) 0 (by show 574 ≤ _; omega) (by show _ ≤ 577; omega) (pg_mk (by omega) (by omega) (by omega))
    have bA2 : 0 ≤ (S.1 (574 + (nv xs 2).toNat) 0).toInt ∧ (S.1 (574 + (nv xs 2).toNat) 0).toInt ≤ 11 := ⟨bA.2.2.1, bA.2.2.2.1⟩
    rw [p1] at e0 eA v3
    rw [hv] at v3
    refine ih.2.1 _ _ _ _ Ha ?_ ?_
    · rw [m3, m5]
      refine ⟨by omega, by rw [e0]; exact hpre.1, fun h0 => ?_⟩
      obtain ⟨a, ha⟩ := v3 h0
      exact wk_start q601 ha bA2 hpre.2 h0 (congrArg Int32.toInt eA)
    · omega
set_option maxHeartbeats 16000000 in
set_option maxRecDepth 8000 in
theorem kh_work_h39 {l : Launch} {D : va_G} {tc : Nat → ClassId} {ad : Nat → Nat} {kd : Nat → Nat × Nat} {N : Nat} {sm : Nat → Nat} {xs : List av_X} {S : fw_S} {p : Program} {e : Env} {s : State} {m : MethodId} {args : Array Value} {below : List Frame} {meth : Method} {c : Code} {sz : Nat} {lvE : List (Nat × Value)} (G : hd_C wd_ff2 wd_fl2 kh_work [kh_spotOf, kh_trace] kh_work_y l D tc ad kd N sm xs p s m args meth c sz) (H0 : as_in ad sm wd_fl2 xs S kh_work.2.2.2.2.2.1 xs (hd_0 kh_work) lvE [] S) (hpre : P_work xs S) {k : Nat} (ih : kh_work_I l D tc ad kd N sm xs S p e s m args below meth c sz k) : (∀ (α : List av_X) (lv : List (Nat × Value)) (st : List Value) (S1 : fw_S), as_in ad sm wd_fl2 xs S kh_work.2.2.2.2.2.1 α kh_work_a39.2.2.1 lv st S1 → (nv α 3 = 574 + nv xs 2 ∧ nv xs 2 < (S1.1 572 0).toInt ∧ (0 ≤ nv α 5 → wkI S S1 (nv xs 2) (nv α 5) 0)) → 90000 < k + 1 → hd_WR R_any wd_fl2 kh_work kh_work_y l D tc ad kd N sm xs S p e s m args below meth c sz 39 lv st S1 0) := by
  have hx : xs.length = 3 := by rw [H0.2.1.1]; rfl
  have x2 := (en_nv (i := 2) H0.2.1 rfl).2
  change 0 ≤ nv xs 2 ∧ nv xs 2 ≤ 3 at x2
  intro α lv st S1 H hp hk
  obtain ⟨α1, hle, Hr⟩ := as_recM (pl := []) [] (by decide +kernel) H
  have hf := H.2.2.2.2.2.2.2.2.2.2.1
  have hl1 : α1.length = 6 := by rw [Hr.2.1.1]; rfl
  have hl0 : α.length = 6 := by rw [H.2.1.1]; rfl
  have hxa : al_le xs α1 := H.1.trans hle
  obtain ⟨g1, -, g3, g4, -⟩ := as_fx Hr
  have g0 : (572 ≤ nv α1 0 ∧ nv α1 0 ≤ 572) ∧ (1 ≤ nv α1 1 ∧ nv α1 1 ≤ 1) ∧ (0 ≤ nv α1 2 ∧ nv α1 2 ≤ 3) ∧ (574 ≤ nv α1 3 ∧ nv α1 3 ≤ 577) ∧ (0 ≤ nv α1 4 ∧ nv α1 4 ≤ 11) ∧ ((-1) ≤ nv α1 5 ∧ nv α1 5 ≤ 11) ∧ True := by
    refine ⟨by have h := (en_nv (i := 0) Hr.2.1 rfl).2; exact h, by have h := (en_nv (i := 1) Hr.2.1 rfl).2; exact h, by have h := (en_nv (i := 2) Hr.2.1 rfl).2; exact h, by have h := (en_nv (i := 3) Hr.2.1 rfl).2; exact h, by have h := (en_nv (i := 4) Hr.2.1 rfl).2; exact h, by have h := (en_nv (i := 5) Hr.2.1 rfl).2; exact h, trivial⟩
  have r0 : nv α1 0 = nv α 0 := nv_le hle (by omega)
  have r1 : nv α1 1 = nv α 1 := nv_le hle (by omega)
  have r2 : nv α1 2 = nv α 2 := nv_le hle (by omega)
  have r3 : nv α1 3 = nv α 3 := nv_le hle (by omega)
  have r4 : nv α1 4 = nv α 4 := nv_le hle (by omega)
  have r5 : nv α1 5 = nv α 5 := nv_le hle (by omega)
  refine hd_segMR G (na := 6) (fuel := 600) (first := true) (Bs := [kh_work_b39_0]) (by decide +kernel) hl1 Hr ?_
  intro q hq β lv' st' S' H1
  simp only [List.mem_cons, List.not_mem_nil, or_false] at hq
  rcases hq with rfl
  · obtain ⟨f1, f2, f3, f4, f5⟩ := as_fx H1
    simp only [kh_work_b39_0, Nat.reduceEqDiff, if_false, fx_env, fx_c, fx_ne, fx_hf, wl_S, Nat.zero_add, Nat.reduceAdd, Nat.reduceDiv, Nat.reduceMod, List.getElem?_cons_zero, List.getElem?_cons_succ, if_true, and_true, true_and] at f1 f2 f3 f4 f5
    have fe0 : nv β 0 = 572 := by omega
    have fe1 : nv β 1 = 1 := by omega
    have fe6 : nv β 6 = 0 := by omega
    try simp only [fe0, fe1, fe6, Int.reduceToNat] at f2 f3 f4 f5
    have s0 : nv β 0 = nv α1 0 := nv_le H1.1 (by omega)
    have s1 : nv β 1 = nv α1 1 := nv_le H1.1 (by omega)
    have s2 : nv β 2 = nv α1 2 := nv_le H1.1 (by omega)
    have s3 : nv β 3 = nv α1 3 := nv_le H1.1 (by omega)
    have s4 : nv β 4 = nv α1 4 := nv_le H1.1 (by omega)
    have s5 : nv β 5 = nv α1 5 := nv_le H1.1 (by omega)
    obtain ⟨α', Ha, hm⟩ := hd_gpM (q := kh_work_a44) (n := 0) (by decide +kernel) hx H1 (by decide +kernel) hxa hf
    have hfr := H1.2.2.2.2.2.2.2.2.2.2.1
    have m0 : nv α' 0 = nv β 0 := hm 0 0 rfl
    have m1 : nv α' 1 = nv β 1 := hm 1 1 rfl
    have m2 : nv α' 2 = nv β 2 := hm 2 2 rfl
    have m3 : nv α' 3 = nv β 3 := hm 3 3 rfl
    have m4 : nv α' 4 = nv β 4 := hm 4 4 rfl
    have m5 : nv α' 5 = nv β 5 := hm 5 5 rfl
    have m6 : nv α' 6 = nv β 6 := hm 6 6 rfl
    have e5 : S' = S1 := f5
    obtain ⟨p1, p2, p3⟩ := hp
    have e9 : nv β 5 = nv α 5 := by omega
    refine ih.2.2.1 _ _ _ _ Ha ?_ ?_
    · rw [e5, m3, m5, m6, e9, show nv β 6 = 0 by omega]
      exact ⟨by omega, p2, by omega, p3⟩
    · omega
set_option maxHeartbeats 16000000 in
set_option maxRecDepth 8000 in
theorem kh_work_h44 {l : Launch} {D : va_G} {tc : Nat → ClassId} {ad : Nat → Nat} {kd : Nat → Nat × Nat} {N : Nat} {sm : Nat → Nat} {xs : List av_X} {S : fw_S} {p : Program} {e : Env} {s : State} {m : MethodId} {args : Array Value} {below : List Frame} {meth : Method} {c : Code} {sz : Nat} {lvE : List (Nat × Value)} (G : hd_C wd_ff2 wd_fl2 kh_work [kh_spotOf, kh_trace] kh_work_y l D tc ad kd N sm xs p s m args meth c sz) (H0 : as_in ad sm wd_fl2 xs S kh_work.2.2.2.2.2.1 xs (hd_0 kh_work) lvE [] S) (hpre : P_work xs S) {k : Nat} (ih : kh_work_I l D tc ad kd N sm xs S p e s m args below meth c sz k) : (∀ (α : List av_X) (lv : List (Nat × Value)) (st : List Value) (S1 : fw_S), as_in ad sm wd_fl2 xs S kh_work.2.2.2.2.2.1 α kh_work_a44.2.2.1 lv st S1 → (nv α 3 = 574 + nv xs 2 ∧ nv xs 2 < (S1.1 572 0).toInt ∧ 0 ≤ nv α 6 ∧ (0 ≤ nv α 5 → wkI S S1 (nv xs 2) (nv α 5) (nv α 6))) → 5000 + (20 - nv α 6).toNat * 2 + 1 < k + 1 → hd_WR R_any wd_fl2 kh_work kh_work_y l D tc ad kd N sm xs S p e s m args below meth c sz 44 lv st S1 0) := by
  have hx : xs.length = 3 := by rw [H0.2.1.1]; rfl
  have x2 := (en_nv (i := 2) H0.2.1 rfl).2
  change 0 ≤ nv xs 2 ∧ nv xs 2 ≤ 3 at x2
  intro α lv st S1 H hp hk
  obtain ⟨α1, hle, Hr⟩ := as_recM (pl := []) [] (by decide +kernel) H
  have hf := H.2.2.2.2.2.2.2.2.2.2.1
  have hl1 : α1.length = 7 := by rw [Hr.2.1.1]; rfl
  have hl0 : α.length = 7 := by rw [H.2.1.1]; rfl
  have hxa : al_le xs α1 := H.1.trans hle
  obtain ⟨g1, -, g3, g4, -⟩ := as_fx Hr
  have g0 : (572 ≤ nv α1 0 ∧ nv α1 0 ≤ 572) ∧ (1 ≤ nv α1 1 ∧ nv α1 1 ≤ 1) ∧ (0 ≤ nv α1 2 ∧ nv α1 2 ≤ 3) ∧ (574 ≤ nv α1 3 ∧ nv α1 3 ≤ 577) ∧ (0 ≤ nv α1 4 ∧ nv α1 4 ≤ 11) ∧ ((-1) ≤ nv α1 5 ∧ nv α1 5 ≤ 11) ∧ (0 ≤ nv α1 6 ∧ nv α1 6 ≤ 4) ∧ True := by
    refine ⟨by have h := (en_nv (i := 0) Hr.2.1 rfl).2; exact h, by have h := (en_nv (i := 1) Hr.2.1 rfl).2; exact h, by have h := (en_nv (i := 2) Hr.2.1 rfl).2; exact h, by have h := (en_nv (i := 3) Hr.2.1 rfl).2; exact h, by have h := (en_nv (i := 4) Hr.2.1 rfl).2; exact h, by have h := (en_nv (i := 5) Hr.2.1 rfl).2; exact h, by have h := (en_nv (i := 6) Hr.2.1 rfl).2; exact h, trivial⟩
  have r0 : nv α1 0 = nv α 0 := nv_le hle (by omega)
  have r1 : nv α1 1 = nv α 1 := nv_le hle (by omega)
  have r2 : nv α1 2 = nv α 2 := nv_le hle (by omega)
  have r3 : nv α1 3 = nv α 3 := nv_le hle (by omega)
  have r4 : nv α1 4 = nv α 4 := nv_le hle (by omega)
  have r5 : nv α1 5 = nv α 5 := nv_le hle (by omega)
  have r6 : nv α1 6 = nv α 6 := nv_le hle (by omega)
  refine hd_segMR G (na := 7) (fuel := 600) (first := true) (Bs := [kh_work_b44_0, kh_work_b44_1, kh_work_b44_2, kh_work_b44_3, kh_work_b44_4]) (by decide +kernel) hl1 Hr ?_
  intro q hq β lv' st' S' H1
  simp only [List.mem_cons, List.not_mem_nil, or_false] at hq
  rcases hq with rfl | rfl | rfl | rfl | rfl
  · obtain ⟨f1, f2, f3, f4, f5⟩ := as_fx H1
    simp only [kh_work_b44_0, Nat.reduceEqDiff, if_false, fx_env, fx_c, fx_ne, fx_hf, wl_S, Nat.zero_add, Nat.reduceAdd, Nat.reduceDiv, Nat.reduceMod, List.getElem?_cons_zero, List.getElem?_cons_succ, if_true, and_true, true_and] at f1 f2 f3 f4 f5
    have fe0 : nv β 0 = 572 := by omega
    have fe1 : nv β 1 = 1 := by omega
    have fe7 : nv β 7 = 5 := by omega
    have fe8 : nv β 8 = 0 := by omega
    have fe9 : nv β 9 = 1 := by omega
    have fe10 : nv β 10 = 1 := by omega
    have fe11 : nv β 11 = 0 := by omega
    try simp only [fe0, fe1, fe7, fe8, fe9, fe10, fe11, Int.reduceToNat] at f2 f3 f4 f5
    have s0 : nv β 0 = nv α1 0 := nv_le H1.1 (by omega)
    have s1 : nv β 1 = nv α1 1 := nv_le H1.1 (by omega)
    have s2 : nv β 2 = nv α1 2 := nv_le H1.1 (by omega)
    have s3 : nv β 3 = nv α1 3 := nv_le H1.1 (by omega)
    have s4 : nv β 4 = nv α1 4 := nv_le H1.1 (by omega)
    have s5 : nv β 5 = nv α1 5 := nv_le H1.1 (by omega)
    have s6 : nv β 6 = nv α1 6 := nv_le H1.1 (by omega)
    obtain ⟨c0, c1, c2⟩ := f2
    obtain ⟨α', Ha, hm⟩ := hd_gpM (q := kh_work_a114) (n := 0) (by decide +kernel) hx H1 (by decide +kernel) hxa hf
    have hfr := H1.2.2.2.2.2.2.2.2.2.2.1
    have m0 : nv α' 0 = nv β 0 := hm 0 0 rfl
    have m1 : nv α' 1 = nv β 1 := hm 1 1 rfl
    have m2 : nv α' 2 = nv β 2 := hm 2 2 rfl
    have m3 : nv α' 3 = nv β 3 := hm 3 3 rfl
    have m4 : nv α' 4 = nv β 4 := hm 4 4 rfl
    have m5 : nv α' 5 = nv β 5 := hm 5 5 rfl
    have m6 : nv α' 6 = nv β 10 := hm 6 10 rfl
    have m7 : nv α' 7 = nv β 11 := hm 7 11 rfl
    have e5 : S' = S1 := f5
    refine ih.2.2.2.2.1 _ _ _ _ Ha ?_ ?_
    · rw [e5, m3]
      exact ⟨by omega, hp.2.1⟩
    · omega
  · obtain ⟨f1, f2, f3, f4, f5⟩ := as_fx H1
    simp only [kh_work_b44_1, Nat.reduceEqDiff, if_false, fx_env, fx_c, fx_ne, fx_hf, wl_S, Nat.zero_add, Nat.reduceAdd, Nat.reduceDiv, Nat.reduceMod, List.getElem?_cons_zero, List.getElem?_cons_succ, if_true, and_true, true_and] at f1 f2 f3 f4 f5
    have fe0 : nv β 0 = 572 := by omega
    have fe1 : nv β 1 = 1 := by omega
    have fe7 : nv β 7 = 5 := by omega
    have fe8 : nv β 8 = 1 := by omega
    have fe9 : nv β 9 = 1 := by omega
    have fe10 : nv β 10 = 2 := by omega
    have fe11 : nv β 11 = 0 := by omega
    try simp only [fe0, fe1, fe7, fe8, fe9, fe10, fe11, Int.reduceToNat] at f2 f3 f4 f5
    have s0 : nv β 0 = nv α1 0 := nv_le H1.1 (by omega)
    have s1 : nv β 1 = nv α1 1 := nv_le H1.1 (by omega)
    have s2 : nv β 2 = nv α1 2 := nv_le H1.1 (by omega)
    have s3 : nv β 3 = nv α1 3 := nv_le H1.1 (by omega)
    have s4 : nv β 4 = nv α1 4 := nv_le H1.1 (by omega)
    have s5 : nv β 5 = nv α1 5 := nv_le H1.1 (by omega)
    have s6 : nv β 6 = nv α1 6 := nv_le H1.1 (by omega)
    obtain ⟨c0, c1, c2⟩ := f2
    obtain ⟨α', Ha, hm⟩ := hd_gpM (q := kh_work_a114) (n := 0) (by decide +kernel) hx H1 (by decide +kernel) hxa hf
    have hfr := H1.2.2.2.2.2.2.2.2.2.2.1
    have m0 : nv α' 0 = nv β 0 := hm 0 0 rfl
    have m1 : nv α' 1 = nv β 1 := hm 1 1 rfl
    have m2 : nv α' 2 = nv β 2 := hm 2 2 rfl
    have m3 : nv α' 3 = nv β 3 := hm 3 3 rfl
    have m4 : nv α' 4 = nv β 4 := hm 4 4 rfl
    have m5 : nv α' 5 = nv β 5 := hm 5 5 rfl
    have m6 : nv α' 6 = nv β 10 := hm 6 10 rfl
    have m7 : nv α' 7 = nv β 11 := hm 7 11 rfl
    have e5 : S' = S1 := f5
    refine ih.2.2.2.2.1 _ _ _ _ Ha ?_ ?_
    · rw [e5, m3]
      exact ⟨by omega, hp.2.1⟩
    · omega
  · obtain ⟨f1, f2, f3, f4, f5⟩ := as_fx H1
    simp only [kh_work_b44_2, Nat.reduceEqDiff, if_false, fx_env, fx_c, fx_ne, fx_hf, wl_S, Nat.zero_add, Nat.reduceAdd, Nat.reduceDiv, Nat.reduceMod, List.getElem?_cons_zero, List.getElem?_cons_succ, if_true, and_true, true_and] at f1 f2 f3 f4 f5
    have fe0 : nv β 0 = 572 := by omega
    have fe1 : nv β 1 = 1 := by omega
    have fe7 : nv β 7 = 2 := by omega
    have fe9 : nv β 9 = 5 := by omega
    have fe10 : nv β 10 = 0 := by omega
    have fe11 : nv β 11 = 1 := by omega
    have fe12 : nv β 12 = 1 := by omega
    have fe13 : nv β 13 = 0 := by omega
    try simp only [fe0, fe1, fe7, fe9, fe10, fe11, fe12, fe13, Int.reduceToNat] at f2 f3 f4 f5
    have s0 : nv β 0 = nv α1 0 := nv_le H1.1 (by omega)
    have s1 : nv β 1 = nv α1 1 := nv_le H1.1 (by omega)
    have s2 : nv β 2 = nv α1 2 := nv_le H1.1 (by omega)
    have s3 : nv β 3 = nv α1 3 := nv_le H1.1 (by omega)
    have s4 : nv β 4 = nv α1 4 := nv_le H1.1 (by omega)
    have s5 : nv β 5 = nv α1 5 := nv_le H1.1 (by omega)
    have s6 : nv β 6 = nv α1 6 := nv_le H1.1 (by omega)
    obtain ⟨c0, c1, c2, c3, c4⟩ := f2
    obtain ⟨α', Ha, hm⟩ := hd_gpM (q := kh_work_a114) (n := 0) (by decide +kernel) hx H1 (by decide +kernel) hxa hf
    have hfr := H1.2.2.2.2.2.2.2.2.2.2.1
    have m0 : nv α' 0 = nv β 0 := hm 0 0 rfl
    have m1 : nv α' 1 = nv β 1 := hm 1 1 rfl
    have m2 : nv α' 2 = nv β 2 := hm 2 2 rfl
    have m3 : nv α' 3 = nv β 3 := hm 3 3 rfl
    have m4 : nv α' 4 = nv β 4 := hm 4 4 rfl
    have m5 : nv α' 5 = nv β 5 := hm 5 5 rfl
    have m6 : nv α' 6 = nv β 12 := hm 6 12 rfl
    have m7 : nv α' 7 = nv β 13 := hm 7 13 rfl
    have e5 : S' = S1 := f5
    refine ih.2.2.2.2.1 _ _ _ _ Ha ?_ ?_
    · rw [e5, m3]
      exact ⟨by omega, hp.2.1⟩
    · omega
  · obtain ⟨f1, f2, f3, f4, f5⟩ := as_fx H1
    simp only [kh_work_b44_3, Nat.reduceEqDiff, if_false, fx_env, fx_c, fx_ne, fx_hf, wl_S, Nat.zero_add, Nat.reduceAdd, Nat.reduceDiv, Nat.reduceMod, List.getElem?_cons_zero, List.getElem?_cons_succ, if_true, and_true, true_and] at f1 f2 f3 f4 f5
    have fe0 : nv β 0 = 572 := by omega
    have fe1 : nv β 1 = 1 := by omega
    have fe7 : nv β 7 = 2 := by omega
    have fe9 : nv β 9 = 5 := by omega
    have fe10 : nv β 10 = 1 := by omega
    have fe11 : nv β 11 = 1 := by omega
    have fe12 : nv β 12 = 2 := by omega
    have fe13 : nv β 13 = 0 := by omega
    try simp only [fe0, fe1, fe7, fe9, fe10, fe11, fe12, fe13, Int.reduceToNat] at f2 f3 f4 f5
    have s0 : nv β 0 = nv α1 0 := nv_le H1.1 (by omega)
    have s1 : nv β 1 = nv α1 1 := nv_le H1.1 (by omega)
    have s2 : nv β 2 = nv α1 2 := nv_le H1.1 (by omega)
    have s3 : nv β 3 = nv α1 3 := nv_le H1.1 (by omega)
    have s4 : nv β 4 = nv α1 4 := nv_le H1.1 (by omega)
    have s5 : nv β 5 = nv α1 5 := nv_le H1.1 (by omega)
    have s6 : nv β 6 = nv α1 6 := nv_le H1.1 (by omega)
    obtain ⟨c0, c1, c2, c3, c4⟩ := f2
    obtain ⟨α', Ha, hm⟩ := hd_gpM (q := kh_work_a114) (n := 0) (by decide +kernel) hx H1 (by decide +kernel) hxa hf
    have hfr := H1.2.2.2.2.2.2.2.2.2.2.1
    have m0 : nv α' 0 = nv β 0 := hm 0 0 rfl
    have m1 : nv α' 1 = nv β 1 := hm 1 1 rfl
    have m2 : nv α' 2 = nv β 2 := hm 2 2 rfl
    have m3 : nv α' 3 = nv β 3 := hm 3 3 rfl
    have m4 : nv α' 4 = nv β 4 := hm 4 4 rfl
    have m5 : nv α' 5 = nv β 5 := hm 5 5 rfl
    have m6 : nv α' 6 = nv β 12 := hm 6 12 rfl
    have m7 : nv α' 7 = nv β 13 := hm 7 13 rfl
    have e5 : S' = S1 := f5
    refine ih.2.2.2.2.1 _ _ _ _ Ha ?_ ?_
    · rw [e5, m3]
      exact ⟨by omega, hp.2.1⟩
    · omega
  · obtain ⟨f1, f2, f3, f4, f5⟩ := as_fx H1
    simp only [kh_work_b44_4, Nat.reduceEqDiff, if_false, fx_env, fx_c, fx_ne, fx_hf, wl_S, Nat.zero_add, Nat.reduceAdd, Nat.reduceDiv, Nat.reduceMod, List.getElem?_cons_zero, List.getElem?_cons_succ, if_true, and_true, true_and] at f1 f2 f3 f4 f5
    have fe0 : nv β 0 = 572 := by omega
    have fe1 : nv β 1 = 1 := by omega
    have fe7 : nv β 7 = 2 := by omega
    have fe9 : nv β 9 = 2 := by omega
    have fe10 : nv β 10 = 7 := by omega
    have fe12 : nv β 12 = 0 := by omega
    have fe18 : nv β 18 = 0 := by omega
    try simp only [fe0, fe1, fe7, fe9, fe10, fe12, fe18, Int.reduceToNat] at f2 f3 f4 f5
    have s0 : nv β 0 = nv α1 0 := nv_le H1.1 (by omega)
    have s1 : nv β 1 = nv α1 1 := nv_le H1.1 (by omega)
    have s2 : nv β 2 = nv α1 2 := nv_le H1.1 (by omega)
    have s3 : nv β 3 = nv α1 3 := nv_le H1.1 (by omega)
    have s4 : nv β 4 = nv α1 4 := nv_le H1.1 (by omega)
    have s5 : nv β 5 = nv α1 5 := nv_le H1.1 (by omega)
    have s6 : nv β 6 = nv α1 6 := nv_le H1.1 (by omega)
    obtain ⟨c0, c1, c2, c3, c4, c5, c6, c7, c8⟩ := f2
    obtain ⟨α', Ha, hm⟩ := hd_gpM (q := kh_work_a90) (n := 0) (by decide +kernel) hx H1 (by decide +kernel) hxa hf
    have hfr := H1.2.2.2.2.2.2.2.2.2.2.1
    have m0 : nv α' 0 = nv β 0 := hm 0 0 rfl
    have m1 : nv α' 1 = nv β 1 := hm 1 1 rfl
    have m2 : nv α' 2 = nv β 2 := hm 2 2 rfl
    have m3 : nv α' 3 = nv β 3 := hm 3 3 rfl
    have m4 : nv α' 4 = nv β 4 := hm 4 4 rfl
    have m5 : nv α' 5 = nv β 5 := hm 5 5 rfl
    have m6 : nv α' 6 = nv β 6 := hm 6 6 rfl
    have m7 : nv α' 7 = nv β 11 := hm 7 11 rfl
    have m8 : nv α' 8 = nv β 20 := hm 8 20 rfl
    have m9 : nv α' 9 = nv β 12 := hm 9 12 rfl
    have m10 : nv α' 10 = nv β 3 := hm 10 3 rfl
    have o1 := old_i c1 (en_nv (i := 19) H1.2.1 rfl).1
    have o5 := old_0 c5 rfl
    have o7 := old_i c7 (en_nv (i := 8) H1.2.1 rfl).1
    have e5 : S' = S1 := f5
    have t0 := tb_low c4
    have t1 := tb_high c3
    obtain ⟨p1, p2, p3, p4⟩ := hp
    have w0 := p4 (by omega)
    have u1 : yT S1 (nv α 6) = nv β 11 := by
      show (S1.1 7 (nv α 6).toNat).toInt = _
      rw [show nv α 6 = nv β 6 by omega]
      exact o5
    have u2 : (S1.1 (574 + (nv xs 2).toNat) 0).toInt = nv β 19 := by rw [show 574 + (nv xs 2).toNat = (nv β 3).toNat by omega]; exact o1
    have u3 : nv β 20 = othT (yT S1 (nv α 6)) ((S1.1 (574 + (nv xs 2).toNat) 0).toInt) := by
      rw [u1, u2]
      unfold othT
      rw [← t0, ← t1]
      omega
    have w1 := (wk_next w0 (by omega) u3).1
    refine ih.2.2.2.1 _ _ _ _ Ha ?_ ?_
    · rw [e5, m3, m5, m6, m8, m10, show nv β 5 = nv α 5 by omega, show nv β 6 = nv α 6 by omega]
      exact ⟨by omega, p2, by omega, p3, w0, by omega, u3, w1⟩
    · omega
set_option maxHeartbeats 16000000 in
set_option maxRecDepth 8000 in
theorem kh_work_h90 {l : Launch} {D : va_G} {tc : Nat → ClassId} {ad : Nat → Nat} {kd : Nat → Nat × Nat} {N : Nat} {sm : Nat → Nat} {xs : List av_X} {S : fw_S} {p : Program} {e : Env} {s : State} {m : MethodId} {args : Array Value} {below : List Frame} {meth : Method} {c : Code} {sz : Nat} {lvE : List (Nat × Value)} (G : hd_C wd_ff2 wd_fl2 kh_work [kh_spotOf, kh_trace] kh_work_y l D tc ad kd N sm xs p s m args meth c sz) (H0 : as_in ad sm wd_fl2 xs S kh_work.2.2.2.2.2.1 xs (hd_0 kh_work) lvE [] S) (hpre : P_work xs S) {k : Nat} (ih : kh_work_I l D tc ad kd N sm xs S p e s m args below meth c sz k) : (∀ (α : List av_X) (lv : List (Nat × Value)) (st : List Value) (S1 : fw_S), as_in ad sm wd_fl2 xs S kh_work.2.2.2.2.2.1 α kh_work_a90.2.2.1 lv st S1 → (nv α 3 = 574 + nv xs 2 ∧ nv xs 2 < (S1.1 572 0).toInt ∧ nv α 10 = 574 + nv xs 2 ∧ 0 ≤ nv α 6 ∧ wkI S S1 (nv xs 2) (nv α 5) (nv α 6) ∧ nv α 6 < nv α 5 ∧ nv α 8 = othT (yT S1 (nv α 6)) ((S1.1 (574 + (nv xs 2).toNat) 0).toInt) ∧ (0 ≤ nv α 8 ∧ nv α 8 ≤ 11)) → 5000 + (20 - nv α 6).toNat * 2 < k + 1 → hd_WR R_any wd_fl2 kh_work kh_work_y l D tc ad kd N sm xs S p e s m args below meth c sz 90 lv st S1 0) := by
  have hx : xs.length = 3 := by rw [H0.2.1.1]; rfl
  have x2 := (en_nv (i := 2) H0.2.1 rfl).2
  change 0 ≤ nv xs 2 ∧ nv xs 2 ≤ 3 at x2
  intro α lv st S1 H hp hk
  have bp := (en_nv (i := 8) H.2.1 rfl).2
  change (-10) ≤ nv α 8 ∧ nv α 8 ≤ 21 at bp
  replace H := as_clamp (i := 8) (lo := 0) (hi := 11) H rfl rfl (by exact hp.2.2.2.2.2.2.2.1) (by exact hp.2.2.2.2.2.2.2.2) (by decide)
  obtain ⟨α1, hle, Hr⟩ := as_recM (pl := []) [((574, 577), (0, 0, 0))] (by decide +kernel) H
  have hf := H.2.2.2.2.2.2.2.2.2.2.1
  have hl1 : α1.length = 11 := by rw [Hr.2.1.1]; rfl
  have hl0 : α.length = 11 := by rw [H.2.1.1]; rfl
  have hxa : al_le xs α1 := H.1.trans hle
  obtain ⟨g1, -, g3, g4, -⟩ := as_fx Hr
  have g0 : (572 ≤ nv α1 0 ∧ nv α1 0 ≤ 572) ∧ (1 ≤ nv α1 1 ∧ nv α1 1 ≤ 1) ∧ (0 ≤ nv α1 2 ∧ nv α1 2 ≤ 3) ∧ (574 ≤ nv α1 3 ∧ nv α1 3 ≤ 577) ∧ (0 ≤ nv α1 4 ∧ nv α1 4 ≤ 11) ∧ (1 ≤ nv α1 5 ∧ nv α1 5 ≤ 11) ∧ (0 ≤ nv α1 6 ∧ nv α1 6 ≤ 3) ∧ (0 ≤ nv α1 7 ∧ nv α1 7 ≤ 16) ∧ (0 ≤ nv α1 8 ∧ nv α1 8 ≤ 11) ∧ (0 ≤ nv α1 9 ∧ nv α1 9 ≤ 0) ∧ (574 ≤ nv α1 10 ∧ nv α1 10 ≤ 577) ∧ True := by
    refine ⟨by have h := (en_nv (i := 0) Hr.2.1 rfl).2; exact h, by have h := (en_nv (i := 1) Hr.2.1 rfl).2; exact h, by have h := (en_nv (i := 2) Hr.2.1 rfl).2; exact h, by have h := (en_nv (i := 3) Hr.2.1 rfl).2; exact h, by have h := (en_nv (i := 4) Hr.2.1 rfl).2; exact h, by have h := (en_nv (i := 5) Hr.2.1 rfl).2; exact h, by have h := (en_nv (i := 6) Hr.2.1 rfl).2; exact h, by have h := (en_nv (i := 7) Hr.2.1 rfl).2; exact h, by have h := (en_nv (i := 8) Hr.2.1 rfl).2; exact h, by have h := (en_nv (i := 9) Hr.2.1 rfl).2; exact h, by have h := (en_nv (i := 10) Hr.2.1 rfl).2; exact h, trivial⟩
  have r0 : nv α1 0 = nv α 0 := nv_le hle (by omega)
  have r1 : nv α1 1 = nv α 1 := nv_le hle (by omega)
  have r2 : nv α1 2 = nv α 2 := nv_le hle (by omega)
  have r3 : nv α1 3 = nv α 3 := nv_le hle (by omega)
  have r4 : nv α1 4 = nv α 4 := nv_le hle (by omega)
  have r5 : nv α1 5 = nv α 5 := nv_le hle (by omega)
  have r6 : nv α1 6 = nv α 6 := nv_le hle (by omega)
  have r7 : nv α1 7 = nv α 7 := nv_le hle (by omega)
  have r8 : nv α1 8 = nv α 8 := nv_le hle (by omega)
  have r9 : nv α1 9 = nv α 9 := nv_le hle (by omega)
  have r10 : nv α1 10 = nv α 10 := nv_le hle (by omega)
  refine hd_segMR G (na := 11) (fuel := 600) (first := true) (Bs := [kh_work_b90_0]) (by decide +kernel) hl1 Hr ?_
  intro q hq β lv' st' S' H1
  simp only [List.mem_cons, List.not_mem_nil, or_false] at hq
  rcases hq with rfl
  · obtain ⟨f1, f2, f3, f4, f5⟩ := as_fx H1
    simp only [kh_work_b90_0, Nat.reduceEqDiff, if_false, fx_env, fx_c, fx_ne, fx_hf, wl_S, Nat.zero_add, Nat.reduceAdd, Nat.reduceDiv, Nat.reduceMod, List.getElem?_cons_zero, List.getElem?_cons_succ, if_true, and_true, true_and] at f1 f2 f3 f4 f5
    have fe0 : nv β 0 = 572 := by omega
    have fe1 : nv β 1 = 1 := by omega
    have fe9 : nv β 9 = 0 := by omega
    try simp only [fe0, fe1, fe9, Int.reduceToNat] at f2 f3 f4 f5
    have s0 : nv β 0 = nv α1 0 := nv_le H1.1 (by omega)
    have s1 : nv β 1 = nv α1 1 := nv_le H1.1 (by omega)
    have s2 : nv β 2 = nv α1 2 := nv_le H1.1 (by omega)
    have s3 : nv β 3 = nv α1 3 := nv_le H1.1 (by omega)
    have s4 : nv β 4 = nv α1 4 := nv_le H1.1 (by omega)
    have s5 : nv β 5 = nv α1 5 := nv_le H1.1 (by omega)
    have s6 : nv β 6 = nv α1 6 := nv_le H1.1 (by omega)
    have s7 : nv β 7 = nv α1 7 := nv_le H1.1 (by omega)
    have s8 : nv β 8 = nv α1 8 := nv_le H1.1 (by omega)
    have s9 : nv β 9 = nv α1 9 := nv_le H1.1 (by omega)
    have s10 : nv β 10 = nv α1 10 := nv_le H1.1 (by omega)
    obtain ⟨α', Ha, hm⟩ := hd_gpM (q := kh_work_a44) (n := 0) (by decide +kernel) hx H1 (by decide +kernel) hxa hf
    have hfr := H1.2.2.2.2.2.2.2.2.2.2.1
    have m0 : nv α' 0 = nv β 0 := hm 0 0 rfl
    have m1 : nv α' 1 = nv β 1 := hm 1 1 rfl
    have m2 : nv α' 2 = nv β 2 := hm 2 2 rfl
    have m3 : nv α' 3 = nv β 3 := hm 3 3 rfl
    have m4 : nv α' 4 = nv β 4 := hm 4 4 rfl
    have m5 : nv α' 5 = nv β 5 := hm 5 5 rfl
    have m6 : nv α' 6 = nv β 11 := hm 6 11 rfl
    have wA : ∀ a b : Nat, S'.1 a b = (if a = (nv β 10).toNat ∧ b = 0 then Int32.ofInt (nv β 8) else (S1.1 a b)) := fun a b => by rw [f5]; rfl
    obtain ⟨p1, p2, p3, p4, p5, p6, p7, p8⟩ := hp
    have w1 := (wk_next p5 p6 p7).2 S' (fun j => by
      show (S'.1 7 j.toNat).toInt = (S1.1 7 j.toNat).toInt
      rw [wA, if_neg (by omega)]) (by
      rw [wA, if_pos ⟨by omega, rfl⟩, i32_of (by omega) (by omega)]
      omega)
    have e0 : S'.1 572 0 = S1.1 572 0 := by rw [wA, if_neg (by omega)]
    refine ih.2.2.1 _ _ _ _ Ha ?_ ?_
    · rw [m3, m5, m6, e0, show nv β 5 = nv α 5 by omega, show nv β 11 = nv α 6 + 1 by omega]
      exact ⟨by omega, p2, by omega, fun _ => w1⟩
    · omega
set_option maxHeartbeats 16000000 in
set_option maxRecDepth 8000 in
theorem kh_work_h114 {l : Launch} {D : va_G} {tc : Nat → ClassId} {ad : Nat → Nat} {kd : Nat → Nat × Nat} {N : Nat} {sm : Nat → Nat} {xs : List av_X} {S : fw_S} {p : Program} {e : Env} {s : State} {m : MethodId} {args : Array Value} {below : List Frame} {meth : Method} {c : Code} {sz : Nat} {lvE : List (Nat × Value)} (G : hd_C wd_ff2 wd_fl2 kh_work [kh_spotOf, kh_trace] kh_work_y l D tc ad kd N sm xs p s m args meth c sz) (H0 : as_in ad sm wd_fl2 xs S kh_work.2.2.2.2.2.1 xs (hd_0 kh_work) lvE [] S) (hpre : P_work xs S) {k : Nat} (ih : kh_work_I l D tc ad kd N sm xs S p e s m args below meth c sz k) : (∀ (α : List av_X) (lv : List (Nat × Value)) (st : List Value) (S1 : fw_S), as_in ad sm wd_fl2 xs S kh_work.2.2.2.2.2.1 α kh_work_a114.2.2.1 lv st S1 → (nv α 3 = 574 + nv xs 2 ∧ nv xs 2 < (S1.1 572 0).toInt) → (nv α 6 - nv α 7).toNat * 10 + 5 < k + 1 → hd_WR R_any wd_fl2 kh_work kh_work_y l D tc ad kd N sm xs S p e s m args below meth c sz 114 lv st S1 0) := by
  have hx : xs.length = 3 := by rw [H0.2.1.1]; rfl
  have x2 := (en_nv (i := 2) H0.2.1 rfl).2
  change 0 ≤ nv xs 2 ∧ nv xs 2 ≤ 3 at x2
  intro α lv st S1 H hp hk
  obtain ⟨α1, hle, Hr⟩ := as_recM (pl := []) [] (by decide +kernel) H
  have hf := H.2.2.2.2.2.2.2.2.2.2.1
  have hl1 : α1.length = 8 := by rw [Hr.2.1.1]; rfl
  have hl0 : α.length = 8 := by rw [H.2.1.1]; rfl
  have hxa : al_le xs α1 := H.1.trans hle
  obtain ⟨g1, -, g3, g4, -⟩ := as_fx Hr
  have g0 : (572 ≤ nv α1 0 ∧ nv α1 0 ≤ 572) ∧ (1 ≤ nv α1 1 ∧ nv α1 1 ≤ 1) ∧ (0 ≤ nv α1 2 ∧ nv α1 2 ≤ 3) ∧ (574 ≤ nv α1 3 ∧ nv α1 3 ≤ 577) ∧ (0 ≤ nv α1 4 ∧ nv α1 4 ≤ 11) ∧ ((-1) ≤ nv α1 5 ∧ nv α1 5 ≤ 11) ∧ (1 ≤ nv α1 6 ∧ nv α1 6 ≤ 2) ∧ (0 ≤ nv α1 7 ∧ nv α1 7 ≤ 2) ∧ True := by
    refine ⟨by have h := (en_nv (i := 0) Hr.2.1 rfl).2; exact h, by have h := (en_nv (i := 1) Hr.2.1 rfl).2; exact h, by have h := (en_nv (i := 2) Hr.2.1 rfl).2; exact h, by have h := (en_nv (i := 3) Hr.2.1 rfl).2; exact h, by have h := (en_nv (i := 4) Hr.2.1 rfl).2; exact h, by have h := (en_nv (i := 5) Hr.2.1 rfl).2; exact h, by have h := (en_nv (i := 6) Hr.2.1 rfl).2; exact h, by have h := (en_nv (i := 7) Hr.2.1 rfl).2; exact h, trivial⟩
  have r0 : nv α1 0 = nv α 0 := nv_le hle (by omega)
  have r1 : nv α1 1 = nv α 1 := nv_le hle (by omega)
  have r2 : nv α1 2 = nv α 2 := nv_le hle (by omega)
  have r3 : nv α1 3 = nv α 3 := nv_le hle (by omega)
  have r4 : nv α1 4 = nv α 4 := nv_le hle (by omega)
  have r5 : nv α1 5 = nv α 5 := nv_le hle (by omega)
  have r6 : nv α1 6 = nv α 6 := nv_le hle (by omega)
  have r7 : nv α1 7 = nv α 7 := nv_le hle (by omega)
  refine hd_segMR G (na := 8) (fuel := 600) (first := true) (Bs := [kh_work_b114_0, kh_work_b114_1, kh_work_b114_2]) (by decide +kernel) hl1 Hr ?_
  intro q hq β lv' st' S' H1
  simp only [List.mem_cons, List.not_mem_nil, or_false] at hq
  rcases hq with rfl | rfl | rfl
  · obtain ⟨f1, f2, f3, f4, f5⟩ := as_fx H1
    simp only [kh_work_b114_0, Nat.reduceEqDiff, if_false, fx_env, fx_c, fx_ne, fx_hf, wl_S, Nat.zero_add, Nat.reduceAdd, Nat.reduceDiv, Nat.reduceMod, List.getElem?_cons_zero, List.getElem?_cons_succ, if_true, and_true, true_and] at f1 f2 f3 f4 f5
    have fe0 : nv β 0 = 572 := by omega
    have fe1 : nv β 1 = 1 := by omega
    try simp only [fe0, fe1, Int.reduceToNat] at f2 f3 f4 f5
    have s0 : nv β 0 = nv α1 0 := nv_le H1.1 (by omega)
    have s1 : nv β 1 = nv α1 1 := nv_le H1.1 (by omega)
    have s2 : nv β 2 = nv α1 2 := nv_le H1.1 (by omega)
    have s3 : nv β 3 = nv α1 3 := nv_le H1.1 (by omega)
    have s4 : nv β 4 = nv α1 4 := nv_le H1.1 (by omega)
    have s5 : nv β 5 = nv α1 5 := nv_le H1.1 (by omega)
    have s6 : nv β 6 = nv α1 6 := nv_le H1.1 (by omega)
    have s7 : nv β 7 = nv α1 7 := nv_le H1.1 (by omega)
    have c0 := f2
    exact hd_retVR G (by decide +kernel) (as_backM H1 (by decide +kernel) hxa hf) (by decide +kernel) (by decide) trivial
  · obtain ⟨f1, f2, f3, f4, f5⟩ := as_fx H1
    simp only [kh_work_b114_1, Nat.reduceEqDiff, if_false, fx_env, fx_c, fx_ne, fx_hf, wl_S, Nat.zero_add, Nat.reduceAdd, Nat.reduceDiv, Nat.reduceMod, List.getElem?_cons_zero, List.getElem?_cons_succ, if_true, and_true, true_and] at f1 f2 f3 f4 f5
    have fe0 : nv β 0 = 572 := by omega
    have fe1 : nv β 1 = 1 := by omega
    have fe8 : nv β 8 = 0 := by omega
    try simp only [fe0, fe1, fe8, Int.reduceToNat] at f2 f3 f4 f5
    have s0 : nv β 0 = nv α1 0 := nv_le H1.1 (by omega)
    have s1 : nv β 1 = nv α1 1 := nv_le H1.1 (by omega)
    have s2 : nv β 2 = nv α1 2 := nv_le H1.1 (by omega)
    have s3 : nv β 3 = nv α1 3 := nv_le H1.1 (by omega)
    have s4 : nv β 4 = nv α1 4 := nv_le H1.1 (by omega)
    have s5 : nv β 5 = nv α1 5 := nv_le H1.1 (by omega)
    have s6 : nv β 6 = nv α1 6 := nv_le H1.1 (by omega)
    have s7 : nv β 7 = nv α1 7 := nv_le H1.1 (by omega)
    obtain ⟨c0, c1, c2⟩ := f2
    exact hd_retVR G (by decide +kernel) (as_backM H1 (by decide +kernel) hxa hf) (by decide +kernel) (by decide) trivial
  · obtain ⟨f1, f2, f3, f4, f5⟩ := as_fx H1
    simp only [kh_work_b114_2, Nat.reduceEqDiff, if_false, fx_env, fx_c, fx_ne, fx_hf, wl_S, Nat.zero_add, Nat.reduceAdd, Nat.reduceDiv, Nat.reduceMod, List.getElem?_cons_zero, List.getElem?_cons_succ, if_true, and_true, true_and] at f1 f2 f3 f4 f5
    have fe0 : nv β 0 = 572 := by omega
    have fe1 : nv β 1 = 1 := by omega
    have fe8 : nv β 8 = 0 := by omega
    try simp only [fe0, fe1, fe8, Int.reduceToNat] at f2 f3 f4 f5
    have s0 : nv β 0 = nv α1 0 := nv_le H1.1 (by omega)
    have s1 : nv β 1 = nv α1 1 := nv_le H1.1 (by omega)
    have s2 : nv β 2 = nv α1 2 := nv_le H1.1 (by omega)
    have s3 : nv β 3 = nv α1 3 := nv_le H1.1 (by omega)
    have s4 : nv β 4 = nv α1 4 := nv_le H1.1 (by omega)
    have s5 : nv β 5 = nv α1 5 := nv_le H1.1 (by omega)
    have s6 : nv β 6 = nv α1 6 := nv_le H1.1 (by omega)
    have s7 : nv β 7 = nv α1 7 := nv_le H1.1 (by omega)
    obtain ⟨c0, c1, c2⟩ := f2
    obtain ⟨α', Ha, hm⟩ := hd_gpM (q := kh_work_a132) (n := 0) (by decide +kernel) hx H1 (by decide +kernel) hxa hf
    have hfr := H1.2.2.2.2.2.2.2.2.2.2.1
    have m0 : nv α' 0 = nv β 0 := hm 0 0 rfl
    have m1 : nv α' 1 = nv β 1 := hm 1 1 rfl
    have m2 : nv α' 2 = nv β 2 := hm 2 2 rfl
    have m3 : nv α' 3 = nv β 3 := hm 3 3 rfl
    have m4 : nv α' 4 = nv β 4 := hm 4 4 rfl
    have m5 : nv α' 5 = nv β 5 := hm 5 5 rfl
    have m6 : nv α' 6 = nv β 6 := hm 6 6 rfl
    have m7 : nv α' 7 = nv β 7 := hm 7 7 rfl
    have e5 : S' = S1 := f5
    refine ih.2.2.2.2.2.1 _ _ _ _ Ha ?_ ?_
    · rw [e5, m3, m6, m7]
      exact ⟨by omega, hp.2, by omega⟩
    · omega
set_option maxHeartbeats 16000000 in
set_option maxRecDepth 8000 in
theorem kh_work_h132 {l : Launch} {D : va_G} {tc : Nat → ClassId} {ad : Nat → Nat} {kd : Nat → Nat × Nat} {N : Nat} {sm : Nat → Nat} {xs : List av_X} {S : fw_S} {p : Program} {e : Env} {s : State} {m : MethodId} {args : Array Value} {below : List Frame} {meth : Method} {c : Code} {sz : Nat} {lvE : List (Nat × Value)} (G : hd_C wd_ff2 wd_fl2 kh_work [kh_spotOf, kh_trace] kh_work_y l D tc ad kd N sm xs p s m args meth c sz) (H0 : as_in ad sm wd_fl2 xs S kh_work.2.2.2.2.2.1 xs (hd_0 kh_work) lvE [] S) (hpre : P_work xs S) {k : Nat} (ih : kh_work_I l D tc ad kd N sm xs S p e s m args below meth c sz k) : (∀ (α : List av_X) (lv : List (Nat × Value)) (st : List Value) (S1 : fw_S), as_in ad sm wd_fl2 xs S kh_work.2.2.2.2.2.1 α kh_work_a132.2.2.1 lv st S1 → (nv α 3 = 574 + nv xs 2 ∧ nv xs 2 < (S1.1 572 0).toInt ∧ nv α 7 < nv α 6) → (nv α 6 - nv α 7).toNat * 10 + 4 < k + 1 → hd_WR R_any wd_fl2 kh_work kh_work_y l D tc ad kd N sm xs S p e s m args below meth c sz 132 lv st S1 0) := by
  have hx : xs.length = 3 := by rw [H0.2.1.1]; rfl
  have x2 := (en_nv (i := 2) H0.2.1 rfl).2
  change 0 ≤ nv xs 2 ∧ nv xs 2 ≤ 3 at x2
  intro α lv st S1 H hp hk
  obtain ⟨α1, hle, Hr⟩ := as_recM (pl := []) [((2, 2), (4, 4, 0)), ((3, 3), (0, 16, 1)), ((4, 4), (0, 11, 1)), ((5, 5), (0, 11, 1)), ((6, 6), (0, 11, 1)), ((10, 60), (0, 0, 0)), ((10, 60), (1, 1, 0)), ((10, 60), (2, 2, 0)), ((10, 60), (3, 3, 0)), ((62, 78), (3, 3, 0)), ((62, 78), (6, 6, 0)), ((167, 176), (2, 2, 0)), ((167, 176), (12, 12, 0)), ((179, 208), (3, 13, 1)), ((574, 577), (3, 3, 0)), ((574, 577), (4, 4, 0)), ((574, 577), (6, 6, 0)), ((579, 778), (4, 4, 0)), ((781, 784), (0, 0, 0)), ((781, 784), (4, 4, 0))] (by decide +kernel) H
  have hf := H.2.2.2.2.2.2.2.2.2.2.1
  have hl1 : α1.length = 8 := by rw [Hr.2.1.1]; rfl
  have hl0 : α.length = 8 := by rw [H.2.1.1]; rfl
  have hxa : al_le xs α1 := H.1.trans hle
  obtain ⟨g1, -, g3, g4, -⟩ := as_fx Hr
  have g0 : (572 ≤ nv α1 0 ∧ nv α1 0 ≤ 572) ∧ (1 ≤ nv α1 1 ∧ nv α1 1 ≤ 1) ∧ (0 ≤ nv α1 2 ∧ nv α1 2 ≤ 3) ∧ (574 ≤ nv α1 3 ∧ nv α1 3 ≤ 577) ∧ (0 ≤ nv α1 4 ∧ nv α1 4 ≤ 11) ∧ ((-1) ≤ nv α1 5 ∧ nv α1 5 ≤ 11) ∧ (1 ≤ nv α1 6 ∧ nv α1 6 ≤ 2) ∧ (0 ≤ nv α1 7 ∧ nv α1 7 ≤ 1) ∧ True := by
    refine ⟨by have h := (en_nv (i := 0) Hr.2.1 rfl).2; exact h, by have h := (en_nv (i := 1) Hr.2.1 rfl).2; exact h, by have h := (en_nv (i := 2) Hr.2.1 rfl).2; exact h, by have h := (en_nv (i := 3) Hr.2.1 rfl).2; exact h, by have h := (en_nv (i := 4) Hr.2.1 rfl).2; exact h, by have h := (en_nv (i := 5) Hr.2.1 rfl).2; exact h, by have h := (en_nv (i := 6) Hr.2.1 rfl).2; exact h, by have h := (en_nv (i := 7) Hr.2.1 rfl).2; exact h, trivial⟩
  have r0 : nv α1 0 = nv α 0 := nv_le hle (by omega)
  have r1 : nv α1 1 = nv α 1 := nv_le hle (by omega)
  have r2 : nv α1 2 = nv α 2 := nv_le hle (by omega)
  have r3 : nv α1 3 = nv α 3 := nv_le hle (by omega)
  have r4 : nv α1 4 = nv α 4 := nv_le hle (by omega)
  have r5 : nv α1 5 = nv α 5 := nv_le hle (by omega)
  have r6 : nv α1 6 = nv α 6 := nv_le hle (by omega)
  have r7 : nv α1 7 = nv α 7 := nv_le hle (by omega)
  refine hd_callPR (Rr := R_any) (Rs := [kh_doSpell]) (idx := 142) G (List.forall_mem_cons.mpr ⟨kh_doSpell_okP, List.forall_mem_nil _⟩) (fun Cc hCc ys hnm => by
      rcases List.mem_singleton.mp hCc with rfl
      have y2 : nv ys 2 = nv α1 2 := nm_nv hnm (i := 2) (v := 2) rfl
      have z2 : nv α 2 = nv xs 2 := nv_le H.1 (by omega)
      show nv ys 2 < (S1.1 572 0).toInt
      rw [y2, r2, z2]
      exact hp.2.1) (na := 8) (Bs := [kh_work_b132_0]) (by decide +kernel) (by decide +kernel) hl1 Hr ?_
  intro q hq β lv' st' S' H1 hRx
  simp only [List.mem_cons, List.not_mem_nil, or_false] at hq
  rcases hq with rfl
  · obtain ⟨f1, f2, f3, f4, f5⟩ := as_fx H1
    simp only [kh_work_b132_0, Nat.reduceEqDiff, if_false, fx_env, fx_c, fx_ne, fx_hf, wl_S, Nat.zero_add, Nat.reduceAdd, Nat.reduceDiv, Nat.reduceMod, List.getElem?_cons_zero, List.getElem?_cons_succ, if_true, and_true, true_and] at f1 f2 f3 f4 f5
    have fe0 : nv β 0 = 572 := by omega
    have fe1 : nv β 1 = 1 := by omega
    try simp only [fe0, fe1, Int.reduceToNat] at f2 f3 f4 f5
    have s0 : nv β 0 = nv α1 0 := nv_le H1.1 (by omega)
    have s1 : nv β 1 = nv α1 1 := nv_le H1.1 (by omega)
    have s2 : nv β 2 = nv α1 2 := nv_le H1.1 (by omega)
    have s3 : nv β 3 = nv α1 3 := nv_le H1.1 (by omega)
    have s4 : nv β 4 = nv α1 4 := nv_le H1.1 (by omega)
    have s5 : nv β 5 = nv α1 5 := nv_le H1.1 (by omega)
    have s6 : nv β 6 = nv α1 6 := nv_le H1.1 (by omega)
    have s7 : nv β 7 = nv α1 7 := nv_le H1.1 (by omega)
    obtain ⟨α', Ha, hm⟩ := hd_gpM (q := kh_work_a135) (n := 0) (by decide +kernel) hx H1 (by decide +kernel) hxa hf
    have hfr := H1.2.2.2.2.2.2.2.2.2.2.1
    have m0 : nv α' 0 = nv β 0 := hm 0 0 rfl
    have m1 : nv α' 1 = nv β 1 := hm 1 1 rfl
    have m2 : nv α' 2 = nv β 2 := hm 2 2 rfl
    have m3 : nv α' 3 = nv β 3 := hm 3 3 rfl
    have m4 : nv α' 4 = nv β 4 := hm 4 4 rfl
    have m5 : nv α' 5 = nv β 5 := hm 5 5 rfl
    have m6 : nv α' 6 = nv β 6 := hm 6 6 rfl
    have m7 : nv α' 7 = nv β 7 := hm 7 7 rfl
    have e0 := fr_pl hfr 572 0 (by decide +kernel)
    refine ih.2.2.2.2.2.2.1 _ _ _ _ Ha ?_ ?_
    · rw [m3, m6, m7, e0]
      exact ⟨by omega, hp.2.1, by omega⟩
    · omega
set_option maxHeartbeats 16000000 in
set_option maxRecDepth 8000 in
theorem kh_work_h135 {l : Launch} {D : va_G} {tc : Nat → ClassId} {ad : Nat → Nat} {kd : Nat → Nat × Nat} {N : Nat} {sm : Nat → Nat} {xs : List av_X} {S : fw_S} {p : Program} {e : Env} {s : State} {m : MethodId} {args : Array Value} {below : List Frame} {meth : Method} {c : Code} {sz : Nat} {lvE : List (Nat × Value)} (G : hd_C wd_ff2 wd_fl2 kh_work [kh_spotOf, kh_trace] kh_work_y l D tc ad kd N sm xs p s m args meth c sz) (H0 : as_in ad sm wd_fl2 xs S kh_work.2.2.2.2.2.1 xs (hd_0 kh_work) lvE [] S) (hpre : P_work xs S) {k : Nat} (ih : kh_work_I l D tc ad kd N sm xs S p e s m args below meth c sz k) : (∀ (α : List av_X) (lv : List (Nat × Value)) (st : List Value) (S1 : fw_S), as_in ad sm wd_fl2 xs S kh_work.2.2.2.2.2.1 α kh_work_a135.2.2.1 lv st S1 → (nv α 3 = 574 + nv xs 2 ∧ nv xs 2 < (S1.1 572 0).toInt ∧ nv α 7 < nv α 6) → (nv α 6 - nv α 7).toNat * 10 + 3 < k + 1 → hd_WR R_any wd_fl2 kh_work kh_work_y l D tc ad kd N sm xs S p e s m args below meth c sz 135 lv st S1 0) := by
  have hx : xs.length = 3 := by rw [H0.2.1.1]; rfl
  have x2 := (en_nv (i := 2) H0.2.1 rfl).2
  change 0 ≤ nv xs 2 ∧ nv xs 2 ≤ 3 at x2
  intro α lv st S1 H hp hk
  obtain ⟨α1, hle, Hr⟩ := as_recM (pl := []) [] (by decide +kernel) H
  have hf := H.2.2.2.2.2.2.2.2.2.2.1
  have hl1 : α1.length = 8 := by rw [Hr.2.1.1]; rfl
  have hl0 : α.length = 8 := by rw [H.2.1.1]; rfl
  have hxa : al_le xs α1 := H.1.trans hle
  obtain ⟨g1, -, g3, g4, -⟩ := as_fx Hr
  have g0 : (572 ≤ nv α1 0 ∧ nv α1 0 ≤ 572) ∧ (1 ≤ nv α1 1 ∧ nv α1 1 ≤ 1) ∧ (0 ≤ nv α1 2 ∧ nv α1 2 ≤ 3) ∧ (574 ≤ nv α1 3 ∧ nv α1 3 ≤ 577) ∧ (0 ≤ nv α1 4 ∧ nv α1 4 ≤ 11) ∧ ((-1) ≤ nv α1 5 ∧ nv α1 5 ≤ 11) ∧ (1 ≤ nv α1 6 ∧ nv α1 6 ≤ 2) ∧ (0 ≤ nv α1 7 ∧ nv α1 7 ≤ 1) ∧ True := by
    refine ⟨by have h := (en_nv (i := 0) Hr.2.1 rfl).2; exact h, by have h := (en_nv (i := 1) Hr.2.1 rfl).2; exact h, by have h := (en_nv (i := 2) Hr.2.1 rfl).2; exact h, by have h := (en_nv (i := 3) Hr.2.1 rfl).2; exact h, by have h := (en_nv (i := 4) Hr.2.1 rfl).2; exact h, by have h := (en_nv (i := 5) Hr.2.1 rfl).2; exact h, by have h := (en_nv (i := 6) Hr.2.1 rfl).2; exact h, by have h := (en_nv (i := 7) Hr.2.1 rfl).2; exact h, trivial⟩
  have r0 : nv α1 0 = nv α 0 := nv_le hle (by omega)
  have r1 : nv α1 1 = nv α 1 := nv_le hle (by omega)
  have r2 : nv α1 2 = nv α 2 := nv_le hle (by omega)
  have r3 : nv α1 3 = nv α 3 := nv_le hle (by omega)
  have r4 : nv α1 4 = nv α 4 := nv_le hle (by omega)
  have r5 : nv α1 5 = nv α 5 := nv_le hle (by omega)
  have r6 : nv α1 6 = nv α 6 := nv_le hle (by omega)
  have r7 : nv α1 7 = nv α 7 := nv_le hle (by omega)
  refine hd_segMR G (na := 8) (fuel := 600) (first := true) (Bs := [kh_work_b135_0]) (by decide +kernel) hl1 Hr ?_
  intro q hq β lv' st' S' H1
  simp only [List.mem_cons, List.not_mem_nil, or_false] at hq
  rcases hq with rfl
  · obtain ⟨f1, f2, f3, f4, f5⟩ := as_fx H1
    simp only [kh_work_b135_0, Nat.reduceEqDiff, if_false, fx_env, fx_c, fx_ne, fx_hf, wl_S, Nat.zero_add, Nat.reduceAdd, Nat.reduceDiv, Nat.reduceMod, List.getElem?_cons_zero, List.getElem?_cons_succ, if_true, and_true, true_and] at f1 f2 f3 f4 f5
    have fe0 : nv β 0 = 572 := by omega
    have fe1 : nv β 1 = 1 := by omega
    try simp only [fe0, fe1, Int.reduceToNat] at f2 f3 f4 f5
    have s0 : nv β 0 = nv α1 0 := nv_le H1.1 (by omega)
    have s1 : nv β 1 = nv α1 1 := nv_le H1.1 (by omega)
    have s2 : nv β 2 = nv α1 2 := nv_le H1.1 (by omega)
    have s3 : nv β 3 = nv α1 3 := nv_le H1.1 (by omega)
    have s4 : nv β 4 = nv α1 4 := nv_le H1.1 (by omega)
    have s5 : nv β 5 = nv α1 5 := nv_le H1.1 (by omega)
    have s6 : nv β 6 = nv α1 6 := nv_le H1.1 (by omega)
    have s7 : nv β 7 = nv α1 7 := nv_le H1.1 (by omega)
    obtain ⟨α', Ha, hm⟩ := hd_gpM (q := kh_work_a114) (n := 0) (by decide +kernel) hx H1 (by decide +kernel) hxa hf
    have hfr := H1.2.2.2.2.2.2.2.2.2.2.1
    have m0 : nv α' 0 = nv β 0 := hm 0 0 rfl
    have m1 : nv α' 1 = nv β 1 := hm 1 1 rfl
    have m2 : nv α' 2 = nv β 2 := hm 2 2 rfl
    have m3 : nv α' 3 = nv β 3 := hm 3 3 rfl
    have m4 : nv α' 4 = nv β 4 := hm 4 4 rfl
    have m5 : nv α' 5 = nv β 5 := hm 5 5 rfl
    have m6 : nv α' 6 = nv β 6 := hm 6 6 rfl
    have m7 : nv α' 7 = nv β 8 := hm 7 8 rfl
    have e5 : S' = S1 := f5
    refine ih.2.2.2.2.1 _ _ _ _ Ha ?_ ?_
    · rw [e5, m3]
      exact ⟨by omega, hp.2.1⟩
    · omega
set_option maxHeartbeats 16000000 in
set_option maxRecDepth 8000 in
theorem kh_work_okP : ct_okPR wd_fl2 kh_work P_work R_any := ct_handPR (P := P_work) (R := R_any) (ff := wd_ff2) (y := kh_work_y) (Cs := [kh_spotOf, kh_trace]) wd_fl2_ok rfl (List.forall_mem_cons.mpr ⟨kh_spotOf_ok, (List.forall_mem_cons.mpr ⟨kh_trace_ok, (List.forall_mem_nil _)⟩)⟩) (by decide +kernel) (fun l D tc ad kd N sm xs S p e s m args below meth c sz lv G H0 hpre => by
  have hx : xs.length = 3 := by rw [H0.2.1.1]; rfl
  have x2 := (en_nv (i := 2) H0.2.1 rfl).2
  change 0 ≤ nv xs 2 ∧ nv xs 2 ≤ 3 at x2
  have hP : ∀ (k : Nat), kh_work_I l D tc ad kd N sm xs S p e s m args below meth c sz k := by
    intro k
    induction k with
    | zero => exact ⟨fun _ _ _ _ _ _ h => absurd h (Nat.not_lt_zero _), fun _ _ _ _ _ _ h => absurd h (Nat.not_lt_zero _), fun _ _ _ _ _ _ h => absurd h (Nat.not_lt_zero _), fun _ _ _ _ _ _ h => absurd h (Nat.not_lt_zero _), fun _ _ _ _ _ _ h => absurd h (Nat.not_lt_zero _), fun _ _ _ _ _ _ h => absurd h (Nat.not_lt_zero _), fun _ _ _ _ _ _ h => absurd h (Nat.not_lt_zero _), trivial⟩
    | succ k ih => exact ⟨kh_work_h36 G H0 hpre ih, kh_work_h39 G H0 hpre ih, kh_work_h44 G H0 hpre ih, kh_work_h90 G H0 hpre ih, kh_work_h114 G H0 hpre ih, kh_work_h132 G H0 hpre ih, kh_work_h135 G H0 hpre ih, trivial⟩
  obtain ⟨α1, hle, Hr⟩ := as_recM (pl := []) [] (by decide +kernel) H0
  have hf := H0.2.2.2.2.2.2.2.2.2.2.1
  have hl1 : α1.length = 3 := by rw [Hr.2.1.1]; rfl
  have hl0 : xs.length = 3 := by rw [H0.2.1.1]; rfl
  have hxa : al_le xs α1 := H0.1.trans hle
  obtain ⟨g1, -, g3, g4, -⟩ := as_fx Hr
  have g0 : (572 ≤ nv α1 0 ∧ nv α1 0 ≤ 572) ∧ (1 ≤ nv α1 1 ∧ nv α1 1 ≤ 1) ∧ (0 ≤ nv α1 2 ∧ nv α1 2 ≤ 3) ∧ True := by
    refine ⟨by have h := (en_nv (i := 0) Hr.2.1 rfl).2; exact h, by have h := (en_nv (i := 1) Hr.2.1 rfl).2; exact h, by have h := (en_nv (i := 2) Hr.2.1 rfl).2; exact h, trivial⟩
  have r0 : nv α1 0 = nv xs 0 := nv_le hle (by omega)
  have r1 : nv α1 1 = nv xs 1 := nv_le hle (by omega)
  have r2 : nv α1 2 = nv xs 2 := nv_le hle (by omega)
  refine hd_segMR G (na := 3) (fuel := 600) (first := true) (Bs := [kh_work_b0_0, kh_work_b0_1]) (by decide +kernel) hl1 Hr ?_
  intro q hq β lv' st' S' H1
  simp only [List.mem_cons, List.not_mem_nil, or_false] at hq
  rcases hq with rfl | rfl
  · obtain ⟨f1, f2, f3, f4, f5⟩ := as_fx H1
    simp only [kh_work_b0_0, Nat.reduceEqDiff, if_false, fx_env, fx_c, fx_ne, fx_hf, wl_S, Nat.zero_add, Nat.reduceAdd, Nat.reduceDiv, Nat.reduceMod, List.getElem?_cons_zero, List.getElem?_cons_succ, if_true, and_true, true_and] at f1 f2 f3 f4 f5
    have fe0 : nv β 0 = 572 := by omega
    have fe1 : nv β 1 = 1 := by omega
    have fe3 : nv β 3 = 573 := by omega
    have fe5 : nv β 5 = 3 := by omega
    have fe7 : nv β 7 = (-1) := by omega
    have fe8 : nv β 8 = 578 := by omega
    have fe9 : nv β 9 = 3 := by omega
    have fe12 : nv β 12 = 2 := by omega
    try simp only [fe0, fe1, fe3, fe5, fe7, fe8, fe9, fe12, Int.reduceToNat] at f2 f3 f4 f5
    have s0 : nv β 0 = nv α1 0 := nv_le H1.1 (by omega)
    have s1 : nv β 1 = nv α1 1 := nv_le H1.1 (by omega)
    have s2 : nv β 2 = nv α1 2 := nv_le H1.1 (by omega)
    obtain ⟨c0, c1⟩ := f2
    obtain ⟨α', Ha, hm⟩ := hd_gpM (q := kh_work_a36) (n := 0) (by decide +kernel) hx H1 (by decide +kernel) hxa hf
    have hfr := H1.2.2.2.2.2.2.2.2.2.2.1
    have m0 : nv α' 0 = nv β 0 := hm 0 0 rfl
    have m1 : nv α' 1 = nv β 1 := hm 1 1 rfl
    have m2 : nv α' 2 = nv β 2 := hm 2 2 rfl
    have m3 : nv α' 3 = nv β 4 := hm 3 4 rfl
    have m4 : nv α' 4 = nv β 11 := hm 4 11 rfl
    have m5 : nv α' 5 = nv β 11 := hm 5 11 rfl
    have m6 : nv α' 6 = nv β 12 := hm 6 12 rfl
    have rt10 := hf_rt (c := 578) (lo := 0) (hi := 199) (base := 579) (rv := 8) (iv := 6) (n := 10) (by decide +kernel) (by decide +kernel) H1 (by decide +kernel) (by omega) (by omega) (by omega)
    have rt4 := hf_rt (c := 573) (lo := 0) (hi := 3) (base := 574) (rv := 3) (iv := 2) (n := 4) (by decide +kernel) (by decide +kernel) H1 (by decide +kernel) (by omega) (by omega) (by omega)
    refine (hP _).1 _ _ _ _ Ha ?_ (Nat.lt_succ_self _)
    · rw [m3]
      exact ⟨f5, by omega⟩
  · obtain ⟨f1, f2, f3, f4, f5⟩ := as_fx H1
    simp only [kh_work_b0_1, Nat.reduceEqDiff, if_false, fx_env, fx_c, fx_ne, fx_hf, wl_S, Nat.zero_add, Nat.reduceAdd, Nat.reduceDiv, Nat.reduceMod, List.getElem?_cons_zero, List.getElem?_cons_succ, if_true, and_true, true_and] at f1 f2 f3 f4 f5
    have fe0 : nv β 0 = 572 := by omega
    have fe1 : nv β 1 = 1 := by omega
    have fe3 : nv β 3 = 573 := by omega
    have fe5 : nv β 5 = 3 := by omega
    have fe6 : nv β 6 = (-1) := by omega
    have fe7 : nv β 7 = (-1) := by omega
    try simp only [fe0, fe1, fe3, fe5, fe6, fe7, Int.reduceToNat] at f2 f3 f4 f5
    have s0 : nv β 0 = nv α1 0 := nv_le H1.1 (by omega)
    have s1 : nv β 1 = nv α1 1 := nv_le H1.1 (by omega)
    have s2 : nv β 2 = nv α1 2 := nv_le H1.1 (by omega)
    obtain ⟨c0, c1⟩ := f2
    exact hd_retVR G (by decide +kernel) (as_backM H1 (by decide +kernel) hxa hf) (by decide +kernel) (by decide) trivial)
