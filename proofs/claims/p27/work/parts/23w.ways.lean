/-! ===== the class: searches along the streets ===== -/
theorem tb_val {t : Nat} {T : List Int} (e : (fw_sn[t]?).map (fun q => q.2.2) = some T) {i z : Int} (h : tb_at t i z) : z = (Int32.ofInt (T.getD i.toNat 0)).toInt := by
  obtain ⟨q, hq, rfl⟩ := h
  rw [hq] at e
  cases e
  rfl
theorem tb_low {i z : Int} (h : tb_at 0 i z) : z = lowT i := tb_val (t := 0) rfl h
theorem tb_high {i z : Int} (h : tb_at 1 i z) : z = highT i := tb_val (t := 1) rfl h
theorem tb_exit {i z : Int} (h : tb_at 2 i z) : z = exitT i := tb_val (t := 2) rfl h
def R_spread : List av_X → fw_S → fw_O → fw_S → Prop := fun xs _ _ S' => yF S' (nv xs 1) = 0 ∧ wyI (yF S') (yV S') (yM S') (yR S') (nv xs 1)
abbrev kh_spread_y : mt_T := (⟨"UtilityWorks$Ways", "spread", "(I[II)V"⟩, prog_12_method_2_code, 9, none, 10, 1, 3, 23199, 23197, 23198, 21003)
def kh_spread : ct_T := (15, [(2, 2, 2, 1), (0, 0, 11, 1), (2, 96, 96, 1), (0, (-2147483648), 2147483647, 1)], [], [], [(0, (0, 0, 0, 0), [(2, 2, 2, 1), (0, 0, 11, 1), (2, 96, 96, 1), (0, (-2147483648), 2147483647, 1)], [], ([601], []))], [((2, 2), (4, 4, 0)), ((4, 4), (0, 11, 1)), ((5, 5), (0, 11, 1)), ((6, 6), (0, 11, 1))], 0, 0, 0)
def kh_spread_a3 : an_T := (3, 0, ([((2, 2, 2, 1), none), ((0, 0, 11, 1), none), ((2, 96, 96, 1), none), ((0, (-2147483648), 2147483647, 1), none), ((0, 0, 12, 1), none)], [(0, 0), (1, 1), (2, 2), (3, 3), (4, 4)], [], [], [], [], [], [], none), [])
def kh_spread_a46 : an_T := (46, 0, ([((2, 2, 2, 1), none), ((0, 0, 11, 1), none), ((2, 96, 96, 1), none), ((0, (-2147483648), 2147483647, 1), none), ((0, 0, 12, 1), none)], [(0, 0), (1, 1), (2, 2), (3, 3), (4, 4)], [], [], [], [], [], [], none), [])
def kh_spread_a77 : an_T := (77, 0, ([((2, 2, 2, 1), none), ((0, 0, 11, 1), none), ((2, 96, 96, 1), none), ((0, (-2147483648), 2147483647, 1), none), ((0, 0, 11, 1), none), ((0, 0, 11, 1), none), ((0, 0, 50, 1), none)], [(0, 0), (1, 1), (2, 2), (3, 3), (4, 4), (5, 5), (6, 6)], [], [], [], [], [], [], none), [])
def kh_spread_a130 : an_T := (130, 0, ([((2, 2, 2, 1), none), ((0, 0, 11, 1), none), ((2, 96, 96, 1), none), ((0, (-2147483648), 2147483647, 1), none), ((0, 0, 11, 1), none), ((0, 0, 11, 1), none), ((0, 0, 47, 1), none), ((0, 0, 16, 1), none), ((0, (-10), 21, 1), none)], [(0, 0), (1, 1), (2, 2), (3, 3), (4, 4), (5, 5), (6, 6), (7, 7), (8, 8)], [], [], [], [], [], [], none), [])
def kh_spread_a173 : an_T := (173, 0, ([((2, 2, 2, 1), none), ((0, 0, 11, 1), none), ((2, 96, 96, 1), none), ((0, 0, 2147483647, 1), none), ((0, 0, 11, 1), none), ((0, 0, 11, 1), none), ((0, 0, 47, 1), none), ((0, 0, 16, 1), none), ((0, 0, 11, 1), none), ((0, 0, 12, 1), none), ((0, 0, 11, 1), none), ((2, 4, 4, 1), none)], [(0, 0), (1, 1), (2, 2), (3, 3), (4, 4), (5, 5), (6, 6), (7, 7), (8, 8)], [9, 10, 11], [], [], [], [], [], none), [])
def kh_spread_a193 : an_T := (193, 0, ([((2, 2, 2, 1), none), ((0, 0, 11, 1), none), ((2, 96, 96, 1), none), ((0, 0, 2147483647, 1), none), ((0, 0, 11, 1), none), ((0, 0, 11, 1), none), ((0, 0, 47, 1), none), ((0, 0, 16, 1), none), ((0, 0, 11, 1), none), ((0, 0, 11, 1), none), ((0, 0, 12, 1), none), ((2, 6, 6, 1), none)], [(0, 0), (1, 1), (2, 2), (3, 3), (4, 4), (5, 5), (6, 6), (7, 7), (8, 8)], [9, 10, 11], [], [], [], [], [], none), [])
def kh_spread_a201 : an_T := (201, 0, ([((2, 2, 2, 1), none), ((0, 0, 11, 1), none), ((2, 96, 96, 1), none), ((0, 0, 2147483647, 1), none), ((0, 0, 11, 1), none), ((0, 0, 11, 1), none), ((0, 0, 47, 1), none), ((0, 0, 16, 1), none), ((0, 0, 11, 1), none), ((0, 1, 13, 1), none)], [(0, 0), (1, 1), (2, 2), (3, 3), (4, 4), (5, 5), (6, 6), (7, 7), (8, 8)], [9, 0], [], [], [], [], [], none), [])
def kh_spread_b0_0 : sg_T := (3, 0, ([((2, 2, 2, 1), none), ((0, 0, 11, 1), none), ((2, 96, 96, 1), none), ((0, (-2147483648), 2147483647, 1), none), ((0, 0, 0, 0), none)], [(4, 4), (0, 0), (1, 1), (2, 2), (3, 3)], [], [], [], [], [], [], some []))
def kh_spread_b3_0 : sg_T := (46, 0, ([((2, 2, 2, 1), none), ((0, 0, 11, 1), none), ((2, 96, 96, 1), none), ((0, (-2147483648), 2147483647, 1), none), ((0, 12, 12, 1), none), ((0, 12, 12, 0), none), ((2, 4, 4, 1), none), ((0, 0, 0, 0), none), ((2, 6, 6, 1), none), ((0, 0, 0, 0), none), ((0, 1, 1, 0), none), ((0, 4, 4, 0), none), ((0, 0, 0, 0), none)], [(4, 12), (0, 0), (1, 1), (2, 2), (3, 3)], [], [(0, 11, 10), (8, 9, 1), (6, 1, 7)], [], [(200000, 5, 4)], [], [], some [(0, 11, 10), (8, 9, 1), (6, 1, 7)]))
def kh_spread_b3_1 : sg_T := (3, 0, ([((2, 2, 2, 1), none), ((0, 0, 11, 1), none), ((2, 96, 96, 1), none), ((0, (-2147483648), 2147483647, 1), none), ((0, 0, 11, 1), none), ((0, 12, 12, 0), none), ((2, 4, 4, 1), none), ((0, (-1), (-1), 0), none), ((0, 1, 12, 1), some (4, 1))], [(4, 8), (0, 0), (1, 1), (2, 2), (3, 3)], [], [(6, 4, 7)], [], [(100000, 4, 5)], [], [], some [(6, 4, 7)]))
def kh_spread_b46_0 : sg_T := (216, 0, ([((2, 2, 2, 1), none), ((0, 0, 11, 1), none), ((2, 96, 96, 1), none), ((0, (-2147483648), 2147483647, 1), none), ((0, 0, 12, 1), none), ((0, 4, 4, 0), none), ((0, 0, 12, 1), none)], [(0, 0), (1, 1), (2, 2), (3, 3), (4, 4)], [], [(0, 5, 6)], [], [(200000, 6, 4), (800006, 0, 5)], [], [], some []))
def kh_spread_b46_1 : sg_T := (77, 0, ([((2, 2, 2, 1), none), ((0, 0, 11, 1), none), ((2, 96, 96, 1), none), ((0, (-2147483648), 2147483647, 1), none), ((0, 0, 11, 1), none), ((0, 4, 4, 0), none), ((0, 1, 12, 1), none), ((0, 12, 12, 0), none), ((2, 6, 6, 1), none), ((0, 0, 11, 1), none), ((0, 4, 4, 0), none), ((0, 0, 44, 4), none)], [(6, 11), (5, 9), (0, 0), (1, 1), (2, 2), (3, 3), (4, 4)], [], [(8, 4, 9), (0, 5, 6)], [], [(700011, 10, 9), (800009, 8, 4), (100000, 4, 7), (100000, 4, 6), (800006, 0, 5)], [], [], some []))
def kh_spread_b77_0 : sg_T := (46, 0, ([((2, 2, 2, 1), none), ((0, 0, 11, 1), none), ((2, 96, 96, 1), none), ((0, (-2147483648), 2147483647, 1), none), ((0, 0, 11, 1), none), ((0, 0, 11, 1), none), ((0, 4, 50, 1), none), ((0, 4, 4, 0), none), ((0, 0, 44, 4), none), ((0, 4, 4, 0), none), ((0, 4, 48, 4), some (8, 4)), ((0, 1, 12, 1), some (4, 1))], [(4, 11), (0, 0), (1, 1), (2, 2), (3, 3), (5, 5), (6, 6)], [], [], [], [(200000, 10, 6), (500010, 8, 9), (700008, 7, 5)], [], [], some []))
def kh_spread_b77_1 : sg_T := (77, 0, ([((2, 2, 2, 1), none), ((0, 0, 11, 1), none), ((2, 96, 96, 1), none), ((0, (-2147483648), 2147483647, 1), none), ((0, 0, 11, 1), none), ((0, 0, 11, 1), none), ((0, 0, 47, 1), none), ((0, 4, 4, 0), none), ((0, 0, 44, 4), none), ((0, 4, 4, 0), none), ((0, 4, 48, 4), some (8, 4)), ((3, 2, 2, 0), none), ((0, (-1), (-1), 1), none), ((0, (-1), (-1), 0), none), ((0, 1, 48, 1), some (6, 1))], [(6, 14), (7, 12), (0, 0), (1, 1), (2, 2), (3, 3), (4, 4), (5, 5)], [], [], [], [(300000, 12, 13), (901200012, 6, 6), (100000, 6, 10), (500010, 8, 9), (700008, 7, 5)], [], [], some []))
def kh_spread_b77_2 : sg_T := (77, 0, ([((2, 2, 2, 1), none), ((0, 0, 11, 1), none), ((2, 96, 96, 1), none), ((0, (-2147483648), 2147483647, 1), none), ((0, 0, 11, 1), none), ((0, 0, 11, 1), none), ((0, 0, 47, 1), none), ((0, 4, 4, 0), none), ((0, 0, 44, 4), none), ((0, 4, 4, 0), none), ((0, 4, 48, 4), some (8, 4)), ((3, 2, 2, 0), none), ((0, 0, 16, 1), none), ((0, (-1), (-1), 0), none), ((2, 3, 3, 1), none), ((0, 0, 0, 1), none), ((0, 1, 48, 1), some (6, 1))], [(6, 16), (7, 12), (0, 0), (1, 1), (2, 2), (3, 3), (4, 4), (5, 5)], [], [(14, 12, 15)], [(12, (-1))], [(800015, 14, 12), (400000, 12, 13), (901200012, 6, 6), (100000, 6, 10), (500010, 8, 9), (700008, 7, 5)], [], [], some []))
def kh_spread_b77_3 : sg_T := (130, 0, ([((2, 2, 2, 1), none), ((0, 0, 11, 1), none), ((2, 96, 96, 1), none), ((0, (-2147483648), 2147483647, 1), none), ((0, 0, 11, 1), none), ((0, 0, 11, 1), none), ((0, 0, 47, 1), none), ((0, 4, 4, 0), none), ((0, 0, 44, 4), none), ((0, 4, 4, 0), none), ((0, 4, 48, 4), some (8, 4)), ((3, 2, 2, 0), none), ((0, 0, 16, 1), none), ((0, (-1), (-1), 0), none), ((2, 3, 3, 1), none), ((0, 1, 1, 1), none), ((3, 0, 0, 0), none), ((0, 0, 10, 1), none), ((3, 1, 1, 0), none), ((0, 1, 11, 1), none), ((0, 1, 21, 1), none), ((0, (-10), 21, 1), none)], [(8, 21), (7, 12), (0, 0), (1, 1), (2, 2), (3, 3), (4, 4), (5, 5), (6, 6)], [], [(14, 12, 15)], [(15, 0), (12, (-1))], [(600021, 20, 5), (500020, 17, 19), (901100019, 12, 12), (901000017, 12, 12), (800015, 14, 12), (400000, 12, 13), (901200012, 6, 6), (100000, 6, 10), (500010, 8, 9), (700008, 7, 5)], [], [], some []))
def kh_spread_b130_0 : sg_T := (77, 0, ([((2, 2, 2, 1), none), ((0, 0, 11, 1), none), ((2, 96, 96, 1), none), ((0, (-2147483648), 2147483647, 1), none), ((0, 0, 11, 1), none), ((0, 0, 11, 1), none), ((0, 0, 47, 1), none), ((0, 0, 16, 1), none), ((0, 0, 11, 1), none), ((2, 4, 4, 1), none), ((0, 0, 11, 1), none), ((0, (-1), (-1), 0), none), ((0, 1, 48, 1), some (6, 1))], [(6, 12), (0, 0), (1, 1), (2, 2), (3, 3), (4, 4), (5, 5), (7, 7), (8, 8)], [], [(9, 8, 10)], [(10, (-1))], [(400000, 10, 11), (800010, 9, 8)], [], [], some []))
def kh_spread_b130_1 : sg_T := (77, 0, ([((2, 2, 2, 1), none), ((0, 0, 11, 1), none), ((2, 96, 96, 1), none), ((0, (-2147483648), 98, 1), none), ((0, 0, 11, 1), none), ((0, 0, 11, 1), none), ((0, 0, 47, 1), none), ((0, 0, 16, 1), none), ((0, 0, 11, 1), none), ((2, 4, 4, 1), none), ((0, (-1), (-1), 1), none), ((0, (-1), (-1), 0), none), ((0, 0, 99, 1), none), ((0, 1, 48, 1), some (6, 1))], [(6, 13), (0, 0), (1, 1), (2, 2), (3, 3), (4, 4), (5, 5), (7, 7), (8, 8)], [], [(2, 8, 12), (9, 8, 10)], [], [(100000, 3, 12), (800012, 2, 8), (300000, 10, 11), (800010, 9, 8)], [], [], some []))
def kh_spread_b130_2 : sg_T := (77, 0, ([((2, 2, 2, 1), none), ((0, 0, 11, 1), none), ((2, 96, 96, 1), none), ((0, 0, 2147483647, 1), none), ((0, 0, 11, 1), none), ((0, 0, 11, 1), none), ((0, 0, 47, 1), none), ((0, 0, 16, 1), none), ((0, 0, 11, 1), none), ((2, 4, 4, 1), none), ((0, (-1), (-1), 1), none), ((0, (-1), (-1), 0), none), ((0, 0, 99, 1), none), ((0, 4, 4, 0), none), ((0, 12, 12, 1), none), ((0, 12, 12, 0), none), ((0, 1, 48, 1), some (6, 1))], [(6, 16), (0, 0), (1, 1), (2, 2), (3, 3), (4, 4), (5, 5), (7, 7), (8, 8)], [], [(0, 13, 14), (2, 8, 12), (9, 8, 10)], [], [(200000, 15, 14), (800014, 0, 13), (200000, 12, 3), (800012, 2, 8), (300000, 10, 11), (800010, 9, 8)], [], [], some []))
def kh_spread_b130_3 : sg_T := (173, 0, ([((2, 2, 2, 1), none), ((0, 0, 11, 1), none), ((2, 96, 96, 1), none), ((0, 0, 2147483647, 1), none), ((0, 0, 11, 1), none), ((0, 0, 11, 1), none), ((0, 0, 47, 1), none), ((0, 0, 16, 1), none), ((0, 0, 11, 1), none), ((2, 4, 4, 1), none), ((0, (-1), (-1), 1), none), ((0, (-1), (-1), 0), none), ((0, 0, 99, 1), none), ((0, 4, 4, 0), none), ((0, 0, 11, 1), none), ((0, 12, 12, 0), none), ((2, 4, 4, 1), none), ((2, 4, 4, 1), none), ((0, (-1), 11, 1), none), ((0, 1, 1, 0), none), ((0, 0, 12, 1), some (18, 1))], [(0, 0), (1, 1), (2, 2), (3, 3), (4, 4), (5, 5), (6, 6), (7, 7), (8, 8)], [20, 8, 16], [(17, 5, 18), (0, 13, 14), (2, 8, 12), (9, 8, 10)], [], [(500020, 18, 19), (800018, 17, 5), (100000, 14, 15), (800014, 0, 13), (200000, 12, 3), (800012, 2, 8), (300000, 10, 11), (800010, 9, 8)], [], [], some []))
def kh_spread_b173_0 : sg_T := (193, 0, ([((2, 2, 2, 1), none), ((0, 0, 11, 1), none), ((2, 96, 96, 1), none), ((0, 0, 2147483647, 1), none), ((0, 0, 11, 1), none), ((0, 0, 11, 1), none), ((0, 0, 47, 1), none), ((0, 0, 16, 1), none), ((0, 0, 11, 1), none), ((0, 0, 11, 1), none), ((0, 0, 11, 1), none), ((2, 4, 4, 1), none), ((2, 5, 5, 1), none), ((2, 6, 6, 1), none), ((0, 4, 4, 0), none), ((0, 0, 12, 1), none)], [(0, 0), (1, 1), (2, 2), (3, 3), (4, 4), (5, 5), (6, 6), (7, 7), (8, 8)], [8, 15, 13], [(0, 14, 15), (12, 8, 7), (11, 10, 9)], [], [], [], [], some [(12, 8, 7), (11, 10, 9)]))
def kh_spread_b193_0 : sg_T := (201, 0, ([((2, 2, 2, 1), none), ((0, 0, 11, 1), none), ((2, 96, 96, 1), none), ((0, 0, 2147483647, 1), none), ((0, 0, 11, 1), none), ((0, 0, 11, 1), none), ((0, 0, 47, 1), none), ((0, 0, 16, 1), none), ((0, 0, 11, 1), none), ((0, 0, 11, 1), none), ((0, 0, 11, 1), none), ((2, 6, 6, 1), none), ((0, 4, 4, 0), none), ((0, 0, 12, 1), none), ((0, 1, 1, 0), none), ((0, 1, 13, 1), some (13, 1))], [(0, 0), (1, 1), (2, 2), (3, 3), (4, 4), (5, 5), (6, 6), (7, 7), (8, 8)], [15, 0], [(0, 12, 13), (11, 10, 9)], [], [(500015, 13, 14)], [], [], some [(11, 10, 9)]))
def kh_spread_b201_0 : sg_T := (77, 0, ([((2, 2, 2, 1), none), ((0, 0, 11, 1), none), ((2, 96, 96, 1), none), ((0, 0, 2147483647, 1), none), ((0, 0, 11, 1), none), ((0, 0, 11, 1), none), ((0, 0, 47, 1), none), ((0, 0, 16, 1), none), ((0, 0, 11, 1), none), ((0, 1, 12, 1), none), ((0, 4, 4, 0), none), ((0, 1, 48, 1), some (6, 1))], [(6, 11), (0, 0), (1, 1), (2, 2), (3, 3), (4, 4), (5, 5), (7, 7), (8, 8)], [], [(0, 10, 9)], [], [], [], [], some [(0, 10, 9)]))
def kh_spread_I (l : Launch) (D : va_G) (tc : Nat → ClassId) (ad : Nat → Nat) (kd : Nat → Nat × Nat) (N : Nat) (sm : Nat → Nat) (xs : List av_X) (S : fw_S) (p : Program) (e : Env) (s : State) (m : MethodId) (args : Array Value) (below : List Frame) (meth : Method) (c : Code) (sz : Nat) (k : Nat) : Prop := (∀ (α : List av_X) (lv : List (Nat × Value)) (st : List Value) (S1 : fw_S), as_in ad sm wd_fl2 xs S kh_spread.2.2.2.2.2.1 α kh_spread_a3.2.2.1 lv st S1 → (∀ c : Int, 0 ≤ c → c < nv α 4 → c ≤ 11 → yF S1 c = -1) → 100000 + (12 - nv α 4).toNat < k → hd_WR R_spread wd_fl2 kh_spread kh_spread_y l D tc ad kd N sm xs S p e s m args below meth c sz 3 lv st S1 0) ∧ (∀ (α : List av_X) (lv : List (Nat × Value)) (st : List Value) (S1 : fw_S), as_in ad sm wd_fl2 xs S kh_spread.2.2.2.2.2.1 α kh_spread_a46.2.2.1 lv st S1 → (wyI (yF S1) (yV S1) (yM S1) (yR S1) (nv xs 1) ∧ 0 ≤ nv α 4) → (13 - nv α 4).toNat * 100 + 99 < k → hd_WR R_spread wd_fl2 kh_spread kh_spread_y l D tc ad kd N sm xs S p e s m args below meth c sz 46 lv st S1 0) ∧ (∀ (α : List av_X) (lv : List (Nat × Value)) (st : List Value) (S1 : fw_S), as_in ad sm wd_fl2 xs S kh_spread.2.2.2.2.2.1 α kh_spread_a77.2.2.1 lv st S1 → (wyI (yF S1) (yV S1) (yM S1) (yR S1) (nv xs 1) ∧ (0 ≤ nv α 4 ∧ nv α 4 < yR S1 ∧ nv α 5 = yM S1 (nv α 4)) ∧ (4 * nv α 5 ≤ nv α 6 ∧ nv α 6 ≤ 4 * nv α 5 + 4)) → (13 - nv α 4).toNat * 100 + (4 * nv α 5 + 4 - nv α 6).toNat * 10 + 9 < k → hd_WR R_spread wd_fl2 kh_spread kh_spread_y l D tc ad kd N sm xs S p e s m args below meth c sz 77 lv st S1 0) ∧ (∀ (α : List av_X) (lv : List (Nat × Value)) (st : List Value) (S1 : fw_S), as_in ad sm wd_fl2 xs S kh_spread.2.2.2.2.2.1 α kh_spread_a130.2.2.1 lv st S1 → (wyI (yF S1) (yV S1) (yM S1) (yR S1) (nv xs 1) ∧ (0 ≤ nv α 4 ∧ nv α 4 < yR S1 ∧ nv α 5 = yM S1 (nv α 4)) ∧ (4 * nv α 5 ≤ nv α 6 ∧ nv α 6 < 4 * nv α 5 + 4) ∧ (nv α 8 = othT (nv α 7) (nv α 5) ∧ 0 ≤ nv α 8 ∧ nv α 8 ≤ 11)) → (13 - nv α 4).toNat * 100 + (4 * nv α 5 + 4 - nv α 6).toNat * 10 + 8 < k → hd_WR R_spread wd_fl2 kh_spread kh_spread_y l D tc ad kd N sm xs S p e s m args below meth c sz 130 lv st S1 0) ∧ (∀ (α : List av_X) (lv : List (Nat × Value)) (st : List Value) (S1 : fw_S), as_in ad sm wd_fl2 xs S kh_spread.2.2.2.2.2.1 α kh_spread_a173.2.2.1 lv st S1 → (wyI (yF S1) (yV S1) (yM S1) (yR S1) (nv xs 1) ∧ (0 ≤ nv α 4 ∧ nv α 4 < yR S1 ∧ nv α 5 = yM S1 (nv α 4)) ∧ (4 * nv α 5 ≤ nv α 6 ∧ nv α 6 < 4 * nv α 5 + 4) ∧ (nv α 8 = othT (nv α 7) (nv α 5) ∧ 0 ≤ nv α 8 ∧ nv α 8 ≤ 11) ∧ yF S1 (nv α 8) = -1 ∧ yR S1 < 12 ∧ nv α 10 = nv α 8 ∧ nv α 9 = yF S1 (nv α 5) + 1 ∧ 0 ≤ nv α 9 ∧ nv α 9 ≤ 11) → (13 - nv α 4).toNat * 100 + (4 * nv α 5 + 4 - nv α 6).toNat * 10 + 7 < k → hd_WR R_spread wd_fl2 kh_spread kh_spread_y l D tc ad kd N sm xs S p e s m args below meth c sz 173 lv st S1 0) ∧ (∀ (α : List av_X) (lv : List (Nat × Value)) (st : List Value) (S1 : fw_S), as_in ad sm wd_fl2 xs S kh_spread.2.2.2.2.2.1 α kh_spread_a193.2.2.1 lv st S1 → (wyI (yF S1) (yV S1) (yM S1) (yR S1) (nv xs 1) ∧ (0 ≤ nv α 4 ∧ nv α 4 < yR S1 ∧ nv α 5 = yM S1 (nv α 4)) ∧ (4 * nv α 5 ≤ nv α 6 ∧ nv α 6 < 4 * nv α 5 + 4) ∧ (0 ≤ nv α 8 ∧ nv α 8 ≤ 11) ∧ (1 ≤ yF S1 (nv α 8) ∧ yF S1 (nv α 8) ≤ yR S1) ∧ yR S1 < 12 ∧ nv α 9 = nv α 8 ∧ nv α 10 = yR S1) → (13 - nv α 4).toNat * 100 + (4 * nv α 5 + 4 - nv α 6).toNat * 10 + 6 < k → hd_WR R_spread wd_fl2 kh_spread kh_spread_y l D tc ad kd N sm xs S p e s m args below meth c sz 193 lv st S1 0) ∧ (∀ (α : List av_X) (lv : List (Nat × Value)) (st : List Value) (S1 : fw_S), as_in ad sm wd_fl2 xs S kh_spread.2.2.2.2.2.1 α kh_spread_a201.2.2.1 lv st S1 → (wyI (yF S1) (yV S1) (yM S1) (yR S1 + 1) (nv xs 1) ∧ (0 ≤ nv α 4 ∧ nv α 4 < yR S1 ∧ nv α 5 = yM S1 (nv α 4)) ∧ (4 * nv α 5 ≤ nv α 6 ∧ nv α 6 < 4 * nv α 5 + 4) ∧ nv α 9 = yR S1 + 1 ∧ yR S1 < 12) → (13 - nv α 4).toNat * 100 + (4 * nv α 5 + 4 - nv α 6).toNat * 10 + 5 < k → hd_WR R_spread wd_fl2 kh_spread kh_spread_y l D tc ad kd N sm xs S p e s m args below meth c sz 201 lv st S1 0) ∧ True
set_option maxHeartbeats 16000000 in
set_option maxRecDepth 8000 in
theorem kh_spread_h3 {l : Launch} {D : va_G} {tc : Nat → ClassId} {ad : Nat → Nat} {kd : Nat → Nat × Nat} {N : Nat} {sm : Nat → Nat} {xs : List av_X} {S : fw_S} {p : Program} {e : Env} {s : State} {m : MethodId} {args : Array Value} {below : List Frame} {meth : Method} {c : Code} {sz : Nat} {lvE : List (Nat × Value)} (G : hd_C wd_ff2 wd_fl2 kh_spread [] kh_spread_y l D tc ad kd N sm xs p s m args meth c sz) (H0 : as_in ad sm wd_fl2 xs S kh_spread.2.2.2.2.2.1 xs (hd_0 kh_spread) lvE [] S) {k : Nat} (ih : kh_spread_I l D tc ad kd N sm xs S p e s m args below meth c sz k) : (∀ (α : List av_X) (lv : List (Nat × Value)) (st : List Value) (S1 : fw_S), as_in ad sm wd_fl2 xs S kh_spread.2.2.2.2.2.1 α kh_spread_a3.2.2.1 lv st S1 → (∀ c : Int, 0 ≤ c → c < nv α 4 → c ≤ 11 → yF S1 c = -1) → 100000 + (12 - nv α 4).toNat < k + 1 → hd_WR R_spread wd_fl2 kh_spread kh_spread_y l D tc ad kd N sm xs S p e s m args below meth c sz 3 lv st S1 0) := by
  have hx : xs.length = 4 := by rw [H0.2.1.1]; rfl
  intro α lv st S1 H hp hk
  obtain ⟨α1, hle, Hr⟩ := as_recM (pl := []) [((2, 2), (4, 4, 0)), ((4, 4), (0, 11, 1)), ((6, 6), (0, 0, 0))] (by decide +kernel) H
  have hf := H.2.2.2.2.2.2.2.2.2.2.1
  have hl1 : α1.length = 5 := by rw [Hr.2.1.1]; rfl
  have hl0 : α.length = 5 := by rw [H.2.1.1]; rfl
  have hxa : al_le xs α1 := H.1.trans hle
  obtain ⟨g1, -, g3, g4, -⟩ := as_fx Hr
  have g0 : (2 ≤ nv α1 0 ∧ nv α1 0 ≤ 2) ∧ (0 ≤ nv α1 1 ∧ nv α1 1 ≤ 11) ∧ (96 ≤ nv α1 2 ∧ nv α1 2 ≤ 96) ∧ ((-2147483648) ≤ nv α1 3 ∧ nv α1 3 ≤ 2147483647) ∧ (0 ≤ nv α1 4 ∧ nv α1 4 ≤ 12) ∧ True := by
    refine ⟨by have h := (en_nv (i := 0) Hr.2.1 rfl).2; exact h, by have h := (en_nv (i := 1) Hr.2.1 rfl).2; exact h, by have h := (en_nv (i := 2) Hr.2.1 rfl).2; exact h, by have h := (en_nv (i := 3) Hr.2.1 rfl).2; exact h, by have h := (en_nv (i := 4) Hr.2.1 rfl).2; exact h, trivial⟩
  have r0 : nv α1 0 = nv α 0 := nv_le hle (by omega)
  have r1 : nv α1 1 = nv α 1 := nv_le hle (by omega)
  have r2 : nv α1 2 = nv α 2 := nv_le hle (by omega)
  have r3 : nv α1 3 = nv α 3 := nv_le hle (by omega)
  have r4 : nv α1 4 = nv α 4 := nv_le hle (by omega)
  refine hd_segMR G (na := 5) (fuel := 600) (first := true) (Bs := [kh_spread_b3_0, kh_spread_b3_1]) (by decide +kernel) hl1 Hr ?_
  intro q hq β lv' st' S' H1
  simp only [List.mem_cons, List.not_mem_nil, or_false] at hq
  rcases hq with rfl | rfl
  · obtain ⟨f1, f2, f3, f4, f5⟩ := as_fx H1
    simp only [kh_spread_b3_0, fx_env, fx_c, fx_ne, fx_hf, wl_S, Nat.zero_add, Nat.reduceAdd, Nat.reduceDiv, Nat.reduceMod, List.getElem?_cons_zero, List.getElem?_cons_succ, if_true, and_true, true_and] at f1 f2 f3 f4 f5
    have fe0 : nv β 0 = 2 := by omega
    have fe2 : nv β 2 = 96 := by omega
    have fe4 : nv β 4 = 12 := by omega
    have fe5 : nv β 5 = 12 := by omega
    have fe6 : nv β 6 = 4 := by omega
    have fe7 : nv β 7 = 0 := by omega
    have fe8 : nv β 8 = 6 := by omega
    have fe9 : nv β 9 = 0 := by omega
    have fe10 : nv β 10 = 1 := by omega
    have fe11 : nv β 11 = 4 := by omega
    have fe12 : nv β 12 = 0 := by omega
    try simp only [fe0, fe2, fe4, fe5, fe6, fe7, fe8, fe9, fe10, fe11, fe12, Int.reduceToNat] at f2 f3 f4 f5
    have s0 : nv β 0 = nv α1 0 := nv_le H1.1 (by omega)
    have s1 : nv β 1 = nv α1 1 := nv_le H1.1 (by omega)
    have s2 : nv β 2 = nv α1 2 := nv_le H1.1 (by omega)
    have s3 : nv β 3 = nv α1 3 := nv_le H1.1 (by omega)
    have s4 : nv β 4 = nv α1 4 := nv_le H1.1 (by omega)
    have c0 := f2
    obtain ⟨α', Ha, hm⟩ := hd_gpM (q := kh_spread_a46) (n := 0) (by decide +kernel) hx H1 (by decide +kernel) hxa hf
    have hfr := H1.2.2.2.2.2.2.2.2.2.2.1
    have m0 : nv α' 0 = nv β 0 := hm 0 0 rfl
    have m1 : nv α' 1 = nv β 1 := hm 1 1 rfl
    have m2 : nv α' 2 = nv β 2 := hm 2 2 rfl
    have m3 : nv α' 3 = nv β 3 := hm 3 3 rfl
    have m4 : nv α' 4 = nv β 12 := hm 4 12 rfl
    have z1 : nv α 1 = nv xs 1 := nv_le H.1 (by omega)
    have i1 := (en_nv (i := 1) H0.2.1 rfl).2
    change 0 ≤ nv xs 1 ∧ nv xs 1 ≤ 11 at i1
    have w4 : ∀ b : Nat, S'.1 4 b = (if b = (nv β 1).toNat then Int32.ofInt (0) else S1.1 4 b) := fun b => by rw [f5]; simp [fw_i]
    have w6 : ∀ b : Nat, S'.1 6 b = (if b = 0 then Int32.ofInt (nv β 1) else S1.1 6 b) := fun b => by rw [f5]; simp [fw_i]
    have w2 : ∀ b : Nat, S'.1 2 b = (if b = 4 then Int32.ofInt (1) else S1.1 2 b) := fun b => by rw [f5]; simp [fw_i]
    have wR : yR S' = 1 := by unfold yR; rw [w2]; rfl
    refine ih.2.1 _ _ _ _ Ha ?_ ?_
    · refine ⟨?_, by omega⟩
      rw [wR]
      refine wy_start (F := yF S1) (fun c h1 h2 => hp c h1 (by omega) h2) i1 (fun c h1 h2 => ?_) ?_
      · show (S'.1 4 c.toNat).toInt = _
        rw [w4]
        by_cases e : c = nv xs 1
        · rw [if_pos (by omega), if_pos e]; rfl
        · rw [if_neg (by omega), if_neg e]; rfl
      · show (S'.1 6 0).toInt = _
        rw [w6, if_pos rfl, i32_of (by omega) (by omega)]
        omega
    · omega
  · obtain ⟨f1, f2, f3, f4, f5⟩ := as_fx H1
    simp only [kh_spread_b3_1, fx_env, fx_c, fx_ne, fx_hf, wl_S, Nat.zero_add, Nat.reduceAdd, Nat.reduceDiv, Nat.reduceMod, List.getElem?_cons_zero, List.getElem?_cons_succ, if_true, and_true, true_and] at f1 f2 f3 f4 f5
    have fe0 : nv β 0 = 2 := by omega
    have fe2 : nv β 2 = 96 := by omega
    have fe5 : nv β 5 = 12 := by omega
    have fe6 : nv β 6 = 4 := by omega
    have fe7 : nv β 7 = (-1) := by omega
    try simp only [fe0, fe2, fe5, fe6, fe7, Int.reduceToNat] at f2 f3 f4 f5
    have s0 : nv β 0 = nv α1 0 := nv_le H1.1 (by omega)
    have s1 : nv β 1 = nv α1 1 := nv_le H1.1 (by omega)
    have s2 : nv β 2 = nv α1 2 := nv_le H1.1 (by omega)
    have s3 : nv β 3 = nv α1 3 := nv_le H1.1 (by omega)
    have s4 : nv β 4 = nv α1 4 := nv_le H1.1 (by omega)
    have c0 := f2
    obtain ⟨α', Ha, hm⟩ := hd_gpM (q := kh_spread_a3) (n := 0) (by decide +kernel) hx H1 (by decide +kernel) hxa hf
    have hfr := H1.2.2.2.2.2.2.2.2.2.2.1
    have m0 : nv α' 0 = nv β 0 := hm 0 0 rfl
    have m1 : nv α' 1 = nv β 1 := hm 1 1 rfl
    have m2 : nv α' 2 = nv β 2 := hm 2 2 rfl
    have m3 : nv α' 3 = nv β 3 := hm 3 3 rfl
    have m4 : nv α' 4 = nv β 8 := hm 4 8 rfl
    have z1 : nv α 1 = nv xs 1 := nv_le H.1 (by omega)
    have i1 := (en_nv (i := 1) H0.2.1 rfl).2
    change 0 ≤ nv xs 1 ∧ nv xs 1 ≤ 11 at i1
    have w4 : ∀ b : Nat, S'.1 4 b = (if b = (nv β 4).toNat then Int32.ofInt ((-1)) else S1.1 4 b) := fun b => by rw [f5]; simp [fw_i]
    refine ih.1 _ _ _ _ Ha ?_ ?_
    · intro c h1 h2 h3
      rw [m4] at h2
      show (S'.1 4 c.toNat).toInt = -1
      rw [w4]
      by_cases e : c = nv β 4
      · rw [if_pos (by omega)]; rfl
      · rw [if_neg (by omega)]
        exact hp c h1 (by omega) h3
    · rw [m4]; omega
set_option maxHeartbeats 16000000 in
set_option maxRecDepth 8000 in
theorem kh_spread_h46 {l : Launch} {D : va_G} {tc : Nat → ClassId} {ad : Nat → Nat} {kd : Nat → Nat × Nat} {N : Nat} {sm : Nat → Nat} {xs : List av_X} {S : fw_S} {p : Program} {e : Env} {s : State} {m : MethodId} {args : Array Value} {below : List Frame} {meth : Method} {c : Code} {sz : Nat} {lvE : List (Nat × Value)} (G : hd_C wd_ff2 wd_fl2 kh_spread [] kh_spread_y l D tc ad kd N sm xs p s m args meth c sz) (H0 : as_in ad sm wd_fl2 xs S kh_spread.2.2.2.2.2.1 xs (hd_0 kh_spread) lvE [] S) {k : Nat} (ih : kh_spread_I l D tc ad kd N sm xs S p e s m args below meth c sz k) : (∀ (α : List av_X) (lv : List (Nat × Value)) (st : List Value) (S1 : fw_S), as_in ad sm wd_fl2 xs S kh_spread.2.2.2.2.2.1 α kh_spread_a46.2.2.1 lv st S1 → (wyI (yF S1) (yV S1) (yM S1) (yR S1) (nv xs 1) ∧ 0 ≤ nv α 4) → (13 - nv α 4).toNat * 100 + 99 < k + 1 → hd_WR R_spread wd_fl2 kh_spread kh_spread_y l D tc ad kd N sm xs S p e s m args below meth c sz 46 lv st S1 0) := by
  have hx : xs.length = 4 := by rw [H0.2.1.1]; rfl
  intro α lv st S1 H hp hk
  obtain ⟨α1, hle, Hr⟩ := as_recM (pl := []) [] (by decide +kernel) H
  have hf := H.2.2.2.2.2.2.2.2.2.2.1
  have hl1 : α1.length = 5 := by rw [Hr.2.1.1]; rfl
  have hl0 : α.length = 5 := by rw [H.2.1.1]; rfl
  have hxa : al_le xs α1 := H.1.trans hle
  obtain ⟨g1, -, g3, g4, -⟩ := as_fx Hr
  have g0 : (2 ≤ nv α1 0 ∧ nv α1 0 ≤ 2) ∧ (0 ≤ nv α1 1 ∧ nv α1 1 ≤ 11) ∧ (96 ≤ nv α1 2 ∧ nv α1 2 ≤ 96) ∧ ((-2147483648) ≤ nv α1 3 ∧ nv α1 3 ≤ 2147483647) ∧ (0 ≤ nv α1 4 ∧ nv α1 4 ≤ 12) ∧ True := by
    refine ⟨by have h := (en_nv (i := 0) Hr.2.1 rfl).2; exact h, by have h := (en_nv (i := 1) Hr.2.1 rfl).2; exact h, by have h := (en_nv (i := 2) Hr.2.1 rfl).2; exact h, by have h := (en_nv (i := 3) Hr.2.1 rfl).2; exact h, by have h := (en_nv (i := 4) Hr.2.1 rfl).2; exact h, trivial⟩
  have r0 : nv α1 0 = nv α 0 := nv_le hle (by omega)
  have r1 : nv α1 1 = nv α 1 := nv_le hle (by omega)
  have r2 : nv α1 2 = nv α 2 := nv_le hle (by omega)
  have r3 : nv α1 3 = nv α 3 := nv_le hle (by omega)
  have r4 : nv α1 4 = nv α 4 := nv_le hle (by omega)
  refine hd_segMR G (na := 5) (fuel := 600) (first := true) (Bs := [kh_spread_b46_0, kh_spread_b46_1]) (by decide +kernel) hl1 Hr ?_
  intro q hq β lv' st' S' H1
  simp only [List.mem_cons, List.not_mem_nil, or_false] at hq
  rcases hq with rfl | rfl
  · obtain ⟨f1, f2, f3, f4, f5⟩ := as_fx H1
    simp only [kh_spread_b46_0, fx_env, fx_c, fx_ne, fx_hf, wl_S, Nat.zero_add, Nat.reduceAdd, Nat.reduceDiv, Nat.reduceMod, List.getElem?_cons_zero, List.getElem?_cons_succ, if_true, and_true, true_and] at f1 f2 f3 f4 f5
    have fe0 : nv β 0 = 2 := by omega
    have fe2 : nv β 2 = 96 := by omega
    have fe5 : nv β 5 = 4 := by omega
    try simp only [fe0, fe2, fe5, Int.reduceToNat] at f2 f3 f4 f5
    have s0 : nv β 0 = nv α1 0 := nv_le H1.1 (by omega)
    have s1 : nv β 1 = nv α1 1 := nv_le H1.1 (by omega)
    have s2 : nv β 2 = nv α1 2 := nv_le H1.1 (by omega)
    have s3 : nv β 3 = nv α1 3 := nv_le H1.1 (by omega)
    have s4 : nv β 4 = nv α1 4 := nv_le H1.1 (by omega)
    obtain ⟨c0, c1⟩ := f2
    have z1 : nv α 1 = nv xs 1 := nv_le H.1 (by omega)
    have i1 := (en_nv (i := 1) H0.2.1 rfl).2
    change 0 ≤ nv xs 1 ∧ nv xs 1 ≤ 11 at i1
    have e5 : S' = S1 := f5
    obtain ⟨p1, p2⟩ := hp
    exact hd_retVR G (by decide +kernel) (as_fl_in (f := [601]) (as_backM H1 (by decide +kernel) hxa hf) (fun g hg' => by
      rcases List.mem_singleton.mp hg' with rfl
      rw [wd_fl2, if_neg (by decide), e5]
      exact ⟨_, i1, p1.2.2.1, p1.2.2.2.2⟩)) (by decide +kernel) (by decide) (by rw [e5]; exact ⟨p1.2.2.1, p1⟩)
  · obtain ⟨f1, f2, f3, f4, f5⟩ := as_fx H1
    simp only [kh_spread_b46_1, fx_env, fx_c, fx_ne, fx_hf, wl_S, Nat.zero_add, Nat.reduceAdd, Nat.reduceDiv, Nat.reduceMod, List.getElem?_cons_zero, List.getElem?_cons_succ, if_true, and_true, true_and] at f1 f2 f3 f4 f5
    have fe0 : nv β 0 = 2 := by omega
    have fe2 : nv β 2 = 96 := by omega
    have fe5 : nv β 5 = 4 := by omega
    have fe7 : nv β 7 = 12 := by omega
    have fe8 : nv β 8 = 6 := by omega
    have fe10 : nv β 10 = 4 := by omega
    try simp only [fe0, fe2, fe5, fe7, fe8, fe10, Int.reduceToNat] at f2 f3 f4 f5
    have s0 : nv β 0 = nv α1 0 := nv_le H1.1 (by omega)
    have s1 : nv β 1 = nv α1 1 := nv_le H1.1 (by omega)
    have s2 : nv β 2 = nv α1 2 := nv_le H1.1 (by omega)
    have s3 : nv β 3 = nv α1 3 := nv_le H1.1 (by omega)
    have s4 : nv β 4 = nv α1 4 := nv_le H1.1 (by omega)
    obtain ⟨c0, c1, c2, c3, c4⟩ := f2
    obtain ⟨α', Ha, hm⟩ := hd_gpM (q := kh_spread_a77) (n := 0) (by decide +kernel) hx H1 (by decide +kernel) hxa hf
    have hfr := H1.2.2.2.2.2.2.2.2.2.2.1
    have m0 : nv α' 0 = nv β 0 := hm 0 0 rfl
    have m1 : nv α' 1 = nv β 1 := hm 1 1 rfl
    have m2 : nv α' 2 = nv β 2 := hm 2 2 rfl
    have m3 : nv α' 3 = nv β 3 := hm 3 3 rfl
    have m4 : nv α' 4 = nv β 4 := hm 4 4 rfl
    have m5 : nv α' 5 = nv β 9 := hm 5 9 rfl
    have m6 : nv α' 6 = nv β 11 := hm 6 11 rfl
    have z1 : nv α 1 = nv xs 1 := nv_le H.1 (by omega)
    have i1 := (en_nv (i := 1) H0.2.1 rfl).2
    change 0 ≤ nv xs 1 ∧ nv xs 1 ≤ 11 at i1
    have o1 := old_0 c1 rfl
    have o4 := old_i c4 (en_nv (i := 6) H1.2.1 rfl).1
    have e5 : S' = S1 := f5
    obtain ⟨p1, p2⟩ := hp
    have u1 : yR S1 = nv β 6 := o4
    have u2 : yM S1 (nv β 4) = nv β 9 := o1
    refine ih.2.2.1 _ _ _ _ Ha ?_ ?_
    · rw [e5]
      refine ⟨p1, ⟨?_, ?_, ?_⟩, ?_, ?_⟩ <;> first | omega | (rw [m5, m4]; exact u2.symm)
    · omega
set_option maxHeartbeats 16000000 in
set_option maxRecDepth 8000 in
theorem kh_spread_h77 {l : Launch} {D : va_G} {tc : Nat → ClassId} {ad : Nat → Nat} {kd : Nat → Nat × Nat} {N : Nat} {sm : Nat → Nat} {xs : List av_X} {S : fw_S} {p : Program} {e : Env} {s : State} {m : MethodId} {args : Array Value} {below : List Frame} {meth : Method} {c : Code} {sz : Nat} {lvE : List (Nat × Value)} (G : hd_C wd_ff2 wd_fl2 kh_spread [] kh_spread_y l D tc ad kd N sm xs p s m args meth c sz) (H0 : as_in ad sm wd_fl2 xs S kh_spread.2.2.2.2.2.1 xs (hd_0 kh_spread) lvE [] S) {k : Nat} (ih : kh_spread_I l D tc ad kd N sm xs S p e s m args below meth c sz k) : (∀ (α : List av_X) (lv : List (Nat × Value)) (st : List Value) (S1 : fw_S), as_in ad sm wd_fl2 xs S kh_spread.2.2.2.2.2.1 α kh_spread_a77.2.2.1 lv st S1 → (wyI (yF S1) (yV S1) (yM S1) (yR S1) (nv xs 1) ∧ (0 ≤ nv α 4 ∧ nv α 4 < yR S1 ∧ nv α 5 = yM S1 (nv α 4)) ∧ (4 * nv α 5 ≤ nv α 6 ∧ nv α 6 ≤ 4 * nv α 5 + 4)) → (13 - nv α 4).toNat * 100 + (4 * nv α 5 + 4 - nv α 6).toNat * 10 + 9 < k + 1 → hd_WR R_spread wd_fl2 kh_spread kh_spread_y l D tc ad kd N sm xs S p e s m args below meth c sz 77 lv st S1 0) := by
  have hx : xs.length = 4 := by rw [H0.2.1.1]; rfl
  intro α lv st S1 H hp hk
  obtain ⟨α1, hle, Hr⟩ := as_recM (pl := []) [] (by decide +kernel) H
  have hf := H.2.2.2.2.2.2.2.2.2.2.1
  have hl1 : α1.length = 7 := by rw [Hr.2.1.1]; rfl
  have hl0 : α.length = 7 := by rw [H.2.1.1]; rfl
  have hxa : al_le xs α1 := H.1.trans hle
  obtain ⟨g1, -, g3, g4, -⟩ := as_fx Hr
  have g0 : (2 ≤ nv α1 0 ∧ nv α1 0 ≤ 2) ∧ (0 ≤ nv α1 1 ∧ nv α1 1 ≤ 11) ∧ (96 ≤ nv α1 2 ∧ nv α1 2 ≤ 96) ∧ ((-2147483648) ≤ nv α1 3 ∧ nv α1 3 ≤ 2147483647) ∧ (0 ≤ nv α1 4 ∧ nv α1 4 ≤ 11) ∧ (0 ≤ nv α1 5 ∧ nv α1 5 ≤ 11) ∧ (0 ≤ nv α1 6 ∧ nv α1 6 ≤ 50) ∧ True := by
    refine ⟨by have h := (en_nv (i := 0) Hr.2.1 rfl).2; exact h, by have h := (en_nv (i := 1) Hr.2.1 rfl).2; exact h, by have h := (en_nv (i := 2) Hr.2.1 rfl).2; exact h, by have h := (en_nv (i := 3) Hr.2.1 rfl).2; exact h, by have h := (en_nv (i := 4) Hr.2.1 rfl).2; exact h, by have h := (en_nv (i := 5) Hr.2.1 rfl).2; exact h, by have h := (en_nv (i := 6) Hr.2.1 rfl).2; exact h, trivial⟩
  have r0 : nv α1 0 = nv α 0 := nv_le hle (by omega)
  have r1 : nv α1 1 = nv α 1 := nv_le hle (by omega)
  have r2 : nv α1 2 = nv α 2 := nv_le hle (by omega)
  have r3 : nv α1 3 = nv α 3 := nv_le hle (by omega)
  have r4 : nv α1 4 = nv α 4 := nv_le hle (by omega)
  have r5 : nv α1 5 = nv α 5 := nv_le hle (by omega)
  have r6 : nv α1 6 = nv α 6 := nv_le hle (by omega)
  refine hd_segMR G (na := 7) (fuel := 600) (first := true) (Bs := [kh_spread_b77_0, kh_spread_b77_1, kh_spread_b77_2, kh_spread_b77_3]) (by decide +kernel) hl1 Hr ?_
  intro q hq β lv' st' S' H1
  simp only [List.mem_cons, List.not_mem_nil, or_false] at hq
  rcases hq with rfl | rfl | rfl | rfl
  · obtain ⟨f1, f2, f3, f4, f5⟩ := as_fx H1
    simp only [kh_spread_b77_0, fx_env, fx_c, fx_ne, fx_hf, wl_S, Nat.zero_add, Nat.reduceAdd, Nat.reduceDiv, Nat.reduceMod, List.getElem?_cons_zero, List.getElem?_cons_succ, if_true, and_true, true_and] at f1 f2 f3 f4 f5
    have fe0 : nv β 0 = 2 := by omega
    have fe2 : nv β 2 = 96 := by omega
    have fe7 : nv β 7 = 4 := by omega
    have fe9 : nv β 9 = 4 := by omega
    try simp only [fe0, fe2, fe7, fe9, Int.reduceToNat] at f2 f3 f4 f5
    have s0 : nv β 0 = nv α1 0 := nv_le H1.1 (by omega)
    have s1 : nv β 1 = nv α1 1 := nv_le H1.1 (by omega)
    have s2 : nv β 2 = nv α1 2 := nv_le H1.1 (by omega)
    have s3 : nv β 3 = nv α1 3 := nv_le H1.1 (by omega)
    have s4 : nv β 4 = nv α1 4 := nv_le H1.1 (by omega)
    have s5 : nv β 5 = nv α1 5 := nv_le H1.1 (by omega)
    have s6 : nv β 6 = nv α1 6 := nv_le H1.1 (by omega)
    obtain ⟨c0, c1, c2⟩ := f2
    obtain ⟨α', Ha, hm⟩ := hd_gpM (q := kh_spread_a46) (n := 0) (by decide +kernel) hx H1 (by decide +kernel) hxa hf
    have hfr := H1.2.2.2.2.2.2.2.2.2.2.1
    have m0 : nv α' 0 = nv β 0 := hm 0 0 rfl
    have m1 : nv α' 1 = nv β 1 := hm 1 1 rfl
    have m2 : nv α' 2 = nv β 2 := hm 2 2 rfl
    have m3 : nv α' 3 = nv β 3 := hm 3 3 rfl
    have m4 : nv α' 4 = nv β 11 := hm 4 11 rfl
    have z1 : nv α 1 = nv xs 1 := nv_le H.1 (by omega)
    have i1 := (en_nv (i := 1) H0.2.1 rfl).2
    change 0 ≤ nv xs 1 ∧ nv xs 1 ≤ 11 at i1
    have e5 : S' = S1 := f5
    obtain ⟨p1, p2, p3⟩ := hp
    refine ih.2.1 _ _ _ _ Ha ?_ ?_
    · rw [e5]
      exact ⟨p1, by omega⟩
    · omega
  · obtain ⟨f1, f2, f3, f4, f5⟩ := as_fx H1
    simp only [kh_spread_b77_1, fx_env, fx_c, fx_ne, fx_hf, wl_S, Nat.zero_add, Nat.reduceAdd, Nat.reduceDiv, Nat.reduceMod, List.getElem?_cons_zero, List.getElem?_cons_succ, if_true, and_true, true_and] at f1 f2 f3 f4 f5
    have fe0 : nv β 0 = 2 := by omega
    have fe2 : nv β 2 = 96 := by omega
    have fe7 : nv β 7 = 4 := by omega
    have fe9 : nv β 9 = 4 := by omega
    have fe12 : nv β 12 = (-1) := by omega
    have fe13 : nv β 13 = (-1) := by omega
    try simp only [fe0, fe2, fe7, fe9, fe12, fe13, Int.reduceToNat] at f2 f3 f4 f5
    have s0 : nv β 0 = nv α1 0 := nv_le H1.1 (by omega)
    have s1 : nv β 1 = nv α1 1 := nv_le H1.1 (by omega)
    have s2 : nv β 2 = nv α1 2 := nv_le H1.1 (by omega)
    have s3 : nv β 3 = nv α1 3 := nv_le H1.1 (by omega)
    have s4 : nv β 4 = nv α1 4 := nv_le H1.1 (by omega)
    have s5 : nv β 5 = nv α1 5 := nv_le H1.1 (by omega)
    have s6 : nv β 6 = nv α1 6 := nv_le H1.1 (by omega)
    obtain ⟨c0, c1, c2, c3, c4⟩ := f2
    obtain ⟨α', Ha, hm⟩ := hd_gpM (q := kh_spread_a77) (n := 0) (by decide +kernel) hx H1 (by decide +kernel) hxa hf
    have hfr := H1.2.2.2.2.2.2.2.2.2.2.1
    have m0 : nv α' 0 = nv β 0 := hm 0 0 rfl
    have m1 : nv α' 1 = nv β 1 := hm 1 1 rfl
    have m2 : nv α' 2 = nv β 2 := hm 2 2 rfl
    have m3 : nv α' 3 = nv β 3 := hm 3 3 rfl
    have m4 : nv α' 4 = nv β 4 := hm 4 4 rfl
    have m5 : nv α' 5 = nv β 5 := hm 5 5 rfl
    have m6 : nv α' 6 = nv β 14 := hm 6 14 rfl
    have z1 : nv α 1 = nv xs 1 := nv_le H.1 (by omega)
    have i1 := (en_nv (i := 1) H0.2.1 rfl).2
    change 0 ≤ nv xs 1 ∧ nv xs 1 ≤ 11 at i1
    have e5 : S' = S1 := f5
    obtain ⟨p1, ⟨p2, p3, p4⟩, p5, p6⟩ := hp
    refine ih.2.2.1 _ _ _ _ Ha ?_ ?_
    · rw [e5]
      refine ⟨p1, ⟨?_, ?_, ?_⟩, ?_, ?_⟩ <;> first | omega | (rw [m5, m4, s5, s4, r5, r4]; exact p4)
    · omega
  · obtain ⟨f1, f2, f3, f4, f5⟩ := as_fx H1
    simp only [kh_spread_b77_2, fx_env, fx_c, fx_ne, fx_hf, wl_S, Nat.zero_add, Nat.reduceAdd, Nat.reduceDiv, Nat.reduceMod, List.getElem?_cons_zero, List.getElem?_cons_succ, if_true, and_true, true_and] at f1 f2 f3 f4 f5
    have fe0 : nv β 0 = 2 := by omega
    have fe2 : nv β 2 = 96 := by omega
    have fe7 : nv β 7 = 4 := by omega
    have fe9 : nv β 9 = 4 := by omega
    have fe13 : nv β 13 = (-1) := by omega
    have fe14 : nv β 14 = 3 := by omega
    have fe15 : nv β 15 = 0 := by omega
    try simp only [fe0, fe2, fe7, fe9, fe13, fe14, fe15, Int.reduceToNat] at f2 f3 f4 f5
    have s0 : nv β 0 = nv α1 0 := nv_le H1.1 (by omega)
    have s1 : nv β 1 = nv α1 1 := nv_le H1.1 (by omega)
    have s2 : nv β 2 = nv α1 2 := nv_le H1.1 (by omega)
    have s3 : nv β 3 = nv α1 3 := nv_le H1.1 (by omega)
    have s4 : nv β 4 = nv α1 4 := nv_le H1.1 (by omega)
    have s5 : nv β 5 = nv α1 5 := nv_le H1.1 (by omega)
    have s6 : nv β 6 = nv α1 6 := nv_le H1.1 (by omega)
    obtain ⟨c0, c1, c2, c3, c4, c5⟩ := f2
    obtain ⟨α', Ha, hm⟩ := hd_gpM (q := kh_spread_a77) (n := 0) (by decide +kernel) hx H1 (by decide +kernel) hxa hf
    have hfr := H1.2.2.2.2.2.2.2.2.2.2.1
    have m0 : nv α' 0 = nv β 0 := hm 0 0 rfl
    have m1 : nv α' 1 = nv β 1 := hm 1 1 rfl
    have m2 : nv α' 2 = nv β 2 := hm 2 2 rfl
    have m3 : nv α' 3 = nv β 3 := hm 3 3 rfl
    have m4 : nv α' 4 = nv β 4 := hm 4 4 rfl
    have m5 : nv α' 5 = nv β 5 := hm 5 5 rfl
    have m6 : nv α' 6 = nv β 16 := hm 6 16 rfl
    have z1 : nv α 1 = nv xs 1 := nv_le H.1 (by omega)
    have i1 := (en_nv (i := 1) H0.2.1 rfl).2
    change 0 ≤ nv xs 1 ∧ nv xs 1 ≤ 11 at i1
    have e5 : S' = S1 := f5
    obtain ⟨p1, ⟨p2, p3, p4⟩, p5, p6⟩ := hp
    refine ih.2.2.1 _ _ _ _ Ha ?_ ?_
    · rw [e5]
      refine ⟨p1, ⟨?_, ?_, ?_⟩, ?_, ?_⟩ <;> first | omega | (rw [m5, m4, s5, s4, r5, r4]; exact p4)
    · omega
  · obtain ⟨f1, f2, f3, f4, f5⟩ := as_fx H1
    simp only [kh_spread_b77_3, fx_env, fx_c, fx_ne, fx_hf, wl_S, Nat.zero_add, Nat.reduceAdd, Nat.reduceDiv, Nat.reduceMod, List.getElem?_cons_zero, List.getElem?_cons_succ, if_true, and_true, true_and] at f1 f2 f3 f4 f5
    have fe0 : nv β 0 = 2 := by omega
    have fe2 : nv β 2 = 96 := by omega
    have fe7 : nv β 7 = 4 := by omega
    have fe9 : nv β 9 = 4 := by omega
    have fe13 : nv β 13 = (-1) := by omega
    have fe14 : nv β 14 = 3 := by omega
    have fe15 : nv β 15 = 1 := by omega
    try simp only [fe0, fe2, fe7, fe9, fe13, fe14, fe15, Int.reduceToNat] at f2 f3 f4 f5
    have s0 : nv β 0 = nv α1 0 := nv_le H1.1 (by omega)
    have s1 : nv β 1 = nv α1 1 := nv_le H1.1 (by omega)
    have s2 : nv β 2 = nv α1 2 := nv_le H1.1 (by omega)
    have s3 : nv β 3 = nv α1 3 := nv_le H1.1 (by omega)
    have s4 : nv β 4 = nv α1 4 := nv_le H1.1 (by omega)
    have s5 : nv β 5 = nv α1 5 := nv_le H1.1 (by omega)
    have s6 : nv β 6 = nv α1 6 := nv_le H1.1 (by omega)
    obtain ⟨c0, c1, c2, c3, c4, c5, c6, c7, c8, c9⟩ := f2
    obtain ⟨α', Ha, hm⟩ := hd_gpM (q := kh_spread_a130) (n := 0) (by decide +kernel) hx H1 (by decide +kernel) hxa hf
    have hfr := H1.2.2.2.2.2.2.2.2.2.2.1
    have m0 : nv α' 0 = nv β 0 := hm 0 0 rfl
    have m1 : nv α' 1 = nv β 1 := hm 1 1 rfl
    have m2 : nv α' 2 = nv β 2 := hm 2 2 rfl
    have m3 : nv α' 3 = nv β 3 := hm 3 3 rfl
    have m4 : nv α' 4 = nv β 4 := hm 4 4 rfl
    have m5 : nv α' 5 = nv β 5 := hm 5 5 rfl
    have m6 : nv α' 6 = nv β 6 := hm 6 6 rfl
    have m7 : nv α' 7 = nv β 12 := hm 7 12 rfl
    have m8 : nv α' 8 = nv β 21 := hm 8 21 rfl
    have z1 : nv α 1 = nv xs 1 := nv_le H.1 (by omega)
    have i1 := (en_nv (i := 1) H0.2.1 rfl).2
    change 0 ≤ nv xs 1 ∧ nv xs 1 ≤ 11 at i1
    have e5 : S' = S1 := f5
    obtain ⟨p1, ⟨p2, p3, p4⟩, p5, p6⟩ := hp
    have t0 := tb_low c3
    have t1 := tb_high c2
    have t2 := tb_exit c6
    have t3 : nv β 21 = othT (nv β 12) (nv β 5) := by unfold othT; rw [← t0, ← t1]; omega
    have t4 := exit_in (a := nv β 5) (d := nv β 6) (by omega) (by omega) (by rw [← t2]; omega)
    rw [← t2, ← t3] at t4
    refine ih.2.2.2.1 _ _ _ _ Ha ?_ ?_
    · rw [e5]
      refine ⟨p1, ⟨?_, ?_, ?_⟩, ⟨?_, ?_⟩, ?_, ?_, ?_⟩ <;> first | omega | (rw [m8, m7, m5]; exact t3) | (rw [m5, m4, s5, s4, r5, r4]; exact p4)
    · omega
set_option maxHeartbeats 16000000 in
set_option maxRecDepth 8000 in
theorem kh_spread_h130 {l : Launch} {D : va_G} {tc : Nat → ClassId} {ad : Nat → Nat} {kd : Nat → Nat × Nat} {N : Nat} {sm : Nat → Nat} {xs : List av_X} {S : fw_S} {p : Program} {e : Env} {s : State} {m : MethodId} {args : Array Value} {below : List Frame} {meth : Method} {c : Code} {sz : Nat} {lvE : List (Nat × Value)} (G : hd_C wd_ff2 wd_fl2 kh_spread [] kh_spread_y l D tc ad kd N sm xs p s m args meth c sz) (H0 : as_in ad sm wd_fl2 xs S kh_spread.2.2.2.2.2.1 xs (hd_0 kh_spread) lvE [] S) {k : Nat} (ih : kh_spread_I l D tc ad kd N sm xs S p e s m args below meth c sz k) : (∀ (α : List av_X) (lv : List (Nat × Value)) (st : List Value) (S1 : fw_S), as_in ad sm wd_fl2 xs S kh_spread.2.2.2.2.2.1 α kh_spread_a130.2.2.1 lv st S1 → (wyI (yF S1) (yV S1) (yM S1) (yR S1) (nv xs 1) ∧ (0 ≤ nv α 4 ∧ nv α 4 < yR S1 ∧ nv α 5 = yM S1 (nv α 4)) ∧ (4 * nv α 5 ≤ nv α 6 ∧ nv α 6 < 4 * nv α 5 + 4) ∧ (nv α 8 = othT (nv α 7) (nv α 5) ∧ 0 ≤ nv α 8 ∧ nv α 8 ≤ 11)) → (13 - nv α 4).toNat * 100 + (4 * nv α 5 + 4 - nv α 6).toNat * 10 + 8 < k + 1 → hd_WR R_spread wd_fl2 kh_spread kh_spread_y l D tc ad kd N sm xs S p e s m args below meth c sz 130 lv st S1 0) := by
  have hx : xs.length = 4 := by rw [H0.2.1.1]; rfl
  intro α lv st S1 H hp hk
  have bp := (en_nv (i := 8) H.2.1 rfl).2
  change (-10) ≤ nv α 8 ∧ nv α 8 ≤ 21 at bp
  replace H := as_clamp (i := 8) (lo := 0) (hi := 11) H rfl rfl (by exact hp.2.2.2.2.1) (by exact hp.2.2.2.2.2) (by decide)
  obtain ⟨α1, hle, Hr⟩ := as_recM (pl := []) [] (by decide +kernel) H
  have hf := H.2.2.2.2.2.2.2.2.2.2.1
  have hl1 : α1.length = 9 := by rw [Hr.2.1.1]; rfl
  have hl0 : α.length = 9 := by rw [H.2.1.1]; rfl
  have hxa : al_le xs α1 := H.1.trans hle
  obtain ⟨g1, -, g3, g4, -⟩ := as_fx Hr
  have g0 : (2 ≤ nv α1 0 ∧ nv α1 0 ≤ 2) ∧ (0 ≤ nv α1 1 ∧ nv α1 1 ≤ 11) ∧ (96 ≤ nv α1 2 ∧ nv α1 2 ≤ 96) ∧ ((-2147483648) ≤ nv α1 3 ∧ nv α1 3 ≤ 2147483647) ∧ (0 ≤ nv α1 4 ∧ nv α1 4 ≤ 11) ∧ (0 ≤ nv α1 5 ∧ nv α1 5 ≤ 11) ∧ (0 ≤ nv α1 6 ∧ nv α1 6 ≤ 47) ∧ (0 ≤ nv α1 7 ∧ nv α1 7 ≤ 16) ∧ (0 ≤ nv α1 8 ∧ nv α1 8 ≤ 11) ∧ True := by
    refine ⟨by have h := (en_nv (i := 0) Hr.2.1 rfl).2; exact h, by have h := (en_nv (i := 1) Hr.2.1 rfl).2; exact h, by have h := (en_nv (i := 2) Hr.2.1 rfl).2; exact h, by have h := (en_nv (i := 3) Hr.2.1 rfl).2; exact h, by have h := (en_nv (i := 4) Hr.2.1 rfl).2; exact h, by have h := (en_nv (i := 5) Hr.2.1 rfl).2; exact h, by have h := (en_nv (i := 6) Hr.2.1 rfl).2; exact h, by have h := (en_nv (i := 7) Hr.2.1 rfl).2; exact h, by have h := (en_nv (i := 8) Hr.2.1 rfl).2; exact h, trivial⟩
  have r0 : nv α1 0 = nv α 0 := nv_le hle (by omega)
  have r1 : nv α1 1 = nv α 1 := nv_le hle (by omega)
  have r2 : nv α1 2 = nv α 2 := nv_le hle (by omega)
  have r3 : nv α1 3 = nv α 3 := nv_le hle (by omega)
  have r4 : nv α1 4 = nv α 4 := nv_le hle (by omega)
  have r5 : nv α1 5 = nv α 5 := nv_le hle (by omega)
  have r6 : nv α1 6 = nv α 6 := nv_le hle (by omega)
  have r7 : nv α1 7 = nv α 7 := nv_le hle (by omega)
  have r8 : nv α1 8 = nv α 8 := nv_le hle (by omega)
  refine hd_segMR G (na := 9) (fuel := 600) (first := true) (Bs := [kh_spread_b130_0, kh_spread_b130_1, kh_spread_b130_2, kh_spread_b130_3]) (by decide +kernel) hl1 Hr ?_
  intro q hq β lv' st' S' H1
  simp only [List.mem_cons, List.not_mem_nil, or_false] at hq
  rcases hq with rfl | rfl | rfl | rfl
  · obtain ⟨f1, f2, f3, f4, f5⟩ := as_fx H1
    simp only [kh_spread_b130_0, fx_env, fx_c, fx_ne, fx_hf, wl_S, Nat.zero_add, Nat.reduceAdd, Nat.reduceDiv, Nat.reduceMod, List.getElem?_cons_zero, List.getElem?_cons_succ, if_true, and_true, true_and] at f1 f2 f3 f4 f5
    have fe0 : nv β 0 = 2 := by omega
    have fe2 : nv β 2 = 96 := by omega
    have fe9 : nv β 9 = 4 := by omega
    have fe11 : nv β 11 = (-1) := by omega
    try simp only [fe0, fe2, fe9, fe11, Int.reduceToNat] at f2 f3 f4 f5
    have s0 : nv β 0 = nv α1 0 := nv_le H1.1 (by omega)
    have s1 : nv β 1 = nv α1 1 := nv_le H1.1 (by omega)
    have s2 : nv β 2 = nv α1 2 := nv_le H1.1 (by omega)
    have s3 : nv β 3 = nv α1 3 := nv_le H1.1 (by omega)
    have s4 : nv β 4 = nv α1 4 := nv_le H1.1 (by omega)
    have s5 : nv β 5 = nv α1 5 := nv_le H1.1 (by omega)
    have s6 : nv β 6 = nv α1 6 := nv_le H1.1 (by omega)
    have s7 : nv β 7 = nv α1 7 := nv_le H1.1 (by omega)
    have s8 : nv β 8 = nv α1 8 := nv_le H1.1 (by omega)
    obtain ⟨c0, c1⟩ := f2
    obtain ⟨α', Ha, hm⟩ := hd_gpM (q := kh_spread_a77) (n := 0) (by decide +kernel) hx H1 (by decide +kernel) hxa hf
    have hfr := H1.2.2.2.2.2.2.2.2.2.2.1
    have m0 : nv α' 0 = nv β 0 := hm 0 0 rfl
    have m1 : nv α' 1 = nv β 1 := hm 1 1 rfl
    have m2 : nv α' 2 = nv β 2 := hm 2 2 rfl
    have m3 : nv α' 3 = nv β 3 := hm 3 3 rfl
    have m4 : nv α' 4 = nv β 4 := hm 4 4 rfl
    have m5 : nv α' 5 = nv β 5 := hm 5 5 rfl
    have m6 : nv α' 6 = nv β 12 := hm 6 12 rfl
    have z1 : nv α 1 = nv xs 1 := nv_le H.1 (by omega)
    have i1 := (en_nv (i := 1) H0.2.1 rfl).2
    change 0 ≤ nv xs 1 ∧ nv xs 1 ≤ 11 at i1
    have e5 : S' = S1 := f5
    obtain ⟨p1, ⟨p2, p3, p4⟩, ⟨p5, p6⟩, p7⟩ := hp
    refine ih.2.2.1 _ _ _ _ Ha ?_ ?_
    · rw [e5]
      refine ⟨p1, ⟨?_, ?_, ?_⟩, ?_, ?_⟩ <;> first | omega | (rw [m5, m4, s5, s4, r5, r4]; exact p4)
    · omega
  · obtain ⟨f1, f2, f3, f4, f5⟩ := as_fx H1
    simp only [kh_spread_b130_1, fx_env, fx_c, fx_ne, fx_hf, wl_S, Nat.zero_add, Nat.reduceAdd, Nat.reduceDiv, Nat.reduceMod, List.getElem?_cons_zero, List.getElem?_cons_succ, if_true, and_true, true_and] at f1 f2 f3 f4 f5
    have fe0 : nv β 0 = 2 := by omega
    have fe2 : nv β 2 = 96 := by omega
    have fe9 : nv β 9 = 4 := by omega
    have fe10 : nv β 10 = (-1) := by omega
    have fe11 : nv β 11 = (-1) := by omega
    try simp only [fe0, fe2, fe9, fe10, fe11, Int.reduceToNat] at f2 f3 f4 f5
    have s0 : nv β 0 = nv α1 0 := nv_le H1.1 (by omega)
    have s1 : nv β 1 = nv α1 1 := nv_le H1.1 (by omega)
    have s2 : nv β 2 = nv α1 2 := nv_le H1.1 (by omega)
    have s3 : nv β 3 = nv α1 3 := nv_le H1.1 (by omega)
    have s4 : nv β 4 = nv α1 4 := nv_le H1.1 (by omega)
    have s5 : nv β 5 = nv α1 5 := nv_le H1.1 (by omega)
    have s6 : nv β 6 = nv α1 6 := nv_le H1.1 (by omega)
    have s7 : nv β 7 = nv α1 7 := nv_le H1.1 (by omega)
    have s8 : nv β 8 = nv α1 8 := nv_le H1.1 (by omega)
    obtain ⟨c0, c1, c2, c3⟩ := f2
    obtain ⟨α', Ha, hm⟩ := hd_gpM (q := kh_spread_a77) (n := 0) (by decide +kernel) hx H1 (by decide +kernel) hxa hf
    have hfr := H1.2.2.2.2.2.2.2.2.2.2.1
    have m0 : nv α' 0 = nv β 0 := hm 0 0 rfl
    have m1 : nv α' 1 = nv β 1 := hm 1 1 rfl
    have m2 : nv α' 2 = nv β 2 := hm 2 2 rfl
    have m3 : nv α' 3 = nv β 3 := hm 3 3 rfl
    have m4 : nv α' 4 = nv β 4 := hm 4 4 rfl
    have m5 : nv α' 5 = nv β 5 := hm 5 5 rfl
    have m6 : nv α' 6 = nv β 13 := hm 6 13 rfl
    have z1 : nv α 1 = nv xs 1 := nv_le H.1 (by omega)
    have i1 := (en_nv (i := 1) H0.2.1 rfl).2
    change 0 ≤ nv xs 1 ∧ nv xs 1 ≤ 11 at i1
    have e5 : S' = S1 := f5
    obtain ⟨p1, ⟨p2, p3, p4⟩, ⟨p5, p6⟩, p7⟩ := hp
    refine ih.2.2.1 _ _ _ _ Ha ?_ ?_
    · rw [e5]
      refine ⟨p1, ⟨?_, ?_, ?_⟩, ?_, ?_⟩ <;> first | omega | (rw [m5, m4, s5, s4, r5, r4]; exact p4)
    · omega
  · obtain ⟨f1, f2, f3, f4, f5⟩ := as_fx H1
    simp only [kh_spread_b130_2, fx_env, fx_c, fx_ne, fx_hf, wl_S, Nat.zero_add, Nat.reduceAdd, Nat.reduceDiv, Nat.reduceMod, List.getElem?_cons_zero, List.getElem?_cons_succ, if_true, and_true, true_and] at f1 f2 f3 f4 f5
    have fe0 : nv β 0 = 2 := by omega
    have fe2 : nv β 2 = 96 := by omega
    have fe9 : nv β 9 = 4 := by omega
    have fe10 : nv β 10 = (-1) := by omega
    have fe11 : nv β 11 = (-1) := by omega
    have fe13 : nv β 13 = 4 := by omega
    have fe14 : nv β 14 = 12 := by omega
    have fe15 : nv β 15 = 12 := by omega
    try simp only [fe0, fe2, fe9, fe10, fe11, fe13, fe14, fe15, Int.reduceToNat] at f2 f3 f4 f5
    have s0 : nv β 0 = nv α1 0 := nv_le H1.1 (by omega)
    have s1 : nv β 1 = nv α1 1 := nv_le H1.1 (by omega)
    have s2 : nv β 2 = nv α1 2 := nv_le H1.1 (by omega)
    have s3 : nv β 3 = nv α1 3 := nv_le H1.1 (by omega)
    have s4 : nv β 4 = nv α1 4 := nv_le H1.1 (by omega)
    have s5 : nv β 5 = nv α1 5 := nv_le H1.1 (by omega)
    have s6 : nv β 6 = nv α1 6 := nv_le H1.1 (by omega)
    have s7 : nv β 7 = nv α1 7 := nv_le H1.1 (by omega)
    have s8 : nv β 8 = nv α1 8 := nv_le H1.1 (by omega)
    obtain ⟨c0, c1, c2, c3, c4, c5⟩ := f2
    obtain ⟨α', Ha, hm⟩ := hd_gpM (q := kh_spread_a77) (n := 0) (by decide +kernel) hx H1 (by decide +kernel) hxa hf
    have hfr := H1.2.2.2.2.2.2.2.2.2.2.1
    have m0 : nv α' 0 = nv β 0 := hm 0 0 rfl
    have m1 : nv α' 1 = nv β 1 := hm 1 1 rfl
    have m2 : nv α' 2 = nv β 2 := hm 2 2 rfl
    have m3 : nv α' 3 = nv β 3 := hm 3 3 rfl
    have m4 : nv α' 4 = nv β 4 := hm 4 4 rfl
    have m5 : nv α' 5 = nv β 5 := hm 5 5 rfl
    have m6 : nv α' 6 = nv β 16 := hm 6 16 rfl
    have z1 : nv α 1 = nv xs 1 := nv_le H.1 (by omega)
    have i1 := (en_nv (i := 1) H0.2.1 rfl).2
    change 0 ≤ nv xs 1 ∧ nv xs 1 ≤ 11 at i1
    have e5 : S' = S1 := f5
    obtain ⟨p1, ⟨p2, p3, p4⟩, ⟨p5, p6⟩, p7⟩ := hp
    refine ih.2.2.1 _ _ _ _ Ha ?_ ?_
    · rw [e5]
      refine ⟨p1, ⟨?_, ?_, ?_⟩, ?_, ?_⟩ <;> first | omega | (rw [m5, m4, s5, s4, r5, r4]; exact p4)
    · omega
  · obtain ⟨f1, f2, f3, f4, f5⟩ := as_fx H1
    simp only [kh_spread_b130_3, fx_env, fx_c, fx_ne, fx_hf, wl_S, Nat.zero_add, Nat.reduceAdd, Nat.reduceDiv, Nat.reduceMod, List.getElem?_cons_zero, List.getElem?_cons_succ, if_true, and_true, true_and] at f1 f2 f3 f4 f5
    have fe0 : nv β 0 = 2 := by omega
    have fe2 : nv β 2 = 96 := by omega
    have fe9 : nv β 9 = 4 := by omega
    have fe10 : nv β 10 = (-1) := by omega
    have fe11 : nv β 11 = (-1) := by omega
    have fe13 : nv β 13 = 4 := by omega
    have fe15 : nv β 15 = 12 := by omega
    have fe16 : nv β 16 = 4 := by omega
    have fe17 : nv β 17 = 4 := by omega
    have fe19 : nv β 19 = 1 := by omega
    try simp only [fe0, fe2, fe9, fe10, fe11, fe13, fe15, fe16, fe17, fe19, Int.reduceToNat] at f2 f3 f4 f5
    have s0 : nv β 0 = nv α1 0 := nv_le H1.1 (by omega)
    have s1 : nv β 1 = nv α1 1 := nv_le H1.1 (by omega)
    have s2 : nv β 2 = nv α1 2 := nv_le H1.1 (by omega)
    have s3 : nv β 3 = nv α1 3 := nv_le H1.1 (by omega)
    have s4 : nv β 4 = nv α1 4 := nv_le H1.1 (by omega)
    have s5 : nv β 5 = nv α1 5 := nv_le H1.1 (by omega)
    have s6 : nv β 6 = nv α1 6 := nv_le H1.1 (by omega)
    have s7 : nv β 7 = nv α1 7 := nv_le H1.1 (by omega)
    have s8 : nv β 8 = nv α1 8 := nv_le H1.1 (by omega)
    obtain ⟨c0, c1, c2, c3, c4, c5, c6, c7⟩ := f2
    obtain ⟨α', Ha, hm⟩ := hd_gpM (q := kh_spread_a173) (n := 0) (by decide +kernel) hx H1 (by decide +kernel) hxa hf
    have hfr := H1.2.2.2.2.2.2.2.2.2.2.1
    have m0 : nv α' 0 = nv β 0 := hm 0 0 rfl
    have m1 : nv α' 1 = nv β 1 := hm 1 1 rfl
    have m2 : nv α' 2 = nv β 2 := hm 2 2 rfl
    have m3 : nv α' 3 = nv β 3 := hm 3 3 rfl
    have m4 : nv α' 4 = nv β 4 := hm 4 4 rfl
    have m5 : nv α' 5 = nv β 5 := hm 5 5 rfl
    have m6 : nv α' 6 = nv β 6 := hm 6 6 rfl
    have m7 : nv α' 7 = nv β 7 := hm 7 7 rfl
    have m8 : nv α' 8 = nv β 8 := hm 8 8 rfl
    have m9 : nv α' 9 = nv β 20 := hm 9 20 rfl
    have m10 : nv α' 10 = nv β 8 := hm 10 8 rfl
    have m11 : nv α' 11 = nv β 16 := hm 11 16 rfl
    have z1 : nv α 1 = nv xs 1 := nv_le H.1 (by omega)
    have i1 := (en_nv (i := 1) H0.2.1 rfl).2
    change 0 ≤ nv xs 1 ∧ nv xs 1 ≤ 11 at i1
    have o1 := old_0 c1 rfl
    have o3 := old_i c3 (en_nv (i := 14) H1.2.1 rfl).1
    have o5 := old_0 c5 rfl
    have o7 := old_0 c7 rfl
    have e5 : S' = S1 := f5
    obtain ⟨p1, ⟨p2, p3, p4⟩, ⟨p5, p6⟩, p7, p8, p9⟩ := hp
    have u1 : yF S1 (nv β 8) = -1 := by show (S1.1 4 (nv β 8).toNat).toInt = -1; have := o7; omega
    have u2 : yR S1 < 12 := by show (S1.1 2 4).toInt < 12; have := o3; omega
    have u3 : yF S1 (nv β 5) = nv β 18 := o1
    have u4 := (p1.2.2.2.1 (nv α 4) p2 p3).2.2.1
    have u5 := (p1.2.2.2.1 (nv α 4) p2 p3).2.2.2
    rw [← p4] at u4 u5
    rw [s5, r5] at u3
    refine ih.2.2.2.2.1 _ _ _ _ Ha ?_ ?_
    · rw [e5]
      refine ⟨p1, ⟨?_, ?_, ?_⟩, ⟨?_, ?_⟩, ⟨?_, ?_, ?_⟩, ?_, u2, ?_, ?_, ?_, ?_⟩ <;> first | omega | (rw [m8]; exact u1) | (rw [m8, m7, m5, s8, s7, s5, r8, r7, r5]; exact p7) | (rw [m5, m4, s5, s4, r5, r4]; exact p4) | (rw [m9, m5, s5, r5]; omega)
    · omega
set_option maxHeartbeats 16000000 in
set_option maxRecDepth 8000 in
theorem kh_spread_h173 {l : Launch} {D : va_G} {tc : Nat → ClassId} {ad : Nat → Nat} {kd : Nat → Nat × Nat} {N : Nat} {sm : Nat → Nat} {xs : List av_X} {S : fw_S} {p : Program} {e : Env} {s : State} {m : MethodId} {args : Array Value} {below : List Frame} {meth : Method} {c : Code} {sz : Nat} {lvE : List (Nat × Value)} (G : hd_C wd_ff2 wd_fl2 kh_spread [] kh_spread_y l D tc ad kd N sm xs p s m args meth c sz) (H0 : as_in ad sm wd_fl2 xs S kh_spread.2.2.2.2.2.1 xs (hd_0 kh_spread) lvE [] S) {k : Nat} (ih : kh_spread_I l D tc ad kd N sm xs S p e s m args below meth c sz k) : (∀ (α : List av_X) (lv : List (Nat × Value)) (st : List Value) (S1 : fw_S), as_in ad sm wd_fl2 xs S kh_spread.2.2.2.2.2.1 α kh_spread_a173.2.2.1 lv st S1 → (wyI (yF S1) (yV S1) (yM S1) (yR S1) (nv xs 1) ∧ (0 ≤ nv α 4 ∧ nv α 4 < yR S1 ∧ nv α 5 = yM S1 (nv α 4)) ∧ (4 * nv α 5 ≤ nv α 6 ∧ nv α 6 < 4 * nv α 5 + 4) ∧ (nv α 8 = othT (nv α 7) (nv α 5) ∧ 0 ≤ nv α 8 ∧ nv α 8 ≤ 11) ∧ yF S1 (nv α 8) = -1 ∧ yR S1 < 12 ∧ nv α 10 = nv α 8 ∧ nv α 9 = yF S1 (nv α 5) + 1 ∧ 0 ≤ nv α 9 ∧ nv α 9 ≤ 11) → (13 - nv α 4).toNat * 100 + (4 * nv α 5 + 4 - nv α 6).toNat * 10 + 7 < k + 1 → hd_WR R_spread wd_fl2 kh_spread kh_spread_y l D tc ad kd N sm xs S p e s m args below meth c sz 173 lv st S1 0) := by
  have hx : xs.length = 4 := by rw [H0.2.1.1]; rfl
  intro α lv st S1 H hp hk
  have bp := (en_nv (i := 9) H.2.1 rfl).2
  change 0 ≤ nv α 9 ∧ nv α 9 ≤ 12 at bp
  replace H := as_clamp (i := 9) (lo := 0) (hi := 11) H rfl rfl (by exact hp.2.2.2.2.2.2.2.2.1) (by exact hp.2.2.2.2.2.2.2.2.2) (by decide)
  obtain ⟨α1, hle, Hr⟩ := as_recM (pl := []) [((4, 4), (0, 11, 1)), ((5, 5), (0, 11, 1))] (by decide +kernel) H
  have hf := H.2.2.2.2.2.2.2.2.2.2.1
  have hl1 : α1.length = 12 := by rw [Hr.2.1.1]; rfl
  have hl0 : α.length = 12 := by rw [H.2.1.1]; rfl
  have hxa : al_le xs α1 := H.1.trans hle
  obtain ⟨g1, -, g3, g4, -⟩ := as_fx Hr
  have g0 : (2 ≤ nv α1 0 ∧ nv α1 0 ≤ 2) ∧ (0 ≤ nv α1 1 ∧ nv α1 1 ≤ 11) ∧ (96 ≤ nv α1 2 ∧ nv α1 2 ≤ 96) ∧ (0 ≤ nv α1 3 ∧ nv α1 3 ≤ 2147483647) ∧ (0 ≤ nv α1 4 ∧ nv α1 4 ≤ 11) ∧ (0 ≤ nv α1 5 ∧ nv α1 5 ≤ 11) ∧ (0 ≤ nv α1 6 ∧ nv α1 6 ≤ 47) ∧ (0 ≤ nv α1 7 ∧ nv α1 7 ≤ 16) ∧ (0 ≤ nv α1 8 ∧ nv α1 8 ≤ 11) ∧ (0 ≤ nv α1 9 ∧ nv α1 9 ≤ 11) ∧ (0 ≤ nv α1 10 ∧ nv α1 10 ≤ 11) ∧ (4 ≤ nv α1 11 ∧ nv α1 11 ≤ 4) ∧ True := by
    refine ⟨by have h := (en_nv (i := 0) Hr.2.1 rfl).2; exact h, by have h := (en_nv (i := 1) Hr.2.1 rfl).2; exact h, by have h := (en_nv (i := 2) Hr.2.1 rfl).2; exact h, by have h := (en_nv (i := 3) Hr.2.1 rfl).2; exact h, by have h := (en_nv (i := 4) Hr.2.1 rfl).2; exact h, by have h := (en_nv (i := 5) Hr.2.1 rfl).2; exact h, by have h := (en_nv (i := 6) Hr.2.1 rfl).2; exact h, by have h := (en_nv (i := 7) Hr.2.1 rfl).2; exact h, by have h := (en_nv (i := 8) Hr.2.1 rfl).2; exact h, by have h := (en_nv (i := 9) Hr.2.1 rfl).2; exact h, by have h := (en_nv (i := 10) Hr.2.1 rfl).2; exact h, by have h := (en_nv (i := 11) Hr.2.1 rfl).2; exact h, trivial⟩
  have r0 : nv α1 0 = nv α 0 := nv_le hle (by omega)
  have r1 : nv α1 1 = nv α 1 := nv_le hle (by omega)
  have r2 : nv α1 2 = nv α 2 := nv_le hle (by omega)
  have r3 : nv α1 3 = nv α 3 := nv_le hle (by omega)
  have r4 : nv α1 4 = nv α 4 := nv_le hle (by omega)
  have r5 : nv α1 5 = nv α 5 := nv_le hle (by omega)
  have r6 : nv α1 6 = nv α 6 := nv_le hle (by omega)
  have r7 : nv α1 7 = nv α 7 := nv_le hle (by omega)
  have r8 : nv α1 8 = nv α 8 := nv_le hle (by omega)
  have r9 : nv α1 9 = nv α 9 := nv_le hle (by omega)
  have r10 : nv α1 10 = nv α 10 := nv_le hle (by omega)
  have r11 : nv α1 11 = nv α 11 := nv_le hle (by omega)
  refine hd_segMR G (na := 12) (fuel := 600) (first := true) (Bs := [kh_spread_b173_0]) (by decide +kernel) hl1 Hr ?_
  intro q hq β lv' st' S' H1
  simp only [List.mem_cons, List.not_mem_nil, or_false] at hq
  rcases hq with rfl
  · obtain ⟨f1, f2, f3, f4, f5⟩ := as_fx H1
    simp only [kh_spread_b173_0, fx_env, fx_c, fx_ne, fx_hf, wl_S, Nat.zero_add, Nat.reduceAdd, Nat.reduceDiv, Nat.reduceMod, List.getElem?_cons_zero, List.getElem?_cons_succ, if_true, and_true, true_and] at f1 f2 f3 f4 f5
    have fe0 : nv β 0 = 2 := by omega
    have fe2 : nv β 2 = 96 := by omega
    have fe11 : nv β 11 = 4 := by omega
    have fe12 : nv β 12 = 5 := by omega
    have fe13 : nv β 13 = 6 := by omega
    have fe14 : nv β 14 = 4 := by omega
    try simp only [fe0, fe2, fe11, fe12, fe13, fe14, Int.reduceToNat] at f2 f3 f4 f5
    have s0 : nv β 0 = nv α1 0 := nv_le H1.1 (by omega)
    have s1 : nv β 1 = nv α1 1 := nv_le H1.1 (by omega)
    have s2 : nv β 2 = nv α1 2 := nv_le H1.1 (by omega)
    have s3 : nv β 3 = nv α1 3 := nv_le H1.1 (by omega)
    have s4 : nv β 4 = nv α1 4 := nv_le H1.1 (by omega)
    have s5 : nv β 5 = nv α1 5 := nv_le H1.1 (by omega)
    have s6 : nv β 6 = nv α1 6 := nv_le H1.1 (by omega)
    have s7 : nv β 7 = nv α1 7 := nv_le H1.1 (by omega)
    have s8 : nv β 8 = nv α1 8 := nv_le H1.1 (by omega)
    have s9 : nv β 9 = nv α1 9 := nv_le H1.1 (by omega)
    have s10 : nv β 10 = nv α1 10 := nv_le H1.1 (by omega)
    have s11 : nv β 11 = nv α1 11 := nv_le H1.1 (by omega)
    obtain ⟨α', Ha, hm⟩ := hd_gpM (q := kh_spread_a193) (n := 0) (by decide +kernel) hx H1 (by decide +kernel) hxa hf
    have hfr := H1.2.2.2.2.2.2.2.2.2.2.1
    have m0 : nv α' 0 = nv β 0 := hm 0 0 rfl
    have m1 : nv α' 1 = nv β 1 := hm 1 1 rfl
    have m2 : nv α' 2 = nv β 2 := hm 2 2 rfl
    have m3 : nv α' 3 = nv β 3 := hm 3 3 rfl
    have m4 : nv α' 4 = nv β 4 := hm 4 4 rfl
    have m5 : nv α' 5 = nv β 5 := hm 5 5 rfl
    have m6 : nv α' 6 = nv β 6 := hm 6 6 rfl
    have m7 : nv α' 7 = nv β 7 := hm 7 7 rfl
    have m8 : nv α' 8 = nv β 8 := hm 8 8 rfl
    have m9 : nv α' 9 = nv β 8 := hm 9 8 rfl
    have m10 : nv α' 10 = nv β 15 := hm 10 15 rfl
    have m11 : nv α' 11 = nv β 13 := hm 11 13 rfl
    have z1 : nv α 1 = nv xs 1 := nv_le H.1 (by omega)
    have i1 := (en_nv (i := 1) H0.2.1 rfl).2
    change 0 ≤ nv xs 1 ∧ nv xs 1 ≤ 11 at i1
    have w4 : ∀ b : Nat, S'.1 4 b = (if b = (nv β 10).toNat then Int32.ofInt (nv β 9) else S1.1 4 b) := fun b => by rw [f5]; simp [fw_i]
    have w5 : ∀ b : Nat, S'.1 5 b = (if b = (nv β 8).toNat then Int32.ofInt (nv β 7) else S1.1 5 b) := fun b => by rw [f5]; simp [fw_i]
    obtain ⟨p1, ⟨p2, p3, p4⟩, ⟨p5, p6⟩, ⟨p7, p8, p9⟩, q1, q2, q3, q4, q5, q6⟩ := hp
    have v6 : ∀ c : Int, yM S' c = yM S1 c := fun c => by unfold yM; rw [f5]; simp [fw_i]
    have vR : yR S' = yR S1 := by unfold yR; rw [f5]; simp [fw_i]
    have vM : yM S' = yM S1 := funext v6
    have hA := wy_add (F' := yF S') (V' := yV S') (M := yM S1) (n := nv α 8) (a := nv α 5) (s := nv α 7) p1 ⟨p2, p3⟩ q2 p4 p7 ⟨p8, p9⟩ q1 (fun c h1 h2 => by
      show (S'.1 4 c.toNat).toInt = _
      rw [w4]
      by_cases e : c = nv α 8
      · rw [if_pos (by omega), if_pos e, i32_of (by omega) (by omega)]; omega
      · rw [if_neg (by omega), if_neg e]; rfl) (fun c h1 h2 => by
      show (S'.1 5 c.toNat).toInt = _
      rw [w5]
      by_cases e : c = nv α 8
      · rw [if_pos (by omega), if_pos e, i32_of (by omega) (by omega)]; omega
      · rw [if_neg (by omega), if_neg e]; rfl)
    obtain ⟨a1, a2, a3, a4⟩ := hA
    have vr : nv β 15 = yR S' := by unfold yR; omega
    refine ih.2.2.2.2.2.1 _ _ _ _ Ha ?_ ?_
    · rw [vM, vR]
      refine ⟨a1, ⟨?_, ?_, ?_⟩, ⟨?_, ?_⟩, ⟨?_, ?_⟩, ⟨?_, ?_⟩, q2, ?_, ?_⟩ <;> first | omega | (rw [m8, s8, r8]; first | exact a2 | exact a3) | (rw [m5, m4, s5, s4, r5, r4]; exact p4) | (rw [m10, vr, vR])
    · omega
set_option maxHeartbeats 16000000 in
set_option maxRecDepth 8000 in
theorem kh_spread_h193 {l : Launch} {D : va_G} {tc : Nat → ClassId} {ad : Nat → Nat} {kd : Nat → Nat × Nat} {N : Nat} {sm : Nat → Nat} {xs : List av_X} {S : fw_S} {p : Program} {e : Env} {s : State} {m : MethodId} {args : Array Value} {below : List Frame} {meth : Method} {c : Code} {sz : Nat} {lvE : List (Nat × Value)} (G : hd_C wd_ff2 wd_fl2 kh_spread [] kh_spread_y l D tc ad kd N sm xs p s m args meth c sz) (H0 : as_in ad sm wd_fl2 xs S kh_spread.2.2.2.2.2.1 xs (hd_0 kh_spread) lvE [] S) {k : Nat} (ih : kh_spread_I l D tc ad kd N sm xs S p e s m args below meth c sz k) : (∀ (α : List av_X) (lv : List (Nat × Value)) (st : List Value) (S1 : fw_S), as_in ad sm wd_fl2 xs S kh_spread.2.2.2.2.2.1 α kh_spread_a193.2.2.1 lv st S1 → (wyI (yF S1) (yV S1) (yM S1) (yR S1) (nv xs 1) ∧ (0 ≤ nv α 4 ∧ nv α 4 < yR S1 ∧ nv α 5 = yM S1 (nv α 4)) ∧ (4 * nv α 5 ≤ nv α 6 ∧ nv α 6 < 4 * nv α 5 + 4) ∧ (0 ≤ nv α 8 ∧ nv α 8 ≤ 11) ∧ (1 ≤ yF S1 (nv α 8) ∧ yF S1 (nv α 8) ≤ yR S1) ∧ yR S1 < 12 ∧ nv α 9 = nv α 8 ∧ nv α 10 = yR S1) → (13 - nv α 4).toNat * 100 + (4 * nv α 5 + 4 - nv α 6).toNat * 10 + 6 < k + 1 → hd_WR R_spread wd_fl2 kh_spread kh_spread_y l D tc ad kd N sm xs S p e s m args below meth c sz 193 lv st S1 0) := by
  have hx : xs.length = 4 := by rw [H0.2.1.1]; rfl
  intro α lv st S1 H hp hk
  have bp := (en_nv (i := 10) H.2.1 rfl).2
  change 0 ≤ nv α 10 ∧ nv α 10 ≤ 12 at bp
  replace H := as_clamp (i := 10) (lo := 0) (hi := 11) H rfl rfl (by rw [hp.2.2.2.2.2.2.2]; have := hp.1.1; omega) (by rw [hp.2.2.2.2.2.2.2]; have := hp.2.2.2.2.2.1; omega) (by decide)
  obtain ⟨α1, hle, Hr⟩ := as_recM (pl := []) [((6, 6), (0, 11, 1))] (by decide +kernel) H
  have hf := H.2.2.2.2.2.2.2.2.2.2.1
  have hl1 : α1.length = 12 := by rw [Hr.2.1.1]; rfl
  have hl0 : α.length = 12 := by rw [H.2.1.1]; rfl
  have hxa : al_le xs α1 := H.1.trans hle
  obtain ⟨g1, -, g3, g4, -⟩ := as_fx Hr
  have g0 : (2 ≤ nv α1 0 ∧ nv α1 0 ≤ 2) ∧ (0 ≤ nv α1 1 ∧ nv α1 1 ≤ 11) ∧ (96 ≤ nv α1 2 ∧ nv α1 2 ≤ 96) ∧ (0 ≤ nv α1 3 ∧ nv α1 3 ≤ 2147483647) ∧ (0 ≤ nv α1 4 ∧ nv α1 4 ≤ 11) ∧ (0 ≤ nv α1 5 ∧ nv α1 5 ≤ 11) ∧ (0 ≤ nv α1 6 ∧ nv α1 6 ≤ 47) ∧ (0 ≤ nv α1 7 ∧ nv α1 7 ≤ 16) ∧ (0 ≤ nv α1 8 ∧ nv α1 8 ≤ 11) ∧ (0 ≤ nv α1 9 ∧ nv α1 9 ≤ 11) ∧ (0 ≤ nv α1 10 ∧ nv α1 10 ≤ 11) ∧ (6 ≤ nv α1 11 ∧ nv α1 11 ≤ 6) ∧ True := by
    refine ⟨by have h := (en_nv (i := 0) Hr.2.1 rfl).2; exact h, by have h := (en_nv (i := 1) Hr.2.1 rfl).2; exact h, by have h := (en_nv (i := 2) Hr.2.1 rfl).2; exact h, by have h := (en_nv (i := 3) Hr.2.1 rfl).2; exact h, by have h := (en_nv (i := 4) Hr.2.1 rfl).2; exact h, by have h := (en_nv (i := 5) Hr.2.1 rfl).2; exact h, by have h := (en_nv (i := 6) Hr.2.1 rfl).2; exact h, by have h := (en_nv (i := 7) Hr.2.1 rfl).2; exact h, by have h := (en_nv (i := 8) Hr.2.1 rfl).2; exact h, by have h := (en_nv (i := 9) Hr.2.1 rfl).2; exact h, by have h := (en_nv (i := 10) Hr.2.1 rfl).2; exact h, by have h := (en_nv (i := 11) Hr.2.1 rfl).2; exact h, trivial⟩
  have r0 : nv α1 0 = nv α 0 := nv_le hle (by omega)
  have r1 : nv α1 1 = nv α 1 := nv_le hle (by omega)
  have r2 : nv α1 2 = nv α 2 := nv_le hle (by omega)
  have r3 : nv α1 3 = nv α 3 := nv_le hle (by omega)
  have r4 : nv α1 4 = nv α 4 := nv_le hle (by omega)
  have r5 : nv α1 5 = nv α 5 := nv_le hle (by omega)
  have r6 : nv α1 6 = nv α 6 := nv_le hle (by omega)
  have r7 : nv α1 7 = nv α 7 := nv_le hle (by omega)
  have r8 : nv α1 8 = nv α 8 := nv_le hle (by omega)
  have r9 : nv α1 9 = nv α 9 := nv_le hle (by omega)
  have r10 : nv α1 10 = nv α 10 := nv_le hle (by omega)
  have r11 : nv α1 11 = nv α 11 := nv_le hle (by omega)
  refine hd_segMR G (na := 12) (fuel := 600) (first := true) (Bs := [kh_spread_b193_0]) (by decide +kernel) hl1 Hr ?_
  intro q hq β lv' st' S' H1
  simp only [List.mem_cons, List.not_mem_nil, or_false] at hq
  rcases hq with rfl
  · obtain ⟨f1, f2, f3, f4, f5⟩ := as_fx H1
    simp only [kh_spread_b193_0, fx_env, fx_c, fx_ne, fx_hf, wl_S, Nat.zero_add, Nat.reduceAdd, Nat.reduceDiv, Nat.reduceMod, List.getElem?_cons_zero, List.getElem?_cons_succ, if_true, and_true, true_and] at f1 f2 f3 f4 f5
    have fe0 : nv β 0 = 2 := by omega
    have fe2 : nv β 2 = 96 := by omega
    have fe11 : nv β 11 = 6 := by omega
    have fe12 : nv β 12 = 4 := by omega
    have fe14 : nv β 14 = 1 := by omega
    try simp only [fe0, fe2, fe11, fe12, fe14, Int.reduceToNat] at f2 f3 f4 f5
    have s0 : nv β 0 = nv α1 0 := nv_le H1.1 (by omega)
    have s1 : nv β 1 = nv α1 1 := nv_le H1.1 (by omega)
    have s2 : nv β 2 = nv α1 2 := nv_le H1.1 (by omega)
    have s3 : nv β 3 = nv α1 3 := nv_le H1.1 (by omega)
    have s4 : nv β 4 = nv α1 4 := nv_le H1.1 (by omega)
    have s5 : nv β 5 = nv α1 5 := nv_le H1.1 (by omega)
    have s6 : nv β 6 = nv α1 6 := nv_le H1.1 (by omega)
    have s7 : nv β 7 = nv α1 7 := nv_le H1.1 (by omega)
    have s8 : nv β 8 = nv α1 8 := nv_le H1.1 (by omega)
    have s9 : nv β 9 = nv α1 9 := nv_le H1.1 (by omega)
    have s10 : nv β 10 = nv α1 10 := nv_le H1.1 (by omega)
    have s11 : nv β 11 = nv α1 11 := nv_le H1.1 (by omega)
    have c0 := f2
    obtain ⟨α', Ha, hm⟩ := hd_gpM (q := kh_spread_a201) (n := 0) (by decide +kernel) hx H1 (by decide +kernel) hxa hf
    have hfr := H1.2.2.2.2.2.2.2.2.2.2.1
    have m0 : nv α' 0 = nv β 0 := hm 0 0 rfl
    have m1 : nv α' 1 = nv β 1 := hm 1 1 rfl
    have m2 : nv α' 2 = nv β 2 := hm 2 2 rfl
    have m3 : nv α' 3 = nv β 3 := hm 3 3 rfl
    have m4 : nv α' 4 = nv β 4 := hm 4 4 rfl
    have m5 : nv α' 5 = nv β 5 := hm 5 5 rfl
    have m6 : nv α' 6 = nv β 6 := hm 6 6 rfl
    have m7 : nv α' 7 = nv β 7 := hm 7 7 rfl
    have m8 : nv α' 8 = nv β 8 := hm 8 8 rfl
    have m9 : nv α' 9 = nv β 15 := hm 9 15 rfl
    have z1 : nv α 1 = nv xs 1 := nv_le H.1 (by omega)
    have i1 := (en_nv (i := 1) H0.2.1 rfl).2
    change 0 ≤ nv xs 1 ∧ nv xs 1 ≤ 11 at i1
    have w6 : ∀ b : Nat, S'.1 6 b = (if b = (nv β 10).toNat then Int32.ofInt (nv β 9) else S1.1 6 b) := fun b => by rw [f5]; simp [fw_i]
    obtain ⟨p1, ⟨p2, p3, p4⟩, ⟨p5, p6⟩, ⟨p8, p9⟩, ⟨q1, q2⟩, q3, q4, q5⟩ := hp
    have vF : yF S' = yF S1 := funext fun c => by unfold yF; rw [f5]; simp [fw_i]
    have vV : yV S' = yV S1 := funext fun c => by unfold yV; rw [f5]; simp [fw_i]
    have vR : yR S' = yR S1 := by unfold yR; rw [f5]; simp [fw_i]
    have hM : ∀ c : Int, 0 ≤ c → c ≤ 11 → yM S' c = if c = yR S1 then nv α 8 else yM S1 c := fun c h1 h2 => by
      show (S'.1 6 c.toNat).toInt = _
      rw [w6]
      by_cases e : c = yR S1
      · rw [if_pos (by omega), if_pos e, i32_of (by omega) (by omega)]; omega
      · rw [if_neg (by omega), if_neg e]; rfl
    have hA := wy_met (M' := yM S') (n := nv α 8) p1 q3 ⟨p8, p9⟩ ⟨q1, q2⟩ hM
    have vr : nv β 15 = yR S' + 1 := by unfold yR; omega
    have vk : yM S' (nv α 4) = yM S1 (nv α 4) := by rw [hM _ p2 (by have := p1.2.1; omega), if_neg (by omega)]
    refine ih.2.2.2.2.2.2.1 _ _ _ _ Ha ?_ ?_
    · rw [vF, vV, vR]
      refine ⟨hA, ⟨?_, ?_, ?_⟩, ⟨?_, ?_⟩, ?_, q3⟩ <;> first | omega | (rw [m5, m4, s5, s4, r5, r4, vk]; exact p4) | (rw [m9, vr, vR])
    · omega
set_option maxHeartbeats 16000000 in
set_option maxRecDepth 8000 in
theorem kh_spread_h201 {l : Launch} {D : va_G} {tc : Nat → ClassId} {ad : Nat → Nat} {kd : Nat → Nat × Nat} {N : Nat} {sm : Nat → Nat} {xs : List av_X} {S : fw_S} {p : Program} {e : Env} {s : State} {m : MethodId} {args : Array Value} {below : List Frame} {meth : Method} {c : Code} {sz : Nat} {lvE : List (Nat × Value)} (G : hd_C wd_ff2 wd_fl2 kh_spread [] kh_spread_y l D tc ad kd N sm xs p s m args meth c sz) (H0 : as_in ad sm wd_fl2 xs S kh_spread.2.2.2.2.2.1 xs (hd_0 kh_spread) lvE [] S) {k : Nat} (ih : kh_spread_I l D tc ad kd N sm xs S p e s m args below meth c sz k) : (∀ (α : List av_X) (lv : List (Nat × Value)) (st : List Value) (S1 : fw_S), as_in ad sm wd_fl2 xs S kh_spread.2.2.2.2.2.1 α kh_spread_a201.2.2.1 lv st S1 → (wyI (yF S1) (yV S1) (yM S1) (yR S1 + 1) (nv xs 1) ∧ (0 ≤ nv α 4 ∧ nv α 4 < yR S1 ∧ nv α 5 = yM S1 (nv α 4)) ∧ (4 * nv α 5 ≤ nv α 6 ∧ nv α 6 < 4 * nv α 5 + 4) ∧ nv α 9 = yR S1 + 1 ∧ yR S1 < 12) → (13 - nv α 4).toNat * 100 + (4 * nv α 5 + 4 - nv α 6).toNat * 10 + 5 < k + 1 → hd_WR R_spread wd_fl2 kh_spread kh_spread_y l D tc ad kd N sm xs S p e s m args below meth c sz 201 lv st S1 0) := by
  have hx : xs.length = 4 := by rw [H0.2.1.1]; rfl
  intro α lv st S1 H hp hk
  have bp := (en_nv (i := 9) H.2.1 rfl).2
  change 1 ≤ nv α 9 ∧ nv α 9 ≤ 13 at bp
  replace H := as_clamp (i := 9) (lo := 1) (hi := 12) H rfl rfl (by rw [hp.2.2.2.1]; have := hp.1.1; omega) (by rw [hp.2.2.2.1]; have := hp.2.2.2.2; omega) (by decide)
  obtain ⟨α1, hle, Hr⟩ := as_recM (pl := []) [((2, 2), (4, 4, 0))] (by decide +kernel) H
  have hf := H.2.2.2.2.2.2.2.2.2.2.1
  have hl1 : α1.length = 10 := by rw [Hr.2.1.1]; rfl
  have hl0 : α.length = 10 := by rw [H.2.1.1]; rfl
  have hxa : al_le xs α1 := H.1.trans hle
  obtain ⟨g1, -, g3, g4, -⟩ := as_fx Hr
  have g0 : (2 ≤ nv α1 0 ∧ nv α1 0 ≤ 2) ∧ (0 ≤ nv α1 1 ∧ nv α1 1 ≤ 11) ∧ (96 ≤ nv α1 2 ∧ nv α1 2 ≤ 96) ∧ (0 ≤ nv α1 3 ∧ nv α1 3 ≤ 2147483647) ∧ (0 ≤ nv α1 4 ∧ nv α1 4 ≤ 11) ∧ (0 ≤ nv α1 5 ∧ nv α1 5 ≤ 11) ∧ (0 ≤ nv α1 6 ∧ nv α1 6 ≤ 47) ∧ (0 ≤ nv α1 7 ∧ nv α1 7 ≤ 16) ∧ (0 ≤ nv α1 8 ∧ nv α1 8 ≤ 11) ∧ (1 ≤ nv α1 9 ∧ nv α1 9 ≤ 12) ∧ True := by
    refine ⟨by have h := (en_nv (i := 0) Hr.2.1 rfl).2; exact h, by have h := (en_nv (i := 1) Hr.2.1 rfl).2; exact h, by have h := (en_nv (i := 2) Hr.2.1 rfl).2; exact h, by have h := (en_nv (i := 3) Hr.2.1 rfl).2; exact h, by have h := (en_nv (i := 4) Hr.2.1 rfl).2; exact h, by have h := (en_nv (i := 5) Hr.2.1 rfl).2; exact h, by have h := (en_nv (i := 6) Hr.2.1 rfl).2; exact h, by have h := (en_nv (i := 7) Hr.2.1 rfl).2; exact h, by have h := (en_nv (i := 8) Hr.2.1 rfl).2; exact h, by have h := (en_nv (i := 9) Hr.2.1 rfl).2; exact h, trivial⟩
  have r0 : nv α1 0 = nv α 0 := nv_le hle (by omega)
  have r1 : nv α1 1 = nv α 1 := nv_le hle (by omega)
  have r2 : nv α1 2 = nv α 2 := nv_le hle (by omega)
  have r3 : nv α1 3 = nv α 3 := nv_le hle (by omega)
  have r4 : nv α1 4 = nv α 4 := nv_le hle (by omega)
  have r5 : nv α1 5 = nv α 5 := nv_le hle (by omega)
  have r6 : nv α1 6 = nv α 6 := nv_le hle (by omega)
  have r7 : nv α1 7 = nv α 7 := nv_le hle (by omega)
  have r8 : nv α1 8 = nv α 8 := nv_le hle (by omega)
  have r9 : nv α1 9 = nv α 9 := nv_le hle (by omega)
  refine hd_segMR G (na := 10) (fuel := 600) (first := true) (Bs := [kh_spread_b201_0]) (by decide +kernel) hl1 Hr ?_
  intro q hq β lv' st' S' H1
  simp only [List.mem_cons, List.not_mem_nil, or_false] at hq
  rcases hq with rfl
  · obtain ⟨f1, f2, f3, f4, f5⟩ := as_fx H1
    simp only [kh_spread_b201_0, fx_env, fx_c, fx_ne, fx_hf, wl_S, Nat.zero_add, Nat.reduceAdd, Nat.reduceDiv, Nat.reduceMod, List.getElem?_cons_zero, List.getElem?_cons_succ, if_true, and_true, true_and] at f1 f2 f3 f4 f5
    have fe0 : nv β 0 = 2 := by omega
    have fe2 : nv β 2 = 96 := by omega
    have fe10 : nv β 10 = 4 := by omega
    try simp only [fe0, fe2, fe10, Int.reduceToNat] at f2 f3 f4 f5
    have s0 : nv β 0 = nv α1 0 := nv_le H1.1 (by omega)
    have s1 : nv β 1 = nv α1 1 := nv_le H1.1 (by omega)
    have s2 : nv β 2 = nv α1 2 := nv_le H1.1 (by omega)
    have s3 : nv β 3 = nv α1 3 := nv_le H1.1 (by omega)
    have s4 : nv β 4 = nv α1 4 := nv_le H1.1 (by omega)
    have s5 : nv β 5 = nv α1 5 := nv_le H1.1 (by omega)
    have s6 : nv β 6 = nv α1 6 := nv_le H1.1 (by omega)
    have s7 : nv β 7 = nv α1 7 := nv_le H1.1 (by omega)
    have s8 : nv β 8 = nv α1 8 := nv_le H1.1 (by omega)
    have s9 : nv β 9 = nv α1 9 := nv_le H1.1 (by omega)
    obtain ⟨α', Ha, hm⟩ := hd_gpM (q := kh_spread_a77) (n := 0) (by decide +kernel) hx H1 (by decide +kernel) hxa hf
    have hfr := H1.2.2.2.2.2.2.2.2.2.2.1
    have m0 : nv α' 0 = nv β 0 := hm 0 0 rfl
    have m1 : nv α' 1 = nv β 1 := hm 1 1 rfl
    have m2 : nv α' 2 = nv β 2 := hm 2 2 rfl
    have m3 : nv α' 3 = nv β 3 := hm 3 3 rfl
    have m4 : nv α' 4 = nv β 4 := hm 4 4 rfl
    have m5 : nv α' 5 = nv β 5 := hm 5 5 rfl
    have m6 : nv α' 6 = nv β 11 := hm 6 11 rfl
    have z1 : nv α 1 = nv xs 1 := nv_le H.1 (by omega)
    have i1 := (en_nv (i := 1) H0.2.1 rfl).2
    change 0 ≤ nv xs 1 ∧ nv xs 1 ≤ 11 at i1
    have w2 : ∀ b : Nat, S'.1 2 b = (if b = 4 then Int32.ofInt (nv β 9) else S1.1 2 b) := fun b => by rw [f5]; simp [fw_i]
    obtain ⟨p1, ⟨p2, p3, p4⟩, ⟨p5, p6⟩, q3, q4⟩ := hp
    have vF : yF S' = yF S1 := funext fun c => by unfold yF; rw [f5]; simp [fw_i]
    have vV : yV S' = yV S1 := funext fun c => by unfold yV; rw [f5]; simp [fw_i]
    have vM : yM S' = yM S1 := funext fun c => by unfold yM; rw [f5]; simp [fw_i]
    have b1 := p1.1
    have vR : yR S' = yR S1 + 1 := by unfold yR; rw [w2, if_pos rfl, i32_of (by omega) (by omega)]; show _ = (S1.1 2 4).toInt + 1; unfold yR at q3; omega
    refine ih.2.2.1 _ _ _ _ Ha ?_ ?_
    · rw [vF, vV, vM, vR]
      refine ⟨p1, ⟨?_, ?_, ?_⟩, ?_, ?_⟩ <;> first | omega | (rw [m5, m4, s5, s4, r5, r4]; exact p4)
    · omega
set_option maxHeartbeats 16000000 in
set_option maxRecDepth 8000 in
theorem kh_spread_okR : ct_okR wd_fl2 kh_spread R_spread := ct_handR (R := R_spread) (ff := wd_ff2) (y := kh_spread_y) (Cs := []) wd_fl2_ok rfl (List.forall_mem_nil _) (by decide +kernel) (fun l D tc ad kd N sm xs S p e s m args below meth c sz lv G H0 => by
  have hx : xs.length = 4 := by rw [H0.2.1.1]; rfl
  have hP : ∀ (k : Nat), kh_spread_I l D tc ad kd N sm xs S p e s m args below meth c sz k := by
    intro k
    induction k with
    | zero => exact ⟨fun _ _ _ _ _ _ h => absurd h (Nat.not_lt_zero _), fun _ _ _ _ _ _ h => absurd h (Nat.not_lt_zero _), fun _ _ _ _ _ _ h => absurd h (Nat.not_lt_zero _), fun _ _ _ _ _ _ h => absurd h (Nat.not_lt_zero _), fun _ _ _ _ _ _ h => absurd h (Nat.not_lt_zero _), fun _ _ _ _ _ _ h => absurd h (Nat.not_lt_zero _), fun _ _ _ _ _ _ h => absurd h (Nat.not_lt_zero _), trivial⟩
    | succ k ih => exact ⟨kh_spread_h3 G H0 ih, kh_spread_h46 G H0 ih, kh_spread_h77 G H0 ih, kh_spread_h130 G H0 ih, kh_spread_h173 G H0 ih, kh_spread_h193 G H0 ih, kh_spread_h201 G H0 ih, trivial⟩
  obtain ⟨α1, hle, Hr⟩ := as_recM (pl := []) [] (by decide +kernel) H0
  have hf := H0.2.2.2.2.2.2.2.2.2.2.1
  have hl1 : α1.length = 4 := by rw [Hr.2.1.1]; rfl
  have hl0 : xs.length = 4 := by rw [H0.2.1.1]; rfl
  have hxa : al_le xs α1 := H0.1.trans hle
  obtain ⟨g1, -, g3, g4, -⟩ := as_fx Hr
  have g0 : (2 ≤ nv α1 0 ∧ nv α1 0 ≤ 2) ∧ (0 ≤ nv α1 1 ∧ nv α1 1 ≤ 11) ∧ (96 ≤ nv α1 2 ∧ nv α1 2 ≤ 96) ∧ ((-2147483648) ≤ nv α1 3 ∧ nv α1 3 ≤ 2147483647) ∧ True := by
    refine ⟨by have h := (en_nv (i := 0) Hr.2.1 rfl).2; exact h, by have h := (en_nv (i := 1) Hr.2.1 rfl).2; exact h, by have h := (en_nv (i := 2) Hr.2.1 rfl).2; exact h, by have h := (en_nv (i := 3) Hr.2.1 rfl).2; exact h, trivial⟩
  have r0 : nv α1 0 = nv xs 0 := nv_le hle (by omega)
  have r1 : nv α1 1 = nv xs 1 := nv_le hle (by omega)
  have r2 : nv α1 2 = nv xs 2 := nv_le hle (by omega)
  have r3 : nv α1 3 = nv xs 3 := nv_le hle (by omega)
  refine hd_segMR G (na := 4) (fuel := 600) (first := true) (Bs := [kh_spread_b0_0]) (by decide +kernel) hl1 Hr ?_
  intro q hq β lv' st' S' H1
  simp only [List.mem_cons, List.not_mem_nil, or_false] at hq
  rcases hq with rfl
  · obtain ⟨f1, f2, f3, f4, f5⟩ := as_fx H1
    simp only [kh_spread_b0_0, fx_env, fx_c, fx_ne, fx_hf, wl_S, Nat.zero_add, Nat.reduceAdd, Nat.reduceDiv, Nat.reduceMod, List.getElem?_cons_zero, List.getElem?_cons_succ, if_true, and_true, true_and] at f1 f2 f3 f4 f5
    have fe0 : nv β 0 = 2 := by omega
    have fe2 : nv β 2 = 96 := by omega
    have fe4 : nv β 4 = 0 := by omega
    try simp only [fe0, fe2, fe4, Int.reduceToNat] at f2 f3 f4 f5
    have s0 : nv β 0 = nv α1 0 := nv_le H1.1 (by omega)
    have s1 : nv β 1 = nv α1 1 := nv_le H1.1 (by omega)
    have s2 : nv β 2 = nv α1 2 := nv_le H1.1 (by omega)
    have s3 : nv β 3 = nv α1 3 := nv_le H1.1 (by omega)
    obtain ⟨α', Ha, hm⟩ := hd_gpM (q := kh_spread_a3) (n := 0) (by decide +kernel) hx H1 (by decide +kernel) hxa hf
    have hfr := H1.2.2.2.2.2.2.2.2.2.2.1
    have m0 : nv α' 0 = nv β 0 := hm 0 0 rfl
    have m1 : nv α' 1 = nv β 1 := hm 1 1 rfl
    have m2 : nv α' 2 = nv β 2 := hm 2 2 rfl
    have m3 : nv α' 3 = nv β 3 := hm 3 3 rfl
    have m4 : nv α' 4 = nv β 4 := hm 4 4 rfl

    refine (hP _).1 _ _ _ _ Ha ?_ (Nat.lt_succ_self _)
    · intro c h1 h2 h3
      rw [m4] at h2
      omega)
theorem kh_spread_ok : ct_ok wd_fl2 kh_spread := ct_okR_ok kh_spread_okR
