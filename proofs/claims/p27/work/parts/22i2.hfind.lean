/-! hFind -/
abbrev kh_hFind_y : mt_T := (⟨"UtilityWorksModel", "hFind", "()Z"⟩, prog_14_method_170_code, 5, some .boolean, 12, 1, 0, 35013, 35012, 12013, 21014)
def kh_hFind : ct_T := (490, [(2, 805, 805, 0)], [], [], [(1, (0, 0, 0, 0), [(2, 805, 805, 0)], [], ([], [])), (1, (0, 1, 1, 0), [(2, 805, 805, 0)], [], ([501], []))], [((805, 805), (61, 61, 0)), ((805, 805), (62, 62, 0))], 5, 116, 0)
def kh_hFind_a2 : an_T := (2, 0, ([((2, 805, 805, 0), none), ((0, 0, 12, 1), none)], [(0, 0), (1, 1)], [], [], [], [], [], [], none), [])
def kh_hFind_a10 : an_T := (10, 0, ([((2, 805, 805, 0), none), ((0, 0, 11, 1), none), ((0, 0, 24, 1), none)], [(0, 0), (1, 1), (2, 2)], [], [], [], [], [], [], none), [])
def kh_hFind_b0_0 : sg_T := (2, 0, ([((2, 805, 805, 0), none), ((0, 0, 0, 0), none)], [(1, 1), (0, 0)], [], [], [], [], [], [], some []))
def kh_hFind_b2_0 : sg_T := (102, 0, ([((2, 805, 805, 0), none), ((0, 12, 12, 1), none), ((0, 12, 12, 0), none), ((0, 0, 0, 0), none)], [(0, 0), (1, 1)], [3], [], [], [(200000, 2, 1)], [], [], some []))
def kh_hFind_b2_1 : sg_T := (10, 0, ([((2, 805, 805, 0), none), ((0, 0, 11, 1), none), ((0, 12, 12, 0), none), ((0, 0, 0, 0), none)], [(2, 3), (0, 0), (1, 1)], [], [], [], [(100000, 1, 2)], [], [], some []))
def kh_hFind_b10_0 : sg_T := (2, 0, ([((2, 805, 805, 0), none), ((0, 0, 11, 1), none), ((0, 12, 24, 1), none), ((0, 12, 12, 0), none), ((2, 806, 806, 1), none), ((0, 1200, 1200, 0), none), ((0, 1, 2, 1), none), ((0, 12, 24, 12), none), ((0, 1, 12, 1), some (1, 1))], [(1, 8), (0, 0), (2, 2)], [], [(4, 5, 6)], [], [(200000, 7, 2), (700007, 3, 6), (800006, 4, 5)], [], [], some []))
def kh_hFind_b10_1 : sg_T := (10, 0, ([((2, 805, 805, 0), none), ((0, 0, 11, 1), none), ((0, 0, 23, 1), none), ((0, 12, 12, 0), none), ((2, 806, 806, 1), none), ((0, 1200, 1200, 0), none), ((0, 1, 2, 1), none), ((0, 12, 24, 12), none), ((2, 850, 850, 1), none), ((0, 12, 12, 0), none), ((0, 0, 11, 1), none), ((0, (-2147483648), 2147483647, 1), none), ((2, 851, 851, 1), none), ((0, 12, 12, 0), none), ((0, 0, 11, 1), none), ((0, (-2147483648), 2147483647, 1), none), ((0, (-2147483648), 2147483647, 1), none), ((2, 855, 855, 1), none), ((0, (-1), 11, 1), none), ((0, 0, 0, 0), none), ((0, 1, 24, 1), some (2, 1))], [(2, 20), (4, 19), (3, 16), (0, 0), (1, 1)], [], [(17, 2, 18), (12, 14, 15), (8, 10, 11), (4, 5, 6)], [], [(400000, 18, 1), (800018, 17, 2), (800015, 12, 14), (800011, 8, 10), (100000, 2, 7), (700007, 3, 6), (800006, 4, 5)], [], [], some []))
def kh_hFind_b10_2 : sg_T := (10, 0, ([((2, 805, 805, 0), none), ((0, 0, 11, 1), none), ((0, 0, 23, 1), none), ((0, 12, 12, 0), none), ((2, 806, 806, 1), none), ((0, 1200, 1200, 0), none), ((0, 1, 2, 1), none), ((0, 12, 24, 12), none), ((2, 850, 850, 1), none), ((0, 12, 12, 0), none), ((0, 0, 11, 1), none), ((0, (-2147483648), 2147483647, 1), none), ((2, 851, 851, 1), none), ((0, 12, 12, 0), none), ((0, 0, 11, 1), none), ((0, (-2147483648), 2147483647, 1), none), ((0, (-2147483648), 0, 1), none), ((2, 855, 855, 1), none), ((0, 0, 11, 1), none), ((0, 0, 0, 0), none), ((0, 1, 24, 1), some (2, 1))], [(2, 20), (4, 19), (3, 16), (0, 0), (1, 1)], [], [(17, 2, 18), (12, 14, 15), (8, 10, 11), (4, 5, 6)], [], [(300000, 18, 1), (800018, 17, 2), (800015, 12, 14), (800011, 8, 10), (100000, 2, 7), (700007, 3, 6), (800006, 4, 5)], [], [], some []))
def kh_hFind_b10_3 : sg_T := (10, 0, ([((2, 805, 805, 0), none), ((0, 0, 11, 1), none), ((0, 0, 23, 1), none), ((0, 12, 12, 0), none), ((2, 806, 806, 1), none), ((0, 1200, 1200, 0), none), ((0, 1, 2, 1), none), ((0, 12, 24, 12), none), ((2, 850, 850, 1), none), ((0, 12, 12, 0), none), ((0, 0, 11, 1), none), ((0, (-2147483648), 2147483647, 1), none), ((2, 851, 851, 1), none), ((0, 12, 12, 0), none), ((0, 0, 11, 1), none), ((0, (-2147483648), 2147483647, 1), none), ((0, 1, 2147483647, 1), none), ((2, 855, 855, 1), none), ((0, 0, 11, 1), none), ((0, 0, 0, 1), none), ((0, 1, 24, 1), some (2, 1))], [(2, 20), (4, 19), (3, 16), (0, 0), (1, 1)], [], [(17, 2, 18), (12, 14, 15), (8, 10, 11), (4, 5, 6)], [], [(101600019, 2, 2), (300000, 18, 1), (800018, 17, 2), (800015, 12, 14), (800011, 8, 10), (100000, 2, 7), (700007, 3, 6), (800006, 4, 5)], [], [], some []))
def kh_hFind_b10_4 : sg_T := (88, 0, ([((2, 805, 805, 0), none), ((0, 0, 11, 1), none), ((0, 0, 23, 1), none), ((0, 12, 12, 0), none), ((2, 806, 806, 1), none), ((0, 1200, 1200, 0), none), ((0, 1, 2, 1), none), ((0, 12, 24, 12), none), ((2, 850, 850, 1), none), ((0, 12, 12, 0), none), ((0, 0, 11, 1), none), ((0, (-2147483648), 2147483647, 1), none), ((2, 851, 851, 1), none), ((0, 12, 12, 0), none), ((0, 0, 11, 1), none), ((0, (-2147483648), 2147483647, 1), none), ((0, 1, 2147483647, 1), none), ((2, 855, 855, 1), none), ((0, 0, 11, 1), none), ((0, 1, 300, 1), none), ((0, 61, 61, 0), none), ((0, 62, 62, 0), none), ((0, 1, 1, 0), none)], [(4, 19), (3, 16), (0, 0), (1, 1), (2, 2)], [22], [(0, 21, 19), (0, 20, 2), (17, 2, 18), (12, 14, 15), (8, 10, 11), (4, 5, 6)], [], [(101600019, 2, 2), (300000, 18, 1), (800018, 17, 2), (800015, 12, 14), (800011, 8, 10), (100000, 2, 7), (700007, 3, 6), (800006, 4, 5)], [], [], some [(0, 21, 19), (0, 20, 2)]))
theorem kh_hFind_ok : ct_ok wd_fl1 kh_hFind := ct_hand (ff := wd_ff1) (y := kh_hFind_y) (Cs := [kh_hSends]) wd_fl1_ok rfl (List.forall_mem_cons.mpr ⟨kh_hSends_ok, (List.forall_mem_nil _)⟩) (by decide +kernel) (fun l D tc ad kd N sm xs S p e s m args below meth c sz lv G H0 => by
  have hx : xs.length = 1 := by rw [H0.2.1.1]; rfl
  have hP : ∀ (k : Nat), (∀ (α : List av_X) (lv : List (Nat × Value)) (S1 : fw_S), as_in ad sm wd_fl1 xs S kh_hFind.2.2.2.2.2.1 α kh_hFind_a2.2.2.1 lv [] S1 → (True) → (12 - nv α 1).toNat * 100 + 50 < k → hd_W wd_fl1 kh_hFind kh_hFind_y l D tc ad kd N sm xs S p e s m args below meth c sz 2 lv [] S1 0) ∧ (∀ (α : List av_X) (lv : List (Nat × Value)) (S1 : fw_S), as_in ad sm wd_fl1 xs S kh_hFind.2.2.2.2.2.1 α kh_hFind_a10.2.2.1 lv [] S1 → (True) → (12 - nv α 1).toNat * 100 + (24 - nv α 2).toNat < k → hd_W wd_fl1 kh_hFind kh_hFind_y l D tc ad kd N sm xs S p e s m args below meth c sz 10 lv [] S1 0) ∧ True := by
    intro k
    induction k with
    | zero => exact ⟨fun _ _ _ _ _ h => absurd h (Nat.not_lt_zero _), fun _ _ _ _ _ h => absurd h (Nat.not_lt_zero _), trivial⟩
    | succ k ih =>
    refine ⟨?_, ?_, trivial⟩
    · intro α lv S1 H hp hk
      obtain ⟨α1, hle, Hr⟩ := as_recM (pl := []) [] (by decide +kernel) H
      have hf := H.2.2.2.2.2.2.2.2.2.2.1
      have hl1 : α1.length = 2 := by rw [Hr.2.1.1]; rfl
      have hl0 : α.length = 2 := by rw [H.2.1.1]; rfl
      have hxa : al_le xs α1 := H.1.trans hle
      obtain ⟨g1, -, g3, g4, -⟩ := as_fx Hr
      have g0 : (805 ≤ nv α1 0 ∧ nv α1 0 ≤ 805) ∧ (0 ≤ nv α1 1 ∧ nv α1 1 ≤ 12) ∧ True := by
        refine ⟨by have h := (en_nv (i := 0) Hr.2.1 rfl).2; exact h, by have h := (en_nv (i := 1) Hr.2.1 rfl).2; exact h, trivial⟩
      have r0 : nv α1 0 = nv α 0 := nv_le hle (by omega)
      have r1 : nv α1 1 = nv α 1 := nv_le hle (by omega)
      refine hd_segM G (na := 2) (fuel := 600) (first := true) (Bs := [kh_hFind_b2_0, kh_hFind_b2_1]) (by decide +kernel) hl1 Hr ?_
      intro q hq β lv' st' S' H1
      simp only [List.mem_cons, List.not_mem_nil, or_false] at hq
      rcases hq with rfl | rfl
      · obtain ⟨f1, f2, f3, f4, f5⟩ := as_fx H1
        simp only [kh_hFind_b2_0, fx_env, fx_c, fx_ne, fx_hf, wl_S, Nat.zero_add, Nat.reduceAdd, Nat.reduceDiv, Nat.reduceMod, List.getElem?_cons_zero, List.getElem?_cons_succ, if_true, and_true, true_and] at f1 f2 f3 f4 f5
        have fe0 : nv β 0 = 805 := by omega
        have fe1 : nv β 1 = 12 := by omega
        have fe2 : nv β 2 = 12 := by omega
        have fe3 : nv β 3 = 0 := by omega
        try simp only [fe0, fe1, fe2, fe3, Int.reduceToNat] at f2 f3 f4 f5
        have s0 : nv β 0 = nv α1 0 := nv_le H1.1 (by omega)
        have s1 : nv β 1 = nv α1 1 := nv_le H1.1 (by omega)
        have c0 := f2
        exact hd_run G (ss := []) (fuel := 20) (by decide +kernel) (as_backM H1 (by decide +kernel) hxa hf)
      · have hst := st_nil H1 rfl
        subst hst
        obtain ⟨f1, f2, f3, f4, f5⟩ := as_fx H1
        simp only [kh_hFind_b2_1, fx_env, fx_c, fx_ne, fx_hf, wl_S, Nat.zero_add, Nat.reduceAdd, Nat.reduceDiv, Nat.reduceMod, List.getElem?_cons_zero, List.getElem?_cons_succ, if_true, and_true, true_and] at f1 f2 f3 f4 f5
        have fe0 : nv β 0 = 805 := by omega
        have fe2 : nv β 2 = 12 := by omega
        have fe3 : nv β 3 = 0 := by omega
        try simp only [fe0, fe2, fe3, Int.reduceToNat] at f2 f3 f4 f5
        have s0 : nv β 0 = nv α1 0 := nv_le H1.1 (by omega)
        have s1 : nv β 1 = nv α1 1 := nv_le H1.1 (by omega)
        have c0 := f2
        obtain ⟨α', Ha, hm⟩ := hd_gpM (q := kh_hFind_a10) (n := 0) (by decide +kernel) hx H1 (by decide +kernel) hxa hf
        have hfr := H1.2.2.2.2.2.2.2.2.2.2.1
        have m0 : nv α' 0 = nv β 0 := hm 0 0 rfl
        have m1 : nv α' 1 = nv β 1 := hm 1 1 rfl
        have m2 : nv α' 2 = nv β 3 := hm 2 3 rfl
        subst S'
        refine ih.2.1 _ _ _ Ha ?_ ?_
        · trivial
        · omega
    · intro α lv S1 H hp hk
      obtain ⟨α1, hle, Hr⟩ := as_recM (pl := []) [((805, 805), (61, 61, 0)), ((805, 805), (62, 62, 0))] (by decide +kernel) H
      have hf := H.2.2.2.2.2.2.2.2.2.2.1
      have hl1 : α1.length = 3 := by rw [Hr.2.1.1]; rfl
      have hl0 : α.length = 3 := by rw [H.2.1.1]; rfl
      have hxa : al_le xs α1 := H.1.trans hle
      obtain ⟨g1, -, g3, g4, -⟩ := as_fx Hr
      have g0 : (805 ≤ nv α1 0 ∧ nv α1 0 ≤ 805) ∧ (0 ≤ nv α1 1 ∧ nv α1 1 ≤ 11) ∧ (0 ≤ nv α1 2 ∧ nv α1 2 ≤ 24) ∧ True := by
        refine ⟨by have h := (en_nv (i := 0) Hr.2.1 rfl).2; exact h, by have h := (en_nv (i := 1) Hr.2.1 rfl).2; exact h, by have h := (en_nv (i := 2) Hr.2.1 rfl).2; exact h, trivial⟩
      have r0 : nv α1 0 = nv α 0 := nv_le hle (by omega)
      have r1 : nv α1 1 = nv α 1 := nv_le hle (by omega)
      have r2 : nv α1 2 = nv α 2 := nv_le hle (by omega)
      refine hd_segM G (na := 3) (fuel := 600) (first := true) (Bs := [kh_hFind_b10_0, kh_hFind_b10_1, kh_hFind_b10_2, kh_hFind_b10_3, kh_hFind_b10_4]) (by decide +kernel) hl1 Hr ?_
      intro q hq β lv' st' S' H1
      simp only [List.mem_cons, List.not_mem_nil, or_false] at hq
      rcases hq with rfl | rfl | rfl | rfl | rfl
      · have hst := st_nil H1 rfl
        subst hst
        obtain ⟨f1, f2, f3, f4, f5⟩ := as_fx H1
        simp only [kh_hFind_b10_0, fx_env, fx_c, fx_ne, fx_hf, wl_S, Nat.zero_add, Nat.reduceAdd, Nat.reduceDiv, Nat.reduceMod, List.getElem?_cons_zero, List.getElem?_cons_succ, if_true, and_true, true_and] at f1 f2 f3 f4 f5
        have fe0 : nv β 0 = 805 := by omega
        have fe3 : nv β 3 = 12 := by omega
        have fe4 : nv β 4 = 806 := by omega
        have fe5 : nv β 5 = 1200 := by omega
        try simp only [fe0, fe3, fe4, fe5, Int.reduceToNat] at f2 f3 f4 f5
        have s0 : nv β 0 = nv α1 0 := nv_le H1.1 (by omega)
        have s1 : nv β 1 = nv α1 1 := nv_le H1.1 (by omega)
        have s2 : nv β 2 = nv α1 2 := nv_le H1.1 (by omega)
        obtain ⟨c0, c1, c2⟩ := f2
        obtain ⟨α', Ha, hm⟩ := hd_gpM (q := kh_hFind_a2) (n := 0) (by decide +kernel) hx H1 (by decide +kernel) hxa hf
        have hfr := H1.2.2.2.2.2.2.2.2.2.2.1
        have m0 : nv α' 0 = nv β 0 := hm 0 0 rfl
        have m1 : nv α' 1 = nv β 8 := hm 1 8 rfl
        subst S'
        refine ih.1 _ _ _ Ha ?_ ?_
        · trivial
        · omega
      · have hst := st_nil H1 rfl
        subst hst
        obtain ⟨f1, f2, f3, f4, f5⟩ := as_fx H1
        simp only [kh_hFind_b10_1, fx_env, fx_c, fx_ne, fx_hf, wl_S, Nat.zero_add, Nat.reduceAdd, Nat.reduceDiv, Nat.reduceMod, List.getElem?_cons_zero, List.getElem?_cons_succ, if_true, and_true, true_and] at f1 f2 f3 f4 f5
        have fe0 : nv β 0 = 805 := by omega
        have fe3 : nv β 3 = 12 := by omega
        have fe4 : nv β 4 = 806 := by omega
        have fe5 : nv β 5 = 1200 := by omega
        have fe8 : nv β 8 = 850 := by omega
        have fe9 : nv β 9 = 12 := by omega
        have fe12 : nv β 12 = 851 := by omega
        have fe13 : nv β 13 = 12 := by omega
        have fe17 : nv β 17 = 855 := by omega
        have fe19 : nv β 19 = 0 := by omega
        try simp only [fe0, fe3, fe4, fe5, fe8, fe9, fe12, fe13, fe17, fe19, Int.reduceToNat] at f2 f3 f4 f5
        have s0 : nv β 0 = nv α1 0 := nv_le H1.1 (by omega)
        have s1 : nv β 1 = nv α1 1 := nv_le H1.1 (by omega)
        have s2 : nv β 2 = nv α1 2 := nv_le H1.1 (by omega)
        obtain ⟨c0, c1, c2, c3, c4, c5, c6⟩ := f2
        obtain ⟨α', Ha, hm⟩ := hd_gpM (q := kh_hFind_a10) (n := 0) (by decide +kernel) hx H1 (by decide +kernel) hxa hf
        have hfr := H1.2.2.2.2.2.2.2.2.2.2.1
        have m0 : nv α' 0 = nv β 0 := hm 0 0 rfl
        have m1 : nv α' 1 = nv β 1 := hm 1 1 rfl
        have m2 : nv α' 2 = nv β 20 := hm 2 20 rfl
        subst S'
        refine ih.2.1 _ _ _ Ha ?_ ?_
        · trivial
        · omega
      · have hst := st_nil H1 rfl
        subst hst
        obtain ⟨f1, f2, f3, f4, f5⟩ := as_fx H1
        simp only [kh_hFind_b10_2, fx_env, fx_c, fx_ne, fx_hf, wl_S, Nat.zero_add, Nat.reduceAdd, Nat.reduceDiv, Nat.reduceMod, List.getElem?_cons_zero, List.getElem?_cons_succ, if_true, and_true, true_and] at f1 f2 f3 f4 f5
        have fe0 : nv β 0 = 805 := by omega
        have fe3 : nv β 3 = 12 := by omega
        have fe4 : nv β 4 = 806 := by omega
        have fe5 : nv β 5 = 1200 := by omega
        have fe8 : nv β 8 = 850 := by omega
        have fe9 : nv β 9 = 12 := by omega
        have fe12 : nv β 12 = 851 := by omega
        have fe13 : nv β 13 = 12 := by omega
        have fe17 : nv β 17 = 855 := by omega
        have fe19 : nv β 19 = 0 := by omega
        try simp only [fe0, fe3, fe4, fe5, fe8, fe9, fe12, fe13, fe17, fe19, Int.reduceToNat] at f2 f3 f4 f5
        have s0 : nv β 0 = nv α1 0 := nv_le H1.1 (by omega)
        have s1 : nv β 1 = nv α1 1 := nv_le H1.1 (by omega)
        have s2 : nv β 2 = nv α1 2 := nv_le H1.1 (by omega)
        obtain ⟨c0, c1, c2, c3, c4, c5, c6⟩ := f2
        obtain ⟨α', Ha, hm⟩ := hd_gpM (q := kh_hFind_a10) (n := 0) (by decide +kernel) hx H1 (by decide +kernel) hxa hf
        have hfr := H1.2.2.2.2.2.2.2.2.2.2.1
        have m0 : nv α' 0 = nv β 0 := hm 0 0 rfl
        have m1 : nv α' 1 = nv β 1 := hm 1 1 rfl
        have m2 : nv α' 2 = nv β 20 := hm 2 20 rfl
        subst S'
        refine ih.2.1 _ _ _ Ha ?_ ?_
        · trivial
        · omega
      · have hst := st_nil H1 rfl
        subst hst
        obtain ⟨f1, f2, f3, f4, f5⟩ := as_fx H1
        simp only [kh_hFind_b10_3, fx_env, fx_c, fx_ne, fx_hf, wl_S, Nat.zero_add, Nat.reduceAdd, Nat.reduceDiv, Nat.reduceMod, List.getElem?_cons_zero, List.getElem?_cons_succ, if_true, and_true, true_and] at f1 f2 f3 f4 f5
        have fe0 : nv β 0 = 805 := by omega
        have fe3 : nv β 3 = 12 := by omega
        have fe4 : nv β 4 = 806 := by omega
        have fe5 : nv β 5 = 1200 := by omega
        have fe8 : nv β 8 = 850 := by omega
        have fe9 : nv β 9 = 12 := by omega
        have fe12 : nv β 12 = 851 := by omega
        have fe13 : nv β 13 = 12 := by omega
        have fe17 : nv β 17 = 855 := by omega
        have fe19 : nv β 19 = 0 := by omega
        try simp only [fe0, fe3, fe4, fe5, fe8, fe9, fe12, fe13, fe17, fe19, Int.reduceToNat] at f2 f3 f4 f5
        have s0 : nv β 0 = nv α1 0 := nv_le H1.1 (by omega)
        have s1 : nv β 1 = nv α1 1 := nv_le H1.1 (by omega)
        have s2 : nv β 2 = nv α1 2 := nv_le H1.1 (by omega)
        obtain ⟨c0, c1, c2, c3, c4, c5, c6, c7⟩ := f2
        obtain ⟨α', Ha, hm⟩ := hd_gpM (q := kh_hFind_a10) (n := 0) (by decide +kernel) hx H1 (by decide +kernel) hxa hf
        have hfr := H1.2.2.2.2.2.2.2.2.2.2.1
        have m0 : nv α' 0 = nv β 0 := hm 0 0 rfl
        have m1 : nv α' 1 = nv β 1 := hm 1 1 rfl
        have m2 : nv α' 2 = nv β 20 := hm 2 20 rfl
        subst S'
        refine ih.2.1 _ _ _ Ha ?_ ?_
        · trivial
        · omega
      · obtain ⟨f1, f2, f3, f4, f5⟩ := as_fx H1
        simp only [kh_hFind_b10_4, fx_env, fx_c, fx_ne, fx_hf, wl_S, Nat.zero_add, Nat.reduceAdd, Nat.reduceDiv, Nat.reduceMod, List.getElem?_cons_zero, List.getElem?_cons_succ, if_true, and_true, true_and] at f1 f2 f3 f4 f5
        have fe0 : nv β 0 = 805 := by omega
        have fe3 : nv β 3 = 12 := by omega
        have fe4 : nv β 4 = 806 := by omega
        have fe5 : nv β 5 = 1200 := by omega
        have fe8 : nv β 8 = 850 := by omega
        have fe9 : nv β 9 = 12 := by omega
        have fe12 : nv β 12 = 851 := by omega
        have fe13 : nv β 13 = 12 := by omega
        have fe17 : nv β 17 = 855 := by omega
        have fe20 : nv β 20 = 61 := by omega
        have fe21 : nv β 21 = 62 := by omega
        have fe22 : nv β 22 = 1 := by omega
        try simp only [fe0, fe3, fe4, fe5, fe8, fe9, fe12, fe13, fe17, fe20, fe21, fe22, Int.reduceToNat] at f2 f3 f4 f5
        have s0 : nv β 0 = nv α1 0 := nv_le H1.1 (by omega)
        have s1 : nv β 1 = nv α1 1 := nv_le H1.1 (by omega)
        have s2 : nv β 2 = nv α1 2 := nv_le H1.1 (by omega)
        obtain ⟨c0, c1, c2, c3, c4, c5, c6, c7⟩ := f2
        have d0 := c0
        simp only [wd_fl1, if_neg (show ¬ (wd_base 1016 = true) by decide)] at d0
        have hch : hChosen S' := by
          rw [f5]
          unfold hChosen hLeft
          have e1 : (fw_i (fw_i S1 805 61 (Int32.ofInt (nv β 2))) 805 62 (Int32.ofInt (nv β 19))).1 846 = S1.1 846 := (fw_i_ne (by decide)).trans (fw_i_ne (by decide))
          have e2 : (fw_i (fw_i S1 805 61 (Int32.ofInt (nv β 2))) 805 62 (Int32.ofInt (nv β 19))).1 847 = S1.1 847 := (fw_i_ne (by decide)).trans (fw_i_ne (by decide))
          have a2 : (fw_i (fw_i S1 805 61 (Int32.ofInt (nv β 2))) 805 62 (Int32.ofInt (nv β 19))).1 805 62 = Int32.ofInt (nv β 19) := by rw [fw_i_row, if_pos rfl]
          have a1 : (fw_i (fw_i S1 805 61 (Int32.ofInt (nv β 2))) 805 62 (Int32.ofInt (nv β 19))).1 805 61 = Int32.ofInt (nv β 2) := by rw [fw_i_row, if_neg (by decide), fw_i_row, if_pos rfl]
          rw [e1, e2, a1, a2, i32_of (by omega) (by omega), i32_of (by omega) (by omega)]
          unfold hLeft at d0
          omega
        exact hd_run G (ss := []) (fuel := 20) (by decide +kernel) (as_fl_in (f := [501]) (as_backM H1 (by decide +kernel) hxa hf) (fun g hg => by
          rcases List.mem_singleton.mp hg with rfl
          exact hch))
  obtain ⟨α1, hle, Hr⟩ := as_recM (pl := []) [] (by decide +kernel) H0
  have hf := H0.2.2.2.2.2.2.2.2.2.2.1
  have hl1 : α1.length = 1 := by rw [Hr.2.1.1]; rfl
  have hl0 : xs.length = 1 := by rw [H0.2.1.1]; rfl
  have hxa : al_le xs α1 := H0.1.trans hle
  obtain ⟨g1, -, g3, g4, -⟩ := as_fx Hr
  have g0 : (805 ≤ nv α1 0 ∧ nv α1 0 ≤ 805) ∧ True := by
    refine ⟨by have h := (en_nv (i := 0) Hr.2.1 rfl).2; exact h, trivial⟩
  have r0 : nv α1 0 = nv xs 0 := nv_le hle (by omega)
  refine hd_segM G (na := 1) (fuel := 600) (first := true) (Bs := [kh_hFind_b0_0]) (by decide +kernel) hl1 Hr ?_
  intro q hq β lv' st' S' H1
  simp only [List.mem_cons, List.not_mem_nil, or_false] at hq
  rcases hq with rfl
  · have hst := st_nil H1 rfl
    subst hst
    obtain ⟨f1, f2, f3, f4, f5⟩ := as_fx H1
    simp only [kh_hFind_b0_0, fx_env, fx_c, fx_ne, fx_hf, wl_S, Nat.zero_add, Nat.reduceAdd, Nat.reduceDiv, Nat.reduceMod, List.getElem?_cons_zero, List.getElem?_cons_succ, if_true, and_true, true_and] at f1 f2 f3 f4 f5
    have fe0 : nv β 0 = 805 := by omega
    have fe1 : nv β 1 = 0 := by omega
    try simp only [fe0, fe1, Int.reduceToNat] at f2 f3 f4 f5
    have s0 : nv β 0 = nv α1 0 := nv_le H1.1 (by omega)
    obtain ⟨α', Ha, hm⟩ := hd_gpM (q := kh_hFind_a2) (n := 0) (by decide +kernel) hx H1 (by decide +kernel) hxa hf
    have hfr := H1.2.2.2.2.2.2.2.2.2.2.1
    have m0 : nv α' 0 = nv β 0 := hm 0 0 rfl
    have m1 : nv α' 1 = nv β 1 := hm 1 1 rfl
    subst S'
    refine (hP _).1 _ _ _ Ha ?_ (Nat.lt_succ_self _)
    · trivial)
