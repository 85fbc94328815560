/-! ===== hLay: a way along the distances ===== -/
abbrev kh_hLay_y : mt_T := (⟨"UtilityWorksModel", "hLay", "(II)V"⟩, prog_14_method_167_code, 7, none, 12, 1, 2, 35005, 35004, 12011, 21014)
def kh_hLay : ct_T := (488, [(2, 805, 805, 0), (0, 0, 1, 1), (0, 0, 11, 1)], [], [500], [(0, (0, 0, 0, 0), [(2, 805, 805, 0), (0, 0, 1, 1), (0, 0, 11, 1)], [], ([], []))], [((855, 855), (0, 23, 1)), ((856, 856), (0, 286, 1))], 5, 112, 0)
def kh_hLay_a42 : an_T := (42, 0, ([((2, 805, 805, 0), none), ((0, 0, 1, 1), none), ((0, 0, 11, 1), none), ((0, 0, 23, 1), none), ((0, 0, 11, 1), none), ((0, (-1), 98, 1), none), ((0, 0, 23, 1), none), ((2, 855, 855, 1), none)], [(0, 0), (1, 1), (2, 2), (3, 3), (4, 4)], [5, 6, 7], [], [], [], [], [], none), [])
def kh_hLay_a46 : an_T := (46, 0, ([((2, 805, 805, 0), none), ((0, 0, 1, 1), none), ((0, 0, 11, 1), none), ((0, 0, 23, 1), none), ((0, 0, 11, 1), none), ((0, 0, 11, 1), none)], [(0, 0), (1, 1), (2, 2), (3, 3), (4, 4), (5, 5)], [], [], [], [], [], [], none), [])
def kh_hLay_a65 : an_T := (65, 0, ([((2, 805, 805, 0), none), ((0, 0, 1, 1), none), ((0, 0, 11, 1), none), ((0, 0, 23, 1), none), ((0, 0, 11, 1), none), ((0, 0, 10, 1), none), ((0, (-1), 16, 1), none)], [(0, 0), (1, 1), (2, 2), (3, 3), (4, 4), (5, 5), (6, 6)], [], [], [], [], [], [], none), [])
def kh_hLay_b0_0 : sg_T := (42, 0, ([((2, 805, 805, 0), none), ((0, 0, 1, 1), none), ((0, 0, 11, 1), none), ((0, 12, 12, 0), none), ((0, 0, 12, 12), none), ((0, 0, 23, 1), none), ((0, 0, 11, 1), none), ((2, 855, 855, 1), none), ((2, 854, 854, 1), none), ((0, 0, 98, 1), none), ((0, 99, 99, 0), none), ((2, 854, 854, 1), none)], [(4, 6), (3, 5), (0, 0), (1, 1), (2, 2)], [9, 5, 7], [(8, 6, 9)], [(9, 99)], [(400000, 9, 10), (800009, 8, 6), (500005, 4, 2), (700004, 3, 1)], [], [], some []))
def kh_hLay_b0_1 : sg_T := (42, 0, ([((2, 805, 805, 0), none), ((0, 0, 1, 1), none), ((0, 0, 11, 1), none), ((0, 12, 12, 0), none), ((0, 0, 12, 12), none), ((0, 0, 23, 1), none), ((0, 0, 11, 1), none), ((2, 855, 855, 1), none), ((2, 854, 854, 1), none), ((0, 99, 99, 1), none), ((0, 99, 99, 0), none), ((0, (-1), (-1), 0), none)], [(4, 6), (3, 5), (0, 0), (1, 1), (2, 2)], [11, 5, 7], [(8, 6, 9)], [], [(300000, 9, 10), (800009, 8, 6), (500005, 4, 2), (700004, 3, 1)], [], [], some []))
def kh_hLay_b42_0 : sg_T := (46, 0, ([((2, 805, 805, 0), none), ((0, 0, 1, 1), none), ((0, 0, 11, 1), none), ((0, 0, 23, 1), none), ((0, 0, 11, 1), none), ((0, (-1), 11, 1), none), ((0, 0, 23, 1), none), ((2, 855, 855, 1), none), ((0, 0, 0, 0), none)], [(5, 8), (0, 0), (1, 1), (2, 2), (3, 3), (4, 4)], [], [(7, 6, 5)], [], [], [], [], some [(7, 6, 5)]))
def kh_hLay_b46_0 : sg_T := (128, 0, ([((2, 805, 805, 0), none), ((0, 0, 1, 1), none), ((0, 0, 11, 1), none), ((0, 0, 23, 1), none), ((0, 0, 11, 1), none), ((0, 0, 11, 1), none), ((2, 855, 855, 1), none), ((0, (-1), 11, 1), none)], [(0, 0), (1, 1), (2, 2), (3, 3), (4, 4), (5, 5)], [], [(6, 3, 7)], [], [(200000, 7, 5), (800007, 6, 3)], [], [], some []))
def kh_hLay_b46_1 : sg_T := (65, 0, ([((2, 805, 805, 0), none), ((0, 0, 1, 1), none), ((0, 0, 11, 1), none), ((0, 0, 23, 1), none), ((0, 0, 11, 1), none), ((0, 0, 10, 1), none), ((2, 855, 855, 1), none), ((0, 1, 11, 1), none), ((0, (-1), 16, 1), none)], [(6, 8), (0, 0), (1, 1), (2, 2), (3, 3), (4, 4), (5, 5)], [], [(6, 3, 7)], [], [(101400008, 4, 4), (100000, 5, 7), (800007, 6, 3)], [], [], some []))
def kh_hLay_b65_0 : sg_T := (46, 0, ([((2, 805, 805, 0), none), ((0, 0, 1, 1), none), ((0, 0, 11, 1), none), ((0, 0, 23, 1), none), ((0, 0, 11, 1), none), ((0, 0, 10, 1), none), ((0, 0, 16, 1), none), ((2, 856, 856, 1), none), ((0, 12, 12, 0), none), ((0, 0, 276, 12), none), ((0, 0, 286, 1), none), ((0, 2, 2, 0), none), ((0, 0, 32, 2), none), ((0, 0, 10, 1), none), ((0, 1, 1, 0), none), ((0, 1, 33, 2), some (12, 1)), ((0, 0, 10, 1), none), ((0, 0, 10, 1), none), ((0, 1, 11, 1), some (5, 1))], [(5, 18), (4, 17), (0, 0), (1, 1), (2, 2), (3, 3), (6, 6)], [], [(7, 10, 15)], [], [(1000017, 6, 6), (400000, 4, 16), (1000016, 6, 6), (500015, 12, 14), (400000, 4, 13), (1000013, 6, 6), (700012, 11, 6), (500010, 9, 5), (700009, 8, 3)], [], [], some [(7, 10, 15)]))
def kh_hLay_b65_1 : sg_T := (46, 0, ([((2, 805, 805, 0), none), ((0, 0, 1, 1), none), ((0, 0, 11, 1), none), ((0, 0, 23, 1), none), ((0, 0, 10, 1), none), ((0, 0, 10, 1), none), ((0, 0, 16, 1), none), ((2, 856, 856, 1), none), ((0, 12, 12, 0), none), ((0, 0, 276, 12), none), ((0, 0, 286, 1), none), ((0, 2, 2, 0), none), ((0, 0, 32, 2), none), ((0, 0, 10, 1), none), ((0, 1, 1, 0), none), ((0, 1, 33, 2), some (12, 1)), ((0, 0, 10, 1), none), ((0, 1, 11, 1), none), ((0, 1, 11, 1), some (5, 1))], [(5, 18), (4, 17), (0, 0), (1, 1), (2, 2), (3, 3), (6, 6)], [], [(7, 10, 15)], [], [(1100017, 6, 6), (300000, 4, 16), (1000016, 6, 6), (500015, 12, 14), (400000, 4, 13), (1000013, 6, 6), (700012, 11, 6), (500010, 9, 5), (700009, 8, 3)], [], [], some [(7, 10, 15)]))
def kh_hLay_b65_2 : sg_T := (46, 0, ([((2, 805, 805, 0), none), ((0, 0, 1, 1), none), ((0, 0, 11, 1), none), ((0, 0, 23, 1), none), ((0, 0, 10, 1), none), ((0, 0, 10, 1), none), ((0, 0, 16, 1), none), ((2, 856, 856, 1), none), ((0, 12, 12, 0), none), ((0, 0, 276, 12), none), ((0, 0, 286, 1), none), ((0, 2, 2, 0), none), ((0, 0, 32, 2), none), ((0, 0, 10, 1), none), ((0, 0, 0, 0), none), ((0, 0, 32, 2), some (12, 0)), ((0, 0, 10, 1), none), ((0, 0, 10, 1), none), ((0, 1, 11, 1), some (5, 1))], [(5, 18), (4, 17), (0, 0), (1, 1), (2, 2), (3, 3), (6, 6)], [], [(7, 10, 15)], [], [(1000017, 6, 6), (400000, 4, 16), (1000016, 6, 6), (500015, 12, 14), (300000, 4, 13), (1000013, 6, 6), (700012, 11, 6), (500010, 9, 5), (700009, 8, 3)], [], [], some [(7, 10, 15)]))
def kh_hLay_b65_3 : sg_T := (46, 0, ([((2, 805, 805, 0), none), ((0, 0, 1, 1), none), ((0, 0, 11, 1), none), ((0, 0, 23, 1), none), ((0, 0, 10, 1), none), ((0, 0, 10, 1), none), ((0, 0, 16, 1), none), ((2, 856, 856, 1), none), ((0, 12, 12, 0), none), ((0, 0, 276, 12), none), ((0, 0, 286, 1), none), ((0, 2, 2, 0), none), ((0, 0, 32, 2), none), ((0, 0, 10, 1), none), ((0, 0, 0, 0), none), ((0, 0, 32, 2), some (12, 0)), ((0, 0, 10, 1), none), ((0, 1, 11, 1), none), ((0, 1, 11, 1), some (5, 1))], [(5, 18), (4, 17), (0, 0), (1, 1), (2, 2), (3, 3), (6, 6)], [], [(7, 10, 15)], [], [(1100017, 6, 6), (300000, 4, 16), (1000016, 6, 6), (500015, 12, 14), (300000, 4, 13), (1000013, 6, 6), (700012, 11, 6), (500010, 9, 5), (700009, 8, 3)], [], [], some [(7, 10, 15)]))
theorem kh_hLay_ok : ct_ok wd_fl1 kh_hLay := ct_hand (ff := wd_ff1) (y := kh_hLay_y) (Cs := [kh_389, kh_hNextFrom, kh_low, kh_high]) wd_fl1_ok rfl (List.forall_mem_cons.mpr ⟨kh_389_l, (List.forall_mem_cons.mpr ⟨kh_hNextFrom_ok, (List.forall_mem_cons.mpr ⟨kh_low_l, (List.forall_mem_cons.mpr ⟨kh_high_l, (List.forall_mem_nil _)⟩)⟩)⟩)⟩) (by decide +kernel) (fun l D tc ad kd N sm xs S p e s m args below meth c sz lv G H0 => by
  have hx : xs.length = 3 := by rw [H0.2.1.1]; rfl
  have hpr0 : hPred S := by
    have h := H0.2.2.2.2.2.2.2.2.1 500 List.mem_cons_self
    rw [wd_fl1, if_neg (by decide)] at h
    exact h
  have hP : ∀ (k : Nat), (∀ (α : List av_X) (lv : List (Nat × Value)) (st : List Value) (S1 : fw_S), as_in ad sm wd_fl1 xs S kh_hLay.2.2.2.2.2.1 α kh_hLay_a42.2.2.1 lv st S1 → (hPred S1 ∧ nv α 6 = nv α 3 ∧ -1 ≤ nv α 5 ∧ nv α 5 ≤ 11 ∧ (nv α 5 = -1 ∨ (S1.1 854 (nv α 4).toNat).toInt = nv α 5)) → 1000 < k → hd_W wd_fl1 kh_hLay kh_hLay_y l D tc ad kd N sm xs S p e s m args below meth c sz 42 lv st S1 0) ∧ (∀ (α : List av_X) (lv : List (Nat × Value)) (st : List Value) (S1 : fw_S), as_in ad sm wd_fl1 xs S kh_hLay.2.2.2.2.2.1 α kh_hLay_a46.2.2.1 lv st S1 → (hPred S1 ∧ (nv α 5 ≤ (S1.1 855 (nv α 3).toNat).toInt → (S1.1 854 (nv α 4).toNat).toInt = (S1.1 855 (nv α 3).toNat).toInt - nv α 5)) → (11 - nv α 5).toNat * 4 + 2 < k → hd_W wd_fl1 kh_hLay kh_hLay_y l D tc ad kd N sm xs S p e s m args below meth c sz 46 lv st S1 0) ∧ (∀ (α : List av_X) (lv : List (Nat × Value)) (st : List Value) (S1 : fw_S), as_in ad sm wd_fl1 xs S kh_hLay.2.2.2.2.2.1 α kh_hLay_a65.2.2.1 lv st S1 → (hPred S1 ∧ 0 ≤ nv α 6 ∧ nv α 6 ≤ 16 ∧ nxh S1 (nv α 6) (nv α 4) ∧ nv α 5 < (S1.1 855 (nv α 3).toNat).toInt ∧ (S1.1 854 (nv α 4).toNat).toInt = (S1.1 855 (nv α 3).toNat).toInt - nv α 5) → (11 - nv α 5).toNat * 4 + 1 < k → hd_W wd_fl1 kh_hLay kh_hLay_y l D tc ad kd N sm xs S p e s m args below meth c sz 65 lv st S1 0) ∧ True := by
    intro k
    induction k with
    | zero => exact ⟨fun _ _ _ _ _ _ h => absurd h (Nat.not_lt_zero _), fun _ _ _ _ _ _ h => absurd h (Nat.not_lt_zero _), fun _ _ _ _ _ _ h => absurd h (Nat.not_lt_zero _), trivial⟩
    | succ k ih =>
    refine ⟨?_, ?_, ?_, trivial⟩
    · intro α lv st S1 H hp hk
      have bp := (en_nv (i := 5) H.2.1 rfl).2
      change (-1) ≤ nv α 5 ∧ nv α 5 ≤ 98 at bp
      replace H := as_clamp (i := 5) (lo := (-1)) (hi := 11) H rfl rfl (by omega) (by omega) (by decide)
      obtain ⟨α1, hle, Hr⟩ := as_recM (pl := []) [((855, 855), (0, 23, 1))] (by decide +kernel) H
      have hf := H.2.2.2.2.2.2.2.2.2.2.1
      have hl1 : α1.length = 8 := by rw [Hr.2.1.1]; rfl
      have hl0 : α.length = 8 := by rw [H.2.1.1]; rfl
      have hxa : al_le xs α1 := H.1.trans hle
      obtain ⟨g1, -, g3, g4, -⟩ := as_fx Hr
      have g0 : (805 ≤ nv α1 0 ∧ nv α1 0 ≤ 805) ∧ (0 ≤ nv α1 1 ∧ nv α1 1 ≤ 1) ∧ (0 ≤ nv α1 2 ∧ nv α1 2 ≤ 11) ∧ (0 ≤ nv α1 3 ∧ nv α1 3 ≤ 23) ∧ (0 ≤ nv α1 4 ∧ nv α1 4 ≤ 11) ∧ ((-1) ≤ nv α1 5 ∧ nv α1 5 ≤ 11) ∧ (0 ≤ nv α1 6 ∧ nv α1 6 ≤ 23) ∧ (855 ≤ nv α1 7 ∧ nv α1 7 ≤ 855) ∧ True := by
        refine ⟨by have h := (en_nv (i := 0) Hr.2.1 rfl).2; exact h, by have h := (en_nv (i := 1) Hr.2.1 rfl).2; exact h, by have h := (en_nv (i := 2) Hr.2.1 rfl).2; exact h, by have h := (en_nv (i := 3) Hr.2.1 rfl).2; exact h, by have h := (en_nv (i := 4) Hr.2.1 rfl).2; exact h, by have h := (en_nv (i := 5) Hr.2.1 rfl).2; exact h, by have h := (en_nv (i := 6) Hr.2.1 rfl).2; exact h, by have h := (en_nv (i := 7) Hr.2.1 rfl).2; exact h, trivial⟩
      have r0 : nv α1 0 = nv α 0 := nv_le hle (by omega)
      have r1 : nv α1 1 = nv α 1 := nv_le hle (by omega)
      have r2 : nv α1 2 = nv α 2 := nv_le hle (by omega)
      have r3 : nv α1 3 = nv α 3 := nv_le hle (by omega)
      have r4 : nv α1 4 = nv α 4 := nv_le hle (by omega)
      have r5 : nv α1 5 = nv α 5 := nv_le hle (by omega)
      have r6 : nv α1 6 = nv α 6 := nv_le hle (by omega)
      have r7 : nv α1 7 = nv α 7 := nv_le hle (by omega)
      refine hd_segM G (na := 8) (fuel := 600) (first := true) (Bs := [kh_hLay_b42_0]) (by decide +kernel) hl1 Hr ?_
      intro q hq β lv' st' S' H1
      simp only [List.mem_cons, List.not_mem_nil, or_false] at hq
      rcases hq with rfl
      · obtain ⟨f1, f2, f3, f4, f5⟩ := as_fx H1
        simp only [kh_hLay_b42_0, fx_env, fx_c, fx_ne, fx_hf, wl_S, Nat.zero_add, Nat.reduceAdd, Nat.reduceDiv, Nat.reduceMod, List.getElem?_cons_zero, List.getElem?_cons_succ, if_true, and_true, true_and] at f1 f2 f3 f4 f5
        have fe0 : nv β 0 = 805 := by omega
        have fe7 : nv β 7 = 855 := by omega
        have fe8 : nv β 8 = 0 := by omega
        try simp only [fe0, fe7, fe8, Int.reduceToNat] at f2 f3 f4 f5
        have s0 : nv β 0 = nv α1 0 := nv_le H1.1 (by omega)
        have s1 : nv β 1 = nv α1 1 := nv_le H1.1 (by omega)
        have s2 : nv β 2 = nv α1 2 := nv_le H1.1 (by omega)
        have s3 : nv β 3 = nv α1 3 := nv_le H1.1 (by omega)
        have s4 : nv β 4 = nv α1 4 := nv_le H1.1 (by omega)
        have s5 : nv β 5 = nv α1 5 := nv_le H1.1 (by omega)
        have s6 : nv β 6 = nv α1 6 := nv_le H1.1 (by omega)
        have s7 : nv β 7 = nv α1 7 := nv_le H1.1 (by omega)
        obtain ⟨α', Ha, hm⟩ := hd_gpM (q := kh_hLay_a46) (n := 0) (by decide +kernel) hx H1 (by decide +kernel) hxa hf
        have hfr := H1.2.2.2.2.2.2.2.2.2.2.1
        have m0 : nv α' 0 = nv β 0 := hm 0 0 rfl
        have m1 : nv α' 1 = nv β 1 := hm 1 1 rfl
        have m2 : nv α' 2 = nv β 2 := hm 2 2 rfl
        have m3 : nv α' 3 = nv β 3 := hm 3 3 rfl
        have m4 : nv α' 4 = nv β 4 := hm 4 4 rfl
        have m5 : nv α' 5 = nv β 8 := hm 5 8 rfl
        subst S'
        have em : ((fw_i S1 855 (nv β 6).toNat (Int32.ofInt (nv β 5))).1 855 (nv β 3).toNat).toInt = nv β 5 := by
          rw [fw_i_row, if_pos (by omega), i32_of (by omega) (by omega)]
        have ed : (fw_i S1 855 (nv β 6).toNat (Int32.ofInt (nv β 5))).1 854 = S1.1 854 := fw_i_ne (by decide)
        refine ih.2.1 _ _ _ _ Ha ?_ ?_
        · refine ⟨hPred_eq (fun j _ => congrFun (fw_i_ne (by decide)) j) (fun j _ => congrFun (fw_i_ne (by decide)) j) hp.1, fun hk => ?_⟩
          rw [m3, em] at hk ⊢
          rw [ed, m4, m5, s4, r4]
          rcases hp.2.2.2.2 with g | g
          · omega
          · rw [g]; omega
        · omega
    · intro α lv st S1 H hp hk
      obtain ⟨α1, hle, Hr⟩ := as_recM (pl := []) [] (by decide +kernel) H
      have hf := H.2.2.2.2.2.2.2.2.2.2.1
      have hl1 : α1.length = 6 := by rw [Hr.2.1.1]; rfl
      have hl0 : α.length = 6 := by rw [H.2.1.1]; rfl
      have hxa : al_le xs α1 := H.1.trans hle
      obtain ⟨g1, -, g3, g4, -⟩ := as_fx Hr
      have g0 : (805 ≤ nv α1 0 ∧ nv α1 0 ≤ 805) ∧ (0 ≤ nv α1 1 ∧ nv α1 1 ≤ 1) ∧ (0 ≤ nv α1 2 ∧ nv α1 2 ≤ 11) ∧ (0 ≤ nv α1 3 ∧ nv α1 3 ≤ 23) ∧ (0 ≤ nv α1 4 ∧ nv α1 4 ≤ 11) ∧ (0 ≤ nv α1 5 ∧ nv α1 5 ≤ 11) ∧ True := by
        refine ⟨by have h := (en_nv (i := 0) Hr.2.1 rfl).2; exact h, by have h := (en_nv (i := 1) Hr.2.1 rfl).2; exact h, by have h := (en_nv (i := 2) Hr.2.1 rfl).2; exact h, by have h := (en_nv (i := 3) Hr.2.1 rfl).2; exact h, by have h := (en_nv (i := 4) Hr.2.1 rfl).2; exact h, by have h := (en_nv (i := 5) Hr.2.1 rfl).2; exact h, trivial⟩
      have r0 : nv α1 0 = nv α 0 := nv_le hle (by omega)
      have r1 : nv α1 1 = nv α 1 := nv_le hle (by omega)
      have r2 : nv α1 2 = nv α 2 := nv_le hle (by omega)
      have r3 : nv α1 3 = nv α 3 := nv_le hle (by omega)
      have r4 : nv α1 4 = nv α 4 := nv_le hle (by omega)
      have r5 : nv α1 5 = nv α 5 := nv_le hle (by omega)
      refine hd_segM G (na := 6) (fuel := 600) (first := true) (Bs := [kh_hLay_b46_0, kh_hLay_b46_1]) (by decide +kernel) hl1 Hr ?_
      intro q hq β lv' st' S' H1
      simp only [List.mem_cons, List.not_mem_nil, or_false] at hq
      rcases hq with rfl | rfl
      · obtain ⟨f1, f2, f3, f4, f5⟩ := as_fx H1
        simp only [kh_hLay_b46_0, fx_env, fx_c, fx_ne, fx_hf, wl_S, Nat.zero_add, Nat.reduceAdd, Nat.reduceDiv, Nat.reduceMod, List.getElem?_cons_zero, List.getElem?_cons_succ, if_true, and_true, true_and] at f1 f2 f3 f4 f5
        have fe0 : nv β 0 = 805 := by omega
        have fe6 : nv β 6 = 855 := by omega
        try simp only [fe0, fe6, Int.reduceToNat] at f2 f3 f4 f5
        have s0 : nv β 0 = nv α1 0 := nv_le H1.1 (by omega)
        have s1 : nv β 1 = nv α1 1 := nv_le H1.1 (by omega)
        have s2 : nv β 2 = nv α1 2 := nv_le H1.1 (by omega)
        have s3 : nv β 3 = nv α1 3 := nv_le H1.1 (by omega)
        have s4 : nv β 4 = nv α1 4 := nv_le H1.1 (by omega)
        have s5 : nv β 5 = nv α1 5 := nv_le H1.1 (by omega)
        obtain ⟨c0, c1⟩ := f2
        exact hd_run G (ss := []) (fuel := 20) (by decide +kernel) (as_backM H1 (by decide +kernel) hxa hf)
      · obtain ⟨f1, f2, f3, f4, f5⟩ := as_fx H1
        simp only [kh_hLay_b46_1, fx_env, fx_c, fx_ne, fx_hf, wl_S, Nat.zero_add, Nat.reduceAdd, Nat.reduceDiv, Nat.reduceMod, List.getElem?_cons_zero, List.getElem?_cons_succ, if_true, and_true, true_and] at f1 f2 f3 f4 f5
        have fe0 : nv β 0 = 805 := by omega
        have fe6 : nv β 6 = 855 := by omega
        try simp only [fe0, fe6, Int.reduceToNat] at f2 f3 f4 f5
        have s0 : nv β 0 = nv α1 0 := nv_le H1.1 (by omega)
        have s1 : nv β 1 = nv α1 1 := nv_le H1.1 (by omega)
        have s2 : nv β 2 = nv α1 2 := nv_le H1.1 (by omega)
        have s3 : nv β 3 = nv α1 3 := nv_le H1.1 (by omega)
        have s4 : nv β 4 = nv α1 4 := nv_le H1.1 (by omega)
        have s5 : nv β 5 = nv α1 5 := nv_le H1.1 (by omega)
        obtain ⟨c0, c1, c2⟩ := f2
        obtain ⟨α', Ha, hm⟩ := hd_gpM (q := kh_hLay_a65) (n := 0) (by decide +kernel) hx H1 (by decide +kernel) hxa hf
        have hfr := H1.2.2.2.2.2.2.2.2.2.2.1
        have m0 : nv α' 0 = nv β 0 := hm 0 0 rfl
        have m1 : nv α' 1 = nv β 1 := hm 1 1 rfl
        have m2 : nv α' 2 = nv β 2 := hm 2 2 rfl
        have m3 : nv α' 3 = nv β 3 := hm 3 3 rfl
        have m4 : nv α' 4 = nv β 4 := hm 4 4 rfl
        have m5 : nv α' 5 = nv β 5 := hm 5 5 rfl
        have m6 : nv α' 6 = nv β 8 := hm 6 8 rfl
        subst S'
        have d0 := c0
        simp only [wd_fl1, if_neg (show ¬ (wd_base 1014 = true) by decide)] at d0
        have o2 := old_0 c2 rfl
        have hm : (S1.1 855 (nv α 3).toNat).toInt = nv β 7 := by rw [← r3, ← s3]; exact o2
        have hd := hp.2 (by omega)
        rw [hm] at hd
        have hw : hWit S1 (nv β 4).toNat (S1.1 854 (nv β 4).toNat).toInt 1 := by
          rw [s4, r4]
          rcases hp.1 (nv α 4).toNat (by omega) with g | g | ⟨-, -, g⟩
          · omega
          · omega
          · exact g
        obtain ⟨n1, n2, n3⟩ := d0 hw
        refine ih.2.2.1 _ _ _ _ Ha ?_ ?_
        · rw [m3, m4, m5, m6, s3, r3, hm]
          refine ⟨hp.1, n1, n2, n3, by omega, ?_⟩
          rw [s4, r4]
          omega
        · omega
    · intro α lv st S1 H hp hk
      have bp := (en_nv (i := 6) H.2.1 rfl).2
      change (-1) ≤ nv α 6 ∧ nv α 6 ≤ 16 at bp
      replace H := as_clamp (i := 6) (lo := 0) (hi := 16) H rfl rfl (by omega) (by omega) (by decide)
      obtain ⟨α1, hle, Hr⟩ := as_recM (pl := []) [((856, 856), (0, 286, 1))] (by decide +kernel) H
      have hf := H.2.2.2.2.2.2.2.2.2.2.1
      have hl1 : α1.length = 7 := by rw [Hr.2.1.1]; rfl
      have hl0 : α.length = 7 := by rw [H.2.1.1]; rfl
      have hxa : al_le xs α1 := H.1.trans hle
      obtain ⟨g1, -, g3, g4, -⟩ := as_fx Hr
      have g0 : (805 ≤ nv α1 0 ∧ nv α1 0 ≤ 805) ∧ (0 ≤ nv α1 1 ∧ nv α1 1 ≤ 1) ∧ (0 ≤ nv α1 2 ∧ nv α1 2 ≤ 11) ∧ (0 ≤ nv α1 3 ∧ nv α1 3 ≤ 23) ∧ (0 ≤ nv α1 4 ∧ nv α1 4 ≤ 11) ∧ (0 ≤ nv α1 5 ∧ nv α1 5 ≤ 10) ∧ (0 ≤ nv α1 6 ∧ nv α1 6 ≤ 16) ∧ True := by
        refine ⟨by have h := (en_nv (i := 0) Hr.2.1 rfl).2; exact h, by have h := (en_nv (i := 1) Hr.2.1 rfl).2; exact h, by have h := (en_nv (i := 2) Hr.2.1 rfl).2; exact h, by have h := (en_nv (i := 3) Hr.2.1 rfl).2; exact h, by have h := (en_nv (i := 4) Hr.2.1 rfl).2; exact h, by have h := (en_nv (i := 5) Hr.2.1 rfl).2; exact h, by have h := (en_nv (i := 6) Hr.2.1 rfl).2; exact h, trivial⟩
      have r0 : nv α1 0 = nv α 0 := nv_le hle (by omega)
      have r1 : nv α1 1 = nv α 1 := nv_le hle (by omega)
      have r2 : nv α1 2 = nv α 2 := nv_le hle (by omega)
      have r3 : nv α1 3 = nv α 3 := nv_le hle (by omega)
      have r4 : nv α1 4 = nv α 4 := nv_le hle (by omega)
      have r5 : nv α1 5 = nv α 5 := nv_le hle (by omega)
      have r6 : nv α1 6 = nv α 6 := nv_le hle (by omega)
      refine hd_segM G (na := 7) (fuel := 600) (first := true) (Bs := [kh_hLay_b65_0, kh_hLay_b65_1, kh_hLay_b65_2, kh_hLay_b65_3]) (by decide +kernel) hl1 Hr ?_
      intro q hq β lv' st' S' H1
      simp only [List.mem_cons, List.not_mem_nil, or_false] at hq
      rcases hq with rfl | rfl | rfl | rfl
      · obtain ⟨f1, f2, f3, f4, f5⟩ := as_fx H1
        simp only [kh_hLay_b65_0, fx_env, fx_c, fx_ne, fx_hf, wl_S, Nat.zero_add, Nat.reduceAdd, Nat.reduceDiv, Nat.reduceMod, List.getElem?_cons_zero, List.getElem?_cons_succ, if_true, and_true, true_and] at f1 f2 f3 f4 f5
        have fe0 : nv β 0 = 805 := by omega
        have fe7 : nv β 7 = 856 := by omega
        have fe8 : nv β 8 = 12 := by omega
        have fe11 : nv β 11 = 2 := by omega
        have fe14 : nv β 14 = 1 := by omega
        try simp only [fe0, fe7, fe8, fe11, fe14, Int.reduceToNat] at f2 f3 f4 f5
        have s0 : nv β 0 = nv α1 0 := nv_le H1.1 (by omega)
        have s1 : nv β 1 = nv α1 1 := nv_le H1.1 (by omega)
        have s2 : nv β 2 = nv α1 2 := nv_le H1.1 (by omega)
        have s3 : nv β 3 = nv α1 3 := nv_le H1.1 (by omega)
        have s4 : nv β 4 = nv α1 4 := nv_le H1.1 (by omega)
        have s5 : nv β 5 = nv α1 5 := nv_le H1.1 (by omega)
        have s6 : nv β 6 = nv α1 6 := nv_le H1.1 (by omega)
        obtain ⟨c0, c1, c2, c3, c4, c5, c6, c7, c8⟩ := f2
        obtain ⟨α', Ha, hm⟩ := hd_gpM (q := kh_hLay_a46) (n := 0) (by decide +kernel) hx H1 (by decide +kernel) hxa hf
        have hfr := H1.2.2.2.2.2.2.2.2.2.2.1
        have m0 : nv α' 0 = nv β 0 := hm 0 0 rfl
        have m1 : nv α' 1 = nv β 1 := hm 1 1 rfl
        have m2 : nv α' 2 = nv β 2 := hm 2 2 rfl
        have m3 : nv α' 3 = nv β 3 := hm 3 3 rfl
        have m4 : nv α' 4 = nv β 17 := hm 4 17 rfl
        have m5 : nv α' 5 = nv β 18 := hm 5 18 rfl
        subst S'
        have d0 := fl1_b (by decide) c0
        simp only [wd_fl] at d0
        have d2 := fl1_b (by decide) c2
        simp only [wd_fl] at d2
        have d5 := fl1_b (by decide) c5
        simp only [wd_fl] at d5
        have e4 : (fw_i S1 856 (nv β 10).toNat (Int32.ofInt (nv β 15))).1 854 = S1.1 854 := fw_i_ne (by decide)
        have e5 : (fw_i S1 856 (nv β 10).toNat (Int32.ofInt (nv β 15))).1 855 = S1.1 855 := fw_i_ne (by decide)
        obtain ⟨p1, p2, p3, p4, p5, p6⟩ := hp
        have b6 := lh_bd (nv β 6).toNat (by omega)
        rw [Int.toNat_of_nonneg (show 0 ≤ nv β 6 by omega)] at b6
        have hn : (S1.1 854 (nv β 17).toNat).toInt + 1 = (S1.1 854 (nv α 4).toNat).toInt := by
          rw [← r6, ← s6] at p4
          obtain ⟨-, ⟨a, b⟩ | ⟨a, b⟩⟩ := p4
          · first | (rw [show nv β 17 = highI (nv β 6) by omega]; exact b) | (exfalso; omega)
          · first | (rw [show nv β 17 = lowI (nv β 6) by omega]; exact b) | (exfalso; omega)
        refine ih.2.1 _ _ _ _ Ha ?_ ?_
        · refine ⟨hPred_eq (fun j _ => congrFun (fw_i_ne (by decide)) j) (fun j _ => congrFun (fw_i_ne (by decide)) j) p1, fun hk => ?_⟩
          rw [m3, e5, m5] at hk ⊢
          rw [e4, m4, s3, r3]
          omega
        · omega
      · obtain ⟨f1, f2, f3, f4, f5⟩ := as_fx H1
        simp only [kh_hLay_b65_1, fx_env, fx_c, fx_ne, fx_hf, wl_S, Nat.zero_add, Nat.reduceAdd, Nat.reduceDiv, Nat.reduceMod, List.getElem?_cons_zero, List.getElem?_cons_succ, if_true, and_true, true_and] at f1 f2 f3 f4 f5
        have fe0 : nv β 0 = 805 := by omega
        have fe7 : nv β 7 = 856 := by omega
        have fe8 : nv β 8 = 12 := by omega
        have fe11 : nv β 11 = 2 := by omega
        have fe14 : nv β 14 = 1 := by omega
        try simp only [fe0, fe7, fe8, fe11, fe14, Int.reduceToNat] at f2 f3 f4 f5
        have s0 : nv β 0 = nv α1 0 := nv_le H1.1 (by omega)
        have s1 : nv β 1 = nv α1 1 := nv_le H1.1 (by omega)
        have s2 : nv β 2 = nv α1 2 := nv_le H1.1 (by omega)
        have s3 : nv β 3 = nv α1 3 := nv_le H1.1 (by omega)
        have s4 : nv β 4 = nv α1 4 := nv_le H1.1 (by omega)
        have s5 : nv β 5 = nv α1 5 := nv_le H1.1 (by omega)
        have s6 : nv β 6 = nv α1 6 := nv_le H1.1 (by omega)
        obtain ⟨c0, c1, c2, c3, c4, c5, c6, c7, c8⟩ := f2
        obtain ⟨α', Ha, hm⟩ := hd_gpM (q := kh_hLay_a46) (n := 0) (by decide +kernel) hx H1 (by decide +kernel) hxa hf
        have hfr := H1.2.2.2.2.2.2.2.2.2.2.1
        have m0 : nv α' 0 = nv β 0 := hm 0 0 rfl
        have m1 : nv α' 1 = nv β 1 := hm 1 1 rfl
        have m2 : nv α' 2 = nv β 2 := hm 2 2 rfl
        have m3 : nv α' 3 = nv β 3 := hm 3 3 rfl
        have m4 : nv α' 4 = nv β 17 := hm 4 17 rfl
        have m5 : nv α' 5 = nv β 18 := hm 5 18 rfl
        subst S'
        have d0 := fl1_b (by decide) c0
        simp only [wd_fl] at d0
        have d2 := fl1_b (by decide) c2
        simp only [wd_fl] at d2
        have d5 := fl1_b (by decide) c5
        simp only [wd_fl] at d5
        have e4 : (fw_i S1 856 (nv β 10).toNat (Int32.ofInt (nv β 15))).1 854 = S1.1 854 := fw_i_ne (by decide)
        have e5 : (fw_i S1 856 (nv β 10).toNat (Int32.ofInt (nv β 15))).1 855 = S1.1 855 := fw_i_ne (by decide)
        obtain ⟨p1, p2, p3, p4, p5, p6⟩ := hp
        have b6 := lh_bd (nv β 6).toNat (by omega)
        rw [Int.toNat_of_nonneg (show 0 ≤ nv β 6 by omega)] at b6
        have hn : (S1.1 854 (nv β 17).toNat).toInt + 1 = (S1.1 854 (nv α 4).toNat).toInt := by
          rw [← r6, ← s6] at p4
          obtain ⟨-, ⟨a, b⟩ | ⟨a, b⟩⟩ := p4
          · first | (rw [show nv β 17 = highI (nv β 6) by omega]; exact b) | (exfalso; omega)
          · first | (rw [show nv β 17 = lowI (nv β 6) by omega]; exact b) | (exfalso; omega)
        refine ih.2.1 _ _ _ _ Ha ?_ ?_
        · refine ⟨hPred_eq (fun j _ => congrFun (fw_i_ne (by decide)) j) (fun j _ => congrFun (fw_i_ne (by decide)) j) p1, fun hk => ?_⟩
          rw [m3, e5, m5] at hk ⊢
          rw [e4, m4, s3, r3]
          omega
        · omega
      · obtain ⟨f1, f2, f3, f4, f5⟩ := as_fx H1
        simp only [kh_hLay_b65_2, fx_env, fx_c, fx_ne, fx_hf, wl_S, Nat.zero_add, Nat.reduceAdd, Nat.reduceDiv, Nat.reduceMod, List.getElem?_cons_zero, List.getElem?_cons_succ, if_true, and_true, true_and] at f1 f2 f3 f4 f5
        have fe0 : nv β 0 = 805 := by omega
        have fe7 : nv β 7 = 856 := by omega
        have fe8 : nv β 8 = 12 := by omega
        have fe11 : nv β 11 = 2 := by omega
        have fe14 : nv β 14 = 0 := by omega
        try simp only [fe0, fe7, fe8, fe11, fe14, Int.reduceToNat] at f2 f3 f4 f5
        have s0 : nv β 0 = nv α1 0 := nv_le H1.1 (by omega)
        have s1 : nv β 1 = nv α1 1 := nv_le H1.1 (by omega)
        have s2 : nv β 2 = nv α1 2 := nv_le H1.1 (by omega)
        have s3 : nv β 3 = nv α1 3 := nv_le H1.1 (by omega)
        have s4 : nv β 4 = nv α1 4 := nv_le H1.1 (by omega)
        have s5 : nv β 5 = nv α1 5 := nv_le H1.1 (by omega)
        have s6 : nv β 6 = nv α1 6 := nv_le H1.1 (by omega)
        obtain ⟨c0, c1, c2, c3, c4, c5, c6, c7, c8⟩ := f2
        obtain ⟨α', Ha, hm⟩ := hd_gpM (q := kh_hLay_a46) (n := 0) (by decide +kernel) hx H1 (by decide +kernel) hxa hf
        have hfr := H1.2.2.2.2.2.2.2.2.2.2.1
        have m0 : nv α' 0 = nv β 0 := hm 0 0 rfl
        have m1 : nv α' 1 = nv β 1 := hm 1 1 rfl
        have m2 : nv α' 2 = nv β 2 := hm 2 2 rfl
        have m3 : nv α' 3 = nv β 3 := hm 3 3 rfl
        have m4 : nv α' 4 = nv β 17 := hm 4 17 rfl
        have m5 : nv α' 5 = nv β 18 := hm 5 18 rfl
        subst S'
        have d0 := fl1_b (by decide) c0
        simp only [wd_fl] at d0
        have d2 := fl1_b (by decide) c2
        simp only [wd_fl] at d2
        have d5 := fl1_b (by decide) c5
        simp only [wd_fl] at d5
        have e4 : (fw_i S1 856 (nv β 10).toNat (Int32.ofInt (nv β 15))).1 854 = S1.1 854 := fw_i_ne (by decide)
        have e5 : (fw_i S1 856 (nv β 10).toNat (Int32.ofInt (nv β 15))).1 855 = S1.1 855 := fw_i_ne (by decide)
        obtain ⟨p1, p2, p3, p4, p5, p6⟩ := hp
        have b6 := lh_bd (nv β 6).toNat (by omega)
        rw [Int.toNat_of_nonneg (show 0 ≤ nv β 6 by omega)] at b6
        have hn : (S1.1 854 (nv β 17).toNat).toInt + 1 = (S1.1 854 (nv α 4).toNat).toInt := by
          rw [← r6, ← s6] at p4
          obtain ⟨-, ⟨a, b⟩ | ⟨a, b⟩⟩ := p4
          · first | (rw [show nv β 17 = highI (nv β 6) by omega]; exact b) | (exfalso; omega)
          · first | (rw [show nv β 17 = lowI (nv β 6) by omega]; exact b) | (exfalso; omega)
        refine ih.2.1 _ _ _ _ Ha ?_ ?_
        · refine ⟨hPred_eq (fun j _ => congrFun (fw_i_ne (by decide)) j) (fun j _ => congrFun (fw_i_ne (by decide)) j) p1, fun hk => ?_⟩
          rw [m3, e5, m5] at hk ⊢
          rw [e4, m4, s3, r3]
          omega
        · omega
      · obtain ⟨f1, f2, f3, f4, f5⟩ := as_fx H1
        simp only [kh_hLay_b65_3, fx_env, fx_c, fx_ne, fx_hf, wl_S, Nat.zero_add, Nat.reduceAdd, Nat.reduceDiv, Nat.reduceMod, List.getElem?_cons_zero, List.getElem?_cons_succ, if_true, and_true, true_and] at f1 f2 f3 f4 f5
        have fe0 : nv β 0 = 805 := by omega
        have fe7 : nv β 7 = 856 := by omega
        have fe8 : nv β 8 = 12 := by omega
        have fe11 : nv β 11 = 2 := by omega
        have fe14 : nv β 14 = 0 := by omega
        try simp only [fe0, fe7, fe8, fe11, fe14, Int.reduceToNat] at f2 f3 f4 f5
        have s0 : nv β 0 = nv α1 0 := nv_le H1.1 (by omega)
        have s1 : nv β 1 = nv α1 1 := nv_le H1.1 (by omega)
        have s2 : nv β 2 = nv α1 2 := nv_le H1.1 (by omega)
        have s3 : nv β 3 = nv α1 3 := nv_le H1.1 (by omega)
        have s4 : nv β 4 = nv α1 4 := nv_le H1.1 (by omega)
        have s5 : nv β 5 = nv α1 5 := nv_le H1.1 (by omega)
        have s6 : nv β 6 = nv α1 6 := nv_le H1.1 (by omega)
        obtain ⟨c0, c1, c2, c3, c4, c5, c6, c7, c8⟩ := f2
        obtain ⟨α', Ha, hm⟩ := hd_gpM (q := kh_hLay_a46) (n := 0) (by decide +kernel) hx H1 (by decide +kernel) hxa hf
        have hfr := H1.2.2.2.2.2.2.2.2.2.2.1
        have m0 : nv α' 0 = nv β 0 := hm 0 0 rfl
        have m1 : nv α' 1 = nv β 1 := hm 1 1 rfl
        have m2 : nv α' 2 = nv β 2 := hm 2 2 rfl
        have m3 : nv α' 3 = nv β 3 := hm 3 3 rfl
        have m4 : nv α' 4 = nv β 17 := hm 4 17 rfl
        have m5 : nv α' 5 = nv β 18 := hm 5 18 rfl
        subst S'
        have d0 := fl1_b (by decide) c0
        simp only [wd_fl] at d0
        have d2 := fl1_b (by decide) c2
        simp only [wd_fl] at d2
        have d5 := fl1_b (by decide) c5
        simp only [wd_fl] at d5
        have e4 : (fw_i S1 856 (nv β 10).toNat (Int32.ofInt (nv β 15))).1 854 = S1.1 854 := fw_i_ne (by decide)
        have e5 : (fw_i S1 856 (nv β 10).toNat (Int32.ofInt (nv β 15))).1 855 = S1.1 855 := fw_i_ne (by decide)
        obtain ⟨p1, p2, p3, p4, p5, p6⟩ := hp
        have b6 := lh_bd (nv β 6).toNat (by omega)
        rw [Int.toNat_of_nonneg (show 0 ≤ nv β 6 by omega)] at b6
        have hn : (S1.1 854 (nv β 17).toNat).toInt + 1 = (S1.1 854 (nv α 4).toNat).toInt := by
          rw [← r6, ← s6] at p4
          obtain ⟨-, ⟨a, b⟩ | ⟨a, b⟩⟩ := p4
          · first | (rw [show nv β 17 = highI (nv β 6) by omega]; exact b) | (exfalso; omega)
          · first | (rw [show nv β 17 = lowI (nv β 6) by omega]; exact b) | (exfalso; omega)
        refine ih.2.1 _ _ _ _ Ha ?_ ?_
        · refine ⟨hPred_eq (fun j _ => congrFun (fw_i_ne (by decide)) j) (fun j _ => congrFun (fw_i_ne (by decide)) j) p1, fun hk => ?_⟩
          rw [m3, e5, m5] at hk ⊢
          rw [e4, m4, s3, r3]
          omega
        · omega
  obtain ⟨α1, hle, Hr⟩ := as_recM (pl := []) [] (by decide +kernel) H0
  have hf := H0.2.2.2.2.2.2.2.2.2.2.1
  have hl1 : α1.length = 3 := by rw [Hr.2.1.1]; rfl
  have hl0 : xs.length = 3 := by rw [H0.2.1.1]; rfl
  have hxa : al_le xs α1 := H0.1.trans hle
  obtain ⟨g1, -, g3, g4, -⟩ := as_fx Hr
  have g0 : (805 ≤ nv α1 0 ∧ nv α1 0 ≤ 805) ∧ (0 ≤ nv α1 1 ∧ nv α1 1 ≤ 1) ∧ (0 ≤ nv α1 2 ∧ nv α1 2 ≤ 11) ∧ True := by
    refine ⟨by have h := (en_nv (i := 0) Hr.2.1 rfl).2; exact h, by have h := (en_nv (i := 1) Hr.2.1 rfl).2; exact h, by have h := (en_nv (i := 2) Hr.2.1 rfl).2; exact h, trivial⟩
  have r0 : nv α1 0 = nv xs 0 := nv_le hle (by omega)
  have r1 : nv α1 1 = nv xs 1 := nv_le hle (by omega)
  have r2 : nv α1 2 = nv xs 2 := nv_le hle (by omega)
  refine hd_segM G (na := 3) (fuel := 600) (first := true) (Bs := [kh_hLay_b0_0, kh_hLay_b0_1]) (by decide +kernel) hl1 Hr ?_
  intro q hq β lv' st' S' H1
  simp only [List.mem_cons, List.not_mem_nil, or_false] at hq
  rcases hq with rfl | rfl
  · obtain ⟨f1, f2, f3, f4, f5⟩ := as_fx H1
    simp only [kh_hLay_b0_0, fx_env, fx_c, fx_ne, fx_hf, wl_S, Nat.zero_add, Nat.reduceAdd, Nat.reduceDiv, Nat.reduceMod, List.getElem?_cons_zero, List.getElem?_cons_succ, if_true, and_true, true_and] at f1 f2 f3 f4 f5
    have fe0 : nv β 0 = 805 := by omega
    have fe3 : nv β 3 = 12 := by omega
    have fe7 : nv β 7 = 855 := by omega
    have fe8 : nv β 8 = 854 := by omega
    have fe10 : nv β 10 = 99 := by omega
    have fe11 : nv β 11 = 854 := by omega
    try simp only [fe0, fe3, fe7, fe8, fe10, fe11, Int.reduceToNat] at f2 f3 f4 f5
    have s0 : nv β 0 = nv α1 0 := nv_le H1.1 (by omega)
    have s1 : nv β 1 = nv α1 1 := nv_le H1.1 (by omega)
    have s2 : nv β 2 = nv α1 2 := nv_le H1.1 (by omega)
    obtain ⟨c0, c1, c2, c3⟩ := f2
    obtain ⟨α', Ha, hm⟩ := hd_gpM (q := kh_hLay_a42) (n := 0) (by decide +kernel) hx H1 (by decide +kernel) hxa hf
    have hfr := H1.2.2.2.2.2.2.2.2.2.2.1
    have m0 : nv α' 0 = nv β 0 := hm 0 0 rfl
    have m1 : nv α' 1 = nv β 1 := hm 1 1 rfl
    have m2 : nv α' 2 = nv β 2 := hm 2 2 rfl
    have m3 : nv α' 3 = nv β 5 := hm 3 5 rfl
    have m4 : nv α' 4 = nv β 6 := hm 4 6 rfl
    have m5 : nv α' 5 = nv β 9 := hm 5 9 rfl
    have m6 : nv α' 6 = nv β 5 := hm 6 5 rfl
    have m7 : nv α' 7 = nv β 7 := hm 7 7 rfl
    subst S'
    have o1 := old_0 c1 rfl
    have h11 : nv β 9 ≤ 11 := by
      rcases hpr0 (nv β 6).toNat (by omega) with g | g | ⟨-, g, -⟩
      · omega
      · omega
      · omega
    refine (hP _).1 _ _ _ _ Ha ?_ (Nat.lt_succ_self _)
    · refine ⟨hpr0, by omega, by omega, by omega, Or.inr ?_⟩
      rw [m4, m5]
      exact o1
  · obtain ⟨f1, f2, f3, f4, f5⟩ := as_fx H1
    simp only [kh_hLay_b0_1, fx_env, fx_c, fx_ne, fx_hf, wl_S, Nat.zero_add, Nat.reduceAdd, Nat.reduceDiv, Nat.reduceMod, List.getElem?_cons_zero, List.getElem?_cons_succ, if_true, and_true, true_and] at f1 f2 f3 f4 f5
    have fe0 : nv β 0 = 805 := by omega
    have fe3 : nv β 3 = 12 := by omega
    have fe7 : nv β 7 = 855 := by omega
    have fe8 : nv β 8 = 854 := by omega
    have fe9 : nv β 9 = 99 := by omega
    have fe10 : nv β 10 = 99 := by omega
    have fe11 : nv β 11 = (-1) := by omega
    try simp only [fe0, fe3, fe7, fe8, fe9, fe10, fe11, Int.reduceToNat] at f2 f3 f4 f5
    have s0 : nv β 0 = nv α1 0 := nv_le H1.1 (by omega)
    have s1 : nv β 1 = nv α1 1 := nv_le H1.1 (by omega)
    have s2 : nv β 2 = nv α1 2 := nv_le H1.1 (by omega)
    obtain ⟨c0, c1, c2, c3⟩ := f2
    obtain ⟨α', Ha, hm⟩ := hd_gpM (q := kh_hLay_a42) (n := 0) (by decide +kernel) hx H1 (by decide +kernel) hxa hf
    have hfr := H1.2.2.2.2.2.2.2.2.2.2.1
    have m0 : nv α' 0 = nv β 0 := hm 0 0 rfl
    have m1 : nv α' 1 = nv β 1 := hm 1 1 rfl
    have m2 : nv α' 2 = nv β 2 := hm 2 2 rfl
    have m3 : nv α' 3 = nv β 5 := hm 3 5 rfl
    have m4 : nv α' 4 = nv β 6 := hm 4 6 rfl
    have m5 : nv α' 5 = nv β 11 := hm 5 11 rfl
    have m6 : nv α' 6 = nv β 5 := hm 6 5 rfl
    have m7 : nv α' 7 = nv β 7 := hm 7 7 rfl
    subst S'
    have o1 := old_0 c1 rfl
    refine (hP _).1 _ _ _ _ Ha ?_ (Nat.lt_succ_self _)
    · exact ⟨hpr0, by omega, by omega, by omega, Or.inl (by omega)⟩)
