/-! ===== what boilers can make, what is chosen to be sent ===== -/
/- UtilityWorksModel hLacks -/
def kh_421 : ct_T := (486, [(2, 805, 805, 0), (0, 0, 1, 1)], [], [], [(1, (0, 1, 1, 0), [(2, 805, 805, 0), (0, 0, 1, 1)], [], ([], [])), (1, (0, 0, 0, 0), [(2, 805, 805, 0), (0, 0, 1, 1)], [], ([], [])), (1, (0, 2, 4, 1), [(2, 805, 805, 0), (0, 0, 1, 1)], [], ([], []))], [], 1, 21, 0)
theorem kh_421_ok : ct_ok wd_fl1 kh_421 := ct_of (ff := wd_ff1) (y := (⟨"UtilityWorksModel", "hLacks", "(I)I"⟩, prog_14_method_161_code, 2, some .int, 12, 1, 1, 34237, 34236, 12009, 21014)) (Cs := [kh_390]) (an := []) (ss := []) (K := 1) (fuel := 4000) wd_fl1_ok rfl (List.forall_mem_cons.mpr ⟨kh_390_l, (List.forall_mem_nil _)⟩) (by decide +kernel)
abbrev kh_hMost_y : mt_T := (⟨"UtilityWorksModel", "hMost", "(I)I"⟩, prog_14_method_162_code, 3, some .int, 12, 1, 1, 34233, 34232, 12008, 21014)
def kh_hMost : ct_T := (485, [(2, 805, 805, 0), (0, 0, 1, 1)], [], [], [(1, (0, 0, 300, 1), [(2, 805, 805, 0), (0, 0, 1, 1)], [], ([], [(1017, 1, 1)]))], [], 2, 42, 0)
def kh_hMost_a87 : an_T := (87, 0, ([((2, 805, 805, 0), none), ((0, 0, 1, 1), none), ((0, 1, 300, 1), none), ((0, 0, 9990, 10), none)], [(0, 0), (1, 1), (2, 2)], [3], [], [], [], [], [], none), [])
def kh_hMost_b0_0 : sg_T := (9, 0, ([((2, 805, 805, 0), none), ((0, 0, 1, 1), none), ((0, 1, 1, 0), none), ((0, 0, 0, 0), none)], [(0, 0), (1, 1)], [3], [], [(2, 0)], [], [], [], some []))
def kh_hMost_b0_1 : sg_T := (91, 0, ([((2, 805, 805, 0), none), ((0, 0, 1, 1), none), ((0, 0, 0, 0), none), ((2, 806, 806, 1), none), ((0, 1201, 1201, 0), none), ((0, 5, 5, 0), none), ((0, 0, 5, 5), none), ((0, 1201, 1206, 5), none), ((0, 1, 1, 0), none), ((0, 1202, 1207, 5), some (7, 1)), ((0, 0, 300, 1), none), ((2, 806, 806, 1), none), ((0, 1201, 1201, 0), none), ((0, 5, 5, 0), none), ((0, 0, 5, 5), none), ((0, 1201, 1206, 5), none), ((0, 4, 4, 0), none), ((0, 1205, 1210, 5), some (15, 4)), ((0, (-2147483648), 2147483647, 1), none), ((0, 1, 1, 0), none), ((0, 2, 2, 0), none), ((0, 0, 150, 1), none), ((0, 10, 10, 0), none), ((2, 806, 806, 1), none), ((0, 1201, 1201, 0), none), ((0, 5, 5, 0), none), ((0, 0, 5, 5), none), ((0, 1201, 1206, 5), none), ((0, 2, 2, 0), none), ((0, 1203, 1208, 5), some (27, 2)), ((0, 0, 999, 1), none), ((0, 0, 9990, 10), none)], [(2, 21), (0, 0), (1, 1)], [21], [(23, 29, 30), (11, 17, 18), (3, 9, 10)], [(18, 1)], [(200000, 21, 31), (700031, 22, 30), (800030, 23, 29), (500029, 27, 28), (500027, 24, 26), (700026, 25, 1), (900021, 10, 20), (400000, 18, 19), (800018, 11, 17), (500017, 15, 16), (500015, 12, 14), (700014, 13, 1), (800010, 3, 9), (500009, 7, 8), (500007, 4, 6), (700006, 5, 1)], [], [], some []))
def kh_hMost_b0_2 : sg_T := (87, 0, ([((2, 805, 805, 0), none), ((0, 0, 1, 1), none), ((0, 0, 0, 0), none), ((2, 806, 806, 1), none), ((0, 1201, 1201, 0), none), ((0, 5, 5, 0), none), ((0, 0, 5, 5), none), ((0, 1201, 1206, 5), none), ((0, 1, 1, 0), none), ((0, 1202, 1207, 5), some (7, 1)), ((0, 0, 300, 1), none), ((2, 806, 806, 1), none), ((0, 1201, 1201, 0), none), ((0, 5, 5, 0), none), ((0, 0, 5, 5), none), ((0, 1201, 1206, 5), none), ((0, 4, 4, 0), none), ((0, 1205, 1210, 5), some (15, 4)), ((0, (-2147483648), 2147483647, 1), none), ((0, 1, 1, 0), none), ((0, 2, 2, 0), none), ((0, 1, 150, 1), none), ((0, 10, 10, 0), none), ((2, 806, 806, 1), none), ((0, 1201, 1201, 0), none), ((0, 5, 5, 0), none), ((0, 0, 5, 5), none), ((0, 1201, 1206, 5), none), ((0, 2, 2, 0), none), ((0, 1203, 1208, 5), some (27, 2)), ((0, 0, 999, 1), none), ((0, 0, 140, 10), none), ((0, 10, 10, 0), none), ((2, 806, 806, 1), none), ((0, 1201, 1201, 0), none), ((0, 5, 5, 0), none), ((0, 0, 5, 5), none), ((0, 1201, 1206, 5), none), ((0, 2, 2, 0), none), ((0, 1203, 1208, 5), some (37, 2)), ((0, 0, 999, 1), none), ((0, 0, 9990, 10), none)], [(2, 21), (0, 0), (1, 1)], [41], [(33, 39, 40), (23, 29, 30), (11, 17, 18), (3, 9, 10)], [(18, 1)], [(700041, 32, 40), (800040, 33, 39), (500039, 37, 38), (500037, 34, 36), (700036, 35, 1), (100000, 31, 21), (700031, 22, 30), (800030, 23, 29), (500029, 27, 28), (500027, 24, 26), (700026, 25, 1), (900021, 10, 20), (400000, 18, 19), (800018, 11, 17), (500017, 15, 16), (500015, 12, 14), (700014, 13, 1), (800010, 3, 9), (500009, 7, 8), (500007, 4, 6), (700006, 5, 1)], [], [], some []))
def kh_hMost_b0_3 : sg_T := (91, 0, ([((2, 805, 805, 0), none), ((0, 0, 1, 1), none), ((0, 0, 0, 0), none), ((2, 806, 806, 1), none), ((0, 1201, 1201, 0), none), ((0, 5, 5, 0), none), ((0, 0, 5, 5), none), ((0, 1201, 1206, 5), none), ((0, 1, 1, 0), none), ((0, 1202, 1207, 5), some (7, 1)), ((0, 0, 300, 1), none), ((2, 806, 806, 1), none), ((0, 1201, 1201, 0), none), ((0, 5, 5, 0), none), ((0, 0, 5, 5), none), ((0, 1201, 1206, 5), none), ((0, 4, 4, 0), none), ((0, 1205, 1210, 5), some (15, 4)), ((0, 1, 1, 1), none), ((0, 1, 1, 0), none), ((0, 1, 1, 0), none), ((0, 0, 300, 1), none), ((0, 10, 10, 0), none), ((2, 806, 806, 1), none), ((0, 1201, 1201, 0), none), ((0, 5, 5, 0), none), ((0, 0, 5, 5), none), ((0, 1201, 1206, 5), none), ((0, 2, 2, 0), none), ((0, 1203, 1208, 5), some (27, 2)), ((0, 0, 999, 1), none), ((0, 0, 9990, 10), none)], [(2, 21), (0, 0), (1, 1)], [21], [(23, 29, 30), (11, 17, 18), (3, 9, 10)], [], [(200000, 21, 31), (700031, 22, 30), (800030, 23, 29), (500029, 27, 28), (500027, 24, 26), (700026, 25, 1), (900021, 10, 20), (300000, 18, 19), (800018, 11, 17), (500017, 15, 16), (500015, 12, 14), (700014, 13, 1), (800010, 3, 9), (500009, 7, 8), (500007, 4, 6), (700006, 5, 1)], [], [], some []))
def kh_hMost_b0_4 : sg_T := (87, 0, ([((2, 805, 805, 0), none), ((0, 0, 1, 1), none), ((0, 0, 0, 0), none), ((2, 806, 806, 1), none), ((0, 1201, 1201, 0), none), ((0, 5, 5, 0), none), ((0, 0, 5, 5), none), ((0, 1201, 1206, 5), none), ((0, 1, 1, 0), none), ((0, 1202, 1207, 5), some (7, 1)), ((0, 0, 300, 1), none), ((2, 806, 806, 1), none), ((0, 1201, 1201, 0), none), ((0, 5, 5, 0), none), ((0, 0, 5, 5), none), ((0, 1201, 1206, 5), none), ((0, 4, 4, 0), none), ((0, 1205, 1210, 5), some (15, 4)), ((0, 1, 1, 1), none), ((0, 1, 1, 0), none), ((0, 1, 1, 0), none), ((0, 1, 300, 1), none), ((0, 10, 10, 0), none), ((2, 806, 806, 1), none), ((0, 1201, 1201, 0), none), ((0, 5, 5, 0), none), ((0, 0, 5, 5), none), ((0, 1201, 1206, 5), none), ((0, 2, 2, 0), none), ((0, 1203, 1208, 5), some (27, 2)), ((0, 0, 999, 1), none), ((0, 0, 290, 10), none), ((0, 10, 10, 0), none), ((2, 806, 806, 1), none), ((0, 1201, 1201, 0), none), ((0, 5, 5, 0), none), ((0, 0, 5, 5), none), ((0, 1201, 1206, 5), none), ((0, 2, 2, 0), none), ((0, 1203, 1208, 5), some (37, 2)), ((0, 0, 999, 1), none), ((0, 0, 9990, 10), none)], [(2, 21), (0, 0), (1, 1)], [41], [(33, 39, 40), (23, 29, 30), (11, 17, 18), (3, 9, 10)], [], [(700041, 32, 40), (800040, 33, 39), (500039, 37, 38), (500037, 34, 36), (700036, 35, 1), (100000, 31, 21), (700031, 22, 30), (800030, 23, 29), (500029, 27, 28), (500027, 24, 26), (700026, 25, 1), (900021, 10, 20), (300000, 18, 19), (800018, 11, 17), (500017, 15, 16), (500015, 12, 14), (700014, 13, 1), (800010, 3, 9), (500009, 7, 8), (500007, 4, 6), (700006, 5, 1)], [], [], some []))
def kh_hMost_b0_5 : sg_T := (9, 0, ([((2, 805, 805, 0), none), ((0, 0, 1, 1), none), ((0, 2, 4, 1), none), ((0, 0, 0, 0), none)], [(0, 0), (1, 1)], [3], [], [(2, 0)], [], [], [], some []))
def kh_hMost_b87_0 : sg_T := (91, 0, ([((2, 805, 805, 0), none), ((0, 0, 1, 1), none), ((0, 1, 300, 1), none), ((0, 0, 300, 1), none)], [(0, 0), (1, 1), (2, 2)], [3], [], [], [], [], [], some []))
theorem kh_hMost_ok : ct_ok wd_fl1 kh_hMost := ct_hand (ff := wd_ff1) (y := kh_hMost_y) (Cs := [kh_421]) wd_fl1_ok rfl (List.forall_mem_cons.mpr ⟨kh_421_ok, (List.forall_mem_nil _)⟩) (by decide +kernel) (fun l D tc ad kd N sm xs S p e s m args below meth c sz lv G H0 => by
  have hx : xs.length = 2 := by rw [H0.2.1.1]; rfl
  have hP : ∀ (k : Nat), (∀ (α : List av_X) (lv : List (Nat × Value)) (st : List Value) (S1 : fw_S), as_in ad sm wd_fl1 xs S kh_hMost.2.2.2.2.2.1 α kh_hMost_a87.2.2.1 lv st S1 → (0 ≤ nv α 3 ∧ nv α 3 ≤ 300 ∧ nv α 3 ≤ 10 * (S1.1 806 (1203 + 5 * nv α 1).toNat).toInt) → 0 < k → hd_W wd_fl1 kh_hMost kh_hMost_y l D tc ad kd N sm xs S p e s m args below meth c sz 87 lv st S1 0) ∧ True := by
    intro k
    induction k with
    | zero => exact ⟨fun _ _ _ _ _ _ h => absurd h (Nat.not_lt_zero _), trivial⟩
    | succ k ih =>
    refine ⟨?_, trivial⟩
    · intro α lv st S1 H hp hk
      have bp := (en_nv (i := 3) H.2.1 rfl).2
      change 0 ≤ nv α 3 ∧ nv α 3 ≤ 9990 at bp
      replace H := as_clamp (i := 3) (lo := 0) (hi := 300) H rfl rfl (by omega) (by omega) (by decide)
      obtain ⟨α1, hle, Hr⟩ := as_recM (pl := []) [] (by decide +kernel) H
      have hf := H.2.2.2.2.2.2.2.2.2.2.1
      have hl1 : α1.length = 4 := by rw [Hr.2.1.1]; rfl
      have hl0 : α.length = 4 := by rw [H.2.1.1]; rfl
      have hxa : al_le xs α1 := H.1.trans hle
      obtain ⟨g1, -, g3, g4, -⟩ := as_fx Hr
      have g0 : (805 ≤ nv α1 0 ∧ nv α1 0 ≤ 805) ∧ (0 ≤ nv α1 1 ∧ nv α1 1 ≤ 1) ∧ (1 ≤ nv α1 2 ∧ nv α1 2 ≤ 300) ∧ (0 ≤ nv α1 3 ∧ nv α1 3 ≤ 300) ∧ True := by
        refine ⟨by have h := (en_nv (i := 0) Hr.2.1 rfl).2; exact h, by have h := (en_nv (i := 1) Hr.2.1 rfl).2; exact h, by have h := (en_nv (i := 2) Hr.2.1 rfl).2; exact h, by have h := (en_nv (i := 3) Hr.2.1 rfl).2; exact h, trivial⟩
      have r0 : nv α1 0 = nv α 0 := nv_le hle (by omega)
      have r1 : nv α1 1 = nv α 1 := nv_le hle (by omega)
      have r2 : nv α1 2 = nv α 2 := nv_le hle (by omega)
      have r3 : nv α1 3 = nv α 3 := nv_le hle (by omega)
      refine hd_segM G (na := 4) (fuel := 600) (first := true) (Bs := [kh_hMost_b87_0]) (by decide +kernel) hl1 Hr ?_
      intro q hq β lv' st' S' H1
      simp only [List.mem_cons, List.not_mem_nil, or_false] at hq
      rcases hq with rfl
      · obtain ⟨f1, f2, f3, f4, f5⟩ := as_fx H1
        simp only [kh_hMost_b87_0, fx_env, fx_c, fx_ne, fx_hf, wl_S, Nat.zero_add, Nat.reduceAdd, Nat.reduceDiv, Nat.reduceMod, List.getElem?_cons_zero, List.getElem?_cons_succ, if_true, and_true, true_and] at f1 f2 f3 f4 f5
        have fe0 : nv β 0 = 805 := by omega
        try simp only [fe0, Int.reduceToNat] at f2 f3 f4 f5
        have s0 : nv β 0 = nv α1 0 := nv_le H1.1 (by omega)
        have s1 : nv β 1 = nv α1 1 := nv_le H1.1 (by omega)
        have s2 : nv β 2 = nv α1 2 := nv_le H1.1 (by omega)
        have s3 : nv β 3 = nv α1 3 := nv_le H1.1 (by omega)
        have hrg := q_rg_in (q := ((806, 806), (1203, 1208, 5), (0, 0, 999, 1))) (by decide +kernel) H0
        have eS : S1 = S := fr_same (show fr_in [] S S1 from hf)
        have z1 : nv α 1 = nv xs 1 := nv_le H.1 (by omega)
        have h3 := hp.2.2
        rw [eS, z1] at h3
        refine hd_retI G (v := 3) (by decide +kernel) (as_backM H1 (by decide +kernel) hxa hf) _ List.mem_cons_self rfl (by decide +kernel) (by decide) (fun w hw => ?_)
        rcases List.mem_singleton.mp hw with rfl
        have g0' := (en_nv (i := 1) H0.2.1 rfl).1
        refine ⟨_, _, g0', g0', ?_⟩
        rw [wd_fl1, if_neg (by decide)]
        show nv β 3 ≤ 10 * (S.1 806 (1203 + 5 * nv xs 1).toNat).toInt
        omega
  obtain ⟨α1, hle, Hr⟩ := as_recM (pl := []) [] (by decide +kernel) H0
  have hf := H0.2.2.2.2.2.2.2.2.2.2.1
  have hl1 : α1.length = 2 := by rw [Hr.2.1.1]; rfl
  have hl0 : xs.length = 2 := by rw [H0.2.1.1]; rfl
  have hxa : al_le xs α1 := H0.1.trans hle
  obtain ⟨g1, -, g3, g4, -⟩ := as_fx Hr
  have g0 : (805 ≤ nv α1 0 ∧ nv α1 0 ≤ 805) ∧ (0 ≤ nv α1 1 ∧ nv α1 1 ≤ 1) ∧ True := by
    refine ⟨by have h := (en_nv (i := 0) Hr.2.1 rfl).2; exact h, by have h := (en_nv (i := 1) Hr.2.1 rfl).2; exact h, trivial⟩
  have r0 : nv α1 0 = nv xs 0 := nv_le hle (by omega)
  have r1 : nv α1 1 = nv xs 1 := nv_le hle (by omega)
  refine hd_segM G (na := 2) (fuel := 600) (first := true) (Bs := [kh_hMost_b0_0, kh_hMost_b0_1, kh_hMost_b0_2, kh_hMost_b0_3, kh_hMost_b0_4, kh_hMost_b0_5]) (by decide +kernel) hl1 Hr ?_
  intro q hq β lv' st' S' H1
  simp only [List.mem_cons, List.not_mem_nil, or_false] at hq
  rcases hq with rfl | rfl | rfl | rfl | rfl | rfl
  · obtain ⟨f1, f2, f3, f4, f5⟩ := as_fx H1
    simp only [kh_hMost_b0_0, fx_env, fx_c, fx_ne, fx_hf, wl_S, Nat.zero_add, Nat.reduceAdd, Nat.reduceDiv, Nat.reduceMod, List.getElem?_cons_zero, List.getElem?_cons_succ, if_true, and_true, true_and] at f1 f2 f3 f4 f5
    have fe0 : nv β 0 = 805 := by omega
    have fe2 : nv β 2 = 1 := by omega
    have fe3 : nv β 3 = 0 := by omega
    try simp only [fe0, fe2, fe3, Int.reduceToNat] at f2 f3 f4 f5
    have s0 : nv β 0 = nv α1 0 := nv_le H1.1 (by omega)
    have s1 : nv β 1 = nv α1 1 := nv_le H1.1 (by omega)
    have hrg := q_rg_in (q := ((806, 806), (1203, 1208, 5), (0, 0, 999, 1))) (by decide +kernel) H0
    have hf0 : 0 ≤ (S.1 806 (1203 + 5 * nv xs 1).toNat).toInt := by
      have g1' := (en_nv (i := 1) H0.2.1 rfl).2
      change 0 ≤ nv xs 1 ∧ nv xs 1 ≤ 1 at g1'
      have e : nv xs 1 = 0 ∨ nv xs 1 = 1 := by omega
      rcases e with e | e
      · rw [e]; exact (hrg 806 1203 (Nat.le_refl _) (Nat.le_refl _) ⟨by decide, by decide, by decide⟩).2.2.1
      · rw [e]; exact (hrg 806 1208 (Nat.le_refl _) (Nat.le_refl _) ⟨by decide, by decide, by decide⟩).2.2.1
    refine hd_retI G (v := 3) (by decide +kernel) (as_backM H1 (by decide +kernel) hxa hf) _ List.mem_cons_self rfl (by decide +kernel) (by decide) (fun w hw => ?_)
    rcases List.mem_singleton.mp hw with rfl
    have g0' := (en_nv (i := 1) H0.2.1 rfl).1
    refine ⟨_, _, g0', g0', ?_⟩
    rw [wd_fl1, if_neg (by decide)]
    show nv β 3 ≤ 10 * (S.1 806 (1203 + 5 * nv xs 1).toNat).toInt
    omega
  · obtain ⟨f1, f2, f3, f4, f5⟩ := as_fx H1
    simp only [kh_hMost_b0_1, fx_env, fx_c, fx_ne, fx_hf, wl_S, Nat.zero_add, Nat.reduceAdd, Nat.reduceDiv, Nat.reduceMod, List.getElem?_cons_zero, List.getElem?_cons_succ, if_true, and_true, true_and] at f1 f2 f3 f4 f5
    have fe0 : nv β 0 = 805 := by omega
    have fe2 : nv β 2 = 0 := by omega
    have fe3 : nv β 3 = 806 := by omega
    have fe4 : nv β 4 = 1201 := by omega
    have fe5 : nv β 5 = 5 := by omega
    have fe8 : nv β 8 = 1 := by omega
    have fe11 : nv β 11 = 806 := by omega
    have fe12 : nv β 12 = 1201 := by omega
    have fe13 : nv β 13 = 5 := by omega
    have fe16 : nv β 16 = 4 := by omega
    have fe19 : nv β 19 = 1 := by omega
    have fe20 : nv β 20 = 2 := by omega
    have fe22 : nv β 22 = 10 := by omega
    have fe23 : nv β 23 = 806 := by omega
    have fe24 : nv β 24 = 1201 := by omega
    have fe25 : nv β 25 = 5 := by omega
    have fe28 : nv β 28 = 2 := by omega
    try simp only [fe0, fe2, fe3, fe4, fe5, fe8, fe11, fe12, fe13, fe16, fe19, fe20, fe22, fe23, fe24, fe25, fe28, Int.reduceToNat] at f2 f3 f4 f5
    have s0 : nv β 0 = nv α1 0 := nv_le H1.1 (by omega)
    have s1 : nv β 1 = nv α1 1 := nv_le H1.1 (by omega)
    obtain ⟨c0, c1, c2, c3, c4, c5, c6, c7, c8, c9, c10, c11, c12, c13, c14, c15⟩ := f2
    have hrg := q_rg_in (q := ((806, 806), (1203, 1208, 5), (0, 0, 999, 1))) (by decide +kernel) H0
    have o2 := old_0 c2 rfl
    have o8 := old_0 c8 rfl
    have o12 := old_0 c12 rfl
    have w1 : nv β 29 = 1203 + 5 * nv xs 1 := by omega
    rw [w1] at o2
    refine hd_retI G (v := 21) (by decide +kernel) (as_backM H1 (by decide +kernel) hxa hf) _ List.mem_cons_self rfl (by decide +kernel) (by decide) (fun w hw => ?_)
    rcases List.mem_singleton.mp hw with rfl
    have g0' := (en_nv (i := 1) H0.2.1 rfl).1
    refine ⟨_, _, g0', g0', ?_⟩
    rw [wd_fl1, if_neg (by decide)]
    show nv β 21 ≤ 10 * (S.1 806 (1203 + 5 * nv xs 1).toNat).toInt
    omega
  · obtain ⟨f1, f2, f3, f4, f5⟩ := as_fx H1
    simp only [kh_hMost_b0_2, fx_env, fx_c, fx_ne, fx_hf, wl_S, Nat.zero_add, Nat.reduceAdd, Nat.reduceDiv, Nat.reduceMod, List.getElem?_cons_zero, List.getElem?_cons_succ, if_true, and_true, true_and] at f1 f2 f3 f4 f5
    have fe0 : nv β 0 = 805 := by omega
    have fe2 : nv β 2 = 0 := by omega
    have fe3 : nv β 3 = 806 := by omega
    have fe4 : nv β 4 = 1201 := by omega
    have fe5 : nv β 5 = 5 := by omega
    have fe8 : nv β 8 = 1 := by omega
    have fe11 : nv β 11 = 806 := by omega
    have fe12 : nv β 12 = 1201 := by omega
    have fe13 : nv β 13 = 5 := by omega
    have fe16 : nv β 16 = 4 := by omega
    have fe19 : nv β 19 = 1 := by omega
    have fe20 : nv β 20 = 2 := by omega
    have fe22 : nv β 22 = 10 := by omega
    have fe23 : nv β 23 = 806 := by omega
    have fe24 : nv β 24 = 1201 := by omega
    have fe25 : nv β 25 = 5 := by omega
    have fe28 : nv β 28 = 2 := by omega
    have fe32 : nv β 32 = 10 := by omega
    have fe33 : nv β 33 = 806 := by omega
    have fe34 : nv β 34 = 1201 := by omega
    have fe35 : nv β 35 = 5 := by omega
    have fe38 : nv β 38 = 2 := by omega
    try simp only [fe0, fe2, fe3, fe4, fe5, fe8, fe11, fe12, fe13, fe16, fe19, fe20, fe22, fe23, fe24, fe25, fe28, fe32, fe33, fe34, fe35, fe38, Int.reduceToNat] at f2 f3 f4 f5
    have s0 : nv β 0 = nv α1 0 := nv_le H1.1 (by omega)
    have s1 : nv β 1 = nv α1 1 := nv_le H1.1 (by omega)
    obtain ⟨c0, c1, c2, c3, c4, c5, c6, c7, c8, c9, c10, c11, c12, c13, c14, c15, c16, c17, c18, c19, c20⟩ := f2
    obtain ⟨α', Ha, hm⟩ := hd_gpM (q := kh_hMost_a87) (n := 0) (by decide +kernel) hx H1 (by decide +kernel) hxa hf
    have hfr := H1.2.2.2.2.2.2.2.2.2.2.1
    have m0 : nv α' 0 = nv β 0 := hm 0 0 rfl
    have m1 : nv α' 1 = nv β 1 := hm 1 1 rfl
    have m2 : nv α' 2 = nv β 21 := hm 2 21 rfl
    have m3 : nv α' 3 = nv β 41 := hm 3 41 rfl
    subst S'
    have o1 := old_0 c1 rfl
    have o7 := old_0 c7 rfl
    have o13 := old_0 c13 rfl
    have o17 := old_0 c17 rfl
    have w1 : nv β 39 = 1203 + 5 * nv β 1 := by omega
    have w2 : nv β 29 = 1203 + 5 * nv β 1 := by omega
    rw [w1] at o1
    rw [w2] at o7
    refine (hP _).1 _ _ _ _ Ha ?_ (Nat.lt_succ_self _)
    · rw [m1, m3]
      exact ⟨by omega, by omega, by omega⟩
  · obtain ⟨f1, f2, f3, f4, f5⟩ := as_fx H1
    simp only [kh_hMost_b0_3, fx_env, fx_c, fx_ne, fx_hf, wl_S, Nat.zero_add, Nat.reduceAdd, Nat.reduceDiv, Nat.reduceMod, List.getElem?_cons_zero, List.getElem?_cons_succ, if_true, and_true, true_and] at f1 f2 f3 f4 f5
    have fe0 : nv β 0 = 805 := by omega
    have fe2 : nv β 2 = 0 := by omega
    have fe3 : nv β 3 = 806 := by omega
    have fe4 : nv β 4 = 1201 := by omega
    have fe5 : nv β 5 = 5 := by omega
    have fe8 : nv β 8 = 1 := by omega
    have fe11 : nv β 11 = 806 := by omega
    have fe12 : nv β 12 = 1201 := by omega
    have fe13 : nv β 13 = 5 := by omega
    have fe16 : nv β 16 = 4 := by omega
    have fe18 : nv β 18 = 1 := by omega
    have fe19 : nv β 19 = 1 := by omega
    have fe20 : nv β 20 = 1 := by omega
    have fe22 : nv β 22 = 10 := by omega
    have fe23 : nv β 23 = 806 := by omega
    have fe24 : nv β 24 = 1201 := by omega
    have fe25 : nv β 25 = 5 := by omega
    have fe28 : nv β 28 = 2 := by omega
    try simp only [fe0, fe2, fe3, fe4, fe5, fe8, fe11, fe12, fe13, fe16, fe18, fe19, fe20, fe22, fe23, fe24, fe25, fe28, Int.reduceToNat] at f2 f3 f4 f5
    have s0 : nv β 0 = nv α1 0 := nv_le H1.1 (by omega)
    have s1 : nv β 1 = nv α1 1 := nv_le H1.1 (by omega)
    obtain ⟨c0, c1, c2, c3, c4, c5, c6, c7, c8, c9, c10, c11, c12, c13, c14, c15⟩ := f2
    have hrg := q_rg_in (q := ((806, 806), (1203, 1208, 5), (0, 0, 999, 1))) (by decide +kernel) H0
    have o2 := old_0 c2 rfl
    have o8 := old_0 c8 rfl
    have o12 := old_0 c12 rfl
    have w1 : nv β 29 = 1203 + 5 * nv xs 1 := by omega
    rw [w1] at o2
    refine hd_retI G (v := 21) (by decide +kernel) (as_backM H1 (by decide +kernel) hxa hf) _ List.mem_cons_self rfl (by decide +kernel) (by decide) (fun w hw => ?_)
    rcases List.mem_singleton.mp hw with rfl
    have g0' := (en_nv (i := 1) H0.2.1 rfl).1
    refine ⟨_, _, g0', g0', ?_⟩
    rw [wd_fl1, if_neg (by decide)]
    show nv β 21 ≤ 10 * (S.1 806 (1203 + 5 * nv xs 1).toNat).toInt
    omega
  · obtain ⟨f1, f2, f3, f4, f5⟩ := as_fx H1
    simp only [kh_hMost_b0_4, fx_env, fx_c, fx_ne, fx_hf, wl_S, Nat.zero_add, Nat.reduceAdd, Nat.reduceDiv, Nat.reduceMod, List.getElem?_cons_zero, List.getElem?_cons_succ, if_true, and_true, true_and] at f1 f2 f3 f4 f5
    have fe0 : nv β 0 = 805 := by omega
    have fe2 : nv β 2 = 0 := by omega
    have fe3 : nv β 3 = 806 := by omega
    have fe4 : nv β 4 = 1201 := by omega
    have fe5 : nv β 5 = 5 := by omega
    have fe8 : nv β 8 = 1 := by omega
    have fe11 : nv β 11 = 806 := by omega
    have fe12 : nv β 12 = 1201 := by omega
    have fe13 : nv β 13 = 5 := by omega
    have fe16 : nv β 16 = 4 := by omega
    have fe18 : nv β 18 = 1 := by omega
    have fe19 : nv β 19 = 1 := by omega
    have fe20 : nv β 20 = 1 := by omega
    have fe22 : nv β 22 = 10 := by omega
    have fe23 : nv β 23 = 806 := by omega
    have fe24 : nv β 24 = 1201 := by omega
    have fe25 : nv β 25 = 5 := by omega
    have fe28 : nv β 28 = 2 := by omega
    have fe32 : nv β 32 = 10 := by omega
    have fe33 : nv β 33 = 806 := by omega
    have fe34 : nv β 34 = 1201 := by omega
    have fe35 : nv β 35 = 5 := by omega
    have fe38 : nv β 38 = 2 := by omega
    try simp only [fe0, fe2, fe3, fe4, fe5, fe8, fe11, fe12, fe13, fe16, fe18, fe19, fe20, fe22, fe23, fe24, fe25, fe28, fe32, fe33, fe34, fe35, fe38, Int.reduceToNat] at f2 f3 f4 f5
    have s0 : nv β 0 = nv α1 0 := nv_le H1.1 (by omega)
    have s1 : nv β 1 = nv α1 1 := nv_le H1.1 (by omega)
    obtain ⟨c0, c1, c2, c3, c4, c5, c6, c7, c8, c9, c10, c11, c12, c13, c14, c15, c16, c17, c18, c19, c20⟩ := f2
    obtain ⟨α', Ha, hm⟩ := hd_gpM (q := kh_hMost_a87) (n := 0) (by decide +kernel) hx H1 (by decide +kernel) hxa hf
    have hfr := H1.2.2.2.2.2.2.2.2.2.2.1
    have m0 : nv α' 0 = nv β 0 := hm 0 0 rfl
    have m1 : nv α' 1 = nv β 1 := hm 1 1 rfl
    have m2 : nv α' 2 = nv β 21 := hm 2 21 rfl
    have m3 : nv α' 3 = nv β 41 := hm 3 41 rfl
    subst S'
    have o1 := old_0 c1 rfl
    have o7 := old_0 c7 rfl
    have o13 := old_0 c13 rfl
    have o17 := old_0 c17 rfl
    have w1 : nv β 39 = 1203 + 5 * nv β 1 := by omega
    have w2 : nv β 29 = 1203 + 5 * nv β 1 := by omega
    rw [w1] at o1
    rw [w2] at o7
    refine (hP _).1 _ _ _ _ Ha ?_ (Nat.lt_succ_self _)
    · rw [m1, m3]
      exact ⟨by omega, by omega, by omega⟩
  · obtain ⟨f1, f2, f3, f4, f5⟩ := as_fx H1
    simp only [kh_hMost_b0_5, fx_env, fx_c, fx_ne, fx_hf, wl_S, Nat.zero_add, Nat.reduceAdd, Nat.reduceDiv, Nat.reduceMod, List.getElem?_cons_zero, List.getElem?_cons_succ, if_true, and_true, true_and] at f1 f2 f3 f4 f5
    have fe0 : nv β 0 = 805 := by omega
    have fe3 : nv β 3 = 0 := by omega
    try simp only [fe0, fe3, Int.reduceToNat] at f2 f3 f4 f5
    have s0 : nv β 0 = nv α1 0 := nv_le H1.1 (by omega)
    have s1 : nv β 1 = nv α1 1 := nv_le H1.1 (by omega)
    have hrg := q_rg_in (q := ((806, 806), (1203, 1208, 5), (0, 0, 999, 1))) (by decide +kernel) H0
    have hf0 : 0 ≤ (S.1 806 (1203 + 5 * nv xs 1).toNat).toInt := by
      have g1' := (en_nv (i := 1) H0.2.1 rfl).2
      change 0 ≤ nv xs 1 ∧ nv xs 1 ≤ 1 at g1'
      have e : nv xs 1 = 0 ∨ nv xs 1 = 1 := by omega
      rcases e with e | e
      · rw [e]; exact (hrg 806 1203 (Nat.le_refl _) (Nat.le_refl _) ⟨by decide, by decide, by decide⟩).2.2.1
      · rw [e]; exact (hrg 806 1208 (Nat.le_refl _) (Nat.le_refl _) ⟨by decide, by decide, by decide⟩).2.2.1
    refine hd_retI G (v := 3) (by decide +kernel) (as_backM H1 (by decide +kernel) hxa hf) _ List.mem_cons_self rfl (by decide +kernel) (by decide) (fun w hw => ?_)
    rcases List.mem_singleton.mp hw with rfl
    have g0' := (en_nv (i := 1) H0.2.1 rfl).1
    refine ⟨_, _, g0', g0', ?_⟩
    rw [wd_fl1, if_neg (by decide)]
    show nv β 3 ≤ 10 * (S.1 806 (1203 + 5 * nv xs 1).toNat).toInt
    omega)
/- UtilityWorksModel boundOf -/
def kh_422 : ct_T := (367, [(2, 805, 805, 0), (0, 2, 2, 0), (0, 0, 16, 1)], [], [], [(1, (0, 0, 999, 1), [(2, 805, 805, 0), (0, 2, 2, 0), (0, 0, 16, 1)], [], ([], []))], [], 1, 22, 0)
theorem kh_422_ok : ct_ok wd_fl1 kh_422 := ct_of (ff := wd_ff1) (y := (⟨"UtilityWorksModel", "boundOf", "(II)I"⟩, prog_14_method_18_code, 3, some .int, 12, 1, 2, 33005, 33004, 5011, 21014)) (Cs := [kh_link]) (an := []) (ss := []) (K := 1) (fuel := 4000) wd_fl1_ok rfl (List.forall_mem_cons.mpr ⟨kh_link_ok, (List.forall_mem_nil _)⟩) (by decide +kernel)
/- UtilityWorksModel hRoom -/
def kh_423 : ct_T := (493, [(2, 805, 805, 0), (0, 0, 16, 1)], [], [], [(1, (0, (-2147483648), 2147483647, 1), [(2, 805, 805, 0), (0, 0, 16, 1)], [], ([], []))], [], 2, 44, 0)
theorem kh_423_ok : ct_ok wd_fl1 kh_423 := ct_of (ff := wd_ff1) (y := (⟨"UtilityWorksModel", "hRoom", "(I)I"⟩, prog_14_method_164_code, 2, some .int, 12, 1, 1, 35025, 35024, 13000, 21014)) (Cs := [kh_422]) (an := []) (ss := []) (K := 1) (fuel := 4000) wd_fl1_ok rfl (List.forall_mem_cons.mpr ⟨kh_422_ok, (List.forall_mem_nil _)⟩) (by decide +kernel)
/- UtilityWorksModel temperature -/
def kh_424 : ct_T := (480, [(2, 805, 805, 0)], [], [], [(1, (0, (-30), 40, 1), [(2, 805, 805, 0)], [], ([], []))], [], 0, 0, 0)
theorem kh_424_ok : ct_ok wd_fl1 kh_424 := ct_of (ff := wd_ff1) (y := (⟨"UtilityWorksModel", "temperature", "()I"⟩, prog_14_method_313_code, 1, some .int, 12, 1, 0, 34213, 34212, 12003, 21014)) (Cs := []) (an := []) (ss := []) (K := 1) (fuel := 4000) wd_fl1_ok rfl (List.forall_mem_nil _) (by decide +kernel)
/- UtilityWorksModel hLoss -/
def kh_425 : ct_T := (494, [(2, 805, 805, 0), (0, (-2147483648), 2147483647, 1)], [], [], [(1, (0, (-2147483648), 2147483647, 1), [(2, 805, 805, 0), (0, (-2147483648), 2147483647, 1)], [], ([], []))], [], 1, 20, 0)
theorem kh_425_ok : ct_ok wd_fl1 kh_425 := ct_of (ff := wd_ff1) (y := (⟨"UtilityWorksModel", "hLoss", "(I)I"⟩, prog_14_method_163_code, 3, some .int, 12, 1, 1, 35029, 35028, 13001, 21014)) (Cs := [kh_424]) (an := []) (ss := []) (K := 1) (fuel := 4000) wd_fl1_ok rfl (List.forall_mem_cons.mpr ⟨kh_424_ok, (List.forall_mem_nil _)⟩) (by decide +kernel)
/- UtilityWorksModel hOut -/
def kh_426 : ct_T := (492, [(2, 805, 805, 0), (0, 0, 23, 1), (0, 1, 1, 0)], [], [], [(1, (0, (-1), (-1), 0), [(2, 805, 805, 0), (0, 0, 23, 1), (0, 1, 1, 0)], [], ([], [])), (1, (0, (-2147483648), 2147483647, 1), [(2, 805, 805, 0), (0, 0, 23, 1), (0, 1, 1, 0)], [], ([], []))], [], 3, 65, 0)
theorem kh_426_ok : ct_ok wd_fl1 kh_426 := ct_of (ff := wd_ff1) (y := (⟨"UtilityWorksModel", "hOut", "(II)I"⟩, prog_14_method_168_code, 6, some .int, 12, 1, 2, 35021, 35020, 12015, 21014)) (Cs := [kh_423, kh_425]) (an := [(8, 0, ([((2, 805, 805, 0), none), ((0, 0, 23, 1), none), ((0, 1, 1, 0), none), ((0, (-2147483648), 2147483647, 1), none), ((0, 0, 1, 1), none), ((0, 0, 11, 1), none)], [(0, 0), (1, 1), (2, 2), (3, 3), (4, 4), (5, 5)], [], [], [], [], [], [], none), [(0, 0, 99992), (1, 5, 11), (0, 0, 99992)]), (50, 0, ([((2, 805, 805, 0), none), ((0, 0, 23, 1), none), ((0, 1, 1, 0), none), ((0, (-2147483648), 2147483647, 1), none), ((0, 0, 1, 1), none), ((0, 0, 10, 1), none)], [(0, 0), (1, 1), (2, 2), (3, 3), (4, 4), (5, 5)], [], [], [], [], [], [], none), [(0, 0, 99992), (1, 5, 11), (0, 0, 99950)])]) (ss := []) (K := 3) (fuel := 4000) wd_fl1_ok rfl (List.forall_mem_cons.mpr ⟨kh_423_ok, (List.forall_mem_cons.mpr ⟨kh_425_ok, (List.forall_mem_nil _)⟩)⟩) (by decide +kernel)
/- UtilityWorksModel hOut -/
def kh_427 : ct_T := (492, [(2, 805, 805, 0), (0, 0, 23, 1), (0, 1, 1, 1)], [], [], [(1, (0, (-1), (-1), 0), [(2, 805, 805, 0), (0, 0, 23, 1), (0, 1, 1, 1)], [], ([], [])), (1, (0, (-2147483648), 2147483647, 1), [(2, 805, 805, 0), (0, 0, 23, 1), (0, 1, 1, 1)], [], ([], []))], [], 3, 65, 0)
theorem kh_427_ok : ct_ok wd_fl1 kh_427 := ct_of (ff := wd_ff1) (y := (⟨"UtilityWorksModel", "hOut", "(II)I"⟩, prog_14_method_168_code, 6, some .int, 12, 1, 2, 35021, 35020, 12015, 21014)) (Cs := [kh_423, kh_425]) (an := [(8, 0, ([((2, 805, 805, 0), none), ((0, 0, 23, 1), none), ((0, 1, 1, 1), none), ((0, (-2147483648), 2147483647, 1), none), ((0, 0, 1, 1), none), ((0, 0, 11, 1), none)], [(0, 0), (1, 1), (2, 2), (3, 3), (4, 4), (5, 5)], [], [], [], [], [], [], none), [(0, 0, 99992), (1, 5, 11), (0, 0, 99992)]), (50, 0, ([((2, 805, 805, 0), none), ((0, 0, 23, 1), none), ((0, 1, 1, 1), none), ((0, (-2147483648), 2147483647, 1), none), ((0, 0, 1, 1), none), ((0, 0, 10, 1), none)], [(0, 0), (1, 1), (2, 2), (3, 3), (4, 4), (5, 5)], [], [], [], [], [], [], none), [(0, 0, 99992), (1, 5, 11), (0, 0, 99950)])]) (ss := []) (K := 3) (fuel := 4000) wd_fl1_ok rfl (List.forall_mem_cons.mpr ⟨kh_423_ok, (List.forall_mem_cons.mpr ⟨kh_425_ok, (List.forall_mem_nil _)⟩)⟩) (by decide +kernel)
/- UtilityWorksModel hOut -/
def kh_428 : ct_T := (492, [(2, 805, 805, 0), (0, 0, 23, 1), (0, 1, 2, 1)], [], [], [(1, (0, (-1), (-1), 0), [(2, 805, 805, 0), (0, 0, 23, 1), (0, 1, 2, 1)], [], ([], [])), (1, (0, (-2147483648), 2147483647, 1), [(2, 805, 805, 0), (0, 0, 23, 1), (0, 1, 2, 1)], [], ([], []))], [], 3, 65, 0)
theorem kh_428_ok : ct_ok wd_fl1 kh_428 := ct_of (ff := wd_ff1) (y := (⟨"UtilityWorksModel", "hOut", "(II)I"⟩, prog_14_method_168_code, 6, some .int, 12, 1, 2, 35021, 35020, 12015, 21014)) (Cs := [kh_423, kh_425]) (an := [(8, 0, ([((2, 805, 805, 0), none), ((0, 0, 23, 1), none), ((0, 1, 2, 1), none), ((0, (-2147483648), 2147483647, 1), none), ((0, 0, 1, 1), none), ((0, 0, 11, 1), none)], [(0, 0), (1, 1), (2, 2), (3, 3), (4, 4), (5, 5)], [], [], [], [], [], [], none), [(0, 0, 99992), (1, 5, 11), (0, 0, 99992)]), (50, 0, ([((2, 805, 805, 0), none), ((0, 0, 23, 1), none), ((0, 1, 2, 1), none), ((0, (-2147483648), 2147483647, 1), none), ((0, 0, 1, 1), none), ((0, 0, 10, 1), none)], [(0, 0), (1, 1), (2, 2), (3, 3), (4, 4), (5, 5)], [], [], [], [], [], [], none), [(0, 0, 99992), (1, 5, 11), (0, 0, 99950)])]) (ss := []) (K := 3) (fuel := 4000) wd_fl1_ok rfl (List.forall_mem_cons.mpr ⟨kh_423_ok, (List.forall_mem_cons.mpr ⟨kh_425_ok, (List.forall_mem_nil _)⟩)⟩) (by decide +kernel)
/- UtilityWorksModel hOut -/
def kh_429 : ct_T := (492, [(2, 805, 805, 0), (0, 0, 23, 1), (0, 1, 3, 1)], [], [], [(1, (0, (-1), (-1), 0), [(2, 805, 805, 0), (0, 0, 23, 1), (0, 1, 3, 1)], [], ([], [])), (1, (0, (-2147483648), 2147483647, 1), [(2, 805, 805, 0), (0, 0, 23, 1), (0, 1, 3, 1)], [], ([], []))], [], 3, 65, 0)
theorem kh_429_ok : ct_ok wd_fl1 kh_429 := ct_of (ff := wd_ff1) (y := (⟨"UtilityWorksModel", "hOut", "(II)I"⟩, prog_14_method_168_code, 6, some .int, 12, 1, 2, 35021, 35020, 12015, 21014)) (Cs := [kh_423, kh_425]) (an := [(8, 0, ([((2, 805, 805, 0), none), ((0, 0, 23, 1), none), ((0, 1, 3, 1), none), ((0, (-2147483648), 2147483647, 1), none), ((0, 0, 1, 1), none), ((0, 0, 11, 1), none)], [(0, 0), (1, 1), (2, 2), (3, 3), (4, 4), (5, 5)], [], [], [], [], [], [], none), [(0, 0, 99992), (1, 5, 11), (0, 0, 99992)]), (50, 0, ([((2, 805, 805, 0), none), ((0, 0, 23, 1), none), ((0, 1, 3, 1), none), ((0, (-2147483648), 2147483647, 1), none), ((0, 0, 1, 1), none), ((0, 0, 10, 1), none)], [(0, 0), (1, 1), (2, 2), (3, 3), (4, 4), (5, 5)], [], [], [], [], [], [], none), [(0, 0, 99992), (1, 5, 11), (0, 0, 99950)])]) (ss := []) (K := 3) (fuel := 4000) wd_fl1_ok rfl (List.forall_mem_cons.mpr ⟨kh_423_ok, (List.forall_mem_cons.mpr ⟨kh_425_ok, (List.forall_mem_nil _)⟩)⟩) (by decide +kernel)
/- UtilityWorksModel hOut -/
def kh_430 : ct_T := (492, [(2, 805, 805, 0), (0, 0, 23, 1), (0, 1, 4, 1)], [], [], [(1, (0, (-1), (-1), 0), [(2, 805, 805, 0), (0, 0, 23, 1), (0, 1, 4, 1)], [], ([], [])), (1, (0, (-2147483648), 2147483647, 1), [(2, 805, 805, 0), (0, 0, 23, 1), (0, 1, 4, 1)], [], ([], []))], [], 3, 65, 0)
theorem kh_430_ok : ct_ok wd_fl1 kh_430 := ct_of (ff := wd_ff1) (y := (⟨"UtilityWorksModel", "hOut", "(II)I"⟩, prog_14_method_168_code, 6, some .int, 12, 1, 2, 35021, 35020, 12015, 21014)) (Cs := [kh_423, kh_425]) (an := [(8, 0, ([((2, 805, 805, 0), none), ((0, 0, 23, 1), none), ((0, 1, 4, 1), none), ((0, (-2147483648), 2147483647, 1), none), ((0, 0, 1, 1), none), ((0, 0, 11, 1), none)], [(0, 0), (1, 1), (2, 2), (3, 3), (4, 4), (5, 5)], [], [], [], [], [], [], none), [(0, 0, 99992), (1, 5, 11), (0, 0, 99992)]), (50, 0, ([((2, 805, 805, 0), none), ((0, 0, 23, 1), none), ((0, 1, 4, 1), none), ((0, (-2147483648), 2147483647, 1), none), ((0, 0, 1, 1), none), ((0, 0, 10, 1), none)], [(0, 0), (1, 1), (2, 2), (3, 3), (4, 4), (5, 5)], [], [], [], [], [], [], none), [(0, 0, 99992), (1, 5, 11), (0, 0, 99950)])]) (ss := []) (K := 3) (fuel := 4000) wd_fl1_ok rfl (List.forall_mem_cons.mpr ⟨kh_423_ok, (List.forall_mem_cons.mpr ⟨kh_425_ok, (List.forall_mem_nil _)⟩)⟩) (by decide +kernel)
/- UtilityWorksModel hOut -/
def kh_431 : ct_T := (492, [(2, 805, 805, 0), (0, 0, 23, 1), (0, 1, 5, 1)], [], [], [(1, (0, (-1), (-1), 0), [(2, 805, 805, 0), (0, 0, 23, 1), (0, 1, 5, 1)], [], ([], [])), (1, (0, (-2147483648), 2147483647, 1), [(2, 805, 805, 0), (0, 0, 23, 1), (0, 1, 5, 1)], [], ([], []))], [], 3, 65, 0)
theorem kh_431_ok : ct_ok wd_fl1 kh_431 := ct_of (ff := wd_ff1) (y := (⟨"UtilityWorksModel", "hOut", "(II)I"⟩, prog_14_method_168_code, 6, some .int, 12, 1, 2, 35021, 35020, 12015, 21014)) (Cs := [kh_423, kh_425]) (an := [(8, 0, ([((2, 805, 805, 0), none), ((0, 0, 23, 1), none), ((0, 1, 5, 1), none), ((0, (-2147483648), 2147483647, 1), none), ((0, 0, 1, 1), none), ((0, 0, 11, 1), none)], [(0, 0), (1, 1), (2, 2), (3, 3), (4, 4), (5, 5)], [], [], [], [], [], [], none), [(0, 0, 99992), (1, 5, 11), (0, 0, 99992)]), (50, 0, ([((2, 805, 805, 0), none), ((0, 0, 23, 1), none), ((0, 1, 5, 1), none), ((0, (-2147483648), 2147483647, 1), none), ((0, 0, 1, 1), none), ((0, 0, 10, 1), none)], [(0, 0), (1, 1), (2, 2), (3, 3), (4, 4), (5, 5)], [], [], [], [], [], [], none), [(0, 0, 99992), (1, 5, 11), (0, 0, 99950)])]) (ss := []) (K := 3) (fuel := 4000) wd_fl1_ok rfl (List.forall_mem_cons.mpr ⟨kh_423_ok, (List.forall_mem_cons.mpr ⟨kh_425_ok, (List.forall_mem_nil _)⟩)⟩) (by decide +kernel)
/- UtilityWorksModel hOut -/
def kh_432 : ct_T := (492, [(2, 805, 805, 0), (0, 0, 23, 1), (0, 1, 6, 1)], [], [], [(1, (0, (-1), (-1), 0), [(2, 805, 805, 0), (0, 0, 23, 1), (0, 1, 6, 1)], [], ([], [])), (1, (0, (-2147483648), 2147483647, 1), [(2, 805, 805, 0), (0, 0, 23, 1), (0, 1, 6, 1)], [], ([], []))], [], 3, 65, 0)
theorem kh_432_ok : ct_ok wd_fl1 kh_432 := ct_of (ff := wd_ff1) (y := (⟨"UtilityWorksModel", "hOut", "(II)I"⟩, prog_14_method_168_code, 6, some .int, 12, 1, 2, 35021, 35020, 12015, 21014)) (Cs := [kh_423, kh_425]) (an := [(8, 0, ([((2, 805, 805, 0), none), ((0, 0, 23, 1), none), ((0, 1, 6, 1), none), ((0, (-2147483648), 2147483647, 1), none), ((0, 0, 1, 1), none), ((0, 0, 11, 1), none)], [(0, 0), (1, 1), (2, 2), (3, 3), (4, 4), (5, 5)], [], [], [], [], [], [], none), [(0, 0, 99992), (1, 5, 11), (0, 0, 99992)]), (50, 0, ([((2, 805, 805, 0), none), ((0, 0, 23, 1), none), ((0, 1, 6, 1), none), ((0, (-2147483648), 2147483647, 1), none), ((0, 0, 1, 1), none), ((0, 0, 10, 1), none)], [(0, 0), (1, 1), (2, 2), (3, 3), (4, 4), (5, 5)], [], [], [], [], [], [], none), [(0, 0, 99992), (1, 5, 11), (0, 0, 99950)])]) (ss := []) (K := 3) (fuel := 4000) wd_fl1_ok rfl (List.forall_mem_cons.mpr ⟨kh_423_ok, (List.forall_mem_cons.mpr ⟨kh_425_ok, (List.forall_mem_nil _)⟩)⟩) (by decide +kernel)
/- UtilityWorksModel hOut -/
def kh_433 : ct_T := (492, [(2, 805, 805, 0), (0, 0, 23, 1), (0, 1, 7, 1)], [], [], [(1, (0, (-1), (-1), 0), [(2, 805, 805, 0), (0, 0, 23, 1), (0, 1, 7, 1)], [], ([], [])), (1, (0, (-2147483648), 2147483647, 1), [(2, 805, 805, 0), (0, 0, 23, 1), (0, 1, 7, 1)], [], ([], []))], [], 3, 65, 0)
theorem kh_433_ok : ct_ok wd_fl1 kh_433 := ct_of (ff := wd_ff1) (y := (⟨"UtilityWorksModel", "hOut", "(II)I"⟩, prog_14_method_168_code, 6, some .int, 12, 1, 2, 35021, 35020, 12015, 21014)) (Cs := [kh_423, kh_425]) (an := [(8, 0, ([((2, 805, 805, 0), none), ((0, 0, 23, 1), none), ((0, 1, 7, 1), none), ((0, (-2147483648), 2147483647, 1), none), ((0, 0, 1, 1), none), ((0, 0, 11, 1), none)], [(0, 0), (1, 1), (2, 2), (3, 3), (4, 4), (5, 5)], [], [], [], [], [], [], none), [(0, 0, 99992), (1, 5, 11), (0, 0, 99992)]), (50, 0, ([((2, 805, 805, 0), none), ((0, 0, 23, 1), none), ((0, 1, 7, 1), none), ((0, (-2147483648), 2147483647, 1), none), ((0, 0, 1, 1), none), ((0, 0, 10, 1), none)], [(0, 0), (1, 1), (2, 2), (3, 3), (4, 4), (5, 5)], [], [], [], [], [], [], none), [(0, 0, 99992), (1, 5, 11), (0, 0, 99950)])]) (ss := []) (K := 3) (fuel := 4000) wd_fl1_ok rfl (List.forall_mem_cons.mpr ⟨kh_423_ok, (List.forall_mem_cons.mpr ⟨kh_425_ok, (List.forall_mem_nil _)⟩)⟩) (by decide +kernel)
/- UtilityWorksModel hOut -/
def kh_434 : ct_T := (492, [(2, 805, 805, 0), (0, 0, 23, 1), (0, 1, 8, 1)], [], [], [(1, (0, (-1), (-1), 0), [(2, 805, 805, 0), (0, 0, 23, 1), (0, 1, 8, 1)], [], ([], [])), (1, (0, (-2147483648), 2147483647, 1), [(2, 805, 805, 0), (0, 0, 23, 1), (0, 1, 8, 1)], [], ([], []))], [], 3, 65, 0)
theorem kh_434_ok : ct_ok wd_fl1 kh_434 := ct_of (ff := wd_ff1) (y := (⟨"UtilityWorksModel", "hOut", "(II)I"⟩, prog_14_method_168_code, 6, some .int, 12, 1, 2, 35021, 35020, 12015, 21014)) (Cs := [kh_423, kh_425]) (an := [(8, 0, ([((2, 805, 805, 0), none), ((0, 0, 23, 1), none), ((0, 1, 8, 1), none), ((0, (-2147483648), 2147483647, 1), none), ((0, 0, 1, 1), none), ((0, 0, 11, 1), none)], [(0, 0), (1, 1), (2, 2), (3, 3), (4, 4), (5, 5)], [], [], [], [], [], [], none), [(0, 0, 99992), (1, 5, 11), (0, 0, 99992)]), (50, 0, ([((2, 805, 805, 0), none), ((0, 0, 23, 1), none), ((0, 1, 8, 1), none), ((0, (-2147483648), 2147483647, 1), none), ((0, 0, 1, 1), none), ((0, 0, 10, 1), none)], [(0, 0), (1, 1), (2, 2), (3, 3), (4, 4), (5, 5)], [], [], [], [], [], [], none), [(0, 0, 99992), (1, 5, 11), (0, 0, 99950)])]) (ss := []) (K := 3) (fuel := 4000) wd_fl1_ok rfl (List.forall_mem_cons.mpr ⟨kh_423_ok, (List.forall_mem_cons.mpr ⟨kh_425_ok, (List.forall_mem_nil _)⟩)⟩) (by decide +kernel)
/- UtilityWorksModel hOut -/
def kh_435 : ct_T := (492, [(2, 805, 805, 0), (0, 0, 23, 1), (0, 1, 9, 1)], [], [], [(1, (0, (-1), (-1), 0), [(2, 805, 805, 0), (0, 0, 23, 1), (0, 1, 9, 1)], [], ([], [])), (1, (0, (-2147483648), 2147483647, 1), [(2, 805, 805, 0), (0, 0, 23, 1), (0, 1, 9, 1)], [], ([], []))], [], 3, 65, 0)
theorem kh_435_ok : ct_ok wd_fl1 kh_435 := ct_of (ff := wd_ff1) (y := (⟨"UtilityWorksModel", "hOut", "(II)I"⟩, prog_14_method_168_code, 6, some .int, 12, 1, 2, 35021, 35020, 12015, 21014)) (Cs := [kh_423, kh_425]) (an := [(8, 0, ([((2, 805, 805, 0), none), ((0, 0, 23, 1), none), ((0, 1, 9, 1), none), ((0, (-2147483648), 2147483647, 1), none), ((0, 0, 1, 1), none), ((0, 0, 11, 1), none)], [(0, 0), (1, 1), (2, 2), (3, 3), (4, 4), (5, 5)], [], [], [], [], [], [], none), [(0, 0, 99992), (1, 5, 11), (0, 0, 99992)]), (50, 0, ([((2, 805, 805, 0), none), ((0, 0, 23, 1), none), ((0, 1, 9, 1), none), ((0, (-2147483648), 2147483647, 1), none), ((0, 0, 1, 1), none), ((0, 0, 10, 1), none)], [(0, 0), (1, 1), (2, 2), (3, 3), (4, 4), (5, 5)], [], [], [], [], [], [], none), [(0, 0, 99992), (1, 5, 11), (0, 0, 99950)])]) (ss := []) (K := 3) (fuel := 4000) wd_fl1_ok rfl (List.forall_mem_cons.mpr ⟨kh_423_ok, (List.forall_mem_cons.mpr ⟨kh_425_ok, (List.forall_mem_nil _)⟩)⟩) (by decide +kernel)
/- UtilityWorksModel hOut -/
def kh_436 : ct_T := (492, [(2, 805, 805, 0), (0, 0, 23, 1), (0, 1, 10, 1)], [], [], [(1, (0, (-1), (-1), 0), [(2, 805, 805, 0), (0, 0, 23, 1), (0, 1, 10, 1)], [], ([], [])), (1, (0, (-2147483648), 2147483647, 1), [(2, 805, 805, 0), (0, 0, 23, 1), (0, 1, 10, 1)], [], ([], []))], [], 3, 65, 0)
theorem kh_436_ok : ct_ok wd_fl1 kh_436 := ct_of (ff := wd_ff1) (y := (⟨"UtilityWorksModel", "hOut", "(II)I"⟩, prog_14_method_168_code, 6, some .int, 12, 1, 2, 35021, 35020, 12015, 21014)) (Cs := [kh_423, kh_425]) (an := [(8, 0, ([((2, 805, 805, 0), none), ((0, 0, 23, 1), none), ((0, 1, 10, 1), none), ((0, (-2147483648), 2147483647, 1), none), ((0, 0, 1, 1), none), ((0, 0, 11, 1), none)], [(0, 0), (1, 1), (2, 2), (3, 3), (4, 4), (5, 5)], [], [], [], [], [], [], none), [(0, 0, 99992), (1, 5, 11), (0, 0, 99992)]), (50, 0, ([((2, 805, 805, 0), none), ((0, 0, 23, 1), none), ((0, 1, 10, 1), none), ((0, (-2147483648), 2147483647, 1), none), ((0, 0, 1, 1), none), ((0, 0, 10, 1), none)], [(0, 0), (1, 1), (2, 2), (3, 3), (4, 4), (5, 5)], [], [], [], [], [], [], none), [(0, 0, 99992), (1, 5, 11), (0, 0, 99950)])]) (ss := []) (K := 3) (fuel := 4000) wd_fl1_ok rfl (List.forall_mem_cons.mpr ⟨kh_423_ok, (List.forall_mem_cons.mpr ⟨kh_425_ok, (List.forall_mem_nil _)⟩)⟩) (by decide +kernel)
/- UtilityWorksModel hOut -/
def kh_437 : ct_T := (492, [(2, 805, 805, 0), (0, 0, 23, 1), (0, 1, 11, 1)], [], [], [(1, (0, (-1), (-1), 0), [(2, 805, 805, 0), (0, 0, 23, 1), (0, 1, 11, 1)], [], ([], [])), (1, (0, (-2147483648), 2147483647, 1), [(2, 805, 805, 0), (0, 0, 23, 1), (0, 1, 11, 1)], [], ([], []))], [], 3, 65, 0)
theorem kh_437_ok : ct_ok wd_fl1 kh_437 := ct_of (ff := wd_ff1) (y := (⟨"UtilityWorksModel", "hOut", "(II)I"⟩, prog_14_method_168_code, 6, some .int, 12, 1, 2, 35021, 35020, 12015, 21014)) (Cs := [kh_423, kh_425]) (an := [(8, 0, ([((2, 805, 805, 0), none), ((0, 0, 23, 1), none), ((0, 1, 11, 1), none), ((0, (-2147483648), 2147483647, 1), none), ((0, 0, 1, 1), none), ((0, 0, 11, 1), none)], [(0, 0), (1, 1), (2, 2), (3, 3), (4, 4), (5, 5)], [], [], [], [], [], [], none), [(0, 0, 99992), (1, 5, 11), (0, 0, 99992)]), (50, 0, ([((2, 805, 805, 0), none), ((0, 0, 23, 1), none), ((0, 1, 11, 1), none), ((0, (-2147483648), 2147483647, 1), none), ((0, 0, 1, 1), none), ((0, 0, 10, 1), none)], [(0, 0), (1, 1), (2, 2), (3, 3), (4, 4), (5, 5)], [], [], [], [], [], [], none), [(0, 0, 99992), (1, 5, 11), (0, 0, 99950)])]) (ss := []) (K := 3) (fuel := 4000) wd_fl1_ok rfl (List.forall_mem_cons.mpr ⟨kh_423_ok, (List.forall_mem_cons.mpr ⟨kh_425_ok, (List.forall_mem_nil _)⟩)⟩) (by decide +kernel)
/- UtilityWorksModel hOut -/
def kh_438 : ct_T := (492, [(2, 805, 805, 0), (0, 0, 23, 1), (0, 1, 12, 1)], [], [], [(1, (0, (-1), (-1), 0), [(2, 805, 805, 0), (0, 0, 23, 1), (0, 1, 12, 1)], [], ([], [])), (1, (0, (-2147483648), 2147483647, 1), [(2, 805, 805, 0), (0, 0, 23, 1), (0, 1, 12, 1)], [], ([], []))], [], 3, 65, 0)
theorem kh_438_ok : ct_ok wd_fl1 kh_438 := ct_of (ff := wd_ff1) (y := (⟨"UtilityWorksModel", "hOut", "(II)I"⟩, prog_14_method_168_code, 6, some .int, 12, 1, 2, 35021, 35020, 12015, 21014)) (Cs := [kh_423, kh_425]) (an := [(8, 0, ([((2, 805, 805, 0), none), ((0, 0, 23, 1), none), ((0, 1, 12, 1), none), ((0, (-2147483648), 2147483647, 1), none), ((0, 0, 1, 1), none), ((0, 0, 11, 1), none)], [(0, 0), (1, 1), (2, 2), (3, 3), (4, 4), (5, 5)], [], [], [], [], [], [], none), [(0, 0, 99992), (1, 5, 11), (0, 0, 99992)]), (50, 0, ([((2, 805, 805, 0), none), ((0, 0, 23, 1), none), ((0, 1, 12, 1), none), ((0, (-2147483648), 2147483647, 1), none), ((0, 0, 1, 1), none), ((0, 0, 10, 1), none)], [(0, 0), (1, 1), (2, 2), (3, 3), (4, 4), (5, 5)], [], [], [], [], [], [], none), [(0, 0, 99992), (1, 5, 11), (0, 0, 99950)])]) (ss := []) (K := 3) (fuel := 4000) wd_fl1_ok rfl (List.forall_mem_cons.mpr ⟨kh_423_ok, (List.forall_mem_cons.mpr ⟨kh_425_ok, (List.forall_mem_nil _)⟩)⟩) (by decide +kernel)
/- UtilityWorksModel hOut -/
def kh_439 : ct_T := (492, [(2, 805, 805, 0), (0, 0, 23, 1), (0, 1, 16, 1)], [], [], [(1, (0, (-1), (-1), 0), [(2, 805, 805, 0), (0, 0, 23, 1), (0, 1, 16, 1)], [], ([], [])), (1, (0, (-2147483648), 2147483647, 1), [(2, 805, 805, 0), (0, 0, 23, 1), (0, 1, 16, 1)], [], ([], []))], [], 3, 65, 0)
theorem kh_439_ok : ct_ok wd_fl1 kh_439 := ct_of (ff := wd_ff1) (y := (⟨"UtilityWorksModel", "hOut", "(II)I"⟩, prog_14_method_168_code, 6, some .int, 12, 1, 2, 35021, 35020, 12015, 21014)) (Cs := [kh_423, kh_425]) (an := [(8, 0, ([((2, 805, 805, 0), none), ((0, 0, 23, 1), none), ((0, 1, 16, 1), none), ((0, (-2147483648), 2147483647, 1), none), ((0, 0, 1, 1), none), ((0, 0, 11, 1), none)], [(0, 0), (1, 1), (2, 2), (3, 3), (4, 4), (5, 5)], [], [], [], [], [], [], none), [(0, 0, 99992), (1, 5, 11), (0, 0, 99992)]), (50, 0, ([((2, 805, 805, 0), none), ((0, 0, 23, 1), none), ((0, 1, 16, 1), none), ((0, (-2147483648), 2147483647, 1), none), ((0, 0, 1, 1), none), ((0, 0, 10, 1), none)], [(0, 0), (1, 1), (2, 2), (3, 3), (4, 4), (5, 5)], [], [], [], [], [], [], none), [(0, 0, 99992), (1, 5, 11), (0, 0, 99950)])]) (ss := []) (K := 3) (fuel := 4000) wd_fl1_ok rfl (List.forall_mem_cons.mpr ⟨kh_423_ok, (List.forall_mem_cons.mpr ⟨kh_425_ok, (List.forall_mem_nil _)⟩)⟩) (by decide +kernel)
/- UtilityWorksModel hOut -/
def kh_440 : ct_T := (492, [(2, 805, 805, 0), (0, 0, 23, 1), (0, 1, 17, 1)], [], [], [(1, (0, (-1), (-1), 0), [(2, 805, 805, 0), (0, 0, 23, 1), (0, 1, 17, 1)], [], ([], [])), (1, (0, (-2147483648), 2147483647, 1), [(2, 805, 805, 0), (0, 0, 23, 1), (0, 1, 17, 1)], [], ([], []))], [], 3, 65, 0)
theorem kh_440_ok : ct_ok wd_fl1 kh_440 := ct_of (ff := wd_ff1) (y := (⟨"UtilityWorksModel", "hOut", "(II)I"⟩, prog_14_method_168_code, 6, some .int, 12, 1, 2, 35021, 35020, 12015, 21014)) (Cs := [kh_423, kh_425]) (an := [(8, 0, ([((2, 805, 805, 0), none), ((0, 0, 23, 1), none), ((0, 1, 17, 1), none), ((0, (-2147483648), 2147483647, 1), none), ((0, 0, 1, 1), none), ((0, 0, 11, 1), none)], [(0, 0), (1, 1), (2, 2), (3, 3), (4, 4), (5, 5)], [], [], [], [], [], [], none), [(0, 0, 99992), (1, 5, 11), (0, 0, 99992)]), (50, 0, ([((2, 805, 805, 0), none), ((0, 0, 23, 1), none), ((0, 1, 17, 1), none), ((0, (-2147483648), 2147483647, 1), none), ((0, 0, 1, 1), none), ((0, 0, 10, 1), none)], [(0, 0), (1, 1), (2, 2), (3, 3), (4, 4), (5, 5)], [], [], [], [], [], [], none), [(0, 0, 99992), (1, 5, 11), (0, 0, 99950)])]) (ss := []) (K := 3) (fuel := 4000) wd_fl1_ok rfl (List.forall_mem_cons.mpr ⟨kh_423_ok, (List.forall_mem_cons.mpr ⟨kh_425_ok, (List.forall_mem_nil _)⟩)⟩) (by decide +kernel)
/- UtilityWorksModel hOut -/
def kh_441 : ct_T := (492, [(2, 805, 805, 0), (0, 0, 23, 1), (0, 1, 23, 1)], [], [], [(1, (0, (-1), (-1), 0), [(2, 805, 805, 0), (0, 0, 23, 1), (0, 1, 23, 1)], [], ([], [])), (1, (0, (-2147483648), 2147483647, 1), [(2, 805, 805, 0), (0, 0, 23, 1), (0, 1, 23, 1)], [], ([], []))], [], 3, 65, 0)
theorem kh_441_ok : ct_ok wd_fl1 kh_441 := ct_of (ff := wd_ff1) (y := (⟨"UtilityWorksModel", "hOut", "(II)I"⟩, prog_14_method_168_code, 6, some .int, 12, 1, 2, 35021, 35020, 12015, 21014)) (Cs := [kh_423, kh_425]) (an := [(8, 0, ([((2, 805, 805, 0), none), ((0, 0, 23, 1), none), ((0, 1, 23, 1), none), ((0, (-2147483648), 2147483647, 1), none), ((0, 0, 1, 1), none), ((0, 0, 11, 1), none)], [(0, 0), (1, 1), (2, 2), (3, 3), (4, 4), (5, 5)], [], [], [], [], [], [], none), [(0, 0, 99992), (1, 5, 11), (0, 0, 99992)]), (50, 0, ([((2, 805, 805, 0), none), ((0, 0, 23, 1), none), ((0, 1, 23, 1), none), ((0, (-2147483648), 2147483647, 1), none), ((0, 0, 1, 1), none), ((0, 0, 10, 1), none)], [(0, 0), (1, 1), (2, 2), (3, 3), (4, 4), (5, 5)], [], [], [], [], [], [], none), [(0, 0, 99992), (1, 5, 11), (0, 0, 99950)])]) (ss := []) (K := 3) (fuel := 4000) wd_fl1_ok rfl (List.forall_mem_cons.mpr ⟨kh_423_ok, (List.forall_mem_cons.mpr ⟨kh_425_ok, (List.forall_mem_nil _)⟩)⟩) (by decide +kernel)
/- UtilityWorksModel hOut -/
def kh_442 : ct_T := (492, [(2, 805, 805, 0), (0, 0, 23, 1), (0, 1, 24, 1)], [], [], [(1, (0, (-1), (-1), 0), [(2, 805, 805, 0), (0, 0, 23, 1), (0, 1, 24, 1)], [], ([], [])), (1, (0, (-2147483648), 2147483647, 1), [(2, 805, 805, 0), (0, 0, 23, 1), (0, 1, 24, 1)], [], ([], []))], [], 3, 65, 0)
theorem kh_442_ok : ct_ok wd_fl1 kh_442 := ct_of (ff := wd_ff1) (y := (⟨"UtilityWorksModel", "hOut", "(II)I"⟩, prog_14_method_168_code, 6, some .int, 12, 1, 2, 35021, 35020, 12015, 21014)) (Cs := [kh_423, kh_425]) (an := [(8, 0, ([((2, 805, 805, 0), none), ((0, 0, 23, 1), none), ((0, 1, 24, 1), none), ((0, (-2147483648), 2147483647, 1), none), ((0, 0, 1, 1), none), ((0, 0, 11, 1), none)], [(0, 0), (1, 1), (2, 2), (3, 3), (4, 4), (5, 5)], [], [], [], [], [], [], none), [(0, 0, 99992), (1, 5, 11), (0, 0, 99992)]), (50, 0, ([((2, 805, 805, 0), none), ((0, 0, 23, 1), none), ((0, 1, 24, 1), none), ((0, (-2147483648), 2147483647, 1), none), ((0, 0, 1, 1), none), ((0, 0, 10, 1), none)], [(0, 0), (1, 1), (2, 2), (3, 3), (4, 4), (5, 5)], [], [], [], [], [], [], none), [(0, 0, 99992), (1, 5, 11), (0, 0, 99950)])]) (ss := []) (K := 3) (fuel := 4000) wd_fl1_ok rfl (List.forall_mem_cons.mpr ⟨kh_423_ok, (List.forall_mem_cons.mpr ⟨kh_425_ok, (List.forall_mem_nil _)⟩)⟩) (by decide +kernel)
/- UtilityWorksModel hOut -/
def kh_443 : ct_T := (492, [(2, 805, 805, 0), (0, 0, 23, 1), (0, 1, 29, 1)], [], [], [(1, (0, (-1), (-1), 0), [(2, 805, 805, 0), (0, 0, 23, 1), (0, 1, 29, 1)], [], ([], [])), (1, (0, (-2147483648), 2147483647, 1), [(2, 805, 805, 0), (0, 0, 23, 1), (0, 1, 29, 1)], [], ([], []))], [], 3, 65, 0)
theorem kh_443_ok : ct_ok wd_fl1 kh_443 := ct_of (ff := wd_ff1) (y := (⟨"UtilityWorksModel", "hOut", "(II)I"⟩, prog_14_method_168_code, 6, some .int, 12, 1, 2, 35021, 35020, 12015, 21014)) (Cs := [kh_423, kh_425]) (an := [(8, 0, ([((2, 805, 805, 0), none), ((0, 0, 23, 1), none), ((0, 1, 29, 1), none), ((0, (-2147483648), 2147483647, 1), none), ((0, 0, 1, 1), none), ((0, 0, 11, 1), none)], [(0, 0), (1, 1), (2, 2), (3, 3), (4, 4), (5, 5)], [], [], [], [], [], [], none), [(0, 0, 99992), (1, 5, 11), (0, 0, 99992)]), (50, 0, ([((2, 805, 805, 0), none), ((0, 0, 23, 1), none), ((0, 1, 29, 1), none), ((0, (-2147483648), 2147483647, 1), none), ((0, 0, 1, 1), none), ((0, 0, 10, 1), none)], [(0, 0), (1, 1), (2, 2), (3, 3), (4, 4), (5, 5)], [], [], [], [], [], [], none), [(0, 0, 99992), (1, 5, 11), (0, 0, 99950)])]) (ss := []) (K := 3) (fuel := 4000) wd_fl1_ok rfl (List.forall_mem_cons.mpr ⟨kh_423_ok, (List.forall_mem_cons.mpr ⟨kh_425_ok, (List.forall_mem_nil _)⟩)⟩) (by decide +kernel)
/- UtilityWorksModel hOut -/
def kh_444 : ct_T := (492, [(2, 805, 805, 0), (0, 0, 23, 1), (0, 1, 30, 1)], [], [], [(1, (0, (-1), (-1), 0), [(2, 805, 805, 0), (0, 0, 23, 1), (0, 1, 30, 1)], [], ([], [])), (1, (0, (-2147483648), 2147483647, 1), [(2, 805, 805, 0), (0, 0, 23, 1), (0, 1, 30, 1)], [], ([], []))], [], 3, 65, 0)
theorem kh_444_ok : ct_ok wd_fl1 kh_444 := ct_of (ff := wd_ff1) (y := (⟨"UtilityWorksModel", "hOut", "(II)I"⟩, prog_14_method_168_code, 6, some .int, 12, 1, 2, 35021, 35020, 12015, 21014)) (Cs := [kh_423, kh_425]) (an := [(8, 0, ([((2, 805, 805, 0), none), ((0, 0, 23, 1), none), ((0, 1, 30, 1), none), ((0, (-2147483648), 2147483647, 1), none), ((0, 0, 1, 1), none), ((0, 0, 11, 1), none)], [(0, 0), (1, 1), (2, 2), (3, 3), (4, 4), (5, 5)], [], [], [], [], [], [], none), [(0, 0, 99992), (1, 5, 11), (0, 0, 99992)]), (50, 0, ([((2, 805, 805, 0), none), ((0, 0, 23, 1), none), ((0, 1, 30, 1), none), ((0, (-2147483648), 2147483647, 1), none), ((0, 0, 1, 1), none), ((0, 0, 10, 1), none)], [(0, 0), (1, 1), (2, 2), (3, 3), (4, 4), (5, 5)], [], [], [], [], [], [], none), [(0, 0, 99992), (1, 5, 11), (0, 0, 99950)])]) (ss := []) (K := 3) (fuel := 4000) wd_fl1_ok rfl (List.forall_mem_cons.mpr ⟨kh_423_ok, (List.forall_mem_cons.mpr ⟨kh_425_ok, (List.forall_mem_nil _)⟩)⟩) (by decide +kernel)
/- UtilityWorksModel hOut -/
def kh_445 : ct_T := (492, [(2, 805, 805, 0), (0, 0, 23, 1), (0, 1, 33, 1)], [], [], [(1, (0, (-1), (-1), 0), [(2, 805, 805, 0), (0, 0, 23, 1), (0, 1, 33, 1)], [], ([], [])), (1, (0, (-2147483648), 2147483647, 1), [(2, 805, 805, 0), (0, 0, 23, 1), (0, 1, 33, 1)], [], ([], []))], [], 3, 65, 0)
theorem kh_445_ok : ct_ok wd_fl1 kh_445 := ct_of (ff := wd_ff1) (y := (⟨"UtilityWorksModel", "hOut", "(II)I"⟩, prog_14_method_168_code, 6, some .int, 12, 1, 2, 35021, 35020, 12015, 21014)) (Cs := [kh_423, kh_425]) (an := [(8, 0, ([((2, 805, 805, 0), none), ((0, 0, 23, 1), none), ((0, 1, 33, 1), none), ((0, (-2147483648), 2147483647, 1), none), ((0, 0, 1, 1), none), ((0, 0, 11, 1), none)], [(0, 0), (1, 1), (2, 2), (3, 3), (4, 4), (5, 5)], [], [], [], [], [], [], none), [(0, 0, 99992), (1, 5, 11), (0, 0, 99992)]), (50, 0, ([((2, 805, 805, 0), none), ((0, 0, 23, 1), none), ((0, 1, 33, 1), none), ((0, (-2147483648), 2147483647, 1), none), ((0, 0, 1, 1), none), ((0, 0, 10, 1), none)], [(0, 0), (1, 1), (2, 2), (3, 3), (4, 4), (5, 5)], [], [], [], [], [], [], none), [(0, 0, 99992), (1, 5, 11), (0, 0, 99950)])]) (ss := []) (K := 3) (fuel := 4000) wd_fl1_ok rfl (List.forall_mem_cons.mpr ⟨kh_423_ok, (List.forall_mem_cons.mpr ⟨kh_425_ok, (List.forall_mem_nil _)⟩)⟩) (by decide +kernel)
/- UtilityWorksModel hOut -/
def kh_446 : ct_T := (492, [(2, 805, 805, 0), (0, 0, 23, 1), (0, 1, 34, 1)], [], [], [(1, (0, (-1), (-1), 0), [(2, 805, 805, 0), (0, 0, 23, 1), (0, 1, 34, 1)], [], ([], [])), (1, (0, (-2147483648), 2147483647, 1), [(2, 805, 805, 0), (0, 0, 23, 1), (0, 1, 34, 1)], [], ([], []))], [], 3, 65, 0)
theorem kh_446_ok : ct_ok wd_fl1 kh_446 := ct_of (ff := wd_ff1) (y := (⟨"UtilityWorksModel", "hOut", "(II)I"⟩, prog_14_method_168_code, 6, some .int, 12, 1, 2, 35021, 35020, 12015, 21014)) (Cs := [kh_423, kh_425]) (an := [(8, 0, ([((2, 805, 805, 0), none), ((0, 0, 23, 1), none), ((0, 1, 34, 1), none), ((0, (-2147483648), 2147483647, 1), none), ((0, 0, 1, 1), none), ((0, 0, 11, 1), none)], [(0, 0), (1, 1), (2, 2), (3, 3), (4, 4), (5, 5)], [], [], [], [], [], [], none), [(0, 0, 99992), (1, 5, 11), (0, 0, 99992)]), (50, 0, ([((2, 805, 805, 0), none), ((0, 0, 23, 1), none), ((0, 1, 34, 1), none), ((0, (-2147483648), 2147483647, 1), none), ((0, 0, 1, 1), none), ((0, 0, 10, 1), none)], [(0, 0), (1, 1), (2, 2), (3, 3), (4, 4), (5, 5)], [], [], [], [], [], [], none), [(0, 0, 99992), (1, 5, 11), (0, 0, 99950)])]) (ss := []) (K := 3) (fuel := 4000) wd_fl1_ok rfl (List.forall_mem_cons.mpr ⟨kh_423_ok, (List.forall_mem_cons.mpr ⟨kh_425_ok, (List.forall_mem_nil _)⟩)⟩) (by decide +kernel)
/- UtilityWorksModel hOut -/
def kh_447 : ct_T := (492, [(2, 805, 805, 0), (0, 0, 23, 1), (0, 1, 35, 1)], [], [], [(1, (0, (-1), (-1), 0), [(2, 805, 805, 0), (0, 0, 23, 1), (0, 1, 35, 1)], [], ([], [])), (1, (0, (-2147483648), 2147483647, 1), [(2, 805, 805, 0), (0, 0, 23, 1), (0, 1, 35, 1)], [], ([], []))], [], 3, 65, 0)
theorem kh_447_ok : ct_ok wd_fl1 kh_447 := ct_of (ff := wd_ff1) (y := (⟨"UtilityWorksModel", "hOut", "(II)I"⟩, prog_14_method_168_code, 6, some .int, 12, 1, 2, 35021, 35020, 12015, 21014)) (Cs := [kh_423, kh_425]) (an := [(8, 0, ([((2, 805, 805, 0), none), ((0, 0, 23, 1), none), ((0, 1, 35, 1), none), ((0, (-2147483648), 2147483647, 1), none), ((0, 0, 1, 1), none), ((0, 0, 11, 1), none)], [(0, 0), (1, 1), (2, 2), (3, 3), (4, 4), (5, 5)], [], [], [], [], [], [], none), [(0, 0, 99992), (1, 5, 11), (0, 0, 99992)]), (50, 0, ([((2, 805, 805, 0), none), ((0, 0, 23, 1), none), ((0, 1, 35, 1), none), ((0, (-2147483648), 2147483647, 1), none), ((0, 0, 1, 1), none), ((0, 0, 10, 1), none)], [(0, 0), (1, 1), (2, 2), (3, 3), (4, 4), (5, 5)], [], [], [], [], [], [], none), [(0, 0, 99992), (1, 5, 11), (0, 0, 99950)])]) (ss := []) (K := 3) (fuel := 4000) wd_fl1_ok rfl (List.forall_mem_cons.mpr ⟨kh_423_ok, (List.forall_mem_cons.mpr ⟨kh_425_ok, (List.forall_mem_nil _)⟩)⟩) (by decide +kernel)
/- UtilityWorksModel hOut -/
def kh_448 : ct_T := (492, [(2, 805, 805, 0), (0, 0, 23, 1), (0, 1, 50, 1)], [], [], [(1, (0, (-1), (-1), 0), [(2, 805, 805, 0), (0, 0, 23, 1), (0, 1, 50, 1)], [], ([], [])), (1, (0, (-2147483648), 2147483647, 1), [(2, 805, 805, 0), (0, 0, 23, 1), (0, 1, 50, 1)], [], ([], []))], [], 3, 65, 0)
theorem kh_448_ok : ct_ok wd_fl1 kh_448 := ct_of (ff := wd_ff1) (y := (⟨"UtilityWorksModel", "hOut", "(II)I"⟩, prog_14_method_168_code, 6, some .int, 12, 1, 2, 35021, 35020, 12015, 21014)) (Cs := [kh_423, kh_425]) (an := [(8, 0, ([((2, 805, 805, 0), none), ((0, 0, 23, 1), none), ((0, 1, 50, 1), none), ((0, (-2147483648), 2147483647, 1), none), ((0, 0, 1, 1), none), ((0, 0, 11, 1), none)], [(0, 0), (1, 1), (2, 2), (3, 3), (4, 4), (5, 5)], [], [], [], [], [], [], none), [(0, 0, 99992), (1, 5, 11), (0, 0, 99992)]), (50, 0, ([((2, 805, 805, 0), none), ((0, 0, 23, 1), none), ((0, 1, 50, 1), none), ((0, (-2147483648), 2147483647, 1), none), ((0, 0, 1, 1), none), ((0, 0, 10, 1), none)], [(0, 0), (1, 1), (2, 2), (3, 3), (4, 4), (5, 5)], [], [], [], [], [], [], none), [(0, 0, 99992), (1, 5, 11), (0, 0, 99950)])]) (ss := []) (K := 3) (fuel := 4000) wd_fl1_ok rfl (List.forall_mem_cons.mpr ⟨kh_423_ok, (List.forall_mem_cons.mpr ⟨kh_425_ok, (List.forall_mem_nil _)⟩)⟩) (by decide +kernel)
/- UtilityWorksModel hOut -/
def kh_449 : ct_T := (492, [(2, 805, 805, 0), (0, 0, 23, 1), (0, 1, 51, 1)], [], [], [(1, (0, (-1), (-1), 0), [(2, 805, 805, 0), (0, 0, 23, 1), (0, 1, 51, 1)], [], ([], [])), (1, (0, (-2147483648), 2147483647, 1), [(2, 805, 805, 0), (0, 0, 23, 1), (0, 1, 51, 1)], [], ([], []))], [], 3, 65, 0)
theorem kh_449_ok : ct_ok wd_fl1 kh_449 := ct_of (ff := wd_ff1) (y := (⟨"UtilityWorksModel", "hOut", "(II)I"⟩, prog_14_method_168_code, 6, some .int, 12, 1, 2, 35021, 35020, 12015, 21014)) (Cs := [kh_423, kh_425]) (an := [(8, 0, ([((2, 805, 805, 0), none), ((0, 0, 23, 1), none), ((0, 1, 51, 1), none), ((0, (-2147483648), 2147483647, 1), none), ((0, 0, 1, 1), none), ((0, 0, 11, 1), none)], [(0, 0), (1, 1), (2, 2), (3, 3), (4, 4), (5, 5)], [], [], [], [], [], [], none), [(0, 0, 99992), (1, 5, 11), (0, 0, 99992)]), (50, 0, ([((2, 805, 805, 0), none), ((0, 0, 23, 1), none), ((0, 1, 51, 1), none), ((0, (-2147483648), 2147483647, 1), none), ((0, 0, 1, 1), none), ((0, 0, 10, 1), none)], [(0, 0), (1, 1), (2, 2), (3, 3), (4, 4), (5, 5)], [], [], [], [], [], [], none), [(0, 0, 99992), (1, 5, 11), (0, 0, 99950)])]) (ss := []) (K := 3) (fuel := 4000) wd_fl1_ok rfl (List.forall_mem_cons.mpr ⟨kh_423_ok, (List.forall_mem_cons.mpr ⟨kh_425_ok, (List.forall_mem_nil _)⟩)⟩) (by decide +kernel)
/- UtilityWorksModel hOut -/
def kh_450 : ct_T := (492, [(2, 805, 805, 0), (0, 0, 23, 1), (0, 1, 60, 1)], [], [], [(1, (0, (-1), (-1), 0), [(2, 805, 805, 0), (0, 0, 23, 1), (0, 1, 60, 1)], [], ([], [])), (1, (0, (-2147483648), 2147483647, 1), [(2, 805, 805, 0), (0, 0, 23, 1), (0, 1, 60, 1)], [], ([], []))], [], 3, 65, 0)
theorem kh_450_ok : ct_ok wd_fl1 kh_450 := ct_of (ff := wd_ff1) (y := (⟨"UtilityWorksModel", "hOut", "(II)I"⟩, prog_14_method_168_code, 6, some .int, 12, 1, 2, 35021, 35020, 12015, 21014)) (Cs := [kh_423, kh_425]) (an := [(8, 0, ([((2, 805, 805, 0), none), ((0, 0, 23, 1), none), ((0, 1, 60, 1), none), ((0, (-2147483648), 2147483647, 1), none), ((0, 0, 1, 1), none), ((0, 0, 11, 1), none)], [(0, 0), (1, 1), (2, 2), (3, 3), (4, 4), (5, 5)], [], [], [], [], [], [], none), [(0, 0, 99992), (1, 5, 11), (0, 0, 99992)]), (50, 0, ([((2, 805, 805, 0), none), ((0, 0, 23, 1), none), ((0, 1, 60, 1), none), ((0, (-2147483648), 2147483647, 1), none), ((0, 0, 1, 1), none), ((0, 0, 10, 1), none)], [(0, 0), (1, 1), (2, 2), (3, 3), (4, 4), (5, 5)], [], [], [], [], [], [], none), [(0, 0, 99992), (1, 5, 11), (0, 0, 99950)])]) (ss := []) (K := 3) (fuel := 4000) wd_fl1_ok rfl (List.forall_mem_cons.mpr ⟨kh_423_ok, (List.forall_mem_cons.mpr ⟨kh_425_ok, (List.forall_mem_nil _)⟩)⟩) (by decide +kernel)
/- UtilityWorksModel hOut -/
def kh_451 : ct_T := (492, [(2, 805, 805, 0), (0, 0, 23, 1), (0, 1, 83, 1)], [], [], [(1, (0, (-1), (-1), 0), [(2, 805, 805, 0), (0, 0, 23, 1), (0, 1, 83, 1)], [], ([], [])), (1, (0, (-2147483648), 2147483647, 1), [(2, 805, 805, 0), (0, 0, 23, 1), (0, 1, 83, 1)], [], ([], []))], [], 3, 65, 0)
theorem kh_451_ok : ct_ok wd_fl1 kh_451 := ct_of (ff := wd_ff1) (y := (⟨"UtilityWorksModel", "hOut", "(II)I"⟩, prog_14_method_168_code, 6, some .int, 12, 1, 2, 35021, 35020, 12015, 21014)) (Cs := [kh_423, kh_425]) (an := [(8, 0, ([((2, 805, 805, 0), none), ((0, 0, 23, 1), none), ((0, 1, 83, 1), none), ((0, (-2147483648), 2147483647, 1), none), ((0, 0, 1, 1), none), ((0, 0, 11, 1), none)], [(0, 0), (1, 1), (2, 2), (3, 3), (4, 4), (5, 5)], [], [], [], [], [], [], none), [(0, 0, 99992), (1, 5, 11), (0, 0, 99992)]), (50, 0, ([((2, 805, 805, 0), none), ((0, 0, 23, 1), none), ((0, 1, 83, 1), none), ((0, (-2147483648), 2147483647, 1), none), ((0, 0, 1, 1), none), ((0, 0, 10, 1), none)], [(0, 0), (1, 1), (2, 2), (3, 3), (4, 4), (5, 5)], [], [], [], [], [], [], none), [(0, 0, 99992), (1, 5, 11), (0, 0, 99950)])]) (ss := []) (K := 3) (fuel := 4000) wd_fl1_ok rfl (List.forall_mem_cons.mpr ⟨kh_423_ok, (List.forall_mem_cons.mpr ⟨kh_425_ok, (List.forall_mem_nil _)⟩)⟩) (by decide +kernel)
/- UtilityWorksModel hOut -/
def kh_452 : ct_T := (492, [(2, 805, 805, 0), (0, 0, 23, 1), (0, 1, 99, 1)], [], [], [(1, (0, (-1), (-1), 0), [(2, 805, 805, 0), (0, 0, 23, 1), (0, 1, 99, 1)], [], ([], [])), (1, (0, (-2147483648), 2147483647, 1), [(2, 805, 805, 0), (0, 0, 23, 1), (0, 1, 99, 1)], [], ([], []))], [], 3, 65, 0)
theorem kh_452_ok : ct_ok wd_fl1 kh_452 := ct_of (ff := wd_ff1) (y := (⟨"UtilityWorksModel", "hOut", "(II)I"⟩, prog_14_method_168_code, 6, some .int, 12, 1, 2, 35021, 35020, 12015, 21014)) (Cs := [kh_423, kh_425]) (an := [(8, 0, ([((2, 805, 805, 0), none), ((0, 0, 23, 1), none), ((0, 1, 99, 1), none), ((0, (-2147483648), 2147483647, 1), none), ((0, 0, 1, 1), none), ((0, 0, 11, 1), none)], [(0, 0), (1, 1), (2, 2), (3, 3), (4, 4), (5, 5)], [], [], [], [], [], [], none), [(0, 0, 99992), (1, 5, 11), (0, 0, 99992)]), (50, 0, ([((2, 805, 805, 0), none), ((0, 0, 23, 1), none), ((0, 1, 99, 1), none), ((0, (-2147483648), 2147483647, 1), none), ((0, 0, 1, 1), none), ((0, 0, 10, 1), none)], [(0, 0), (1, 1), (2, 2), (3, 3), (4, 4), (5, 5)], [], [], [], [], [], [], none), [(0, 0, 99992), (1, 5, 11), (0, 0, 99950)])]) (ss := []) (K := 3) (fuel := 4000) wd_fl1_ok rfl (List.forall_mem_cons.mpr ⟨kh_423_ok, (List.forall_mem_cons.mpr ⟨kh_425_ok, (List.forall_mem_nil _)⟩)⟩) (by decide +kernel)
/- UtilityWorksModel hOut -/
def kh_453 : ct_T := (492, [(2, 805, 805, 0), (0, 0, 23, 1), (0, 1, 100, 1)], [], [], [(1, (0, (-1), (-1), 0), [(2, 805, 805, 0), (0, 0, 23, 1), (0, 1, 100, 1)], [], ([], [])), (1, (0, (-2147483648), 2147483647, 1), [(2, 805, 805, 0), (0, 0, 23, 1), (0, 1, 100, 1)], [], ([], []))], [], 3, 65, 0)
theorem kh_453_ok : ct_ok wd_fl1 kh_453 := ct_of (ff := wd_ff1) (y := (⟨"UtilityWorksModel", "hOut", "(II)I"⟩, prog_14_method_168_code, 6, some .int, 12, 1, 2, 35021, 35020, 12015, 21014)) (Cs := [kh_423, kh_425]) (an := [(8, 0, ([((2, 805, 805, 0), none), ((0, 0, 23, 1), none), ((0, 1, 100, 1), none), ((0, (-2147483648), 2147483647, 1), none), ((0, 0, 1, 1), none), ((0, 0, 11, 1), none)], [(0, 0), (1, 1), (2, 2), (3, 3), (4, 4), (5, 5)], [], [], [], [], [], [], none), [(0, 0, 99992), (1, 5, 11), (0, 0, 99992)]), (50, 0, ([((2, 805, 805, 0), none), ((0, 0, 23, 1), none), ((0, 1, 100, 1), none), ((0, (-2147483648), 2147483647, 1), none), ((0, 0, 1, 1), none), ((0, 0, 10, 1), none)], [(0, 0), (1, 1), (2, 2), (3, 3), (4, 4), (5, 5)], [], [], [], [], [], [], none), [(0, 0, 99992), (1, 5, 11), (0, 0, 99950)])]) (ss := []) (K := 3) (fuel := 4000) wd_fl1_ok rfl (List.forall_mem_cons.mpr ⟨kh_423_ok, (List.forall_mem_cons.mpr ⟨kh_425_ok, (List.forall_mem_nil _)⟩)⟩) (by decide +kernel)
/- UtilityWorksModel hOut -/
def kh_454 : ct_T := (492, [(2, 805, 805, 0), (0, 0, 23, 1), (0, 1, 198, 1)], [], [], [(1, (0, (-1), (-1), 0), [(2, 805, 805, 0), (0, 0, 23, 1), (0, 1, 198, 1)], [], ([], [])), (1, (0, (-2147483648), 2147483647, 1), [(2, 805, 805, 0), (0, 0, 23, 1), (0, 1, 198, 1)], [], ([], []))], [], 3, 65, 0)
theorem kh_454_ok : ct_ok wd_fl1 kh_454 := ct_of (ff := wd_ff1) (y := (⟨"UtilityWorksModel", "hOut", "(II)I"⟩, prog_14_method_168_code, 6, some .int, 12, 1, 2, 35021, 35020, 12015, 21014)) (Cs := [kh_423, kh_425]) (an := [(8, 0, ([((2, 805, 805, 0), none), ((0, 0, 23, 1), none), ((0, 1, 198, 1), none), ((0, (-2147483648), 2147483647, 1), none), ((0, 0, 1, 1), none), ((0, 0, 11, 1), none)], [(0, 0), (1, 1), (2, 2), (3, 3), (4, 4), (5, 5)], [], [], [], [], [], [], none), [(0, 0, 99992), (1, 5, 11), (0, 0, 99992)]), (50, 0, ([((2, 805, 805, 0), none), ((0, 0, 23, 1), none), ((0, 1, 198, 1), none), ((0, (-2147483648), 2147483647, 1), none), ((0, 0, 1, 1), none), ((0, 0, 10, 1), none)], [(0, 0), (1, 1), (2, 2), (3, 3), (4, 4), (5, 5)], [], [], [], [], [], [], none), [(0, 0, 99992), (1, 5, 11), (0, 0, 99950)])]) (ss := []) (K := 3) (fuel := 4000) wd_fl1_ok rfl (List.forall_mem_cons.mpr ⟨kh_423_ok, (List.forall_mem_cons.mpr ⟨kh_425_ok, (List.forall_mem_nil _)⟩)⟩) (by decide +kernel)
/- UtilityWorksModel hOut -/
def kh_455 : ct_T := (492, [(2, 805, 805, 0), (0, 0, 23, 1), (0, 1, 199, 1)], [], [], [(1, (0, (-1), (-1), 0), [(2, 805, 805, 0), (0, 0, 23, 1), (0, 1, 199, 1)], [], ([], [])), (1, (0, (-2147483648), 2147483647, 1), [(2, 805, 805, 0), (0, 0, 23, 1), (0, 1, 199, 1)], [], ([], []))], [], 3, 65, 0)
theorem kh_455_ok : ct_ok wd_fl1 kh_455 := ct_of (ff := wd_ff1) (y := (⟨"UtilityWorksModel", "hOut", "(II)I"⟩, prog_14_method_168_code, 6, some .int, 12, 1, 2, 35021, 35020, 12015, 21014)) (Cs := [kh_423, kh_425]) (an := [(8, 0, ([((2, 805, 805, 0), none), ((0, 0, 23, 1), none), ((0, 1, 199, 1), none), ((0, (-2147483648), 2147483647, 1), none), ((0, 0, 1, 1), none), ((0, 0, 11, 1), none)], [(0, 0), (1, 1), (2, 2), (3, 3), (4, 4), (5, 5)], [], [], [], [], [], [], none), [(0, 0, 99992), (1, 5, 11), (0, 0, 99992)]), (50, 0, ([((2, 805, 805, 0), none), ((0, 0, 23, 1), none), ((0, 1, 199, 1), none), ((0, (-2147483648), 2147483647, 1), none), ((0, 0, 1, 1), none), ((0, 0, 10, 1), none)], [(0, 0), (1, 1), (2, 2), (3, 3), (4, 4), (5, 5)], [], [], [], [], [], [], none), [(0, 0, 99992), (1, 5, 11), (0, 0, 99950)])]) (ss := []) (K := 3) (fuel := 4000) wd_fl1_ok rfl (List.forall_mem_cons.mpr ⟨kh_423_ok, (List.forall_mem_cons.mpr ⟨kh_425_ok, (List.forall_mem_nil _)⟩)⟩) (by decide +kernel)
/- UtilityWorksModel hOut -/
def kh_456 : ct_T := (492, [(2, 805, 805, 0), (0, 0, 23, 1), (0, 1, 200, 1)], [], [], [(1, (0, (-1), (-1), 0), [(2, 805, 805, 0), (0, 0, 23, 1), (0, 1, 200, 1)], [], ([], [])), (1, (0, (-2147483648), 2147483647, 1), [(2, 805, 805, 0), (0, 0, 23, 1), (0, 1, 200, 1)], [], ([], []))], [], 3, 65, 0)
theorem kh_456_ok : ct_ok wd_fl1 kh_456 := ct_of (ff := wd_ff1) (y := (⟨"UtilityWorksModel", "hOut", "(II)I"⟩, prog_14_method_168_code, 6, some .int, 12, 1, 2, 35021, 35020, 12015, 21014)) (Cs := [kh_423, kh_425]) (an := [(8, 0, ([((2, 805, 805, 0), none), ((0, 0, 23, 1), none), ((0, 1, 200, 1), none), ((0, (-2147483648), 2147483647, 1), none), ((0, 0, 1, 1), none), ((0, 0, 11, 1), none)], [(0, 0), (1, 1), (2, 2), (3, 3), (4, 4), (5, 5)], [], [], [], [], [], [], none), [(0, 0, 99992), (1, 5, 11), (0, 0, 99992)]), (50, 0, ([((2, 805, 805, 0), none), ((0, 0, 23, 1), none), ((0, 1, 200, 1), none), ((0, (-2147483648), 2147483647, 1), none), ((0, 0, 1, 1), none), ((0, 0, 10, 1), none)], [(0, 0), (1, 1), (2, 2), (3, 3), (4, 4), (5, 5)], [], [], [], [], [], [], none), [(0, 0, 99992), (1, 5, 11), (0, 0, 99950)])]) (ss := []) (K := 3) (fuel := 4000) wd_fl1_ok rfl (List.forall_mem_cons.mpr ⟨kh_423_ok, (List.forall_mem_cons.mpr ⟨kh_425_ok, (List.forall_mem_nil _)⟩)⟩) (by decide +kernel)
/- UtilityWorksModel hOut -/
def kh_457 : ct_T := (492, [(2, 805, 805, 0), (0, 0, 23, 1), (0, 1, 287, 1)], [], [], [(1, (0, (-1), (-1), 0), [(2, 805, 805, 0), (0, 0, 23, 1), (0, 1, 287, 1)], [], ([], [])), (1, (0, (-2147483648), 2147483647, 1), [(2, 805, 805, 0), (0, 0, 23, 1), (0, 1, 287, 1)], [], ([], []))], [], 3, 65, 0)
theorem kh_457_ok : ct_ok wd_fl1 kh_457 := ct_of (ff := wd_ff1) (y := (⟨"UtilityWorksModel", "hOut", "(II)I"⟩, prog_14_method_168_code, 6, some .int, 12, 1, 2, 35021, 35020, 12015, 21014)) (Cs := [kh_423, kh_425]) (an := [(8, 0, ([((2, 805, 805, 0), none), ((0, 0, 23, 1), none), ((0, 1, 287, 1), none), ((0, (-2147483648), 2147483647, 1), none), ((0, 0, 1, 1), none), ((0, 0, 11, 1), none)], [(0, 0), (1, 1), (2, 2), (3, 3), (4, 4), (5, 5)], [], [], [], [], [], [], none), [(0, 0, 99992), (1, 5, 11), (0, 0, 99992)]), (50, 0, ([((2, 805, 805, 0), none), ((0, 0, 23, 1), none), ((0, 1, 287, 1), none), ((0, (-2147483648), 2147483647, 1), none), ((0, 0, 1, 1), none), ((0, 0, 10, 1), none)], [(0, 0), (1, 1), (2, 2), (3, 3), (4, 4), (5, 5)], [], [], [], [], [], [], none), [(0, 0, 99992), (1, 5, 11), (0, 0, 99950)])]) (ss := []) (K := 3) (fuel := 4000) wd_fl1_ok rfl (List.forall_mem_cons.mpr ⟨kh_423_ok, (List.forall_mem_cons.mpr ⟨kh_425_ok, (List.forall_mem_nil _)⟩)⟩) (by decide +kernel)
/- UtilityWorksModel hOut -/
def kh_458 : ct_T := (492, [(2, 805, 805, 0), (0, 0, 23, 1), (0, 1, 288, 1)], [], [], [(1, (0, (-1), (-1), 0), [(2, 805, 805, 0), (0, 0, 23, 1), (0, 1, 288, 1)], [], ([], [])), (1, (0, (-2147483648), 2147483647, 1), [(2, 805, 805, 0), (0, 0, 23, 1), (0, 1, 288, 1)], [], ([], []))], [], 3, 65, 0)
theorem kh_458_ok : ct_ok wd_fl1 kh_458 := ct_of (ff := wd_ff1) (y := (⟨"UtilityWorksModel", "hOut", "(II)I"⟩, prog_14_method_168_code, 6, some .int, 12, 1, 2, 35021, 35020, 12015, 21014)) (Cs := [kh_423, kh_425]) (an := [(8, 0, ([((2, 805, 805, 0), none), ((0, 0, 23, 1), none), ((0, 1, 288, 1), none), ((0, (-2147483648), 2147483647, 1), none), ((0, 0, 1, 1), none), ((0, 0, 11, 1), none)], [(0, 0), (1, 1), (2, 2), (3, 3), (4, 4), (5, 5)], [], [], [], [], [], [], none), [(0, 0, 99992), (1, 5, 11), (0, 0, 99992)]), (50, 0, ([((2, 805, 805, 0), none), ((0, 0, 23, 1), none), ((0, 1, 288, 1), none), ((0, (-2147483648), 2147483647, 1), none), ((0, 0, 1, 1), none), ((0, 0, 10, 1), none)], [(0, 0), (1, 1), (2, 2), (3, 3), (4, 4), (5, 5)], [], [], [], [], [], [], none), [(0, 0, 99992), (1, 5, 11), (0, 0, 99950)])]) (ss := []) (K := 3) (fuel := 4000) wd_fl1_ok rfl (List.forall_mem_cons.mpr ⟨kh_423_ok, (List.forall_mem_cons.mpr ⟨kh_425_ok, (List.forall_mem_nil _)⟩)⟩) (by decide +kernel)
/- UtilityWorksModel hOut -/
def kh_459 : ct_T := (492, [(2, 805, 805, 0), (0, 0, 23, 1), (0, 1, 300, 1)], [], [], [(1, (0, (-1), (-1), 0), [(2, 805, 805, 0), (0, 0, 23, 1), (0, 1, 300, 1)], [], ([], [])), (1, (0, (-2147483648), 2147483647, 1), [(2, 805, 805, 0), (0, 0, 23, 1), (0, 1, 300, 1)], [], ([], []))], [], 3, 65, 0)
theorem kh_459_ok : ct_ok wd_fl1 kh_459 := ct_of (ff := wd_ff1) (y := (⟨"UtilityWorksModel", "hOut", "(II)I"⟩, prog_14_method_168_code, 6, some .int, 12, 1, 2, 35021, 35020, 12015, 21014)) (Cs := [kh_423, kh_425]) (an := [(8, 0, ([((2, 805, 805, 0), none), ((0, 0, 23, 1), none), ((0, 1, 300, 1), none), ((0, (-2147483648), 2147483647, 1), none), ((0, 0, 1, 1), none), ((0, 0, 11, 1), none)], [(0, 0), (1, 1), (2, 2), (3, 3), (4, 4), (5, 5)], [], [], [], [], [], [], none), [(0, 0, 99992), (1, 5, 11), (0, 0, 99992)]), (50, 0, ([((2, 805, 805, 0), none), ((0, 0, 23, 1), none), ((0, 1, 300, 1), none), ((0, (-2147483648), 2147483647, 1), none), ((0, 0, 1, 1), none), ((0, 0, 10, 1), none)], [(0, 0), (1, 1), (2, 2), (3, 3), (4, 4), (5, 5)], [], [], [], [], [], [], none), [(0, 0, 99992), (1, 5, 11), (0, 0, 99950)])]) (ss := []) (K := 3) (fuel := 4000) wd_fl1_ok rfl (List.forall_mem_cons.mpr ⟨kh_423_ok, (List.forall_mem_cons.mpr ⟨kh_425_ok, (List.forall_mem_nil _)⟩)⟩) (by decide +kernel)
abbrev kh_hSends_y : mt_T := (⟨"UtilityWorksModel", "hSends", "(II)I"⟩, prog_14_method_169_code, 7, some .int, 12, 1, 2, 35017, 35016, 12014, 21014)
def kh_hSends : ct_T := (491, [(2, 805, 805, 0), (0, 0, 23, 1), (0, (-2147483648), 2147483647, 1)], [], [], [(1, (0, 0, 300, 1), [(2, 805, 805, 0), (0, 0, 23, 1), (0, (-2147483648), 2147483647, 1)], [], ([], [(1016, 1, 1)]))], [], 4, 90, 0)
def kh_hSends_a8 : an_T := (8, 0, ([((2, 805, 805, 0), none), ((0, 0, 23, 1), none), ((0, (-2147483648), 2147483647, 1), none), ((0, 0, 300, 1), none), ((0, 0, 300, 1), none), ((0, 1, 339, 1), none)], [(0, 0), (1, 1), (2, 2), (3, 3), (4, 4), (5, 5)], [], [], [], [], [], [], none), [])
def kh_hSends_b0_0 : sg_T := (8, 0, ([((2, 805, 805, 0), none), ((0, 0, 23, 1), none), ((0, (-2147483648), 2147483647, 1), none), ((0, 0, 0, 0), none), ((0, 0, 0, 0), none), ((0, 1, 1, 0), none)], [(5, 5), (4, 4), (3, 3), (0, 0), (1, 1), (2, 2)], [], [], [], [], [], [], some []))
def kh_hSends_b8_0 : sg_T := (108, 0, ([((2, 805, 805, 0), none), ((0, 0, 23, 1), none), ((0, (-2147483648), 2147483647, 1), none), ((0, 0, 0, 1), none), ((0, 0, 0, 1), none), ((0, 1, 339, 1), none), ((2, 846, 846, 1), none), ((0, 12, 12, 0), none), ((0, 0, 1, 1), none), ((0, 0, 300, 1), none), ((2, 847, 847, 1), none), ((0, 12, 12, 0), none), ((0, 0, 1, 1), none), ((0, 0, 300, 1), none), ((0, (-300), 300, 1), none), ((0, 0, 0, 0), none)], [(0, 0), (1, 1), (2, 2), (3, 3), (4, 4), (5, 5)], [15], [(10, 12, 13), (6, 8, 9)], [], [(100000, 14, 5), (600014, 9, 13), (800013, 10, 12), (900012, 1, 11), (800009, 6, 8), (900008, 1, 7)], [], [], some []))
def kh_hSends_b8_1 : sg_T := (108, 0, ([((2, 805, 805, 0), none), ((0, 0, 23, 1), none), ((0, (-2147483648), 2147483647, 1), none), ((0, 0, 0, 1), none), ((0, 1, 300, 1), none), ((0, 1, 339, 1), none), ((2, 846, 846, 1), none), ((0, 12, 12, 0), none), ((0, 0, 1, 1), none), ((0, 0, 300, 1), none), ((2, 847, 847, 1), none), ((0, 12, 12, 0), none), ((0, 0, 1, 1), none), ((0, 0, 300, 1), none), ((0, (-300), 300, 1), none), ((0, (-1), (-1), 0), none), ((0, 0, 0, 0), none)], [(0, 0), (1, 1), (2, 2), (3, 3), (4, 4), (5, 5)], [16], [(10, 12, 13), (6, 8, 9)], [], [(100000, 14, 5), (600014, 9, 13), (800013, 10, 12), (900012, 1, 11), (800009, 6, 8), (900008, 1, 7)], [], [], some []))
def kh_hSends_b8_2 : sg_T := (108, 0, ([((2, 805, 805, 0), none), ((0, 0, 23, 1), none), ((0, (-2147483648), 2147483647, 1), none), ((0, 0, 0, 1), none), ((0, 1, 300, 1), none), ((0, 1, 339, 1), none), ((2, 846, 846, 1), none), ((0, 12, 12, 0), none), ((0, 0, 1, 1), none), ((0, 0, 300, 1), none), ((2, 847, 847, 1), none), ((0, 12, 12, 0), none), ((0, 0, 1, 1), none), ((0, 0, 300, 1), none), ((0, (-300), 300, 1), none), ((0, (-2147483648), 0, 1), none), ((0, 0, 0, 0), none)], [(0, 0), (1, 1), (2, 2), (3, 3), (4, 4), (5, 5)], [16], [(10, 12, 13), (6, 8, 9)], [], [(100000, 14, 5), (600014, 9, 13), (800013, 10, 12), (900012, 1, 11), (800009, 6, 8), (900008, 1, 7)], [], [], some []))
def kh_hSends_b8_3 : sg_T := (108, 0, ([((2, 805, 805, 0), none), ((0, 0, 23, 1), none), ((0, (-2147483648), 2147483647, 1), none), ((0, 0, 0, 1), none), ((0, 1, 300, 1), none), ((0, 1, 339, 1), none), ((2, 846, 846, 1), none), ((0, 12, 12, 0), none), ((0, 0, 1, 1), none), ((0, 0, 300, 1), none), ((2, 847, 847, 1), none), ((0, 12, 12, 0), none), ((0, 0, 1, 1), none), ((0, 0, 300, 1), none), ((0, (-300), 300, 1), none), ((0, 1, 2147483647, 1), none)], [(0, 0), (1, 1), (2, 2), (3, 3), (4, 4), (5, 5)], [4], [(10, 12, 13), (6, 8, 9)], [], [(100000, 14, 5), (600014, 9, 13), (800013, 10, 12), (900012, 1, 11), (800009, 6, 8), (900008, 1, 7)], [], [], some []))
def kh_hSends_b8_4 : sg_T := (108, 0, ([((2, 805, 805, 0), none), ((0, 0, 23, 1), none), ((0, (-2147483648), 2147483647, 1), none), ((0, 1, 300, 1), none), ((0, 0, 300, 1), none), ((0, 1, 339, 1), none), ((2, 846, 846, 1), none), ((0, 12, 12, 0), none), ((0, 0, 1, 1), none), ((0, 0, 300, 1), none), ((2, 847, 847, 1), none), ((0, 12, 12, 0), none), ((0, 0, 1, 1), none), ((0, 0, 300, 1), none), ((0, (-300), 300, 1), none)], [(0, 0), (1, 1), (2, 2), (3, 3), (4, 4), (5, 5)], [3], [(10, 12, 13), (6, 8, 9)], [], [(100000, 14, 5), (600014, 9, 13), (800013, 10, 12), (900012, 1, 11), (800009, 6, 8), (900008, 1, 7)], [], [], some []))
def kh_hSends_b8_5 : sg_T := (108, 0, ([((2, 805, 805, 0), none), ((0, 0, 23, 1), none), ((0, (-2147483648), 2147483647, 1), none), ((0, 1, 300, 1), none), ((0, 0, 300, 1), none), ((0, 1, 300, 1), none), ((2, 846, 846, 1), none), ((0, 12, 12, 0), none), ((0, 0, 1, 1), none), ((0, 0, 300, 1), none), ((2, 847, 847, 1), none), ((0, 12, 12, 0), none), ((0, 0, 1, 1), none), ((0, 0, 300, 1), none), ((0, 1, 300, 1), none)], [(0, 0), (1, 1), (2, 2), (3, 3), (4, 4), (5, 5)], [3], [(10, 12, 13), (6, 8, 9)], [(3, 0)], [(200000, 5, 14), (600014, 9, 13), (800013, 10, 12), (900012, 1, 11), (800009, 6, 8), (900008, 1, 7)], [], [], some []))
def kh_hSends_b8_6 : sg_T := (8, 0, ([((2, 805, 805, 0), none), ((0, 0, 23, 1), none), ((0, 0, 2147483647, 1), none), ((0, 0, 0, 1), none), ((0, 0, 300, 1), none), ((0, 1, 300, 1), none), ((2, 846, 846, 1), none), ((0, 12, 12, 0), none), ((0, 0, 1, 1), none), ((0, 0, 300, 1), none), ((2, 847, 847, 1), none), ((0, 12, 12, 0), none), ((0, 0, 1, 1), none), ((0, 0, 300, 1), none), ((0, 1, 300, 1), none), ((0, (-1), (-1), 0), none), ((0, (-1), (-1), 0), none), ((0, 0, 0, 0), none), ((0, 2, 301, 1), some (5, 1))], [(5, 18), (3, 17), (4, 4), (6, 15), (0, 0), (1, 1), (2, 2)], [], [(10, 12, 13), (6, 8, 9)], [], [(100000, 15, 2), (300000, 15, 16), (200000, 5, 14), (600014, 9, 13), (800013, 10, 12), (900012, 1, 11), (800009, 6, 8), (900008, 1, 7)], [], [], some []))
def kh_hSends_b8_7 : sg_T := (8, 0, ([((2, 805, 805, 0), none), ((0, 0, 23, 1), none), ((0, (-2147483648), (-1), 1), none), ((0, 0, 0, 1), none), ((0, 0, 300, 1), none), ((0, 1, 300, 1), none), ((2, 846, 846, 1), none), ((0, 12, 12, 0), none), ((0, 0, 1, 1), none), ((0, 0, 300, 1), none), ((2, 847, 847, 1), none), ((0, 12, 12, 0), none), ((0, 0, 1, 1), none), ((0, 0, 300, 1), none), ((0, 1, 300, 1), none), ((0, (-1), (-1), 0), none), ((0, (-1), (-1), 0), none), ((0, 2, 301, 1), some (5, 1))], [(5, 17), (3, 5), (4, 4), (6, 15), (0, 0), (1, 1), (2, 2)], [], [(10, 12, 13), (6, 8, 9)], [], [(200000, 2, 15), (300000, 15, 16), (200000, 5, 14), (600014, 9, 13), (800013, 10, 12), (900012, 1, 11), (800009, 6, 8), (900008, 1, 7)], [], [], some []))
def kh_hSends_b8_8 : sg_T := (8, 0, ([((2, 805, 805, 0), none), ((0, 0, 23, 1), none), ((0, (-2147483647), 2147483647, 1), none), ((0, 0, 0, 1), none), ((0, 0, 300, 1), none), ((0, 1, 300, 1), none), ((2, 846, 846, 1), none), ((0, 12, 12, 0), none), ((0, 0, 1, 1), none), ((0, 0, 300, 1), none), ((2, 847, 847, 1), none), ((0, 12, 12, 0), none), ((0, 0, 1, 1), none), ((0, 0, 300, 1), none), ((0, 1, 300, 1), none), ((0, (-2147483648), 2147483646, 1), none), ((0, (-1), (-1), 0), none), ((0, 0, 0, 0), none), ((0, 2, 301, 1), some (5, 1))], [(5, 18), (3, 17), (4, 5), (6, 15), (0, 0), (1, 1), (2, 2)], [], [(10, 12, 13), (6, 8, 9)], [(15, (-1))], [(100000, 15, 2), (400000, 15, 16), (200000, 5, 14), (600014, 9, 13), (800013, 10, 12), (900012, 1, 11), (800009, 6, 8), (900008, 1, 7)], [], [], some []))
def kh_hSends_b8_9 : sg_T := (8, 0, ([((2, 805, 805, 0), none), ((0, 0, 23, 1), none), ((0, (-2147483648), 2147483647, 1), none), ((0, 0, 0, 1), none), ((0, 0, 300, 1), none), ((0, 1, 300, 1), none), ((2, 846, 846, 1), none), ((0, 12, 12, 0), none), ((0, 0, 1, 1), none), ((0, 0, 300, 1), none), ((2, 847, 847, 1), none), ((0, 12, 12, 0), none), ((0, 0, 1, 1), none), ((0, 0, 300, 1), none), ((0, 1, 300, 1), none), ((0, (-2147483648), 2147483647, 1), none), ((0, (-1), (-1), 0), none), ((0, 2, 301, 1), some (5, 1))], [(5, 17), (3, 5), (4, 5), (6, 15), (0, 0), (1, 1), (2, 2)], [], [(10, 12, 13), (6, 8, 9)], [(15, (-1))], [(200000, 2, 15), (400000, 15, 16), (200000, 5, 14), (600014, 9, 13), (800013, 10, 12), (900012, 1, 11), (800009, 6, 8), (900008, 1, 7)], [], [], some []))
def kh_hSends_b8_10 : sg_T := (8, 0, ([((2, 805, 805, 0), none), ((0, 0, 23, 1), none), ((0, 0, 2147483647, 1), none), ((0, 0, 0, 1), none), ((0, 0, 300, 1), none), ((0, 1, 300, 1), none), ((2, 846, 846, 1), none), ((0, 12, 12, 0), none), ((0, 0, 1, 1), none), ((0, 0, 300, 1), none), ((2, 847, 847, 1), none), ((0, 12, 12, 0), none), ((0, 0, 1, 1), none), ((0, 0, 300, 1), none), ((0, 1, 300, 1), none), ((0, (-1), (-1), 1), none), ((0, (-1), (-1), 0), none), ((0, 0, 0, 0), none), ((0, 2, 301, 1), some (5, 1))], [(5, 18), (3, 17), (4, 4), (6, 15), (0, 0), (1, 1), (2, 2)], [], [(10, 12, 13), (6, 8, 9)], [], [(100000, 15, 2), (300000, 15, 16), (200000, 5, 14), (600014, 9, 13), (800013, 10, 12), (900012, 1, 11), (800009, 6, 8), (900008, 1, 7)], [], [], some []))
def kh_hSends_b8_11 : sg_T := (8, 0, ([((2, 805, 805, 0), none), ((0, 0, 23, 1), none), ((0, (-2147483648), (-1), 1), none), ((0, 0, 0, 1), none), ((0, 0, 300, 1), none), ((0, 1, 300, 1), none), ((2, 846, 846, 1), none), ((0, 12, 12, 0), none), ((0, 0, 1, 1), none), ((0, 0, 300, 1), none), ((2, 847, 847, 1), none), ((0, 12, 12, 0), none), ((0, 0, 1, 1), none), ((0, 0, 300, 1), none), ((0, 1, 300, 1), none), ((0, (-1), (-1), 1), none), ((0, (-1), (-1), 0), none), ((0, 2, 301, 1), some (5, 1))], [(5, 17), (3, 5), (4, 4), (6, 15), (0, 0), (1, 1), (2, 2)], [], [(10, 12, 13), (6, 8, 9)], [], [(200000, 2, 15), (300000, 15, 16), (200000, 5, 14), (600014, 9, 13), (800013, 10, 12), (900012, 1, 11), (800009, 6, 8), (900008, 1, 7)], [], [], some []))
theorem kh_hSends_ok : ct_ok wd_fl1 kh_hSends := ct_hand (ff := wd_ff1) (y := kh_hSends_y) (Cs := [kh_426, kh_427, kh_428, kh_429, kh_430, kh_431, kh_432, kh_433, kh_434, kh_435, kh_436, kh_437, kh_438, kh_439, kh_440, kh_441, kh_442, kh_443, kh_444, kh_445, kh_446, kh_447, kh_448, kh_449, kh_450, kh_451, kh_452, kh_453, kh_454, kh_455, kh_456, kh_457, kh_458, kh_459]) wd_fl1_ok rfl (List.forall_mem_cons.mpr ⟨kh_426_ok, (List.forall_mem_cons.mpr ⟨kh_427_ok, (List.forall_mem_cons.mpr ⟨kh_428_ok, (List.forall_mem_cons.mpr ⟨kh_429_ok, (List.forall_mem_cons.mpr ⟨kh_430_ok, (List.forall_mem_cons.mpr ⟨kh_431_ok, (List.forall_mem_cons.mpr ⟨kh_432_ok, (List.forall_mem_cons.mpr ⟨kh_433_ok, (List.forall_mem_cons.mpr ⟨kh_434_ok, (List.forall_mem_cons.mpr ⟨kh_435_ok, (List.forall_mem_cons.mpr ⟨kh_436_ok, (List.forall_mem_cons.mpr ⟨kh_437_ok, (List.forall_mem_cons.mpr ⟨kh_438_ok, (List.forall_mem_cons.mpr ⟨kh_439_ok, (List.forall_mem_cons.mpr ⟨kh_440_ok, (List.forall_mem_cons.mpr ⟨kh_441_ok, (List.forall_mem_cons.mpr ⟨kh_442_ok, (List.forall_mem_cons.mpr ⟨kh_443_ok, (List.forall_mem_cons.mpr ⟨kh_444_ok, (List.forall_mem_cons.mpr ⟨kh_445_ok, (List.forall_mem_cons.mpr ⟨kh_446_ok, (List.forall_mem_cons.mpr ⟨kh_447_ok, (List.forall_mem_cons.mpr ⟨kh_448_ok, (List.forall_mem_cons.mpr ⟨kh_449_ok, (List.forall_mem_cons.mpr ⟨kh_450_ok, (List.forall_mem_cons.mpr ⟨kh_451_ok, (List.forall_mem_cons.mpr ⟨kh_452_ok, (List.forall_mem_cons.mpr ⟨kh_453_ok, (List.forall_mem_cons.mpr ⟨kh_454_ok, (List.forall_mem_cons.mpr ⟨kh_455_ok, (List.forall_mem_cons.mpr ⟨kh_456_ok, (List.forall_mem_cons.mpr ⟨kh_457_ok, (List.forall_mem_cons.mpr ⟨kh_458_ok, (List.forall_mem_cons.mpr ⟨kh_459_ok, (List.forall_mem_nil _)⟩)⟩)⟩)⟩)⟩)⟩)⟩)⟩)⟩)⟩)⟩)⟩)⟩)⟩)⟩)⟩)⟩)⟩)⟩)⟩)⟩)⟩)⟩)⟩)⟩)⟩)⟩)⟩)⟩)⟩)⟩)⟩)⟩)⟩) (by decide +kernel) (fun l D tc ad kd N sm xs S p e s m args below meth c sz lv G H0 => by
  have hx : xs.length = 3 := by rw [H0.2.1.1]; rfl
  have hP : ∀ (k : Nat), (∀ (α : List av_X) (lv : List (Nat × Value)) (S1 : fw_S), as_in ad sm wd_fl1 xs S kh_hSends.2.2.2.2.2.1 α kh_hSends_a8.2.2.1 lv [] S1 → (0 ≤ nv α 3 ∧ 0 ≤ nv α 4 ∧ 1 ≤ nv α 5 ∧ (nv α 3 = 0 ∨ nv α 3 ≤ hLeft S1 (nv α 1)) ∧ (nv α 4 = 0 ∨ nv α 4 ≤ hLeft S1 (nv α 1))) → (400 - nv α 5).toNat < k → hd_W wd_fl1 kh_hSends kh_hSends_y l D tc ad kd N sm xs S p e s m args below meth c sz 8 lv [] S1 0) ∧ True := by
    intro k
    induction k with
    | zero => exact ⟨fun _ _ _ _ _ h => absurd h (Nat.not_lt_zero _), trivial⟩
    | succ k ih =>
    refine ⟨?_, trivial⟩
    · intro α lv S1 H hp hk
      obtain ⟨α1, hle, Hr⟩ := as_recM (pl := []) [] (by decide +kernel) H
      have hf := H.2.2.2.2.2.2.2.2.2.2.1
      have hl1 : α1.length = 6 := by rw [Hr.2.1.1]; rfl
      have hl0 : α.length = 6 := by rw [H.2.1.1]; rfl
      have hxa : al_le xs α1 := H.1.trans hle
      obtain ⟨g1, -, g3, g4, -⟩ := as_fx Hr
      have g0 : (805 ≤ nv α1 0 ∧ nv α1 0 ≤ 805) ∧ (0 ≤ nv α1 1 ∧ nv α1 1 ≤ 23) ∧ ((-2147483648) ≤ nv α1 2 ∧ nv α1 2 ≤ 2147483647) ∧ (0 ≤ nv α1 3 ∧ nv α1 3 ≤ 300) ∧ (0 ≤ nv α1 4 ∧ nv α1 4 ≤ 300) ∧ (1 ≤ nv α1 5 ∧ nv α1 5 ≤ 339) ∧ True := by
        refine ⟨by have h := (en_nv (i := 0) Hr.2.1 rfl).2; exact h, by have h := (en_nv (i := 1) Hr.2.1 rfl).2; exact h, by have h := (en_nv (i := 2) Hr.2.1 rfl).2; exact h, by have h := (en_nv (i := 3) Hr.2.1 rfl).2; exact h, by have h := (en_nv (i := 4) Hr.2.1 rfl).2; exact h, by have h := (en_nv (i := 5) Hr.2.1 rfl).2; exact h, trivial⟩
      have r0 : nv α1 0 = nv α 0 := nv_le hle (by omega)
      have r1 : nv α1 1 = nv α 1 := nv_le hle (by omega)
      have r2 : nv α1 2 = nv α 2 := nv_le hle (by omega)
      have r3 : nv α1 3 = nv α 3 := nv_le hle (by omega)
      have r4 : nv α1 4 = nv α 4 := nv_le hle (by omega)
      have r5 : nv α1 5 = nv α 5 := nv_le hle (by omega)
      refine hd_segM G (na := 6) (fuel := 600) (first := true) (Bs := [kh_hSends_b8_0, kh_hSends_b8_1, kh_hSends_b8_2, kh_hSends_b8_3, kh_hSends_b8_4, kh_hSends_b8_5, kh_hSends_b8_6, kh_hSends_b8_7, kh_hSends_b8_8, kh_hSends_b8_9, kh_hSends_b8_10, kh_hSends_b8_11]) (by decide +kernel) hl1 Hr ?_
      intro q hq β lv' st' S' H1
      simp only [List.mem_cons, List.not_mem_nil, or_false] at hq
      rcases hq with rfl | rfl | rfl | rfl | rfl | rfl | rfl | rfl | rfl | rfl | rfl | rfl
      · obtain ⟨f1, f2, f3, f4, f5⟩ := as_fx H1
        simp only [kh_hSends_b8_0, fx_env, fx_c, fx_ne, fx_hf, wl_S, Nat.zero_add, Nat.reduceAdd, Nat.reduceDiv, Nat.reduceMod, List.getElem?_cons_zero, List.getElem?_cons_succ, if_true, and_true, true_and] at f1 f2 f3 f4 f5
        have fe0 : nv β 0 = 805 := by omega
        have fe3 : nv β 3 = 0 := by omega
        have fe4 : nv β 4 = 0 := by omega
        have fe6 : nv β 6 = 846 := by omega
        have fe7 : nv β 7 = 12 := by omega
        have fe10 : nv β 10 = 847 := by omega
        have fe11 : nv β 11 = 12 := by omega
        have fe15 : nv β 15 = 0 := by omega
        try simp only [fe0, fe3, fe4, fe6, fe7, fe10, fe11, fe15, Int.reduceToNat] at f2 f3 f4 f5
        have s0 : nv β 0 = nv α1 0 := nv_le H1.1 (by omega)
        have s1 : nv β 1 = nv α1 1 := nv_le H1.1 (by omega)
        have s2 : nv β 2 = nv α1 2 := nv_le H1.1 (by omega)
        have s3 : nv β 3 = nv α1 3 := nv_le H1.1 (by omega)
        have s4 : nv β 4 = nv α1 4 := nv_le H1.1 (by omega)
        have s5 : nv β 5 = nv α1 5 := nv_le H1.1 (by omega)
        obtain ⟨c0, c1, c2, c3, c4, c5⟩ := f2
        have o2 := old_0 c2 rfl
        have o4 := old_0 c4 rfl
        have hD : hLeft S1 (nv α 1) = nv β 14 := by
          unfold hLeft
          rw [show nv α 1 / 12 = nv β 8 by omega, show nv β 8 = nv β 8 by omega]
          rw [show nv β 12 = nv β 8 by omega] at o2
          omega
        have eS : S1 = S := fr_same (show fr_in [] S S1 from hf)
        have z1 : nv α 1 = nv xs 1 := nv_le H.1 (by omega)
        rw [hD] at hp
        refine hd_retI G (v := 15) (by decide +kernel) (as_backM H1 (by decide +kernel) hxa hf) _ List.mem_cons_self rfl (by decide +kernel) (by decide) (fun w hw => ?_)
        rcases List.mem_singleton.mp hw with rfl
        have g0' := (en_nv (i := 1) H0.2.1 rfl).1
        refine ⟨_, _, g0', g0', ?_⟩
        rw [wd_fl1, if_neg (by decide)]
        show nv β 15 = 0 ∨ (1 ≤ nv β 15 ∧ nv β 15 ≤ hLeft S (nv xs 1))
        rw [← z1, ← eS, hD]
        omega
      · obtain ⟨f1, f2, f3, f4, f5⟩ := as_fx H1
        simp only [kh_hSends_b8_1, fx_env, fx_c, fx_ne, fx_hf, wl_S, Nat.zero_add, Nat.reduceAdd, Nat.reduceDiv, Nat.reduceMod, List.getElem?_cons_zero, List.getElem?_cons_succ, if_true, and_true, true_and] at f1 f2 f3 f4 f5
        have fe0 : nv β 0 = 805 := by omega
        have fe3 : nv β 3 = 0 := by omega
        have fe6 : nv β 6 = 846 := by omega
        have fe7 : nv β 7 = 12 := by omega
        have fe10 : nv β 10 = 847 := by omega
        have fe11 : nv β 11 = 12 := by omega
        have fe15 : nv β 15 = (-1) := by omega
        have fe16 : nv β 16 = 0 := by omega
        try simp only [fe0, fe3, fe6, fe7, fe10, fe11, fe15, fe16, Int.reduceToNat] at f2 f3 f4 f5
        have s0 : nv β 0 = nv α1 0 := nv_le H1.1 (by omega)
        have s1 : nv β 1 = nv α1 1 := nv_le H1.1 (by omega)
        have s2 : nv β 2 = nv α1 2 := nv_le H1.1 (by omega)
        have s3 : nv β 3 = nv α1 3 := nv_le H1.1 (by omega)
        have s4 : nv β 4 = nv α1 4 := nv_le H1.1 (by omega)
        have s5 : nv β 5 = nv α1 5 := nv_le H1.1 (by omega)
        obtain ⟨c0, c1, c2, c3, c4, c5⟩ := f2
        have o2 := old_0 c2 rfl
        have o4 := old_0 c4 rfl
        have hD : hLeft S1 (nv α 1) = nv β 14 := by
          unfold hLeft
          rw [show nv α 1 / 12 = nv β 8 by omega, show nv β 8 = nv β 8 by omega]
          rw [show nv β 12 = nv β 8 by omega] at o2
          omega
        have eS : S1 = S := fr_same (show fr_in [] S S1 from hf)
        have z1 : nv α 1 = nv xs 1 := nv_le H.1 (by omega)
        rw [hD] at hp
        refine hd_retI G (v := 16) (by decide +kernel) (as_backM H1 (by decide +kernel) hxa hf) _ List.mem_cons_self rfl (by decide +kernel) (by decide) (fun w hw => ?_)
        rcases List.mem_singleton.mp hw with rfl
        have g0' := (en_nv (i := 1) H0.2.1 rfl).1
        refine ⟨_, _, g0', g0', ?_⟩
        rw [wd_fl1, if_neg (by decide)]
        show nv β 16 = 0 ∨ (1 ≤ nv β 16 ∧ nv β 16 ≤ hLeft S (nv xs 1))
        rw [← z1, ← eS, hD]
        omega
      · obtain ⟨f1, f2, f3, f4, f5⟩ := as_fx H1
        simp only [kh_hSends_b8_2, fx_env, fx_c, fx_ne, fx_hf, wl_S, Nat.zero_add, Nat.reduceAdd, Nat.reduceDiv, Nat.reduceMod, List.getElem?_cons_zero, List.getElem?_cons_succ, if_true, and_true, true_and] at f1 f2 f3 f4 f5
        have fe0 : nv β 0 = 805 := by omega
        have fe3 : nv β 3 = 0 := by omega
        have fe6 : nv β 6 = 846 := by omega
        have fe7 : nv β 7 = 12 := by omega
        have fe10 : nv β 10 = 847 := by omega
        have fe11 : nv β 11 = 12 := by omega
        have fe16 : nv β 16 = 0 := by omega
        try simp only [fe0, fe3, fe6, fe7, fe10, fe11, fe16, Int.reduceToNat] at f2 f3 f4 f5
        have s0 : nv β 0 = nv α1 0 := nv_le H1.1 (by omega)
        have s1 : nv β 1 = nv α1 1 := nv_le H1.1 (by omega)
        have s2 : nv β 2 = nv α1 2 := nv_le H1.1 (by omega)
        have s3 : nv β 3 = nv α1 3 := nv_le H1.1 (by omega)
        have s4 : nv β 4 = nv α1 4 := nv_le H1.1 (by omega)
        have s5 : nv β 5 = nv α1 5 := nv_le H1.1 (by omega)
        obtain ⟨c0, c1, c2, c3, c4, c5⟩ := f2
        have o2 := old_0 c2 rfl
        have o4 := old_0 c4 rfl
        have hD : hLeft S1 (nv α 1) = nv β 14 := by
          unfold hLeft
          rw [show nv α 1 / 12 = nv β 8 by omega, show nv β 8 = nv β 8 by omega]
          rw [show nv β 12 = nv β 8 by omega] at o2
          omega
        have eS : S1 = S := fr_same (show fr_in [] S S1 from hf)
        have z1 : nv α 1 = nv xs 1 := nv_le H.1 (by omega)
        rw [hD] at hp
        refine hd_retI G (v := 16) (by decide +kernel) (as_backM H1 (by decide +kernel) hxa hf) _ List.mem_cons_self rfl (by decide +kernel) (by decide) (fun w hw => ?_)
        rcases List.mem_singleton.mp hw with rfl
        have g0' := (en_nv (i := 1) H0.2.1 rfl).1
        refine ⟨_, _, g0', g0', ?_⟩
        rw [wd_fl1, if_neg (by decide)]
        show nv β 16 = 0 ∨ (1 ≤ nv β 16 ∧ nv β 16 ≤ hLeft S (nv xs 1))
        rw [← z1, ← eS, hD]
        omega
      · obtain ⟨f1, f2, f3, f4, f5⟩ := as_fx H1
        simp only [kh_hSends_b8_3, fx_env, fx_c, fx_ne, fx_hf, wl_S, Nat.zero_add, Nat.reduceAdd, Nat.reduceDiv, Nat.reduceMod, List.getElem?_cons_zero, List.getElem?_cons_succ, if_true, and_true, true_and] at f1 f2 f3 f4 f5
        have fe0 : nv β 0 = 805 := by omega
        have fe3 : nv β 3 = 0 := by omega
        have fe6 : nv β 6 = 846 := by omega
        have fe7 : nv β 7 = 12 := by omega
        have fe10 : nv β 10 = 847 := by omega
        have fe11 : nv β 11 = 12 := by omega
        try simp only [fe0, fe3, fe6, fe7, fe10, fe11, Int.reduceToNat] at f2 f3 f4 f5
        have s0 : nv β 0 = nv α1 0 := nv_le H1.1 (by omega)
        have s1 : nv β 1 = nv α1 1 := nv_le H1.1 (by omega)
        have s2 : nv β 2 = nv α1 2 := nv_le H1.1 (by omega)
        have s3 : nv β 3 = nv α1 3 := nv_le H1.1 (by omega)
        have s4 : nv β 4 = nv α1 4 := nv_le H1.1 (by omega)
        have s5 : nv β 5 = nv α1 5 := nv_le H1.1 (by omega)
        obtain ⟨c0, c1, c2, c3, c4, c5⟩ := f2
        have o2 := old_0 c2 rfl
        have o4 := old_0 c4 rfl
        have hD : hLeft S1 (nv α 1) = nv β 14 := by
          unfold hLeft
          rw [show nv α 1 / 12 = nv β 8 by omega, show nv β 8 = nv β 8 by omega]
          rw [show nv β 12 = nv β 8 by omega] at o2
          omega
        have eS : S1 = S := fr_same (show fr_in [] S S1 from hf)
        have z1 : nv α 1 = nv xs 1 := nv_le H.1 (by omega)
        rw [hD] at hp
        refine hd_retI G (v := 4) (by decide +kernel) (as_backM H1 (by decide +kernel) hxa hf) _ List.mem_cons_self rfl (by decide +kernel) (by decide) (fun w hw => ?_)
        rcases List.mem_singleton.mp hw with rfl
        have g0' := (en_nv (i := 1) H0.2.1 rfl).1
        refine ⟨_, _, g0', g0', ?_⟩
        rw [wd_fl1, if_neg (by decide)]
        show nv β 4 = 0 ∨ (1 ≤ nv β 4 ∧ nv β 4 ≤ hLeft S (nv xs 1))
        rw [← z1, ← eS, hD]
        omega
      · obtain ⟨f1, f2, f3, f4, f5⟩ := as_fx H1
        simp only [kh_hSends_b8_4, fx_env, fx_c, fx_ne, fx_hf, wl_S, Nat.zero_add, Nat.reduceAdd, Nat.reduceDiv, Nat.reduceMod, List.getElem?_cons_zero, List.getElem?_cons_succ, if_true, and_true, true_and] at f1 f2 f3 f4 f5
        have fe0 : nv β 0 = 805 := by omega
        have fe6 : nv β 6 = 846 := by omega
        have fe7 : nv β 7 = 12 := by omega
        have fe10 : nv β 10 = 847 := by omega
        have fe11 : nv β 11 = 12 := by omega
        try simp only [fe0, fe6, fe7, fe10, fe11, Int.reduceToNat] at f2 f3 f4 f5
        have s0 : nv β 0 = nv α1 0 := nv_le H1.1 (by omega)
        have s1 : nv β 1 = nv α1 1 := nv_le H1.1 (by omega)
        have s2 : nv β 2 = nv α1 2 := nv_le H1.1 (by omega)
        have s3 : nv β 3 = nv α1 3 := nv_le H1.1 (by omega)
        have s4 : nv β 4 = nv α1 4 := nv_le H1.1 (by omega)
        have s5 : nv β 5 = nv α1 5 := nv_le H1.1 (by omega)
        obtain ⟨c0, c1, c2, c3, c4, c5⟩ := f2
        have o2 := old_0 c2 rfl
        have o4 := old_0 c4 rfl
        have hD : hLeft S1 (nv α 1) = nv β 14 := by
          unfold hLeft
          rw [show nv α 1 / 12 = nv β 8 by omega, show nv β 8 = nv β 8 by omega]
          rw [show nv β 12 = nv β 8 by omega] at o2
          omega
        have eS : S1 = S := fr_same (show fr_in [] S S1 from hf)
        have z1 : nv α 1 = nv xs 1 := nv_le H.1 (by omega)
        rw [hD] at hp
        refine hd_retI G (v := 3) (by decide +kernel) (as_backM H1 (by decide +kernel) hxa hf) _ List.mem_cons_self rfl (by decide +kernel) (by decide) (fun w hw => ?_)
        rcases List.mem_singleton.mp hw with rfl
        have g0' := (en_nv (i := 1) H0.2.1 rfl).1
        refine ⟨_, _, g0', g0', ?_⟩
        rw [wd_fl1, if_neg (by decide)]
        show nv β 3 = 0 ∨ (1 ≤ nv β 3 ∧ nv β 3 ≤ hLeft S (nv xs 1))
        rw [← z1, ← eS, hD]
        omega
      · obtain ⟨f1, f2, f3, f4, f5⟩ := as_fx H1
        simp only [kh_hSends_b8_5, fx_env, fx_c, fx_ne, fx_hf, wl_S, Nat.zero_add, Nat.reduceAdd, Nat.reduceDiv, Nat.reduceMod, List.getElem?_cons_zero, List.getElem?_cons_succ, if_true, and_true, true_and] at f1 f2 f3 f4 f5
        have fe0 : nv β 0 = 805 := by omega
        have fe6 : nv β 6 = 846 := by omega
        have fe7 : nv β 7 = 12 := by omega
        have fe10 : nv β 10 = 847 := by omega
        have fe11 : nv β 11 = 12 := by omega
        try simp only [fe0, fe6, fe7, fe10, fe11, Int.reduceToNat] at f2 f3 f4 f5
        have s0 : nv β 0 = nv α1 0 := nv_le H1.1 (by omega)
        have s1 : nv β 1 = nv α1 1 := nv_le H1.1 (by omega)
        have s2 : nv β 2 = nv α1 2 := nv_le H1.1 (by omega)
        have s3 : nv β 3 = nv α1 3 := nv_le H1.1 (by omega)
        have s4 : nv β 4 = nv α1 4 := nv_le H1.1 (by omega)
        have s5 : nv β 5 = nv α1 5 := nv_le H1.1 (by omega)
        obtain ⟨c0, c1, c2, c3, c4, c5⟩ := f2
        have o2 := old_0 c2 rfl
        have o4 := old_0 c4 rfl
        have hD : hLeft S1 (nv α 1) = nv β 14 := by
          unfold hLeft
          rw [show nv α 1 / 12 = nv β 8 by omega, show nv β 8 = nv β 8 by omega]
          rw [show nv β 12 = nv β 8 by omega] at o2
          omega
        have eS : S1 = S := fr_same (show fr_in [] S S1 from hf)
        have z1 : nv α 1 = nv xs 1 := nv_le H.1 (by omega)
        rw [hD] at hp
        refine hd_retI G (v := 3) (by decide +kernel) (as_backM H1 (by decide +kernel) hxa hf) _ List.mem_cons_self rfl (by decide +kernel) (by decide) (fun w hw => ?_)
        rcases List.mem_singleton.mp hw with rfl
        have g0' := (en_nv (i := 1) H0.2.1 rfl).1
        refine ⟨_, _, g0', g0', ?_⟩
        rw [wd_fl1, if_neg (by decide)]
        show nv β 3 = 0 ∨ (1 ≤ nv β 3 ∧ nv β 3 ≤ hLeft S (nv xs 1))
        rw [← z1, ← eS, hD]
        omega
      · have hst := st_nil H1 rfl
        subst hst
        obtain ⟨f1, f2, f3, f4, f5⟩ := as_fx H1
        simp only [kh_hSends_b8_6, fx_env, fx_c, fx_ne, fx_hf, wl_S, Nat.zero_add, Nat.reduceAdd, Nat.reduceDiv, Nat.reduceMod, List.getElem?_cons_zero, List.getElem?_cons_succ, if_true, and_true, true_and] at f1 f2 f3 f4 f5
        have fe0 : nv β 0 = 805 := by omega
        have fe3 : nv β 3 = 0 := by omega
        have fe6 : nv β 6 = 846 := by omega
        have fe7 : nv β 7 = 12 := by omega
        have fe10 : nv β 10 = 847 := by omega
        have fe11 : nv β 11 = 12 := by omega
        have fe15 : nv β 15 = (-1) := by omega
        have fe16 : nv β 16 = (-1) := by omega
        have fe17 : nv β 17 = 0 := by omega
        try simp only [fe0, fe3, fe6, fe7, fe10, fe11, fe15, fe16, fe17, Int.reduceToNat] at f2 f3 f4 f5
        have s0 : nv β 0 = nv α1 0 := nv_le H1.1 (by omega)
        have s1 : nv β 1 = nv α1 1 := nv_le H1.1 (by omega)
        have s2 : nv β 2 = nv α1 2 := nv_le H1.1 (by omega)
        have s3 : nv β 3 = nv α1 3 := nv_le H1.1 (by omega)
        have s4 : nv β 4 = nv α1 4 := nv_le H1.1 (by omega)
        have s5 : nv β 5 = nv α1 5 := nv_le H1.1 (by omega)
        obtain ⟨c0, c1, c2, c3, c4, c5, c6, c7⟩ := f2
        obtain ⟨α', Ha, hm⟩ := hd_gpM (q := kh_hSends_a8) (n := 0) (by decide +kernel) hx H1 (by decide +kernel) hxa hf
        have hfr := H1.2.2.2.2.2.2.2.2.2.2.1
        have m0 : nv α' 0 = nv β 0 := hm 0 0 rfl
        have m1 : nv α' 1 = nv β 1 := hm 1 1 rfl
        have m2 : nv α' 2 = nv β 2 := hm 2 2 rfl
        have m3 : nv α' 3 = nv β 17 := hm 3 17 rfl
        have m4 : nv α' 4 = nv β 4 := hm 4 4 rfl
        have m5 : nv α' 5 = nv β 18 := hm 5 18 rfl
        subst S'
        have o4 := old_0 c4 rfl
        have o6 := old_0 c6 rfl
        have hD : hLeft S1 (nv α 1) = nv β 14 := by
          unfold hLeft
          rw [show nv α 1 / 12 = nv β 8 by omega, show nv β 8 = nv β 8 by omega]
          rw [show nv β 12 = nv β 8 by omega] at o4
          omega
        refine ih.1 _ _ _ Ha ?_ ?_
        · rw [m1, m3, m4, m5, s1, r1, hD]
          have := hp
          rw [hD] at this
          refine ⟨?_, ?_, ?_, ?_, ?_⟩ <;> omega
        · omega
      · have hst := st_nil H1 rfl
        subst hst
        obtain ⟨f1, f2, f3, f4, f5⟩ := as_fx H1
        simp only [kh_hSends_b8_7, fx_env, fx_c, fx_ne, fx_hf, wl_S, Nat.zero_add, Nat.reduceAdd, Nat.reduceDiv, Nat.reduceMod, List.getElem?_cons_zero, List.getElem?_cons_succ, if_true, and_true, true_and] at f1 f2 f3 f4 f5
        have fe0 : nv β 0 = 805 := by omega
        have fe3 : nv β 3 = 0 := by omega
        have fe6 : nv β 6 = 846 := by omega
        have fe7 : nv β 7 = 12 := by omega
        have fe10 : nv β 10 = 847 := by omega
        have fe11 : nv β 11 = 12 := by omega
        have fe15 : nv β 15 = (-1) := by omega
        have fe16 : nv β 16 = (-1) := by omega
        try simp only [fe0, fe3, fe6, fe7, fe10, fe11, fe15, fe16, Int.reduceToNat] at f2 f3 f4 f5
        have s0 : nv β 0 = nv α1 0 := nv_le H1.1 (by omega)
        have s1 : nv β 1 = nv α1 1 := nv_le H1.1 (by omega)
        have s2 : nv β 2 = nv α1 2 := nv_le H1.1 (by omega)
        have s3 : nv β 3 = nv α1 3 := nv_le H1.1 (by omega)
        have s4 : nv β 4 = nv α1 4 := nv_le H1.1 (by omega)
        have s5 : nv β 5 = nv α1 5 := nv_le H1.1 (by omega)
        obtain ⟨c0, c1, c2, c3, c4, c5, c6, c7⟩ := f2
        obtain ⟨α', Ha, hm⟩ := hd_gpM (q := kh_hSends_a8) (n := 0) (by decide +kernel) hx H1 (by decide +kernel) hxa hf
        have hfr := H1.2.2.2.2.2.2.2.2.2.2.1
        have m0 : nv α' 0 = nv β 0 := hm 0 0 rfl
        have m1 : nv α' 1 = nv β 1 := hm 1 1 rfl
        have m2 : nv α' 2 = nv β 2 := hm 2 2 rfl
        have m3 : nv α' 3 = nv β 5 := hm 3 5 rfl
        have m4 : nv α' 4 = nv β 4 := hm 4 4 rfl
        have m5 : nv α' 5 = nv β 17 := hm 5 17 rfl
        subst S'
        have o4 := old_0 c4 rfl
        have o6 := old_0 c6 rfl
        have hD : hLeft S1 (nv α 1) = nv β 14 := by
          unfold hLeft
          rw [show nv α 1 / 12 = nv β 8 by omega, show nv β 8 = nv β 8 by omega]
          rw [show nv β 12 = nv β 8 by omega] at o4
          omega
        refine ih.1 _ _ _ Ha ?_ ?_
        · rw [m1, m3, m4, m5, s1, r1, hD]
          have := hp
          rw [hD] at this
          refine ⟨?_, ?_, ?_, ?_, ?_⟩ <;> omega
        · omega
      · have hst := st_nil H1 rfl
        subst hst
        obtain ⟨f1, f2, f3, f4, f5⟩ := as_fx H1
        simp only [kh_hSends_b8_8, fx_env, fx_c, fx_ne, fx_hf, wl_S, Nat.zero_add, Nat.reduceAdd, Nat.reduceDiv, Nat.reduceMod, List.getElem?_cons_zero, List.getElem?_cons_succ, if_true, and_true, true_and] at f1 f2 f3 f4 f5
        have fe0 : nv β 0 = 805 := by omega
        have fe3 : nv β 3 = 0 := by omega
        have fe6 : nv β 6 = 846 := by omega
        have fe7 : nv β 7 = 12 := by omega
        have fe10 : nv β 10 = 847 := by omega
        have fe11 : nv β 11 = 12 := by omega
        have fe16 : nv β 16 = (-1) := by omega
        have fe17 : nv β 17 = 0 := by omega
        try simp only [fe0, fe3, fe6, fe7, fe10, fe11, fe16, fe17, Int.reduceToNat] at f2 f3 f4 f5
        have s0 : nv β 0 = nv α1 0 := nv_le H1.1 (by omega)
        have s1 : nv β 1 = nv α1 1 := nv_le H1.1 (by omega)
        have s2 : nv β 2 = nv α1 2 := nv_le H1.1 (by omega)
        have s3 : nv β 3 = nv α1 3 := nv_le H1.1 (by omega)
        have s4 : nv β 4 = nv α1 4 := nv_le H1.1 (by omega)
        have s5 : nv β 5 = nv α1 5 := nv_le H1.1 (by omega)
        obtain ⟨c0, c1, c2, c3, c4, c5, c6, c7⟩ := f2
        obtain ⟨α', Ha, hm⟩ := hd_gpM (q := kh_hSends_a8) (n := 0) (by decide +kernel) hx H1 (by decide +kernel) hxa hf
        have hfr := H1.2.2.2.2.2.2.2.2.2.2.1
        have m0 : nv α' 0 = nv β 0 := hm 0 0 rfl
        have m1 : nv α' 1 = nv β 1 := hm 1 1 rfl
        have m2 : nv α' 2 = nv β 2 := hm 2 2 rfl
        have m3 : nv α' 3 = nv β 17 := hm 3 17 rfl
        have m4 : nv α' 4 = nv β 5 := hm 4 5 rfl
        have m5 : nv α' 5 = nv β 18 := hm 5 18 rfl
        subst S'
        have o4 := old_0 c4 rfl
        have o6 := old_0 c6 rfl
        have hD : hLeft S1 (nv α 1) = nv β 14 := by
          unfold hLeft
          rw [show nv α 1 / 12 = nv β 8 by omega, show nv β 8 = nv β 8 by omega]
          rw [show nv β 12 = nv β 8 by omega] at o4
          omega
        refine ih.1 _ _ _ Ha ?_ ?_
        · rw [m1, m3, m4, m5, s1, r1, hD]
          have := hp
          rw [hD] at this
          refine ⟨?_, ?_, ?_, ?_, ?_⟩ <;> omega
        · omega
      · have hst := st_nil H1 rfl
        subst hst
        obtain ⟨f1, f2, f3, f4, f5⟩ := as_fx H1
        simp only [kh_hSends_b8_9, fx_env, fx_c, fx_ne, fx_hf, wl_S, Nat.zero_add, Nat.reduceAdd, Nat.reduceDiv, Nat.reduceMod, List.getElem?_cons_zero, List.getElem?_cons_succ, if_true, and_true, true_and] at f1 f2 f3 f4 f5
        have fe0 : nv β 0 = 805 := by omega
        have fe3 : nv β 3 = 0 := by omega
        have fe6 : nv β 6 = 846 := by omega
        have fe7 : nv β 7 = 12 := by omega
        have fe10 : nv β 10 = 847 := by omega
        have fe11 : nv β 11 = 12 := by omega
        have fe16 : nv β 16 = (-1) := by omega
        try simp only [fe0, fe3, fe6, fe7, fe10, fe11, fe16, Int.reduceToNat] at f2 f3 f4 f5
        have s0 : nv β 0 = nv α1 0 := nv_le H1.1 (by omega)
        have s1 : nv β 1 = nv α1 1 := nv_le H1.1 (by omega)
        have s2 : nv β 2 = nv α1 2 := nv_le H1.1 (by omega)
        have s3 : nv β 3 = nv α1 3 := nv_le H1.1 (by omega)
        have s4 : nv β 4 = nv α1 4 := nv_le H1.1 (by omega)
        have s5 : nv β 5 = nv α1 5 := nv_le H1.1 (by omega)
        obtain ⟨c0, c1, c2, c3, c4, c5, c6, c7⟩ := f2
        obtain ⟨α', Ha, hm⟩ := hd_gpM (q := kh_hSends_a8) (n := 0) (by decide +kernel) hx H1 (by decide +kernel) hxa hf
        have hfr := H1.2.2.2.2.2.2.2.2.2.2.1
        have m0 : nv α' 0 = nv β 0 := hm 0 0 rfl
        have m1 : nv α' 1 = nv β 1 := hm 1 1 rfl
        have m2 : nv α' 2 = nv β 2 := hm 2 2 rfl
        have m3 : nv α' 3 = nv β 5 := hm 3 5 rfl
        have m4 : nv α' 4 = nv β 5 := hm 4 5 rfl
        have m5 : nv α' 5 = nv β 17 := hm 5 17 rfl
        subst S'
        have o4 := old_0 c4 rfl
        have o6 := old_0 c6 rfl
        have hD : hLeft S1 (nv α 1) = nv β 14 := by
          unfold hLeft
          rw [show nv α 1 / 12 = nv β 8 by omega, show nv β 8 = nv β 8 by omega]
          rw [show nv β 12 = nv β 8 by omega] at o4
          omega
        refine ih.1 _ _ _ Ha ?_ ?_
        · rw [m1, m3, m4, m5, s1, r1, hD]
          have := hp
          rw [hD] at this
          refine ⟨?_, ?_, ?_, ?_, ?_⟩ <;> omega
        · omega
      · have hst := st_nil H1 rfl
        subst hst
        obtain ⟨f1, f2, f3, f4, f5⟩ := as_fx H1
        simp only [kh_hSends_b8_10, fx_env, fx_c, fx_ne, fx_hf, wl_S, Nat.zero_add, Nat.reduceAdd, Nat.reduceDiv, Nat.reduceMod, List.getElem?_cons_zero, List.getElem?_cons_succ, if_true, and_true, true_and] at f1 f2 f3 f4 f5
        have fe0 : nv β 0 = 805 := by omega
        have fe3 : nv β 3 = 0 := by omega
        have fe6 : nv β 6 = 846 := by omega
        have fe7 : nv β 7 = 12 := by omega
        have fe10 : nv β 10 = 847 := by omega
        have fe11 : nv β 11 = 12 := by omega
        have fe15 : nv β 15 = (-1) := by omega
        have fe16 : nv β 16 = (-1) := by omega
        have fe17 : nv β 17 = 0 := by omega
        try simp only [fe0, fe3, fe6, fe7, fe10, fe11, fe15, fe16, fe17, Int.reduceToNat] at f2 f3 f4 f5
        have s0 : nv β 0 = nv α1 0 := nv_le H1.1 (by omega)
        have s1 : nv β 1 = nv α1 1 := nv_le H1.1 (by omega)
        have s2 : nv β 2 = nv α1 2 := nv_le H1.1 (by omega)
        have s3 : nv β 3 = nv α1 3 := nv_le H1.1 (by omega)
        have s4 : nv β 4 = nv α1 4 := nv_le H1.1 (by omega)
        have s5 : nv β 5 = nv α1 5 := nv_le H1.1 (by omega)
        obtain ⟨c0, c1, c2, c3, c4, c5, c6, c7⟩ := f2
        obtain ⟨α', Ha, hm⟩ := hd_gpM (q := kh_hSends_a8) (n := 0) (by decide +kernel) hx H1 (by decide +kernel) hxa hf
        have hfr := H1.2.2.2.2.2.2.2.2.2.2.1
        have m0 : nv α' 0 = nv β 0 := hm 0 0 rfl
        have m1 : nv α' 1 = nv β 1 := hm 1 1 rfl
        have m2 : nv α' 2 = nv β 2 := hm 2 2 rfl
        have m3 : nv α' 3 = nv β 17 := hm 3 17 rfl
        have m4 : nv α' 4 = nv β 4 := hm 4 4 rfl
        have m5 : nv α' 5 = nv β 18 := hm 5 18 rfl
        subst S'
        have o4 := old_0 c4 rfl
        have o6 := old_0 c6 rfl
        have hD : hLeft S1 (nv α 1) = nv β 14 := by
          unfold hLeft
          rw [show nv α 1 / 12 = nv β 8 by omega, show nv β 8 = nv β 8 by omega]
          rw [show nv β 12 = nv β 8 by omega] at o4
          omega
        refine ih.1 _ _ _ Ha ?_ ?_
        · rw [m1, m3, m4, m5, s1, r1, hD]
          have := hp
          rw [hD] at this
          refine ⟨?_, ?_, ?_, ?_, ?_⟩ <;> omega
        · omega
      · have hst := st_nil H1 rfl
        subst hst
        obtain ⟨f1, f2, f3, f4, f5⟩ := as_fx H1
        simp only [kh_hSends_b8_11, fx_env, fx_c, fx_ne, fx_hf, wl_S, Nat.zero_add, Nat.reduceAdd, Nat.reduceDiv, Nat.reduceMod, List.getElem?_cons_zero, List.getElem?_cons_succ, if_true, and_true, true_and] at f1 f2 f3 f4 f5
        have fe0 : nv β 0 = 805 := by omega
        have fe3 : nv β 3 = 0 := by omega
        have fe6 : nv β 6 = 846 := by omega
        have fe7 : nv β 7 = 12 := by omega
        have fe10 : nv β 10 = 847 := by omega
        have fe11 : nv β 11 = 12 := by omega
        have fe15 : nv β 15 = (-1) := by omega
        have fe16 : nv β 16 = (-1) := by omega
        try simp only [fe0, fe3, fe6, fe7, fe10, fe11, fe15, fe16, Int.reduceToNat] at f2 f3 f4 f5
        have s0 : nv β 0 = nv α1 0 := nv_le H1.1 (by omega)
        have s1 : nv β 1 = nv α1 1 := nv_le H1.1 (by omega)
        have s2 : nv β 2 = nv α1 2 := nv_le H1.1 (by omega)
        have s3 : nv β 3 = nv α1 3 := nv_le H1.1 (by omega)
        have s4 : nv β 4 = nv α1 4 := nv_le H1.1 (by omega)
        have s5 : nv β 5 = nv α1 5 := nv_le H1.1 (by omega)
        obtain ⟨c0, c1, c2, c3, c4, c5, c6, c7⟩ := f2
        obtain ⟨α', Ha, hm⟩ := hd_gpM (q := kh_hSends_a8) (n := 0) (by decide +kernel) hx H1 (by decide +kernel) hxa hf
        have hfr := H1.2.2.2.2.2.2.2.2.2.2.1
        have m0 : nv α' 0 = nv β 0 := hm 0 0 rfl
        have m1 : nv α' 1 = nv β 1 := hm 1 1 rfl
        have m2 : nv α' 2 = nv β 2 := hm 2 2 rfl
        have m3 : nv α' 3 = nv β 5 := hm 3 5 rfl
        have m4 : nv α' 4 = nv β 4 := hm 4 4 rfl
        have m5 : nv α' 5 = nv β 17 := hm 5 17 rfl
        subst S'
        have o4 := old_0 c4 rfl
        have o6 := old_0 c6 rfl
        have hD : hLeft S1 (nv α 1) = nv β 14 := by
          unfold hLeft
          rw [show nv α 1 / 12 = nv β 8 by omega, show nv β 8 = nv β 8 by omega]
          rw [show nv β 12 = nv β 8 by omega] at o4
          omega
        refine ih.1 _ _ _ Ha ?_ ?_
        · rw [m1, m3, m4, m5, s1, r1, hD]
          have := hp
          rw [hD] at this
          refine ⟨?_, ?_, ?_, ?_, ?_⟩ <;> omega
        · omega
  obtain ⟨α1, hle, Hr⟩ := as_recM (pl := []) [] (by decide +kernel) H0
  have hf := H0.2.2.2.2.2.2.2.2.2.2.1
  have hl1 : α1.length = 3 := by rw [Hr.2.1.1]; rfl
  have hl0 : xs.length = 3 := by rw [H0.2.1.1]; rfl
  have hxa : al_le xs α1 := H0.1.trans hle
  obtain ⟨g1, -, g3, g4, -⟩ := as_fx Hr
  have g0 : (805 ≤ nv α1 0 ∧ nv α1 0 ≤ 805) ∧ (0 ≤ nv α1 1 ∧ nv α1 1 ≤ 23) ∧ ((-2147483648) ≤ nv α1 2 ∧ nv α1 2 ≤ 2147483647) ∧ True := by
    refine ⟨by have h := (en_nv (i := 0) Hr.2.1 rfl).2; exact h, by have h := (en_nv (i := 1) Hr.2.1 rfl).2; exact h, by have h := (en_nv (i := 2) Hr.2.1 rfl).2; exact h, trivial⟩
  have r0 : nv α1 0 = nv xs 0 := nv_le hle (by omega)
  have r1 : nv α1 1 = nv xs 1 := nv_le hle (by omega)
  have r2 : nv α1 2 = nv xs 2 := nv_le hle (by omega)
  refine hd_segM G (na := 3) (fuel := 600) (first := true) (Bs := [kh_hSends_b0_0]) (by decide +kernel) hl1 Hr ?_
  intro q hq β lv' st' S' H1
  simp only [List.mem_cons, List.not_mem_nil, or_false] at hq
  rcases hq with rfl
  · have hst := st_nil H1 rfl
    subst hst
    obtain ⟨f1, f2, f3, f4, f5⟩ := as_fx H1
    simp only [kh_hSends_b0_0, fx_env, fx_c, fx_ne, fx_hf, wl_S, Nat.zero_add, Nat.reduceAdd, Nat.reduceDiv, Nat.reduceMod, List.getElem?_cons_zero, List.getElem?_cons_succ, if_true, and_true, true_and] at f1 f2 f3 f4 f5
    have fe0 : nv β 0 = 805 := by omega
    have fe3 : nv β 3 = 0 := by omega
    have fe4 : nv β 4 = 0 := by omega
    have fe5 : nv β 5 = 1 := by omega
    try simp only [fe0, fe3, fe4, fe5, Int.reduceToNat] at f2 f3 f4 f5
    have s0 : nv β 0 = nv α1 0 := nv_le H1.1 (by omega)
    have s1 : nv β 1 = nv α1 1 := nv_le H1.1 (by omega)
    have s2 : nv β 2 = nv α1 2 := nv_le H1.1 (by omega)
    obtain ⟨α', Ha, hm⟩ := hd_gpM (q := kh_hSends_a8) (n := 0) (by decide +kernel) hx H1 (by decide +kernel) hxa hf
    have hfr := H1.2.2.2.2.2.2.2.2.2.2.1
    have m0 : nv α' 0 = nv β 0 := hm 0 0 rfl
    have m1 : nv α' 1 = nv β 1 := hm 1 1 rfl
    have m2 : nv α' 2 = nv β 2 := hm 2 2 rfl
    have m3 : nv α' 3 = nv β 3 := hm 3 3 rfl
    have m4 : nv α' 4 = nv β 4 := hm 4 4 rfl
    have m5 : nv α' 5 = nv β 5 := hm 5 5 rfl
    subst S'
    refine (hP _).1 _ _ _ Ha ?_ (Nat.lt_succ_self _)
    · refine ⟨?_, ?_, ?_, ?_, ?_⟩ <;> omega)
