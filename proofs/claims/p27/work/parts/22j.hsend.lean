/-! ===== hSend: the boiler makes so much more ===== -/
theorem old_i {S : fw_S} {c j n : Nat} {m : Int} {β : List av_X} (h : ct_X S c j = some (((β[n]?).getD (0, 0)).1, m)) (hn : β[n]? = some (0, m)) : (S.1 c j).toInt = m := by
  rw [hn] at h
  have := ct_X_int h rfl
  exact (congrArg Prod.snd this).symm
def R_hSend : List av_X → fw_S → fw_O → fw_S → Prop := fun _ S _ S' => sm_S (S.1 847) 2 + 1 ≤ sm_S (S'.1 847) 2 ∧ S'.1 846 = S.1 846
/- UtilityWorksModel hLoss -/
def kh_460 : ct_T := (494, [(2, 805, 805, 0), (0, 0, 300, 1)], [], [], [(1, (0, (-40), 60, 1), [(2, 805, 805, 0), (0, 0, 300, 1)], [], ([], []))], [], 1, 20, 0)
theorem kh_460_ok : ct_ok wd_fl1 kh_460 := ct_of (ff := wd_ff1) (y := (⟨"UtilityWorksModel", "hLoss", "(I)I"⟩, prog_14_method_163_code, 3, some .int, 12, 1, 1, 35029, 35028, 13001, 21014)) (Cs := [kh_424]) (an := []) (ss := []) (K := 1) (fuel := 4000) wd_fl1_ok rfl (List.forall_mem_cons.mpr ⟨kh_424_ok, (List.forall_mem_nil _)⟩) (by decide +kernel)
/- UtilityWorksModel hLoss -/
def kh_461 : ct_T := (494, [(2, 805, 805, 0), (0, (-60), 340, 1)], [], [], [(1, (0, (-91), 340, 1), [(2, 805, 805, 0), (0, (-60), 340, 1)], [], ([], []))], [], 1, 20, 0)
theorem kh_461_ok : ct_ok wd_fl1 kh_461 := ct_of (ff := wd_ff1) (y := (⟨"UtilityWorksModel", "hLoss", "(I)I"⟩, prog_14_method_163_code, 3, some .int, 12, 1, 1, 35029, 35028, 13001, 21014)) (Cs := [kh_424]) (an := []) (ss := []) (K := 1) (fuel := 4000) wd_fl1_ok rfl (List.forall_mem_cons.mpr ⟨kh_424_ok, (List.forall_mem_nil _)⟩) (by decide +kernel)
/- UtilityWorksModel hLoss -/
def kh_462 : ct_T := (494, [(2, 805, 805, 0), (0, (-400), 431, 1)], [], [], [(1, (0, (-431), 431, 1), [(2, 805, 805, 0), (0, (-400), 431, 1)], [], ([], []))], [], 1, 20, 0)
theorem kh_462_ok : ct_ok wd_fl1 kh_462 := ct_of (ff := wd_ff1) (y := (⟨"UtilityWorksModel", "hLoss", "(I)I"⟩, prog_14_method_163_code, 3, some .int, 12, 1, 1, 35029, 35028, 13001, 21014)) (Cs := [kh_424]) (an := []) (ss := []) (K := 1) (fuel := 4000) wd_fl1_ok rfl (List.forall_mem_cons.mpr ⟨kh_424_ok, (List.forall_mem_nil _)⟩) (by decide +kernel)
/- UtilityWorksModel hLoss -/
def kh_463 : ct_T := (494, [(2, 805, 805, 0), (0, (-831), 862, 1)], [], [], [(1, (0, (-862), 862, 1), [(2, 805, 805, 0), (0, (-831), 862, 1)], [], ([], []))], [], 1, 20, 0)
theorem kh_463_ok : ct_ok wd_fl1 kh_463 := ct_of (ff := wd_ff1) (y := (⟨"UtilityWorksModel", "hLoss", "(I)I"⟩, prog_14_method_163_code, 3, some .int, 12, 1, 1, 35029, 35028, 13001, 21014)) (Cs := [kh_424]) (an := []) (ss := []) (K := 1) (fuel := 4000) wd_fl1_ok rfl (List.forall_mem_cons.mpr ⟨kh_424_ok, (List.forall_mem_nil _)⟩) (by decide +kernel)
/- UtilityWorksModel hLoss -/
def kh_464 : ct_T := (494, [(2, 805, 805, 0), (0, (-1693), 1724, 1)], [], [], [(1, (0, (-1724), 1724, 1), [(2, 805, 805, 0), (0, (-1693), 1724, 1)], [], ([], []))], [], 1, 20, 0)
theorem kh_464_ok : ct_ok wd_fl1 kh_464 := ct_of (ff := wd_ff1) (y := (⟨"UtilityWorksModel", "hLoss", "(I)I"⟩, prog_14_method_163_code, 3, some .int, 12, 1, 1, 35029, 35028, 13001, 21014)) (Cs := [kh_424]) (an := []) (ss := []) (K := 1) (fuel := 4000) wd_fl1_ok rfl (List.forall_mem_cons.mpr ⟨kh_424_ok, (List.forall_mem_nil _)⟩) (by decide +kernel)
/- UtilityWorksModel hLoss -/
def kh_465 : ct_T := (494, [(2, 805, 805, 0), (0, (-2147483648), 9999, 1)], [], [], [(1, (0, (-2147483648), 9999, 1), [(2, 805, 805, 0), (0, (-2147483648), 9999, 1)], [], ([], []))], [], 1, 20, 0)
theorem kh_465_ok : ct_ok wd_fl1 kh_465 := ct_of (ff := wd_ff1) (y := (⟨"UtilityWorksModel", "hLoss", "(I)I"⟩, prog_14_method_163_code, 3, some .int, 12, 1, 1, 35029, 35028, 13001, 21014)) (Cs := [kh_424]) (an := []) (ss := []) (K := 1) (fuel := 4000) wd_fl1_ok rfl (List.forall_mem_cons.mpr ⟨kh_424_ok, (List.forall_mem_nil _)⟩) (by decide +kernel)
abbrev kh_hSend_y : mt_T := (⟨"UtilityWorksModel", "hSend", "()V"⟩, prog_14_method_171_code, 5, none, 12, 1, 0, 35033, 35032, 13002, 21014)
def kh_hSend : ct_T := (495, [(2, 805, 805, 0)], [], [501, 502], [(0, (0, 0, 0, 0), [(2, 805, 805, 0)], [], ([502], []))], [((847, 847), (0, 1, 1)), ((848, 848), (0, 33, 1)), ((849, 849), (0, 16, 1)), ((851, 851), (0, 11, 1))], 2, 42, 0)
def kh_hSend_a7 : an_T := (7, 0, ([((2, 805, 805, 0), none), ((0, (-2147483648), 2147483647, 1), none), ((0, 0, 11, 1), none)], [(0, 0), (1, 1), (2, 2)], [], [], [], [], [], [], none), [])
def kh_hSend_a94 : an_T := (94, 0, ([((2, 805, 805, 0), none), ((0, (-2147483648), 2147483647, 1), none), ((0, 0, 11, 1), none), ((0, 0, 600, 1), none), ((0, 0, 1, 1), none), ((2, 847, 847, 1), none)], [(0, 0), (1, 1), (2, 2)], [3, 4, 5], [], [], [], [], [], none), [])
def kh_hSend_b0_0 : sg_T := (7, 0, ([((2, 805, 805, 0), none), ((0, 62, 62, 0), none), ((0, 0, 300, 1), none), ((0, 0, 0, 0), none)], [(2, 3), (1, 2), (0, 0)], [], [(0, 1, 2)], [], [(800002, 0, 1)], [], [], some []))
def kh_hSend_b7_0 : sg_T := (94, 0, ([((2, 805, 805, 0), none), ((0, (-2147483648), 2147483647, 1), none), ((0, 0, 11, 1), none), ((2, 855, 855, 1), none), ((0, 61, 61, 0), none), ((0, 0, 23, 1), none), ((0, (-1), 11, 1), none), ((2, 847, 847, 1), none), ((0, 61, 61, 0), none), ((0, 12, 12, 0), none), ((0, 0, 1, 1), none), ((0, 0, 300, 1), none), ((0, 62, 62, 0), none), ((0, 0, 300, 1), none), ((0, 0, 600, 1), none)], [(0, 0), (1, 1), (2, 2)], [14, 10, 7], [(0, 12, 13), (7, 10, 11), (3, 5, 6), (0, 4, 5)], [], [(500014, 11, 13), (800013, 0, 12), (800011, 7, 10), (900010, 5, 9), (200000, 6, 2), (800006, 3, 5), (800005, 0, 4)], [], [], some []))
def kh_hSend_b7_1 : sg_T := (7, 0, ([((2, 805, 805, 0), none), ((0, (-2147483648), 2147483647, 1), none), ((0, 0, 10, 1), none), ((2, 855, 855, 1), none), ((0, 61, 61, 0), none), ((0, 0, 23, 1), none), ((0, 1, 11, 1), none), ((2, 856, 856, 1), none), ((0, 12, 12, 0), none), ((0, 61, 61, 0), none), ((0, 0, 276, 12), none), ((0, 0, 286, 1), none), ((0, 0, 33, 1), none), ((0, (-2147483648), 2147483647, 1), none), ((2, 848, 848, 1), none), ((0, (-2147483648), 2147483647, 1), none), ((0, (-2147483648), 2147483647, 1), none), ((2, 849, 849, 1), none), ((0, 2, 2, 0), none), ((0, 0, 16, 1), none), ((0, (-2147483648), 2147483647, 1), none), ((0, (-2147483648), 2147483647, 1), none), ((0, (-2147483648), 2147483647, 1), none), ((0, 1, 11, 1), some (2, 1))], [(2, 23), (1, 22), (4, 13), (3, 12), (0, 0)], [], [(17, 19, 21), (14, 12, 16), (7, 11, 12), (3, 5, 6), (0, 4, 5)], [], [(900019, 12, 18), (800015, 14, 12), (800012, 7, 11), (500011, 10, 2), (700010, 8, 5), (100000, 2, 6), (800006, 3, 5), (800005, 0, 4)], [], [], some [(17, 19, 21), (14, 12, 16)]))
def kh_hSend_b94_0 : sg_T := (111, 0, ([((2, 805, 805, 0), none), ((0, (-2147483648), 2147483647, 1), none), ((0, 0, 11, 1), none), ((0, 0, 300, 1), none), ((0, 0, 1, 1), none), ((2, 847, 847, 1), none), ((2, 851, 851, 1), none), ((0, 61, 61, 0), none), ((0, 0, 23, 1), none), ((0, 12, 12, 0), none), ((0, 0, 11, 1), none), ((0, (-2147483648), 2147483647, 1), none), ((0, (-2147483648), 2147483647, 1), none)], [(0, 0), (1, 1), (2, 2)], [], [(6, 10, 12), (0, 7, 8), (5, 4, 3)], [], [], [], [], some [(6, 10, 12), (5, 4, 3)]))
theorem kh_hSend_okR : ct_okR wd_fl1 kh_hSend R_hSend := ct_handR (R := R_hSend) (ff := wd_ff1) (y := kh_hSend_y) (Cs := [kh_460, kh_461, kh_462, kh_463, kh_464, kh_465, kh_425]) wd_fl1_ok rfl (List.forall_mem_cons.mpr ⟨kh_460_ok, (List.forall_mem_cons.mpr ⟨kh_461_ok, (List.forall_mem_cons.mpr ⟨kh_462_ok, (List.forall_mem_cons.mpr ⟨kh_463_ok, (List.forall_mem_cons.mpr ⟨kh_464_ok, (List.forall_mem_cons.mpr ⟨kh_465_ok, (List.forall_mem_cons.mpr ⟨kh_425_ok, (List.forall_mem_nil _)⟩)⟩)⟩)⟩)⟩)⟩)⟩) (by decide +kernel) (fun l D tc ad kd N sm xs S p e s m args below meth c sz lv G H0 => by
  have hx : xs.length = 1 := by rw [H0.2.1.1]; rfl
  have hfl1 : hChosen S := by
    have h := H0.2.2.2.2.2.2.2.2.1 501 List.mem_cons_self
    rw [wd_fl1, if_neg (by decide)] at h
    exact h
  have hfl2 : hFits S := by
    have h := H0.2.2.2.2.2.2.2.2.1 502 (List.mem_cons_of_mem _ List.mem_cons_self)
    rw [wd_fl1, if_neg (by decide)] at h
    exact h
  have hP : ∀ (k : Nat), (∀ (α : List av_X) (lv : List (Nat × Value)) (st : List Value) (S1 : fw_S), as_in ad sm wd_fl1 xs S kh_hSend.2.2.2.2.2.1 α kh_hSend_a7.2.2.1 lv st S1 → (hChosen S1 ∧ hFits S1 ∧ S1.1 846 = S.1 846 ∧ S1.1 847 = S.1 847) → 10 + (12 - nv α 2).toNat < k → hd_WR R_hSend wd_fl1 kh_hSend kh_hSend_y l D tc ad kd N sm xs S p e s m args below meth c sz 7 lv st S1 0) ∧ (∀ (α : List av_X) (lv : List (Nat × Value)) (st : List Value) (S1 : fw_S), as_in ad sm wd_fl1 xs S kh_hSend.2.2.2.2.2.1 α kh_hSend_a94.2.2.1 lv st S1 → (hFits S1 ∧ S1.1 846 = S.1 846 ∧ S1.1 847 = S.1 847 ∧ 0 ≤ nv α 4 ∧ nv α 4 ≤ 1 ∧ (S1.1 847 (nv α 4).toNat).toInt + 1 ≤ nv α 3 ∧ nv α 3 ≤ (S1.1 846 (nv α 4).toNat).toInt ∧ 0 ≤ nv α 3 ∧ nv α 3 ≤ 300) → 5 < k → hd_WR R_hSend wd_fl1 kh_hSend kh_hSend_y l D tc ad kd N sm xs S p e s m args below meth c sz 94 lv st S1 0) ∧ True := by
    intro k
    induction k with
    | zero => exact ⟨fun _ _ _ _ _ _ h => absurd h (Nat.not_lt_zero _), fun _ _ _ _ _ _ h => absurd h (Nat.not_lt_zero _), trivial⟩
    | succ k ih =>
    refine ⟨?_, ?_, trivial⟩
    · intro α lv st S1 H hp hk
      obtain ⟨α1, hle, Hr⟩ := as_recM (pl := []) [((848, 848), (0, 33, 1)), ((849, 849), (0, 16, 1))] (by decide +kernel) H
      have hf := H.2.2.2.2.2.2.2.2.2.2.1
      have hl1 : α1.length = 3 := by rw [Hr.2.1.1]; rfl
      have hl0 : α.length = 3 := by rw [H.2.1.1]; rfl
      have hxa : al_le xs α1 := H.1.trans hle
      obtain ⟨g1, -, g3, g4, -⟩ := as_fx Hr
      have g0 : (805 ≤ nv α1 0 ∧ nv α1 0 ≤ 805) ∧ ((-2147483648) ≤ nv α1 1 ∧ nv α1 1 ≤ 2147483647) ∧ (0 ≤ nv α1 2 ∧ nv α1 2 ≤ 11) ∧ True := by
        refine ⟨by have h := (en_nv (i := 0) Hr.2.1 rfl).2; exact h, by have h := (en_nv (i := 1) Hr.2.1 rfl).2; exact h, by have h := (en_nv (i := 2) Hr.2.1 rfl).2; exact h, trivial⟩
      have r0 : nv α1 0 = nv α 0 := nv_le hle (by omega)
      have r1 : nv α1 1 = nv α 1 := nv_le hle (by omega)
      have r2 : nv α1 2 = nv α 2 := nv_le hle (by omega)
      refine hd_segMR G (na := 3) (fuel := 600) (first := true) (Bs := [kh_hSend_b7_0, kh_hSend_b7_1]) (by decide +kernel) hl1 Hr ?_
      intro q hq β lv' st' S' H1
      simp only [List.mem_cons, List.not_mem_nil, or_false] at hq
      rcases hq with rfl | rfl
      · obtain ⟨f1, f2, f3, f4, f5⟩ := as_fx H1
        simp only [kh_hSend_b7_0, fx_env, fx_c, fx_ne, fx_hf, wl_S, Nat.zero_add, Nat.reduceAdd, Nat.reduceDiv, Nat.reduceMod, List.getElem?_cons_zero, List.getElem?_cons_succ, if_true, and_true, true_and] at f1 f2 f3 f4 f5
        have fe0 : nv β 0 = 805 := by omega
        have fe3 : nv β 3 = 855 := by omega
        have fe4 : nv β 4 = 61 := by omega
        have fe7 : nv β 7 = 847 := by omega
        have fe8 : nv β 8 = 61 := by omega
        have fe9 : nv β 9 = 12 := by omega
        have fe12 : nv β 12 = 62 := by omega
        try simp only [fe0, fe3, fe4, fe7, fe8, fe9, fe12, Int.reduceToNat] at f2 f3 f4 f5
        have s0 : nv β 0 = nv α1 0 := nv_le H1.1 (by omega)
        have s1 : nv β 1 = nv α1 1 := nv_le H1.1 (by omega)
        have s2 : nv β 2 = nv α1 2 := nv_le H1.1 (by omega)
        obtain ⟨c0, c1, c2, c3, c4, c5, c6⟩ := f2
        obtain ⟨α', Ha, hm⟩ := hd_gpM (q := kh_hSend_a94) (n := 0) (by decide +kernel) hx H1 (by decide +kernel) hxa hf
        have hfr := H1.2.2.2.2.2.2.2.2.2.2.1
        have m0 : nv α' 0 = nv β 0 := hm 0 0 rfl
        have m1 : nv α' 1 = nv β 1 := hm 1 1 rfl
        have m2 : nv α' 2 = nv β 2 := hm 2 2 rfl
        have m3 : nv α' 3 = nv β 14 := hm 3 14 rfl
        have m4 : nv α' 4 = nv β 10 := hm 4 10 rfl
        have m5 : nv α' 5 = nv β 7 := hm 5 7 rfl
        subst S'
        have o1 := old_i c1 (en_nv (i := 13) H1.2.1 rfl).1
        have o2 := old_i c2 (en_nv (i := 11) H1.2.1 rfl).1
        have o5 := old_i c5 (en_nv (i := 6) H1.2.1 rfl).1
        have o6 := old_i c6 (en_nv (i := 5) H1.2.1 rfl).1
        have h846 := q_rg_in (q := ((846, 846), (0, 1, 1), (0, 0, 300, 1))) (by decide +kernel) H
        have hc := hp.1
        unfold hChosen hLeft at hc
        rw [o1, o6, show nv β 5 / 12 = nv β 10 by omega, o2] at hc
        have h8 := rg_bd h846 (j := (nv β 10).toNat) (by omega)
        refine ih.2.1 _ _ _ _ Ha ?_ ?_
        · rw [m3, m4]
          refine ⟨hp.2.1, hp.2.2.1, hp.2.2.2, by omega, by omega, by omega, by omega, by omega, by omega⟩
        · omega
      · obtain ⟨f1, f2, f3, f4, f5⟩ := as_fx H1
        simp only [kh_hSend_b7_1, fx_env, fx_c, fx_ne, fx_hf, wl_S, Nat.zero_add, Nat.reduceAdd, Nat.reduceDiv, Nat.reduceMod, List.getElem?_cons_zero, List.getElem?_cons_succ, if_true, and_true, true_and] at f1 f2 f3 f4 f5
        have fe0 : nv β 0 = 805 := by omega
        have fe3 : nv β 3 = 855 := by omega
        have fe4 : nv β 4 = 61 := by omega
        have fe7 : nv β 7 = 856 := by omega
        have fe8 : nv β 8 = 12 := by omega
        have fe9 : nv β 9 = 61 := by omega
        have fe14 : nv β 14 = 848 := by omega
        have fe17 : nv β 17 = 849 := by omega
        have fe18 : nv β 18 = 2 := by omega
        try simp only [fe0, fe3, fe4, fe7, fe8, fe9, fe14, fe17, fe18, Int.reduceToNat] at f2 f3 f4 f5
        have s0 : nv β 0 = nv α1 0 := nv_le H1.1 (by omega)
        have s1 : nv β 1 = nv α1 1 := nv_le H1.1 (by omega)
        have s2 : nv β 2 = nv α1 2 := nv_le H1.1 (by omega)
        obtain ⟨c0, c1, c2, c3, c4, c5, c6, c7⟩ := f2
        obtain ⟨α', Ha, hm⟩ := hd_gpM (q := kh_hSend_a7) (n := 0) (by decide +kernel) hx H1 (by decide +kernel) hxa hf
        have hfr := H1.2.2.2.2.2.2.2.2.2.2.1
        have m0 : nv α' 0 = nv β 0 := hm 0 0 rfl
        have m1 : nv α' 1 = nv β 22 := hm 1 22 rfl
        have m2 : nv α' 2 = nv β 23 := hm 2 23 rfl
        subst S'
        have e1 := fr_row hfr 846 (by decide +kernel)
        have e2 := fr_row hfr 847 (by decide +kernel)
        have e3 := fr_row hfr 806 (by decide +kernel)
        have e4 := fr_pl hfr 805 61 (by decide +kernel)
        have e5 := fr_pl hfr 805 62 (by decide +kernel)
        refine ih.1 _ _ _ _ Ha ?_ ?_
        · refine ⟨?_, ?_, e1.trans hp.2.2.1, e2.trans hp.2.2.2⟩
          · have h1 := hp.1
            unfold hChosen hLeft at h1 ⊢
            rw [e1, e2, e4, e5]
            exact h1
          · intro b hb
            rw [e1, e2, e3]
            exact hp.2.1 b hb
        · omega
    · intro α lv st S1 H hp hk
      have bp := (en_nv (i := 3) H.2.1 rfl).2
      change 0 ≤ nv α 3 ∧ nv α 3 ≤ 600 at bp
      replace H := as_clamp (i := 3) (lo := 0) (hi := 300) H rfl rfl (by omega) (by omega) (by decide)
      obtain ⟨α1, hle, Hr⟩ := as_recM (pl := []) [((847, 847), (0, 1, 1)), ((851, 851), (0, 11, 1))] (by decide +kernel) H
      have hf := H.2.2.2.2.2.2.2.2.2.2.1
      have hl1 : α1.length = 6 := by rw [Hr.2.1.1]; rfl
      have hl0 : α.length = 6 := by rw [H.2.1.1]; rfl
      have hxa : al_le xs α1 := H.1.trans hle
      obtain ⟨g1, -, g3, g4, -⟩ := as_fx Hr
      have g0 : (805 ≤ nv α1 0 ∧ nv α1 0 ≤ 805) ∧ ((-2147483648) ≤ nv α1 1 ∧ nv α1 1 ≤ 2147483647) ∧ (0 ≤ nv α1 2 ∧ nv α1 2 ≤ 11) ∧ (0 ≤ nv α1 3 ∧ nv α1 3 ≤ 300) ∧ (0 ≤ nv α1 4 ∧ nv α1 4 ≤ 1) ∧ (847 ≤ nv α1 5 ∧ nv α1 5 ≤ 847) ∧ True := by
        refine ⟨by have h := (en_nv (i := 0) Hr.2.1 rfl).2; exact h, by have h := (en_nv (i := 1) Hr.2.1 rfl).2; exact h, by have h := (en_nv (i := 2) Hr.2.1 rfl).2; exact h, by have h := (en_nv (i := 3) Hr.2.1 rfl).2; exact h, by have h := (en_nv (i := 4) Hr.2.1 rfl).2; exact h, by have h := (en_nv (i := 5) Hr.2.1 rfl).2; exact h, trivial⟩
      have r0 : nv α1 0 = nv α 0 := nv_le hle (by omega)
      have r1 : nv α1 1 = nv α 1 := nv_le hle (by omega)
      have r2 : nv α1 2 = nv α 2 := nv_le hle (by omega)
      have r3 : nv α1 3 = nv α 3 := nv_le hle (by omega)
      have r4 : nv α1 4 = nv α 4 := nv_le hle (by omega)
      have r5 : nv α1 5 = nv α 5 := nv_le hle (by omega)
      refine hd_segMR G (na := 6) (fuel := 600) (first := true) (Bs := [kh_hSend_b94_0]) (by decide +kernel) hl1 Hr ?_
      intro q hq β lv' st' S' H1
      simp only [List.mem_cons, List.not_mem_nil, or_false] at hq
      rcases hq with rfl
      · obtain ⟨f1, f2, f3, f4, f5⟩ := as_fx H1
        simp only [kh_hSend_b94_0, fx_env, fx_c, fx_ne, fx_hf, wl_S, Nat.zero_add, Nat.reduceAdd, Nat.reduceDiv, Nat.reduceMod, List.getElem?_cons_zero, List.getElem?_cons_succ, if_true, and_true, true_and] at f1 f2 f3 f4 f5
        have fe0 : nv β 0 = 805 := by omega
        have fe5 : nv β 5 = 847 := by omega
        have fe6 : nv β 6 = 851 := by omega
        have fe7 : nv β 7 = 61 := by omega
        have fe9 : nv β 9 = 12 := by omega
        try simp only [fe0, fe5, fe6, fe7, fe9, Int.reduceToNat] at f2 f3 f4 f5
        have s0 : nv β 0 = nv α1 0 := nv_le H1.1 (by omega)
        have s1 : nv β 1 = nv α1 1 := nv_le H1.1 (by omega)
        have s2 : nv β 2 = nv α1 2 := nv_le H1.1 (by omega)
        have s3 : nv β 3 = nv α1 3 := nv_le H1.1 (by omega)
        have s4 : nv β 4 = nv α1 4 := nv_le H1.1 (by omega)
        have s5 : nv β 5 = nv α1 5 := nv_le H1.1 (by omega)
        obtain ⟨p1, p2, p3, p4, p5, p6, p7, p8, p9⟩ := hp
        have q4 : nv β 4 = nv α 4 := by omega
        have q3 : nv β 3 = nv α 3 := by omega
        have e0 : S'.1 847 = (fw_i S1 847 (nv β 4).toNat (Int32.ofInt (nv β 3))).1 847 := by rw [f5]; exact fw_i_ne (by decide)
        have e1 : S'.1 846 = S1.1 846 := by rw [f5]; exact (fw_i_ne (by decide)).trans (fw_i_ne (by decide))
        have e2 : S'.1 806 = S1.1 806 := by rw [f5]; exact (fw_i_ne (by decide)).trans (fw_i_ne (by decide))
        have hfit : hFits S' := by
          intro b hb
          rw [e0, e1, e2, fw_i_row]
          obtain ⟨b1, b2⟩ := p1 b hb
          refine ⟨?_, b2⟩
          by_cases e : b = (nv β 4).toNat
          · rw [if_pos e, i32_of (by omega) (by omega)]
            rw [e, q4]
            omega
          · rw [if_neg e]
            exact b1
        have hsm : sm_S (S.1 847) 2 + 1 ≤ sm_S (S'.1 847) 2 := by
          rw [e0, sm_i (by omega), i32_of (by omega) (by omega), ← p3, q4]
          omega
        exact hd_retVR G (by decide +kernel) (as_fl_in (f := [502]) (as_backM H1 (by decide +kernel) hxa hf) (fun g hg => by
          rcases List.mem_singleton.mp hg with rfl
          exact hfit)) (by decide +kernel) (by decide) ⟨hsm, e1.trans p2⟩
  obtain ⟨α1, hle, Hr⟩ := as_recM (pl := []) [] (by decide +kernel) H0
  have hf := H0.2.2.2.2.2.2.2.2.2.2.1
  have hl1 : α1.length = 1 := by rw [Hr.2.1.1]; rfl
  have hl0 : xs.length = 1 := by rw [H0.2.1.1]; rfl
  have hxa : al_le xs α1 := H0.1.trans hle
  obtain ⟨g1, -, g3, g4, -⟩ := as_fx Hr
  have g0 : (805 ≤ nv α1 0 ∧ nv α1 0 ≤ 805) ∧ True := by
    refine ⟨by have h := (en_nv (i := 0) Hr.2.1 rfl).2; exact h, trivial⟩
  have r0 : nv α1 0 = nv xs 0 := nv_le hle (by omega)
  refine hd_segMR G (na := 1) (fuel := 600) (first := true) (Bs := [kh_hSend_b0_0]) (by decide +kernel) hl1 Hr ?_
  intro q hq β lv' st' S' H1
  simp only [List.mem_cons, List.not_mem_nil, or_false] at hq
  rcases hq with rfl
  · obtain ⟨f1, f2, f3, f4, f5⟩ := as_fx H1
    simp only [kh_hSend_b0_0, fx_env, fx_c, fx_ne, fx_hf, wl_S, Nat.zero_add, Nat.reduceAdd, Nat.reduceDiv, Nat.reduceMod, List.getElem?_cons_zero, List.getElem?_cons_succ, if_true, and_true, true_and] at f1 f2 f3 f4 f5
    have fe0 : nv β 0 = 805 := by omega
    have fe1 : nv β 1 = 62 := by omega
    have fe3 : nv β 3 = 0 := by omega
    try simp only [fe0, fe1, fe3, Int.reduceToNat] at f2 f3 f4 f5
    have s0 : nv β 0 = nv α1 0 := nv_le H1.1 (by omega)
    have c0 := f2
    obtain ⟨α', Ha, hm⟩ := hd_gpM (q := kh_hSend_a7) (n := 0) (by decide +kernel) hx H1 (by decide +kernel) hxa hf
    have hfr := H1.2.2.2.2.2.2.2.2.2.2.1
    have m0 : nv α' 0 = nv β 0 := hm 0 0 rfl
    have m1 : nv α' 1 = nv β 2 := hm 1 2 rfl
    have m2 : nv α' 2 = nv β 3 := hm 2 3 rfl
    subst S'

    refine (hP _).1 _ _ _ _ Ha ?_ (Nat.lt_succ_self _)
    · exact ⟨hfl1, hfl2, rfl, rfl⟩)
theorem kh_hSend_ok : ct_ok wd_fl1 kh_hSend := ct_okR_ok kh_hSend_okR
