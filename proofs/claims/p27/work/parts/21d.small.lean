/-! ===== onesOf, tripping ===== -/
abbrev kh_onesOf_y : mt_T := (⟨"UtilityWorksModel", "onesOf", "(I)I"⟩, prog_14_method_106_code, 3, some .int, 12, 0, 1, 36174, 36173, 0, 21014)
def kh_onesOf : ct_T := (589, [(0, 0, 2147483647, 1)], [], [], [(1, (0, (-2147483648), 2147483647, 1), [(0, 0, 2147483647, 1)], [], ([], []))], [], 0, 0, 0)
def kh_onesOf_a4 : an_T := (4, 0, ([((0, 0, 2147483647, 1), none), ((0, (-2147483648), 2147483647, 1), none), ((0, 0, 2147483647, 1), none)], [(0, 0), (1, 1), (2, 2)], [], [], [], [], [], [], none), [])
def kh_onesOf_b0_0 : sg_T := (4, 0, ([((0, 0, 2147483647, 1), none), ((0, 0, 0, 0), none)], [(2, 0), (1, 1), (0, 0)], [], [], [], [], [], [], some []))
def kh_onesOf_b4_0 : sg_T := (21, 0, ([((0, 0, 2147483647, 1), none), ((0, (-2147483648), 2147483647, 1), none), ((0, 0, 0, 1), none)], [(0, 0), (1, 1), (2, 2)], [1], [], [], [], [], [], some []))
def kh_onesOf_b4_1 : sg_T := (4, 0, ([((0, 0, 2147483647, 1), none), ((0, (-2147483648), 2147483647, 1), none), ((0, 1, 2147483647, 1), none), ((0, (-2147483648), 2147483647, 1), none), ((0, 1, 1, 0), none), ((0, 0, 2147483646, 1), some (2, (-1))), ((0, 0, 2147483646, 1), none)], [(2, 6), (1, 3), (0, 0)], [], [], [(2, 0)], [(200000, 6, 5), (600005, 2, 4)], [], [], some []))
theorem kh_onesOf_ok : ct_ok wd_fl kh_onesOf := ct_hand (ff := wd_ff) (y := kh_onesOf_y) (Cs := []) wd_fl_ok rfl (List.forall_mem_nil _) (by decide +kernel) (fun l D tc ad kd N sm xs S p e s m args below meth c sz lv G H0 => by
  have hx : xs.length = 1 := by rw [H0.2.1.1]; rfl
  have hP : ∀ (k : Nat), (∀ (α : List av_X) (lv : List (Nat × Value)) (S1 : fw_S), as_in ad sm wd_fl xs S kh_onesOf.2.2.2.2.2.1 α kh_onesOf_a4.2.2.1 lv [] S1 → (True) → (nv α 2).toNat < k → hd_W wd_fl kh_onesOf kh_onesOf_y l D tc ad kd N sm xs S p e s m args below meth c sz 4 lv [] S1 0) ∧ True := by
    intro k
    induction k with
    | zero => exact ⟨fun _ _ _ _ _ h => absurd h (Nat.not_lt_zero _), trivial⟩
    | succ k ih =>
    refine ⟨?_, trivial⟩
    · intro α lv S1 H hp hk
      obtain ⟨α1, hle, Hr⟩ := as_recM (pl := []) [] (by decide +kernel) H
      have hf := H.2.2.2.2.2.2.2.2.2.2.1
      have hl1 : α1.length = 3 := by rw [Hr.2.1.1]; rfl
      have hl0 : α.length = 3 := by rw [H.2.1.1]; rfl
      have hxa : al_le xs α1 := H.1.trans hle
      obtain ⟨g1, -, g3, g4, -⟩ := as_fx Hr
      have g0 : (0 ≤ nv α1 0 ∧ nv α1 0 ≤ 2147483647) ∧ ((-2147483648) ≤ nv α1 1 ∧ nv α1 1 ≤ 2147483647) ∧ (0 ≤ nv α1 2 ∧ nv α1 2 ≤ 2147483647) ∧ True := by
        refine ⟨by have h := (en_nv (i := 0) Hr.2.1 rfl).2; exact h, by have h := (en_nv (i := 1) Hr.2.1 rfl).2; exact h, by have h := (en_nv (i := 2) Hr.2.1 rfl).2; exact h, trivial⟩
      have r0 : nv α1 0 = nv α 0 := nv_le hle (by omega)
      have r1 : nv α1 1 = nv α 1 := nv_le hle (by omega)
      have r2 : nv α1 2 = nv α 2 := nv_le hle (by omega)
      refine hd_segM G (na := 3) (fuel := 600) (first := true) (Bs := [kh_onesOf_b4_0, kh_onesOf_b4_1]) (by decide +kernel) hl1 Hr ?_
      intro q hq β lv' st' S' H1
      simp only [List.mem_cons, List.not_mem_nil, or_false] at hq
      rcases hq with rfl | rfl
      · obtain ⟨f1, f2, f3, f4, f5⟩ := as_fx H1
        simp only [kh_onesOf_b4_0, fx_env, fx_c, fx_ne, fx_hf, wl_S, Nat.zero_add, Nat.reduceAdd, Nat.reduceDiv, Nat.reduceMod, List.getElem?_cons_zero, List.getElem?_cons_succ, if_true, and_true, true_and] at f1 f2 f3 f4 f5
        have fe2 : nv β 2 = 0 := by omega
        try simp only [fe2, Int.reduceToNat] at f2 f3 f4 f5
        have s0 : nv β 0 = nv α1 0 := nv_le H1.1 (by omega)
        have s1 : nv β 1 = nv α1 1 := nv_le H1.1 (by omega)
        have s2 : nv β 2 = nv α1 2 := nv_le H1.1 (by omega)
        exact hd_run G (ss := []) (fuel := 20) (by decide +kernel) (as_backM H1 (by decide +kernel) hxa hf)
      · have hst := st_nil H1 rfl
        subst hst
        obtain ⟨f1, f2, f3, f4, f5⟩ := as_fx H1
        simp only [kh_onesOf_b4_1, fx_env, fx_c, fx_ne, fx_hf, wl_S, Nat.zero_add, Nat.reduceAdd, Nat.reduceDiv, Nat.reduceMod, List.getElem?_cons_zero, List.getElem?_cons_succ, if_true, and_true, true_and] at f1 f2 f3 f4 f5
        have fe4 : nv β 4 = 1 := by omega
        try simp only [fe4, Int.reduceToNat] at f2 f3 f4 f5
        have s0 : nv β 0 = nv α1 0 := nv_le H1.1 (by omega)
        have s1 : nv β 1 = nv α1 1 := nv_le H1.1 (by omega)
        have s2 : nv β 2 = nv α1 2 := nv_le H1.1 (by omega)
        obtain ⟨c0, c1⟩ := f2
        obtain ⟨α', Ha, hm⟩ := hd_gpM (q := kh_onesOf_a4) (n := 0) (by decide +kernel) hx H1 (by decide +kernel) hxa hf
        have hfr := H1.2.2.2.2.2.2.2.2.2.2.1
        have m0 : nv α' 0 = nv β 0 := hm 0 0 rfl
        have m1 : nv α' 1 = nv β 3 := hm 1 3 rfl
        have m2 : nv α' 2 = nv β 6 := hm 2 6 rfl
        subst S'
        refine ih.1 _ _ _ Ha ?_ ?_
        · trivial
        · omega
  obtain ⟨α1, hle, Hr⟩ := as_recM (pl := []) [] (by decide +kernel) H0
  have hf := H0.2.2.2.2.2.2.2.2.2.2.1
  have hl1 : α1.length = 1 := by rw [Hr.2.1.1]; rfl
  have hl0 : xs.length = 1 := by rw [H0.2.1.1]; rfl
  have hxa : al_le xs α1 := H0.1.trans hle
  obtain ⟨g1, -, g3, g4, -⟩ := as_fx Hr
  have g0 : (0 ≤ nv α1 0 ∧ nv α1 0 ≤ 2147483647) ∧ True := by
    refine ⟨by have h := (en_nv (i := 0) Hr.2.1 rfl).2; exact h, trivial⟩
  have r0 : nv α1 0 = nv xs 0 := nv_le hle (by omega)
  refine hd_segM G (na := 1) (fuel := 600) (first := true) (Bs := [kh_onesOf_b0_0]) (by decide +kernel) hl1 Hr ?_
  intro q hq β lv' st' S' H1
  simp only [List.mem_cons, List.not_mem_nil, or_false] at hq
  rcases hq with rfl
  · have hst := st_nil H1 rfl
    subst hst
    obtain ⟨f1, f2, f3, f4, f5⟩ := as_fx H1
    simp only [kh_onesOf_b0_0, fx_env, fx_c, fx_ne, fx_hf, wl_S, Nat.zero_add, Nat.reduceAdd, Nat.reduceDiv, Nat.reduceMod, List.getElem?_cons_zero, List.getElem?_cons_succ, if_true, and_true, true_and] at f1 f2 f3 f4 f5
    have fe1 : nv β 1 = 0 := by omega
    try simp only [fe1, Int.reduceToNat] at f2 f3 f4 f5
    have s0 : nv β 0 = nv α1 0 := nv_le H1.1 (by omega)
    obtain ⟨α', Ha, hm⟩ := hd_gpM (q := kh_onesOf_a4) (n := 0) (by decide +kernel) hx H1 (by decide +kernel) hxa hf
    have hfr := H1.2.2.2.2.2.2.2.2.2.2.1
    have m0 : nv α' 0 = nv β 0 := hm 0 0 rfl
    have m1 : nv α' 1 = nv β 1 := hm 1 1 rfl
    have m2 : nv α' 2 = nv β 0 := hm 2 0 rfl
    subst S'
    refine (hP _).1 _ _ _ Ha ?_ (Nat.lt_succ_self _)
    · trivial)
/- UtilityWorksModel size -/
def kh_293 : ct_T := (456, [(0, (-2147483648), 2147483647, 1)], [], [], [(1, (0, (-2147483648), 2147483647, 1), [(0, (-2147483648), 2147483647, 1)], [], ([], []))], [], 0, 0, 0)
theorem kh_293_ok : ct_ok wd_fl kh_293 := ct_of (ff := wd_ff) (y := (⟨"UtilityWorksModel", "size", "(I)I"⟩, prog_14_method_88_code, 1, some .int, 12, 0, 1, 34117, 34116, 0, 21014)) (Cs := []) (an := []) (ss := []) (K := 1) (fuel := 4000) wd_fl_ok rfl (List.forall_mem_nil _) (by decide +kernel)
/- UtilityWorksModel link -/
def kh_294 : ct_T := (357, [(2, 805, 805, 0), (0, 0, 0, 0), (0, 0, 0, 0)], [], [], [(1, (0, 140, 140, 0), [(2, 805, 805, 0), (0, 0, 0, 0), (0, 0, 0, 0)], [], ([], []))], [], 0, 0, 0)
theorem kh_294_ok : ct_ok wd_fl kh_294 := ct_of (ff := wd_ff) (y := (⟨"UtilityWorksModel", "link", "(II)I"⟩, prog_14_method_16_code, 3, some .int, 12, 1, 2, 32207, 32206, 5005, 21014)) (Cs := []) (an := []) (ss := []) (K := 1) (fuel := 4000) wd_fl_ok rfl (List.forall_mem_nil _) (by decide +kernel)
/- UtilityWorksModel boundOf -/
def kh_295 : ct_T := (367, [(2, 805, 805, 0), (0, 0, 0, 0), (0, 0, 0, 0)], [], [], [(1, (0, 0, 999, 1), [(2, 805, 805, 0), (0, 0, 0, 0), (0, 0, 0, 0)], [], ([], []))], [], 1, 22, 0)
theorem kh_295_ok : ct_ok wd_fl kh_295 := ct_of (ff := wd_ff) (y := (⟨"UtilityWorksModel", "boundOf", "(II)I"⟩, prog_14_method_18_code, 3, some .int, 12, 1, 2, 33005, 33004, 5011, 21014)) (Cs := [kh_294]) (an := []) (ss := []) (K := 1) (fuel := 4000) wd_fl_ok rfl (List.forall_mem_cons.mpr ⟨kh_294_ok, (List.forall_mem_nil _)⟩) (by decide +kernel)
/- UtilityWorksModel link -/
def kh_296 : ct_T := (357, [(2, 805, 805, 0), (0, 0, 0, 0), (0, 0, 1, 1)], [], [], [(1, (0, 140, 144, 4), [(2, 805, 805, 0), (0, 0, 0, 0), (0, 0, 1, 1)], [], ([], []))], [], 0, 0, 0)
theorem kh_296_ok : ct_ok wd_fl kh_296 := ct_of (ff := wd_ff) (y := (⟨"UtilityWorksModel", "link", "(II)I"⟩, prog_14_method_16_code, 3, some .int, 12, 1, 2, 32207, 32206, 5005, 21014)) (Cs := []) (an := []) (ss := []) (K := 1) (fuel := 4000) wd_fl_ok rfl (List.forall_mem_nil _) (by decide +kernel)
/- UtilityWorksModel boundOf -/
def kh_297 : ct_T := (367, [(2, 805, 805, 0), (0, 0, 0, 0), (0, 0, 1, 1)], [], [], [(1, (0, 0, 999, 1), [(2, 805, 805, 0), (0, 0, 0, 0), (0, 0, 1, 1)], [], ([], []))], [], 1, 22, 0)
theorem kh_297_ok : ct_ok wd_fl kh_297 := ct_of (ff := wd_ff) (y := (⟨"UtilityWorksModel", "boundOf", "(II)I"⟩, prog_14_method_18_code, 3, some .int, 12, 1, 2, 33005, 33004, 5011, 21014)) (Cs := [kh_296]) (an := []) (ss := []) (K := 1) (fuel := 4000) wd_fl_ok rfl (List.forall_mem_cons.mpr ⟨kh_296_ok, (List.forall_mem_nil _)⟩) (by decide +kernel)
/- UtilityWorksModel link -/
def kh_298 : ct_T := (357, [(2, 805, 805, 0), (0, 0, 0, 0), (0, 0, 2, 1)], [], [], [(1, (0, 140, 148, 4), [(2, 805, 805, 0), (0, 0, 0, 0), (0, 0, 2, 1)], [], ([], []))], [], 0, 0, 0)
theorem kh_298_ok : ct_ok wd_fl kh_298 := ct_of (ff := wd_ff) (y := (⟨"UtilityWorksModel", "link", "(II)I"⟩, prog_14_method_16_code, 3, some .int, 12, 1, 2, 32207, 32206, 5005, 21014)) (Cs := []) (an := []) (ss := []) (K := 1) (fuel := 4000) wd_fl_ok rfl (List.forall_mem_nil _) (by decide +kernel)
/- UtilityWorksModel boundOf -/
def kh_299 : ct_T := (367, [(2, 805, 805, 0), (0, 0, 0, 0), (0, 0, 2, 1)], [], [], [(1, (0, 0, 999, 1), [(2, 805, 805, 0), (0, 0, 0, 0), (0, 0, 2, 1)], [], ([], []))], [], 1, 22, 0)
theorem kh_299_ok : ct_ok wd_fl kh_299 := ct_of (ff := wd_ff) (y := (⟨"UtilityWorksModel", "boundOf", "(II)I"⟩, prog_14_method_18_code, 3, some .int, 12, 1, 2, 33005, 33004, 5011, 21014)) (Cs := [kh_298]) (an := []) (ss := []) (K := 1) (fuel := 4000) wd_fl_ok rfl (List.forall_mem_cons.mpr ⟨kh_298_ok, (List.forall_mem_nil _)⟩) (by decide +kernel)
/- UtilityWorksModel link -/
def kh_300 : ct_T := (357, [(2, 805, 805, 0), (0, 0, 0, 0), (0, 0, 3, 1)], [], [], [(1, (0, 140, 152, 4), [(2, 805, 805, 0), (0, 0, 0, 0), (0, 0, 3, 1)], [], ([], []))], [], 0, 0, 0)
theorem kh_300_ok : ct_ok wd_fl kh_300 := ct_of (ff := wd_ff) (y := (⟨"UtilityWorksModel", "link", "(II)I"⟩, prog_14_method_16_code, 3, some .int, 12, 1, 2, 32207, 32206, 5005, 21014)) (Cs := []) (an := []) (ss := []) (K := 1) (fuel := 4000) wd_fl_ok rfl (List.forall_mem_nil _) (by decide +kernel)
/- UtilityWorksModel boundOf -/
def kh_301 : ct_T := (367, [(2, 805, 805, 0), (0, 0, 0, 0), (0, 0, 3, 1)], [], [], [(1, (0, 0, 999, 1), [(2, 805, 805, 0), (0, 0, 0, 0), (0, 0, 3, 1)], [], ([], []))], [], 1, 22, 0)
theorem kh_301_ok : ct_ok wd_fl kh_301 := ct_of (ff := wd_ff) (y := (⟨"UtilityWorksModel", "boundOf", "(II)I"⟩, prog_14_method_18_code, 3, some .int, 12, 1, 2, 33005, 33004, 5011, 21014)) (Cs := [kh_300]) (an := []) (ss := []) (K := 1) (fuel := 4000) wd_fl_ok rfl (List.forall_mem_cons.mpr ⟨kh_300_ok, (List.forall_mem_nil _)⟩) (by decide +kernel)
/- UtilityWorksModel link -/
def kh_302 : ct_T := (357, [(2, 805, 805, 0), (0, 0, 0, 0), (0, 0, 4, 1)], [], [], [(1, (0, 140, 156, 4), [(2, 805, 805, 0), (0, 0, 0, 0), (0, 0, 4, 1)], [], ([], []))], [], 0, 0, 0)
theorem kh_302_ok : ct_ok wd_fl kh_302 := ct_of (ff := wd_ff) (y := (⟨"UtilityWorksModel", "link", "(II)I"⟩, prog_14_method_16_code, 3, some .int, 12, 1, 2, 32207, 32206, 5005, 21014)) (Cs := []) (an := []) (ss := []) (K := 1) (fuel := 4000) wd_fl_ok rfl (List.forall_mem_nil _) (by decide +kernel)
/- UtilityWorksModel boundOf -/
def kh_303 : ct_T := (367, [(2, 805, 805, 0), (0, 0, 0, 0), (0, 0, 4, 1)], [], [], [(1, (0, 0, 999, 1), [(2, 805, 805, 0), (0, 0, 0, 0), (0, 0, 4, 1)], [], ([], []))], [], 1, 22, 0)
theorem kh_303_ok : ct_ok wd_fl kh_303 := ct_of (ff := wd_ff) (y := (⟨"UtilityWorksModel", "boundOf", "(II)I"⟩, prog_14_method_18_code, 3, some .int, 12, 1, 2, 33005, 33004, 5011, 21014)) (Cs := [kh_302]) (an := []) (ss := []) (K := 1) (fuel := 4000) wd_fl_ok rfl (List.forall_mem_cons.mpr ⟨kh_302_ok, (List.forall_mem_nil _)⟩) (by decide +kernel)
/- UtilityWorksModel link -/
def kh_304 : ct_T := (357, [(2, 805, 805, 0), (0, 0, 0, 0), (0, 0, 5, 1)], [], [], [(1, (0, 140, 160, 4), [(2, 805, 805, 0), (0, 0, 0, 0), (0, 0, 5, 1)], [], ([], []))], [], 0, 0, 0)
theorem kh_304_ok : ct_ok wd_fl kh_304 := ct_of (ff := wd_ff) (y := (⟨"UtilityWorksModel", "link", "(II)I"⟩, prog_14_method_16_code, 3, some .int, 12, 1, 2, 32207, 32206, 5005, 21014)) (Cs := []) (an := []) (ss := []) (K := 1) (fuel := 4000) wd_fl_ok rfl (List.forall_mem_nil _) (by decide +kernel)
/- UtilityWorksModel boundOf -/
def kh_305 : ct_T := (367, [(2, 805, 805, 0), (0, 0, 0, 0), (0, 0, 5, 1)], [], [], [(1, (0, 0, 999, 1), [(2, 805, 805, 0), (0, 0, 0, 0), (0, 0, 5, 1)], [], ([], []))], [], 1, 22, 0)
theorem kh_305_ok : ct_ok wd_fl kh_305 := ct_of (ff := wd_ff) (y := (⟨"UtilityWorksModel", "boundOf", "(II)I"⟩, prog_14_method_18_code, 3, some .int, 12, 1, 2, 33005, 33004, 5011, 21014)) (Cs := [kh_304]) (an := []) (ss := []) (K := 1) (fuel := 4000) wd_fl_ok rfl (List.forall_mem_cons.mpr ⟨kh_304_ok, (List.forall_mem_nil _)⟩) (by decide +kernel)
/- UtilityWorksModel link -/
def kh_306 : ct_T := (357, [(2, 805, 805, 0), (0, 0, 0, 0), (0, 0, 6, 1)], [], [], [(1, (0, 140, 164, 4), [(2, 805, 805, 0), (0, 0, 0, 0), (0, 0, 6, 1)], [], ([], []))], [], 0, 0, 0)
theorem kh_306_ok : ct_ok wd_fl kh_306 := ct_of (ff := wd_ff) (y := (⟨"UtilityWorksModel", "link", "(II)I"⟩, prog_14_method_16_code, 3, some .int, 12, 1, 2, 32207, 32206, 5005, 21014)) (Cs := []) (an := []) (ss := []) (K := 1) (fuel := 4000) wd_fl_ok rfl (List.forall_mem_nil _) (by decide +kernel)
/- UtilityWorksModel boundOf -/
def kh_307 : ct_T := (367, [(2, 805, 805, 0), (0, 0, 0, 0), (0, 0, 6, 1)], [], [], [(1, (0, 0, 999, 1), [(2, 805, 805, 0), (0, 0, 0, 0), (0, 0, 6, 1)], [], ([], []))], [], 1, 22, 0)
theorem kh_307_ok : ct_ok wd_fl kh_307 := ct_of (ff := wd_ff) (y := (⟨"UtilityWorksModel", "boundOf", "(II)I"⟩, prog_14_method_18_code, 3, some .int, 12, 1, 2, 33005, 33004, 5011, 21014)) (Cs := [kh_306]) (an := []) (ss := []) (K := 1) (fuel := 4000) wd_fl_ok rfl (List.forall_mem_cons.mpr ⟨kh_306_ok, (List.forall_mem_nil _)⟩) (by decide +kernel)
/- UtilityWorksModel link -/
def kh_308 : ct_T := (357, [(2, 805, 805, 0), (0, 0, 0, 0), (0, 0, 7, 1)], [], [], [(1, (0, 140, 168, 4), [(2, 805, 805, 0), (0, 0, 0, 0), (0, 0, 7, 1)], [], ([], []))], [], 0, 0, 0)
theorem kh_308_ok : ct_ok wd_fl kh_308 := ct_of (ff := wd_ff) (y := (⟨"UtilityWorksModel", "link", "(II)I"⟩, prog_14_method_16_code, 3, some .int, 12, 1, 2, 32207, 32206, 5005, 21014)) (Cs := []) (an := []) (ss := []) (K := 1) (fuel := 4000) wd_fl_ok rfl (List.forall_mem_nil _) (by decide +kernel)
/- UtilityWorksModel boundOf -/
def kh_309 : ct_T := (367, [(2, 805, 805, 0), (0, 0, 0, 0), (0, 0, 7, 1)], [], [], [(1, (0, 0, 999, 1), [(2, 805, 805, 0), (0, 0, 0, 0), (0, 0, 7, 1)], [], ([], []))], [], 1, 22, 0)
theorem kh_309_ok : ct_ok wd_fl kh_309 := ct_of (ff := wd_ff) (y := (⟨"UtilityWorksModel", "boundOf", "(II)I"⟩, prog_14_method_18_code, 3, some .int, 12, 1, 2, 33005, 33004, 5011, 21014)) (Cs := [kh_308]) (an := []) (ss := []) (K := 1) (fuel := 4000) wd_fl_ok rfl (List.forall_mem_cons.mpr ⟨kh_308_ok, (List.forall_mem_nil _)⟩) (by decide +kernel)
/- UtilityWorksModel link -/
def kh_310 : ct_T := (357, [(2, 805, 805, 0), (0, 0, 0, 0), (0, 0, 8, 1)], [], [], [(1, (0, 140, 172, 4), [(2, 805, 805, 0), (0, 0, 0, 0), (0, 0, 8, 1)], [], ([], []))], [], 0, 0, 0)
theorem kh_310_ok : ct_ok wd_fl kh_310 := ct_of (ff := wd_ff) (y := (⟨"UtilityWorksModel", "link", "(II)I"⟩, prog_14_method_16_code, 3, some .int, 12, 1, 2, 32207, 32206, 5005, 21014)) (Cs := []) (an := []) (ss := []) (K := 1) (fuel := 4000) wd_fl_ok rfl (List.forall_mem_nil _) (by decide +kernel)
/- UtilityWorksModel boundOf -/
def kh_311 : ct_T := (367, [(2, 805, 805, 0), (0, 0, 0, 0), (0, 0, 8, 1)], [], [], [(1, (0, 0, 999, 1), [(2, 805, 805, 0), (0, 0, 0, 0), (0, 0, 8, 1)], [], ([], []))], [], 1, 22, 0)
theorem kh_311_ok : ct_ok wd_fl kh_311 := ct_of (ff := wd_ff) (y := (⟨"UtilityWorksModel", "boundOf", "(II)I"⟩, prog_14_method_18_code, 3, some .int, 12, 1, 2, 33005, 33004, 5011, 21014)) (Cs := [kh_310]) (an := []) (ss := []) (K := 1) (fuel := 4000) wd_fl_ok rfl (List.forall_mem_cons.mpr ⟨kh_310_ok, (List.forall_mem_nil _)⟩) (by decide +kernel)
/- UtilityWorksModel link -/
def kh_312 : ct_T := (357, [(2, 805, 805, 0), (0, 0, 0, 0), (0, 0, 9, 1)], [], [], [(1, (0, 140, 176, 4), [(2, 805, 805, 0), (0, 0, 0, 0), (0, 0, 9, 1)], [], ([], []))], [], 0, 0, 0)
theorem kh_312_ok : ct_ok wd_fl kh_312 := ct_of (ff := wd_ff) (y := (⟨"UtilityWorksModel", "link", "(II)I"⟩, prog_14_method_16_code, 3, some .int, 12, 1, 2, 32207, 32206, 5005, 21014)) (Cs := []) (an := []) (ss := []) (K := 1) (fuel := 4000) wd_fl_ok rfl (List.forall_mem_nil _) (by decide +kernel)
/- UtilityWorksModel boundOf -/
def kh_313 : ct_T := (367, [(2, 805, 805, 0), (0, 0, 0, 0), (0, 0, 9, 1)], [], [], [(1, (0, 0, 999, 1), [(2, 805, 805, 0), (0, 0, 0, 0), (0, 0, 9, 1)], [], ([], []))], [], 1, 22, 0)
theorem kh_313_ok : ct_ok wd_fl kh_313 := ct_of (ff := wd_ff) (y := (⟨"UtilityWorksModel", "boundOf", "(II)I"⟩, prog_14_method_18_code, 3, some .int, 12, 1, 2, 33005, 33004, 5011, 21014)) (Cs := [kh_312]) (an := []) (ss := []) (K := 1) (fuel := 4000) wd_fl_ok rfl (List.forall_mem_cons.mpr ⟨kh_312_ok, (List.forall_mem_nil _)⟩) (by decide +kernel)
/- UtilityWorksModel link -/
def kh_314 : ct_T := (357, [(2, 805, 805, 0), (0, 0, 0, 0), (0, 0, 10, 1)], [], [], [(1, (0, 140, 180, 4), [(2, 805, 805, 0), (0, 0, 0, 0), (0, 0, 10, 1)], [], ([], []))], [], 0, 0, 0)
theorem kh_314_ok : ct_ok wd_fl kh_314 := ct_of (ff := wd_ff) (y := (⟨"UtilityWorksModel", "link", "(II)I"⟩, prog_14_method_16_code, 3, some .int, 12, 1, 2, 32207, 32206, 5005, 21014)) (Cs := []) (an := []) (ss := []) (K := 1) (fuel := 4000) wd_fl_ok rfl (List.forall_mem_nil _) (by decide +kernel)
/- UtilityWorksModel boundOf -/
def kh_315 : ct_T := (367, [(2, 805, 805, 0), (0, 0, 0, 0), (0, 0, 10, 1)], [], [], [(1, (0, 0, 999, 1), [(2, 805, 805, 0), (0, 0, 0, 0), (0, 0, 10, 1)], [], ([], []))], [], 1, 22, 0)
theorem kh_315_ok : ct_ok wd_fl kh_315 := ct_of (ff := wd_ff) (y := (⟨"UtilityWorksModel", "boundOf", "(II)I"⟩, prog_14_method_18_code, 3, some .int, 12, 1, 2, 33005, 33004, 5011, 21014)) (Cs := [kh_314]) (an := []) (ss := []) (K := 1) (fuel := 4000) wd_fl_ok rfl (List.forall_mem_cons.mpr ⟨kh_314_ok, (List.forall_mem_nil _)⟩) (by decide +kernel)
/- UtilityWorksModel link -/
def kh_316 : ct_T := (357, [(2, 805, 805, 0), (0, 0, 0, 0), (0, 0, 11, 1)], [], [], [(1, (0, 140, 184, 4), [(2, 805, 805, 0), (0, 0, 0, 0), (0, 0, 11, 1)], [], ([], []))], [], 0, 0, 0)
theorem kh_316_ok : ct_ok wd_fl kh_316 := ct_of (ff := wd_ff) (y := (⟨"UtilityWorksModel", "link", "(II)I"⟩, prog_14_method_16_code, 3, some .int, 12, 1, 2, 32207, 32206, 5005, 21014)) (Cs := []) (an := []) (ss := []) (K := 1) (fuel := 4000) wd_fl_ok rfl (List.forall_mem_nil _) (by decide +kernel)
/- UtilityWorksModel boundOf -/
def kh_317 : ct_T := (367, [(2, 805, 805, 0), (0, 0, 0, 0), (0, 0, 11, 1)], [], [], [(1, (0, 0, 999, 1), [(2, 805, 805, 0), (0, 0, 0, 0), (0, 0, 11, 1)], [], ([], []))], [], 1, 22, 0)
theorem kh_317_ok : ct_ok wd_fl kh_317 := ct_of (ff := wd_ff) (y := (⟨"UtilityWorksModel", "boundOf", "(II)I"⟩, prog_14_method_18_code, 3, some .int, 12, 1, 2, 33005, 33004, 5011, 21014)) (Cs := [kh_316]) (an := []) (ss := []) (K := 1) (fuel := 4000) wd_fl_ok rfl (List.forall_mem_cons.mpr ⟨kh_316_ok, (List.forall_mem_nil _)⟩) (by decide +kernel)
/- UtilityWorksModel link -/
def kh_318 : ct_T := (357, [(2, 805, 805, 0), (0, 0, 0, 0), (0, 0, 12, 1)], [], [], [(1, (0, 140, 188, 4), [(2, 805, 805, 0), (0, 0, 0, 0), (0, 0, 12, 1)], [], ([], []))], [], 0, 0, 0)
theorem kh_318_ok : ct_ok wd_fl kh_318 := ct_of (ff := wd_ff) (y := (⟨"UtilityWorksModel", "link", "(II)I"⟩, prog_14_method_16_code, 3, some .int, 12, 1, 2, 32207, 32206, 5005, 21014)) (Cs := []) (an := []) (ss := []) (K := 1) (fuel := 4000) wd_fl_ok rfl (List.forall_mem_nil _) (by decide +kernel)
/- UtilityWorksModel boundOf -/
def kh_319 : ct_T := (367, [(2, 805, 805, 0), (0, 0, 0, 0), (0, 0, 12, 1)], [], [], [(1, (0, 0, 999, 1), [(2, 805, 805, 0), (0, 0, 0, 0), (0, 0, 12, 1)], [], ([], []))], [], 1, 22, 0)
theorem kh_319_ok : ct_ok wd_fl kh_319 := ct_of (ff := wd_ff) (y := (⟨"UtilityWorksModel", "boundOf", "(II)I"⟩, prog_14_method_18_code, 3, some .int, 12, 1, 2, 33005, 33004, 5011, 21014)) (Cs := [kh_318]) (an := []) (ss := []) (K := 1) (fuel := 4000) wd_fl_ok rfl (List.forall_mem_cons.mpr ⟨kh_318_ok, (List.forall_mem_nil _)⟩) (by decide +kernel)
/- UtilityWorksModel link -/
def kh_320 : ct_T := (357, [(2, 805, 805, 0), (0, 0, 0, 0), (0, 0, 16, 1)], [], [], [(1, (0, 140, 204, 4), [(2, 805, 805, 0), (0, 0, 0, 0), (0, 0, 16, 1)], [], ([], []))], [], 0, 0, 0)
theorem kh_320_ok : ct_ok wd_fl kh_320 := ct_of (ff := wd_ff) (y := (⟨"UtilityWorksModel", "link", "(II)I"⟩, prog_14_method_16_code, 3, some .int, 12, 1, 2, 32207, 32206, 5005, 21014)) (Cs := []) (an := []) (ss := []) (K := 1) (fuel := 4000) wd_fl_ok rfl (List.forall_mem_nil _) (by decide +kernel)
/- UtilityWorksModel boundOf -/
def kh_321 : ct_T := (367, [(2, 805, 805, 0), (0, 0, 0, 0), (0, 0, 16, 1)], [], [], [(1, (0, 0, 999, 1), [(2, 805, 805, 0), (0, 0, 0, 0), (0, 0, 16, 1)], [], ([], []))], [], 1, 22, 0)
theorem kh_321_ok : ct_ok wd_fl kh_321 := ct_of (ff := wd_ff) (y := (⟨"UtilityWorksModel", "boundOf", "(II)I"⟩, prog_14_method_18_code, 3, some .int, 12, 1, 2, 33005, 33004, 5011, 21014)) (Cs := [kh_320]) (an := []) (ss := []) (K := 1) (fuel := 4000) wd_fl_ok rfl (List.forall_mem_cons.mpr ⟨kh_320_ok, (List.forall_mem_nil _)⟩) (by decide +kernel)
abbrev kh_tripping_y : mt_T := (⟨"UtilityWorksModel", "tripping", "()I"⟩, prog_14_method_90_code, 5, some .int, 12, 1, 0, 34114, 34113, 10011, 21014)
def kh_tripping : ct_T := (455, [(2, 805, 805, 0)], [], [], [(1, (0, (-1), 16, 1), [(2, 805, 805, 0)], [], ([], [(1000, 0, 0)]))], [], 2, 44, 0)
def kh_tripping_a6 : an_T := (6, 0, ([((2, 805, 805, 0), none), ((0, (-1), 16, 1), none), ((0, 0, 2147483647, 1), none), ((0, 0, 17, 1), none)], [(0, 0), (1, 1), (2, 2), (3, 3)], [], [], [], [], [], [], none), [])
def kh_tripping_b0_0 : sg_T := (6, 0, ([((2, 805, 805, 0), none), ((0, (-1), (-1), 0), none), ((0, 0, 0, 0), none), ((0, 0, 0, 0), none)], [(3, 3), (2, 2), (1, 1), (0, 0)], [], [], [], [], [], [], some []))
def kh_tripping_b6_0 : sg_T := (75, 0, ([((2, 805, 805, 0), none), ((0, (-1), 16, 1), none), ((0, 0, 2147483647, 1), none), ((0, 17, 17, 1), none), ((0, 17, 17, 0), none)], [(0, 0), (1, 1), (2, 2), (3, 3)], [1], [], [], [(200000, 4, 3)], [], [], some []))
def kh_tripping_b6_1 : sg_T := (6, 0, ([((2, 805, 805, 0), none), ((0, (-1), 16, 1), none), ((0, 0, 2147483647, 1), none), ((0, 0, 16, 1), none), ((0, 17, 17, 0), none), ((2, 815, 815, 1), none), ((0, 0, 0, 1), none), ((0, 0, 0, 0), none), ((0, 1, 17, 1), some (3, 1))], [(3, 8), (2, 2), (1, 1), (4, 7), (0, 0)], [], [(5, 3, 6)], [], [(200000, 7, 2), (200000, 7, 2), (800006, 5, 3), (100000, 3, 4)], [], [], some []))
def kh_tripping_b6_2 : sg_T := (6, 0, ([((2, 805, 805, 0), none), ((0, (-1), 16, 1), none), ((0, 0, 2147483647, 1), none), ((0, 0, 16, 1), none), ((0, 17, 17, 0), none), ((2, 815, 815, 1), none), ((0, 1, 1, 1), none), ((2, 820, 820, 1), none), ((0, (-2147483648), 2147483647, 1), none), ((0, (-2147483648), 2147483647, 1), none), ((0, 0, 0, 0), none), ((0, 0, 999, 1), none), ((0, (-2147483648), 2147483647, 1), none), ((0, 1, 17, 1), some (3, 1))], [(3, 13), (2, 2), (1, 1), (4, 12), (0, 0)], [], [(7, 3, 8), (5, 3, 6)], [(6, 0)], [(200000, 12, 2), (200000, 12, 2), (800008, 7, 3), (800006, 5, 3), (100000, 3, 4)], [], [], some []))
def kh_tripping_b6_3 : sg_T := (6, 0, ([((2, 805, 805, 0), none), ((0, (-1), 16, 1), none), ((0, 0, 2147483646, 1), none), ((0, 0, 16, 1), none), ((0, 17, 17, 0), none), ((2, 815, 815, 1), none), ((0, 1, 1, 1), none), ((2, 820, 820, 1), none), ((0, (-2147483648), 2147483647, 1), none), ((0, (-2147483648), 2147483647, 1), none), ((0, 0, 0, 0), none), ((0, 0, 999, 1), none), ((0, 1, 2147483647, 1), none), ((0, 1, 17, 1), some (3, 1))], [(3, 13), (2, 12), (1, 1), (4, 12), (0, 0)], [], [(7, 3, 8), (5, 3, 6)], [(6, 0)], [(100000, 2, 12), (200000, 12, 2), (800008, 7, 3), (800006, 5, 3), (100000, 3, 4)], [], [], some []))
def kh_tripping_b6_4 : sg_T := (6, 0, ([((2, 805, 805, 0), none), ((0, (-1), 16, 1), none), ((0, 1, 2147483646, 1), none), ((0, 0, 16, 1), none), ((0, 17, 17, 0), none), ((2, 815, 815, 1), none), ((0, 1, 1, 1), none), ((2, 820, 820, 1), none), ((0, (-2147483648), 2147483647, 1), none), ((0, (-2147483648), 2147483647, 1), none), ((0, 0, 0, 0), none), ((0, 0, 999, 1), none), ((0, 1, 2147483646, 1), none), ((0, 1, 17, 1), some (3, 1))], [(3, 13), (2, 2), (1, 3), (4, 12), (0, 0)], [], [(7, 3, 8), (5, 3, 6)], [(6, 0)], [(200000, 12, 2), (100000, 2, 12), (800008, 7, 3), (800006, 5, 3), (100000, 3, 4)], [], [], some []))
def kh_tripping_b6_5 : sg_T := (6, 0, ([((2, 805, 805, 0), none), ((0, (-1), 16, 1), none), ((0, 0, 2147483646, 1), none), ((0, 0, 16, 1), none), ((0, 17, 17, 0), none), ((2, 815, 815, 1), none), ((0, 1, 1, 1), none), ((2, 820, 820, 1), none), ((0, (-2147483648), 2147483647, 1), none), ((0, (-2147483648), 2147483647, 1), none), ((0, 0, 0, 0), none), ((0, 0, 999, 1), none), ((0, 1, 2147483647, 1), none), ((0, 1, 17, 1), some (3, 1))], [(3, 13), (2, 12), (1, 3), (4, 12), (0, 0)], [], [(7, 3, 8), (5, 3, 6)], [(6, 0)], [(100000, 2, 12), (100000, 2, 12), (800008, 7, 3), (800006, 5, 3), (100000, 3, 4)], [], [], some []))
theorem kh_tripping_ok : ct_ok wd_fl kh_tripping := ct_hand (ff := wd_ff) (y := kh_tripping_y) (Cs := [kh_293, kh_295, kh_297, kh_299, kh_301, kh_303, kh_305, kh_307, kh_309, kh_311, kh_313, kh_315, kh_317, kh_319, kh_321]) wd_fl_ok rfl (List.forall_mem_cons.mpr ⟨kh_293_ok, (List.forall_mem_cons.mpr ⟨kh_295_ok, (List.forall_mem_cons.mpr ⟨kh_297_ok, (List.forall_mem_cons.mpr ⟨kh_299_ok, (List.forall_mem_cons.mpr ⟨kh_301_ok, (List.forall_mem_cons.mpr ⟨kh_303_ok, (List.forall_mem_cons.mpr ⟨kh_305_ok, (List.forall_mem_cons.mpr ⟨kh_307_ok, (List.forall_mem_cons.mpr ⟨kh_309_ok, (List.forall_mem_cons.mpr ⟨kh_311_ok, (List.forall_mem_cons.mpr ⟨kh_313_ok, (List.forall_mem_cons.mpr ⟨kh_315_ok, (List.forall_mem_cons.mpr ⟨kh_317_ok, (List.forall_mem_cons.mpr ⟨kh_319_ok, (List.forall_mem_cons.mpr ⟨kh_321_ok, (List.forall_mem_nil _)⟩)⟩)⟩)⟩)⟩)⟩)⟩)⟩)⟩)⟩)⟩)⟩)⟩)⟩)⟩) (by decide +kernel) (fun l D tc ad kd N sm xs S p e s m args below meth c sz lv G H0 => by
  have hx : xs.length = 1 := by rw [H0.2.1.1]; rfl
  have hP : ∀ (k : Nat), (∀ (α : List av_X) (lv : List (Nat × Value)) (S1 : fw_S), as_in ad sm wd_fl xs S kh_tripping.2.2.2.2.2.1 α kh_tripping_a6.2.2.1 lv [] S1 → (nv α 1 = -1 ∨ 0 ≤ nv α 1 ∧ nv α 1 ≤ 16 ∧ (S1.1 815 (nv α 1).toNat).toInt = 1) → (17 - nv α 3).toNat < k → hd_W wd_fl kh_tripping kh_tripping_y l D tc ad kd N sm xs S p e s m args below meth c sz 6 lv [] S1 0) ∧ True := by
    intro k
    induction k with
    | zero => exact ⟨fun _ _ _ _ _ h => absurd h (Nat.not_lt_zero _), trivial⟩
    | succ k ih =>
    refine ⟨?_, trivial⟩
    · intro α lv S1 H hp hk
      obtain ⟨α1, hle, Hr⟩ := as_recM (pl := []) [] (by decide +kernel) H
      have hf := H.2.2.2.2.2.2.2.2.2.2.1
      have hl1 : α1.length = 4 := by rw [Hr.2.1.1]; rfl
      have hl0 : α.length = 4 := by rw [H.2.1.1]; rfl
      have hxa : al_le xs α1 := H.1.trans hle
      obtain ⟨g1, -, g3, g4, -⟩ := as_fx Hr
      have g0 : (805 ≤ nv α1 0 ∧ nv α1 0 ≤ 805) ∧ ((-1) ≤ nv α1 1 ∧ nv α1 1 ≤ 16) ∧ (0 ≤ nv α1 2 ∧ nv α1 2 ≤ 2147483647) ∧ (0 ≤ nv α1 3 ∧ nv α1 3 ≤ 17) ∧ True := by
        refine ⟨by have h := (en_nv (i := 0) Hr.2.1 rfl).2; exact h, by have h := (en_nv (i := 1) Hr.2.1 rfl).2; exact h, by have h := (en_nv (i := 2) Hr.2.1 rfl).2; exact h, by have h := (en_nv (i := 3) Hr.2.1 rfl).2; exact h, trivial⟩
      have r0 : nv α1 0 = nv α 0 := nv_le hle (by omega)
      have r1 : nv α1 1 = nv α 1 := nv_le hle (by omega)
      have r2 : nv α1 2 = nv α 2 := nv_le hle (by omega)
      have r3 : nv α1 3 = nv α 3 := nv_le hle (by omega)
      refine hd_segM G (na := 4) (fuel := 600) (first := true) (Bs := [kh_tripping_b6_0, kh_tripping_b6_1, kh_tripping_b6_2, kh_tripping_b6_3, kh_tripping_b6_4, kh_tripping_b6_5]) (by decide +kernel) hl1 Hr ?_
      intro q hq β lv' st' S' H1
      simp only [List.mem_cons, List.not_mem_nil, or_false] at hq
      rcases hq with rfl | rfl | rfl | rfl | rfl | rfl
      · obtain ⟨f1, f2, f3, f4, f5⟩ := as_fx H1
        simp only [kh_tripping_b6_0, fx_env, fx_c, fx_ne, fx_hf, wl_S, Nat.zero_add, Nat.reduceAdd, Nat.reduceDiv, Nat.reduceMod, List.getElem?_cons_zero, List.getElem?_cons_succ, if_true, and_true, true_and] at f1 f2 f3 f4 f5
        have fe0 : nv β 0 = 805 := by omega
        have fe3 : nv β 3 = 17 := by omega
        have fe4 : nv β 4 = 17 := by omega
        try simp only [fe0, fe3, fe4, Int.reduceToNat] at f2 f3 f4 f5
        have s0 : nv β 0 = nv α1 0 := nv_le H1.1 (by omega)
        have s1 : nv β 1 = nv α1 1 := nv_le H1.1 (by omega)
        have s2 : nv β 2 = nv α1 2 := nv_le H1.1 (by omega)
        have s3 : nv β 3 = nv α1 3 := nv_le H1.1 (by omega)
        have c0 := f2
        have eS : S1 = S := fr_same (show fr_in [] S S1 from hf)
        refine hd_retI G (v := 1) (by decide +kernel) (as_backM H1 (by decide +kernel) hxa hf) _ List.mem_cons_self rfl (by decide +kernel) (by decide) (fun w hw => ?_)
        rcases List.mem_singleton.mp hw with rfl
        have g0 := (en_nv (i := 0) H0.2.1 rfl).1
        refine ⟨_, _, g0, g0, ?_⟩
        rw [← eS]
        show nv β 1 = -1 ∨ 0 ≤ nv β 1 ∧ nv β 1 ≤ 16 ∧ (S1.1 815 (nv β 1).toNat).toInt = 1
        rw [s1, r1]
        exact hp
      · have hst := st_nil H1 rfl
        subst hst
        obtain ⟨f1, f2, f3, f4, f5⟩ := as_fx H1
        simp only [kh_tripping_b6_1, fx_env, fx_c, fx_ne, fx_hf, wl_S, Nat.zero_add, Nat.reduceAdd, Nat.reduceDiv, Nat.reduceMod, List.getElem?_cons_zero, List.getElem?_cons_succ, if_true, and_true, true_and] at f1 f2 f3 f4 f5
        have fe0 : nv β 0 = 805 := by omega
        have fe4 : nv β 4 = 17 := by omega
        have fe5 : nv β 5 = 815 := by omega
        have fe6 : nv β 6 = 0 := by omega
        have fe7 : nv β 7 = 0 := by omega
        try simp only [fe0, fe4, fe5, fe6, fe7, Int.reduceToNat] at f2 f3 f4 f5
        have s0 : nv β 0 = nv α1 0 := nv_le H1.1 (by omega)
        have s1 : nv β 1 = nv α1 1 := nv_le H1.1 (by omega)
        have s2 : nv β 2 = nv α1 2 := nv_le H1.1 (by omega)
        have s3 : nv β 3 = nv α1 3 := nv_le H1.1 (by omega)
        obtain ⟨c0, c1, c2, c3⟩ := f2
        obtain ⟨α', Ha, hm⟩ := hd_gpM (q := kh_tripping_a6) (n := 0) (by decide +kernel) hx H1 (by decide +kernel) hxa hf
        have hfr := H1.2.2.2.2.2.2.2.2.2.2.1
        have m0 : nv α' 0 = nv β 0 := hm 0 0 rfl
        have m1 : nv α' 1 = nv β 1 := hm 1 1 rfl
        have m2 : nv α' 2 = nv β 2 := hm 2 2 rfl
        have m3 : nv α' 3 = nv β 8 := hm 3 8 rfl
        subst S'
        refine ih.1 _ _ _ Ha ?_ ?_
        · rw [m1, s1, r1]; exact hp
        · omega
      · have hst := st_nil H1 rfl
        subst hst
        obtain ⟨f1, f2, f3, f4, f5⟩ := as_fx H1
        simp only [kh_tripping_b6_2, fx_env, fx_c, fx_ne, fx_hf, wl_S, Nat.zero_add, Nat.reduceAdd, Nat.reduceDiv, Nat.reduceMod, List.getElem?_cons_zero, List.getElem?_cons_succ, if_true, and_true, true_and] at f1 f2 f3 f4 f5
        have fe0 : nv β 0 = 805 := by omega
        have fe4 : nv β 4 = 17 := by omega
        have fe5 : nv β 5 = 815 := by omega
        have fe6 : nv β 6 = 1 := by omega
        have fe7 : nv β 7 = 820 := by omega
        have fe10 : nv β 10 = 0 := by omega
        try simp only [fe0, fe4, fe5, fe6, fe7, fe10, Int.reduceToNat] at f2 f3 f4 f5
        have s0 : nv β 0 = nv α1 0 := nv_le H1.1 (by omega)
        have s1 : nv β 1 = nv α1 1 := nv_le H1.1 (by omega)
        have s2 : nv β 2 = nv α1 2 := nv_le H1.1 (by omega)
        have s3 : nv β 3 = nv α1 3 := nv_le H1.1 (by omega)
        obtain ⟨c0, c1, c2, c3, c4⟩ := f2
        obtain ⟨α', Ha, hm⟩ := hd_gpM (q := kh_tripping_a6) (n := 0) (by decide +kernel) hx H1 (by decide +kernel) hxa hf
        have hfr := H1.2.2.2.2.2.2.2.2.2.2.1
        have m0 : nv α' 0 = nv β 0 := hm 0 0 rfl
        have m1 : nv α' 1 = nv β 1 := hm 1 1 rfl
        have m2 : nv α' 2 = nv β 2 := hm 2 2 rfl
        have m3 : nv α' 3 = nv β 13 := hm 3 13 rfl
        subst S'
        refine ih.1 _ _ _ Ha ?_ ?_
        · rw [m1, s1, r1]; exact hp
        · omega
      · have hst := st_nil H1 rfl
        subst hst
        obtain ⟨f1, f2, f3, f4, f5⟩ := as_fx H1
        simp only [kh_tripping_b6_3, fx_env, fx_c, fx_ne, fx_hf, wl_S, Nat.zero_add, Nat.reduceAdd, Nat.reduceDiv, Nat.reduceMod, List.getElem?_cons_zero, List.getElem?_cons_succ, if_true, and_true, true_and] at f1 f2 f3 f4 f5
        have fe0 : nv β 0 = 805 := by omega
        have fe4 : nv β 4 = 17 := by omega
        have fe5 : nv β 5 = 815 := by omega
        have fe6 : nv β 6 = 1 := by omega
        have fe7 : nv β 7 = 820 := by omega
        have fe10 : nv β 10 = 0 := by omega
        try simp only [fe0, fe4, fe5, fe6, fe7, fe10, Int.reduceToNat] at f2 f3 f4 f5
        have s0 : nv β 0 = nv α1 0 := nv_le H1.1 (by omega)
        have s1 : nv β 1 = nv α1 1 := nv_le H1.1 (by omega)
        have s2 : nv β 2 = nv α1 2 := nv_le H1.1 (by omega)
        have s3 : nv β 3 = nv α1 3 := nv_le H1.1 (by omega)
        obtain ⟨c0, c1, c2, c3, c4⟩ := f2
        obtain ⟨α', Ha, hm⟩ := hd_gpM (q := kh_tripping_a6) (n := 0) (by decide +kernel) hx H1 (by decide +kernel) hxa hf
        have hfr := H1.2.2.2.2.2.2.2.2.2.2.1
        have m0 : nv α' 0 = nv β 0 := hm 0 0 rfl
        have m1 : nv α' 1 = nv β 1 := hm 1 1 rfl
        have m2 : nv α' 2 = nv β 12 := hm 2 12 rfl
        have m3 : nv α' 3 = nv β 13 := hm 3 13 rfl
        subst S'
        refine ih.1 _ _ _ Ha ?_ ?_
        · rw [m1, s1, r1]; exact hp
        · omega
      · have hst := st_nil H1 rfl
        subst hst
        obtain ⟨f1, f2, f3, f4, f5⟩ := as_fx H1
        simp only [kh_tripping_b6_4, fx_env, fx_c, fx_ne, fx_hf, wl_S, Nat.zero_add, Nat.reduceAdd, Nat.reduceDiv, Nat.reduceMod, List.getElem?_cons_zero, List.getElem?_cons_succ, if_true, and_true, true_and] at f1 f2 f3 f4 f5
        have fe0 : nv β 0 = 805 := by omega
        have fe4 : nv β 4 = 17 := by omega
        have fe5 : nv β 5 = 815 := by omega
        have fe6 : nv β 6 = 1 := by omega
        have fe7 : nv β 7 = 820 := by omega
        have fe10 : nv β 10 = 0 := by omega
        try simp only [fe0, fe4, fe5, fe6, fe7, fe10, Int.reduceToNat] at f2 f3 f4 f5
        have s0 : nv β 0 = nv α1 0 := nv_le H1.1 (by omega)
        have s1 : nv β 1 = nv α1 1 := nv_le H1.1 (by omega)
        have s2 : nv β 2 = nv α1 2 := nv_le H1.1 (by omega)
        have s3 : nv β 3 = nv α1 3 := nv_le H1.1 (by omega)
        obtain ⟨c0, c1, c2, c3, c4⟩ := f2
        obtain ⟨α', Ha, hm⟩ := hd_gpM (q := kh_tripping_a6) (n := 0) (by decide +kernel) hx H1 (by decide +kernel) hxa hf
        have hfr := H1.2.2.2.2.2.2.2.2.2.2.1
        have m0 : nv α' 0 = nv β 0 := hm 0 0 rfl
        have m1 : nv α' 1 = nv β 3 := hm 1 3 rfl
        have m2 : nv α' 2 = nv β 2 := hm 2 2 rfl
        have m3 : nv α' 3 = nv β 13 := hm 3 13 rfl
        subst S'
        refine ih.1 _ _ _ Ha ?_ ?_
        · refine Or.inr ⟨by omega, by omega, ?_⟩
          rw [m1]
          have := old_0 c3 rfl
          omega
        · omega
      · have hst := st_nil H1 rfl
        subst hst
        obtain ⟨f1, f2, f3, f4, f5⟩ := as_fx H1
        simp only [kh_tripping_b6_5, fx_env, fx_c, fx_ne, fx_hf, wl_S, Nat.zero_add, Nat.reduceAdd, Nat.reduceDiv, Nat.reduceMod, List.getElem?_cons_zero, List.getElem?_cons_succ, if_true, and_true, true_and] at f1 f2 f3 f4 f5
        have fe0 : nv β 0 = 805 := by omega
        have fe4 : nv β 4 = 17 := by omega
        have fe5 : nv β 5 = 815 := by omega
        have fe6 : nv β 6 = 1 := by omega
        have fe7 : nv β 7 = 820 := by omega
        have fe10 : nv β 10 = 0 := by omega
        try simp only [fe0, fe4, fe5, fe6, fe7, fe10, Int.reduceToNat] at f2 f3 f4 f5
        have s0 : nv β 0 = nv α1 0 := nv_le H1.1 (by omega)
        have s1 : nv β 1 = nv α1 1 := nv_le H1.1 (by omega)
        have s2 : nv β 2 = nv α1 2 := nv_le H1.1 (by omega)
        have s3 : nv β 3 = nv α1 3 := nv_le H1.1 (by omega)
        obtain ⟨c0, c1, c2, c3, c4⟩ := f2
        obtain ⟨α', Ha, hm⟩ := hd_gpM (q := kh_tripping_a6) (n := 0) (by decide +kernel) hx H1 (by decide +kernel) hxa hf
        have hfr := H1.2.2.2.2.2.2.2.2.2.2.1
        have m0 : nv α' 0 = nv β 0 := hm 0 0 rfl
        have m1 : nv α' 1 = nv β 3 := hm 1 3 rfl
        have m2 : nv α' 2 = nv β 12 := hm 2 12 rfl
        have m3 : nv α' 3 = nv β 13 := hm 3 13 rfl
        subst S'
        refine ih.1 _ _ _ Ha ?_ ?_
        · refine Or.inr ⟨by omega, by omega, ?_⟩
          rw [m1]
          have := old_0 c3 rfl
          omega
        · omega
  obtain ⟨α1, hle, Hr⟩ := as_recM (pl := []) [] (by decide +kernel) H0
  have hf := H0.2.2.2.2.2.2.2.2.2.2.1
  have hl1 : α1.length = 1 := by rw [Hr.2.1.1]; rfl
  have hl0 : xs.length = 1 := by rw [H0.2.1.1]; rfl
  have hxa : al_le xs α1 := H0.1.trans hle
  obtain ⟨g1, -, g3, g4, -⟩ := as_fx Hr
  have g0 : (805 ≤ nv α1 0 ∧ nv α1 0 ≤ 805) ∧ True := by
    refine ⟨by have h := (en_nv (i := 0) Hr.2.1 rfl).2; exact h, trivial⟩
  have r0 : nv α1 0 = nv xs 0 := nv_le hle (by omega)
  refine hd_segM G (na := 1) (fuel := 600) (first := true) (Bs := [kh_tripping_b0_0]) (by decide +kernel) hl1 Hr ?_
  intro q hq β lv' st' S' H1
  simp only [List.mem_cons, List.not_mem_nil, or_false] at hq
  rcases hq with rfl
  · have hst := st_nil H1 rfl
    subst hst
    obtain ⟨f1, f2, f3, f4, f5⟩ := as_fx H1
    simp only [kh_tripping_b0_0, fx_env, fx_c, fx_ne, fx_hf, wl_S, Nat.zero_add, Nat.reduceAdd, Nat.reduceDiv, Nat.reduceMod, List.getElem?_cons_zero, List.getElem?_cons_succ, if_true, and_true, true_and] at f1 f2 f3 f4 f5
    have fe0 : nv β 0 = 805 := by omega
    have fe1 : nv β 1 = (-1) := by omega
    have fe2 : nv β 2 = 0 := by omega
    have fe3 : nv β 3 = 0 := by omega
    try simp only [fe0, fe1, fe2, fe3, Int.reduceToNat] at f2 f3 f4 f5
    have s0 : nv β 0 = nv α1 0 := nv_le H1.1 (by omega)
    obtain ⟨α', Ha, hm⟩ := hd_gpM (q := kh_tripping_a6) (n := 0) (by decide +kernel) hx H1 (by decide +kernel) hxa hf
    have hfr := H1.2.2.2.2.2.2.2.2.2.2.1
    have m0 : nv α' 0 = nv β 0 := hm 0 0 rfl
    have m1 : nv α' 1 = nv β 1 := hm 1 1 rfl
    have m2 : nv α' 2 = nv β 2 := hm 2 2 rfl
    have m3 : nv α' 3 = nv β 3 := hm 3 3 rfl
    subst S'
    refine (hP _).1 _ _ _ Ha ?_ (Nat.lt_succ_self _)
    · exact Or.inl (by omega))
