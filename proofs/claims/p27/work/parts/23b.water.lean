/-! ===== bounds, heights, room, open pipes ===== -/
theorem wOp_e {S S1 : fw_S} {t : Nat} {h : Int} (ht : t ≤ 16) (e6 : S1.1 806 = S.1 806) (e9 : S1.1 839 = S.1 839) : wOpP S1 t h ↔ wOpP S t h :=
  ⟨wOp_eq ht (fun j _ => by rw [e6]) (fun j _ => by rw [e9]), wOp_eq ht (fun j _ => by rw [e6]) (fun j _ => by rw [e9])⟩
abbrev kh_boundOf_y : mt_T := (⟨"UtilityWorksModel", "boundOf", "(II)I"⟩, prog_14_method_18_code, 3, some .int, 12, 1, 2, 33005, 33004, 5011, 21014)
def kh_boundOf : ct_T := (367, [(2, 805, 805, 0), (0, 0, 2, 1), (0, 0, 16, 1)], [], [], [(1, (0, 0, 999, 1), [(2, 805, 805, 0), (0, 0, 2, 1), (0, 0, 16, 1)], [], ([], [(1019, 1, 2)]))], [], 1, 22, 0)
def kh_boundOf_b0_0 : sg_T := (13, 0, ([((2, 805, 805, 0), none), ((0, 0, 2, 1), none), ((0, 0, 16, 1), none), ((2, 806, 806, 1), none), ((0, 140, 340, 4), none), ((0, 1, 1, 0), none), ((0, 141, 341, 4), some (4, 1)), ((0, 0, 999, 1), none)], [(0, 0), (1, 1), (2, 2)], [7], [(3, 6, 7)], [], [(800007, 3, 6), (500006, 4, 5), (1600004, 1, 2)], [], [], some []))
set_option maxHeartbeats 16000000 in
set_option maxRecDepth 8000 in
theorem kh_boundOf_ok : ct_ok wd_fl2 kh_boundOf := ct_hand (ff := wd_ff2) (y := kh_boundOf_y) (Cs := [kh_link]) wd_fl2_ok rfl (List.forall_mem_cons.mpr ⟨kh_link_l2, (List.forall_mem_nil _)⟩) (by decide +kernel) (fun l D tc ad kd N sm xs S p e s m args below meth c sz lv G H0 => by
  have hx : xs.length = 3 := by rw [H0.2.1.1]; rfl
  obtain ⟨α1, hle, Hr⟩ := as_recM (pl := []) [] (by decide +kernel) H0
  have hf := H0.2.2.2.2.2.2.2.2.2.2.1
  have hl1 : α1.length = 3 := by rw [Hr.2.1.1]; rfl
  have hl0 : xs.length = 3 := by rw [H0.2.1.1]; rfl
  have hxa : al_le xs α1 := H0.1.trans hle
  obtain ⟨g1, -, g3, g4, -⟩ := as_fx Hr
  have g0 : (805 ≤ nv α1 0 ∧ nv α1 0 ≤ 805) ∧ (0 ≤ nv α1 1 ∧ nv α1 1 ≤ 2) ∧ (0 ≤ nv α1 2 ∧ nv α1 2 ≤ 16) ∧ True := by
    refine ⟨by have h := (en_nv (i := 0) Hr.2.1 rfl).2; exact h, by have h := (en_nv (i := 1) Hr.2.1 rfl).2; exact h, by have h := (en_nv (i := 2) Hr.2.1 rfl).2; exact h, trivial⟩
  have r0 : nv α1 0 = nv xs 0 := nv_le hle (by omega)
  have r1 : nv α1 1 = nv xs 1 := nv_le hle (by omega)
  have r2 : nv α1 2 = nv xs 2 := nv_le hle (by omega)
  refine hd_segM G (na := 3) (fuel := 600) (first := true) (Bs := [kh_boundOf_b0_0]) (by decide +kernel) hl1 Hr ?_
  intro q hq β lv' st' S' H1
  simp only [List.mem_cons, List.not_mem_nil, or_false] at hq
  rcases hq with rfl
  · obtain ⟨f1, f2, f3, f4, f5⟩ := as_fx H1
    simp only [kh_boundOf_b0_0, fx_env, fx_c, fx_ne, fx_hf, wl_S, Nat.zero_add, Nat.reduceAdd, Nat.reduceDiv, Nat.reduceMod, List.getElem?_cons_zero, List.getElem?_cons_succ, if_true, and_true, true_and] at f1 f2 f3 f4 f5
    have fe0 : nv β 0 = 805 := by omega
    have fe3 : nv β 3 = 806 := by omega
    have fe5 : nv β 5 = 1 := by omega
    try simp only [fe0, fe3, fe5, Int.reduceToNat] at f2 f3 f4 f5
    have s0 : nv β 0 = nv α1 0 := nv_le H1.1 (by omega)
    have s1 : nv β 1 = nv α1 1 := nv_le H1.1 (by omega)
    have s2 : nv β 2 = nv α1 2 := nv_le H1.1 (by omega)
    obtain ⟨c0, c1, c2⟩ := f2
    have d2 := fl1_b (by decide) (fl2_b (by decide) c2)
    simp only [wd_fl] at d2
    have hS : S' = S := by subst S'; rfl
    refine hd_retI G (v := 7) (by decide +kernel) (as_backM H1 (by decide +kernel) hxa hf) _ List.mem_cons_self rfl (by decide +kernel) (by decide) (fun w hw => ?_)
    rcases List.mem_singleton.mp hw with rfl
    have g0' := (en_nv (i := 1) H0.2.1 rfl).1
    have g1' := (en_nv (i := 2) H0.2.1 rfl).1
    refine ⟨_, _, g0', g1', ?_⟩
    rw [wd_fl2, if_neg (by decide)]
    show nv β 7 = lkv S (nv xs 1) (nv xs 2) 1
    have o := old_0 c0 rfl
    unfold lkv
    rw [← o, show 140 + 4 * (17 * nv xs 1 + nv xs 2) + 1 = nv β 6 by omega])
abbrev kh_heightOf_y : mt_T := (⟨"UtilityWorksModel", "heightOf", "(I)I"⟩, prog_14_method_30_code, 2, some .int, 12, 1, 1, 33093, 33092, 6012, 21014)
def kh_heightOf : ct_T := (389, [(2, 805, 805, 0), (0, 0, 11, 1)], [], [], [(1, (0, 0, 99, 1), [(2, 805, 805, 0), (0, 0, 11, 1)], [], ([], [(1023, 1, 1)]))], [], 0, 0, 0)
def kh_heightOf_b0_0 : sg_T := (9, 0, ([((2, 805, 805, 0), none), ((0, 0, 11, 1), none), ((2, 806, 806, 1), none), ((0, 20, 20, 0), none), ((0, 20, 31, 1), none), ((0, 0, 99, 1), none)], [(0, 0), (1, 1)], [5], [(2, 4, 5)], [], [(800005, 2, 4), (500004, 3, 1)], [], [], some []))
set_option maxHeartbeats 16000000 in
set_option maxRecDepth 8000 in
theorem kh_heightOf_ok : ct_ok wd_fl2 kh_heightOf := ct_hand (ff := wd_ff2) (y := kh_heightOf_y) (Cs := []) wd_fl2_ok rfl (List.forall_mem_nil _) (by decide +kernel) (fun l D tc ad kd N sm xs S p e s m args below meth c sz lv G H0 => by
  have hx : xs.length = 2 := by rw [H0.2.1.1]; rfl
  obtain ⟨α1, hle, Hr⟩ := as_recM (pl := []) [] (by decide +kernel) H0
  have hf := H0.2.2.2.2.2.2.2.2.2.2.1
  have hl1 : α1.length = 2 := by rw [Hr.2.1.1]; rfl
  have hl0 : xs.length = 2 := by rw [H0.2.1.1]; rfl
  have hxa : al_le xs α1 := H0.1.trans hle
  obtain ⟨g1, -, g3, g4, -⟩ := as_fx Hr
  have g0 : (805 ≤ nv α1 0 ∧ nv α1 0 ≤ 805) ∧ (0 ≤ nv α1 1 ∧ nv α1 1 ≤ 11) ∧ True := by
    refine ⟨by have h := (en_nv (i := 0) Hr.2.1 rfl).2; exact h, by have h := (en_nv (i := 1) Hr.2.1 rfl).2; exact h, trivial⟩
  have r0 : nv α1 0 = nv xs 0 := nv_le hle (by omega)
  have r1 : nv α1 1 = nv xs 1 := nv_le hle (by omega)
  refine hd_segM G (na := 2) (fuel := 600) (first := true) (Bs := [kh_heightOf_b0_0]) (by decide +kernel) hl1 Hr ?_
  intro q hq β lv' st' S' H1
  simp only [List.mem_cons, List.not_mem_nil, or_false] at hq
  rcases hq with rfl
  · obtain ⟨f1, f2, f3, f4, f5⟩ := as_fx H1
    simp only [kh_heightOf_b0_0, fx_env, fx_c, fx_ne, fx_hf, wl_S, Nat.zero_add, Nat.reduceAdd, Nat.reduceDiv, Nat.reduceMod, List.getElem?_cons_zero, List.getElem?_cons_succ, if_true, and_true, true_and] at f1 f2 f3 f4 f5
    have fe0 : nv β 0 = 805 := by omega
    have fe2 : nv β 2 = 806 := by omega
    have fe3 : nv β 3 = 20 := by omega
    try simp only [fe0, fe2, fe3, Int.reduceToNat] at f2 f3 f4 f5
    have s0 : nv β 0 = nv α1 0 := nv_le H1.1 (by omega)
    have s1 : nv β 1 = nv α1 1 := nv_le H1.1 (by omega)
    obtain ⟨c0, c1⟩ := f2
    have hS : S' = S := by subst S'; rfl
    refine hd_retI G (v := 5) (by decide +kernel) (as_backM H1 (by decide +kernel) hxa hf) _ List.mem_cons_self rfl (by decide +kernel) (by decide) (fun w hw => ?_)
    rcases List.mem_singleton.mp hw with rfl
    have g0' := (en_nv (i := 1) H0.2.1 rfl).1
    have g1' := (en_nv (i := 1) H0.2.1 rfl).1
    refine ⟨_, _, g0', g1', ?_⟩
    rw [wd_fl2, if_neg (by decide)]
    show nv β 5 = hgt S (nv xs 1)
    have o := old_0 c0 rfl
    unfold hgt
    rw [← o, show 20 + nv xs 1 = nv β 4 by omega])
abbrev kh_wRoom_y : mt_T := (⟨"UtilityWorksModel", "wRoom", "(I)I"⟩, prog_14_method_117_code, 2, some .int, 12, 1, 1, 34185, 34184, 11012, 21014)
def kh_wRoom : ct_T := (473, [(2, 805, 805, 0), (0, 0, 16, 1)], [], [], [(1, (0, (-1998), 999, 1), [(2, 805, 805, 0), (0, 0, 16, 1)], [], ([], [(1022, 1, 1)]))], [], 2, 44, 0)
def kh_wRoom_b0_0 : sg_T := (26, 0, ([((2, 805, 805, 0), none), ((0, 0, 16, 1), none), ((0, 1, 1, 0), none), ((0, 0, 999, 1), none), ((2, 839, 839, 1), none), ((0, 2, 2, 0), none), ((0, 0, 32, 2), none), ((0, 0, 999, 1), none), ((0, (-999), 999, 1), none), ((2, 839, 839, 1), none), ((0, 2, 2, 0), none), ((0, 0, 32, 2), none), ((0, 1, 1, 0), none), ((0, 1, 33, 2), some (11, 1)), ((0, 0, 999, 1), none), ((0, (-1998), 999, 1), none)], [(0, 0), (1, 1)], [15], [(9, 13, 14), (4, 6, 7)], [], [(600015, 8, 14), (800014, 9, 13), (500013, 11, 12), (700011, 10, 1), (600008, 3, 7), (800007, 4, 6), (700006, 5, 1), (101900003, 2, 1)], [], [], some []))
set_option maxHeartbeats 16000000 in
set_option maxRecDepth 8000 in
theorem kh_wRoom_ok : ct_ok wd_fl2 kh_wRoom := ct_hand (ff := wd_ff2) (y := kh_wRoom_y) (Cs := [kh_boundOf]) wd_fl2_ok rfl (List.forall_mem_cons.mpr ⟨kh_boundOf_ok, (List.forall_mem_nil _)⟩) (by decide +kernel) (fun l D tc ad kd N sm xs S p e s m args below meth c sz lv G H0 => by
  have hx : xs.length = 2 := by rw [H0.2.1.1]; rfl
  obtain ⟨α1, hle, Hr⟩ := as_recM (pl := []) [] (by decide +kernel) H0
  have hf := H0.2.2.2.2.2.2.2.2.2.2.1
  have hl1 : α1.length = 2 := by rw [Hr.2.1.1]; rfl
  have hl0 : xs.length = 2 := by rw [H0.2.1.1]; rfl
  have hxa : al_le xs α1 := H0.1.trans hle
  obtain ⟨g1, -, g3, g4, -⟩ := as_fx Hr
  have g0 : (805 ≤ nv α1 0 ∧ nv α1 0 ≤ 805) ∧ (0 ≤ nv α1 1 ∧ nv α1 1 ≤ 16) ∧ True := by
    refine ⟨by have h := (en_nv (i := 0) Hr.2.1 rfl).2; exact h, by have h := (en_nv (i := 1) Hr.2.1 rfl).2; exact h, trivial⟩
  have r0 : nv α1 0 = nv xs 0 := nv_le hle (by omega)
  have r1 : nv α1 1 = nv xs 1 := nv_le hle (by omega)
  refine hd_segM G (na := 2) (fuel := 600) (first := true) (Bs := [kh_wRoom_b0_0]) (by decide +kernel) hl1 Hr ?_
  intro q hq β lv' st' S' H1
  simp only [List.mem_cons, List.not_mem_nil, or_false] at hq
  rcases hq with rfl
  · obtain ⟨f1, f2, f3, f4, f5⟩ := as_fx H1
    simp only [kh_wRoom_b0_0, fx_env, fx_c, fx_ne, fx_hf, wl_S, Nat.zero_add, Nat.reduceAdd, Nat.reduceDiv, Nat.reduceMod, List.getElem?_cons_zero, List.getElem?_cons_succ, if_true, and_true, true_and] at f1 f2 f3 f4 f5
    have fe0 : nv β 0 = 805 := by omega
    have fe2 : nv β 2 = 1 := by omega
    have fe4 : nv β 4 = 839 := by omega
    have fe5 : nv β 5 = 2 := by omega
    have fe9 : nv β 9 = 839 := by omega
    have fe10 : nv β 10 = 2 := by omega
    have fe12 : nv β 12 = 1 := by omega
    try simp only [fe0, fe2, fe4, fe5, fe9, fe10, fe12, Int.reduceToNat] at f2 f3 f4 f5
    have s0 : nv β 0 = nv α1 0 := nv_le H1.1 (by omega)
    have s1 : nv β 1 = nv α1 1 := nv_le H1.1 (by omega)
    obtain ⟨c0, c1, c2, c3, c4, c5, c6, c7⟩ := f2
    have d7 := c7
    simp only [wd_fl2, if_neg (show ¬ (wd_base1 1019 = true) by decide)] at d7
    have hS : S' = S := by subst S'; rfl
    refine hd_retI G (v := 15) (by decide +kernel) (as_backM H1 (by decide +kernel) hxa hf) _ List.mem_cons_self rfl (by decide +kernel) (by decide) (fun w hw => ?_)
    rcases List.mem_singleton.mp hw with rfl
    have g0' := (en_nv (i := 1) H0.2.1 rfl).1
    have g1' := (en_nv (i := 1) H0.2.1 rfl).1
    refine ⟨_, _, g0', g1', ?_⟩
    rw [wd_fl2, if_neg (by decide)]
    show nv β 15 = wRm S (nv xs 1)
    have o1 := old_0 c1 rfl
    have o5 := old_0 c5 rfl
    have x1 : nv β 1 = nv xs 1 := by omega
    rw [x1] at d7
    unfold wRm
    rw [show 2 * nv xs 1 + 1 = nv β 13 by omega, show 2 * nv xs 1 = nv β 6 by omega, o5, o1, ← d7]
    omega)
abbrev kh_wOpen_y : mt_T := (⟨"UtilityWorksModel", "wOpen", "(II)Z"⟩, prog_14_method_118_code, 3, some .boolean, 12, 1, 2, 34181, 34180, 11011, 21014)
def kh_wOpen : ct_T := (472, [(2, 805, 805, 0), (0, 0, 16, 1), (0, (-2147483648), 2147483647, 1)], [], [], [(1, (0, 0, 1, 1), [(2, 805, 805, 0), (0, 0, 16, 1), (0, (-2147483648), 2147483647, 1)], [], ([], [(1021, 1, 2)]))], [], 4, 88, 0)
def kh_wOpen_b0_0 : sg_T := (46, 0, ([((2, 805, 805, 0), none), ((0, 0, 16, 1), none), ((0, (-2147483648), 2147483647, 1), none), ((0, 1, 1, 0), none), ((0, 0, 0, 1), none), ((0, 0, 0, 0), none)], [(0, 0), (1, 1), (2, 2)], [5], [], [], [(101300004, 3, 1)], [], [], some []))
def kh_wOpen_b0_1 : sg_T := (46, 0, ([((2, 805, 805, 0), none), ((0, 0, 16, 1), none), ((0, (-2147483648), 2147483647, 1), none), ((0, 1, 1, 0), none), ((0, 1, 1, 1), none), ((0, (-1998), 0, 1), none), ((0, 0, 0, 0), none)], [(0, 0), (1, 1), (2, 2)], [6], [], [(4, 0)], [(102200005, 1, 1), (101300004, 3, 1)], [], [], some []))
def kh_wOpen_b0_2 : sg_T := (46, 0, ([((2, 805, 805, 0), none), ((0, 0, 16, 1), none), ((0, (-2147483648), 98, 1), none), ((0, 1, 1, 0), none), ((0, 1, 1, 1), none), ((0, 1, 999, 1), none), ((0, 0, 10, 1), none), ((0, 0, 99, 1), none), ((0, 0, 0, 0), none)], [(0, 0), (1, 1), (2, 2)], [8], [], [(4, 0)], [(100000, 2, 7), (102300007, 6, 6), (1000006, 1, 1), (102200005, 1, 1), (101300004, 3, 1)], [], [], some []))
def kh_wOpen_b0_3 : sg_T := (46, 0, ([((2, 805, 805, 0), none), ((0, 0, 16, 1), none), ((0, 0, 98, 1), none), ((0, 1, 1, 0), none), ((0, 1, 1, 1), none), ((0, 1, 999, 1), none), ((0, 0, 10, 1), none), ((0, 0, 99, 1), none), ((0, 1, 11, 1), none), ((0, 1, 99, 1), none), ((0, 0, 0, 0), none)], [(0, 0), (1, 1), (2, 2)], [10], [], [(4, 0)], [(100000, 2, 9), (102300009, 8, 8), (1100008, 1, 1), (200000, 7, 2), (102300007, 6, 6), (1000006, 1, 1), (102200005, 1, 1), (101300004, 3, 1)], [], [], some []))
def kh_wOpen_b0_4 : sg_T := (46, 0, ([((2, 805, 805, 0), none), ((0, 0, 16, 1), none), ((0, 0, 2147483647, 1), none), ((0, 1, 1, 0), none), ((0, 1, 1, 1), none), ((0, 1, 999, 1), none), ((0, 0, 10, 1), none), ((0, 0, 99, 1), none), ((0, 1, 11, 1), none), ((0, 0, 99, 1), none), ((0, 1, 1, 0), none)], [(0, 0), (1, 1), (2, 2)], [10], [], [(4, 0)], [(200000, 9, 2), (102300009, 8, 8), (1100008, 1, 1), (200000, 7, 2), (102300007, 6, 6), (1000006, 1, 1), (102200005, 1, 1), (101300004, 3, 1)], [], [], some []))
set_option maxHeartbeats 16000000 in
set_option maxRecDepth 8000 in
theorem kh_wOpen_ok : ct_ok wd_fl2 kh_wOpen := ct_hand (ff := wd_ff2) (y := kh_wOpen_y) (Cs := [kh_leads, kh_wRoom, kh_low, kh_heightOf, kh_high]) wd_fl2_ok rfl (List.forall_mem_cons.mpr ⟨kh_leads_l2, (List.forall_mem_cons.mpr ⟨kh_wRoom_ok, (List.forall_mem_cons.mpr ⟨kh_low_l2, (List.forall_mem_cons.mpr ⟨kh_heightOf_ok, (List.forall_mem_cons.mpr ⟨kh_high_l2, (List.forall_mem_nil _)⟩)⟩)⟩)⟩)⟩) (by decide +kernel) (fun l D tc ad kd N sm xs S p e s m args below meth c sz lv G H0 => by
  have hx : xs.length = 3 := by rw [H0.2.1.1]; rfl
  obtain ⟨α1, hle, Hr⟩ := as_recM (pl := []) [] (by decide +kernel) H0
  have hf := H0.2.2.2.2.2.2.2.2.2.2.1
  have hl1 : α1.length = 3 := by rw [Hr.2.1.1]; rfl
  have hl0 : xs.length = 3 := by rw [H0.2.1.1]; rfl
  have hxa : al_le xs α1 := H0.1.trans hle
  obtain ⟨g1, -, g3, g4, -⟩ := as_fx Hr
  have g0 : (805 ≤ nv α1 0 ∧ nv α1 0 ≤ 805) ∧ (0 ≤ nv α1 1 ∧ nv α1 1 ≤ 16) ∧ ((-2147483648) ≤ nv α1 2 ∧ nv α1 2 ≤ 2147483647) ∧ True := by
    refine ⟨by have h := (en_nv (i := 0) Hr.2.1 rfl).2; exact h, by have h := (en_nv (i := 1) Hr.2.1 rfl).2; exact h, by have h := (en_nv (i := 2) Hr.2.1 rfl).2; exact h, trivial⟩
  have r0 : nv α1 0 = nv xs 0 := nv_le hle (by omega)
  have r1 : nv α1 1 = nv xs 1 := nv_le hle (by omega)
  have r2 : nv α1 2 = nv xs 2 := nv_le hle (by omega)
  refine hd_segM G (na := 3) (fuel := 600) (first := true) (Bs := [kh_wOpen_b0_0, kh_wOpen_b0_1, kh_wOpen_b0_2, kh_wOpen_b0_3, kh_wOpen_b0_4]) (by decide +kernel) hl1 Hr ?_
  intro q hq β lv' st' S' H1
  simp only [List.mem_cons, List.not_mem_nil, or_false] at hq
  rcases hq with rfl | rfl | rfl | rfl | rfl
  · obtain ⟨f1, f2, f3, f4, f5⟩ := as_fx H1
    simp only [kh_wOpen_b0_0, fx_env, fx_c, fx_ne, fx_hf, wl_S, Nat.zero_add, Nat.reduceAdd, Nat.reduceDiv, Nat.reduceMod, List.getElem?_cons_zero, List.getElem?_cons_succ, if_true, and_true, true_and] at f1 f2 f3 f4 f5
    have fe0 : nv β 0 = 805 := by omega
    have fe3 : nv β 3 = 1 := by omega
    have fe4 : nv β 4 = 0 := by omega
    have fe5 : nv β 5 = 0 := by omega
    try simp only [fe0, fe3, fe4, fe5, Int.reduceToNat] at f2 f3 f4 f5
    have s0 : nv β 0 = nv α1 0 := nv_le H1.1 (by omega)
    have s1 : nv β 1 = nv α1 1 := nv_le H1.1 (by omega)
    have s2 : nv β 2 = nv α1 2 := nv_le H1.1 (by omega)
    have c0 := f2
    have d0 := fl2_b (by decide) c0
    simp only [wd_fl1, if_neg (show ¬ (wd_base 1013 = true) by decide)] at d0
    have hS : S' = S := by subst S'; rfl
    refine hd_retI G (v := 5) (by decide +kernel) (as_backM H1 (by decide +kernel) hxa hf) _ List.mem_cons_self rfl (by decide +kernel) (by decide) (fun w hw => ?_)
    rcases List.mem_singleton.mp hw with rfl
    have g0' := (en_nv (i := 1) H0.2.1 rfl).1
    have g1' := (en_nv (i := 2) H0.2.1 rfl).1
    refine ⟨_, _, g0', g1', ?_⟩
    rw [wd_fl2, if_neg (by decide)]
    show nv β 5 = b2i (wOpP S (nv xs 1) (nv xs 2))
    have x1 : nv β 1 = nv xs 1 := by omega
    have x2 : nv β 2 = nv xs 2 := by omega
    rw [x1] at d0
    unfold b2i at *
    unfold wOpP
    (repeat' split at *) <;> omega
  · obtain ⟨f1, f2, f3, f4, f5⟩ := as_fx H1
    simp only [kh_wOpen_b0_1, fx_env, fx_c, fx_ne, fx_hf, wl_S, Nat.zero_add, Nat.reduceAdd, Nat.reduceDiv, Nat.reduceMod, List.getElem?_cons_zero, List.getElem?_cons_succ, if_true, and_true, true_and] at f1 f2 f3 f4 f5
    have fe0 : nv β 0 = 805 := by omega
    have fe3 : nv β 3 = 1 := by omega
    have fe4 : nv β 4 = 1 := by omega
    have fe6 : nv β 6 = 0 := by omega
    try simp only [fe0, fe3, fe4, fe6, Int.reduceToNat] at f2 f3 f4 f5
    have s0 : nv β 0 = nv α1 0 := nv_le H1.1 (by omega)
    have s1 : nv β 1 = nv α1 1 := nv_le H1.1 (by omega)
    have s2 : nv β 2 = nv α1 2 := nv_le H1.1 (by omega)
    obtain ⟨c0, c1⟩ := f2
    have d0 := c0
    simp only [wd_fl2, if_neg (show ¬ (wd_base1 1022 = true) by decide)] at d0
    have d1 := fl2_b (by decide) c1
    simp only [wd_fl1, if_neg (show ¬ (wd_base 1013 = true) by decide)] at d1
    have hS : S' = S := by subst S'; rfl
    refine hd_retI G (v := 6) (by decide +kernel) (as_backM H1 (by decide +kernel) hxa hf) _ List.mem_cons_self rfl (by decide +kernel) (by decide) (fun w hw => ?_)
    rcases List.mem_singleton.mp hw with rfl
    have g0' := (en_nv (i := 1) H0.2.1 rfl).1
    have g1' := (en_nv (i := 2) H0.2.1 rfl).1
    refine ⟨_, _, g0', g1', ?_⟩
    rw [wd_fl2, if_neg (by decide)]
    show nv β 6 = b2i (wOpP S (nv xs 1) (nv xs 2))
    have x1 : nv β 1 = nv xs 1 := by omega
    have x2 : nv β 2 = nv xs 2 := by omega
    rw [x1] at d1
    rw [x1] at d0
    unfold b2i at *
    unfold wOpP
    (repeat' split at *) <;> omega
  · obtain ⟨f1, f2, f3, f4, f5⟩ := as_fx H1
    simp only [kh_wOpen_b0_2, fx_env, fx_c, fx_ne, fx_hf, wl_S, Nat.zero_add, Nat.reduceAdd, Nat.reduceDiv, Nat.reduceMod, List.getElem?_cons_zero, List.getElem?_cons_succ, if_true, and_true, true_and] at f1 f2 f3 f4 f5
    have fe0 : nv β 0 = 805 := by omega
    have fe3 : nv β 3 = 1 := by omega
    have fe4 : nv β 4 = 1 := by omega
    have fe8 : nv β 8 = 0 := by omega
    try simp only [fe0, fe3, fe4, fe8, Int.reduceToNat] at f2 f3 f4 f5
    have s0 : nv β 0 = nv α1 0 := nv_le H1.1 (by omega)
    have s1 : nv β 1 = nv α1 1 := nv_le H1.1 (by omega)
    have s2 : nv β 2 = nv α1 2 := nv_le H1.1 (by omega)
    obtain ⟨c0, c1, c2, c3, c4⟩ := f2
    have d1 := c1
    simp only [wd_fl2, if_neg (show ¬ (wd_base1 1023 = true) by decide)] at d1
    have d2 := fl1_b (by decide) (fl2_b (by decide) c2)
    simp only [wd_fl] at d2
    have d3 := c3
    simp only [wd_fl2, if_neg (show ¬ (wd_base1 1022 = true) by decide)] at d3
    have d4 := fl2_b (by decide) c4
    simp only [wd_fl1, if_neg (show ¬ (wd_base 1013 = true) by decide)] at d4
    have hS : S' = S := by subst S'; rfl
    refine hd_retI G (v := 8) (by decide +kernel) (as_backM H1 (by decide +kernel) hxa hf) _ List.mem_cons_self rfl (by decide +kernel) (by decide) (fun w hw => ?_)
    rcases List.mem_singleton.mp hw with rfl
    have g0' := (en_nv (i := 1) H0.2.1 rfl).1
    have g1' := (en_nv (i := 2) H0.2.1 rfl).1
    refine ⟨_, _, g0', g1', ?_⟩
    rw [wd_fl2, if_neg (by decide)]
    show nv β 8 = b2i (wOpP S (nv xs 1) (nv xs 2))
    have x1 : nv β 1 = nv xs 1 := by omega
    have x2 : nv β 2 = nv xs 2 := by omega
    rw [x1] at d2
    rw [x1] at d4
    rw [x1] at d3
    rw [d2] at d1
    unfold b2i at *
    unfold wOpP
    (repeat' split at *) <;> omega
  · obtain ⟨f1, f2, f3, f4, f5⟩ := as_fx H1
    simp only [kh_wOpen_b0_3, fx_env, fx_c, fx_ne, fx_hf, wl_S, Nat.zero_add, Nat.reduceAdd, Nat.reduceDiv, Nat.reduceMod, List.getElem?_cons_zero, List.getElem?_cons_succ, if_true, and_true, true_and] at f1 f2 f3 f4 f5
    have fe0 : nv β 0 = 805 := by omega
    have fe3 : nv β 3 = 1 := by omega
    have fe4 : nv β 4 = 1 := by omega
    have fe10 : nv β 10 = 0 := by omega
    try simp only [fe0, fe3, fe4, fe10, Int.reduceToNat] at f2 f3 f4 f5
    have s0 : nv β 0 = nv α1 0 := nv_le H1.1 (by omega)
    have s1 : nv β 1 = nv α1 1 := nv_le H1.1 (by omega)
    have s2 : nv β 2 = nv α1 2 := nv_le H1.1 (by omega)
    obtain ⟨c0, c1, c2, c3, c4, c5, c6, c7⟩ := f2
    have d1 := c1
    simp only [wd_fl2, if_neg (show ¬ (wd_base1 1023 = true) by decide)] at d1
    have d2 := fl1_b (by decide) (fl2_b (by decide) c2)
    simp only [wd_fl] at d2
    have d4 := c4
    simp only [wd_fl2, if_neg (show ¬ (wd_base1 1023 = true) by decide)] at d4
    have d5 := fl1_b (by decide) (fl2_b (by decide) c5)
    simp only [wd_fl] at d5
    have d6 := c6
    simp only [wd_fl2, if_neg (show ¬ (wd_base1 1022 = true) by decide)] at d6
    have d7 := fl2_b (by decide) c7
    simp only [wd_fl1, if_neg (show ¬ (wd_base 1013 = true) by decide)] at d7
    have hS : S' = S := by subst S'; rfl
    refine hd_retI G (v := 10) (by decide +kernel) (as_backM H1 (by decide +kernel) hxa hf) _ List.mem_cons_self rfl (by decide +kernel) (by decide) (fun w hw => ?_)
    rcases List.mem_singleton.mp hw with rfl
    have g0' := (en_nv (i := 1) H0.2.1 rfl).1
    have g1' := (en_nv (i := 2) H0.2.1 rfl).1
    refine ⟨_, _, g0', g1', ?_⟩
    rw [wd_fl2, if_neg (by decide)]
    show nv β 10 = b2i (wOpP S (nv xs 1) (nv xs 2))
    have x1 : nv β 1 = nv xs 1 := by omega
    have x2 : nv β 2 = nv xs 2 := by omega
    rw [x1] at d5
    rw [x1] at d2
    rw [x1] at d7
    rw [x1] at d6
    rw [d2] at d1
    rw [d5] at d4
    unfold b2i at *
    unfold wOpP
    (repeat' split at *) <;> omega
  · obtain ⟨f1, f2, f3, f4, f5⟩ := as_fx H1
    simp only [kh_wOpen_b0_4, fx_env, fx_c, fx_ne, fx_hf, wl_S, Nat.zero_add, Nat.reduceAdd, Nat.reduceDiv, Nat.reduceMod, List.getElem?_cons_zero, List.getElem?_cons_succ, if_true, and_true, true_and] at f1 f2 f3 f4 f5
    have fe0 : nv β 0 = 805 := by omega
    have fe3 : nv β 3 = 1 := by omega
    have fe4 : nv β 4 = 1 := by omega
    have fe10 : nv β 10 = 1 := by omega
    try simp only [fe0, fe3, fe4, fe10, Int.reduceToNat] at f2 f3 f4 f5
    have s0 : nv β 0 = nv α1 0 := nv_le H1.1 (by omega)
    have s1 : nv β 1 = nv α1 1 := nv_le H1.1 (by omega)
    have s2 : nv β 2 = nv α1 2 := nv_le H1.1 (by omega)
    obtain ⟨c0, c1, c2, c3, c4, c5, c6, c7⟩ := f2
    have d1 := c1
    simp only [wd_fl2, if_neg (show ¬ (wd_base1 1023 = true) by decide)] at d1
    have d2 := fl1_b (by decide) (fl2_b (by decide) c2)
    simp only [wd_fl] at d2
    have d4 := c4
    simp only [wd_fl2, if_neg (show ¬ (wd_base1 1023 = true) by decide)] at d4
    have d5 := fl1_b (by decide) (fl2_b (by decide) c5)
    simp only [wd_fl] at d5
    have d6 := c6
    simp only [wd_fl2, if_neg (show ¬ (wd_base1 1022 = true) by decide)] at d6
    have d7 := fl2_b (by decide) c7
    simp only [wd_fl1, if_neg (show ¬ (wd_base 1013 = true) by decide)] at d7
    have hS : S' = S := by subst S'; rfl
    refine hd_retI G (v := 10) (by decide +kernel) (as_backM H1 (by decide +kernel) hxa hf) _ List.mem_cons_self rfl (by decide +kernel) (by decide) (fun w hw => ?_)
    rcases List.mem_singleton.mp hw with rfl
    have g0' := (en_nv (i := 1) H0.2.1 rfl).1
    have g1' := (en_nv (i := 2) H0.2.1 rfl).1
    refine ⟨_, _, g0', g1', ?_⟩
    rw [wd_fl2, if_neg (by decide)]
    show nv β 10 = b2i (wOpP S (nv xs 1) (nv xs 2))
    have x1 : nv β 1 = nv xs 1 := by omega
    have x2 : nv β 2 = nv xs 2 := by omega
    rw [x1] at d5
    rw [x1] at d2
    rw [x1] at d7
    rw [x1] at d6
    rw [d2] at d1
    rw [d5] at d4
    unfold b2i at *
    unfold wOpP
    (repeat' split at *) <;> omega)
