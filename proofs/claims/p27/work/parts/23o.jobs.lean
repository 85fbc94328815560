/-! ===== what a crew can, takes, leaves, ends ===== -/
def R_cCan : List av_X → fw_S → fw_O → fw_S → Prop := fun xs S oc _ => ∃ v : Int32, oc = .inl (some (.int v)) ∧ (v.toInt = 1 → mjk (S.1 806) (nv xs 2).toNat 4 = 0)
abbrev kh_cFar_y : mt_T := (⟨"UtilityWorksModel", "cFar", "(II)I"⟩, prog_14_method_281_code, 4, some .int, 12, 1, 2, 33136, 33135, 7006, 21014)
def kh_cFar : ct_T := (400, [(2, 805, 805, 0), (0, 0, 3, 1), (0, 0, 199, 1)], [], [510], [(1, (0, (-1), 12, 1), [(2, 805, 805, 0), (0, 0, 3, 1), (0, 0, 199, 1)], [], ([], []))], [((814, 814), (0, 11, 1))], 4, 89, 0)
def kh_cFar_b0_0 : sg_T := (34, 0, ([((2, 805, 805, 0), none), ((0, 0, 3, 1), none), ((0, 0, 199, 1), none), ((2, 806, 806, 1), none), ((0, 0, 0, 0), none), ((0, 2401, 2425, 8), none), ((0, 0, 11, 1), none), ((0, 0, 11, 1), none), ((0, 0, 11, 1), none), ((0, (-1), 12, 1), none)], [(3, 6), (0, 0), (1, 1), (2, 2)], [9], [(3, 5, 6)], [], [(400000, 6, 7), (800006, 3, 5), (1300005, 1, 4)], [], [510], none))
def kh_cFar_b0_1 : sg_T := (34, 0, ([((2, 805, 805, 0), none), ((0, 0, 3, 1), none), ((0, 0, 199, 1), none), ((2, 806, 806, 1), none), ((0, 0, 0, 0), none), ((0, 2401, 2425, 8), none), ((0, 0, 11, 1), none), ((0, 0, 11, 1), none), ((0, 0, 0, 0), none)], [(3, 6), (0, 0), (1, 1), (2, 2)], [8], [(3, 5, 6)], [], [(300000, 6, 7), (800006, 3, 5), (1300005, 1, 4)], [], [510], some []))
set_option maxHeartbeats 16000000 in
set_option maxRecDepth 8000 in
theorem kh_cFar_ok : ct_ok wd_fl2 kh_cFar := ct_hand (ff := wd_ff2) (y := kh_cFar_y) (Cs := [kh_cC0, kh_cSpot, kh_wayLength]) wd_fl2_ok rfl (List.forall_mem_cons.mpr ⟨kh_cC0_ok, (List.forall_mem_cons.mpr ⟨kh_cSpot_ok, (List.forall_mem_cons.mpr ⟨kh_wayLength_ok, (List.forall_mem_nil _)⟩)⟩)⟩) (by decide +kernel) (fun l D tc ad kd N sm xs S p e s m args below meth c sz lv G H0 => by
  have hx : xs.length = 3 := by rw [H0.2.1.1]; rfl
  obtain ⟨α1, hle, Hr⟩ := as_recM (pl := []) [((814, 814), (0, 11, 1))] (by decide +kernel) H0
  have hf := H0.2.2.2.2.2.2.2.2.2.2.1
  have hl1 : α1.length = 3 := by rw [Hr.2.1.1]; rfl
  have hl0 : xs.length = 3 := by rw [H0.2.1.1]; rfl
  have hxa : al_le xs α1 := H0.1.trans hle
  obtain ⟨g1, -, g3, g4, -⟩ := as_fx Hr
  have g0 : (805 ≤ nv α1 0 ∧ nv α1 0 ≤ 805) ∧ (0 ≤ nv α1 1 ∧ nv α1 1 ≤ 3) ∧ (0 ≤ nv α1 2 ∧ nv α1 2 ≤ 199) ∧ True := by
    refine ⟨by have h := (en_nv (i := 0) Hr.2.1 rfl).2; exact h, by have h := (en_nv (i := 1) Hr.2.1 rfl).2; exact h, by have h := (en_nv (i := 2) Hr.2.1 rfl).2; exact h, trivial⟩
  have r0 : nv α1 0 = nv xs 0 := nv_le hle (by omega)
  have r1 : nv α1 1 = nv xs 1 := nv_le hle (by omega)
  have r2 : nv α1 2 = nv xs 2 := nv_le hle (by omega)
  refine hd_segM G (na := 3) (fuel := 600) (first := true) (Bs := [kh_cFar_b0_0, kh_cFar_b0_1]) (by decide +kernel) hl1 Hr ?_
  intro q hq β lv' st' S' H1
  simp only [List.mem_cons, List.not_mem_nil, or_false] at hq
  rcases hq with rfl | rfl
  · obtain ⟨f1, f2, f3, f4, f5⟩ := as_fx H1
    simp only [kh_cFar_b0_0, fx_env, fx_c, fx_ne, fx_hf, wl_S, Nat.zero_add, Nat.reduceAdd, Nat.reduceDiv, Nat.reduceMod, List.getElem?_cons_zero, List.getElem?_cons_succ, if_true, and_true, true_and] at f1 f2 f3 f4 f5
    have fe0 : nv β 0 = 805 := by omega
    have fe3 : nv β 3 = 806 := by omega
    have fe4 : nv β 4 = 0 := by omega
    try simp only [fe0, fe3, fe4, Int.reduceToNat] at f2 f3 f4 f5
    have s0 : nv β 0 = nv α1 0 := nv_le H1.1 (by omega)
    have s1 : nv β 1 = nv α1 1 := nv_le H1.1 (by omega)
    have s2 : nv β 2 = nv α1 2 := nv_le H1.1 (by omega)
    obtain ⟨c0, c1, c2⟩ := f2
    exact hd_run G (ss := []) (fuel := 20) (by decide +kernel) (as_backM H1 (by decide +kernel) hxa hf)
  · obtain ⟨f1, f2, f3, f4, f5⟩ := as_fx H1
    simp only [kh_cFar_b0_1, fx_env, fx_c, fx_ne, fx_hf, wl_S, Nat.zero_add, Nat.reduceAdd, Nat.reduceDiv, Nat.reduceMod, List.getElem?_cons_zero, List.getElem?_cons_succ, if_true, and_true, true_and] at f1 f2 f3 f4 f5
    have fe0 : nv β 0 = 805 := by omega
    have fe3 : nv β 3 = 806 := by omega
    have fe4 : nv β 4 = 0 := by omega
    have fe8 : nv β 8 = 0 := by omega
    try simp only [fe0, fe3, fe4, fe8, Int.reduceToNat] at f2 f3 f4 f5
    have s0 : nv β 0 = nv α1 0 := nv_le H1.1 (by omega)
    have s1 : nv β 1 = nv α1 1 := nv_le H1.1 (by omega)
    have s2 : nv β 2 = nv α1 2 := nv_le H1.1 (by omega)
    obtain ⟨c0, c1, c2⟩ := f2
    exact hd_run G (ss := []) (fuel := 20) (by decide +kernel) (as_backM H1 (by decide +kernel) hxa hf))
/- UtilityWorksModel cSkill -/
def kh_596 : ct_T := (399, [(2, 805, 805, 0), (0, 0, 199, 1)], [], [], [(1, (0, 0, 4, 1), [(2, 805, 805, 0), (0, 0, 199, 1)], [], ([], []))], [], 1, 21, 0)
theorem kh_596_ok : ct_ok wd_fl2 kh_596 := ct_of (ff := wd_ff2) (y := (⟨"UtilityWorksModel", "cSkill", "(I)I"⟩, prog_14_method_279_code, 3, some .int, 12, 1, 1, 33132, 33131, 7005, 21014)) (Cs := [kh_cJ0, kh_cJ1]) (an := []) (ss := []) (K := 1) (fuel := 4000) wd_fl2_ok rfl (List.forall_mem_cons.mpr ⟨kh_cJ0_ok, (List.forall_mem_cons.mpr ⟨kh_cJ1_ok, (List.forall_mem_nil _)⟩)⟩) (by decide +kernel)
/- UtilityWorksModel hasAlarm -/
def kh_597 : ct_T := (393, [(2, 805, 805, 0)], [], [], [(1, (0, 0, 0, 0), [(2, 805, 805, 0)], [], ([], [])), (1, (0, 1, 1, 0), [(2, 805, 805, 0)], [((806, 806), (6, 6, 0), (0, 1, 1, 1))], ([], []))], [], 0, 0, 0)
theorem kh_597_ok : ct_ok wd_fl2 kh_597 := ct_of (ff := wd_ff2) (y := (⟨"UtilityWorksModel", "hasAlarm", "()Z"⟩, prog_14_method_314_code, 1, some .boolean, 12, 1, 0, 33109, 33108, 7000, 21014)) (Cs := []) (an := []) (ss := []) (K := 1) (fuel := 4000) wd_fl2_ok rfl (List.forall_mem_nil _) (by decide +kernel)
abbrev kh_cCan_y : mt_T := (⟨"UtilityWorksModel", "cCan", "(II)Z"⟩, prog_14_method_282_code, 3, some .boolean, 12, 1, 2, 33128, 33127, 7004, 21014)
def kh_cCan : ct_T := (398, [(2, 805, 805, 0), (0, 0, 3, 1), (0, 0, 199, 1)], [], [510], [(1, (0, 0, 1, 1), [(2, 805, 805, 0), (0, 0, 3, 1), (0, 0, 199, 1)], [], ([], []))], [((814, 814), (0, 11, 1))], 5, 112, 0)
def kh_cCan_b0_0 : sg_T := (71, 0, ([((2, 805, 805, 0), none), ((0, 0, 3, 1), none), ((0, 0, 199, 1), none), ((2, 806, 806, 1), none), ((0, 4, 4, 0), none), ((0, 2454, 4046, 8), none), ((0, 1, 3, 1), none), ((0, 0, 0, 0), none)], [(0, 0), (1, 1), (2, 2)], [7], [(3, 5, 6)], [(6, 0)], [(800006, 3, 5), (1200005, 2, 4)], [], [510], some []))
def kh_cCan_b0_1 : sg_T := (71, 0, ([((2, 805, 805, 0), none), ((0, 0, 3, 1), none), ((0, 0, 199, 1), none), ((2, 806, 806, 1), none), ((0, 4, 4, 0), none), ((0, 2454, 4046, 8), none), ((0, 0, 0, 1), none), ((2, 806, 806, 1), none), ((0, 1, 1, 0), none), ((0, 2402, 2426, 8), none), ((0, (-2147483648), 2147483647, 1), none), ((0, 0, 4, 1), none), ((0, (-2147483648), 2147483647, 1), none), ((0, 1, 1, 0), none), ((0, 0, 0, 1), none), ((0, 1, 1, 0), none), ((0, 0, 0, 0), none)], [(0, 0), (1, 1), (2, 2)], [16], [(7, 9, 10), (3, 5, 6)], [(14, 1)], [(400000, 14, 15), (200000, 14, 13), (800010, 7, 9), (1300009, 1, 8), (800006, 3, 5), (1200005, 2, 4)], [], [510], some []))
def kh_cCan_b0_2 : sg_T := (71, 0, ([((2, 805, 805, 0), none), ((0, 0, 3, 1), none), ((0, 0, 199, 1), none), ((2, 806, 806, 1), none), ((0, 4, 4, 0), none), ((0, 2454, 4046, 8), none), ((0, 0, 0, 1), none), ((2, 806, 806, 1), none), ((0, 1, 1, 0), none), ((0, 2402, 2426, 8), none), ((0, (-2147483648), 2147483647, 1), none), ((0, 0, 4, 1), none), ((0, (-2147483648), 2147483647, 1), none), ((0, 1, 1, 0), none), ((0, 1, 1, 1), none), ((0, 1, 1, 0), none), ((0, 0, 0, 0), none), ((0, (-1), (-1), 1), none), ((0, (-1), (-1), 0), none), ((0, 0, 0, 0), none)], [(0, 0), (1, 1), (2, 2)], [19], [(7, 9, 10), (3, 5, 6)], [], [(300000, 14, 15), (200000, 14, 13), (800010, 7, 9), (1300009, 1, 8), (800006, 3, 5), (1200005, 2, 4)], [], [510], none))
def kh_cCan_b0_3 : sg_T := (71, 0, ([((2, 805, 805, 0), none), ((0, 0, 3, 1), none), ((0, 0, 199, 1), none), ((2, 806, 806, 1), none), ((0, 4, 4, 0), none), ((0, 2454, 4046, 8), none), ((0, 0, 0, 1), none), ((2, 806, 806, 1), none), ((0, 1, 1, 0), none), ((0, 2402, 2426, 8), none), ((0, (-2147483648), 2147483647, 1), none), ((0, 0, 4, 1), none), ((0, (-2147483648), 2147483647, 1), none), ((0, 1, 1, 0), none), ((0, 1, 1, 1), none), ((0, 1, 1, 0), none), ((0, 0, 0, 0), none), ((0, 0, 12, 1), none), ((0, (-1), (-1), 0), none), ((0, 1, 1, 0), none)], [(0, 0), (1, 1), (2, 2)], [19], [(7, 9, 10), (3, 5, 6)], [(17, (-1))], [(300000, 14, 15), (200000, 14, 13), (800010, 7, 9), (1300009, 1, 8), (800006, 3, 5), (1200005, 2, 4)], [], [510], none))
def kh_cCan_b0_4 : sg_T := (71, 0, ([((2, 805, 805, 0), none), ((0, 0, 3, 1), none), ((0, 0, 199, 1), none), ((2, 806, 806, 1), none), ((0, 4, 4, 0), none), ((0, 2454, 4046, 8), none), ((0, 0, 0, 1), none), ((2, 806, 806, 1), none), ((0, 1, 1, 0), none), ((0, 2402, 2426, 8), none), ((0, (-2147483648), 2147483647, 1), none), ((0, 0, 4, 1), none), ((0, (-2147483648), 2147483647, 1), none), ((0, 1, 1, 0), none), ((0, 1, 1, 1), none), ((0, 1, 1, 0), none), ((0, 1, 1, 0), none), ((2, 806, 806, 1), none), ((0, 0, 0, 0), none), ((0, 2450, 4042, 8), none), ((0, 0, 6, 1), none), ((0, 2, 2, 0), none), ((0, 0, 0, 0), none)], [(0, 0), (1, 1), (2, 2)], [22], [(17, 19, 20), (7, 9, 10), (3, 5, 6)], [(20, 2), (16, 0)], [(400000, 20, 21), (800020, 17, 19), (1200019, 2, 18), (300000, 14, 15), (200000, 14, 13), (800010, 7, 9), (1300009, 1, 8), (800006, 3, 5), (1200005, 2, 4)], [], [510], some []))
def kh_cCan_b0_5 : sg_T := (71, 0, ([((2, 805, 805, 0), none), ((0, 0, 3, 1), none), ((0, 0, 199, 1), none), ((2, 806, 806, 1), none), ((0, 4, 4, 0), none), ((0, 2454, 4046, 8), none), ((0, 0, 0, 1), none), ((2, 806, 806, 1), none), ((0, 1, 1, 0), none), ((0, 2402, 2426, 8), none), ((0, (-2147483648), 2147483647, 1), none), ((0, 0, 4, 1), none), ((0, (-2147483648), 2147483647, 1), none), ((0, 1, 1, 0), none), ((0, 1, 1, 1), none), ((0, 1, 1, 0), none), ((0, 1, 1, 0), none), ((2, 806, 806, 1), none), ((0, 0, 0, 0), none), ((0, 2450, 4042, 8), none), ((0, 2, 2, 1), none), ((0, 2, 2, 0), none), ((0, (-1), (-1), 1), none), ((0, (-1), (-1), 0), none), ((0, 0, 0, 0), none)], [(0, 0), (1, 1), (2, 2)], [24], [(17, 19, 20), (7, 9, 10), (3, 5, 6)], [(16, 0)], [(300000, 20, 21), (800020, 17, 19), (1200019, 2, 18), (300000, 14, 15), (200000, 14, 13), (800010, 7, 9), (1300009, 1, 8), (800006, 3, 5), (1200005, 2, 4)], [], [510], none))
def kh_cCan_b0_6 : sg_T := (71, 0, ([((2, 805, 805, 0), none), ((0, 0, 3, 1), none), ((0, 0, 199, 1), none), ((2, 806, 806, 1), none), ((0, 4, 4, 0), none), ((0, 2454, 4046, 8), none), ((0, 0, 0, 1), none), ((2, 806, 806, 1), none), ((0, 1, 1, 0), none), ((0, 2402, 2426, 8), none), ((0, (-2147483648), 2147483647, 1), none), ((0, 0, 4, 1), none), ((0, (-2147483648), 2147483647, 1), none), ((0, 1, 1, 0), none), ((0, 1, 1, 1), none), ((0, 1, 1, 0), none), ((0, 1, 1, 0), none), ((2, 806, 806, 1), none), ((0, 0, 0, 0), none), ((0, 2450, 4042, 8), none), ((0, 2, 2, 1), none), ((0, 2, 2, 0), none), ((0, 0, 12, 1), none), ((0, (-1), (-1), 0), none), ((0, 1, 1, 0), none)], [(0, 0), (1, 1), (2, 2)], [24], [(17, 19, 20), (7, 9, 10), (3, 5, 6)], [(22, (-1)), (16, 0)], [(300000, 20, 21), (800020, 17, 19), (1200019, 2, 18), (300000, 14, 15), (200000, 14, 13), (800010, 7, 9), (1300009, 1, 8), (800006, 3, 5), (1200005, 2, 4)], [], [510], none))
set_option maxHeartbeats 16000000 in
set_option maxRecDepth 8000 in
theorem kh_cCan_okR : ct_okR wd_fl2 kh_cCan R_cCan := ct_handR (R := R_cCan) (ff := wd_ff2) (y := kh_cCan_y) (Cs := [kh_cJ4, kh_cC1, kh_596, kh_597, kh_cFar, kh_cJ0]) wd_fl2_ok rfl (List.forall_mem_cons.mpr ⟨kh_cJ4_ok, (List.forall_mem_cons.mpr ⟨kh_cC1_ok, (List.forall_mem_cons.mpr ⟨kh_596_ok, (List.forall_mem_cons.mpr ⟨kh_597_ok, (List.forall_mem_cons.mpr ⟨kh_cFar_ok, (List.forall_mem_cons.mpr ⟨kh_cJ0_ok, (List.forall_mem_nil _)⟩)⟩)⟩)⟩)⟩)⟩) (by decide +kernel) (fun l D tc ad kd N sm xs S p e s m args below meth c sz lv G H0 => by
  have hx : xs.length = 3 := by rw [H0.2.1.1]; rfl
  obtain ⟨α1, hle, Hr⟩ := as_recM (pl := []) [((814, 814), (0, 11, 1))] (by decide +kernel) H0
  have hf := H0.2.2.2.2.2.2.2.2.2.2.1
  have hl1 : α1.length = 3 := by rw [Hr.2.1.1]; rfl
  have hl0 : xs.length = 3 := by rw [H0.2.1.1]; rfl
  have hxa : al_le xs α1 := H0.1.trans hle
  obtain ⟨g1, -, g3, g4, -⟩ := as_fx Hr
  have g0 : (805 ≤ nv α1 0 ∧ nv α1 0 ≤ 805) ∧ (0 ≤ nv α1 1 ∧ nv α1 1 ≤ 3) ∧ (0 ≤ nv α1 2 ∧ nv α1 2 ≤ 199) ∧ True := by
    refine ⟨by have h := (en_nv (i := 0) Hr.2.1 rfl).2; exact h, by have h := (en_nv (i := 1) Hr.2.1 rfl).2; exact h, by have h := (en_nv (i := 2) Hr.2.1 rfl).2; exact h, trivial⟩
  have r0 : nv α1 0 = nv xs 0 := nv_le hle (by omega)
  have r1 : nv α1 1 = nv xs 1 := nv_le hle (by omega)
  have r2 : nv α1 2 = nv xs 2 := nv_le hle (by omega)
  refine hd_segMR G (na := 3) (fuel := 600) (first := true) (Bs := [kh_cCan_b0_0, kh_cCan_b0_1, kh_cCan_b0_2, kh_cCan_b0_3, kh_cCan_b0_4, kh_cCan_b0_5, kh_cCan_b0_6]) (by decide +kernel) hl1 Hr ?_
  intro q hq β lv' st' S' H1
  simp only [List.mem_cons, List.not_mem_nil, or_false] at hq
  rcases hq with rfl | rfl | rfl | rfl | rfl | rfl | rfl
  · obtain ⟨f1, f2, f3, f4, f5⟩ := as_fx H1
    simp only [kh_cCan_b0_0, fx_env, fx_c, fx_ne, fx_hf, wl_S, Nat.zero_add, Nat.reduceAdd, Nat.reduceDiv, Nat.reduceMod, List.getElem?_cons_zero, List.getElem?_cons_succ, if_true, and_true, true_and] at f1 f2 f3 f4 f5
    have fe0 : nv β 0 = 805 := by omega
    have fe3 : nv β 3 = 806 := by omega
    have fe4 : nv β 4 = 4 := by omega
    have fe7 : nv β 7 = 0 := by omega
    try simp only [fe0, fe3, fe4, fe7, Int.reduceToNat] at f2 f3 f4 f5
    have s0 : nv β 0 = nv α1 0 := nv_le H1.1 (by omega)
    have s1 : nv β 1 = nv α1 1 := nv_le H1.1 (by omega)
    have s2 : nv β 2 = nv α1 2 := nv_le H1.1 (by omega)
    obtain ⟨c0, c1⟩ := f2
    have o0 := old_0 c0 rfl
    have d1 := fl1_b (by decide) (fl2_b (by decide) c1)
    simp only [wd_fl] at d1
    have h2 := mjk_eq (j := (nv xs 2).toNat) (w := 4) o0 (by omega)
    exact hd_retIR G (v := 7) (by decide +kernel) (as_backM H1 (by decide +kernel) hxa hf) _ List.mem_cons_self rfl (by decide +kernel) (by decide) (fun w hw => by cases hw) (fun x hx => ⟨x, rfl, fun h1 => h2.trans (by omega)⟩)
  · obtain ⟨f1, f2, f3, f4, f5⟩ := as_fx H1
    simp only [kh_cCan_b0_1, fx_env, fx_c, fx_ne, fx_hf, wl_S, Nat.zero_add, Nat.reduceAdd, Nat.reduceDiv, Nat.reduceMod, List.getElem?_cons_zero, List.getElem?_cons_succ, if_true, and_true, true_and] at f1 f2 f3 f4 f5
    have fe0 : nv β 0 = 805 := by omega
    have fe3 : nv β 3 = 806 := by omega
    have fe4 : nv β 4 = 4 := by omega
    have fe6 : nv β 6 = 0 := by omega
    have fe7 : nv β 7 = 806 := by omega
    have fe8 : nv β 8 = 1 := by omega
    have fe13 : nv β 13 = 1 := by omega
    have fe14 : nv β 14 = 0 := by omega
    have fe15 : nv β 15 = 1 := by omega
    have fe16 : nv β 16 = 0 := by omega
    try simp only [fe0, fe3, fe4, fe6, fe7, fe8, fe13, fe14, fe15, fe16, Int.reduceToNat] at f2 f3 f4 f5
    have s0 : nv β 0 = nv α1 0 := nv_le H1.1 (by omega)
    have s1 : nv β 1 = nv α1 1 := nv_le H1.1 (by omega)
    have s2 : nv β 2 = nv α1 2 := nv_le H1.1 (by omega)
    obtain ⟨c0, c1, c2, c3, c4, c5⟩ := f2
    have o2 := old_0 c2 rfl
    have o4 := old_0 c4 rfl
    have d3 := fl1_b (by decide) (fl2_b (by decide) c3)
    simp only [wd_fl] at d3
    have d5 := fl1_b (by decide) (fl2_b (by decide) c5)
    simp only [wd_fl] at d5
    have h2 := mjk_eq (j := (nv xs 2).toNat) (w := 4) o4 (by omega)
    exact hd_retIR G (v := 16) (by decide +kernel) (as_backM H1 (by decide +kernel) hxa hf) _ List.mem_cons_self rfl (by decide +kernel) (by decide) (fun w hw => by cases hw) (fun x hx => ⟨x, rfl, fun h1 => h2.trans (by omega)⟩)
  · obtain ⟨f1, f2, f3, f4, f5⟩ := as_fx H1
    simp only [kh_cCan_b0_2, fx_env, fx_c, fx_ne, fx_hf, wl_S, Nat.zero_add, Nat.reduceAdd, Nat.reduceDiv, Nat.reduceMod, List.getElem?_cons_zero, List.getElem?_cons_succ, if_true, and_true, true_and] at f1 f2 f3 f4 f5
    have fe0 : nv β 0 = 805 := by omega
    have fe3 : nv β 3 = 806 := by omega
    have fe4 : nv β 4 = 4 := by omega
    have fe6 : nv β 6 = 0 := by omega
    have fe7 : nv β 7 = 806 := by omega
    have fe8 : nv β 8 = 1 := by omega
    have fe13 : nv β 13 = 1 := by omega
    have fe14 : nv β 14 = 1 := by omega
    have fe15 : nv β 15 = 1 := by omega
    have fe16 : nv β 16 = 0 := by omega
    have fe17 : nv β 17 = (-1) := by omega
    have fe18 : nv β 18 = (-1) := by omega
    have fe19 : nv β 19 = 0 := by omega
    try simp only [fe0, fe3, fe4, fe6, fe7, fe8, fe13, fe14, fe15, fe16, fe17, fe18, fe19, Int.reduceToNat] at f2 f3 f4 f5
    have s0 : nv β 0 = nv α1 0 := nv_le H1.1 (by omega)
    have s1 : nv β 1 = nv α1 1 := nv_le H1.1 (by omega)
    have s2 : nv β 2 = nv α1 2 := nv_le H1.1 (by omega)
    obtain ⟨c0, c1, c2, c3, c4, c5⟩ := f2
    have o2 := old_0 c2 rfl
    have o4 := old_0 c4 rfl
    have d3 := fl1_b (by decide) (fl2_b (by decide) c3)
    simp only [wd_fl] at d3
    have d5 := fl1_b (by decide) (fl2_b (by decide) c5)
    simp only [wd_fl] at d5
    have h2 := mjk_eq (j := (nv xs 2).toNat) (w := 4) o4 (by omega)
    exact hd_retIR G (v := 19) (by decide +kernel) (as_backM H1 (by decide +kernel) hxa hf) _ List.mem_cons_self rfl (by decide +kernel) (by decide) (fun w hw => by cases hw) (fun x hx => ⟨x, rfl, fun h1 => h2.trans (by omega)⟩)
  · obtain ⟨f1, f2, f3, f4, f5⟩ := as_fx H1
    simp only [kh_cCan_b0_3, fx_env, fx_c, fx_ne, fx_hf, wl_S, Nat.zero_add, Nat.reduceAdd, Nat.reduceDiv, Nat.reduceMod, List.getElem?_cons_zero, List.getElem?_cons_succ, if_true, and_true, true_and] at f1 f2 f3 f4 f5
    have fe0 : nv β 0 = 805 := by omega
    have fe3 : nv β 3 = 806 := by omega
    have fe4 : nv β 4 = 4 := by omega
    have fe6 : nv β 6 = 0 := by omega
    have fe7 : nv β 7 = 806 := by omega
    have fe8 : nv β 8 = 1 := by omega
    have fe13 : nv β 13 = 1 := by omega
    have fe14 : nv β 14 = 1 := by omega
    have fe15 : nv β 15 = 1 := by omega
    have fe16 : nv β 16 = 0 := by omega
    have fe18 : nv β 18 = (-1) := by omega
    have fe19 : nv β 19 = 1 := by omega
    try simp only [fe0, fe3, fe4, fe6, fe7, fe8, fe13, fe14, fe15, fe16, fe18, fe19, Int.reduceToNat] at f2 f3 f4 f5
    have s0 : nv β 0 = nv α1 0 := nv_le H1.1 (by omega)
    have s1 : nv β 1 = nv α1 1 := nv_le H1.1 (by omega)
    have s2 : nv β 2 = nv α1 2 := nv_le H1.1 (by omega)
    obtain ⟨c0, c1, c2, c3, c4, c5⟩ := f2
    have o2 := old_0 c2 rfl
    have o4 := old_0 c4 rfl
    have d3 := fl1_b (by decide) (fl2_b (by decide) c3)
    simp only [wd_fl] at d3
    have d5 := fl1_b (by decide) (fl2_b (by decide) c5)
    simp only [wd_fl] at d5
    have h2 := mjk_eq (j := (nv xs 2).toNat) (w := 4) o4 (by omega)
    exact hd_retIR G (v := 19) (by decide +kernel) (as_backM H1 (by decide +kernel) hxa hf) _ List.mem_cons_self rfl (by decide +kernel) (by decide) (fun w hw => by cases hw) (fun x hx => ⟨x, rfl, fun h1 => h2.trans (by omega)⟩)
  · obtain ⟨f1, f2, f3, f4, f5⟩ := as_fx H1
    simp only [kh_cCan_b0_4, fx_env, fx_c, fx_ne, fx_hf, wl_S, Nat.zero_add, Nat.reduceAdd, Nat.reduceDiv, Nat.reduceMod, List.getElem?_cons_zero, List.getElem?_cons_succ, if_true, and_true, true_and] at f1 f2 f3 f4 f5
    have fe0 : nv β 0 = 805 := by omega
    have fe3 : nv β 3 = 806 := by omega
    have fe4 : nv β 4 = 4 := by omega
    have fe6 : nv β 6 = 0 := by omega
    have fe7 : nv β 7 = 806 := by omega
    have fe8 : nv β 8 = 1 := by omega
    have fe13 : nv β 13 = 1 := by omega
    have fe14 : nv β 14 = 1 := by omega
    have fe15 : nv β 15 = 1 := by omega
    have fe16 : nv β 16 = 1 := by omega
    have fe17 : nv β 17 = 806 := by omega
    have fe18 : nv β 18 = 0 := by omega
    have fe21 : nv β 21 = 2 := by omega
    have fe22 : nv β 22 = 0 := by omega
    try simp only [fe0, fe3, fe4, fe6, fe7, fe8, fe13, fe14, fe15, fe16, fe17, fe18, fe21, fe22, Int.reduceToNat] at f2 f3 f4 f5
    have s0 : nv β 0 = nv α1 0 := nv_le H1.1 (by omega)
    have s1 : nv β 1 = nv α1 1 := nv_le H1.1 (by omega)
    have s2 : nv β 2 = nv α1 2 := nv_le H1.1 (by omega)
    obtain ⟨c0, c1, c2, c3, c4, c5, c6, c7, c8⟩ := f2
    have o1 := old_0 c1 rfl
    have o5 := old_0 c5 rfl
    have o7 := old_0 c7 rfl
    have d2 := fl1_b (by decide) (fl2_b (by decide) c2)
    simp only [wd_fl] at d2
    have d6 := fl1_b (by decide) (fl2_b (by decide) c6)
    simp only [wd_fl] at d6
    have d8 := fl1_b (by decide) (fl2_b (by decide) c8)
    simp only [wd_fl] at d8
    have h2 := mjk_eq (j := (nv xs 2).toNat) (w := 4) o7 (by omega)
    exact hd_retIR G (v := 22) (by decide +kernel) (as_backM H1 (by decide +kernel) hxa hf) _ List.mem_cons_self rfl (by decide +kernel) (by decide) (fun w hw => by cases hw) (fun x hx => ⟨x, rfl, fun h1 => h2.trans (by omega)⟩)
  · obtain ⟨f1, f2, f3, f4, f5⟩ := as_fx H1
    simp only [kh_cCan_b0_5, fx_env, fx_c, fx_ne, fx_hf, wl_S, Nat.zero_add, Nat.reduceAdd, Nat.reduceDiv, Nat.reduceMod, List.getElem?_cons_zero, List.getElem?_cons_succ, if_true, and_true, true_and] at f1 f2 f3 f4 f5
    have fe0 : nv β 0 = 805 := by omega
    have fe3 : nv β 3 = 806 := by omega
    have fe4 : nv β 4 = 4 := by omega
    have fe6 : nv β 6 = 0 := by omega
    have fe7 : nv β 7 = 806 := by omega
    have fe8 : nv β 8 = 1 := by omega
    have fe13 : nv β 13 = 1 := by omega
    have fe14 : nv β 14 = 1 := by omega
    have fe15 : nv β 15 = 1 := by omega
    have fe16 : nv β 16 = 1 := by omega
    have fe17 : nv β 17 = 806 := by omega
    have fe18 : nv β 18 = 0 := by omega
    have fe20 : nv β 20 = 2 := by omega
    have fe21 : nv β 21 = 2 := by omega
    have fe22 : nv β 22 = (-1) := by omega
    have fe23 : nv β 23 = (-1) := by omega
    have fe24 : nv β 24 = 0 := by omega
    try simp only [fe0, fe3, fe4, fe6, fe7, fe8, fe13, fe14, fe15, fe16, fe17, fe18, fe20, fe21, fe22, fe23, fe24, Int.reduceToNat] at f2 f3 f4 f5
    have s0 : nv β 0 = nv α1 0 := nv_le H1.1 (by omega)
    have s1 : nv β 1 = nv α1 1 := nv_le H1.1 (by omega)
    have s2 : nv β 2 = nv α1 2 := nv_le H1.1 (by omega)
    obtain ⟨c0, c1, c2, c3, c4, c5, c6, c7, c8⟩ := f2
    have o1 := old_0 c1 rfl
    have o5 := old_0 c5 rfl
    have o7 := old_0 c7 rfl
    have d2 := fl1_b (by decide) (fl2_b (by decide) c2)
    simp only [wd_fl] at d2
    have d6 := fl1_b (by decide) (fl2_b (by decide) c6)
    simp only [wd_fl] at d6
    have d8 := fl1_b (by decide) (fl2_b (by decide) c8)
    simp only [wd_fl] at d8
    have h2 := mjk_eq (j := (nv xs 2).toNat) (w := 4) o7 (by omega)
    exact hd_retIR G (v := 24) (by decide +kernel) (as_backM H1 (by decide +kernel) hxa hf) _ List.mem_cons_self rfl (by decide +kernel) (by decide) (fun w hw => by cases hw) (fun x hx => ⟨x, rfl, fun h1 => h2.trans (by omega)⟩)
  · obtain ⟨f1, f2, f3, f4, f5⟩ := as_fx H1
    simp only [kh_cCan_b0_6, fx_env, fx_c, fx_ne, fx_hf, wl_S, Nat.zero_add, Nat.reduceAdd, Nat.reduceDiv, Nat.reduceMod, List.getElem?_cons_zero, List.getElem?_cons_succ, if_true, and_true, true_and] at f1 f2 f3 f4 f5
    have fe0 : nv β 0 = 805 := by omega
    have fe3 : nv β 3 = 806 := by omega
    have fe4 : nv β 4 = 4 := by omega
    have fe6 : nv β 6 = 0 := by omega
    have fe7 : nv β 7 = 806 := by omega
    have fe8 : nv β 8 = 1 := by omega
    have fe13 : nv β 13 = 1 := by omega
    have fe14 : nv β 14 = 1 := by omega
    have fe15 : nv β 15 = 1 := by omega
    have fe16 : nv β 16 = 1 := by omega
    have fe17 : nv β 17 = 806 := by omega
    have fe18 : nv β 18 = 0 := by omega
    have fe20 : nv β 20 = 2 := by omega
    have fe21 : nv β 21 = 2 := by omega
    have fe23 : nv β 23 = (-1) := by omega
    have fe24 : nv β 24 = 1 := by omega
    try simp only [fe0, fe3, fe4, fe6, fe7, fe8, fe13, fe14, fe15, fe16, fe17, fe18, fe20, fe21, fe23, fe24, Int.reduceToNat] at f2 f3 f4 f5
    have s0 : nv β 0 = nv α1 0 := nv_le H1.1 (by omega)
    have s1 : nv β 1 = nv α1 1 := nv_le H1.1 (by omega)
    have s2 : nv β 2 = nv α1 2 := nv_le H1.1 (by omega)
    obtain ⟨c0, c1, c2, c3, c4, c5, c6, c7, c8⟩ := f2
    have o1 := old_0 c1 rfl
    have o5 := old_0 c5 rfl
    have o7 := old_0 c7 rfl
    have d2 := fl1_b (by decide) (fl2_b (by decide) c2)
    simp only [wd_fl] at d2
    have d6 := fl1_b (by decide) (fl2_b (by decide) c6)
    simp only [wd_fl] at d6
    have d8 := fl1_b (by decide) (fl2_b (by decide) c8)
    simp only [wd_fl] at d8
    have h2 := mjk_eq (j := (nv xs 2).toNat) (w := 4) o7 (by omega)
    exact hd_retIR G (v := 24) (by decide +kernel) (as_backM H1 (by decide +kernel) hxa hf) _ List.mem_cons_self rfl (by decide +kernel) (by decide) (fun w hw => by cases hw) (fun x hx => ⟨x, rfl, fun h1 => h2.trans (by omega)⟩))
theorem kh_cCan_ok : ct_ok wd_fl2 kh_cCan := ct_okR_ok kh_cCan_okR
abbrev kh_cBest_y : mt_T := (⟨"UtilityWorksModel", "cBest", "(I)I"⟩, prog_14_method_283_code, 5, some .int, 12, 1, 1, 33124, 33123, 7003, 21014)
def kh_cBest : ct_T := (397, [(2, 805, 805, 0), (0, 0, 3, 1)], [], [510], [(1, (0, (-1), 199, 1), [(2, 805, 805, 0), (0, 0, 3, 1)], [], ([], []))], [((814, 814), (0, 11, 1))], 6, 134, 0)
def kh_cBest_a4 : an_T := (4, 0, ([((2, 805, 805, 0), none), ((0, 0, 3, 1), none), ((0, (-1), 199, 1), none), ((0, 0, 200, 1), none)], [(0, 0), (1, 1), (2, 2), (3, 3)], [], [], [], [], [], [510], none), [])
def kh_cBest_a19 : an_T := (19, 0, ([((2, 805, 805, 0), none), ((0, 0, 3, 1), none), ((0, (-1), 199, 1), none), ((0, 0, 199, 1), none), ((0, 0, 199, 1), none)], [(0, 0), (1, 1), (2, 2), (3, 3)], [4, 1, 0], [], [], [], [], [510], none), [])
def kh_cBest_a22 : an_T := (22, 0, ([((2, 805, 805, 0), none), ((0, 0, 3, 1), none), ((0, (-1), 199, 1), none), ((0, 0, 199, 1), none), ((0, 0, 1, 1), none)], [(0, 0), (1, 1), (2, 2), (3, 3)], [4], [], [], [], [], [510], none), [])
def kh_cBest_b0_0 : sg_T := (4, 0, ([((2, 805, 805, 0), none), ((0, 0, 3, 1), none), ((0, (-1), (-1), 0), none), ((0, 0, 0, 0), none)], [(3, 3), (2, 2), (0, 0), (1, 1)], [], [], [], [], [], [510], some []))
def kh_cBest_b4_0 : sg_T := (95, 0, ([((2, 805, 805, 0), none), ((0, 0, 3, 1), none), ((0, (-1), 199, 1), none), ((0, 0, 200, 1), none), ((2, 806, 806, 1), none), ((0, 2440, 2440, 0), none), ((0, 0, 200, 1), none)], [(0, 0), (1, 1), (2, 2), (3, 3)], [2], [(4, 5, 6)], [], [(200000, 6, 3), (800006, 4, 5)], [], [510], some []))
def kh_cBest_b4_1 : sg_T := (19, 0, ([((2, 805, 805, 0), none), ((0, 0, 3, 1), none), ((0, (-1), 199, 1), none), ((0, 0, 199, 1), none), ((2, 806, 806, 1), none), ((0, 2440, 2440, 0), none), ((0, 1, 200, 1), none)], [(0, 0), (1, 1), (2, 2), (3, 3)], [3, 1, 0], [(4, 5, 6)], [], [(100000, 3, 6), (800006, 4, 5)], [], [510], some []))
def kh_cBest_b19_0 : sg_T := (22, 0, ([((2, 805, 805, 0), none), ((0, 0, 3, 1), none), ((0, (-1), 199, 1), none), ((0, 0, 199, 1), none), ((0, 0, 199, 1), none), ((0, 0, 1, 1), none)], [(0, 0), (1, 1), (2, 2), (3, 3)], [5], [], [], [], [], [510], none))
def kh_cBest_b22_0 : sg_T := (4, 0, ([((2, 805, 805, 0), none), ((0, 0, 3, 1), none), ((0, (-1), 199, 1), none), ((0, 0, 199, 1), none), ((0, 0, 0, 1), none), ((0, 1, 200, 1), some (3, 1))], [(3, 5), (0, 0), (1, 1), (2, 2)], [], [], [], [], [], [510], some []))
def kh_cBest_b22_1 : sg_T := (4, 0, ([((2, 805, 805, 0), none), ((0, 0, 3, 1), none), ((0, 0, 199, 1), none), ((0, 0, 199, 1), none), ((0, 1, 1, 1), none), ((0, (-1), (-1), 0), none), ((2, 806, 806, 1), none), ((0, 3, 3, 0), none), ((0, 2453, 4045, 8), none), ((0, (-2147483648), 2147483647, 1), none), ((2, 806, 806, 1), none), ((0, 3, 3, 0), none), ((0, 2453, 4045, 8), none), ((0, (-2147483648), 2147483647, 1), none), ((0, 1, 2147483647, 1), none), ((0, 1, 200, 1), some (3, 1))], [(3, 15), (2, 3), (4, 14), (0, 0), (1, 1)], [], [(10, 12, 13), (6, 8, 9)], [(2, (-1)), (4, 0)], [(800013, 10, 12), (1200012, 2, 11), (800009, 6, 8), (1200008, 3, 7), (400000, 2, 5)], [], [510], some []))
def kh_cBest_b22_2 : sg_T := (4, 0, ([((2, 805, 805, 0), none), ((0, 0, 3, 1), none), ((0, 0, 199, 1), none), ((0, 0, 199, 1), none), ((0, 1, 1, 1), none), ((0, (-1), (-1), 0), none), ((2, 806, 806, 1), none), ((0, 3, 3, 0), none), ((0, 2453, 4045, 8), none), ((0, (-2147483648), 2147483647, 1), none), ((2, 806, 806, 1), none), ((0, 3, 3, 0), none), ((0, 2453, 4045, 8), none), ((0, (-2147483648), 2147483647, 1), none), ((0, (-2147483648), (-1), 1), none), ((0, 1, 200, 1), some (3, 1))], [(3, 15), (2, 2), (4, 14), (0, 0), (1, 1)], [], [(10, 12, 13), (6, 8, 9)], [(14, 0), (2, (-1)), (4, 0)], [(800013, 10, 12), (1200012, 2, 11), (800009, 6, 8), (1200008, 3, 7), (400000, 2, 5)], [], [510], some []))
def kh_cBest_b22_3 : sg_T := (4, 0, ([((2, 805, 805, 0), none), ((0, 0, 3, 1), none), ((0, 0, 199, 1), none), ((0, 0, 199, 1), none), ((0, 1, 1, 1), none), ((0, (-1), (-1), 0), none), ((2, 806, 806, 1), none), ((0, 3, 3, 0), none), ((0, 2453, 4045, 8), none), ((0, (-2147483648), 2147483647, 1), none), ((2, 806, 806, 1), none), ((0, 3, 3, 0), none), ((0, 2453, 4045, 8), none), ((0, (-2147483648), 2147483647, 1), none), ((0, 0, 0, 1), none), ((0, (-1), 12, 1), none), ((0, (-1), 12, 1), none), ((0, 1, 200, 1), some (3, 1))], [(3, 17), (2, 2), (4, 14), (0, 0), (1, 1)], [], [(10, 12, 13), (6, 8, 9)], [(2, (-1)), (4, 0)], [(800013, 10, 12), (1200012, 2, 11), (800009, 6, 8), (1200008, 3, 7), (400000, 2, 5)], [], [510], none))
def kh_cBest_b22_4 : sg_T := (4, 0, ([((2, 805, 805, 0), none), ((0, 0, 3, 1), none), ((0, 0, 199, 1), none), ((0, 0, 199, 1), none), ((0, 1, 1, 1), none), ((0, (-1), (-1), 0), none), ((2, 806, 806, 1), none), ((0, 3, 3, 0), none), ((0, 2453, 4045, 8), none), ((0, (-2147483648), 2147483647, 1), none), ((2, 806, 806, 1), none), ((0, 3, 3, 0), none), ((0, 2453, 4045, 8), none), ((0, (-2147483648), 2147483647, 1), none), ((0, 0, 0, 1), none), ((0, (-1), 11, 1), none), ((0, 0, 12, 1), none), ((0, 1, 200, 1), some (3, 1))], [(3, 17), (2, 3), (4, 14), (0, 0), (1, 1)], [], [(10, 12, 13), (6, 8, 9)], [(2, (-1)), (4, 0)], [(800013, 10, 12), (1200012, 2, 11), (800009, 6, 8), (1200008, 3, 7), (400000, 2, 5)], [], [510], none))
def kh_cBest_b22_5 : sg_T := (4, 0, ([((2, 805, 805, 0), none), ((0, 0, 3, 1), none), ((0, (-1), (-1), 1), none), ((0, 0, 199, 1), none), ((0, 1, 1, 1), none), ((0, (-1), (-1), 0), none), ((0, 1, 1, 0), none), ((0, 1, 200, 1), some (3, 1))], [(3, 7), (2, 3), (4, 6), (0, 0), (1, 1)], [], [], [(4, 0)], [(300000, 2, 5)], [], [510], some []))
def kh_cBest_I (l : Launch) (D : va_G) (tc : Nat → ClassId) (ad : Nat → Nat) (kd : Nat → Nat × Nat) (N : Nat) (sm : Nat → Nat) (xs : List av_X) (S : fw_S) (p : Program) (e : Env) (s : State) (m : MethodId) (args : Array Value) (below : List Frame) (meth : Method) (c : Code) (sz : Nat) (k : Nat) : Prop := (∀ (α : List av_X) (lv : List (Nat × Value)) (st : List Value) (S1 : fw_S), as_in ad sm wd_fl2 xs S kh_cBest.2.2.2.2.2.1 α kh_cBest_a4.2.2.1 lv st S1 → ((nv α 2 = -1 ∨ (0 ≤ nv α 2 ∧ nv α 2 < (S.1 806 2440).toInt ∧ mjk (S.1 806) (nv α 2).toNat 4 = 0))) → (200 - nv α 3).toNat * 3 + 2 < k → hd_WR R_cBest wd_fl2 kh_cBest kh_cBest_y l D tc ad kd N sm xs S p e s m args below meth c sz 4 lv st S1 0) ∧ (∀ (α : List av_X) (lv : List (Nat × Value)) (st : List Value) (S1 : fw_S), as_in ad sm wd_fl2 xs S kh_cBest.2.2.2.2.2.1 α kh_cBest_a19.2.2.1 lv st S1 → ((nv α 2 = -1 ∨ (0 ≤ nv α 2 ∧ nv α 2 < (S.1 806 2440).toInt ∧ mjk (S.1 806) (nv α 2).toNat 4 = 0)) ∧ nv α 3 < (S.1 806 2440).toInt ∧ nv α 4 = nv α 3) → (200 - nv α 3).toNat * 3 + 1 < k → hd_WR R_cBest wd_fl2 kh_cBest kh_cBest_y l D tc ad kd N sm xs S p e s m args below meth c sz 19 lv st S1 0) ∧ (∀ (α : List av_X) (lv : List (Nat × Value)) (st : List Value) (S1 : fw_S), as_in ad sm wd_fl2 xs S kh_cBest.2.2.2.2.2.1 α kh_cBest_a22.2.2.1 lv st S1 → ((nv α 2 = -1 ∨ (0 ≤ nv α 2 ∧ nv α 2 < (S.1 806 2440).toInt ∧ mjk (S.1 806) (nv α 2).toNat 4 = 0)) ∧ nv α 3 < (S.1 806 2440).toInt ∧ (nv α 4 = 1 → mjk (S.1 806) (nv α 3).toNat 4 = 0)) → (200 - nv α 3).toNat * 3 < k → hd_WR R_cBest wd_fl2 kh_cBest kh_cBest_y l D tc ad kd N sm xs S p e s m args below meth c sz 22 lv st S1 0) ∧ True
set_option maxHeartbeats 16000000 in
set_option maxRecDepth 8000 in
theorem kh_cBest_h4 {l : Launch} {D : va_G} {tc : Nat → ClassId} {ad : Nat → Nat} {kd : Nat → Nat × Nat} {N : Nat} {sm : Nat → Nat} {xs : List av_X} {S : fw_S} {p : Program} {e : Env} {s : State} {m : MethodId} {args : Array Value} {below : List Frame} {meth : Method} {c : Code} {sz : Nat} {lvE : List (Nat × Value)} (G : hd_C wd_ff2 wd_fl2 kh_cBest [kh_cCan, kh_cJ3, kh_cFar] kh_cBest_y l D tc ad kd N sm xs p s m args meth c sz) (H0 : as_in ad sm wd_fl2 xs S kh_cBest.2.2.2.2.2.1 xs (hd_0 kh_cBest) lvE [] S) {k : Nat} (ih : kh_cBest_I l D tc ad kd N sm xs S p e s m args below meth c sz k) : (∀ (α : List av_X) (lv : List (Nat × Value)) (st : List Value) (S1 : fw_S), as_in ad sm wd_fl2 xs S kh_cBest.2.2.2.2.2.1 α kh_cBest_a4.2.2.1 lv st S1 → ((nv α 2 = -1 ∨ (0 ≤ nv α 2 ∧ nv α 2 < (S.1 806 2440).toInt ∧ mjk (S.1 806) (nv α 2).toNat 4 = 0))) → (200 - nv α 3).toNat * 3 + 2 < k + 1 → hd_WR R_cBest wd_fl2 kh_cBest kh_cBest_y l D tc ad kd N sm xs S p e s m args below meth c sz 4 lv st S1 0) := by
  have hx : xs.length = 2 := by rw [H0.2.1.1]; rfl
  intro α lv st S1 H hp hk
  obtain ⟨α1, hle, Hr⟩ := as_recM (pl := []) [] (by decide +kernel) H
  have hf := H.2.2.2.2.2.2.2.2.2.2.1
  have hl1 : α1.length = 4 := by rw [Hr.2.1.1]; rfl
  have hl0 : α.length = 4 := by rw [H.2.1.1]; rfl
  have hxa : al_le xs α1 := H.1.trans hle
  obtain ⟨g1, -, g3, g4, -⟩ := as_fx Hr
  have g0 : (805 ≤ nv α1 0 ∧ nv α1 0 ≤ 805) ∧ (0 ≤ nv α1 1 ∧ nv α1 1 ≤ 3) ∧ ((-1) ≤ nv α1 2 ∧ nv α1 2 ≤ 199) ∧ (0 ≤ nv α1 3 ∧ nv α1 3 ≤ 200) ∧ True := by
    refine ⟨by have h := (en_nv (i := 0) Hr.2.1 rfl).2; exact h, by have h := (en_nv (i := 1) Hr.2.1 rfl).2; exact h, by have h := (en_nv (i := 2) Hr.2.1 rfl).2; exact h, by have h := (en_nv (i := 3) Hr.2.1 rfl).2; exact h, trivial⟩
  have r0 : nv α1 0 = nv α 0 := nv_le hle (by omega)
  have r1 : nv α1 1 = nv α 1 := nv_le hle (by omega)
  have r2 : nv α1 2 = nv α 2 := nv_le hle (by omega)
  have r3 : nv α1 3 = nv α 3 := nv_le hle (by omega)
  refine hd_segMR G (na := 4) (fuel := 600) (first := true) (Bs := [kh_cBest_b4_0, kh_cBest_b4_1]) (by decide +kernel) hl1 Hr ?_
  intro q hq β lv' st' S' H1
  simp only [List.mem_cons, List.not_mem_nil, or_false] at hq
  rcases hq with rfl | rfl
  · obtain ⟨f1, f2, f3, f4, f5⟩ := as_fx H1
    simp only [kh_cBest_b4_0, fx_env, fx_c, fx_ne, fx_hf, wl_S, Nat.zero_add, Nat.reduceAdd, Nat.reduceDiv, Nat.reduceMod, List.getElem?_cons_zero, List.getElem?_cons_succ, if_true, and_true, true_and] at f1 f2 f3 f4 f5
    have fe0 : nv β 0 = 805 := by omega
    have fe4 : nv β 4 = 806 := by omega
    have fe5 : nv β 5 = 2440 := by omega
    try simp only [fe0, fe4, fe5, Int.reduceToNat] at f2 f3 f4 f5
    have s0 : nv β 0 = nv α1 0 := nv_le H1.1 (by omega)
    have s1 : nv β 1 = nv α1 1 := nv_le H1.1 (by omega)
    have s2 : nv β 2 = nv α1 2 := nv_le H1.1 (by omega)
    have s3 : nv β 3 = nv α1 3 := nv_le H1.1 (by omega)
    obtain ⟨c0, c1⟩ := f2
    rw [← r2, ← s2] at hp
    exact hd_retIR G (v := 2) (by decide +kernel) (as_backM H1 (by decide +kernel) hxa hf) _ List.mem_cons_self rfl (by decide +kernel) (by decide) (fun w hw => by cases hw) (fun x hx => ⟨x, rfl, by rw [hx]; exact hp⟩)
  · obtain ⟨f1, f2, f3, f4, f5⟩ := as_fx H1
    simp only [kh_cBest_b4_1, fx_env, fx_c, fx_ne, fx_hf, wl_S, Nat.zero_add, Nat.reduceAdd, Nat.reduceDiv, Nat.reduceMod, List.getElem?_cons_zero, List.getElem?_cons_succ, if_true, and_true, true_and] at f1 f2 f3 f4 f5
    have fe0 : nv β 0 = 805 := by omega
    have fe4 : nv β 4 = 806 := by omega
    have fe5 : nv β 5 = 2440 := by omega
    try simp only [fe0, fe4, fe5, Int.reduceToNat] at f2 f3 f4 f5
    have s0 : nv β 0 = nv α1 0 := nv_le H1.1 (by omega)
    have s1 : nv β 1 = nv α1 1 := nv_le H1.1 (by omega)
    have s2 : nv β 2 = nv α1 2 := nv_le H1.1 (by omega)
    have s3 : nv β 3 = nv α1 3 := nv_le H1.1 (by omega)
    obtain ⟨c0, c1⟩ := f2
    obtain ⟨α', Ha, hm⟩ := hd_gpM (q := kh_cBest_a19) (n := 0) (by decide +kernel) hx H1 (by decide +kernel) hxa hf
    have hfr := H1.2.2.2.2.2.2.2.2.2.2.1
    have m0 : nv α' 0 = nv β 0 := hm 0 0 rfl
    have m1 : nv α' 1 = nv β 1 := hm 1 1 rfl
    have m2 : nv α' 2 = nv β 2 := hm 2 2 rfl
    have m3 : nv α' 3 = nv β 3 := hm 3 3 rfl
    have m4 : nv α' 4 = nv β 3 := hm 4 3 rfl
    subst S'
    have o1 := old_0 c1 rfl
    have e6 : S1.1 806 = S.1 806 := fr_row hf 806 (by decide +kernel)
    rw [e6] at o1
    refine ih.2.1 _ _ _ _ Ha ?_ ?_
    · rw [m2, m3, m4, s2, r2]
      exact ⟨hp, by rw [o1]; omega, rfl⟩
    · omega
set_option maxHeartbeats 16000000 in
set_option maxRecDepth 8000 in
theorem kh_cBest_h19 {l : Launch} {D : va_G} {tc : Nat → ClassId} {ad : Nat → Nat} {kd : Nat → Nat × Nat} {N : Nat} {sm : Nat → Nat} {xs : List av_X} {S : fw_S} {p : Program} {e : Env} {s : State} {m : MethodId} {args : Array Value} {below : List Frame} {meth : Method} {c : Code} {sz : Nat} {lvE : List (Nat × Value)} (G : hd_C wd_ff2 wd_fl2 kh_cBest [kh_cCan, kh_cJ3, kh_cFar] kh_cBest_y l D tc ad kd N sm xs p s m args meth c sz) (H0 : as_in ad sm wd_fl2 xs S kh_cBest.2.2.2.2.2.1 xs (hd_0 kh_cBest) lvE [] S) {k : Nat} (ih : kh_cBest_I l D tc ad kd N sm xs S p e s m args below meth c sz k) : (∀ (α : List av_X) (lv : List (Nat × Value)) (st : List Value) (S1 : fw_S), as_in ad sm wd_fl2 xs S kh_cBest.2.2.2.2.2.1 α kh_cBest_a19.2.2.1 lv st S1 → ((nv α 2 = -1 ∨ (0 ≤ nv α 2 ∧ nv α 2 < (S.1 806 2440).toInt ∧ mjk (S.1 806) (nv α 2).toNat 4 = 0)) ∧ nv α 3 < (S.1 806 2440).toInt ∧ nv α 4 = nv α 3) → (200 - nv α 3).toNat * 3 + 1 < k + 1 → hd_WR R_cBest wd_fl2 kh_cBest kh_cBest_y l D tc ad kd N sm xs S p e s m args below meth c sz 19 lv st S1 0) := by
  have hx : xs.length = 2 := by rw [H0.2.1.1]; rfl
  intro α lv st S1 H hp hk
  obtain ⟨α1, hle, Hr⟩ := as_recM (pl := []) [((814, 814), (0, 11, 1))] (by decide +kernel) H
  have hf := H.2.2.2.2.2.2.2.2.2.2.1
  have hl1 : α1.length = 5 := by rw [Hr.2.1.1]; rfl
  have hl0 : α.length = 5 := by rw [H.2.1.1]; rfl
  have hxa : al_le xs α1 := H.1.trans hle
  obtain ⟨g1, -, g3, g4, -⟩ := as_fx Hr
  have g0 : (805 ≤ nv α1 0 ∧ nv α1 0 ≤ 805) ∧ (0 ≤ nv α1 1 ∧ nv α1 1 ≤ 3) ∧ ((-1) ≤ nv α1 2 ∧ nv α1 2 ≤ 199) ∧ (0 ≤ nv α1 3 ∧ nv α1 3 ≤ 199) ∧ (0 ≤ nv α1 4 ∧ nv α1 4 ≤ 199) ∧ True := by
    refine ⟨by have h := (en_nv (i := 0) Hr.2.1 rfl).2; exact h, by have h := (en_nv (i := 1) Hr.2.1 rfl).2; exact h, by have h := (en_nv (i := 2) Hr.2.1 rfl).2; exact h, by have h := (en_nv (i := 3) Hr.2.1 rfl).2; exact h, by have h := (en_nv (i := 4) Hr.2.1 rfl).2; exact h, trivial⟩
  have r0 : nv α1 0 = nv α 0 := nv_le hle (by omega)
  have r1 : nv α1 1 = nv α 1 := nv_le hle (by omega)
  have r2 : nv α1 2 = nv α 2 := nv_le hle (by omega)
  have r3 : nv α1 3 = nv α 3 := nv_le hle (by omega)
  have r4 : nv α1 4 = nv α 4 := nv_le hle (by omega)
  refine hd_callRR (Rr := R_cCan) (Rs := [kh_cCan]) (idx := 854) G (List.forall_mem_cons.mpr ⟨kh_cCan_okR, List.forall_mem_nil _⟩) (na := 5) (Bs := [kh_cBest_b19_0]) (by decide +kernel) (by decide +kernel) hl1 Hr ?_
  intro q hq β lv' st' S' H1 hRx
  simp only [List.mem_cons, List.not_mem_nil, or_false] at hq
  rcases hq with rfl
  · obtain ⟨f1, f2, f3, f4, f5⟩ := as_fx H1
    simp only [kh_cBest_b19_0, fx_env, fx_c, fx_ne, fx_hf, wl_S, Nat.zero_add, Nat.reduceAdd, Nat.reduceDiv, Nat.reduceMod, List.getElem?_cons_zero, List.getElem?_cons_succ, if_true, and_true, true_and] at f1 f2 f3 f4 f5
    have fe0 : nv β 0 = 805 := by omega
    try simp only [fe0, Int.reduceToNat] at f2 f3 f4 f5
    have s0 : nv β 0 = nv α1 0 := nv_le H1.1 (by omega)
    have s1 : nv β 1 = nv α1 1 := nv_le H1.1 (by omega)
    have s2 : nv β 2 = nv α1 2 := nv_le H1.1 (by omega)
    have s3 : nv β 3 = nv α1 3 := nv_le H1.1 (by omega)
    have s4 : nv β 4 = nv α1 4 := nv_le H1.1 (by omega)
    obtain ⟨α', Ha, hm⟩ := hd_gpM (q := kh_cBest_a22) (n := 0) (by decide +kernel) hx H1 (by decide +kernel) hxa hf
    have hfr := H1.2.2.2.2.2.2.2.2.2.2.1
    have m0 : nv α' 0 = nv β 0 := hm 0 0 rfl
    have m1 : nv α' 1 = nv β 1 := hm 1 1 rfl
    have m2 : nv α' 2 = nv β 2 := hm 2 2 rfl
    have m3 : nv α' 3 = nv β 3 := hm 3 3 rfl
    have m4 : nv α' 4 = nv β 5 := hm 4 5 rfl
    obtain ⟨Cc, hCc, ys, rr, hnm, hR, rest, hre⟩ := hRx
    rcases List.mem_singleton.mp hCc with rfl
    have y2 : nv ys 2 = nv α1 4 := nm_nv hnm (i := 2) (v := 4) rfl
    obtain ⟨v, v1, v2⟩ := hR
    have hv := hd_rv H1 (i := 5) rfl rfl rfl hre (Sum.inl.inj v1)
    rw [hv, y2] at v2
    have e6 : S1.1 806 = S.1 806 := fr_row hf 806 (by decide +kernel)
    rw [e6, r4, hp.2.2] at v2
    refine ih.2.2.1 _ _ _ _ Ha ?_ ?_
    · rw [m2, m3, m4, s2, r2, s3, r3]
      exact ⟨hp.1, hp.2.1, v2⟩
    · omega
set_option maxHeartbeats 16000000 in
set_option maxRecDepth 8000 in
theorem kh_cBest_h22 {l : Launch} {D : va_G} {tc : Nat → ClassId} {ad : Nat → Nat} {kd : Nat → Nat × Nat} {N : Nat} {sm : Nat → Nat} {xs : List av_X} {S : fw_S} {p : Program} {e : Env} {s : State} {m : MethodId} {args : Array Value} {below : List Frame} {meth : Method} {c : Code} {sz : Nat} {lvE : List (Nat × Value)} (G : hd_C wd_ff2 wd_fl2 kh_cBest [kh_cCan, kh_cJ3, kh_cFar] kh_cBest_y l D tc ad kd N sm xs p s m args meth c sz) (H0 : as_in ad sm wd_fl2 xs S kh_cBest.2.2.2.2.2.1 xs (hd_0 kh_cBest) lvE [] S) {k : Nat} (ih : kh_cBest_I l D tc ad kd N sm xs S p e s m args below meth c sz k) : (∀ (α : List av_X) (lv : List (Nat × Value)) (st : List Value) (S1 : fw_S), as_in ad sm wd_fl2 xs S kh_cBest.2.2.2.2.2.1 α kh_cBest_a22.2.2.1 lv st S1 → ((nv α 2 = -1 ∨ (0 ≤ nv α 2 ∧ nv α 2 < (S.1 806 2440).toInt ∧ mjk (S.1 806) (nv α 2).toNat 4 = 0)) ∧ nv α 3 < (S.1 806 2440).toInt ∧ (nv α 4 = 1 → mjk (S.1 806) (nv α 3).toNat 4 = 0)) → (200 - nv α 3).toNat * 3 < k + 1 → hd_WR R_cBest wd_fl2 kh_cBest kh_cBest_y l D tc ad kd N sm xs S p e s m args below meth c sz 22 lv st S1 0) := by
  have hx : xs.length = 2 := by rw [H0.2.1.1]; rfl
  intro α lv st S1 H hp hk
  obtain ⟨α1, hle, Hr⟩ := as_recM (pl := []) [((814, 814), (0, 11, 1))] (by decide +kernel) H
  have hf := H.2.2.2.2.2.2.2.2.2.2.1
  have hl1 : α1.length = 5 := by rw [Hr.2.1.1]; rfl
  have hl0 : α.length = 5 := by rw [H.2.1.1]; rfl
  have hxa : al_le xs α1 := H.1.trans hle
  obtain ⟨g1, -, g3, g4, -⟩ := as_fx Hr
  have g0 : (805 ≤ nv α1 0 ∧ nv α1 0 ≤ 805) ∧ (0 ≤ nv α1 1 ∧ nv α1 1 ≤ 3) ∧ ((-1) ≤ nv α1 2 ∧ nv α1 2 ≤ 199) ∧ (0 ≤ nv α1 3 ∧ nv α1 3 ≤ 199) ∧ (0 ≤ nv α1 4 ∧ nv α1 4 ≤ 1) ∧ True := by
    refine ⟨by have h := (en_nv (i := 0) Hr.2.1 rfl).2; exact h, by have h := (en_nv (i := 1) Hr.2.1 rfl).2; exact h, by have h := (en_nv (i := 2) Hr.2.1 rfl).2; exact h, by have h := (en_nv (i := 3) Hr.2.1 rfl).2; exact h, by have h := (en_nv (i := 4) Hr.2.1 rfl).2; exact h, trivial⟩
  have r0 : nv α1 0 = nv α 0 := nv_le hle (by omega)
  have r1 : nv α1 1 = nv α 1 := nv_le hle (by omega)
  have r2 : nv α1 2 = nv α 2 := nv_le hle (by omega)
  have r3 : nv α1 3 = nv α 3 := nv_le hle (by omega)
  have r4 : nv α1 4 = nv α 4 := nv_le hle (by omega)
  refine hd_segMR G (na := 5) (fuel := 600) (first := true) (Bs := [kh_cBest_b22_0, kh_cBest_b22_1, kh_cBest_b22_2, kh_cBest_b22_3, kh_cBest_b22_4, kh_cBest_b22_5]) (by decide +kernel) hl1 Hr ?_
  intro q hq β lv' st' S' H1
  simp only [List.mem_cons, List.not_mem_nil, or_false] at hq
  rcases hq with rfl | rfl | rfl | rfl | rfl | rfl
  · obtain ⟨f1, f2, f3, f4, f5⟩ := as_fx H1
    simp only [kh_cBest_b22_0, fx_env, fx_c, fx_ne, fx_hf, wl_S, Nat.zero_add, Nat.reduceAdd, Nat.reduceDiv, Nat.reduceMod, List.getElem?_cons_zero, List.getElem?_cons_succ, if_true, and_true, true_and] at f1 f2 f3 f4 f5
    have fe0 : nv β 0 = 805 := by omega
    have fe4 : nv β 4 = 0 := by omega
    try simp only [fe0, fe4, Int.reduceToNat] at f2 f3 f4 f5
    have s0 : nv β 0 = nv α1 0 := nv_le H1.1 (by omega)
    have s1 : nv β 1 = nv α1 1 := nv_le H1.1 (by omega)
    have s2 : nv β 2 = nv α1 2 := nv_le H1.1 (by omega)
    have s3 : nv β 3 = nv α1 3 := nv_le H1.1 (by omega)
    have s4 : nv β 4 = nv α1 4 := nv_le H1.1 (by omega)
    obtain ⟨α', Ha, hm⟩ := hd_gpM (q := kh_cBest_a4) (n := 0) (by decide +kernel) hx H1 (by decide +kernel) hxa hf
    have hfr := H1.2.2.2.2.2.2.2.2.2.2.1
    have m0 : nv α' 0 = nv β 0 := hm 0 0 rfl
    have m1 : nv α' 1 = nv β 1 := hm 1 1 rfl
    have m2 : nv α' 2 = nv β 2 := hm 2 2 rfl
    have m3 : nv α' 3 = nv β 5 := hm 3 5 rfl
    subst S'
    refine ih.1 _ _ _ _ Ha ?_ ?_
    · rw [m2, s2, r2]; exact hp.1
    · omega
  · obtain ⟨f1, f2, f3, f4, f5⟩ := as_fx H1
    simp only [kh_cBest_b22_1, fx_env, fx_c, fx_ne, fx_hf, wl_S, Nat.zero_add, Nat.reduceAdd, Nat.reduceDiv, Nat.reduceMod, List.getElem?_cons_zero, List.getElem?_cons_succ, if_true, and_true, true_and] at f1 f2 f3 f4 f5
    have fe0 : nv β 0 = 805 := by omega
    have fe4 : nv β 4 = 1 := by omega
    have fe5 : nv β 5 = (-1) := by omega
    have fe6 : nv β 6 = 806 := by omega
    have fe7 : nv β 7 = 3 := by omega
    have fe10 : nv β 10 = 806 := by omega
    have fe11 : nv β 11 = 3 := by omega
    try simp only [fe0, fe4, fe5, fe6, fe7, fe10, fe11, Int.reduceToNat] at f2 f3 f4 f5
    have s0 : nv β 0 = nv α1 0 := nv_le H1.1 (by omega)
    have s1 : nv β 1 = nv α1 1 := nv_le H1.1 (by omega)
    have s2 : nv β 2 = nv α1 2 := nv_le H1.1 (by omega)
    have s3 : nv β 3 = nv α1 3 := nv_le H1.1 (by omega)
    have s4 : nv β 4 = nv α1 4 := nv_le H1.1 (by omega)
    obtain ⟨c0, c1, c2, c3, c4⟩ := f2
    obtain ⟨α', Ha, hm⟩ := hd_gpM (q := kh_cBest_a4) (n := 0) (by decide +kernel) hx H1 (by decide +kernel) hxa hf
    have hfr := H1.2.2.2.2.2.2.2.2.2.2.1
    have m0 : nv α' 0 = nv β 0 := hm 0 0 rfl
    have m1 : nv α' 1 = nv β 1 := hm 1 1 rfl
    have m2 : nv α' 2 = nv β 3 := hm 2 3 rfl
    have m3 : nv α' 3 = nv β 15 := hm 3 15 rfl
    subst S'
    refine ih.1 _ _ _ _ Ha ?_ ?_
    · rw [m2]; exact Or.inr ⟨by omega, by omega, by rw [s3, r3]; exact hp.2.2 (by omega)⟩
    · omega
  · obtain ⟨f1, f2, f3, f4, f5⟩ := as_fx H1
    simp only [kh_cBest_b22_2, fx_env, fx_c, fx_ne, fx_hf, wl_S, Nat.zero_add, Nat.reduceAdd, Nat.reduceDiv, Nat.reduceMod, List.getElem?_cons_zero, List.getElem?_cons_succ, if_true, and_true, true_and] at f1 f2 f3 f4 f5
    have fe0 : nv β 0 = 805 := by omega
    have fe4 : nv β 4 = 1 := by omega
    have fe5 : nv β 5 = (-1) := by omega
    have fe6 : nv β 6 = 806 := by omega
    have fe7 : nv β 7 = 3 := by omega
    have fe10 : nv β 10 = 806 := by omega
    have fe11 : nv β 11 = 3 := by omega
    try simp only [fe0, fe4, fe5, fe6, fe7, fe10, fe11, Int.reduceToNat] at f2 f3 f4 f5
    have s0 : nv β 0 = nv α1 0 := nv_le H1.1 (by omega)
    have s1 : nv β 1 = nv α1 1 := nv_le H1.1 (by omega)
    have s2 : nv β 2 = nv α1 2 := nv_le H1.1 (by omega)
    have s3 : nv β 3 = nv α1 3 := nv_le H1.1 (by omega)
    have s4 : nv β 4 = nv α1 4 := nv_le H1.1 (by omega)
    obtain ⟨c0, c1, c2, c3, c4⟩ := f2
    obtain ⟨α', Ha, hm⟩ := hd_gpM (q := kh_cBest_a4) (n := 0) (by decide +kernel) hx H1 (by decide +kernel) hxa hf
    have hfr := H1.2.2.2.2.2.2.2.2.2.2.1
    have m0 : nv α' 0 = nv β 0 := hm 0 0 rfl
    have m1 : nv α' 1 = nv β 1 := hm 1 1 rfl
    have m2 : nv α' 2 = nv β 2 := hm 2 2 rfl
    have m3 : nv α' 3 = nv β 15 := hm 3 15 rfl
    subst S'
    refine ih.1 _ _ _ _ Ha ?_ ?_
    · rw [m2, s2, r2]; exact hp.1
    · omega
  · obtain ⟨f1, f2, f3, f4, f5⟩ := as_fx H1
    simp only [kh_cBest_b22_3, fx_env, fx_c, fx_ne, fx_hf, wl_S, Nat.zero_add, Nat.reduceAdd, Nat.reduceDiv, Nat.reduceMod, List.getElem?_cons_zero, List.getElem?_cons_succ, if_true, and_true, true_and] at f1 f2 f3 f4 f5
    have fe0 : nv β 0 = 805 := by omega
    have fe4 : nv β 4 = 1 := by omega
    have fe5 : nv β 5 = (-1) := by omega
    have fe6 : nv β 6 = 806 := by omega
    have fe7 : nv β 7 = 3 := by omega
    have fe10 : nv β 10 = 806 := by omega
    have fe11 : nv β 11 = 3 := by omega
    have fe14 : nv β 14 = 0 := by omega
    try simp only [fe0, fe4, fe5, fe6, fe7, fe10, fe11, fe14, Int.reduceToNat] at f2 f3 f4 f5
    have s0 : nv β 0 = nv α1 0 := nv_le H1.1 (by omega)
    have s1 : nv β 1 = nv α1 1 := nv_le H1.1 (by omega)
    have s2 : nv β 2 = nv α1 2 := nv_le H1.1 (by omega)
    have s3 : nv β 3 = nv α1 3 := nv_le H1.1 (by omega)
    have s4 : nv β 4 = nv α1 4 := nv_le H1.1 (by omega)
    obtain ⟨c0, c1, c2, c3, c4⟩ := f2
    obtain ⟨α', Ha, hm⟩ := hd_gpM (q := kh_cBest_a4) (n := 0) (by decide +kernel) hx H1 (by decide +kernel) hxa hf
    have hfr := H1.2.2.2.2.2.2.2.2.2.2.1
    have m0 : nv α' 0 = nv β 0 := hm 0 0 rfl
    have m1 : nv α' 1 = nv β 1 := hm 1 1 rfl
    have m2 : nv α' 2 = nv β 2 := hm 2 2 rfl
    have m3 : nv α' 3 = nv β 17 := hm 3 17 rfl
    refine ih.1 _ _ _ _ Ha ?_ ?_
    · rw [m2, s2, r2]; exact hp.1
    · omega
  · obtain ⟨f1, f2, f3, f4, f5⟩ := as_fx H1
    simp only [kh_cBest_b22_4, fx_env, fx_c, fx_ne, fx_hf, wl_S, Nat.zero_add, Nat.reduceAdd, Nat.reduceDiv, Nat.reduceMod, List.getElem?_cons_zero, List.getElem?_cons_succ, if_true, and_true, true_and] at f1 f2 f3 f4 f5
    have fe0 : nv β 0 = 805 := by omega
    have fe4 : nv β 4 = 1 := by omega
    have fe5 : nv β 5 = (-1) := by omega
    have fe6 : nv β 6 = 806 := by omega
    have fe7 : nv β 7 = 3 := by omega
    have fe10 : nv β 10 = 806 := by omega
    have fe11 : nv β 11 = 3 := by omega
    have fe14 : nv β 14 = 0 := by omega
    try simp only [fe0, fe4, fe5, fe6, fe7, fe10, fe11, fe14, Int.reduceToNat] at f2 f3 f4 f5
    have s0 : nv β 0 = nv α1 0 := nv_le H1.1 (by omega)
    have s1 : nv β 1 = nv α1 1 := nv_le H1.1 (by omega)
    have s2 : nv β 2 = nv α1 2 := nv_le H1.1 (by omega)
    have s3 : nv β 3 = nv α1 3 := nv_le H1.1 (by omega)
    have s4 : nv β 4 = nv α1 4 := nv_le H1.1 (by omega)
    obtain ⟨c0, c1, c2, c3, c4⟩ := f2
    obtain ⟨α', Ha, hm⟩ := hd_gpM (q := kh_cBest_a4) (n := 0) (by decide +kernel) hx H1 (by decide +kernel) hxa hf
    have hfr := H1.2.2.2.2.2.2.2.2.2.2.1
    have m0 : nv α' 0 = nv β 0 := hm 0 0 rfl
    have m1 : nv α' 1 = nv β 1 := hm 1 1 rfl
    have m2 : nv α' 2 = nv β 3 := hm 2 3 rfl
    have m3 : nv α' 3 = nv β 17 := hm 3 17 rfl
    refine ih.1 _ _ _ _ Ha ?_ ?_
    · rw [m2]; exact Or.inr ⟨by omega, by omega, by rw [s3, r3]; exact hp.2.2 (by omega)⟩
    · omega
  · obtain ⟨f1, f2, f3, f4, f5⟩ := as_fx H1
    simp only [kh_cBest_b22_5, fx_env, fx_c, fx_ne, fx_hf, wl_S, Nat.zero_add, Nat.reduceAdd, Nat.reduceDiv, Nat.reduceMod, List.getElem?_cons_zero, List.getElem?_cons_succ, if_true, and_true, true_and] at f1 f2 f3 f4 f5
    have fe0 : nv β 0 = 805 := by omega
    have fe2 : nv β 2 = (-1) := by omega
    have fe4 : nv β 4 = 1 := by omega
    have fe5 : nv β 5 = (-1) := by omega
    have fe6 : nv β 6 = 1 := by omega
    try simp only [fe0, fe2, fe4, fe5, fe6, Int.reduceToNat] at f2 f3 f4 f5
    have s0 : nv β 0 = nv α1 0 := nv_le H1.1 (by omega)
    have s1 : nv β 1 = nv α1 1 := nv_le H1.1 (by omega)
    have s2 : nv β 2 = nv α1 2 := nv_le H1.1 (by omega)
    have s3 : nv β 3 = nv α1 3 := nv_le H1.1 (by omega)
    have s4 : nv β 4 = nv α1 4 := nv_le H1.1 (by omega)
    have c0 := f2
    obtain ⟨α', Ha, hm⟩ := hd_gpM (q := kh_cBest_a4) (n := 0) (by decide +kernel) hx H1 (by decide +kernel) hxa hf
    have hfr := H1.2.2.2.2.2.2.2.2.2.2.1
    have m0 : nv α' 0 = nv β 0 := hm 0 0 rfl
    have m1 : nv α' 1 = nv β 1 := hm 1 1 rfl
    have m2 : nv α' 2 = nv β 3 := hm 2 3 rfl
    have m3 : nv α' 3 = nv β 7 := hm 3 7 rfl
    subst S'
    refine ih.1 _ _ _ _ Ha ?_ ?_
    · rw [m2]; exact Or.inr ⟨by omega, by omega, by rw [s3, r3]; exact hp.2.2 (by omega)⟩
    · omega
set_option maxHeartbeats 16000000 in
set_option maxRecDepth 8000 in
theorem kh_cBest_okR : ct_okR wd_fl2 kh_cBest R_cBest := ct_handR (R := R_cBest) (ff := wd_ff2) (y := kh_cBest_y) (Cs := [kh_cCan, kh_cJ3, kh_cFar]) wd_fl2_ok rfl (List.forall_mem_cons.mpr ⟨kh_cCan_ok, (List.forall_mem_cons.mpr ⟨kh_cJ3_ok, (List.forall_mem_cons.mpr ⟨kh_cFar_ok, (List.forall_mem_nil _)⟩)⟩)⟩) (by decide +kernel) (fun l D tc ad kd N sm xs S p e s m args below meth c sz lv G H0 => by
  have hx : xs.length = 2 := by rw [H0.2.1.1]; rfl
  have hP : ∀ (k : Nat), kh_cBest_I l D tc ad kd N sm xs S p e s m args below meth c sz k := by
    intro k
    induction k with
    | zero => exact ⟨fun _ _ _ _ _ _ h => absurd h (Nat.not_lt_zero _), fun _ _ _ _ _ _ h => absurd h (Nat.not_lt_zero _), fun _ _ _ _ _ _ h => absurd h (Nat.not_lt_zero _), trivial⟩
    | succ k ih => exact ⟨kh_cBest_h4 G H0 ih, kh_cBest_h19 G H0 ih, kh_cBest_h22 G H0 ih, trivial⟩
  obtain ⟨α1, hle, Hr⟩ := as_recM (pl := []) [] (by decide +kernel) H0
  have hf := H0.2.2.2.2.2.2.2.2.2.2.1
  have hl1 : α1.length = 2 := by rw [Hr.2.1.1]; rfl
  have hl0 : xs.length = 2 := by rw [H0.2.1.1]; rfl
  have hxa : al_le xs α1 := H0.1.trans hle
  obtain ⟨g1, -, g3, g4, -⟩ := as_fx Hr
  have g0 : (805 ≤ nv α1 0 ∧ nv α1 0 ≤ 805) ∧ (0 ≤ nv α1 1 ∧ nv α1 1 ≤ 3) ∧ True := by
    refine ⟨by have h := (en_nv (i := 0) Hr.2.1 rfl).2; exact h, by have h := (en_nv (i := 1) Hr.2.1 rfl).2; exact h, trivial⟩
  have r0 : nv α1 0 = nv xs 0 := nv_le hle (by omega)
  have r1 : nv α1 1 = nv xs 1 := nv_le hle (by omega)
  refine hd_segMR G (na := 2) (fuel := 600) (first := true) (Bs := [kh_cBest_b0_0]) (by decide +kernel) hl1 Hr ?_
  intro q hq β lv' st' S' H1
  simp only [List.mem_cons, List.not_mem_nil, or_false] at hq
  rcases hq with rfl
  · obtain ⟨f1, f2, f3, f4, f5⟩ := as_fx H1
    simp only [kh_cBest_b0_0, fx_env, fx_c, fx_ne, fx_hf, wl_S, Nat.zero_add, Nat.reduceAdd, Nat.reduceDiv, Nat.reduceMod, List.getElem?_cons_zero, List.getElem?_cons_succ, if_true, and_true, true_and] at f1 f2 f3 f4 f5
    have fe0 : nv β 0 = 805 := by omega
    have fe2 : nv β 2 = (-1) := by omega
    have fe3 : nv β 3 = 0 := by omega
    try simp only [fe0, fe2, fe3, Int.reduceToNat] at f2 f3 f4 f5
    have s0 : nv β 0 = nv α1 0 := nv_le H1.1 (by omega)
    have s1 : nv β 1 = nv α1 1 := nv_le H1.1 (by omega)
    obtain ⟨α', Ha, hm⟩ := hd_gpM (q := kh_cBest_a4) (n := 0) (by decide +kernel) hx H1 (by decide +kernel) hxa hf
    have hfr := H1.2.2.2.2.2.2.2.2.2.2.1
    have m0 : nv α' 0 = nv β 0 := hm 0 0 rfl
    have m1 : nv α' 1 = nv β 1 := hm 1 1 rfl
    have m2 : nv α' 2 = nv β 2 := hm 2 2 rfl
    have m3 : nv α' 3 = nv β 3 := hm 3 3 rfl
    subst S'
    refine (hP _).1 _ _ _ _ Ha ?_ (Nat.lt_succ_self _)
    · exact Or.inl (by omega))
theorem kh_cBest_ok : ct_ok wd_fl2 kh_cBest := ct_okR_ok kh_cBest_okR
abbrev kh_cLeaves_y : mt_T := (⟨"UtilityWorksModel", "cLeaves", "(I)V"⟩, prog_14_method_284_code, 3, none, 12, 1, 1, 33116, 33115, 7001, 21014)
def kh_cLeaves : ct_T := (395, [(2, 805, 805, 0), (0, 0, 3, 1)], [], [510], [(0, (0, 0, 0, 0), [(2, 805, 805, 0), (0, 0, 3, 1)], [], ([510], []))], [((806, 806), (2404, 2428, 8)), ((806, 806), (2405, 2429, 8)), ((806, 806), (2454, 4046, 8)), ((806, 806), (2455, 4047, 8))], 1, 21, 0)
def kh_cLeaves_a11 : an_T := (11, 0, ([((2, 805, 805, 0), none), ((0, 0, 3, 1), none), ((0, (-1), 199, 1), none)], [(0, 0), (1, 1), (2, 2)], [], [], [], [], [], [510], none), [])
def kh_cLeaves_b0_0 : sg_T := (11, 0, ([((2, 805, 805, 0), none), ((0, 0, 3, 1), none), ((2, 806, 806, 1), none), ((0, 3, 3, 0), none), ((0, 2404, 2428, 8), none), ((0, (-1), 199, 1), none)], [(2, 5), (0, 0), (1, 1)], [], [(2, 4, 5)], [], [(800005, 2, 4), (1300004, 1, 3)], [], [510], some []))
def kh_cLeaves_b11_0 : sg_T := (55, 0, ([((2, 805, 805, 0), none), ((0, 0, 3, 1), none), ((0, 0, 199, 1), none), ((2, 806, 806, 1), none), ((0, 4, 4, 0), none), ((0, 2454, 4046, 8), none), ((0, 0, 0, 0), none), ((2, 806, 806, 1), none), ((0, 5, 5, 0), none), ((0, 2455, 4047, 8), none), ((0, (-1), (-1), 0), none), ((2, 806, 806, 1), none), ((0, 3, 3, 0), none), ((0, 2404, 2428, 8), none), ((0, (-1), (-1), 0), none), ((2, 806, 806, 1), none), ((0, 4, 4, 0), none), ((0, 2405, 2429, 8), none), ((0, 0, 0, 0), none)], [(0, 0), (1, 1), (2, 2)], [], [(15, 17, 18), (11, 13, 14), (7, 9, 10), (3, 5, 6)], [], [(1300017, 1, 16), (1300013, 1, 12), (1200009, 2, 8), (1200005, 2, 4)], [], [], some [(15, 17, 18), (11, 13, 14), (7, 9, 10), (3, 5, 6)]))
def kh_cLeaves_I (l : Launch) (D : va_G) (tc : Nat → ClassId) (ad : Nat → Nat) (kd : Nat → Nat × Nat) (N : Nat) (sm : Nat → Nat) (xs : List av_X) (S : fw_S) (p : Program) (e : Env) (s : State) (m : MethodId) (args : Array Value) (below : List Frame) (meth : Method) (c : Code) (sz : Nat) (k : Nat) : Prop := (∀ (α : List av_X) (lv : List (Nat × Value)) (st : List Value) (S1 : fw_S), as_in ad sm wd_fl2 xs S kh_cLeaves.2.2.2.2.2.1 α kh_cLeaves_a11.2.2.1 lv st S1 → (S1 = S ∧ nv α 2 = mck (S.1 806) (nv xs 1).toNat 3 ∧ 0 ≤ nv α 2) → 0 < k → hd_WR R_cLeaves wd_fl2 kh_cLeaves kh_cLeaves_y l D tc ad kd N sm xs S p e s m args below meth c sz 11 lv st S1 0) ∧ True
set_option maxHeartbeats 16000000 in
set_option maxRecDepth 8000 in
theorem kh_cLeaves_h11 {l : Launch} {D : va_G} {tc : Nat → ClassId} {ad : Nat → Nat} {kd : Nat → Nat × Nat} {N : Nat} {sm : Nat → Nat} {xs : List av_X} {S : fw_S} {p : Program} {e : Env} {s : State} {m : MethodId} {args : Array Value} {below : List Frame} {meth : Method} {c : Code} {sz : Nat} {lvE : List (Nat × Value)} (G : hd_C wd_ff2 wd_fl2 kh_cLeaves [kh_cC3, kh_cJ4, kh_cJ5, kh_cC4] kh_cLeaves_y l D tc ad kd N sm xs p s m args meth c sz) (H0 : as_in ad sm wd_fl2 xs S kh_cLeaves.2.2.2.2.2.1 xs (hd_0 kh_cLeaves) lvE [] S) (hpre : P_hasJob xs S) {k : Nat} (ih : kh_cLeaves_I l D tc ad kd N sm xs S p e s m args below meth c sz k) : (∀ (α : List av_X) (lv : List (Nat × Value)) (st : List Value) (S1 : fw_S), as_in ad sm wd_fl2 xs S kh_cLeaves.2.2.2.2.2.1 α kh_cLeaves_a11.2.2.1 lv st S1 → (S1 = S ∧ nv α 2 = mck (S.1 806) (nv xs 1).toNat 3 ∧ 0 ≤ nv α 2) → 0 < k + 1 → hd_WR R_cLeaves wd_fl2 kh_cLeaves kh_cLeaves_y l D tc ad kd N sm xs S p e s m args below meth c sz 11 lv st S1 0) := by
  have hx : xs.length = 2 := by rw [H0.2.1.1]; rfl
  have q510 : crewF (S.1 806) := by
    have h := H0.2.2.2.2.2.2.2.2.1 510 (by decide +kernel)
    rw [wd_fl2, if_neg (by decide)] at h
    exact h
  intro α lv st S1 H hp hk
  have bp := (en_nv (i := 2) H.2.1 rfl).2
  change (-1) ≤ nv α 2 ∧ nv α 2 ≤ 199 at bp
  replace H := as_clamp (i := 2) (lo := 0) (hi := 199) H rfl rfl (by exact hp.2.2) (by omega) (by decide)
  obtain ⟨α1, hle, Hr⟩ := as_recM (pl := []) [((806, 806), (2404, 2428, 8)), ((806, 806), (2405, 2429, 8)), ((806, 806), (2454, 4046, 8)), ((806, 806), (2455, 4047, 8))] (by decide +kernel) H
  have hf := H.2.2.2.2.2.2.2.2.2.2.1
  have hl1 : α1.length = 3 := by rw [Hr.2.1.1]; rfl
  have hl0 : α.length = 3 := by rw [H.2.1.1]; rfl
  have hxa : al_le xs α1 := H.1.trans hle
  obtain ⟨g1, -, g3, g4, -⟩ := as_fx Hr
  have g0 : (805 ≤ nv α1 0 ∧ nv α1 0 ≤ 805) ∧ (0 ≤ nv α1 1 ∧ nv α1 1 ≤ 3) ∧ (0 ≤ nv α1 2 ∧ nv α1 2 ≤ 199) ∧ True := by
    refine ⟨by have h := (en_nv (i := 0) Hr.2.1 rfl).2; exact h, by have h := (en_nv (i := 1) Hr.2.1 rfl).2; exact h, by have h := (en_nv (i := 2) Hr.2.1 rfl).2; exact h, trivial⟩
  have r0 : nv α1 0 = nv α 0 := nv_le hle (by omega)
  have r1 : nv α1 1 = nv α 1 := nv_le hle (by omega)
  have r2 : nv α1 2 = nv α 2 := nv_le hle (by omega)
  refine hd_segMR G (na := 3) (fuel := 600) (first := true) (Bs := [kh_cLeaves_b11_0]) (by decide +kernel) hl1 Hr ?_
  intro q hq β lv' st' S' H1
  simp only [List.mem_cons, List.not_mem_nil, or_false] at hq
  rcases hq with rfl
  · obtain ⟨f1, f2, f3, f4, f5⟩ := as_fx H1
    simp only [kh_cLeaves_b11_0, fx_env, fx_c, fx_ne, fx_hf, wl_S, Nat.zero_add, Nat.reduceAdd, Nat.reduceDiv, Nat.reduceMod, List.getElem?_cons_zero, List.getElem?_cons_succ, if_true, and_true, true_and] at f1 f2 f3 f4 f5
    have fe0 : nv β 0 = 805 := by omega
    have fe3 : nv β 3 = 806 := by omega
    have fe4 : nv β 4 = 4 := by omega
    have fe6 : nv β 6 = 0 := by omega
    have fe7 : nv β 7 = 806 := by omega
    have fe8 : nv β 8 = 5 := by omega
    have fe10 : nv β 10 = (-1) := by omega
    have fe11 : nv β 11 = 806 := by omega
    have fe12 : nv β 12 = 3 := by omega
    have fe14 : nv β 14 = (-1) := by omega
    have fe15 : nv β 15 = 806 := by omega
    have fe16 : nv β 16 = 4 := by omega
    have fe18 : nv β 18 = 0 := by omega
    try simp only [fe0, fe3, fe4, fe6, fe7, fe8, fe10, fe11, fe12, fe14, fe15, fe16, fe18, Int.reduceToNat] at f2 f3 f4 f5
    have s0 : nv β 0 = nv α1 0 := nv_le H1.1 (by omega)
    have s1 : nv β 1 = nv α1 1 := nv_le H1.1 (by omega)
    have s2 : nv β 2 = nv α1 2 := nv_le H1.1 (by omega)
    obtain ⟨c0, c1, c2, c3⟩ := f2
    have d0 := fl1_b (by decide) (fl2_b (by decide) c0)
    simp only [wd_fl] at d0
    have d1 := fl1_b (by decide) (fl2_b (by decide) c1)
    simp only [wd_fl] at d1
    have d2 := fl1_b (by decide) (fl2_b (by decide) c2)
    simp only [wd_fl] at d2
    have d3 := fl1_b (by decide) (fl2_b (by decide) c3)
    simp only [wd_fl] at d3
    have hrow : S'.1 806 = (rw_u (rw_u (rw_u (rw_u (S1.1 806) (nv β 5).toNat (0)) (nv β 9).toNat ((-1))) (nv β 13).toNat ((-1))) (nv β 17).toNat (0)) := by rw [f5]; simp only [row_806]
    have hne : ∀ i : Nat, i ≠ (nv β 17).toNat → i ≠ (nv β 13).toNat → i ≠ (nv β 9).toNat → i ≠ (nv β 5).toNat → S'.1 806 i = S1.1 806 i := fun i n0 n1 n2 n3 => by rw [hrow, rw_u_ne n0, rw_u_ne n1, rw_u_ne n2, rw_u_ne n3]
    have v0 : (S'.1 806 (nv β 17).toNat).toInt = 0 := by rw [hrow, rw_u_eq (by omega)]
    have v1 : (S'.1 806 (nv β 13).toNat).toInt = (-1) := by rw [hrow, rw_u_ne (by omega), rw_u_eq (by omega)]
    have v2 : (S'.1 806 (nv β 9).toNat).toInt = (-1) := by rw [hrow, rw_u_ne (by omega), rw_u_ne (by omega), rw_u_eq (by omega)]
    have v3 : (S'.1 806 (nv β 5).toNat).toInt = 0 := by rw [hrow, rw_u_ne (by omega), rw_u_ne (by omega), rw_u_ne (by omega), rw_u_eq (by omega)]
    have z1 : nv α 1 = nv xs 1 := nv_le H.1 (by omega)
    obtain ⟨p1, p2, p3⟩ := hp
    have e1 : S1.1 806 = S.1 806 := by rw [p1]
    have h4 := mjk_eq (j := (nv α 2).toNat) (w := 4) v3 (by omega)
    have hg : crewF (S'.1 806) := by
      refine crew_end (f := S.1 806) (k := (nv xs 1).toNat) (j := (nv α 2).toNat) q510 ?_ ?_ (by omega) (by omega) (fun k' hk' hn => ?_) (fun j' w hj' hw hn => ?_) (by have := hpre.1; omega) (by omega) ?_ (by omega)
      · rw [hne _ (by omega) (by omega) (by omega) (by omega), e1]
      · rw [hne _ (by omega) (by omega) (by omega) (by omega), e1]
      · unfold mck; rw [hne _ (by omega) (by omega) (by omega) (by omega), e1]
      · unfold mjk; rw [hne _ (by omega) (by omega) (by omega) (by omega), e1]
      · exact mck_eq (k := (nv xs 1).toNat) v1 (by omega)
    exact hd_retVR G (by decide +kernel) (as_fl_in (f := [510]) (as_backM H1 (by decide +kernel) hxa hf) (fun g hg' => by
      rcases List.mem_singleton.mp hg' with rfl
      rw [wd_fl2, if_neg (by decide)]
      exact hg)) (by decide +kernel) (by decide) (by show mjk (S'.1 806) (mck (S.1 806) (nv xs 1).toNat 3).toNat 4 = 0; rw [← p2]; exact h4)
set_option maxHeartbeats 16000000 in
set_option maxRecDepth 8000 in
theorem kh_cLeaves_okP : ct_okPR wd_fl2 kh_cLeaves P_hasJob R_cLeaves := ct_handPR (P := P_hasJob) (R := R_cLeaves) (ff := wd_ff2) (y := kh_cLeaves_y) (Cs := [kh_cC3, kh_cJ4, kh_cJ5, kh_cC4]) wd_fl2_ok rfl (List.forall_mem_cons.mpr ⟨kh_cC3_ok, (List.forall_mem_cons.mpr ⟨kh_cJ4_ok, (List.forall_mem_cons.mpr ⟨kh_cJ5_ok, (List.forall_mem_cons.mpr ⟨kh_cC4_ok, (List.forall_mem_nil _)⟩)⟩)⟩)⟩) (by decide +kernel) (fun l D tc ad kd N sm xs S p e s m args below meth c sz lv G H0 hpre => by
  have hx : xs.length = 2 := by rw [H0.2.1.1]; rfl
  have q510 : crewF (S.1 806) := by
    have h := H0.2.2.2.2.2.2.2.2.1 510 (by decide +kernel)
    rw [wd_fl2, if_neg (by decide)] at h
    exact h
  have hP : ∀ (k : Nat), kh_cLeaves_I l D tc ad kd N sm xs S p e s m args below meth c sz k := by
    intro k
    induction k with
    | zero => exact ⟨fun _ _ _ _ _ _ h => absurd h (Nat.not_lt_zero _), trivial⟩
    | succ k ih => exact ⟨kh_cLeaves_h11 G H0 hpre ih, trivial⟩
  obtain ⟨α1, hle, Hr⟩ := as_recM (pl := []) [] (by decide +kernel) H0
  have hf := H0.2.2.2.2.2.2.2.2.2.2.1
  have hl1 : α1.length = 2 := by rw [Hr.2.1.1]; rfl
  have hl0 : xs.length = 2 := by rw [H0.2.1.1]; rfl
  have hxa : al_le xs α1 := H0.1.trans hle
  obtain ⟨g1, -, g3, g4, -⟩ := as_fx Hr
  have g0 : (805 ≤ nv α1 0 ∧ nv α1 0 ≤ 805) ∧ (0 ≤ nv α1 1 ∧ nv α1 1 ≤ 3) ∧ True := by
    refine ⟨by have h := (en_nv (i := 0) Hr.2.1 rfl).2; exact h, by have h := (en_nv (i := 1) Hr.2.1 rfl).2; exact h, trivial⟩
  have r0 : nv α1 0 = nv xs 0 := nv_le hle (by omega)
  have r1 : nv α1 1 = nv xs 1 := nv_le hle (by omega)
  refine hd_segMR G (na := 2) (fuel := 600) (first := true) (Bs := [kh_cLeaves_b0_0]) (by decide +kernel) hl1 Hr ?_
  intro q hq β lv' st' S' H1
  simp only [List.mem_cons, List.not_mem_nil, or_false] at hq
  rcases hq with rfl
  · obtain ⟨f1, f2, f3, f4, f5⟩ := as_fx H1
    simp only [kh_cLeaves_b0_0, fx_env, fx_c, fx_ne, fx_hf, wl_S, Nat.zero_add, Nat.reduceAdd, Nat.reduceDiv, Nat.reduceMod, List.getElem?_cons_zero, List.getElem?_cons_succ, if_true, and_true, true_and] at f1 f2 f3 f4 f5
    have fe0 : nv β 0 = 805 := by omega
    have fe2 : nv β 2 = 806 := by omega
    have fe3 : nv β 3 = 3 := by omega
    try simp only [fe0, fe2, fe3, Int.reduceToNat] at f2 f3 f4 f5
    have s0 : nv β 0 = nv α1 0 := nv_le H1.1 (by omega)
    have s1 : nv β 1 = nv α1 1 := nv_le H1.1 (by omega)
    obtain ⟨c0, c1⟩ := f2
    obtain ⟨α', Ha, hm⟩ := hd_gpM (q := kh_cLeaves_a11) (n := 0) (by decide +kernel) hx H1 (by decide +kernel) hxa hf
    have hfr := H1.2.2.2.2.2.2.2.2.2.2.1
    have m0 : nv α' 0 = nv β 0 := hm 0 0 rfl
    have m1 : nv α' 1 = nv β 1 := hm 1 1 rfl
    have m2 : nv α' 2 = nv β 5 := hm 2 5 rfl
    subst S'
    have o0 := old_0 c0 rfl
    have d1 := fl1_b (by decide) (fl2_b (by decide) c1)
    simp only [wd_fl] at d1
    have hm := mck_eq (k := (nv xs 1).toNat) o0 (by omega)
    refine (hP _).1 _ _ _ _ Ha ?_ (Nat.lt_succ_self _)
    · rw [m2]
      exact ⟨rfl, hm.symm, by rw [← hm]; exact hpre.2⟩)
abbrev kh_cEnds_y : mt_T := (⟨"UtilityWorksModel", "cEnds", "(I)V"⟩, prog_14_method_290_code, 2, none, 12, 1, 1, 33190, 33189, 8002, 21014)
def kh_cEnds : ct_T := (414, [(2, 805, 805, 0), (0, 0, 3, 1)], [], [510], [(0, (0, 0, 0, 0), [(2, 805, 805, 0), (0, 0, 3, 1)], [], ([510], []))], [((806, 806), (2404, 2428, 8)), ((806, 806), (2405, 2429, 8)), ((806, 806), (2407, 2431, 8)), ((806, 806), (2454, 4046, 8))], 1, 21, 0)
def kh_cEnds_a15 : an_T := (15, 0, ([((2, 805, 805, 0), none), ((0, 0, 3, 1), none), ((0, 4, 4, 0), none), ((0, (-1), 199, 1), none), ((2, 806, 806, 1), none)], [(0, 0), (1, 1)], [2, 3, 4], [], [], [], [], [510], none), [])
def kh_cEnds_b0_0 : sg_T := (15, 0, ([((2, 805, 805, 0), none), ((0, 0, 3, 1), none), ((2, 806, 806, 1), none), ((2, 806, 806, 1), none), ((0, 3, 3, 0), none), ((0, 2404, 2428, 8), none), ((0, (-1), 199, 1), none), ((0, 4, 4, 0), none)], [(0, 0), (1, 1)], [7, 6, 2], [(3, 5, 6)], [], [(800006, 3, 5), (1300005, 1, 4)], [], [510], some []))
def kh_cEnds_b15_0 : sg_T := (57, 0, ([((2, 805, 805, 0), none), ((0, 0, 3, 1), none), ((0, 4, 4, 0), none), ((0, 0, 199, 1), none), ((2, 806, 806, 1), none), ((0, 2454, 4046, 8), none), ((0, 2, 2, 0), none), ((2, 806, 806, 1), none), ((0, 3, 3, 0), none), ((0, 2404, 2428, 8), none), ((0, (-1), (-1), 0), none), ((2, 806, 806, 1), none), ((0, 4, 4, 0), none), ((0, 2405, 2429, 8), none), ((0, 0, 0, 0), none), ((2, 806, 806, 1), none), ((0, 6, 6, 0), none), ((0, 2407, 2431, 8), none), ((0, (-2147483648), 2147483647, 1), none), ((0, 1, 1, 0), none), ((0, (-2147483648), 2147483647, 1), none)], [(0, 0), (1, 1)], [], [(15, 17, 20), (11, 13, 14), (7, 9, 10), (4, 5, 6)], [], [(900000020, 18, 19), (1300017, 1, 16), (1300013, 1, 12), (1300009, 1, 8), (1200005, 3, 2)], [], [], some [(15, 17, 20), (11, 13, 14), (7, 9, 10), (4, 5, 6)]))
def kh_cEnds_I (l : Launch) (D : va_G) (tc : Nat → ClassId) (ad : Nat → Nat) (kd : Nat → Nat × Nat) (N : Nat) (sm : Nat → Nat) (xs : List av_X) (S : fw_S) (p : Program) (e : Env) (s : State) (m : MethodId) (args : Array Value) (below : List Frame) (meth : Method) (c : Code) (sz : Nat) (k : Nat) : Prop := (∀ (α : List av_X) (lv : List (Nat × Value)) (st : List Value) (S1 : fw_S), as_in ad sm wd_fl2 xs S kh_cEnds.2.2.2.2.2.1 α kh_cEnds_a15.2.2.1 lv st S1 → (S1 = S ∧ nv α 3 = mck (S.1 806) (nv xs 1).toNat 3 ∧ 0 ≤ nv α 3) → 0 < k → hd_WR R_any wd_fl2 kh_cEnds kh_cEnds_y l D tc ad kd N sm xs S p e s m args below meth c sz 15 lv st S1 0) ∧ True
set_option maxHeartbeats 16000000 in
set_option maxRecDepth 8000 in
theorem kh_cEnds_h15 {l : Launch} {D : va_G} {tc : Nat → ClassId} {ad : Nat → Nat} {kd : Nat → Nat × Nat} {N : Nat} {sm : Nat → Nat} {xs : List av_X} {S : fw_S} {p : Program} {e : Env} {s : State} {m : MethodId} {args : Array Value} {below : List Frame} {meth : Method} {c : Code} {sz : Nat} {lvE : List (Nat × Value)} (G : hd_C wd_ff2 wd_fl2 kh_cEnds [kh_cC3, kh_cJ4, kh_cC4, kh_cC6] kh_cEnds_y l D tc ad kd N sm xs p s m args meth c sz) (H0 : as_in ad sm wd_fl2 xs S kh_cEnds.2.2.2.2.2.1 xs (hd_0 kh_cEnds) lvE [] S) (hpre : P_hasJob xs S) {k : Nat} (ih : kh_cEnds_I l D tc ad kd N sm xs S p e s m args below meth c sz k) : (∀ (α : List av_X) (lv : List (Nat × Value)) (st : List Value) (S1 : fw_S), as_in ad sm wd_fl2 xs S kh_cEnds.2.2.2.2.2.1 α kh_cEnds_a15.2.2.1 lv st S1 → (S1 = S ∧ nv α 3 = mck (S.1 806) (nv xs 1).toNat 3 ∧ 0 ≤ nv α 3) → 0 < k + 1 → hd_WR R_any wd_fl2 kh_cEnds kh_cEnds_y l D tc ad kd N sm xs S p e s m args below meth c sz 15 lv st S1 0) := by
  have hx : xs.length = 2 := by rw [H0.2.1.1]; rfl
  have q510 : crewF (S.1 806) := by
    have h := H0.2.2.2.2.2.2.2.2.1 510 (by decide +kernel)
    rw [wd_fl2, if_neg (by decide)] at h
    exact h
  intro α lv st S1 H hp hk
  have bp := (en_nv (i := 3) H.2.1 rfl).2
  change (-1) ≤ nv α 3 ∧ nv α 3 ≤ 199 at bp
  replace H := as_clamp (i := 3) (lo := 0) (hi := 199) H rfl rfl (by exact hp.2.2) (by omega) (by decide)
  obtain ⟨α1, hle, Hr⟩ := as_recM (pl := []) [((806, 806), (2404, 2428, 8)), ((806, 806), (2405, 2429, 8)), ((806, 806), (2407, 2431, 8)), ((806, 806), (2454, 4046, 8))] (by decide +kernel) H
  have hf := H.2.2.2.2.2.2.2.2.2.2.1
  have hl1 : α1.length = 5 := by rw [Hr.2.1.1]; rfl
  have hl0 : α.length = 5 := by rw [H.2.1.1]; rfl
  have hxa : al_le xs α1 := H.1.trans hle
  obtain ⟨g1, -, g3, g4, -⟩ := as_fx Hr
  have g0 : (805 ≤ nv α1 0 ∧ nv α1 0 ≤ 805) ∧ (0 ≤ nv α1 1 ∧ nv α1 1 ≤ 3) ∧ (4 ≤ nv α1 2 ∧ nv α1 2 ≤ 4) ∧ (0 ≤ nv α1 3 ∧ nv α1 3 ≤ 199) ∧ (806 ≤ nv α1 4 ∧ nv α1 4 ≤ 806) ∧ True := by
    refine ⟨by have h := (en_nv (i := 0) Hr.2.1 rfl).2; exact h, by have h := (en_nv (i := 1) Hr.2.1 rfl).2; exact h, by have h := (en_nv (i := 2) Hr.2.1 rfl).2; exact h, by have h := (en_nv (i := 3) Hr.2.1 rfl).2; exact h, by have h := (en_nv (i := 4) Hr.2.1 rfl).2; exact h, trivial⟩
  have r0 : nv α1 0 = nv α 0 := nv_le hle (by omega)
  have r1 : nv α1 1 = nv α 1 := nv_le hle (by omega)
  have r2 : nv α1 2 = nv α 2 := nv_le hle (by omega)
  have r3 : nv α1 3 = nv α 3 := nv_le hle (by omega)
  have r4 : nv α1 4 = nv α 4 := nv_le hle (by omega)
  refine hd_segMR G (na := 5) (fuel := 600) (first := true) (Bs := [kh_cEnds_b15_0]) (by decide +kernel) hl1 Hr ?_
  intro q hq β lv' st' S' H1
  simp only [List.mem_cons, List.not_mem_nil, or_false] at hq
  rcases hq with rfl
  · obtain ⟨f1, f2, f3, f4, f5⟩ := as_fx H1
    simp only [kh_cEnds_b15_0, fx_env, fx_c, fx_ne, fx_hf, wl_S, Nat.zero_add, Nat.reduceAdd, Nat.reduceDiv, Nat.reduceMod, List.getElem?_cons_zero, List.getElem?_cons_succ, if_true, and_true, true_and] at f1 f2 f3 f4 f5
    have fe0 : nv β 0 = 805 := by omega
    have fe2 : nv β 2 = 4 := by omega
    have fe4 : nv β 4 = 806 := by omega
    have fe6 : nv β 6 = 2 := by omega
    have fe7 : nv β 7 = 806 := by omega
    have fe8 : nv β 8 = 3 := by omega
    have fe10 : nv β 10 = (-1) := by omega
    have fe11 : nv β 11 = 806 := by omega
    have fe12 : nv β 12 = 4 := by omega
    have fe14 : nv β 14 = 0 := by omega
    have fe15 : nv β 15 = 806 := by omega
    have fe16 : nv β 16 = 6 := by omega
    have fe19 : nv β 19 = 1 := by omega
    try simp only [fe0, fe2, fe4, fe6, fe7, fe8, fe10, fe11, fe12, fe14, fe15, fe16, fe19, Int.reduceToNat] at f2 f3 f4 f5
    have s0 : nv β 0 = nv α1 0 := nv_le H1.1 (by omega)
    have s1 : nv β 1 = nv α1 1 := nv_le H1.1 (by omega)
    have s2 : nv β 2 = nv α1 2 := nv_le H1.1 (by omega)
    have s3 : nv β 3 = nv α1 3 := nv_le H1.1 (by omega)
    have s4 : nv β 4 = nv α1 4 := nv_le H1.1 (by omega)
    obtain ⟨c0, c1, c2, c3, c4⟩ := f2
    have d1 := fl1_b (by decide) (fl2_b (by decide) c1)
    simp only [wd_fl] at d1
    have d2 := fl1_b (by decide) (fl2_b (by decide) c2)
    simp only [wd_fl] at d2
    have d3 := fl1_b (by decide) (fl2_b (by decide) c3)
    simp only [wd_fl] at d3
    have d4 := fl1_b (by decide) (fl2_b (by decide) c4)
    simp only [wd_fl] at d4
    have hrow : S'.1 806 = (rw_u (rw_u (rw_u (rw_u (S1.1 806) (nv β 5).toNat (2)) (nv β 9).toNat ((-1))) (nv β 13).toNat (0)) (nv β 17).toNat (nv β 20)) := by rw [f5]; simp only [row_806]
    have hne : ∀ i : Nat, i ≠ (nv β 17).toNat → i ≠ (nv β 13).toNat → i ≠ (nv β 9).toNat → i ≠ (nv β 5).toNat → S'.1 806 i = S1.1 806 i := fun i n0 n1 n2 n3 => by rw [hrow, rw_u_ne n0, rw_u_ne n1, rw_u_ne n2, rw_u_ne n3]
    have v0 : (S'.1 806 (nv β 17).toNat).toInt = nv β 20 := by rw [hrow, rw_u_eq (by omega)]
    have v1 : (S'.1 806 (nv β 13).toNat).toInt = 0 := by rw [hrow, rw_u_ne (by omega), rw_u_eq (by omega)]
    have v2 : (S'.1 806 (nv β 9).toNat).toInt = (-1) := by rw [hrow, rw_u_ne (by omega), rw_u_ne (by omega), rw_u_eq (by omega)]
    have v3 : (S'.1 806 (nv β 5).toNat).toInt = 2 := by rw [hrow, rw_u_ne (by omega), rw_u_ne (by omega), rw_u_ne (by omega), rw_u_eq (by omega)]
    have z1 : nv α 1 = nv xs 1 := nv_le H.1 (by omega)
    obtain ⟨p1, p2, p3⟩ := hp
    have e1 : S1.1 806 = S.1 806 := by rw [p1]
    have h4 := mjk_eq (j := (nv α 3).toNat) (w := 4) v3 (by omega)
    have hg : crewF (S'.1 806) := by
      refine crew_end (f := S.1 806) (k := (nv xs 1).toNat) (j := (nv α 3).toNat) q510 ?_ ?_ (by omega) (by omega) (fun k' hk' hn => ?_) (fun j' w hj' hw hn => ?_) (by have := hpre.1; omega) (by omega) ?_ (by omega)
      · rw [hne _ (by omega) (by omega) (by omega) (by omega), e1]
      · rw [hne _ (by omega) (by omega) (by omega) (by omega), e1]
      · unfold mck; rw [hne _ (by omega) (by omega) (by omega) (by omega), e1]
      · unfold mjk; rw [hne _ (by omega) (by omega) (by omega) (by omega), e1]
      · exact mck_eq (k := (nv xs 1).toNat) v2 (by omega)
    have h6 : True := trivial
    exact hd_retVR G (by decide +kernel) (as_fl_in (f := [510]) (as_backM H1 (by decide +kernel) hxa hf) (fun g hg' => by
      rcases List.mem_singleton.mp hg' with rfl
      rw [wd_fl2, if_neg (by decide)]
      exact hg)) (by decide +kernel) (by decide) trivial
set_option maxHeartbeats 16000000 in
set_option maxRecDepth 8000 in
theorem kh_cEnds_okP : ct_okPR wd_fl2 kh_cEnds P_hasJob R_any := ct_handPR (P := P_hasJob) (R := R_any) (ff := wd_ff2) (y := kh_cEnds_y) (Cs := [kh_cC3, kh_cJ4, kh_cC4, kh_cC6]) wd_fl2_ok rfl (List.forall_mem_cons.mpr ⟨kh_cC3_ok, (List.forall_mem_cons.mpr ⟨kh_cJ4_ok, (List.forall_mem_cons.mpr ⟨kh_cC4_ok, (List.forall_mem_cons.mpr ⟨kh_cC6_ok, (List.forall_mem_nil _)⟩)⟩)⟩)⟩) (by decide +kernel) (fun l D tc ad kd N sm xs S p e s m args below meth c sz lv G H0 hpre => by
  have hx : xs.length = 2 := by rw [H0.2.1.1]; rfl
  have q510 : crewF (S.1 806) := by
    have h := H0.2.2.2.2.2.2.2.2.1 510 (by decide +kernel)
    rw [wd_fl2, if_neg (by decide)] at h
    exact h
  have hP : ∀ (k : Nat), kh_cEnds_I l D tc ad kd N sm xs S p e s m args below meth c sz k := by
    intro k
    induction k with
    | zero => exact ⟨fun _ _ _ _ _ _ h => absurd h (Nat.not_lt_zero _), trivial⟩
    | succ k ih => exact ⟨kh_cEnds_h15 G H0 hpre ih, trivial⟩
  obtain ⟨α1, hle, Hr⟩ := as_recM (pl := []) [] (by decide +kernel) H0
  have hf := H0.2.2.2.2.2.2.2.2.2.2.1
  have hl1 : α1.length = 2 := by rw [Hr.2.1.1]; rfl
  have hl0 : xs.length = 2 := by rw [H0.2.1.1]; rfl
  have hxa : al_le xs α1 := H0.1.trans hle
  obtain ⟨g1, -, g3, g4, -⟩ := as_fx Hr
  have g0 : (805 ≤ nv α1 0 ∧ nv α1 0 ≤ 805) ∧ (0 ≤ nv α1 1 ∧ nv α1 1 ≤ 3) ∧ True := by
    refine ⟨by have h := (en_nv (i := 0) Hr.2.1 rfl).2; exact h, by have h := (en_nv (i := 1) Hr.2.1 rfl).2; exact h, trivial⟩
  have r0 : nv α1 0 = nv xs 0 := nv_le hle (by omega)
  have r1 : nv α1 1 = nv xs 1 := nv_le hle (by omega)
  refine hd_segMR G (na := 2) (fuel := 600) (first := true) (Bs := [kh_cEnds_b0_0]) (by decide +kernel) hl1 Hr ?_
  intro q hq β lv' st' S' H1
  simp only [List.mem_cons, List.not_mem_nil, or_false] at hq
  rcases hq with rfl
  · obtain ⟨f1, f2, f3, f4, f5⟩ := as_fx H1
    simp only [kh_cEnds_b0_0, fx_env, fx_c, fx_ne, fx_hf, wl_S, Nat.zero_add, Nat.reduceAdd, Nat.reduceDiv, Nat.reduceMod, List.getElem?_cons_zero, List.getElem?_cons_succ, if_true, and_true, true_and] at f1 f2 f3 f4 f5
    have fe0 : nv β 0 = 805 := by omega
    have fe2 : nv β 2 = 806 := by omega
    have fe3 : nv β 3 = 806 := by omega
    have fe4 : nv β 4 = 3 := by omega
    have fe7 : nv β 7 = 4 := by omega
    try simp only [fe0, fe2, fe3, fe4, fe7, Int.reduceToNat] at f2 f3 f4 f5
    have s0 : nv β 0 = nv α1 0 := nv_le H1.1 (by omega)
    have s1 : nv β 1 = nv α1 1 := nv_le H1.1 (by omega)
    obtain ⟨c0, c1⟩ := f2
    obtain ⟨α', Ha, hm⟩ := hd_gpM (q := kh_cEnds_a15) (n := 0) (by decide +kernel) hx H1 (by decide +kernel) hxa hf
    have hfr := H1.2.2.2.2.2.2.2.2.2.2.1
    have m0 : nv α' 0 = nv β 0 := hm 0 0 rfl
    have m1 : nv α' 1 = nv β 1 := hm 1 1 rfl
    have m2 : nv α' 2 = nv β 7 := hm 2 7 rfl
    have m3 : nv α' 3 = nv β 6 := hm 3 6 rfl
    have m4 : nv α' 4 = nv β 2 := hm 4 2 rfl
    subst S'
    have o0 := old_0 c0 rfl
    have d1 := fl1_b (by decide) (fl2_b (by decide) c1)
    simp only [wd_fl] at d1
    have hm := mck_eq (k := (nv xs 1).toNat) o0 (by omega)
    refine (hP _).1 _ _ _ _ Ha ?_ (Nat.lt_succ_self _)
    · rw [m3]
      exact ⟨rfl, hm.symm, by rw [← hm]; exact hpre.2⟩)
abbrev kh_cTakesJob_y : mt_T := (⟨"UtilityWorksModel", "cTakesJob", "(I)V"⟩, prog_14_method_285_code, 3, none, 12, 1, 1, 33120, 33119, 7002, 21014)
def kh_cTakesJob : ct_T := (396, [(2, 805, 805, 0), (0, 0, 3, 1)], [], [510], [(0, (0, 0, 0, 0), [(2, 805, 805, 0), (0, 0, 3, 1)], [], ([510], []))], [((806, 806), (2404, 2428, 8)), ((806, 806), (2405, 2429, 8)), ((806, 806), (2454, 4046, 8)), ((806, 806), (2455, 4047, 8)), ((814, 814), (0, 11, 1))], 7, 158, 0)
def kh_cTakesJob_a2 : an_T := (2, 0, ([((2, 805, 805, 0), none), ((0, 0, 3, 1), none)], [(0, 0), (1, 1)], [1, 0], [], [], [], [], [510], none), [])
def kh_cTakesJob_a5 : an_T := (5, 0, ([((2, 805, 805, 0), none), ((0, 0, 3, 1), none), ((0, (-1), 199, 1), none)], [(0, 0), (1, 1)], [2], [], [], [], [], [510], none), [])
def kh_cTakesJob_b0_0 : sg_T := (2, 0, ([((2, 805, 805, 0), none), ((0, 0, 3, 1), none)], [(0, 0), (1, 1)], [1, 0], [], [], [], [], [510], some []))
def kh_cTakesJob_b2_0 : sg_T := (5, 0, ([((2, 805, 805, 0), none), ((0, 0, 3, 1), none), ((0, (-1), 199, 1), none)], [(0, 0), (1, 1)], [2], [], [], [], [], [510], none))
def kh_cTakesJob_b5_0 : sg_T := (55, 0, ([((2, 805, 805, 0), none), ((0, 0, 3, 1), none), ((0, (-1), (-1), 1), none), ((0, (-1), (-1), 0), none)], [(2, 2), (0, 0), (1, 1)], [], [], [], [(300000, 2, 3)], [], [510], some []))
def kh_cTakesJob_b5_1 : sg_T := (55, 0, ([((2, 805, 805, 0), none), ((0, 0, 3, 1), none), ((0, 0, 199, 1), none), ((0, (-1), (-1), 0), none), ((2, 806, 806, 1), none), ((0, 4, 4, 0), none), ((0, 2454, 4046, 8), none), ((0, 1, 1, 0), none), ((2, 806, 806, 1), none), ((0, 5, 5, 0), none), ((0, 2455, 4047, 8), none), ((2, 806, 806, 1), none), ((0, 3, 3, 0), none), ((0, 2404, 2428, 8), none), ((2, 806, 806, 1), none), ((0, 4, 4, 0), none), ((0, 2405, 2429, 8), none), ((0, 0, 0, 0), none)], [(2, 2), (0, 0), (1, 1)], [], [(14, 16, 17), (11, 13, 2), (8, 10, 1), (4, 6, 7)], [(2, (-1))], [(1300016, 1, 15), (1300013, 1, 12), (1200010, 2, 9), (1200006, 2, 5), (400000, 2, 3)], [], [], some [(14, 16, 17), (11, 13, 2), (8, 10, 1), (4, 6, 7)]))
def kh_cTakesJob_I (l : Launch) (D : va_G) (tc : Nat → ClassId) (ad : Nat → Nat) (kd : Nat → Nat × Nat) (N : Nat) (sm : Nat → Nat) (xs : List av_X) (S : fw_S) (p : Program) (e : Env) (s : State) (m : MethodId) (args : Array Value) (below : List Frame) (meth : Method) (c : Code) (sz : Nat) (k : Nat) : Prop := (∀ (α : List av_X) (lv : List (Nat × Value)) (st : List Value) (S1 : fw_S), as_in ad sm wd_fl2 xs S kh_cTakesJob.2.2.2.2.2.1 α kh_cTakesJob_a2.2.2.1 lv st S1 → (S1 = S) → 5 < k → hd_WR R_any wd_fl2 kh_cTakesJob kh_cTakesJob_y l D tc ad kd N sm xs S p e s m args below meth c sz 2 lv st S1 0) ∧ (∀ (α : List av_X) (lv : List (Nat × Value)) (st : List Value) (S1 : fw_S), as_in ad sm wd_fl2 xs S kh_cTakesJob.2.2.2.2.2.1 α kh_cTakesJob_a5.2.2.1 lv st S1 → (S1.1 806 = S.1 806 ∧ (nv α 2 = -1 ∨ (0 ≤ nv α 2 ∧ nv α 2 < (S.1 806 2440).toInt ∧ mjk (S.1 806) (nv α 2).toNat 4 = 0))) → 0 < k → hd_WR R_any wd_fl2 kh_cTakesJob kh_cTakesJob_y l D tc ad kd N sm xs S p e s m args below meth c sz 5 lv st S1 0) ∧ True
set_option maxHeartbeats 16000000 in
set_option maxRecDepth 8000 in
theorem kh_cTakesJob_h2 {l : Launch} {D : va_G} {tc : Nat → ClassId} {ad : Nat → Nat} {kd : Nat → Nat × Nat} {N : Nat} {sm : Nat → Nat} {xs : List av_X} {S : fw_S} {p : Program} {e : Env} {s : State} {m : MethodId} {args : Array Value} {below : List Frame} {meth : Method} {c : Code} {sz : Nat} {lvE : List (Nat × Value)} (G : hd_C wd_ff2 wd_fl2 kh_cTakesJob [kh_cBest, kh_cJ4, kh_cJ5, kh_cC3, kh_cC4] kh_cTakesJob_y l D tc ad kd N sm xs p s m args meth c sz) (H0 : as_in ad sm wd_fl2 xs S kh_cTakesJob.2.2.2.2.2.1 xs (hd_0 kh_cTakesJob) lvE [] S) (hpre : P_noJob xs S) {k : Nat} (ih : kh_cTakesJob_I l D tc ad kd N sm xs S p e s m args below meth c sz k) : (∀ (α : List av_X) (lv : List (Nat × Value)) (st : List Value) (S1 : fw_S), as_in ad sm wd_fl2 xs S kh_cTakesJob.2.2.2.2.2.1 α kh_cTakesJob_a2.2.2.1 lv st S1 → (S1 = S) → 5 < k + 1 → hd_WR R_any wd_fl2 kh_cTakesJob kh_cTakesJob_y l D tc ad kd N sm xs S p e s m args below meth c sz 2 lv st S1 0) := by
  have hx : xs.length = 2 := by rw [H0.2.1.1]; rfl
  have q510 : crewF (S.1 806) := by
    have h := H0.2.2.2.2.2.2.2.2.1 510 (by decide +kernel)
    rw [wd_fl2, if_neg (by decide)] at h
    exact h
  intro α lv st S1 H hp hk
  obtain ⟨α1, hle, Hr⟩ := as_recM (pl := []) [((814, 814), (0, 11, 1))] (by decide +kernel) H
  have hf := H.2.2.2.2.2.2.2.2.2.2.1
  have hl1 : α1.length = 2 := by rw [Hr.2.1.1]; rfl
  have hl0 : α.length = 2 := by rw [H.2.1.1]; rfl
  have hxa : al_le xs α1 := H.1.trans hle
  obtain ⟨g1, -, g3, g4, -⟩ := as_fx Hr
  have g0 : (805 ≤ nv α1 0 ∧ nv α1 0 ≤ 805) ∧ (0 ≤ nv α1 1 ∧ nv α1 1 ≤ 3) ∧ True := by
    refine ⟨by have h := (en_nv (i := 0) Hr.2.1 rfl).2; exact h, by have h := (en_nv (i := 1) Hr.2.1 rfl).2; exact h, trivial⟩
  have r0 : nv α1 0 = nv α 0 := nv_le hle (by omega)
  have r1 : nv α1 1 = nv α 1 := nv_le hle (by omega)
  refine hd_callRR (Rr := R_cBest) (Rs := [kh_cBest]) (idx := 857) G (List.forall_mem_cons.mpr ⟨kh_cBest_okR, List.forall_mem_nil _⟩) (na := 2) (Bs := [kh_cTakesJob_b2_0]) (by decide +kernel) (by decide +kernel) hl1 Hr ?_
  intro q hq β lv' st' S' H1 hRx
  simp only [List.mem_cons, List.not_mem_nil, or_false] at hq
  rcases hq with rfl
  · obtain ⟨f1, f2, f3, f4, f5⟩ := as_fx H1
    simp only [kh_cTakesJob_b2_0, fx_env, fx_c, fx_ne, fx_hf, wl_S, Nat.zero_add, Nat.reduceAdd, Nat.reduceDiv, Nat.reduceMod, List.getElem?_cons_zero, List.getElem?_cons_succ, if_true, and_true, true_and] at f1 f2 f3 f4 f5
    have fe0 : nv β 0 = 805 := by omega
    try simp only [fe0, Int.reduceToNat] at f2 f3 f4 f5
    have s0 : nv β 0 = nv α1 0 := nv_le H1.1 (by omega)
    have s1 : nv β 1 = nv α1 1 := nv_le H1.1 (by omega)
    obtain ⟨α', Ha, hm⟩ := hd_gpM (q := kh_cTakesJob_a5) (n := 0) (by decide +kernel) hx H1 (by decide +kernel) hxa hf
    have hfr := H1.2.2.2.2.2.2.2.2.2.2.1
    have m0 : nv α' 0 = nv β 0 := hm 0 0 rfl
    have m1 : nv α' 1 = nv β 1 := hm 1 1 rfl
    have m2 : nv α' 2 = nv β 2 := hm 2 2 rfl
    obtain ⟨Cc, hCc, ys, rr, hnm, hR, rest, hre⟩ := hRx
    rcases List.mem_singleton.mp hCc with rfl
    obtain ⟨v, v1, v2⟩ := hR
    have hv := hd_rv H1 (i := 2) rfl rfl rfl hre (Sum.inl.inj v1)
    have e6 : S'.1 806 = S1.1 806 := fr_row hfr 806 (by decide +kernel)
    have e1 : S1 = S := hp
    rw [hv, e1] at v2
    refine ih.2.1 _ _ _ _ Ha ?_ ?_
    · rw [m2]
      exact ⟨e6.trans (by rw [e1]), v2⟩
    · omega
set_option maxHeartbeats 16000000 in
set_option maxRecDepth 8000 in
theorem kh_cTakesJob_h5 {l : Launch} {D : va_G} {tc : Nat → ClassId} {ad : Nat → Nat} {kd : Nat → Nat × Nat} {N : Nat} {sm : Nat → Nat} {xs : List av_X} {S : fw_S} {p : Program} {e : Env} {s : State} {m : MethodId} {args : Array Value} {below : List Frame} {meth : Method} {c : Code} {sz : Nat} {lvE : List (Nat × Value)} (G : hd_C wd_ff2 wd_fl2 kh_cTakesJob [kh_cBest, kh_cJ4, kh_cJ5, kh_cC3, kh_cC4] kh_cTakesJob_y l D tc ad kd N sm xs p s m args meth c sz) (H0 : as_in ad sm wd_fl2 xs S kh_cTakesJob.2.2.2.2.2.1 xs (hd_0 kh_cTakesJob) lvE [] S) (hpre : P_noJob xs S) {k : Nat} (ih : kh_cTakesJob_I l D tc ad kd N sm xs S p e s m args below meth c sz k) : (∀ (α : List av_X) (lv : List (Nat × Value)) (st : List Value) (S1 : fw_S), as_in ad sm wd_fl2 xs S kh_cTakesJob.2.2.2.2.2.1 α kh_cTakesJob_a5.2.2.1 lv st S1 → (S1.1 806 = S.1 806 ∧ (nv α 2 = -1 ∨ (0 ≤ nv α 2 ∧ nv α 2 < (S.1 806 2440).toInt ∧ mjk (S.1 806) (nv α 2).toNat 4 = 0))) → 0 < k + 1 → hd_WR R_any wd_fl2 kh_cTakesJob kh_cTakesJob_y l D tc ad kd N sm xs S p e s m args below meth c sz 5 lv st S1 0) := by
  have hx : xs.length = 2 := by rw [H0.2.1.1]; rfl
  have q510 : crewF (S.1 806) := by
    have h := H0.2.2.2.2.2.2.2.2.1 510 (by decide +kernel)
    rw [wd_fl2, if_neg (by decide)] at h
    exact h
  intro α lv st S1 H hp hk
  obtain ⟨α1, hle, Hr⟩ := as_recM (pl := []) [((806, 806), (2404, 2428, 8)), ((806, 806), (2405, 2429, 8)), ((806, 806), (2454, 4046, 8)), ((806, 806), (2455, 4047, 8))] (by decide +kernel) H
  have hf := H.2.2.2.2.2.2.2.2.2.2.1
  have hl1 : α1.length = 3 := by rw [Hr.2.1.1]; rfl
  have hl0 : α.length = 3 := by rw [H.2.1.1]; rfl
  have hxa : al_le xs α1 := H.1.trans hle
  obtain ⟨g1, -, g3, g4, -⟩ := as_fx Hr
  have g0 : (805 ≤ nv α1 0 ∧ nv α1 0 ≤ 805) ∧ (0 ≤ nv α1 1 ∧ nv α1 1 ≤ 3) ∧ ((-1) ≤ nv α1 2 ∧ nv α1 2 ≤ 199) ∧ True := by
    refine ⟨by have h := (en_nv (i := 0) Hr.2.1 rfl).2; exact h, by have h := (en_nv (i := 1) Hr.2.1 rfl).2; exact h, by have h := (en_nv (i := 2) Hr.2.1 rfl).2; exact h, trivial⟩
  have r0 : nv α1 0 = nv α 0 := nv_le hle (by omega)
  have r1 : nv α1 1 = nv α 1 := nv_le hle (by omega)
  have r2 : nv α1 2 = nv α 2 := nv_le hle (by omega)
  refine hd_segMR G (na := 3) (fuel := 600) (first := true) (Bs := [kh_cTakesJob_b5_0, kh_cTakesJob_b5_1]) (by decide +kernel) hl1 Hr ?_
  intro q hq β lv' st' S' H1
  simp only [List.mem_cons, List.not_mem_nil, or_false] at hq
  rcases hq with rfl | rfl
  · obtain ⟨f1, f2, f3, f4, f5⟩ := as_fx H1
    simp only [kh_cTakesJob_b5_0, fx_env, fx_c, fx_ne, fx_hf, wl_S, Nat.zero_add, Nat.reduceAdd, Nat.reduceDiv, Nat.reduceMod, List.getElem?_cons_zero, List.getElem?_cons_succ, if_true, and_true, true_and] at f1 f2 f3 f4 f5
    have fe0 : nv β 0 = 805 := by omega
    have fe2 : nv β 2 = (-1) := by omega
    have fe3 : nv β 3 = (-1) := by omega
    try simp only [fe0, fe2, fe3, Int.reduceToNat] at f2 f3 f4 f5
    have s0 : nv β 0 = nv α1 0 := nv_le H1.1 (by omega)
    have s1 : nv β 1 = nv α1 1 := nv_le H1.1 (by omega)
    have s2 : nv β 2 = nv α1 2 := nv_le H1.1 (by omega)
    have c0 := f2
    have hg : crewF (S'.1 806) := by rw [f5, hp.1]; exact q510
    exact hd_retVR G (by decide +kernel) (as_fl_in (f := [510]) (as_backM H1 (by decide +kernel) hxa hf) (fun g hg' => by
      rcases List.mem_singleton.mp hg' with rfl
      rw [wd_fl2, if_neg (by decide)]
      exact hg)) (by decide +kernel) (by decide) trivial
  · obtain ⟨f1, f2, f3, f4, f5⟩ := as_fx H1
    simp only [kh_cTakesJob_b5_1, fx_env, fx_c, fx_ne, fx_hf, wl_S, Nat.zero_add, Nat.reduceAdd, Nat.reduceDiv, Nat.reduceMod, List.getElem?_cons_zero, List.getElem?_cons_succ, if_true, and_true, true_and] at f1 f2 f3 f4 f5
    have fe0 : nv β 0 = 805 := by omega
    have fe3 : nv β 3 = (-1) := by omega
    have fe4 : nv β 4 = 806 := by omega
    have fe5 : nv β 5 = 4 := by omega
    have fe7 : nv β 7 = 1 := by omega
    have fe8 : nv β 8 = 806 := by omega
    have fe9 : nv β 9 = 5 := by omega
    have fe11 : nv β 11 = 806 := by omega
    have fe12 : nv β 12 = 3 := by omega
    have fe14 : nv β 14 = 806 := by omega
    have fe15 : nv β 15 = 4 := by omega
    have fe17 : nv β 17 = 0 := by omega
    try simp only [fe0, fe3, fe4, fe5, fe7, fe8, fe9, fe11, fe12, fe14, fe15, fe17, Int.reduceToNat] at f2 f3 f4 f5
    have s0 : nv β 0 = nv α1 0 := nv_le H1.1 (by omega)
    have s1 : nv β 1 = nv α1 1 := nv_le H1.1 (by omega)
    have s2 : nv β 2 = nv α1 2 := nv_le H1.1 (by omega)
    obtain ⟨c0, c1, c2, c3, c4⟩ := f2
    have d0 := fl1_b (by decide) (fl2_b (by decide) c0)
    simp only [wd_fl] at d0
    have d1 := fl1_b (by decide) (fl2_b (by decide) c1)
    simp only [wd_fl] at d1
    have d2 := fl1_b (by decide) (fl2_b (by decide) c2)
    simp only [wd_fl] at d2
    have d3 := fl1_b (by decide) (fl2_b (by decide) c3)
    simp only [wd_fl] at d3
    have hrow : S'.1 806 = (rw_u (rw_u (rw_u (rw_u (S1.1 806) (nv β 6).toNat (1)) (nv β 10).toNat (nv β 1)) (nv β 13).toNat (nv β 2)) (nv β 16).toNat (0)) := by rw [f5]; simp only [row_806]
    have hne : ∀ i : Nat, i ≠ (nv β 16).toNat → i ≠ (nv β 13).toNat → i ≠ (nv β 10).toNat → i ≠ (nv β 6).toNat → S'.1 806 i = S1.1 806 i := fun i n0 n1 n2 n3 => by rw [hrow, rw_u_ne n0, rw_u_ne n1, rw_u_ne n2, rw_u_ne n3]
    have v0 : (S'.1 806 (nv β 16).toNat).toInt = 0 := by rw [hrow, rw_u_eq (by omega)]
    have v1 : (S'.1 806 (nv β 13).toNat).toInt = nv β 2 := by rw [hrow, rw_u_ne (by omega), rw_u_eq (by omega)]
    have v2 : (S'.1 806 (nv β 10).toNat).toInt = nv β 1 := by rw [hrow, rw_u_ne (by omega), rw_u_ne (by omega), rw_u_eq (by omega)]
    have v3 : (S'.1 806 (nv β 6).toNat).toInt = 1 := by rw [hrow, rw_u_ne (by omega), rw_u_ne (by omega), rw_u_ne (by omega), rw_u_eq (by omega)]
    have z1 : nv α 1 = nv xs 1 := nv_le H.1 (by omega)
    obtain ⟨e1, p2⟩ := hp
    have p3 : 0 ≤ nv α 2 ∧ nv α 2 < (S.1 806 2440).toInt ∧ mjk (S.1 806) (nv α 2).toNat 4 = 0 := by
      rcases p2 with g | g
      · exfalso; omega
      · exact g
    have hg : crewF (S'.1 806) := by
      refine crew_take (f := S.1 806) (k := (nv xs 1).toNat) (j := (nv α 2).toNat) q510 ?_ ?_ (by omega) (by omega) (fun k' hk' hn => ?_) (fun j' w hj' hw hn => ?_) (by have := hpre.1; omega) hpre.2 ?_ p3.2.2 ?_ ?_
      · rw [hne _ (by omega) (by omega) (by omega) (by omega), e1]
      · rw [hne _ (by omega) (by omega) (by omega) (by omega), e1]
      · unfold mck; rw [hne _ (by omega) (by omega) (by omega) (by omega), e1]
      · unfold mjk; rw [hne _ (by omega) (by omega) (by omega) (by omega), e1]
      · rw [mck_eq (k := (nv xs 1).toNat) v1 (by omega)]; omega
      · exact mjk_eq (w := 4) v3 (by omega)
      · rw [mjk_eq (w := 5) v2 (by omega)]; omega
    exact hd_retVR G (by decide +kernel) (as_fl_in (f := [510]) (as_backM H1 (by decide +kernel) hxa hf) (fun g hg' => by
      rcases List.mem_singleton.mp hg' with rfl
      rw [wd_fl2, if_neg (by decide)]
      exact hg)) (by decide +kernel) (by decide) trivial
set_option maxHeartbeats 16000000 in
set_option maxRecDepth 8000 in
theorem kh_cTakesJob_okP : ct_okPR wd_fl2 kh_cTakesJob P_noJob R_any := ct_handPR (P := P_noJob) (R := R_any) (ff := wd_ff2) (y := kh_cTakesJob_y) (Cs := [kh_cBest, kh_cJ4, kh_cJ5, kh_cC3, kh_cC4]) wd_fl2_ok rfl (List.forall_mem_cons.mpr ⟨kh_cBest_ok, (List.forall_mem_cons.mpr ⟨kh_cJ4_ok, (List.forall_mem_cons.mpr ⟨kh_cJ5_ok, (List.forall_mem_cons.mpr ⟨kh_cC3_ok, (List.forall_mem_cons.mpr ⟨kh_cC4_ok, (List.forall_mem_nil _)⟩)⟩)⟩)⟩)⟩) (by decide +kernel) (fun l D tc ad kd N sm xs S p e s m args below meth c sz lv G H0 hpre => by
  have hx : xs.length = 2 := by rw [H0.2.1.1]; rfl
  have q510 : crewF (S.1 806) := by
    have h := H0.2.2.2.2.2.2.2.2.1 510 (by decide +kernel)
    rw [wd_fl2, if_neg (by decide)] at h
    exact h
  have hP : ∀ (k : Nat), kh_cTakesJob_I l D tc ad kd N sm xs S p e s m args below meth c sz k := by
    intro k
    induction k with
    | zero => exact ⟨fun _ _ _ _ _ _ h => absurd h (Nat.not_lt_zero _), fun _ _ _ _ _ _ h => absurd h (Nat.not_lt_zero _), trivial⟩
    | succ k ih => exact ⟨kh_cTakesJob_h2 G H0 hpre ih, kh_cTakesJob_h5 G H0 hpre ih, trivial⟩
  obtain ⟨α1, hle, Hr⟩ := as_recM (pl := []) [] (by decide +kernel) H0
  have hf := H0.2.2.2.2.2.2.2.2.2.2.1
  have hl1 : α1.length = 2 := by rw [Hr.2.1.1]; rfl
  have hl0 : xs.length = 2 := by rw [H0.2.1.1]; rfl
  have hxa : al_le xs α1 := H0.1.trans hle
  obtain ⟨g1, -, g3, g4, -⟩ := as_fx Hr
  have g0 : (805 ≤ nv α1 0 ∧ nv α1 0 ≤ 805) ∧ (0 ≤ nv α1 1 ∧ nv α1 1 ≤ 3) ∧ True := by
    refine ⟨by have h := (en_nv (i := 0) Hr.2.1 rfl).2; exact h, by have h := (en_nv (i := 1) Hr.2.1 rfl).2; exact h, trivial⟩
  have r0 : nv α1 0 = nv xs 0 := nv_le hle (by omega)
  have r1 : nv α1 1 = nv xs 1 := nv_le hle (by omega)
  refine hd_segMR G (na := 2) (fuel := 600) (first := true) (Bs := [kh_cTakesJob_b0_0]) (by decide +kernel) hl1 Hr ?_
  intro q hq β lv' st' S' H1
  simp only [List.mem_cons, List.not_mem_nil, or_false] at hq
  rcases hq with rfl
  · obtain ⟨f1, f2, f3, f4, f5⟩ := as_fx H1
    simp only [kh_cTakesJob_b0_0, fx_env, fx_c, fx_ne, fx_hf, wl_S, Nat.zero_add, Nat.reduceAdd, Nat.reduceDiv, Nat.reduceMod, List.getElem?_cons_zero, List.getElem?_cons_succ, if_true, and_true, true_and] at f1 f2 f3 f4 f5
    have fe0 : nv β 0 = 805 := by omega
    try simp only [fe0, Int.reduceToNat] at f2 f3 f4 f5
    have s0 : nv β 0 = nv α1 0 := nv_le H1.1 (by omega)
    have s1 : nv β 1 = nv α1 1 := nv_le H1.1 (by omega)
    obtain ⟨α', Ha, hm⟩ := hd_gpM (q := kh_cTakesJob_a2) (n := 0) (by decide +kernel) hx H1 (by decide +kernel) hxa hf
    have hfr := H1.2.2.2.2.2.2.2.2.2.2.1
    have m0 : nv α' 0 = nv β 0 := hm 0 0 rfl
    have m1 : nv α' 1 = nv β 1 := hm 1 1 rfl
    subst S'
    refine (hP _).1 _ _ _ _ Ha ?_ (Nat.lt_succ_self _)
    · rfl)
