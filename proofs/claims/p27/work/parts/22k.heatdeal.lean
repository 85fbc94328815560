/-! ===== heatDeal: what is sent can be made, so it ends ===== -/
theorem hFits_eq {S S' : fw_S} (h1 : S'.1 846 = S.1 846) (h2 : S'.1 847 = S.1 847) (h3 : S'.1 806 = S.1 806) (h : hFits S) : hFits S' := by
  intro b hb
  rw [h1, h2, h3]
  exact h b hb
def hFresh (S : fw_S) (b : Nat) : Prop := (S.1 847 b).toInt = 0 ∧ 0 ≤ (S.1 846 b).toInt ∧ ((b : Int) < (S.1 806 1200).toInt → (S.1 846 b).toInt ≤ 10 * (S.1 806 (1203 + 5 * b)).toInt)
theorem sm_2 (f : Nat → Int32) : sm_S f 2 = (f 0).toInt + (f 1).toInt := by
  simp only [sm_S]
  omega
/- UtilityWorksModel mC -/
def kh_466 : ct_T := (338, [(0, 0, 0, 0), (0, 0, 0, 0)], [], [], [(1, (0, 1301, 1301, 0), [(0, 0, 0, 0), (0, 0, 0, 0)], [], ([], []))], [], 0, 0, 0)
theorem kh_466_ok : ct_ok wd_fl1 kh_466 := ct_of (ff := wd_ff1) (y := (⟨"UtilityWorksModel", "mC", "(II)I"⟩, prog_14_method_192_code, 2, some .int, 12, 0, 2, 31168, 31167, 0, 21014)) (Cs := []) (an := []) (ss := []) (K := 1) (fuel := 4000) wd_fl1_ok rfl (List.forall_mem_nil _) (by decide +kernel)
/- UtilityWorksModel customerAt -/
def kh_467 : ct_T := (402, [(2, 805, 805, 0), (0, 0, 0, 0)], [], [], [(1, (0, 0, 11, 1), [(2, 805, 805, 0), (0, 0, 0, 0)], [], ([], []))], [], 1, 21, 0)
theorem kh_467_ok : ct_ok wd_fl1 kh_467 := ct_of (ff := wd_ff1) (y := (⟨"UtilityWorksModel", "customerAt", "(I)I"⟩, prog_14_method_200_code, 2, some .int, 12, 1, 1, 33144, 33143, 7008, 21014)) (Cs := [kh_466]) (an := []) (ss := []) (K := 1) (fuel := 4000) wd_fl1_ok rfl (List.forall_mem_cons.mpr ⟨kh_466_ok, (List.forall_mem_nil _)⟩) (by decide +kernel)
/- UtilityWorksModel mC -/
def kh_468 : ct_T := (338, [(0, 0, 0, 0), (0, 2, 2, 0)], [], [], [(1, (0, 1303, 1303, 0), [(0, 0, 0, 0), (0, 2, 2, 0)], [], ([], []))], [], 0, 0, 0)
theorem kh_468_ok : ct_ok wd_fl1 kh_468 := ct_of (ff := wd_ff1) (y := (⟨"UtilityWorksModel", "mC", "(II)I"⟩, prog_14_method_192_code, 2, some .int, 12, 0, 2, 31168, 31167, 0, 21014)) (Cs := []) (an := []) (ss := []) (K := 1) (fuel := 4000) wd_fl1_ok rfl (List.forall_mem_nil _) (by decide +kernel)
/- UtilityWorksModel isConnected -/
def kh_469 : ct_T := (451, [(2, 805, 805, 0), (0, 0, 0, 0), (0, 2, 2, 0)], [], [], [(1, (0, 0, 0, 0), [(2, 805, 805, 0), (0, 0, 0, 0), (0, 2, 2, 0)], [], ([], [])), (1, (0, 1, 1, 0), [(2, 805, 805, 0), (0, 0, 0, 0), (0, 2, 2, 0)], [], ([], []))], [], 1, 21, 0)
theorem kh_469_ok : ct_ok wd_fl1 kh_469 := ct_of (ff := wd_ff1) (y := (⟨"UtilityWorksModel", "isConnected", "(II)Z"⟩, prog_14_method_203_code, 3, some .boolean, 12, 1, 2, 34098, 34097, 10007, 21014)) (Cs := [kh_468]) (an := []) (ss := []) (K := 1) (fuel := 4000) wd_fl1_ok rfl (List.forall_mem_cons.mpr ⟨kh_468_ok, (List.forall_mem_nil _)⟩) (by decide +kernel)
/- UtilityWorksModel mC -/
def kh_470 : ct_T := (338, [(0, 0, 0, 0), (0, 5, 5, 0)], [], [], [(1, (0, 1306, 1306, 0), [(0, 0, 0, 0), (0, 5, 5, 0)], [], ([], []))], [], 0, 0, 0)
theorem kh_470_ok : ct_ok wd_fl1 kh_470 := ct_of (ff := wd_ff1) (y := (⟨"UtilityWorksModel", "mC", "(II)I"⟩, prog_14_method_192_code, 2, some .int, 12, 0, 2, 31168, 31167, 0, 21014)) (Cs := []) (an := []) (ss := []) (K := 1) (fuel := 4000) wd_fl1_ok rfl (List.forall_mem_nil _) (by decide +kernel)
/- UtilityWorksModel needOf -/
def kh_471 : ct_T := (452, [(2, 805, 805, 0), (0, 0, 0, 0), (0, 2, 2, 0)], [], [], [(1, (0, (-2147483648), 2147483647, 1), [(2, 805, 805, 0), (0, 0, 0, 0), (0, 2, 2, 0)], [], ([], []))], [], 1, 21, 0)
theorem kh_471_ok : ct_ok wd_fl1 kh_471 := ct_of (ff := wd_ff1) (y := (⟨"UtilityWorksModel", "needOf", "(II)I"⟩, prog_14_method_202_code, 3, some .int, 12, 1, 2, 34102, 34101, 10008, 21014)) (Cs := [kh_470]) (an := []) (ss := []) (K := 1) (fuel := 4000) wd_fl1_ok rfl (List.forall_mem_cons.mpr ⟨kh_470_ok, (List.forall_mem_nil _)⟩) (by decide +kernel)
/- UtilityWorksModel cold -/
def kh_472 : ct_T := (484, [(2, 805, 805, 0)], [], [], [(1, (0, 0, 0, 0), [(2, 805, 805, 0)], [], ([], [])), (1, (0, (-22), 48, 1), [(2, 805, 805, 0)], [], ([], []))], [], 1, 20, 0)
theorem kh_472_ok : ct_ok wd_fl1 kh_472 := ct_of (ff := wd_ff1) (y := (⟨"UtilityWorksModel", "cold", "()I"⟩, prog_14_method_159_code, 1, some .int, 12, 1, 0, 34229, 34228, 12007, 21014)) (Cs := [kh_424]) (an := []) (ss := []) (K := 1) (fuel := 4000) wd_fl1_ok rfl (List.forall_mem_cons.mpr ⟨kh_424_ok, (List.forall_mem_nil _)⟩) (by decide +kernel)
/- UtilityWorksModel heatWants -/
def kh_473 : ct_T := (483, [(2, 805, 805, 0), (0, 0, 0, 0)], [], [], [(1, (0, 0, 0, 0), [(2, 805, 805, 0), (0, 0, 0, 0)], [], ([], [])), (1, (0, (-2147483648), 2147483647, 1), [(2, 805, 805, 0), (0, 0, 0, 0)], [], ([], []))], [], 2, 43, 0)
theorem kh_473_ok : ct_ok wd_fl1 kh_473 := ct_of (ff := wd_ff1) (y := (⟨"UtilityWorksModel", "heatWants", "(I)I"⟩, prog_14_method_160_code, 2, some .int, 12, 1, 1, 34225, 34224, 12006, 21014)) (Cs := [kh_469, kh_471, kh_472]) (an := []) (ss := []) (K := 1) (fuel := 4000) wd_fl1_ok rfl (List.forall_mem_cons.mpr ⟨kh_469_ok, (List.forall_mem_cons.mpr ⟨kh_471_ok, (List.forall_mem_cons.mpr ⟨kh_472_ok, (List.forall_mem_nil _)⟩)⟩)⟩) (by decide +kernel)
/- UtilityWorksModel mC -/
def kh_474 : ct_T := (338, [(0, 0, 1, 1), (0, 0, 0, 0)], [], [], [(1, (0, 1301, 1317, 16), [(0, 0, 1, 1), (0, 0, 0, 0)], [], ([], []))], [], 0, 0, 0)
theorem kh_474_ok : ct_ok wd_fl1 kh_474 := ct_of (ff := wd_ff1) (y := (⟨"UtilityWorksModel", "mC", "(II)I"⟩, prog_14_method_192_code, 2, some .int, 12, 0, 2, 31168, 31167, 0, 21014)) (Cs := []) (an := []) (ss := []) (K := 1) (fuel := 4000) wd_fl1_ok rfl (List.forall_mem_nil _) (by decide +kernel)
/- UtilityWorksModel customerAt -/
def kh_475 : ct_T := (402, [(2, 805, 805, 0), (0, 0, 1, 1)], [], [], [(1, (0, 0, 11, 1), [(2, 805, 805, 0), (0, 0, 1, 1)], [], ([], []))], [], 1, 21, 0)
theorem kh_475_ok : ct_ok wd_fl1 kh_475 := ct_of (ff := wd_ff1) (y := (⟨"UtilityWorksModel", "customerAt", "(I)I"⟩, prog_14_method_200_code, 2, some .int, 12, 1, 1, 33144, 33143, 7008, 21014)) (Cs := [kh_474]) (an := []) (ss := []) (K := 1) (fuel := 4000) wd_fl1_ok rfl (List.forall_mem_cons.mpr ⟨kh_474_ok, (List.forall_mem_nil _)⟩) (by decide +kernel)
/- UtilityWorksModel mC -/
def kh_476 : ct_T := (338, [(0, 0, 1, 1), (0, 2, 2, 0)], [], [], [(1, (0, 1303, 1319, 16), [(0, 0, 1, 1), (0, 2, 2, 0)], [], ([], []))], [], 0, 0, 0)
theorem kh_476_ok : ct_ok wd_fl1 kh_476 := ct_of (ff := wd_ff1) (y := (⟨"UtilityWorksModel", "mC", "(II)I"⟩, prog_14_method_192_code, 2, some .int, 12, 0, 2, 31168, 31167, 0, 21014)) (Cs := []) (an := []) (ss := []) (K := 1) (fuel := 4000) wd_fl1_ok rfl (List.forall_mem_nil _) (by decide +kernel)
/- UtilityWorksModel isConnected -/
def kh_477 : ct_T := (451, [(2, 805, 805, 0), (0, 0, 1, 1), (0, 2, 2, 0)], [], [], [(1, (0, 0, 0, 0), [(2, 805, 805, 0), (0, 0, 1, 1), (0, 2, 2, 0)], [], ([], [])), (1, (0, 1, 1, 0), [(2, 805, 805, 0), (0, 0, 1, 1), (0, 2, 2, 0)], [], ([], []))], [], 1, 21, 0)
theorem kh_477_ok : ct_ok wd_fl1 kh_477 := ct_of (ff := wd_ff1) (y := (⟨"UtilityWorksModel", "isConnected", "(II)Z"⟩, prog_14_method_203_code, 3, some .boolean, 12, 1, 2, 34098, 34097, 10007, 21014)) (Cs := [kh_476]) (an := []) (ss := []) (K := 1) (fuel := 4000) wd_fl1_ok rfl (List.forall_mem_cons.mpr ⟨kh_476_ok, (List.forall_mem_nil _)⟩) (by decide +kernel)
/- UtilityWorksModel mC -/
def kh_478 : ct_T := (338, [(0, 0, 1, 1), (0, 5, 5, 0)], [], [], [(1, (0, 1306, 1322, 16), [(0, 0, 1, 1), (0, 5, 5, 0)], [], ([], []))], [], 0, 0, 0)
theorem kh_478_ok : ct_ok wd_fl1 kh_478 := ct_of (ff := wd_ff1) (y := (⟨"UtilityWorksModel", "mC", "(II)I"⟩, prog_14_method_192_code, 2, some .int, 12, 0, 2, 31168, 31167, 0, 21014)) (Cs := []) (an := []) (ss := []) (K := 1) (fuel := 4000) wd_fl1_ok rfl (List.forall_mem_nil _) (by decide +kernel)
/- UtilityWorksModel needOf -/
def kh_479 : ct_T := (452, [(2, 805, 805, 0), (0, 0, 1, 1), (0, 2, 2, 0)], [], [], [(1, (0, (-2147483648), 2147483647, 1), [(2, 805, 805, 0), (0, 0, 1, 1), (0, 2, 2, 0)], [], ([], []))], [], 1, 21, 0)
theorem kh_479_ok : ct_ok wd_fl1 kh_479 := ct_of (ff := wd_ff1) (y := (⟨"UtilityWorksModel", "needOf", "(II)I"⟩, prog_14_method_202_code, 3, some .int, 12, 1, 2, 34102, 34101, 10008, 21014)) (Cs := [kh_478]) (an := []) (ss := []) (K := 1) (fuel := 4000) wd_fl1_ok rfl (List.forall_mem_cons.mpr ⟨kh_478_ok, (List.forall_mem_nil _)⟩) (by decide +kernel)
/- UtilityWorksModel heatWants -/
def kh_480 : ct_T := (483, [(2, 805, 805, 0), (0, 0, 1, 1)], [], [], [(1, (0, 0, 0, 0), [(2, 805, 805, 0), (0, 0, 1, 1)], [], ([], [])), (1, (0, (-2147483648), 2147483647, 1), [(2, 805, 805, 0), (0, 0, 1, 1)], [], ([], []))], [], 2, 43, 0)
theorem kh_480_ok : ct_ok wd_fl1 kh_480 := ct_of (ff := wd_ff1) (y := (⟨"UtilityWorksModel", "heatWants", "(I)I"⟩, prog_14_method_160_code, 2, some .int, 12, 1, 1, 34225, 34224, 12006, 21014)) (Cs := [kh_477, kh_479, kh_472]) (an := []) (ss := []) (K := 1) (fuel := 4000) wd_fl1_ok rfl (List.forall_mem_cons.mpr ⟨kh_477_ok, (List.forall_mem_cons.mpr ⟨kh_479_ok, (List.forall_mem_cons.mpr ⟨kh_472_ok, (List.forall_mem_nil _)⟩)⟩)⟩) (by decide +kernel)
/- UtilityWorksModel mC -/
def kh_481 : ct_T := (338, [(0, 0, 2, 1), (0, 0, 0, 0)], [], [], [(1, (0, 1301, 1333, 16), [(0, 0, 2, 1), (0, 0, 0, 0)], [], ([], []))], [], 0, 0, 0)
theorem kh_481_ok : ct_ok wd_fl1 kh_481 := ct_of (ff := wd_ff1) (y := (⟨"UtilityWorksModel", "mC", "(II)I"⟩, prog_14_method_192_code, 2, some .int, 12, 0, 2, 31168, 31167, 0, 21014)) (Cs := []) (an := []) (ss := []) (K := 1) (fuel := 4000) wd_fl1_ok rfl (List.forall_mem_nil _) (by decide +kernel)
/- UtilityWorksModel customerAt -/
def kh_482 : ct_T := (402, [(2, 805, 805, 0), (0, 0, 2, 1)], [], [], [(1, (0, 0, 11, 1), [(2, 805, 805, 0), (0, 0, 2, 1)], [], ([], []))], [], 1, 21, 0)
theorem kh_482_ok : ct_ok wd_fl1 kh_482 := ct_of (ff := wd_ff1) (y := (⟨"UtilityWorksModel", "customerAt", "(I)I"⟩, prog_14_method_200_code, 2, some .int, 12, 1, 1, 33144, 33143, 7008, 21014)) (Cs := [kh_481]) (an := []) (ss := []) (K := 1) (fuel := 4000) wd_fl1_ok rfl (List.forall_mem_cons.mpr ⟨kh_481_ok, (List.forall_mem_nil _)⟩) (by decide +kernel)
/- UtilityWorksModel mC -/
def kh_483 : ct_T := (338, [(0, 0, 2, 1), (0, 2, 2, 0)], [], [], [(1, (0, 1303, 1335, 16), [(0, 0, 2, 1), (0, 2, 2, 0)], [], ([], []))], [], 0, 0, 0)
theorem kh_483_ok : ct_ok wd_fl1 kh_483 := ct_of (ff := wd_ff1) (y := (⟨"UtilityWorksModel", "mC", "(II)I"⟩, prog_14_method_192_code, 2, some .int, 12, 0, 2, 31168, 31167, 0, 21014)) (Cs := []) (an := []) (ss := []) (K := 1) (fuel := 4000) wd_fl1_ok rfl (List.forall_mem_nil _) (by decide +kernel)
/- UtilityWorksModel isConnected -/
def kh_484 : ct_T := (451, [(2, 805, 805, 0), (0, 0, 2, 1), (0, 2, 2, 0)], [], [], [(1, (0, 0, 0, 0), [(2, 805, 805, 0), (0, 0, 2, 1), (0, 2, 2, 0)], [], ([], [])), (1, (0, 1, 1, 0), [(2, 805, 805, 0), (0, 0, 2, 1), (0, 2, 2, 0)], [], ([], []))], [], 1, 21, 0)
theorem kh_484_ok : ct_ok wd_fl1 kh_484 := ct_of (ff := wd_ff1) (y := (⟨"UtilityWorksModel", "isConnected", "(II)Z"⟩, prog_14_method_203_code, 3, some .boolean, 12, 1, 2, 34098, 34097, 10007, 21014)) (Cs := [kh_483]) (an := []) (ss := []) (K := 1) (fuel := 4000) wd_fl1_ok rfl (List.forall_mem_cons.mpr ⟨kh_483_ok, (List.forall_mem_nil _)⟩) (by decide +kernel)
/- UtilityWorksModel mC -/
def kh_485 : ct_T := (338, [(0, 0, 2, 1), (0, 5, 5, 0)], [], [], [(1, (0, 1306, 1338, 16), [(0, 0, 2, 1), (0, 5, 5, 0)], [], ([], []))], [], 0, 0, 0)
theorem kh_485_ok : ct_ok wd_fl1 kh_485 := ct_of (ff := wd_ff1) (y := (⟨"UtilityWorksModel", "mC", "(II)I"⟩, prog_14_method_192_code, 2, some .int, 12, 0, 2, 31168, 31167, 0, 21014)) (Cs := []) (an := []) (ss := []) (K := 1) (fuel := 4000) wd_fl1_ok rfl (List.forall_mem_nil _) (by decide +kernel)
/- UtilityWorksModel needOf -/
def kh_486 : ct_T := (452, [(2, 805, 805, 0), (0, 0, 2, 1), (0, 2, 2, 0)], [], [], [(1, (0, (-2147483648), 2147483647, 1), [(2, 805, 805, 0), (0, 0, 2, 1), (0, 2, 2, 0)], [], ([], []))], [], 1, 21, 0)
theorem kh_486_ok : ct_ok wd_fl1 kh_486 := ct_of (ff := wd_ff1) (y := (⟨"UtilityWorksModel", "needOf", "(II)I"⟩, prog_14_method_202_code, 3, some .int, 12, 1, 2, 34102, 34101, 10008, 21014)) (Cs := [kh_485]) (an := []) (ss := []) (K := 1) (fuel := 4000) wd_fl1_ok rfl (List.forall_mem_cons.mpr ⟨kh_485_ok, (List.forall_mem_nil _)⟩) (by decide +kernel)
/- UtilityWorksModel heatWants -/
def kh_487 : ct_T := (483, [(2, 805, 805, 0), (0, 0, 2, 1)], [], [], [(1, (0, 0, 0, 0), [(2, 805, 805, 0), (0, 0, 2, 1)], [], ([], [])), (1, (0, (-2147483648), 2147483647, 1), [(2, 805, 805, 0), (0, 0, 2, 1)], [], ([], []))], [], 2, 43, 0)
theorem kh_487_ok : ct_ok wd_fl1 kh_487 := ct_of (ff := wd_ff1) (y := (⟨"UtilityWorksModel", "heatWants", "(I)I"⟩, prog_14_method_160_code, 2, some .int, 12, 1, 1, 34225, 34224, 12006, 21014)) (Cs := [kh_484, kh_486, kh_472]) (an := []) (ss := []) (K := 1) (fuel := 4000) wd_fl1_ok rfl (List.forall_mem_cons.mpr ⟨kh_484_ok, (List.forall_mem_cons.mpr ⟨kh_486_ok, (List.forall_mem_cons.mpr ⟨kh_472_ok, (List.forall_mem_nil _)⟩)⟩)⟩) (by decide +kernel)
/- UtilityWorksModel mC -/
def kh_488 : ct_T := (338, [(0, 0, 3, 1), (0, 0, 0, 0)], [], [], [(1, (0, 1301, 1349, 16), [(0, 0, 3, 1), (0, 0, 0, 0)], [], ([], []))], [], 0, 0, 0)
theorem kh_488_ok : ct_ok wd_fl1 kh_488 := ct_of (ff := wd_ff1) (y := (⟨"UtilityWorksModel", "mC", "(II)I"⟩, prog_14_method_192_code, 2, some .int, 12, 0, 2, 31168, 31167, 0, 21014)) (Cs := []) (an := []) (ss := []) (K := 1) (fuel := 4000) wd_fl1_ok rfl (List.forall_mem_nil _) (by decide +kernel)
/- UtilityWorksModel customerAt -/
def kh_489 : ct_T := (402, [(2, 805, 805, 0), (0, 0, 3, 1)], [], [], [(1, (0, 0, 11, 1), [(2, 805, 805, 0), (0, 0, 3, 1)], [], ([], []))], [], 1, 21, 0)
theorem kh_489_ok : ct_ok wd_fl1 kh_489 := ct_of (ff := wd_ff1) (y := (⟨"UtilityWorksModel", "customerAt", "(I)I"⟩, prog_14_method_200_code, 2, some .int, 12, 1, 1, 33144, 33143, 7008, 21014)) (Cs := [kh_488]) (an := []) (ss := []) (K := 1) (fuel := 4000) wd_fl1_ok rfl (List.forall_mem_cons.mpr ⟨kh_488_ok, (List.forall_mem_nil _)⟩) (by decide +kernel)
/- UtilityWorksModel mC -/
def kh_490 : ct_T := (338, [(0, 0, 3, 1), (0, 2, 2, 0)], [], [], [(1, (0, 1303, 1351, 16), [(0, 0, 3, 1), (0, 2, 2, 0)], [], ([], []))], [], 0, 0, 0)
theorem kh_490_ok : ct_ok wd_fl1 kh_490 := ct_of (ff := wd_ff1) (y := (⟨"UtilityWorksModel", "mC", "(II)I"⟩, prog_14_method_192_code, 2, some .int, 12, 0, 2, 31168, 31167, 0, 21014)) (Cs := []) (an := []) (ss := []) (K := 1) (fuel := 4000) wd_fl1_ok rfl (List.forall_mem_nil _) (by decide +kernel)
/- UtilityWorksModel isConnected -/
def kh_491 : ct_T := (451, [(2, 805, 805, 0), (0, 0, 3, 1), (0, 2, 2, 0)], [], [], [(1, (0, 0, 0, 0), [(2, 805, 805, 0), (0, 0, 3, 1), (0, 2, 2, 0)], [], ([], [])), (1, (0, 1, 1, 0), [(2, 805, 805, 0), (0, 0, 3, 1), (0, 2, 2, 0)], [], ([], []))], [], 1, 21, 0)
theorem kh_491_ok : ct_ok wd_fl1 kh_491 := ct_of (ff := wd_ff1) (y := (⟨"UtilityWorksModel", "isConnected", "(II)Z"⟩, prog_14_method_203_code, 3, some .boolean, 12, 1, 2, 34098, 34097, 10007, 21014)) (Cs := [kh_490]) (an := []) (ss := []) (K := 1) (fuel := 4000) wd_fl1_ok rfl (List.forall_mem_cons.mpr ⟨kh_490_ok, (List.forall_mem_nil _)⟩) (by decide +kernel)
/- UtilityWorksModel mC -/
def kh_492 : ct_T := (338, [(0, 0, 3, 1), (0, 5, 5, 0)], [], [], [(1, (0, 1306, 1354, 16), [(0, 0, 3, 1), (0, 5, 5, 0)], [], ([], []))], [], 0, 0, 0)
theorem kh_492_ok : ct_ok wd_fl1 kh_492 := ct_of (ff := wd_ff1) (y := (⟨"UtilityWorksModel", "mC", "(II)I"⟩, prog_14_method_192_code, 2, some .int, 12, 0, 2, 31168, 31167, 0, 21014)) (Cs := []) (an := []) (ss := []) (K := 1) (fuel := 4000) wd_fl1_ok rfl (List.forall_mem_nil _) (by decide +kernel)
/- UtilityWorksModel needOf -/
def kh_493 : ct_T := (452, [(2, 805, 805, 0), (0, 0, 3, 1), (0, 2, 2, 0)], [], [], [(1, (0, (-2147483648), 2147483647, 1), [(2, 805, 805, 0), (0, 0, 3, 1), (0, 2, 2, 0)], [], ([], []))], [], 1, 21, 0)
theorem kh_493_ok : ct_ok wd_fl1 kh_493 := ct_of (ff := wd_ff1) (y := (⟨"UtilityWorksModel", "needOf", "(II)I"⟩, prog_14_method_202_code, 3, some .int, 12, 1, 2, 34102, 34101, 10008, 21014)) (Cs := [kh_492]) (an := []) (ss := []) (K := 1) (fuel := 4000) wd_fl1_ok rfl (List.forall_mem_cons.mpr ⟨kh_492_ok, (List.forall_mem_nil _)⟩) (by decide +kernel)
/- UtilityWorksModel heatWants -/
def kh_494 : ct_T := (483, [(2, 805, 805, 0), (0, 0, 3, 1)], [], [], [(1, (0, 0, 0, 0), [(2, 805, 805, 0), (0, 0, 3, 1)], [], ([], [])), (1, (0, (-2147483648), 2147483647, 1), [(2, 805, 805, 0), (0, 0, 3, 1)], [], ([], []))], [], 2, 43, 0)
theorem kh_494_ok : ct_ok wd_fl1 kh_494 := ct_of (ff := wd_ff1) (y := (⟨"UtilityWorksModel", "heatWants", "(I)I"⟩, prog_14_method_160_code, 2, some .int, 12, 1, 1, 34225, 34224, 12006, 21014)) (Cs := [kh_491, kh_493, kh_472]) (an := []) (ss := []) (K := 1) (fuel := 4000) wd_fl1_ok rfl (List.forall_mem_cons.mpr ⟨kh_491_ok, (List.forall_mem_cons.mpr ⟨kh_493_ok, (List.forall_mem_cons.mpr ⟨kh_472_ok, (List.forall_mem_nil _)⟩)⟩)⟩) (by decide +kernel)
/- UtilityWorksModel mC -/
def kh_495 : ct_T := (338, [(0, 0, 4, 1), (0, 0, 0, 0)], [], [], [(1, (0, 1301, 1365, 16), [(0, 0, 4, 1), (0, 0, 0, 0)], [], ([], []))], [], 0, 0, 0)
theorem kh_495_ok : ct_ok wd_fl1 kh_495 := ct_of (ff := wd_ff1) (y := (⟨"UtilityWorksModel", "mC", "(II)I"⟩, prog_14_method_192_code, 2, some .int, 12, 0, 2, 31168, 31167, 0, 21014)) (Cs := []) (an := []) (ss := []) (K := 1) (fuel := 4000) wd_fl1_ok rfl (List.forall_mem_nil _) (by decide +kernel)
/- UtilityWorksModel customerAt -/
def kh_496 : ct_T := (402, [(2, 805, 805, 0), (0, 0, 4, 1)], [], [], [(1, (0, 0, 11, 1), [(2, 805, 805, 0), (0, 0, 4, 1)], [], ([], []))], [], 1, 21, 0)
theorem kh_496_ok : ct_ok wd_fl1 kh_496 := ct_of (ff := wd_ff1) (y := (⟨"UtilityWorksModel", "customerAt", "(I)I"⟩, prog_14_method_200_code, 2, some .int, 12, 1, 1, 33144, 33143, 7008, 21014)) (Cs := [kh_495]) (an := []) (ss := []) (K := 1) (fuel := 4000) wd_fl1_ok rfl (List.forall_mem_cons.mpr ⟨kh_495_ok, (List.forall_mem_nil _)⟩) (by decide +kernel)
/- UtilityWorksModel mC -/
def kh_497 : ct_T := (338, [(0, 0, 4, 1), (0, 2, 2, 0)], [], [], [(1, (0, 1303, 1367, 16), [(0, 0, 4, 1), (0, 2, 2, 0)], [], ([], []))], [], 0, 0, 0)
theorem kh_497_ok : ct_ok wd_fl1 kh_497 := ct_of (ff := wd_ff1) (y := (⟨"UtilityWorksModel", "mC", "(II)I"⟩, prog_14_method_192_code, 2, some .int, 12, 0, 2, 31168, 31167, 0, 21014)) (Cs := []) (an := []) (ss := []) (K := 1) (fuel := 4000) wd_fl1_ok rfl (List.forall_mem_nil _) (by decide +kernel)
/- UtilityWorksModel isConnected -/
def kh_498 : ct_T := (451, [(2, 805, 805, 0), (0, 0, 4, 1), (0, 2, 2, 0)], [], [], [(1, (0, 0, 0, 0), [(2, 805, 805, 0), (0, 0, 4, 1), (0, 2, 2, 0)], [], ([], [])), (1, (0, 1, 1, 0), [(2, 805, 805, 0), (0, 0, 4, 1), (0, 2, 2, 0)], [], ([], []))], [], 1, 21, 0)
theorem kh_498_ok : ct_ok wd_fl1 kh_498 := ct_of (ff := wd_ff1) (y := (⟨"UtilityWorksModel", "isConnected", "(II)Z"⟩, prog_14_method_203_code, 3, some .boolean, 12, 1, 2, 34098, 34097, 10007, 21014)) (Cs := [kh_497]) (an := []) (ss := []) (K := 1) (fuel := 4000) wd_fl1_ok rfl (List.forall_mem_cons.mpr ⟨kh_497_ok, (List.forall_mem_nil _)⟩) (by decide +kernel)
/- UtilityWorksModel mC -/
def kh_499 : ct_T := (338, [(0, 0, 4, 1), (0, 5, 5, 0)], [], [], [(1, (0, 1306, 1370, 16), [(0, 0, 4, 1), (0, 5, 5, 0)], [], ([], []))], [], 0, 0, 0)
theorem kh_499_ok : ct_ok wd_fl1 kh_499 := ct_of (ff := wd_ff1) (y := (⟨"UtilityWorksModel", "mC", "(II)I"⟩, prog_14_method_192_code, 2, some .int, 12, 0, 2, 31168, 31167, 0, 21014)) (Cs := []) (an := []) (ss := []) (K := 1) (fuel := 4000) wd_fl1_ok rfl (List.forall_mem_nil _) (by decide +kernel)
/- UtilityWorksModel needOf -/
def kh_500 : ct_T := (452, [(2, 805, 805, 0), (0, 0, 4, 1), (0, 2, 2, 0)], [], [], [(1, (0, (-2147483648), 2147483647, 1), [(2, 805, 805, 0), (0, 0, 4, 1), (0, 2, 2, 0)], [], ([], []))], [], 1, 21, 0)
theorem kh_500_ok : ct_ok wd_fl1 kh_500 := ct_of (ff := wd_ff1) (y := (⟨"UtilityWorksModel", "needOf", "(II)I"⟩, prog_14_method_202_code, 3, some .int, 12, 1, 2, 34102, 34101, 10008, 21014)) (Cs := [kh_499]) (an := []) (ss := []) (K := 1) (fuel := 4000) wd_fl1_ok rfl (List.forall_mem_cons.mpr ⟨kh_499_ok, (List.forall_mem_nil _)⟩) (by decide +kernel)
/- UtilityWorksModel heatWants -/
def kh_501 : ct_T := (483, [(2, 805, 805, 0), (0, 0, 4, 1)], [], [], [(1, (0, 0, 0, 0), [(2, 805, 805, 0), (0, 0, 4, 1)], [], ([], [])), (1, (0, (-2147483648), 2147483647, 1), [(2, 805, 805, 0), (0, 0, 4, 1)], [], ([], []))], [], 2, 43, 0)
theorem kh_501_ok : ct_ok wd_fl1 kh_501 := ct_of (ff := wd_ff1) (y := (⟨"UtilityWorksModel", "heatWants", "(I)I"⟩, prog_14_method_160_code, 2, some .int, 12, 1, 1, 34225, 34224, 12006, 21014)) (Cs := [kh_498, kh_500, kh_472]) (an := []) (ss := []) (K := 1) (fuel := 4000) wd_fl1_ok rfl (List.forall_mem_cons.mpr ⟨kh_498_ok, (List.forall_mem_cons.mpr ⟨kh_500_ok, (List.forall_mem_cons.mpr ⟨kh_472_ok, (List.forall_mem_nil _)⟩)⟩)⟩) (by decide +kernel)
/- UtilityWorksModel mC -/
def kh_502 : ct_T := (338, [(0, 0, 5, 1), (0, 0, 0, 0)], [], [], [(1, (0, 1301, 1381, 16), [(0, 0, 5, 1), (0, 0, 0, 0)], [], ([], []))], [], 0, 0, 0)
theorem kh_502_ok : ct_ok wd_fl1 kh_502 := ct_of (ff := wd_ff1) (y := (⟨"UtilityWorksModel", "mC", "(II)I"⟩, prog_14_method_192_code, 2, some .int, 12, 0, 2, 31168, 31167, 0, 21014)) (Cs := []) (an := []) (ss := []) (K := 1) (fuel := 4000) wd_fl1_ok rfl (List.forall_mem_nil _) (by decide +kernel)
/- UtilityWorksModel customerAt -/
def kh_503 : ct_T := (402, [(2, 805, 805, 0), (0, 0, 5, 1)], [], [], [(1, (0, 0, 11, 1), [(2, 805, 805, 0), (0, 0, 5, 1)], [], ([], []))], [], 1, 21, 0)
theorem kh_503_ok : ct_ok wd_fl1 kh_503 := ct_of (ff := wd_ff1) (y := (⟨"UtilityWorksModel", "customerAt", "(I)I"⟩, prog_14_method_200_code, 2, some .int, 12, 1, 1, 33144, 33143, 7008, 21014)) (Cs := [kh_502]) (an := []) (ss := []) (K := 1) (fuel := 4000) wd_fl1_ok rfl (List.forall_mem_cons.mpr ⟨kh_502_ok, (List.forall_mem_nil _)⟩) (by decide +kernel)
/- UtilityWorksModel mC -/
def kh_504 : ct_T := (338, [(0, 0, 5, 1), (0, 2, 2, 0)], [], [], [(1, (0, 1303, 1383, 16), [(0, 0, 5, 1), (0, 2, 2, 0)], [], ([], []))], [], 0, 0, 0)
theorem kh_504_ok : ct_ok wd_fl1 kh_504 := ct_of (ff := wd_ff1) (y := (⟨"UtilityWorksModel", "mC", "(II)I"⟩, prog_14_method_192_code, 2, some .int, 12, 0, 2, 31168, 31167, 0, 21014)) (Cs := []) (an := []) (ss := []) (K := 1) (fuel := 4000) wd_fl1_ok rfl (List.forall_mem_nil _) (by decide +kernel)
/- UtilityWorksModel isConnected -/
def kh_505 : ct_T := (451, [(2, 805, 805, 0), (0, 0, 5, 1), (0, 2, 2, 0)], [], [], [(1, (0, 0, 0, 0), [(2, 805, 805, 0), (0, 0, 5, 1), (0, 2, 2, 0)], [], ([], [])), (1, (0, 1, 1, 0), [(2, 805, 805, 0), (0, 0, 5, 1), (0, 2, 2, 0)], [], ([], []))], [], 1, 21, 0)
theorem kh_505_ok : ct_ok wd_fl1 kh_505 := ct_of (ff := wd_ff1) (y := (⟨"UtilityWorksModel", "isConnected", "(II)Z"⟩, prog_14_method_203_code, 3, some .boolean, 12, 1, 2, 34098, 34097, 10007, 21014)) (Cs := [kh_504]) (an := []) (ss := []) (K := 1) (fuel := 4000) wd_fl1_ok rfl (List.forall_mem_cons.mpr ⟨kh_504_ok, (List.forall_mem_nil _)⟩) (by decide +kernel)
/- UtilityWorksModel mC -/
def kh_506 : ct_T := (338, [(0, 0, 5, 1), (0, 5, 5, 0)], [], [], [(1, (0, 1306, 1386, 16), [(0, 0, 5, 1), (0, 5, 5, 0)], [], ([], []))], [], 0, 0, 0)
theorem kh_506_ok : ct_ok wd_fl1 kh_506 := ct_of (ff := wd_ff1) (y := (⟨"UtilityWorksModel", "mC", "(II)I"⟩, prog_14_method_192_code, 2, some .int, 12, 0, 2, 31168, 31167, 0, 21014)) (Cs := []) (an := []) (ss := []) (K := 1) (fuel := 4000) wd_fl1_ok rfl (List.forall_mem_nil _) (by decide +kernel)
/- UtilityWorksModel needOf -/
def kh_507 : ct_T := (452, [(2, 805, 805, 0), (0, 0, 5, 1), (0, 2, 2, 0)], [], [], [(1, (0, (-2147483648), 2147483647, 1), [(2, 805, 805, 0), (0, 0, 5, 1), (0, 2, 2, 0)], [], ([], []))], [], 1, 21, 0)
theorem kh_507_ok : ct_ok wd_fl1 kh_507 := ct_of (ff := wd_ff1) (y := (⟨"UtilityWorksModel", "needOf", "(II)I"⟩, prog_14_method_202_code, 3, some .int, 12, 1, 2, 34102, 34101, 10008, 21014)) (Cs := [kh_506]) (an := []) (ss := []) (K := 1) (fuel := 4000) wd_fl1_ok rfl (List.forall_mem_cons.mpr ⟨kh_506_ok, (List.forall_mem_nil _)⟩) (by decide +kernel)
/- UtilityWorksModel heatWants -/
def kh_508 : ct_T := (483, [(2, 805, 805, 0), (0, 0, 5, 1)], [], [], [(1, (0, 0, 0, 0), [(2, 805, 805, 0), (0, 0, 5, 1)], [], ([], [])), (1, (0, (-2147483648), 2147483647, 1), [(2, 805, 805, 0), (0, 0, 5, 1)], [], ([], []))], [], 2, 43, 0)
theorem kh_508_ok : ct_ok wd_fl1 kh_508 := ct_of (ff := wd_ff1) (y := (⟨"UtilityWorksModel", "heatWants", "(I)I"⟩, prog_14_method_160_code, 2, some .int, 12, 1, 1, 34225, 34224, 12006, 21014)) (Cs := [kh_505, kh_507, kh_472]) (an := []) (ss := []) (K := 1) (fuel := 4000) wd_fl1_ok rfl (List.forall_mem_cons.mpr ⟨kh_505_ok, (List.forall_mem_cons.mpr ⟨kh_507_ok, (List.forall_mem_cons.mpr ⟨kh_472_ok, (List.forall_mem_nil _)⟩)⟩)⟩) (by decide +kernel)
/- UtilityWorksModel mC -/
def kh_509 : ct_T := (338, [(0, 0, 6, 1), (0, 0, 0, 0)], [], [], [(1, (0, 1301, 1397, 16), [(0, 0, 6, 1), (0, 0, 0, 0)], [], ([], []))], [], 0, 0, 0)
theorem kh_509_ok : ct_ok wd_fl1 kh_509 := ct_of (ff := wd_ff1) (y := (⟨"UtilityWorksModel", "mC", "(II)I"⟩, prog_14_method_192_code, 2, some .int, 12, 0, 2, 31168, 31167, 0, 21014)) (Cs := []) (an := []) (ss := []) (K := 1) (fuel := 4000) wd_fl1_ok rfl (List.forall_mem_nil _) (by decide +kernel)
/- UtilityWorksModel customerAt -/
def kh_510 : ct_T := (402, [(2, 805, 805, 0), (0, 0, 6, 1)], [], [], [(1, (0, 0, 11, 1), [(2, 805, 805, 0), (0, 0, 6, 1)], [], ([], []))], [], 1, 21, 0)
theorem kh_510_ok : ct_ok wd_fl1 kh_510 := ct_of (ff := wd_ff1) (y := (⟨"UtilityWorksModel", "customerAt", "(I)I"⟩, prog_14_method_200_code, 2, some .int, 12, 1, 1, 33144, 33143, 7008, 21014)) (Cs := [kh_509]) (an := []) (ss := []) (K := 1) (fuel := 4000) wd_fl1_ok rfl (List.forall_mem_cons.mpr ⟨kh_509_ok, (List.forall_mem_nil _)⟩) (by decide +kernel)
/- UtilityWorksModel mC -/
def kh_511 : ct_T := (338, [(0, 0, 6, 1), (0, 2, 2, 0)], [], [], [(1, (0, 1303, 1399, 16), [(0, 0, 6, 1), (0, 2, 2, 0)], [], ([], []))], [], 0, 0, 0)
theorem kh_511_ok : ct_ok wd_fl1 kh_511 := ct_of (ff := wd_ff1) (y := (⟨"UtilityWorksModel", "mC", "(II)I"⟩, prog_14_method_192_code, 2, some .int, 12, 0, 2, 31168, 31167, 0, 21014)) (Cs := []) (an := []) (ss := []) (K := 1) (fuel := 4000) wd_fl1_ok rfl (List.forall_mem_nil _) (by decide +kernel)
/- UtilityWorksModel isConnected -/
def kh_512 : ct_T := (451, [(2, 805, 805, 0), (0, 0, 6, 1), (0, 2, 2, 0)], [], [], [(1, (0, 0, 0, 0), [(2, 805, 805, 0), (0, 0, 6, 1), (0, 2, 2, 0)], [], ([], [])), (1, (0, 1, 1, 0), [(2, 805, 805, 0), (0, 0, 6, 1), (0, 2, 2, 0)], [], ([], []))], [], 1, 21, 0)
theorem kh_512_ok : ct_ok wd_fl1 kh_512 := ct_of (ff := wd_ff1) (y := (⟨"UtilityWorksModel", "isConnected", "(II)Z"⟩, prog_14_method_203_code, 3, some .boolean, 12, 1, 2, 34098, 34097, 10007, 21014)) (Cs := [kh_511]) (an := []) (ss := []) (K := 1) (fuel := 4000) wd_fl1_ok rfl (List.forall_mem_cons.mpr ⟨kh_511_ok, (List.forall_mem_nil _)⟩) (by decide +kernel)
/- UtilityWorksModel mC -/
def kh_513 : ct_T := (338, [(0, 0, 6, 1), (0, 5, 5, 0)], [], [], [(1, (0, 1306, 1402, 16), [(0, 0, 6, 1), (0, 5, 5, 0)], [], ([], []))], [], 0, 0, 0)
theorem kh_513_ok : ct_ok wd_fl1 kh_513 := ct_of (ff := wd_ff1) (y := (⟨"UtilityWorksModel", "mC", "(II)I"⟩, prog_14_method_192_code, 2, some .int, 12, 0, 2, 31168, 31167, 0, 21014)) (Cs := []) (an := []) (ss := []) (K := 1) (fuel := 4000) wd_fl1_ok rfl (List.forall_mem_nil _) (by decide +kernel)
/- UtilityWorksModel needOf -/
def kh_514 : ct_T := (452, [(2, 805, 805, 0), (0, 0, 6, 1), (0, 2, 2, 0)], [], [], [(1, (0, (-2147483648), 2147483647, 1), [(2, 805, 805, 0), (0, 0, 6, 1), (0, 2, 2, 0)], [], ([], []))], [], 1, 21, 0)
theorem kh_514_ok : ct_ok wd_fl1 kh_514 := ct_of (ff := wd_ff1) (y := (⟨"UtilityWorksModel", "needOf", "(II)I"⟩, prog_14_method_202_code, 3, some .int, 12, 1, 2, 34102, 34101, 10008, 21014)) (Cs := [kh_513]) (an := []) (ss := []) (K := 1) (fuel := 4000) wd_fl1_ok rfl (List.forall_mem_cons.mpr ⟨kh_513_ok, (List.forall_mem_nil _)⟩) (by decide +kernel)
/- UtilityWorksModel heatWants -/
def kh_515 : ct_T := (483, [(2, 805, 805, 0), (0, 0, 6, 1)], [], [], [(1, (0, 0, 0, 0), [(2, 805, 805, 0), (0, 0, 6, 1)], [], ([], [])), (1, (0, (-2147483648), 2147483647, 1), [(2, 805, 805, 0), (0, 0, 6, 1)], [], ([], []))], [], 2, 43, 0)
theorem kh_515_ok : ct_ok wd_fl1 kh_515 := ct_of (ff := wd_ff1) (y := (⟨"UtilityWorksModel", "heatWants", "(I)I"⟩, prog_14_method_160_code, 2, some .int, 12, 1, 1, 34225, 34224, 12006, 21014)) (Cs := [kh_512, kh_514, kh_472]) (an := []) (ss := []) (K := 1) (fuel := 4000) wd_fl1_ok rfl (List.forall_mem_cons.mpr ⟨kh_512_ok, (List.forall_mem_cons.mpr ⟨kh_514_ok, (List.forall_mem_cons.mpr ⟨kh_472_ok, (List.forall_mem_nil _)⟩)⟩)⟩) (by decide +kernel)
/- UtilityWorksModel mC -/
def kh_516 : ct_T := (338, [(0, 0, 7, 1), (0, 0, 0, 0)], [], [], [(1, (0, 1301, 1413, 16), [(0, 0, 7, 1), (0, 0, 0, 0)], [], ([], []))], [], 0, 0, 0)
theorem kh_516_ok : ct_ok wd_fl1 kh_516 := ct_of (ff := wd_ff1) (y := (⟨"UtilityWorksModel", "mC", "(II)I"⟩, prog_14_method_192_code, 2, some .int, 12, 0, 2, 31168, 31167, 0, 21014)) (Cs := []) (an := []) (ss := []) (K := 1) (fuel := 4000) wd_fl1_ok rfl (List.forall_mem_nil _) (by decide +kernel)
/- UtilityWorksModel customerAt -/
def kh_517 : ct_T := (402, [(2, 805, 805, 0), (0, 0, 7, 1)], [], [], [(1, (0, 0, 11, 1), [(2, 805, 805, 0), (0, 0, 7, 1)], [], ([], []))], [], 1, 21, 0)
theorem kh_517_ok : ct_ok wd_fl1 kh_517 := ct_of (ff := wd_ff1) (y := (⟨"UtilityWorksModel", "customerAt", "(I)I"⟩, prog_14_method_200_code, 2, some .int, 12, 1, 1, 33144, 33143, 7008, 21014)) (Cs := [kh_516]) (an := []) (ss := []) (K := 1) (fuel := 4000) wd_fl1_ok rfl (List.forall_mem_cons.mpr ⟨kh_516_ok, (List.forall_mem_nil _)⟩) (by decide +kernel)
/- UtilityWorksModel mC -/
def kh_518 : ct_T := (338, [(0, 0, 7, 1), (0, 2, 2, 0)], [], [], [(1, (0, 1303, 1415, 16), [(0, 0, 7, 1), (0, 2, 2, 0)], [], ([], []))], [], 0, 0, 0)
theorem kh_518_ok : ct_ok wd_fl1 kh_518 := ct_of (ff := wd_ff1) (y := (⟨"UtilityWorksModel", "mC", "(II)I"⟩, prog_14_method_192_code, 2, some .int, 12, 0, 2, 31168, 31167, 0, 21014)) (Cs := []) (an := []) (ss := []) (K := 1) (fuel := 4000) wd_fl1_ok rfl (List.forall_mem_nil _) (by decide +kernel)
/- UtilityWorksModel isConnected -/
def kh_519 : ct_T := (451, [(2, 805, 805, 0), (0, 0, 7, 1), (0, 2, 2, 0)], [], [], [(1, (0, 0, 0, 0), [(2, 805, 805, 0), (0, 0, 7, 1), (0, 2, 2, 0)], [], ([], [])), (1, (0, 1, 1, 0), [(2, 805, 805, 0), (0, 0, 7, 1), (0, 2, 2, 0)], [], ([], []))], [], 1, 21, 0)
theorem kh_519_ok : ct_ok wd_fl1 kh_519 := ct_of (ff := wd_ff1) (y := (⟨"UtilityWorksModel", "isConnected", "(II)Z"⟩, prog_14_method_203_code, 3, some .boolean, 12, 1, 2, 34098, 34097, 10007, 21014)) (Cs := [kh_518]) (an := []) (ss := []) (K := 1) (fuel := 4000) wd_fl1_ok rfl (List.forall_mem_cons.mpr ⟨kh_518_ok, (List.forall_mem_nil _)⟩) (by decide +kernel)
/- UtilityWorksModel mC -/
def kh_520 : ct_T := (338, [(0, 0, 7, 1), (0, 5, 5, 0)], [], [], [(1, (0, 1306, 1418, 16), [(0, 0, 7, 1), (0, 5, 5, 0)], [], ([], []))], [], 0, 0, 0)
theorem kh_520_ok : ct_ok wd_fl1 kh_520 := ct_of (ff := wd_ff1) (y := (⟨"UtilityWorksModel", "mC", "(II)I"⟩, prog_14_method_192_code, 2, some .int, 12, 0, 2, 31168, 31167, 0, 21014)) (Cs := []) (an := []) (ss := []) (K := 1) (fuel := 4000) wd_fl1_ok rfl (List.forall_mem_nil _) (by decide +kernel)
/- UtilityWorksModel needOf -/
def kh_521 : ct_T := (452, [(2, 805, 805, 0), (0, 0, 7, 1), (0, 2, 2, 0)], [], [], [(1, (0, (-2147483648), 2147483647, 1), [(2, 805, 805, 0), (0, 0, 7, 1), (0, 2, 2, 0)], [], ([], []))], [], 1, 21, 0)
theorem kh_521_ok : ct_ok wd_fl1 kh_521 := ct_of (ff := wd_ff1) (y := (⟨"UtilityWorksModel", "needOf", "(II)I"⟩, prog_14_method_202_code, 3, some .int, 12, 1, 2, 34102, 34101, 10008, 21014)) (Cs := [kh_520]) (an := []) (ss := []) (K := 1) (fuel := 4000) wd_fl1_ok rfl (List.forall_mem_cons.mpr ⟨kh_520_ok, (List.forall_mem_nil _)⟩) (by decide +kernel)
/- UtilityWorksModel heatWants -/
def kh_522 : ct_T := (483, [(2, 805, 805, 0), (0, 0, 7, 1)], [], [], [(1, (0, 0, 0, 0), [(2, 805, 805, 0), (0, 0, 7, 1)], [], ([], [])), (1, (0, (-2147483648), 2147483647, 1), [(2, 805, 805, 0), (0, 0, 7, 1)], [], ([], []))], [], 2, 43, 0)
theorem kh_522_ok : ct_ok wd_fl1 kh_522 := ct_of (ff := wd_ff1) (y := (⟨"UtilityWorksModel", "heatWants", "(I)I"⟩, prog_14_method_160_code, 2, some .int, 12, 1, 1, 34225, 34224, 12006, 21014)) (Cs := [kh_519, kh_521, kh_472]) (an := []) (ss := []) (K := 1) (fuel := 4000) wd_fl1_ok rfl (List.forall_mem_cons.mpr ⟨kh_519_ok, (List.forall_mem_cons.mpr ⟨kh_521_ok, (List.forall_mem_cons.mpr ⟨kh_472_ok, (List.forall_mem_nil _)⟩)⟩)⟩) (by decide +kernel)
/- UtilityWorksModel mC -/
def kh_523 : ct_T := (338, [(0, 0, 8, 1), (0, 0, 0, 0)], [], [], [(1, (0, 1301, 1429, 16), [(0, 0, 8, 1), (0, 0, 0, 0)], [], ([], []))], [], 0, 0, 0)
theorem kh_523_ok : ct_ok wd_fl1 kh_523 := ct_of (ff := wd_ff1) (y := (⟨"UtilityWorksModel", "mC", "(II)I"⟩, prog_14_method_192_code, 2, some .int, 12, 0, 2, 31168, 31167, 0, 21014)) (Cs := []) (an := []) (ss := []) (K := 1) (fuel := 4000) wd_fl1_ok rfl (List.forall_mem_nil _) (by decide +kernel)
/- UtilityWorksModel customerAt -/
def kh_524 : ct_T := (402, [(2, 805, 805, 0), (0, 0, 8, 1)], [], [], [(1, (0, 0, 11, 1), [(2, 805, 805, 0), (0, 0, 8, 1)], [], ([], []))], [], 1, 21, 0)
theorem kh_524_ok : ct_ok wd_fl1 kh_524 := ct_of (ff := wd_ff1) (y := (⟨"UtilityWorksModel", "customerAt", "(I)I"⟩, prog_14_method_200_code, 2, some .int, 12, 1, 1, 33144, 33143, 7008, 21014)) (Cs := [kh_523]) (an := []) (ss := []) (K := 1) (fuel := 4000) wd_fl1_ok rfl (List.forall_mem_cons.mpr ⟨kh_523_ok, (List.forall_mem_nil _)⟩) (by decide +kernel)
/- UtilityWorksModel mC -/
def kh_525 : ct_T := (338, [(0, 0, 8, 1), (0, 2, 2, 0)], [], [], [(1, (0, 1303, 1431, 16), [(0, 0, 8, 1), (0, 2, 2, 0)], [], ([], []))], [], 0, 0, 0)
theorem kh_525_ok : ct_ok wd_fl1 kh_525 := ct_of (ff := wd_ff1) (y := (⟨"UtilityWorksModel", "mC", "(II)I"⟩, prog_14_method_192_code, 2, some .int, 12, 0, 2, 31168, 31167, 0, 21014)) (Cs := []) (an := []) (ss := []) (K := 1) (fuel := 4000) wd_fl1_ok rfl (List.forall_mem_nil _) (by decide +kernel)
/- UtilityWorksModel isConnected -/
def kh_526 : ct_T := (451, [(2, 805, 805, 0), (0, 0, 8, 1), (0, 2, 2, 0)], [], [], [(1, (0, 0, 0, 0), [(2, 805, 805, 0), (0, 0, 8, 1), (0, 2, 2, 0)], [], ([], [])), (1, (0, 1, 1, 0), [(2, 805, 805, 0), (0, 0, 8, 1), (0, 2, 2, 0)], [], ([], []))], [], 1, 21, 0)
theorem kh_526_ok : ct_ok wd_fl1 kh_526 := ct_of (ff := wd_ff1) (y := (⟨"UtilityWorksModel", "isConnected", "(II)Z"⟩, prog_14_method_203_code, 3, some .boolean, 12, 1, 2, 34098, 34097, 10007, 21014)) (Cs := [kh_525]) (an := []) (ss := []) (K := 1) (fuel := 4000) wd_fl1_ok rfl (List.forall_mem_cons.mpr ⟨kh_525_ok, (List.forall_mem_nil _)⟩) (by decide +kernel)
/- UtilityWorksModel mC -/
def kh_527 : ct_T := (338, [(0, 0, 8, 1), (0, 5, 5, 0)], [], [], [(1, (0, 1306, 1434, 16), [(0, 0, 8, 1), (0, 5, 5, 0)], [], ([], []))], [], 0, 0, 0)
theorem kh_527_ok : ct_ok wd_fl1 kh_527 := ct_of (ff := wd_ff1) (y := (⟨"UtilityWorksModel", "mC", "(II)I"⟩, prog_14_method_192_code, 2, some .int, 12, 0, 2, 31168, 31167, 0, 21014)) (Cs := []) (an := []) (ss := []) (K := 1) (fuel := 4000) wd_fl1_ok rfl (List.forall_mem_nil _) (by decide +kernel)
/- UtilityWorksModel needOf -/
def kh_528 : ct_T := (452, [(2, 805, 805, 0), (0, 0, 8, 1), (0, 2, 2, 0)], [], [], [(1, (0, (-2147483648), 2147483647, 1), [(2, 805, 805, 0), (0, 0, 8, 1), (0, 2, 2, 0)], [], ([], []))], [], 1, 21, 0)
theorem kh_528_ok : ct_ok wd_fl1 kh_528 := ct_of (ff := wd_ff1) (y := (⟨"UtilityWorksModel", "needOf", "(II)I"⟩, prog_14_method_202_code, 3, some .int, 12, 1, 2, 34102, 34101, 10008, 21014)) (Cs := [kh_527]) (an := []) (ss := []) (K := 1) (fuel := 4000) wd_fl1_ok rfl (List.forall_mem_cons.mpr ⟨kh_527_ok, (List.forall_mem_nil _)⟩) (by decide +kernel)
/- UtilityWorksModel heatWants -/
def kh_529 : ct_T := (483, [(2, 805, 805, 0), (0, 0, 8, 1)], [], [], [(1, (0, 0, 0, 0), [(2, 805, 805, 0), (0, 0, 8, 1)], [], ([], [])), (1, (0, (-2147483648), 2147483647, 1), [(2, 805, 805, 0), (0, 0, 8, 1)], [], ([], []))], [], 2, 43, 0)
theorem kh_529_ok : ct_ok wd_fl1 kh_529 := ct_of (ff := wd_ff1) (y := (⟨"UtilityWorksModel", "heatWants", "(I)I"⟩, prog_14_method_160_code, 2, some .int, 12, 1, 1, 34225, 34224, 12006, 21014)) (Cs := [kh_526, kh_528, kh_472]) (an := []) (ss := []) (K := 1) (fuel := 4000) wd_fl1_ok rfl (List.forall_mem_cons.mpr ⟨kh_526_ok, (List.forall_mem_cons.mpr ⟨kh_528_ok, (List.forall_mem_cons.mpr ⟨kh_472_ok, (List.forall_mem_nil _)⟩)⟩)⟩) (by decide +kernel)
/- UtilityWorksModel isConnected -/
def kh_530 : ct_T := (451, [(2, 805, 805, 0), (0, 0, 9, 1), (0, 2, 2, 0)], [], [], [(1, (0, 0, 0, 0), [(2, 805, 805, 0), (0, 0, 9, 1), (0, 2, 2, 0)], [], ([], [])), (1, (0, 1, 1, 0), [(2, 805, 805, 0), (0, 0, 9, 1), (0, 2, 2, 0)], [], ([], []))], [], 1, 21, 0)
theorem kh_530_ok : ct_ok wd_fl1 kh_530 := ct_of (ff := wd_ff1) (y := (⟨"UtilityWorksModel", "isConnected", "(II)Z"⟩, prog_14_method_203_code, 3, some .boolean, 12, 1, 2, 34098, 34097, 10007, 21014)) (Cs := [kh_396]) (an := []) (ss := []) (K := 1) (fuel := 4000) wd_fl1_ok rfl (List.forall_mem_cons.mpr ⟨kh_396_l, (List.forall_mem_nil _)⟩) (by decide +kernel)
/- UtilityWorksModel mC -/
def kh_531 : ct_T := (338, [(0, 0, 9, 1), (0, 5, 5, 0)], [], [], [(1, (0, 1306, 1450, 16), [(0, 0, 9, 1), (0, 5, 5, 0)], [], ([], []))], [], 0, 0, 0)
theorem kh_531_ok : ct_ok wd_fl1 kh_531 := ct_of (ff := wd_ff1) (y := (⟨"UtilityWorksModel", "mC", "(II)I"⟩, prog_14_method_192_code, 2, some .int, 12, 0, 2, 31168, 31167, 0, 21014)) (Cs := []) (an := []) (ss := []) (K := 1) (fuel := 4000) wd_fl1_ok rfl (List.forall_mem_nil _) (by decide +kernel)
/- UtilityWorksModel needOf -/
def kh_532 : ct_T := (452, [(2, 805, 805, 0), (0, 0, 9, 1), (0, 2, 2, 0)], [], [], [(1, (0, (-2147483648), 2147483647, 1), [(2, 805, 805, 0), (0, 0, 9, 1), (0, 2, 2, 0)], [], ([], []))], [], 1, 21, 0)
theorem kh_532_ok : ct_ok wd_fl1 kh_532 := ct_of (ff := wd_ff1) (y := (⟨"UtilityWorksModel", "needOf", "(II)I"⟩, prog_14_method_202_code, 3, some .int, 12, 1, 2, 34102, 34101, 10008, 21014)) (Cs := [kh_531]) (an := []) (ss := []) (K := 1) (fuel := 4000) wd_fl1_ok rfl (List.forall_mem_cons.mpr ⟨kh_531_ok, (List.forall_mem_nil _)⟩) (by decide +kernel)
/- UtilityWorksModel heatWants -/
def kh_533 : ct_T := (483, [(2, 805, 805, 0), (0, 0, 9, 1)], [], [], [(1, (0, 0, 0, 0), [(2, 805, 805, 0), (0, 0, 9, 1)], [], ([], [])), (1, (0, (-2147483648), 2147483647, 1), [(2, 805, 805, 0), (0, 0, 9, 1)], [], ([], []))], [], 2, 43, 0)
theorem kh_533_ok : ct_ok wd_fl1 kh_533 := ct_of (ff := wd_ff1) (y := (⟨"UtilityWorksModel", "heatWants", "(I)I"⟩, prog_14_method_160_code, 2, some .int, 12, 1, 1, 34225, 34224, 12006, 21014)) (Cs := [kh_530, kh_532, kh_472]) (an := []) (ss := []) (K := 1) (fuel := 4000) wd_fl1_ok rfl (List.forall_mem_cons.mpr ⟨kh_530_ok, (List.forall_mem_cons.mpr ⟨kh_532_ok, (List.forall_mem_cons.mpr ⟨kh_472_ok, (List.forall_mem_nil _)⟩)⟩)⟩) (by decide +kernel)
/- UtilityWorksModel hShare -/
def kh_534 : ct_T := (496, [(2, 805, 805, 0), (0, 0, 0, 0)], [], [], [(0, (0, 0, 0, 0), [(2, 805, 805, 0), (0, 0, 0, 0)], [], ([], []))], [((852, 852), (0, 0, 0)), ((857, 857), (0, 9, 1))], 3, 64, 0)
theorem kh_534_ok : ct_ok wd_fl1 kh_534 := ct_of (ff := wd_ff1) (y := (⟨"UtilityWorksModel", "hShare", "(I)V"⟩, prog_14_method_173_code, 5, none, 12, 1, 1, 35037, 35036, 13003, 21014)) (Cs := [kh_393, kh_395, kh_533]) (an := [(9, 0, ([((2, 805, 805, 0), none), ((0, 0, 0, 0), none), ((0, (-2147483648), 2147483647, 1), none), ((0, 0, 10, 1), none)], [(0, 0), (1, 1), (2, 2), (3, 3)], [], [], [], [], [], [], none), [(0, 0, 99991), (1, 3, 10), (0, 0, 99991)]), (102, 0, ([((2, 805, 805, 0), none), ((0, 0, 0, 0), none), ((0, (-2147483648), 2147483647, 1), none), ((0, 0, 9, 1), none), ((0, 0, 9, 1), none)], [(0, 0), (1, 1), (2, 2), (3, 3), (4, 4)], [], [], [], [], [], [], none), [(0, 0, 99991), (1, 3, 10), (0, 0, 99898)])]) (ss := []) (K := 3) (fuel := 4000) wd_fl1_ok rfl (List.forall_mem_cons.mpr ⟨kh_393_l, (List.forall_mem_cons.mpr ⟨kh_395_l, (List.forall_mem_cons.mpr ⟨kh_533_ok, (List.forall_mem_nil _)⟩)⟩)⟩) (by decide +kernel)
/- UtilityWorksModel hShare -/
def kh_535 : ct_T := (496, [(2, 805, 805, 0), (0, 0, 1, 1)], [], [], [(0, (0, 0, 0, 0), [(2, 805, 805, 0), (0, 0, 1, 1)], [], ([], []))], [((852, 852), (0, 1, 1)), ((857, 857), (0, 9, 1))], 3, 64, 0)
theorem kh_535_ok : ct_ok wd_fl1 kh_535 := ct_of (ff := wd_ff1) (y := (⟨"UtilityWorksModel", "hShare", "(I)V"⟩, prog_14_method_173_code, 5, none, 12, 1, 1, 35037, 35036, 13003, 21014)) (Cs := [kh_393, kh_395, kh_533]) (an := [(9, 0, ([((2, 805, 805, 0), none), ((0, 0, 1, 1), none), ((0, (-2147483648), 2147483647, 1), none), ((0, 0, 10, 1), none)], [(0, 0), (1, 1), (2, 2), (3, 3)], [], [], [], [], [], [], none), [(0, 0, 99991), (1, 3, 10), (0, 0, 99991)]), (102, 0, ([((2, 805, 805, 0), none), ((0, 0, 1, 1), none), ((0, (-2147483648), 2147483647, 1), none), ((0, 0, 9, 1), none), ((0, 0, 9, 1), none)], [(0, 0), (1, 1), (2, 2), (3, 3), (4, 4)], [], [], [], [], [], [], none), [(0, 0, 99991), (1, 3, 10), (0, 0, 99898)])]) (ss := []) (K := 3) (fuel := 4000) wd_fl1_ok rfl (List.forall_mem_cons.mpr ⟨kh_393_l, (List.forall_mem_cons.mpr ⟨kh_395_l, (List.forall_mem_cons.mpr ⟨kh_533_ok, (List.forall_mem_nil _)⟩)⟩)⟩) (by decide +kernel)
/- UtilityWorksModel hShare -/
def kh_536 : ct_T := (496, [(2, 805, 805, 0), (0, 0, 2, 1)], [], [], [(0, (0, 0, 0, 0), [(2, 805, 805, 0), (0, 0, 2, 1)], [], ([], []))], [((852, 852), (0, 2, 1)), ((857, 857), (0, 9, 1))], 3, 64, 0)
theorem kh_536_ok : ct_ok wd_fl1 kh_536 := ct_of (ff := wd_ff1) (y := (⟨"UtilityWorksModel", "hShare", "(I)V"⟩, prog_14_method_173_code, 5, none, 12, 1, 1, 35037, 35036, 13003, 21014)) (Cs := [kh_393, kh_395, kh_533]) (an := [(9, 0, ([((2, 805, 805, 0), none), ((0, 0, 2, 1), none), ((0, (-2147483648), 2147483647, 1), none), ((0, 0, 10, 1), none)], [(0, 0), (1, 1), (2, 2), (3, 3)], [], [], [], [], [], [], none), [(0, 0, 99991), (1, 3, 10), (0, 0, 99991)]), (102, 0, ([((2, 805, 805, 0), none), ((0, 0, 2, 1), none), ((0, (-2147483648), 2147483647, 1), none), ((0, 0, 9, 1), none), ((0, 0, 9, 1), none)], [(0, 0), (1, 1), (2, 2), (3, 3), (4, 4)], [], [], [], [], [], [], none), [(0, 0, 99991), (1, 3, 10), (0, 0, 99898)])]) (ss := []) (K := 3) (fuel := 4000) wd_fl1_ok rfl (List.forall_mem_cons.mpr ⟨kh_393_l, (List.forall_mem_cons.mpr ⟨kh_395_l, (List.forall_mem_cons.mpr ⟨kh_533_ok, (List.forall_mem_nil _)⟩)⟩)⟩) (by decide +kernel)
/- UtilityWorksModel hShare -/
def kh_537 : ct_T := (496, [(2, 805, 805, 0), (0, 0, 3, 1)], [], [], [(0, (0, 0, 0, 0), [(2, 805, 805, 0), (0, 0, 3, 1)], [], ([], []))], [((852, 852), (0, 3, 1)), ((857, 857), (0, 9, 1))], 3, 64, 0)
theorem kh_537_ok : ct_ok wd_fl1 kh_537 := ct_of (ff := wd_ff1) (y := (⟨"UtilityWorksModel", "hShare", "(I)V"⟩, prog_14_method_173_code, 5, none, 12, 1, 1, 35037, 35036, 13003, 21014)) (Cs := [kh_393, kh_395, kh_533]) (an := [(9, 0, ([((2, 805, 805, 0), none), ((0, 0, 3, 1), none), ((0, (-2147483648), 2147483647, 1), none), ((0, 0, 10, 1), none)], [(0, 0), (1, 1), (2, 2), (3, 3)], [], [], [], [], [], [], none), [(0, 0, 99991), (1, 3, 10), (0, 0, 99991)]), (102, 0, ([((2, 805, 805, 0), none), ((0, 0, 3, 1), none), ((0, (-2147483648), 2147483647, 1), none), ((0, 0, 9, 1), none), ((0, 0, 9, 1), none)], [(0, 0), (1, 1), (2, 2), (3, 3), (4, 4)], [], [], [], [], [], [], none), [(0, 0, 99991), (1, 3, 10), (0, 0, 99898)])]) (ss := []) (K := 3) (fuel := 4000) wd_fl1_ok rfl (List.forall_mem_cons.mpr ⟨kh_393_l, (List.forall_mem_cons.mpr ⟨kh_395_l, (List.forall_mem_cons.mpr ⟨kh_533_ok, (List.forall_mem_nil _)⟩)⟩)⟩) (by decide +kernel)
/- UtilityWorksModel hShare -/
def kh_538 : ct_T := (496, [(2, 805, 805, 0), (0, 0, 4, 1)], [], [], [(0, (0, 0, 0, 0), [(2, 805, 805, 0), (0, 0, 4, 1)], [], ([], []))], [((852, 852), (0, 4, 1)), ((857, 857), (0, 9, 1))], 3, 64, 0)
theorem kh_538_ok : ct_ok wd_fl1 kh_538 := ct_of (ff := wd_ff1) (y := (⟨"UtilityWorksModel", "hShare", "(I)V"⟩, prog_14_method_173_code, 5, none, 12, 1, 1, 35037, 35036, 13003, 21014)) (Cs := [kh_393, kh_395, kh_533]) (an := [(9, 0, ([((2, 805, 805, 0), none), ((0, 0, 4, 1), none), ((0, (-2147483648), 2147483647, 1), none), ((0, 0, 10, 1), none)], [(0, 0), (1, 1), (2, 2), (3, 3)], [], [], [], [], [], [], none), [(0, 0, 99991), (1, 3, 10), (0, 0, 99991)]), (102, 0, ([((2, 805, 805, 0), none), ((0, 0, 4, 1), none), ((0, (-2147483648), 2147483647, 1), none), ((0, 0, 9, 1), none), ((0, 0, 9, 1), none)], [(0, 0), (1, 1), (2, 2), (3, 3), (4, 4)], [], [], [], [], [], [], none), [(0, 0, 99991), (1, 3, 10), (0, 0, 99898)])]) (ss := []) (K := 3) (fuel := 4000) wd_fl1_ok rfl (List.forall_mem_cons.mpr ⟨kh_393_l, (List.forall_mem_cons.mpr ⟨kh_395_l, (List.forall_mem_cons.mpr ⟨kh_533_ok, (List.forall_mem_nil _)⟩)⟩)⟩) (by decide +kernel)
/- UtilityWorksModel hShare -/
def kh_539 : ct_T := (496, [(2, 805, 805, 0), (0, 0, 5, 1)], [], [], [(0, (0, 0, 0, 0), [(2, 805, 805, 0), (0, 0, 5, 1)], [], ([], []))], [((852, 852), (0, 5, 1)), ((857, 857), (0, 9, 1))], 3, 64, 0)
theorem kh_539_ok : ct_ok wd_fl1 kh_539 := ct_of (ff := wd_ff1) (y := (⟨"UtilityWorksModel", "hShare", "(I)V"⟩, prog_14_method_173_code, 5, none, 12, 1, 1, 35037, 35036, 13003, 21014)) (Cs := [kh_393, kh_395, kh_533]) (an := [(9, 0, ([((2, 805, 805, 0), none), ((0, 0, 5, 1), none), ((0, (-2147483648), 2147483647, 1), none), ((0, 0, 10, 1), none)], [(0, 0), (1, 1), (2, 2), (3, 3)], [], [], [], [], [], [], none), [(0, 0, 99991), (1, 3, 10), (0, 0, 99991)]), (102, 0, ([((2, 805, 805, 0), none), ((0, 0, 5, 1), none), ((0, (-2147483648), 2147483647, 1), none), ((0, 0, 9, 1), none), ((0, 0, 9, 1), none)], [(0, 0), (1, 1), (2, 2), (3, 3), (4, 4)], [], [], [], [], [], [], none), [(0, 0, 99991), (1, 3, 10), (0, 0, 99898)])]) (ss := []) (K := 3) (fuel := 4000) wd_fl1_ok rfl (List.forall_mem_cons.mpr ⟨kh_393_l, (List.forall_mem_cons.mpr ⟨kh_395_l, (List.forall_mem_cons.mpr ⟨kh_533_ok, (List.forall_mem_nil _)⟩)⟩)⟩) (by decide +kernel)
/- UtilityWorksModel hShare -/
def kh_540 : ct_T := (496, [(2, 805, 805, 0), (0, 0, 6, 1)], [], [], [(0, (0, 0, 0, 0), [(2, 805, 805, 0), (0, 0, 6, 1)], [], ([], []))], [((852, 852), (0, 6, 1)), ((857, 857), (0, 9, 1))], 3, 64, 0)
theorem kh_540_ok : ct_ok wd_fl1 kh_540 := ct_of (ff := wd_ff1) (y := (⟨"UtilityWorksModel", "hShare", "(I)V"⟩, prog_14_method_173_code, 5, none, 12, 1, 1, 35037, 35036, 13003, 21014)) (Cs := [kh_393, kh_395, kh_533]) (an := [(9, 0, ([((2, 805, 805, 0), none), ((0, 0, 6, 1), none), ((0, (-2147483648), 2147483647, 1), none), ((0, 0, 10, 1), none)], [(0, 0), (1, 1), (2, 2), (3, 3)], [], [], [], [], [], [], none), [(0, 0, 99991), (1, 3, 10), (0, 0, 99991)]), (102, 0, ([((2, 805, 805, 0), none), ((0, 0, 6, 1), none), ((0, (-2147483648), 2147483647, 1), none), ((0, 0, 9, 1), none), ((0, 0, 9, 1), none)], [(0, 0), (1, 1), (2, 2), (3, 3), (4, 4)], [], [], [], [], [], [], none), [(0, 0, 99991), (1, 3, 10), (0, 0, 99898)])]) (ss := []) (K := 3) (fuel := 4000) wd_fl1_ok rfl (List.forall_mem_cons.mpr ⟨kh_393_l, (List.forall_mem_cons.mpr ⟨kh_395_l, (List.forall_mem_cons.mpr ⟨kh_533_ok, (List.forall_mem_nil _)⟩)⟩)⟩) (by decide +kernel)
/- UtilityWorksModel hShare -/
def kh_541 : ct_T := (496, [(2, 805, 805, 0), (0, 0, 7, 1)], [], [], [(0, (0, 0, 0, 0), [(2, 805, 805, 0), (0, 0, 7, 1)], [], ([], []))], [((852, 852), (0, 7, 1)), ((857, 857), (0, 9, 1))], 3, 64, 0)
theorem kh_541_ok : ct_ok wd_fl1 kh_541 := ct_of (ff := wd_ff1) (y := (⟨"UtilityWorksModel", "hShare", "(I)V"⟩, prog_14_method_173_code, 5, none, 12, 1, 1, 35037, 35036, 13003, 21014)) (Cs := [kh_393, kh_395, kh_533]) (an := [(9, 0, ([((2, 805, 805, 0), none), ((0, 0, 7, 1), none), ((0, (-2147483648), 2147483647, 1), none), ((0, 0, 10, 1), none)], [(0, 0), (1, 1), (2, 2), (3, 3)], [], [], [], [], [], [], none), [(0, 0, 99991), (1, 3, 10), (0, 0, 99991)]), (102, 0, ([((2, 805, 805, 0), none), ((0, 0, 7, 1), none), ((0, (-2147483648), 2147483647, 1), none), ((0, 0, 9, 1), none), ((0, 0, 9, 1), none)], [(0, 0), (1, 1), (2, 2), (3, 3), (4, 4)], [], [], [], [], [], [], none), [(0, 0, 99991), (1, 3, 10), (0, 0, 99898)])]) (ss := []) (K := 3) (fuel := 4000) wd_fl1_ok rfl (List.forall_mem_cons.mpr ⟨kh_393_l, (List.forall_mem_cons.mpr ⟨kh_395_l, (List.forall_mem_cons.mpr ⟨kh_533_ok, (List.forall_mem_nil _)⟩)⟩)⟩) (by decide +kernel)
/- UtilityWorksModel hShare -/
def kh_542 : ct_T := (496, [(2, 805, 805, 0), (0, 0, 8, 1)], [], [], [(0, (0, 0, 0, 0), [(2, 805, 805, 0), (0, 0, 8, 1)], [], ([], []))], [((852, 852), (0, 8, 1)), ((857, 857), (0, 9, 1))], 3, 64, 0)
theorem kh_542_ok : ct_ok wd_fl1 kh_542 := ct_of (ff := wd_ff1) (y := (⟨"UtilityWorksModel", "hShare", "(I)V"⟩, prog_14_method_173_code, 5, none, 12, 1, 1, 35037, 35036, 13003, 21014)) (Cs := [kh_393, kh_395, kh_533]) (an := [(9, 0, ([((2, 805, 805, 0), none), ((0, 0, 8, 1), none), ((0, (-2147483648), 2147483647, 1), none), ((0, 0, 10, 1), none)], [(0, 0), (1, 1), (2, 2), (3, 3)], [], [], [], [], [], [], none), [(0, 0, 99991), (1, 3, 10), (0, 0, 99991)]), (102, 0, ([((2, 805, 805, 0), none), ((0, 0, 8, 1), none), ((0, (-2147483648), 2147483647, 1), none), ((0, 0, 9, 1), none), ((0, 0, 9, 1), none)], [(0, 0), (1, 1), (2, 2), (3, 3), (4, 4)], [], [], [], [], [], [], none), [(0, 0, 99991), (1, 3, 10), (0, 0, 99898)])]) (ss := []) (K := 3) (fuel := 4000) wd_fl1_ok rfl (List.forall_mem_cons.mpr ⟨kh_393_l, (List.forall_mem_cons.mpr ⟨kh_395_l, (List.forall_mem_cons.mpr ⟨kh_533_ok, (List.forall_mem_nil _)⟩)⟩)⟩) (by decide +kernel)
/- UtilityWorksModel hShare -/
def kh_543 : ct_T := (496, [(2, 805, 805, 0), (0, 0, 9, 1)], [], [], [(0, (0, 0, 0, 0), [(2, 805, 805, 0), (0, 0, 9, 1)], [], ([], []))], [((852, 852), (0, 9, 1)), ((857, 857), (0, 9, 1))], 3, 64, 0)
theorem kh_543_ok : ct_ok wd_fl1 kh_543 := ct_of (ff := wd_ff1) (y := (⟨"UtilityWorksModel", "hShare", "(I)V"⟩, prog_14_method_173_code, 5, none, 12, 1, 1, 35037, 35036, 13003, 21014)) (Cs := [kh_393, kh_395, kh_533]) (an := [(9, 0, ([((2, 805, 805, 0), none), ((0, 0, 9, 1), none), ((0, (-2147483648), 2147483647, 1), none), ((0, 0, 10, 1), none)], [(0, 0), (1, 1), (2, 2), (3, 3)], [], [], [], [], [], [], none), [(0, 0, 99991), (1, 3, 10), (0, 0, 99991)]), (102, 0, ([((2, 805, 805, 0), none), ((0, 0, 9, 1), none), ((0, (-2147483648), 2147483647, 1), none), ((0, 0, 9, 1), none), ((0, 0, 9, 1), none)], [(0, 0), (1, 1), (2, 2), (3, 3), (4, 4)], [], [], [], [], [], [], none), [(0, 0, 99991), (1, 3, 10), (0, 0, 99898)])]) (ss := []) (K := 3) (fuel := 4000) wd_fl1_ok rfl (List.forall_mem_cons.mpr ⟨kh_393_l, (List.forall_mem_cons.mpr ⟨kh_395_l, (List.forall_mem_cons.mpr ⟨kh_533_ok, (List.forall_mem_nil _)⟩)⟩)⟩) (by decide +kernel)
/- UtilityWorksModel hShare -/
def kh_544 : ct_T := (496, [(2, 805, 805, 0), (0, 0, 10, 1)], [], [], [(0, (0, 0, 0, 0), [(2, 805, 805, 0), (0, 0, 10, 1)], [], ([], []))], [((852, 852), (0, 10, 1)), ((857, 857), (0, 9, 1))], 3, 64, 0)
theorem kh_544_ok : ct_ok wd_fl1 kh_544 := ct_of (ff := wd_ff1) (y := (⟨"UtilityWorksModel", "hShare", "(I)V"⟩, prog_14_method_173_code, 5, none, 12, 1, 1, 35037, 35036, 13003, 21014)) (Cs := [kh_393, kh_395, kh_533]) (an := [(9, 0, ([((2, 805, 805, 0), none), ((0, 0, 10, 1), none), ((0, (-2147483648), 2147483647, 1), none), ((0, 0, 10, 1), none)], [(0, 0), (1, 1), (2, 2), (3, 3)], [], [], [], [], [], [], none), [(0, 0, 99991), (1, 3, 10), (0, 0, 99991)]), (102, 0, ([((2, 805, 805, 0), none), ((0, 0, 10, 1), none), ((0, (-2147483648), 2147483647, 1), none), ((0, 0, 9, 1), none), ((0, 0, 9, 1), none)], [(0, 0), (1, 1), (2, 2), (3, 3), (4, 4)], [], [], [], [], [], [], none), [(0, 0, 99991), (1, 3, 10), (0, 0, 99898)])]) (ss := []) (K := 3) (fuel := 4000) wd_fl1_ok rfl (List.forall_mem_cons.mpr ⟨kh_393_l, (List.forall_mem_cons.mpr ⟨kh_395_l, (List.forall_mem_cons.mpr ⟨kh_533_ok, (List.forall_mem_nil _)⟩)⟩)⟩) (by decide +kernel)
/- UtilityWorksModel hShare -/
def kh_545 : ct_T := (496, [(2, 805, 805, 0), (0, 0, 11, 1)], [], [], [(0, (0, 0, 0, 0), [(2, 805, 805, 0), (0, 0, 11, 1)], [], ([], []))], [((852, 852), (0, 11, 1)), ((857, 857), (0, 9, 1))], 3, 64, 0)
theorem kh_545_ok : ct_ok wd_fl1 kh_545 := ct_of (ff := wd_ff1) (y := (⟨"UtilityWorksModel", "hShare", "(I)V"⟩, prog_14_method_173_code, 5, none, 12, 1, 1, 35037, 35036, 13003, 21014)) (Cs := [kh_393, kh_395, kh_533]) (an := [(9, 0, ([((2, 805, 805, 0), none), ((0, 0, 11, 1), none), ((0, (-2147483648), 2147483647, 1), none), ((0, 0, 10, 1), none)], [(0, 0), (1, 1), (2, 2), (3, 3)], [], [], [], [], [], [], none), [(0, 0, 99991), (1, 3, 10), (0, 0, 99991)]), (102, 0, ([((2, 805, 805, 0), none), ((0, 0, 11, 1), none), ((0, (-2147483648), 2147483647, 1), none), ((0, 0, 9, 1), none), ((0, 0, 9, 1), none)], [(0, 0), (1, 1), (2, 2), (3, 3), (4, 4)], [], [], [], [], [], [], none), [(0, 0, 99991), (1, 3, 10), (0, 0, 99898)])]) (ss := []) (K := 3) (fuel := 4000) wd_fl1_ok rfl (List.forall_mem_cons.mpr ⟨kh_393_l, (List.forall_mem_cons.mpr ⟨kh_395_l, (List.forall_mem_cons.mpr ⟨kh_533_ok, (List.forall_mem_nil _)⟩)⟩)⟩) (by decide +kernel)
abbrev kh_heatDeal_y : mt_T := (⟨"UtilityWorksModel", "heatDeal", "()V"⟩, prog_14_method_172_code, 3, none, 12, 1, 0, 34221, 34220, 12005, 21014)
def kh_heatDeal : ct_T := (482, [(2, 805, 805, 0)], [], [], [(0, (0, 0, 0, 0), [(2, 805, 805, 0)], [], ([502], []))], [((805, 805), (61, 61, 0)), ((805, 805), (62, 62, 0)), ((846, 846), (0, 1, 1)), ((847, 847), (0, 1, 1)), ((848, 848), (0, 33, 1)), ((849, 849), (0, 16, 1)), ((850, 850), (0, 11, 1)), ((851, 851), (0, 11, 1)), ((852, 852), (0, 11, 1)), ((854, 854), (0, 11, 1)), ((855, 855), (0, 23, 1)), ((856, 856), (0, 287, 1)), ((857, 857), (0, 9, 1)), ((858, 858), (0, 9, 1))], 6, 140, 0)
def kh_heatDeal_a2 : an_T := (2, 0, ([((2, 805, 805, 0), none), ((0, 0, 34, 1), none)], [(0, 0), (1, 1)], [], [], [], [], [], [], none), [])
def kh_heatDeal_a32 : an_T := (32, 0, ([((2, 805, 805, 0), none), ((0, 0, 12, 1), none)], [(0, 0), (1, 1)], [], [], [], [], [], [], none), [])
def kh_heatDeal_a67 : an_T := (67, 0, ([((2, 805, 805, 0), none), ((0, 0, 10, 1), none)], [(0, 0), (1, 1)], [], [], [], [], [], [], none), [])
def kh_heatDeal_a101 : an_T := (101, 0, ([((2, 805, 805, 0), none), ((0, 0, 2, 1), none)], [(0, 0), (1, 1)], [], [], [], [], [], [], none), [])
def kh_heatDeal_a113 : an_T := (113, 0, ([((2, 805, 805, 0), none), ((0, 0, 1, 1), none)], [(0, 0), (1, 1)], [], [], [], [], [], [], none), [])
def kh_heatDeal_a148 : an_T := (148, 0, ([((2, 805, 805, 0), none), ((0, 0, 12, 1), none)], [(0, 0), (1, 1)], [], [], [], [], [], [], none), [])
def kh_heatDeal_a161 : an_T := (161, 0, ([((2, 805, 805, 0), none), ((0, 0, 11, 1), none), ((0, 0, 2, 1), none)], [(0, 0), (1, 1), (2, 2)], [], [], [], [], [], [], none), [])
def kh_heatDeal_a191 : an_T := (191, 0, ([((2, 805, 805, 0), none), ((0, 12, 12, 1), none)], [(0, 0), (1, 1)], [], [], [], [], [], [], none), [])
def kh_heatDeal_a199 : an_T := (199, 0, ([((2, 805, 805, 0), none), ((0, 12, 12, 1), none)], [(0, 0), (1, 1)], [0], [], [], [], [], [], none), [])
def kh_heatDeal_a202 : an_T := (202, 0, ([((2, 805, 805, 0), none), ((0, 12, 12, 1), none)], [(0, 0), (1, 1)], [], [], [], [], [], [], none), [])
def kh_heatDeal_a211 : an_T := (211, 0, ([((2, 805, 805, 0), none), ((0, 0, 12, 1), none)], [(0, 0), (1, 1)], [], [], [], [], [], [], none), [])
def kh_heatDeal_b0_0 : sg_T := (2, 0, ([((2, 805, 805, 0), none), ((0, 0, 0, 0), none)], [(1, 1), (0, 0)], [], [], [], [], [], [], some []))
def kh_heatDeal_b2_0 : sg_T := (32, 0, ([((2, 805, 805, 0), none), ((0, 34, 34, 1), none), ((0, 34, 34, 0), none), ((0, 0, 0, 0), none)], [(1, 3), (0, 0)], [], [], [], [(200000, 2, 1)], [], [], some []))
def kh_heatDeal_b2_1 : sg_T := (2, 0, ([((2, 805, 805, 0), none), ((0, 0, 33, 1), none), ((0, 34, 34, 0), none), ((2, 848, 848, 1), none), ((0, 0, 0, 0), none), ((2, 849, 849, 1), none), ((0, 2, 2, 0), none), ((0, 0, 16, 1), none), ((0, 0, 0, 0), none), ((0, 1, 34, 1), some (1, 1))], [(1, 9), (0, 0)], [], [(5, 7, 8), (3, 1, 4)], [], [(900007, 1, 6), (100000, 1, 2)], [], [], some [(5, 7, 8), (3, 1, 4)]))
def kh_heatDeal_b32_0 : sg_T := (67, 0, ([((2, 805, 805, 0), none), ((0, 12, 12, 1), none), ((0, 12, 12, 0), none), ((0, 0, 0, 0), none)], [(1, 3), (0, 0)], [], [], [], [(200000, 2, 1)], [], [], some []))
def kh_heatDeal_b32_1 : sg_T := (32, 0, ([((2, 805, 805, 0), none), ((0, 0, 11, 1), none), ((0, 12, 12, 0), none), ((2, 850, 850, 1), none), ((0, 0, 0, 0), none), ((2, 851, 851, 1), none), ((0, 0, 0, 0), none), ((2, 852, 852, 1), none), ((0, 0, 0, 0), none), ((0, 1, 12, 1), some (1, 1))], [(1, 9), (0, 0)], [], [(7, 1, 8), (5, 1, 6), (3, 1, 4)], [], [(100000, 1, 2)], [], [], some [(7, 1, 8), (5, 1, 6), (3, 1, 4)]))
def kh_heatDeal_b67_0 : sg_T := (101, 0, ([((2, 805, 805, 0), none), ((0, 6, 10, 1), none), ((0, 6, 10, 1), none), ((0, 0, 0, 0), none)], [(1, 3), (0, 0)], [], [], [], [(200000, 2, 1)], [], [], some []))
def kh_heatDeal_b67_1 : sg_T := (67, 0, ([((2, 805, 805, 0), none), ((0, 0, 9, 1), none), ((0, 6, 10, 1), none), ((2, 850, 850, 1), none), ((0, 0, 11, 1), none), ((0, (-2147483648), 2147483647, 1), none), ((0, 0, 0, 0), none), ((0, (-2147483648), 2147483647, 1), some (5, 0)), ((0, 1, 10, 1), some (1, 1))], [(1, 8), (0, 0)], [], [(3, 4, 7)], [], [(500007, 5, 6), (800005, 3, 4), (100000, 1, 2)], [], [], some [(3, 4, 7)]))
def kh_heatDeal_b67_2 : sg_T := (67, 0, ([((2, 805, 805, 0), none), ((0, 0, 9, 1), none), ((0, 6, 10, 1), none), ((2, 850, 850, 1), none), ((0, 0, 11, 1), none), ((0, (-2147483648), 2147483647, 1), none), ((0, (-2147483648), 2147483647, 1), none), ((0, (-2147483648), 2147483647, 1), none), ((0, 1, 10, 1), some (1, 1))], [(1, 8), (0, 0)], [], [(3, 4, 7)], [], [(800005, 3, 4), (100000, 1, 2)], [], [], some [(3, 4, 7)]))
def kh_heatDeal_b101_0 : sg_T := (148, 0, ([((2, 805, 805, 0), none), ((0, 2, 2, 1), none), ((0, 2, 2, 0), none), ((0, 0, 0, 0), none)], [(1, 3), (0, 0)], [], [], [], [(200000, 2, 1)], [], [], some []))
def kh_heatDeal_b101_1 : sg_T := (113, 0, ([((2, 805, 805, 0), none), ((0, 0, 1, 1), none), ((0, 2, 2, 0), none), ((2, 847, 847, 1), none), ((0, 0, 0, 0), none)], [(0, 0), (1, 1)], [], [(3, 1, 4)], [], [(100000, 1, 2)], [], [], some [(3, 1, 4)]))
def kh_heatDeal_b113_0 : sg_T := (101, 0, ([((2, 805, 805, 0), none), ((0, 1, 1, 1), none), ((2, 846, 846, 1), none), ((2, 806, 806, 1), none), ((0, 1200, 1200, 0), none), ((0, 1, 1, 1), none), ((0, 0, 0, 0), none), ((0, 2, 2, 1), some (1, 1))], [(1, 7), (0, 0)], [], [(2, 1, 6), (3, 4, 5)], [], [(200000, 5, 1), (800005, 3, 4)], [], [], some [(2, 1, 6)]))
def kh_heatDeal_b113_1 : sg_T := (101, 0, ([((2, 805, 805, 0), none), ((0, 0, 1, 1), none), ((2, 846, 846, 1), none), ((2, 806, 806, 1), none), ((0, 1200, 1200, 0), none), ((0, 1, 2, 1), none), ((0, 0, 300, 1), none), ((0, 1, 2, 1), some (1, 1))], [(1, 7), (0, 0)], [], [(2, 1, 6), (3, 4, 5)], [], [(101700006, 1, 1), (100000, 1, 5), (800005, 3, 4)], [], [], some [(2, 1, 6)]))
def kh_heatDeal_b148_0 : sg_T := (191, 0, ([((2, 805, 805, 0), none), ((0, 12, 12, 1), none), ((0, 12, 12, 0), none)], [(0, 0), (1, 1)], [], [], [], [(200000, 2, 1)], [], [], some []))
def kh_heatDeal_b148_1 : sg_T := (161, 0, ([((2, 805, 805, 0), none), ((0, 0, 11, 1), none), ((0, 12, 12, 0), none), ((0, 0, 0, 0), none)], [(2, 3), (0, 0), (1, 1)], [], [], [], [(100000, 1, 2)], [], [500], none))
def kh_heatDeal_b161_0 : sg_T := (148, 0, ([((2, 805, 805, 0), none), ((0, 0, 11, 1), none), ((0, 1, 2, 1), none), ((2, 806, 806, 1), none), ((0, 1200, 1200, 0), none), ((0, 1, 2, 1), none), ((0, 1, 12, 1), some (1, 1))], [(1, 6), (0, 0), (2, 2)], [], [(3, 4, 5)], [], [(200000, 5, 2), (800005, 3, 4)], [], [500], some []))
def kh_heatDeal_b161_1 : sg_T := (161, 0, ([((2, 805, 805, 0), none), ((0, 0, 11, 1), none), ((0, 0, 1, 1), none), ((2, 806, 806, 1), none), ((0, 1200, 1200, 0), none), ((0, 1, 2, 1), none), ((0, 1, 2, 1), some (2, 1))], [(2, 6), (0, 0), (1, 1)], [], [(3, 4, 5)], [], [(100000, 2, 5), (800005, 3, 4)], [], [500], none))
def kh_heatDeal_b191_0 : sg_T := (211, 0, ([((2, 805, 805, 0), none), ((0, 12, 12, 1), none), ((0, 0, 0, 0), none), ((0, 0, 0, 0), none)], [(1, 3), (0, 0)], [], [], [], [], [], [], none))
def kh_heatDeal_b191_1 : sg_T := (199, 0, ([((2, 805, 805, 0), none), ((0, 12, 12, 1), none), ((0, 1, 1, 0), none)], [(0, 0), (1, 1)], [0], [], [(2, 0)], [], [], [501], none))
def kh_heatDeal_b199_0 : sg_T := (202, 0, ([((2, 805, 805, 0), none), ((0, 12, 12, 1), none)], [(0, 0), (1, 1)], [], [], [], [], [], [502], none))
def kh_heatDeal_b202_0 : sg_T := (191, 0, ([((2, 805, 805, 0), none), ((0, 12, 12, 1), none)], [(0, 0), (1, 1)], [], [], [], [], [], [], some []))
def kh_heatDeal_b211_0 : sg_T := (228, 0, ([((2, 805, 805, 0), none), ((0, 12, 12, 1), none), ((0, 12, 12, 0), none)], [(0, 0), (1, 1)], [], [], [], [(200000, 2, 1)], [], [], some []))
def kh_heatDeal_b211_1 : sg_T := (211, 0, ([((2, 805, 805, 0), none), ((0, 0, 11, 1), none), ((0, 12, 12, 0), none), ((0, 1, 12, 1), some (1, 1))], [(1, 3), (0, 0)], [], [], [], [(100000, 1, 2)], [], [], none))
theorem kh_heatDeal_ok : ct_ok wd_fl1 kh_heatDeal := ct_hand (ff := wd_ff1) (y := kh_heatDeal_y) (Cs := [kh_393, kh_467, kh_473, kh_475, kh_480, kh_482, kh_487, kh_489, kh_494, kh_496, kh_501, kh_503, kh_508, kh_510, kh_515, kh_517, kh_522, kh_524, kh_529, kh_395, kh_533, kh_hMost, kh_hReach2, kh_hFind, kh_ranks, kh_534, kh_535, kh_536, kh_537, kh_538, kh_539, kh_540, kh_541, kh_542, kh_543, kh_544, kh_545, kh_hLay, kh_hSend]) wd_fl1_ok rfl (List.forall_mem_cons.mpr ⟨kh_393_l, (List.forall_mem_cons.mpr ⟨kh_467_ok, (List.forall_mem_cons.mpr ⟨kh_473_ok, (List.forall_mem_cons.mpr ⟨kh_475_ok, (List.forall_mem_cons.mpr ⟨kh_480_ok, (List.forall_mem_cons.mpr ⟨kh_482_ok, (List.forall_mem_cons.mpr ⟨kh_487_ok, (List.forall_mem_cons.mpr ⟨kh_489_ok, (List.forall_mem_cons.mpr ⟨kh_494_ok, (List.forall_mem_cons.mpr ⟨kh_496_ok, (List.forall_mem_cons.mpr ⟨kh_501_ok, (List.forall_mem_cons.mpr ⟨kh_503_ok, (List.forall_mem_cons.mpr ⟨kh_508_ok, (List.forall_mem_cons.mpr ⟨kh_510_ok, (List.forall_mem_cons.mpr ⟨kh_515_ok, (List.forall_mem_cons.mpr ⟨kh_517_ok, (List.forall_mem_cons.mpr ⟨kh_522_ok, (List.forall_mem_cons.mpr ⟨kh_524_ok, (List.forall_mem_cons.mpr ⟨kh_529_ok, (List.forall_mem_cons.mpr ⟨kh_395_l, (List.forall_mem_cons.mpr ⟨kh_533_ok, (List.forall_mem_cons.mpr ⟨kh_hMost_ok, (List.forall_mem_cons.mpr ⟨kh_hReach2_ok, (List.forall_mem_cons.mpr ⟨kh_hFind_ok, (List.forall_mem_cons.mpr ⟨kh_ranks_l, (List.forall_mem_cons.mpr ⟨kh_534_ok, (List.forall_mem_cons.mpr ⟨kh_535_ok, (List.forall_mem_cons.mpr ⟨kh_536_ok, (List.forall_mem_cons.mpr ⟨kh_537_ok, (List.forall_mem_cons.mpr ⟨kh_538_ok, (List.forall_mem_cons.mpr ⟨kh_539_ok, (List.forall_mem_cons.mpr ⟨kh_540_ok, (List.forall_mem_cons.mpr ⟨kh_541_ok, (List.forall_mem_cons.mpr ⟨kh_542_ok, (List.forall_mem_cons.mpr ⟨kh_543_ok, (List.forall_mem_cons.mpr ⟨kh_544_ok, (List.forall_mem_cons.mpr ⟨kh_545_ok, (List.forall_mem_cons.mpr ⟨kh_hLay_ok, (List.forall_mem_cons.mpr ⟨kh_hSend_ok, (List.forall_mem_nil _)⟩)⟩)⟩)⟩)⟩)⟩)⟩)⟩)⟩)⟩)⟩)⟩)⟩)⟩)⟩)⟩)⟩)⟩)⟩)⟩)⟩)⟩)⟩)⟩)⟩)⟩)⟩)⟩)⟩)⟩)⟩)⟩)⟩)⟩)⟩)⟩)⟩)⟩)⟩) (by decide +kernel) (fun l D tc ad kd N sm xs S p e s m args below meth c sz lv G H0 => by
  have hx : xs.length = 1 := by rw [H0.2.1.1]; rfl
  have hP : ∀ (k : Nat), (∀ (α : List av_X) (lv : List (Nat × Value)) (st : List Value) (S1 : fw_S), as_in ad sm wd_fl1 xs S kh_heatDeal.2.2.2.2.2.1 α kh_heatDeal_a2.2.2.1 lv st S1 → (True) → 9000000 + (34 - nv α 1).toNat < k → hd_W wd_fl1 kh_heatDeal kh_heatDeal_y l D tc ad kd N sm xs S p e s m args below meth c sz 2 lv st S1 0) ∧ (∀ (α : List av_X) (lv : List (Nat × Value)) (st : List Value) (S1 : fw_S), as_in ad sm wd_fl1 xs S kh_heatDeal.2.2.2.2.2.1 α kh_heatDeal_a32.2.2.1 lv st S1 → (True) → 8000000 + (12 - nv α 1).toNat < k → hd_W wd_fl1 kh_heatDeal kh_heatDeal_y l D tc ad kd N sm xs S p e s m args below meth c sz 32 lv st S1 0) ∧ (∀ (α : List av_X) (lv : List (Nat × Value)) (st : List Value) (S1 : fw_S), as_in ad sm wd_fl1 xs S kh_heatDeal.2.2.2.2.2.1 α kh_heatDeal_a67.2.2.1 lv st S1 → (True) → 7000000 + (10 - nv α 1).toNat < k → hd_W wd_fl1 kh_heatDeal kh_heatDeal_y l D tc ad kd N sm xs S p e s m args below meth c sz 67 lv st S1 0) ∧ (∀ (α : List av_X) (lv : List (Nat × Value)) (st : List Value) (S1 : fw_S), as_in ad sm wd_fl1 xs S kh_heatDeal.2.2.2.2.2.1 α kh_heatDeal_a101.2.2.1 lv st S1 → (∀ b : Nat, (b : Int) < nv α 1 → b < 2 → hFresh S1 b) → 6000000 + (2 - nv α 1).toNat * 2 + 1 < k → hd_W wd_fl1 kh_heatDeal kh_heatDeal_y l D tc ad kd N sm xs S p e s m args below meth c sz 101 lv st S1 0) ∧ (∀ (α : List av_X) (lv : List (Nat × Value)) (st : List Value) (S1 : fw_S), as_in ad sm wd_fl1 xs S kh_heatDeal.2.2.2.2.2.1 α kh_heatDeal_a113.2.2.1 lv st S1 → ((∀ b : Nat, (b : Int) < nv α 1 → b < 2 → hFresh S1 b) ∧ (S1.1 847 (nv α 1).toNat).toInt = 0) → 6000000 + (2 - nv α 1).toNat * 2 < k → hd_W wd_fl1 kh_heatDeal kh_heatDeal_y l D tc ad kd N sm xs S p e s m args below meth c sz 113 lv st S1 0) ∧ (∀ (α : List av_X) (lv : List (Nat × Value)) (st : List Value) (S1 : fw_S), as_in ad sm wd_fl1 xs S kh_heatDeal.2.2.2.2.2.1 α kh_heatDeal_a148.2.2.1 lv st S1 → (hFits S1) → 5000000 + (12 - nv α 1).toNat * 100 + 50 < k → hd_W wd_fl1 kh_heatDeal kh_heatDeal_y l D tc ad kd N sm xs S p e s m args below meth c sz 148 lv st S1 0) ∧ (∀ (α : List av_X) (lv : List (Nat × Value)) (st : List Value) (S1 : fw_S), as_in ad sm wd_fl1 xs S kh_heatDeal.2.2.2.2.2.1 α kh_heatDeal_a161.2.2.1 lv st S1 → (hFits S1 ∧ hPred S1) → 5000000 + (12 - nv α 1).toNat * 100 + (2 - nv α 2).toNat < k → hd_W wd_fl1 kh_heatDeal kh_heatDeal_y l D tc ad kd N sm xs S p e s m args below meth c sz 161 lv st S1 0) ∧ (∀ (α : List av_X) (lv : List (Nat × Value)) (st : List Value) (S1 : fw_S), as_in ad sm wd_fl1 xs S kh_heatDeal.2.2.2.2.2.1 α kh_heatDeal_a191.2.2.1 lv st S1 → (hFits S1) → 10 * (sm_S (S1.1 846) 2 - sm_S (S1.1 847) 2).toNat + 105 < k → hd_W wd_fl1 kh_heatDeal kh_heatDeal_y l D tc ad kd N sm xs S p e s m args below meth c sz 191 lv st S1 0) ∧ (∀ (α : List av_X) (lv : List (Nat × Value)) (st : List Value) (S1 : fw_S), as_in ad sm wd_fl1 xs S kh_heatDeal.2.2.2.2.2.1 α kh_heatDeal_a199.2.2.1 lv st S1 → (hChosen S1 ∧ hFits S1) → 10 * (sm_S (S1.1 846) 2 - sm_S (S1.1 847) 2).toNat + 104 < k → hd_W wd_fl1 kh_heatDeal kh_heatDeal_y l D tc ad kd N sm xs S p e s m args below meth c sz 199 lv st S1 0) ∧ (∀ (α : List av_X) (lv : List (Nat × Value)) (st : List Value) (S1 : fw_S), as_in ad sm wd_fl1 xs S kh_heatDeal.2.2.2.2.2.1 α kh_heatDeal_a202.2.2.1 lv st S1 → (hFits S1) → 10 * (sm_S (S1.1 846) 2 - sm_S (S1.1 847) 2).toNat + 108 < k → hd_W wd_fl1 kh_heatDeal kh_heatDeal_y l D tc ad kd N sm xs S p e s m args below meth c sz 202 lv st S1 0) ∧ (∀ (α : List av_X) (lv : List (Nat × Value)) (st : List Value) (S1 : fw_S), as_in ad sm wd_fl1 xs S kh_heatDeal.2.2.2.2.2.1 α kh_heatDeal_a211.2.2.1 lv st S1 → (hFits S1) → (12 - nv α 1).toNat < k → hd_W wd_fl1 kh_heatDeal kh_heatDeal_y l D tc ad kd N sm xs S p e s m args below meth c sz 211 lv st S1 0) ∧ True := by
    intro k
    induction k with
    | zero => exact ⟨fun _ _ _ _ _ _ h => absurd h (Nat.not_lt_zero _), fun _ _ _ _ _ _ h => absurd h (Nat.not_lt_zero _), fun _ _ _ _ _ _ h => absurd h (Nat.not_lt_zero _), fun _ _ _ _ _ _ h => absurd h (Nat.not_lt_zero _), fun _ _ _ _ _ _ h => absurd h (Nat.not_lt_zero _), fun _ _ _ _ _ _ h => absurd h (Nat.not_lt_zero _), fun _ _ _ _ _ _ h => absurd h (Nat.not_lt_zero _), fun _ _ _ _ _ _ h => absurd h (Nat.not_lt_zero _), fun _ _ _ _ _ _ h => absurd h (Nat.not_lt_zero _), fun _ _ _ _ _ _ h => absurd h (Nat.not_lt_zero _), fun _ _ _ _ _ _ h => absurd h (Nat.not_lt_zero _), trivial⟩
    | succ k ih =>
    refine ⟨?_, ?_, ?_, ?_, ?_, ?_, ?_, ?_, ?_, ?_, ?_, trivial⟩
    · intro α lv st S1 H hp hk
      obtain ⟨α1, hle, Hr⟩ := as_recM (pl := []) [((848, 848), (0, 33, 1)), ((849, 849), (0, 16, 1))] (by decide +kernel) H
      have hf := H.2.2.2.2.2.2.2.2.2.2.1
      have hl1 : α1.length = 2 := by rw [Hr.2.1.1]; rfl
      have hl0 : α.length = 2 := by rw [H.2.1.1]; rfl
      have hxa : al_le xs α1 := H.1.trans hle
      obtain ⟨g1, -, g3, g4, -⟩ := as_fx Hr
      have g0 : (805 ≤ nv α1 0 ∧ nv α1 0 ≤ 805) ∧ (0 ≤ nv α1 1 ∧ nv α1 1 ≤ 34) ∧ True := by
        refine ⟨by have h := (en_nv (i := 0) Hr.2.1 rfl).2; exact h, by have h := (en_nv (i := 1) Hr.2.1 rfl).2; exact h, trivial⟩
      have r0 : nv α1 0 = nv α 0 := nv_le hle (by omega)
      have r1 : nv α1 1 = nv α 1 := nv_le hle (by omega)
      refine hd_segM G (na := 2) (fuel := 600) (first := true) (Bs := [kh_heatDeal_b2_0, kh_heatDeal_b2_1]) (by decide +kernel) hl1 Hr ?_
      intro q hq β lv' st' S' H1
      simp only [List.mem_cons, List.not_mem_nil, or_false] at hq
      rcases hq with rfl | rfl
      · obtain ⟨f1, f2, f3, f4, f5⟩ := as_fx H1
        simp only [kh_heatDeal_b2_0, fx_env, fx_c, fx_ne, fx_hf, wl_S, Nat.zero_add, Nat.reduceAdd, Nat.reduceDiv, Nat.reduceMod, List.getElem?_cons_zero, List.getElem?_cons_succ, if_true, and_true, true_and] at f1 f2 f3 f4 f5
        have fe0 : nv β 0 = 805 := by omega
        have fe1 : nv β 1 = 34 := by omega
        have fe2 : nv β 2 = 34 := by omega
        have fe3 : nv β 3 = 0 := by omega
        try simp only [fe0, fe1, fe2, fe3, Int.reduceToNat] at f2 f3 f4 f5
        have s0 : nv β 0 = nv α1 0 := nv_le H1.1 (by omega)
        have s1 : nv β 1 = nv α1 1 := nv_le H1.1 (by omega)
        have c0 := f2
        obtain ⟨α', Ha, hm⟩ := hd_gpM (q := kh_heatDeal_a32) (n := 0) (by decide +kernel) hx H1 (by decide +kernel) hxa hf
        have hfr := H1.2.2.2.2.2.2.2.2.2.2.1
        have m0 : nv α' 0 = nv β 0 := hm 0 0 rfl
        have m1 : nv α' 1 = nv β 3 := hm 1 3 rfl
        subst S'
        refine ih.2.1 _ _ _ _ Ha ?_ ?_
        · trivial
        · omega
      · obtain ⟨f1, f2, f3, f4, f5⟩ := as_fx H1
        simp only [kh_heatDeal_b2_1, fx_env, fx_c, fx_ne, fx_hf, wl_S, Nat.zero_add, Nat.reduceAdd, Nat.reduceDiv, Nat.reduceMod, List.getElem?_cons_zero, List.getElem?_cons_succ, if_true, and_true, true_and] at f1 f2 f3 f4 f5
        have fe0 : nv β 0 = 805 := by omega
        have fe2 : nv β 2 = 34 := by omega
        have fe3 : nv β 3 = 848 := by omega
        have fe4 : nv β 4 = 0 := by omega
        have fe5 : nv β 5 = 849 := by omega
        have fe6 : nv β 6 = 2 := by omega
        have fe8 : nv β 8 = 0 := by omega
        try simp only [fe0, fe2, fe3, fe4, fe5, fe6, fe8, Int.reduceToNat] at f2 f3 f4 f5
        have s0 : nv β 0 = nv α1 0 := nv_le H1.1 (by omega)
        have s1 : nv β 1 = nv α1 1 := nv_le H1.1 (by omega)
        obtain ⟨c0, c1⟩ := f2
        obtain ⟨α', Ha, hm⟩ := hd_gpM (q := kh_heatDeal_a2) (n := 0) (by decide +kernel) hx H1 (by decide +kernel) hxa hf
        have hfr := H1.2.2.2.2.2.2.2.2.2.2.1
        have m0 : nv α' 0 = nv β 0 := hm 0 0 rfl
        have m1 : nv α' 1 = nv β 9 := hm 1 9 rfl
        subst S'
        refine ih.1 _ _ _ _ Ha ?_ ?_
        · trivial
        · omega
    · intro α lv st S1 H hp hk
      obtain ⟨α1, hle, Hr⟩ := as_recM (pl := []) [((850, 850), (0, 11, 1)), ((851, 851), (0, 11, 1)), ((852, 852), (0, 11, 1))] (by decide +kernel) H
      have hf := H.2.2.2.2.2.2.2.2.2.2.1
      have hl1 : α1.length = 2 := by rw [Hr.2.1.1]; rfl
      have hl0 : α.length = 2 := by rw [H.2.1.1]; rfl
      have hxa : al_le xs α1 := H.1.trans hle
      obtain ⟨g1, -, g3, g4, -⟩ := as_fx Hr
      have g0 : (805 ≤ nv α1 0 ∧ nv α1 0 ≤ 805) ∧ (0 ≤ nv α1 1 ∧ nv α1 1 ≤ 12) ∧ True := by
        refine ⟨by have h := (en_nv (i := 0) Hr.2.1 rfl).2; exact h, by have h := (en_nv (i := 1) Hr.2.1 rfl).2; exact h, trivial⟩
      have r0 : nv α1 0 = nv α 0 := nv_le hle (by omega)
      have r1 : nv α1 1 = nv α 1 := nv_le hle (by omega)
      refine hd_segM G (na := 2) (fuel := 600) (first := true) (Bs := [kh_heatDeal_b32_0, kh_heatDeal_b32_1]) (by decide +kernel) hl1 Hr ?_
      intro q hq β lv' st' S' H1
      simp only [List.mem_cons, List.not_mem_nil, or_false] at hq
      rcases hq with rfl | rfl
      · obtain ⟨f1, f2, f3, f4, f5⟩ := as_fx H1
        simp only [kh_heatDeal_b32_0, fx_env, fx_c, fx_ne, fx_hf, wl_S, Nat.zero_add, Nat.reduceAdd, Nat.reduceDiv, Nat.reduceMod, List.getElem?_cons_zero, List.getElem?_cons_succ, if_true, and_true, true_and] at f1 f2 f3 f4 f5
        have fe0 : nv β 0 = 805 := by omega
        have fe1 : nv β 1 = 12 := by omega
        have fe2 : nv β 2 = 12 := by omega
        have fe3 : nv β 3 = 0 := by omega
        try simp only [fe0, fe1, fe2, fe3, Int.reduceToNat] at f2 f3 f4 f5
        have s0 : nv β 0 = nv α1 0 := nv_le H1.1 (by omega)
        have s1 : nv β 1 = nv α1 1 := nv_le H1.1 (by omega)
        have c0 := f2
        obtain ⟨α', Ha, hm⟩ := hd_gpM (q := kh_heatDeal_a67) (n := 0) (by decide +kernel) hx H1 (by decide +kernel) hxa hf
        have hfr := H1.2.2.2.2.2.2.2.2.2.2.1
        have m0 : nv α' 0 = nv β 0 := hm 0 0 rfl
        have m1 : nv α' 1 = nv β 3 := hm 1 3 rfl
        subst S'
        refine ih.2.2.1 _ _ _ _ Ha ?_ ?_
        · trivial
        · omega
      · obtain ⟨f1, f2, f3, f4, f5⟩ := as_fx H1
        simp only [kh_heatDeal_b32_1, fx_env, fx_c, fx_ne, fx_hf, wl_S, Nat.zero_add, Nat.reduceAdd, Nat.reduceDiv, Nat.reduceMod, List.getElem?_cons_zero, List.getElem?_cons_succ, if_true, and_true, true_and] at f1 f2 f3 f4 f5
        have fe0 : nv β 0 = 805 := by omega
        have fe2 : nv β 2 = 12 := by omega
        have fe3 : nv β 3 = 850 := by omega
        have fe4 : nv β 4 = 0 := by omega
        have fe5 : nv β 5 = 851 := by omega
        have fe6 : nv β 6 = 0 := by omega
        have fe7 : nv β 7 = 852 := by omega
        have fe8 : nv β 8 = 0 := by omega
        try simp only [fe0, fe2, fe3, fe4, fe5, fe6, fe7, fe8, Int.reduceToNat] at f2 f3 f4 f5
        have s0 : nv β 0 = nv α1 0 := nv_le H1.1 (by omega)
        have s1 : nv β 1 = nv α1 1 := nv_le H1.1 (by omega)
        have c0 := f2
        obtain ⟨α', Ha, hm⟩ := hd_gpM (q := kh_heatDeal_a32) (n := 0) (by decide +kernel) hx H1 (by decide +kernel) hxa hf
        have hfr := H1.2.2.2.2.2.2.2.2.2.2.1
        have m0 : nv α' 0 = nv β 0 := hm 0 0 rfl
        have m1 : nv α' 1 = nv β 9 := hm 1 9 rfl
        subst S'
        refine ih.2.1 _ _ _ _ Ha ?_ ?_
        · trivial
        · omega
    · intro α lv st S1 H hp hk
      obtain ⟨α1, hle, Hr⟩ := as_recM (pl := []) [((850, 850), (0, 11, 1))] (by decide +kernel) H
      have hf := H.2.2.2.2.2.2.2.2.2.2.1
      have hl1 : α1.length = 2 := by rw [Hr.2.1.1]; rfl
      have hl0 : α.length = 2 := by rw [H.2.1.1]; rfl
      have hxa : al_le xs α1 := H.1.trans hle
      obtain ⟨g1, -, g3, g4, -⟩ := as_fx Hr
      have g0 : (805 ≤ nv α1 0 ∧ nv α1 0 ≤ 805) ∧ (0 ≤ nv α1 1 ∧ nv α1 1 ≤ 10) ∧ True := by
        refine ⟨by have h := (en_nv (i := 0) Hr.2.1 rfl).2; exact h, by have h := (en_nv (i := 1) Hr.2.1 rfl).2; exact h, trivial⟩
      have r0 : nv α1 0 = nv α 0 := nv_le hle (by omega)
      have r1 : nv α1 1 = nv α 1 := nv_le hle (by omega)
      refine hd_segM G (na := 2) (fuel := 600) (first := true) (Bs := [kh_heatDeal_b67_0, kh_heatDeal_b67_1, kh_heatDeal_b67_2]) (by decide +kernel) hl1 Hr ?_
      intro q hq β lv' st' S' H1
      simp only [List.mem_cons, List.not_mem_nil, or_false] at hq
      rcases hq with rfl | rfl | rfl
      · obtain ⟨f1, f2, f3, f4, f5⟩ := as_fx H1
        simp only [kh_heatDeal_b67_0, fx_env, fx_c, fx_ne, fx_hf, wl_S, Nat.zero_add, Nat.reduceAdd, Nat.reduceDiv, Nat.reduceMod, List.getElem?_cons_zero, List.getElem?_cons_succ, if_true, and_true, true_and] at f1 f2 f3 f4 f5
        have fe0 : nv β 0 = 805 := by omega
        have fe3 : nv β 3 = 0 := by omega
        try simp only [fe0, fe3, Int.reduceToNat] at f2 f3 f4 f5
        have s0 : nv β 0 = nv α1 0 := nv_le H1.1 (by omega)
        have s1 : nv β 1 = nv α1 1 := nv_le H1.1 (by omega)
        have c0 := f2
        obtain ⟨α', Ha, hm⟩ := hd_gpM (q := kh_heatDeal_a101) (n := 0) (by decide +kernel) hx H1 (by decide +kernel) hxa hf
        have hfr := H1.2.2.2.2.2.2.2.2.2.2.1
        have m0 : nv α' 0 = nv β 0 := hm 0 0 rfl
        have m1 : nv α' 1 = nv β 3 := hm 1 3 rfl
        subst S'
        refine ih.2.2.2.1 _ _ _ _ Ha ?_ ?_
        · intro b hb _; rw [m1] at hb; omega
        · omega
      · obtain ⟨f1, f2, f3, f4, f5⟩ := as_fx H1
        simp only [kh_heatDeal_b67_1, fx_env, fx_c, fx_ne, fx_hf, wl_S, Nat.zero_add, Nat.reduceAdd, Nat.reduceDiv, Nat.reduceMod, List.getElem?_cons_zero, List.getElem?_cons_succ, if_true, and_true, true_and] at f1 f2 f3 f4 f5
        have fe0 : nv β 0 = 805 := by omega
        have fe3 : nv β 3 = 850 := by omega
        have fe6 : nv β 6 = 0 := by omega
        try simp only [fe0, fe3, fe6, Int.reduceToNat] at f2 f3 f4 f5
        have s0 : nv β 0 = nv α1 0 := nv_le H1.1 (by omega)
        have s1 : nv β 1 = nv α1 1 := nv_le H1.1 (by omega)
        obtain ⟨c0, c1, c2⟩ := f2
        obtain ⟨α', Ha, hm⟩ := hd_gpM (q := kh_heatDeal_a67) (n := 0) (by decide +kernel) hx H1 (by decide +kernel) hxa hf
        have hfr := H1.2.2.2.2.2.2.2.2.2.2.1
        have m0 : nv α' 0 = nv β 0 := hm 0 0 rfl
        have m1 : nv α' 1 = nv β 8 := hm 1 8 rfl
        subst S'
        refine ih.2.2.1 _ _ _ _ Ha ?_ ?_
        · trivial
        · omega
      · obtain ⟨f1, f2, f3, f4, f5⟩ := as_fx H1
        simp only [kh_heatDeal_b67_2, fx_env, fx_c, fx_ne, fx_hf, wl_S, Nat.zero_add, Nat.reduceAdd, Nat.reduceDiv, Nat.reduceMod, List.getElem?_cons_zero, List.getElem?_cons_succ, if_true, and_true, true_and] at f1 f2 f3 f4 f5
        have fe0 : nv β 0 = 805 := by omega
        have fe3 : nv β 3 = 850 := by omega
        try simp only [fe0, fe3, Int.reduceToNat] at f2 f3 f4 f5
        have s0 : nv β 0 = nv α1 0 := nv_le H1.1 (by omega)
        have s1 : nv β 1 = nv α1 1 := nv_le H1.1 (by omega)
        obtain ⟨c0, c1⟩ := f2
        obtain ⟨α', Ha, hm⟩ := hd_gpM (q := kh_heatDeal_a67) (n := 0) (by decide +kernel) hx H1 (by decide +kernel) hxa hf
        have hfr := H1.2.2.2.2.2.2.2.2.2.2.1
        have m0 : nv α' 0 = nv β 0 := hm 0 0 rfl
        have m1 : nv α' 1 = nv β 8 := hm 1 8 rfl
        subst S'
        refine ih.2.2.1 _ _ _ _ Ha ?_ ?_
        · trivial
        · omega
    · intro α lv st S1 H hp hk
      obtain ⟨α1, hle, Hr⟩ := as_recM (pl := []) [((847, 847), (0, 1, 1))] (by decide +kernel) H
      have hf := H.2.2.2.2.2.2.2.2.2.2.1
      have hl1 : α1.length = 2 := by rw [Hr.2.1.1]; rfl
      have hl0 : α.length = 2 := by rw [H.2.1.1]; rfl
      have hxa : al_le xs α1 := H.1.trans hle
      obtain ⟨g1, -, g3, g4, -⟩ := as_fx Hr
      have g0 : (805 ≤ nv α1 0 ∧ nv α1 0 ≤ 805) ∧ (0 ≤ nv α1 1 ∧ nv α1 1 ≤ 2) ∧ True := by
        refine ⟨by have h := (en_nv (i := 0) Hr.2.1 rfl).2; exact h, by have h := (en_nv (i := 1) Hr.2.1 rfl).2; exact h, trivial⟩
      have r0 : nv α1 0 = nv α 0 := nv_le hle (by omega)
      have r1 : nv α1 1 = nv α 1 := nv_le hle (by omega)
      refine hd_segM G (na := 2) (fuel := 600) (first := true) (Bs := [kh_heatDeal_b101_0, kh_heatDeal_b101_1]) (by decide +kernel) hl1 Hr ?_
      intro q hq β lv' st' S' H1
      simp only [List.mem_cons, List.not_mem_nil, or_false] at hq
      rcases hq with rfl | rfl
      · obtain ⟨f1, f2, f3, f4, f5⟩ := as_fx H1
        simp only [kh_heatDeal_b101_0, fx_env, fx_c, fx_ne, fx_hf, wl_S, Nat.zero_add, Nat.reduceAdd, Nat.reduceDiv, Nat.reduceMod, List.getElem?_cons_zero, List.getElem?_cons_succ, if_true, and_true, true_and] at f1 f2 f3 f4 f5
        have fe0 : nv β 0 = 805 := by omega
        have fe1 : nv β 1 = 2 := by omega
        have fe2 : nv β 2 = 2 := by omega
        have fe3 : nv β 3 = 0 := by omega
        try simp only [fe0, fe1, fe2, fe3, Int.reduceToNat] at f2 f3 f4 f5
        have s0 : nv β 0 = nv α1 0 := nv_le H1.1 (by omega)
        have s1 : nv β 1 = nv α1 1 := nv_le H1.1 (by omega)
        have c0 := f2
        obtain ⟨α', Ha, hm⟩ := hd_gpM (q := kh_heatDeal_a148) (n := 0) (by decide +kernel) hx H1 (by decide +kernel) hxa hf
        have hfr := H1.2.2.2.2.2.2.2.2.2.2.1
        have m0 : nv α' 0 = nv β 0 := hm 0 0 rfl
        have m1 : nv α' 1 = nv β 3 := hm 1 3 rfl
        subst S'
        refine ih.2.2.2.2.2.1 _ _ _ _ Ha ?_ ?_
        · intro b hb
          obtain ⟨h1, h2, h3⟩ := hp b (by omega) hb
          exact ⟨by omega, h3⟩
        · omega
      · obtain ⟨f1, f2, f3, f4, f5⟩ := as_fx H1
        simp only [kh_heatDeal_b101_1, fx_env, fx_c, fx_ne, fx_hf, wl_S, Nat.zero_add, Nat.reduceAdd, Nat.reduceDiv, Nat.reduceMod, List.getElem?_cons_zero, List.getElem?_cons_succ, if_true, and_true, true_and] at f1 f2 f3 f4 f5
        have fe0 : nv β 0 = 805 := by omega
        have fe2 : nv β 2 = 2 := by omega
        have fe3 : nv β 3 = 847 := by omega
        have fe4 : nv β 4 = 0 := by omega
        try simp only [fe0, fe2, fe3, fe4, Int.reduceToNat] at f2 f3 f4 f5
        have s0 : nv β 0 = nv α1 0 := nv_le H1.1 (by omega)
        have s1 : nv β 1 = nv α1 1 := nv_le H1.1 (by omega)
        have c0 := f2
        obtain ⟨α', Ha, hm⟩ := hd_gpM (q := kh_heatDeal_a113) (n := 0) (by decide +kernel) hx H1 (by decide +kernel) hxa hf
        have hfr := H1.2.2.2.2.2.2.2.2.2.2.1
        have m0 : nv α' 0 = nv β 0 := hm 0 0 rfl
        have m1 : nv α' 1 = nv β 1 := hm 1 1 rfl
        subst S'
        refine ih.2.2.2.2.1 _ _ _ _ Ha ?_ ?_
        · rw [m1]
          refine ⟨fun b hb hb2 => ?_, ?_⟩
          · obtain ⟨h1, h2, h3⟩ := hp b (by omega) hb2
            unfold hFresh
            rw [fw_i_row, if_neg (by omega), fw_i_ne (show (846 : Nat) ≠ 847 by decide), fw_i_ne (show (806 : Nat) ≠ 847 by decide)]
            exact ⟨h1, h2, h3⟩
          · rw [fw_i_row, if_pos rfl]; decide
        · omega
    · intro α lv st S1 H hp hk
      obtain ⟨α1, hle, Hr⟩ := as_recM (pl := []) [((846, 846), (0, 1, 1))] (by decide +kernel) H
      have hf := H.2.2.2.2.2.2.2.2.2.2.1
      have hl1 : α1.length = 2 := by rw [Hr.2.1.1]; rfl
      have hl0 : α.length = 2 := by rw [H.2.1.1]; rfl
      have hxa : al_le xs α1 := H.1.trans hle
      obtain ⟨g1, -, g3, g4, -⟩ := as_fx Hr
      have g0 : (805 ≤ nv α1 0 ∧ nv α1 0 ≤ 805) ∧ (0 ≤ nv α1 1 ∧ nv α1 1 ≤ 1) ∧ True := by
        refine ⟨by have h := (en_nv (i := 0) Hr.2.1 rfl).2; exact h, by have h := (en_nv (i := 1) Hr.2.1 rfl).2; exact h, trivial⟩
      have r0 : nv α1 0 = nv α 0 := nv_le hle (by omega)
      have r1 : nv α1 1 = nv α 1 := nv_le hle (by omega)
      refine hd_segM G (na := 2) (fuel := 600) (first := true) (Bs := [kh_heatDeal_b113_0, kh_heatDeal_b113_1]) (by decide +kernel) hl1 Hr ?_
      intro q hq β lv' st' S' H1
      simp only [List.mem_cons, List.not_mem_nil, or_false] at hq
      rcases hq with rfl | rfl
      · obtain ⟨f1, f2, f3, f4, f5⟩ := as_fx H1
        simp only [kh_heatDeal_b113_0, fx_env, fx_c, fx_ne, fx_hf, wl_S, Nat.zero_add, Nat.reduceAdd, Nat.reduceDiv, Nat.reduceMod, List.getElem?_cons_zero, List.getElem?_cons_succ, if_true, and_true, true_and] at f1 f2 f3 f4 f5
        have fe0 : nv β 0 = 805 := by omega
        have fe1 : nv β 1 = 1 := by omega
        have fe2 : nv β 2 = 846 := by omega
        have fe3 : nv β 3 = 806 := by omega
        have fe4 : nv β 4 = 1200 := by omega
        have fe5 : nv β 5 = 1 := by omega
        have fe6 : nv β 6 = 0 := by omega
        have fe7 : nv β 7 = 2 := by omega
        try simp only [fe0, fe1, fe2, fe3, fe4, fe5, fe6, fe7, Int.reduceToNat] at f2 f3 f4 f5
        have s0 : nv β 0 = nv α1 0 := nv_le H1.1 (by omega)
        have s1 : nv β 1 = nv α1 1 := nv_le H1.1 (by omega)
        obtain ⟨c0, c1⟩ := f2
        obtain ⟨α', Ha, hm⟩ := hd_gpM (q := kh_heatDeal_a101) (n := 0) (by decide +kernel) hx H1 (by decide +kernel) hxa hf
        have hfr := H1.2.2.2.2.2.2.2.2.2.2.1
        have m0 : nv α' 0 = nv β 0 := hm 0 0 rfl
        have m1 : nv α' 1 = nv β 7 := hm 1 7 rfl
        subst S'
        have o := old_0 c1 rfl
        refine ih.2.2.2.1 _ _ _ _ Ha ?_ ?_
        · intro b hb hb2
          rw [m1] at hb
          unfold hFresh
          rw [fw_i_row, fw_i_ne (show (847 : Nat) ≠ 846 by decide), fw_i_ne (show (806 : Nat) ≠ 846 by decide)]
          by_cases e : b = 1
          · rw [if_pos e, i32_of (by omega) (by omega)]
            refine ⟨by rw [show b = (nv α 1).toNat by omega]; exact hp.2, by omega, fun hb3 => ?_⟩
            rw [o] at hb3
            omega
          · rw [if_neg e]
            exact hp.1 b (by omega) hb2
        · omega
      · obtain ⟨f1, f2, f3, f4, f5⟩ := as_fx H1
        simp only [kh_heatDeal_b113_1, fx_env, fx_c, fx_ne, fx_hf, wl_S, Nat.zero_add, Nat.reduceAdd, Nat.reduceDiv, Nat.reduceMod, List.getElem?_cons_zero, List.getElem?_cons_succ, if_true, and_true, true_and] at f1 f2 f3 f4 f5
        have fe0 : nv β 0 = 805 := by omega
        have fe2 : nv β 2 = 846 := by omega
        have fe3 : nv β 3 = 806 := by omega
        have fe4 : nv β 4 = 1200 := by omega
        try simp only [fe0, fe2, fe3, fe4, Int.reduceToNat] at f2 f3 f4 f5
        have s0 : nv β 0 = nv α1 0 := nv_le H1.1 (by omega)
        have s1 : nv β 1 = nv α1 1 := nv_le H1.1 (by omega)
        obtain ⟨c0, c1, c2⟩ := f2
        obtain ⟨α', Ha, hm⟩ := hd_gpM (q := kh_heatDeal_a101) (n := 0) (by decide +kernel) hx H1 (by decide +kernel) hxa hf
        have hfr := H1.2.2.2.2.2.2.2.2.2.2.1
        have m0 : nv α' 0 = nv β 0 := hm 0 0 rfl
        have m1 : nv α' 1 = nv β 7 := hm 1 7 rfl
        subst S'
        have o := old_0 c2 rfl
        have d0 := c0
        simp only [wd_fl1, if_neg (show ¬ (wd_base 1017 = true) by decide)] at d0
        refine ih.2.2.2.1 _ _ _ _ Ha ?_ ?_
        · intro b hb hb2
          rw [m1] at hb
          unfold hFresh
          rw [fw_i_row, fw_i_ne (show (847 : Nat) ≠ 846 by decide), fw_i_ne (show (806 : Nat) ≠ 846 by decide)]
          by_cases e : b = (nv β 1).toNat
          · rw [if_pos e, i32_of (by omega) (by omega)]
            refine ⟨by rw [show b = (nv α 1).toNat by omega]; exact hp.2, by omega, fun hb3 => ?_⟩
            rw [o] at hb3
            rw [show 1203 + 5 * b = (1203 + 5 * nv β 1).toNat by omega]
            exact d0
          · rw [if_neg e]
            exact hp.1 b (by omega) hb2
        · omega
    · intro α lv st S1 H hp hk
      obtain ⟨α1, hle, Hr⟩ := as_recM (pl := []) [((854, 854), (0, 11, 1))] (by decide +kernel) H
      have hf := H.2.2.2.2.2.2.2.2.2.2.1
      have hl1 : α1.length = 2 := by rw [Hr.2.1.1]; rfl
      have hl0 : α.length = 2 := by rw [H.2.1.1]; rfl
      have hxa : al_le xs α1 := H.1.trans hle
      obtain ⟨g1, -, g3, g4, -⟩ := as_fx Hr
      have g0 : (805 ≤ nv α1 0 ∧ nv α1 0 ≤ 805) ∧ (0 ≤ nv α1 1 ∧ nv α1 1 ≤ 12) ∧ True := by
        refine ⟨by have h := (en_nv (i := 0) Hr.2.1 rfl).2; exact h, by have h := (en_nv (i := 1) Hr.2.1 rfl).2; exact h, trivial⟩
      have r0 : nv α1 0 = nv α 0 := nv_le hle (by omega)
      have r1 : nv α1 1 = nv α 1 := nv_le hle (by omega)
      refine hd_segM G (na := 2) (fuel := 600) (first := true) (Bs := [kh_heatDeal_b148_0, kh_heatDeal_b148_1]) (by decide +kernel) hl1 Hr ?_
      intro q hq β lv' st' S' H1
      simp only [List.mem_cons, List.not_mem_nil, or_false] at hq
      rcases hq with rfl | rfl
      · obtain ⟨f1, f2, f3, f4, f5⟩ := as_fx H1
        simp only [kh_heatDeal_b148_0, fx_env, fx_c, fx_ne, fx_hf, wl_S, Nat.zero_add, Nat.reduceAdd, Nat.reduceDiv, Nat.reduceMod, List.getElem?_cons_zero, List.getElem?_cons_succ, if_true, and_true, true_and] at f1 f2 f3 f4 f5
        have fe0 : nv β 0 = 805 := by omega
        have fe1 : nv β 1 = 12 := by omega
        have fe2 : nv β 2 = 12 := by omega
        try simp only [fe0, fe1, fe2, Int.reduceToNat] at f2 f3 f4 f5
        have s0 : nv β 0 = nv α1 0 := nv_le H1.1 (by omega)
        have s1 : nv β 1 = nv α1 1 := nv_le H1.1 (by omega)
        have c0 := f2
        obtain ⟨α', Ha, hm⟩ := hd_gpM (q := kh_heatDeal_a191) (n := 0) (by decide +kernel) hx H1 (by decide +kernel) hxa hf
        have hfr := H1.2.2.2.2.2.2.2.2.2.2.1
        have m0 : nv α' 0 = nv β 0 := hm 0 0 rfl
        have m1 : nv α' 1 = nv β 1 := hm 1 1 rfl
        subst S'
        have e1 := fr_row hfr 846 (by decide +kernel)
        have e2 := fr_row hfr 847 (by decide +kernel)
        have e3 := fr_row hfr 806 (by decide +kernel)
        have b1 := sm_bd (n := 2) (fun j hj => rg_bd (q_rg_in (q := ((846, 846), (0, 1, 1), (0, 0, 300, 1))) (by decide +kernel) Ha) (j := j) (by omega))
        have b2 := sm_bd (n := 2) (fun j hj => rg_bd (q_rg_in (q := ((847, 847), (0, 1, 1), (0, 0, 300, 1))) (by decide +kernel) Ha) (j := j) (by omega))
        refine ih.2.2.2.2.2.2.2.1 _ _ _ _ Ha ?_ ?_
        · exact hFits_eq e1 e2 e3 hp
        · omega
      · obtain ⟨f1, f2, f3, f4, f5⟩ := as_fx H1
        simp only [kh_heatDeal_b148_1, fx_env, fx_c, fx_ne, fx_hf, wl_S, Nat.zero_add, Nat.reduceAdd, Nat.reduceDiv, Nat.reduceMod, List.getElem?_cons_zero, List.getElem?_cons_succ, if_true, and_true, true_and] at f1 f2 f3 f4 f5
        have fe0 : nv β 0 = 805 := by omega
        have fe2 : nv β 2 = 12 := by omega
        have fe3 : nv β 3 = 0 := by omega
        try simp only [fe0, fe2, fe3, Int.reduceToNat] at f2 f3 f4 f5
        have s0 : nv β 0 = nv α1 0 := nv_le H1.1 (by omega)
        have s1 : nv β 1 = nv α1 1 := nv_le H1.1 (by omega)
        have c0 := f2
        obtain ⟨α', Ha, hm⟩ := hd_gpM (q := kh_heatDeal_a161) (n := 0) (by decide +kernel) hx H1 (by decide +kernel) hxa hf
        have hfr := H1.2.2.2.2.2.2.2.2.2.2.1
        have m0 : nv α' 0 = nv β 0 := hm 0 0 rfl
        have m1 : nv α' 1 = nv β 1 := hm 1 1 rfl
        have m2 : nv α' 2 = nv β 3 := hm 2 3 rfl
        have e1 := fr_row hfr 846 (by decide +kernel)
        have e2 := fr_row hfr 847 (by decide +kernel)
        have e3 := fr_row hfr 806 (by decide +kernel)
        have hq : hPred S' := by
          have h := H1.2.2.2.2.2.2.2.2.1 500 (by decide +kernel)
          rw [wd_fl1, if_neg (by decide)] at h
          exact h
        refine ih.2.2.2.2.2.2.1 _ _ _ _ Ha ?_ ?_
        · exact ⟨hFits_eq e1 e2 e3 hp, hq⟩
        · omega
    · intro α lv st S1 H hp hk
      replace H := as_fl_in (f := [500]) H (fun g hg => by
        rcases List.mem_singleton.mp hg with rfl
        rw [wd_fl1, if_neg (by decide)]
        exact hp.2)
      obtain ⟨α1, hle, Hr⟩ := as_recM (pl := []) [((855, 855), (0, 23, 1)), ((856, 856), (0, 286, 1))] (by decide +kernel) H
      have hf := H.2.2.2.2.2.2.2.2.2.2.1
      have hl1 : α1.length = 3 := by rw [Hr.2.1.1]; rfl
      have hl0 : α.length = 3 := by rw [H.2.1.1]; rfl
      have hxa : al_le xs α1 := H.1.trans hle
      obtain ⟨g1, -, g3, g4, -⟩ := as_fx Hr
      have g0 : (805 ≤ nv α1 0 ∧ nv α1 0 ≤ 805) ∧ (0 ≤ nv α1 1 ∧ nv α1 1 ≤ 11) ∧ (0 ≤ nv α1 2 ∧ nv α1 2 ≤ 2) ∧ True := by
        refine ⟨by have h := (en_nv (i := 0) Hr.2.1 rfl).2; exact h, by have h := (en_nv (i := 1) Hr.2.1 rfl).2; exact h, by have h := (en_nv (i := 2) Hr.2.1 rfl).2; exact h, trivial⟩
      have r0 : nv α1 0 = nv α 0 := nv_le hle (by omega)
      have r1 : nv α1 1 = nv α 1 := nv_le hle (by omega)
      have r2 : nv α1 2 = nv α 2 := nv_le hle (by omega)
      refine hd_segM G (na := 3) (fuel := 600) (first := true) (Bs := [kh_heatDeal_b161_0, kh_heatDeal_b161_1]) (by decide +kernel) hl1 Hr ?_
      intro q hq β lv' st' S' H1
      simp only [List.mem_cons, List.not_mem_nil, or_false] at hq
      rcases hq with rfl | rfl
      · obtain ⟨f1, f2, f3, f4, f5⟩ := as_fx H1
        simp only [kh_heatDeal_b161_0, fx_env, fx_c, fx_ne, fx_hf, wl_S, Nat.zero_add, Nat.reduceAdd, Nat.reduceDiv, Nat.reduceMod, List.getElem?_cons_zero, List.getElem?_cons_succ, if_true, and_true, true_and] at f1 f2 f3 f4 f5
        have fe0 : nv β 0 = 805 := by omega
        have fe3 : nv β 3 = 806 := by omega
        have fe4 : nv β 4 = 1200 := by omega
        try simp only [fe0, fe3, fe4, Int.reduceToNat] at f2 f3 f4 f5
        have s0 : nv β 0 = nv α1 0 := nv_le H1.1 (by omega)
        have s1 : nv β 1 = nv α1 1 := nv_le H1.1 (by omega)
        have s2 : nv β 2 = nv α1 2 := nv_le H1.1 (by omega)
        obtain ⟨c0, c1⟩ := f2
        obtain ⟨α', Ha, hm⟩ := hd_gpM (q := kh_heatDeal_a148) (n := 0) (by decide +kernel) hx H1 (by decide +kernel) hxa hf
        have hfr := H1.2.2.2.2.2.2.2.2.2.2.1
        have m0 : nv α' 0 = nv β 0 := hm 0 0 rfl
        have m1 : nv α' 1 = nv β 6 := hm 1 6 rfl
        subst S'
        have e1 := fr_row hfr 846 (by decide +kernel)
        have e2 := fr_row hfr 847 (by decide +kernel)
        have e3 := fr_row hfr 806 (by decide +kernel)
        refine ih.2.2.2.2.2.1 _ _ _ _ Ha ?_ ?_
        · exact hFits_eq e1 e2 e3 hp.1
        · omega
      · obtain ⟨f1, f2, f3, f4, f5⟩ := as_fx H1
        simp only [kh_heatDeal_b161_1, fx_env, fx_c, fx_ne, fx_hf, wl_S, Nat.zero_add, Nat.reduceAdd, Nat.reduceDiv, Nat.reduceMod, List.getElem?_cons_zero, List.getElem?_cons_succ, if_true, and_true, true_and] at f1 f2 f3 f4 f5
        have fe0 : nv β 0 = 805 := by omega
        have fe3 : nv β 3 = 806 := by omega
        have fe4 : nv β 4 = 1200 := by omega
        try simp only [fe0, fe3, fe4, Int.reduceToNat] at f2 f3 f4 f5
        have s0 : nv β 0 = nv α1 0 := nv_le H1.1 (by omega)
        have s1 : nv β 1 = nv α1 1 := nv_le H1.1 (by omega)
        have s2 : nv β 2 = nv α1 2 := nv_le H1.1 (by omega)
        obtain ⟨c0, c1⟩ := f2
        obtain ⟨α', Ha, hm⟩ := hd_gpM (q := kh_heatDeal_a161) (n := 0) (by decide +kernel) hx H1 (by decide +kernel) hxa hf
        have hfr := H1.2.2.2.2.2.2.2.2.2.2.1
        have m0 : nv α' 0 = nv β 0 := hm 0 0 rfl
        have m1 : nv α' 1 = nv β 1 := hm 1 1 rfl
        have m2 : nv α' 2 = nv β 6 := hm 2 6 rfl
        have e1 := fr_row hfr 846 (by decide +kernel)
        have e2 := fr_row hfr 847 (by decide +kernel)
        have e3 := fr_row hfr 806 (by decide +kernel)
        have hq : hPred S' := by
          have h := H1.2.2.2.2.2.2.2.2.1 500 (by decide +kernel)
          rw [wd_fl1, if_neg (by decide)] at h
          exact h
        refine ih.2.2.2.2.2.2.1 _ _ _ _ Ha ?_ ?_
        · exact ⟨hFits_eq e1 e2 e3 hp.1, hq⟩
        · omega
    · intro α lv st S1 H hp hk
      obtain ⟨α1, hle, Hr⟩ := as_recM (pl := []) [((805, 805), (61, 61, 0)), ((805, 805), (62, 62, 0)), ((858, 858), (0, 9, 1))] (by decide +kernel) H
      have hf := H.2.2.2.2.2.2.2.2.2.2.1
      have hl1 : α1.length = 2 := by rw [Hr.2.1.1]; rfl
      have hl0 : α.length = 2 := by rw [H.2.1.1]; rfl
      have hxa : al_le xs α1 := H.1.trans hle
      obtain ⟨g1, -, g3, g4, -⟩ := as_fx Hr
      have g0 : (805 ≤ nv α1 0 ∧ nv α1 0 ≤ 805) ∧ (12 ≤ nv α1 1 ∧ nv α1 1 ≤ 12) ∧ True := by
        refine ⟨by have h := (en_nv (i := 0) Hr.2.1 rfl).2; exact h, by have h := (en_nv (i := 1) Hr.2.1 rfl).2; exact h, trivial⟩
      have r0 : nv α1 0 = nv α 0 := nv_le hle (by omega)
      have r1 : nv α1 1 = nv α 1 := nv_le hle (by omega)
      refine hd_segM G (na := 2) (fuel := 600) (first := true) (Bs := [kh_heatDeal_b191_0, kh_heatDeal_b191_1]) (by decide +kernel) hl1 Hr ?_
      intro q hq β lv' st' S' H1
      simp only [List.mem_cons, List.not_mem_nil, or_false] at hq
      rcases hq with rfl | rfl
      · obtain ⟨f1, f2, f3, f4, f5⟩ := as_fx H1
        simp only [kh_heatDeal_b191_0, fx_env, fx_c, fx_ne, fx_hf, wl_S, Nat.zero_add, Nat.reduceAdd, Nat.reduceDiv, Nat.reduceMod, List.getElem?_cons_zero, List.getElem?_cons_succ, if_true, and_true, true_and] at f1 f2 f3 f4 f5
        have fe0 : nv β 0 = 805 := by omega
        have fe1 : nv β 1 = 12 := by omega
        have fe2 : nv β 2 = 0 := by omega
        have fe3 : nv β 3 = 0 := by omega
        try simp only [fe0, fe1, fe2, fe3, Int.reduceToNat] at f2 f3 f4 f5
        have s0 : nv β 0 = nv α1 0 := nv_le H1.1 (by omega)
        have s1 : nv β 1 = nv α1 1 := nv_le H1.1 (by omega)
        obtain ⟨α', Ha, hm⟩ := hd_gpM (q := kh_heatDeal_a211) (n := 0) (by decide +kernel) hx H1 (by decide +kernel) hxa hf
        have hfr := H1.2.2.2.2.2.2.2.2.2.2.1
        have m0 : nv α' 0 = nv β 0 := hm 0 0 rfl
        have m1 : nv α' 1 = nv β 3 := hm 1 3 rfl
        have e1 := fr_row hfr 846 (by decide +kernel)
        have e2 := fr_row hfr 847 (by decide +kernel)
        have e3 := fr_row hfr 806 (by decide +kernel)
        refine ih.2.2.2.2.2.2.2.2.2.2.1 _ _ _ _ Ha ?_ ?_
        · exact hFits_eq e1 e2 e3 hp
        · omega
      · obtain ⟨f1, f2, f3, f4, f5⟩ := as_fx H1
        simp only [kh_heatDeal_b191_1, fx_env, fx_c, fx_ne, fx_hf, wl_S, Nat.zero_add, Nat.reduceAdd, Nat.reduceDiv, Nat.reduceMod, List.getElem?_cons_zero, List.getElem?_cons_succ, if_true, and_true, true_and] at f1 f2 f3 f4 f5
        have fe0 : nv β 0 = 805 := by omega
        have fe1 : nv β 1 = 12 := by omega
        have fe2 : nv β 2 = 1 := by omega
        try simp only [fe0, fe1, fe2, Int.reduceToNat] at f2 f3 f4 f5
        have s0 : nv β 0 = nv α1 0 := nv_le H1.1 (by omega)
        have s1 : nv β 1 = nv α1 1 := nv_le H1.1 (by omega)
        obtain ⟨α', Ha, hm⟩ := hd_gpM (q := kh_heatDeal_a199) (n := 0) (by decide +kernel) hx H1 (by decide +kernel) hxa hf
        have hfr := H1.2.2.2.2.2.2.2.2.2.2.1
        have m0 : nv α' 0 = nv β 0 := hm 0 0 rfl
        have m1 : nv α' 1 = nv β 1 := hm 1 1 rfl
        have e1 := fr_row hfr 846 (by decide +kernel)
        have e2 := fr_row hfr 847 (by decide +kernel)
        have e3 := fr_row hfr 806 (by decide +kernel)
        have hq : hChosen S' := by
          have h := H1.2.2.2.2.2.2.2.2.1 501 (by decide +kernel)
          rw [wd_fl1, if_neg (by decide)] at h
          exact h
        refine ih.2.2.2.2.2.2.2.2.1 _ _ _ _ Ha ?_ ?_
        · exact ⟨hq, hFits_eq e1 e2 e3 hp⟩
        · rw [e1, e2]; omega
    · intro α lv st S1 H hp hk
      replace H := as_fl_in (f := [501, 502]) H (fun g hg => by
        rcases List.mem_cons.mp hg with rfl | hg
        · rw [wd_fl1, if_neg (by decide)]
          exact hp.1
        · rcases List.mem_singleton.mp hg with rfl
          rw [wd_fl1, if_neg (by decide)]
          exact hp.2)
      obtain ⟨α1, hle, Hr⟩ := as_recM (pl := []) [((847, 847), (0, 1, 1)), ((848, 848), (0, 33, 1)), ((849, 849), (0, 16, 1)), ((851, 851), (0, 11, 1))] (by decide +kernel) H
      have hf := H.2.2.2.2.2.2.2.2.2.2.1
      have hl1 : α1.length = 2 := by rw [Hr.2.1.1]; rfl
      have hl0 : α.length = 2 := by rw [H.2.1.1]; rfl
      have hxa : al_le xs α1 := H.1.trans hle
      obtain ⟨g1, -, g3, g4, -⟩ := as_fx Hr
      have g0 : (805 ≤ nv α1 0 ∧ nv α1 0 ≤ 805) ∧ (12 ≤ nv α1 1 ∧ nv α1 1 ≤ 12) ∧ True := by
        refine ⟨by have h := (en_nv (i := 0) Hr.2.1 rfl).2; exact h, by have h := (en_nv (i := 1) Hr.2.1 rfl).2; exact h, trivial⟩
      have r0 : nv α1 0 = nv α 0 := nv_le hle (by omega)
      have r1 : nv α1 1 = nv α 1 := nv_le hle (by omega)
      refine hd_callR (Rr := R_hSend) (Rs := [kh_hSend]) (idx := 660) G (List.forall_mem_cons.mpr ⟨kh_hSend_okR, List.forall_mem_nil _⟩) (na := 2) (Bs := [kh_heatDeal_b199_0]) (by decide +kernel) (by decide +kernel) hl1 Hr ?_
      intro q hq β lv' st' S' H1 hRx
      simp only [List.mem_cons, List.not_mem_nil, or_false] at hq
      rcases hq with rfl
      · obtain ⟨f1, f2, f3, f4, f5⟩ := as_fx H1
        simp only [kh_heatDeal_b199_0, fx_env, fx_c, fx_ne, fx_hf, wl_S, Nat.zero_add, Nat.reduceAdd, Nat.reduceDiv, Nat.reduceMod, List.getElem?_cons_zero, List.getElem?_cons_succ, if_true, and_true, true_and] at f1 f2 f3 f4 f5
        have fe0 : nv β 0 = 805 := by omega
        have fe1 : nv β 1 = 12 := by omega
        try simp only [fe0, fe1, Int.reduceToNat] at f2 f3 f4 f5
        have s0 : nv β 0 = nv α1 0 := nv_le H1.1 (by omega)
        have s1 : nv β 1 = nv α1 1 := nv_le H1.1 (by omega)
        obtain ⟨α', Ha, hm⟩ := hd_gpM (q := kh_heatDeal_a202) (n := 0) (by decide +kernel) hx H1 (by decide +kernel) hxa hf
        have hfr := H1.2.2.2.2.2.2.2.2.2.2.1
        have m0 : nv α' 0 = nv β 0 := hm 0 0 rfl
        have m1 : nv α' 1 = nv β 1 := hm 1 1 rfl
        have hq : hFits S' := by
          have h := H1.2.2.2.2.2.2.2.2.1 502 (by decide +kernel)
          rw [wd_fl1, if_neg (by decide)] at h
          exact h
        obtain ⟨Cc, -, ys, rr, -, hR, -⟩ := hRx
        obtain ⟨R1, R2⟩ := hR
        obtain ⟨f0, -⟩ := hq 0 (by decide)
        obtain ⟨f1', -⟩ := hq 1 (by decide)
        rw [sm_2, sm_2] at R1
        rw [R2] at f0 f1'
        refine ih.2.2.2.2.2.2.2.2.2.1 _ _ _ _ Ha ?_ ?_
        · exact hq
        · rw [R2, sm_2, sm_2]
          rw [sm_2, sm_2] at hk
          omega
    · intro α lv st S1 H hp hk
      obtain ⟨α1, hle, Hr⟩ := as_recM (pl := []) [] (by decide +kernel) H
      have hf := H.2.2.2.2.2.2.2.2.2.2.1
      have hl1 : α1.length = 2 := by rw [Hr.2.1.1]; rfl
      have hl0 : α.length = 2 := by rw [H.2.1.1]; rfl
      have hxa : al_le xs α1 := H.1.trans hle
      obtain ⟨g1, -, g3, g4, -⟩ := as_fx Hr
      have g0 : (805 ≤ nv α1 0 ∧ nv α1 0 ≤ 805) ∧ (12 ≤ nv α1 1 ∧ nv α1 1 ≤ 12) ∧ True := by
        refine ⟨by have h := (en_nv (i := 0) Hr.2.1 rfl).2; exact h, by have h := (en_nv (i := 1) Hr.2.1 rfl).2; exact h, trivial⟩
      have r0 : nv α1 0 = nv α 0 := nv_le hle (by omega)
      have r1 : nv α1 1 = nv α 1 := nv_le hle (by omega)
      refine hd_segM G (na := 2) (fuel := 600) (first := true) (Bs := [kh_heatDeal_b202_0]) (by decide +kernel) hl1 Hr ?_
      intro q hq β lv' st' S' H1
      simp only [List.mem_cons, List.not_mem_nil, or_false] at hq
      rcases hq with rfl
      · obtain ⟨f1, f2, f3, f4, f5⟩ := as_fx H1
        simp only [kh_heatDeal_b202_0, fx_env, fx_c, fx_ne, fx_hf, wl_S, Nat.zero_add, Nat.reduceAdd, Nat.reduceDiv, Nat.reduceMod, List.getElem?_cons_zero, List.getElem?_cons_succ, if_true, and_true, true_and] at f1 f2 f3 f4 f5
        have fe0 : nv β 0 = 805 := by omega
        have fe1 : nv β 1 = 12 := by omega
        try simp only [fe0, fe1, Int.reduceToNat] at f2 f3 f4 f5
        have s0 : nv β 0 = nv α1 0 := nv_le H1.1 (by omega)
        have s1 : nv β 1 = nv α1 1 := nv_le H1.1 (by omega)
        obtain ⟨α', Ha, hm⟩ := hd_gpM (q := kh_heatDeal_a191) (n := 0) (by decide +kernel) hx H1 (by decide +kernel) hxa hf
        have hfr := H1.2.2.2.2.2.2.2.2.2.2.1
        have m0 : nv α' 0 = nv β 0 := hm 0 0 rfl
        have m1 : nv α' 1 = nv β 1 := hm 1 1 rfl
        subst S'
        refine ih.2.2.2.2.2.2.2.1 _ _ _ _ Ha ?_ ?_
        · exact hp
        · omega
    · intro α lv st S1 H hp hk
      obtain ⟨α1, hle, Hr⟩ := as_recM (pl := []) [((852, 852), (0, 11, 1)), ((857, 857), (0, 9, 1))] (by decide +kernel) H
      have hf := H.2.2.2.2.2.2.2.2.2.2.1
      have hl1 : α1.length = 2 := by rw [Hr.2.1.1]; rfl
      have hl0 : α.length = 2 := by rw [H.2.1.1]; rfl
      have hxa : al_le xs α1 := H.1.trans hle
      obtain ⟨g1, -, g3, g4, -⟩ := as_fx Hr
      have g0 : (805 ≤ nv α1 0 ∧ nv α1 0 ≤ 805) ∧ (0 ≤ nv α1 1 ∧ nv α1 1 ≤ 12) ∧ True := by
        refine ⟨by have h := (en_nv (i := 0) Hr.2.1 rfl).2; exact h, by have h := (en_nv (i := 1) Hr.2.1 rfl).2; exact h, trivial⟩
      have r0 : nv α1 0 = nv α 0 := nv_le hle (by omega)
      have r1 : nv α1 1 = nv α 1 := nv_le hle (by omega)
      refine hd_segM G (na := 2) (fuel := 600) (first := true) (Bs := [kh_heatDeal_b211_0, kh_heatDeal_b211_1]) (by decide +kernel) hl1 Hr ?_
      intro q hq β lv' st' S' H1
      simp only [List.mem_cons, List.not_mem_nil, or_false] at hq
      rcases hq with rfl | rfl
      · obtain ⟨f1, f2, f3, f4, f5⟩ := as_fx H1
        simp only [kh_heatDeal_b211_0, fx_env, fx_c, fx_ne, fx_hf, wl_S, Nat.zero_add, Nat.reduceAdd, Nat.reduceDiv, Nat.reduceMod, List.getElem?_cons_zero, List.getElem?_cons_succ, if_true, and_true, true_and] at f1 f2 f3 f4 f5
        have fe0 : nv β 0 = 805 := by omega
        have fe1 : nv β 1 = 12 := by omega
        have fe2 : nv β 2 = 12 := by omega
        try simp only [fe0, fe1, fe2, Int.reduceToNat] at f2 f3 f4 f5
        have s0 : nv β 0 = nv α1 0 := nv_le H1.1 (by omega)
        have s1 : nv β 1 = nv α1 1 := nv_le H1.1 (by omega)
        have c0 := f2
        have hq : hFits S' := by rw [f5]; exact hp
        exact hd_run G (ss := []) (fuel := 20) (by decide +kernel) (as_fl_in (f := [502]) (as_backM H1 (by decide +kernel) hxa hf) (fun g hg => by
          rcases List.mem_singleton.mp hg with rfl
          exact hq))
      · obtain ⟨f1, f2, f3, f4, f5⟩ := as_fx H1
        simp only [kh_heatDeal_b211_1, fx_env, fx_c, fx_ne, fx_hf, wl_S, Nat.zero_add, Nat.reduceAdd, Nat.reduceDiv, Nat.reduceMod, List.getElem?_cons_zero, List.getElem?_cons_succ, if_true, and_true, true_and] at f1 f2 f3 f4 f5
        have fe0 : nv β 0 = 805 := by omega
        have fe2 : nv β 2 = 12 := by omega
        try simp only [fe0, fe2, Int.reduceToNat] at f2 f3 f4 f5
        have s0 : nv β 0 = nv α1 0 := nv_le H1.1 (by omega)
        have s1 : nv β 1 = nv α1 1 := nv_le H1.1 (by omega)
        have c0 := f2
        obtain ⟨α', Ha, hm⟩ := hd_gpM (q := kh_heatDeal_a211) (n := 0) (by decide +kernel) hx H1 (by decide +kernel) hxa hf
        have hfr := H1.2.2.2.2.2.2.2.2.2.2.1
        have m0 : nv α' 0 = nv β 0 := hm 0 0 rfl
        have m1 : nv α' 1 = nv β 3 := hm 1 3 rfl
        have e1 := fr_row hfr 846 (by decide +kernel)
        have e2 := fr_row hfr 847 (by decide +kernel)
        have e3 := fr_row hfr 806 (by decide +kernel)
        refine ih.2.2.2.2.2.2.2.2.2.2.1 _ _ _ _ Ha ?_ ?_
        · exact hFits_eq e1 e2 e3 hp
        · omega
  obtain ⟨α1, hle, Hr⟩ := as_recM (pl := []) [] (by decide +kernel) H0
  have hf := H0.2.2.2.2.2.2.2.2.2.2.1
  have hl1 : α1.length = 1 := by rw [Hr.2.1.1]; rfl
  have hl0 : xs.length = 1 := by rw [H0.2.1.1]; rfl
  have hxa : al_le xs α1 := H0.1.trans hle
  obtain ⟨g1, -, g3, g4, -⟩ := as_fx Hr
  have g0 : (805 ≤ nv α1 0 ∧ nv α1 0 ≤ 805) ∧ True := by
    refine ⟨by have h := (en_nv (i := 0) Hr.2.1 rfl).2; exact h, trivial⟩
  have r0 : nv α1 0 = nv xs 0 := nv_le hle (by omega)
  refine hd_segM G (na := 1) (fuel := 600) (first := true) (Bs := [kh_heatDeal_b0_0]) (by decide +kernel) hl1 Hr ?_
  intro q hq β lv' st' S' H1
  simp only [List.mem_cons, List.not_mem_nil, or_false] at hq
  rcases hq with rfl
  · obtain ⟨f1, f2, f3, f4, f5⟩ := as_fx H1
    simp only [kh_heatDeal_b0_0, fx_env, fx_c, fx_ne, fx_hf, wl_S, Nat.zero_add, Nat.reduceAdd, Nat.reduceDiv, Nat.reduceMod, List.getElem?_cons_zero, List.getElem?_cons_succ, if_true, and_true, true_and] at f1 f2 f3 f4 f5
    have fe0 : nv β 0 = 805 := by omega
    have fe1 : nv β 1 = 0 := by omega
    try simp only [fe0, fe1, Int.reduceToNat] at f2 f3 f4 f5
    have s0 : nv β 0 = nv α1 0 := nv_le H1.1 (by omega)
    obtain ⟨α', Ha, hm⟩ := hd_gpM (q := kh_heatDeal_a2) (n := 0) (by decide +kernel) hx H1 (by decide +kernel) hxa hf
    have hfr := H1.2.2.2.2.2.2.2.2.2.2.1
    have m0 : nv α' 0 = nv β 0 := hm 0 0 rfl
    have m1 : nv α' 1 = nv β 1 := hm 1 1 rfl
    subst S'
    refine (hP _).1 _ _ _ _ Ha ?_ (Nat.lt_succ_self _)
    · trivial)
