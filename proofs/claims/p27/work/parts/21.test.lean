/-! ===== FLAGS, contracts ===== -/
def wd_ff : Nat → List md_T := fun _ => []
def wd_fl : Nat → fw_S → Prop := fun _ _ => False
theorem wd_fl_ok : fl_ok wd_ff wd_fl := fun _ _ _ _ _ h => h.elim
def ct_a : ct_T := (24, [(0, -2147483648, 2147483647, 1)], [], [], [(1, (0, -2147483648, 2147483647, 1), [(0, -2147483648, 2147483647, 1)], [], [])], [], 0, 0, 0)
theorem ct_a_ok : ct_ok wd_fl ct_a := ct_of (ff := wd_ff) (y := (⟨"UtilityWorks", "tenthUp", "(I)I"⟩, prog_1_method_127_code, 1, some .int, 11, 0, 1, 24005, 24004, 0, 21001)) (Cs := []) (an := []) (K := 1) (fuel := 200) wd_fl_ok rfl (List.forall_mem_nil _) (by decide +kernel)
def ct_b : ct_T := (302, [(2, 0, 0, 0), (0, -2147483648, 2147483647, 1)], [], [], [(1, (0, 0, 1, 1), [(2, 0, 0, 0), (0, -2147483648, 2147483647, 1)], [], [])], [], 0, 0, 0)
theorem ct_b_ok : ct_ok wd_fl ct_b := ct_of (ff := wd_ff) (y := (⟨"UtilityWorks", "isCrew", "(I)Z"⟩, prog_1_method_123_code, 2, some .boolean, 11, 1, 1, 30188, 30187, 4001, 21001)) (Cs := []) (an := []) (K := 1) (fuel := 200) wd_fl_ok rfl (List.forall_mem_nil _) (by decide +kernel)
