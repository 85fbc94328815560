/-! ===== needThing, needRange, needState: what they throw ===== -/
abbrev kh_needThing_y : mt_T := (⟨"UtilityWorks", "needThing", "(Z)V"⟩, prog_1_method_115_code, 1, none, 11, 0, 1, 25122, 25121, 0, 21001)
def kh_needThing : ct_T := (99, [(0, 0, 1, 1)], [], [], [(0, (0, 0, 0, 0), [(0, 1, 1, 0)], [], ([], [])), (4, (0, 0, 0, 0), [(0, 0, 0, 0)], [], ([], []))], [], 6, 81, 1)
def kh_needThing_b0_0 : sg_T := (12, 0, ([((0, 1, 1, 1), none)], [(0, 0)], [], [], [(0, 0)], [], [], [], none))
def kh_needThing_b0_1 : sg_T := (4, 0, ([((0, 0, 0, 1), none)], [(0, 0)], [], [], [], [], [], [], none))
set_option maxRecDepth 8000 in
theorem kh_needThing_ok : ct_ok wd_fl2 kh_needThing := ct_hand (ff := wd_ff2) (y := kh_needThing_y) (Cs := []) wd_fl2_ok rfl (List.forall_mem_nil _) (by decide +kernel) (fun l D tc ad kd N sm xs S p e s m args below meth c sz lv G H0 => by
  have hx : xs.length = 1 := by rw [H0.2.1.1]; rfl
  refine hd_seg G (na := 1) (fuel := 60) (first := true) (Bs := [kh_needThing_b0_0, kh_needThing_b0_1]) (by decide +kernel) hx H0 ?_
  intro q hq β lv' st' S' H1
  simp only [List.mem_cons, List.not_mem_nil, or_false] at hq
  rcases hq with rfl | rfl
  · exact hd_run G (ss := []) (fuel := 20) (by decide +kernel) H1
  · have hst := st_nil H1 rfl
    subst hst
    exact hd_throw0 G H1 2 (names := ["java/lang/RuntimeException", "java/lang/Exception"]) (ik := 608) (ic := 610) (pl := [25123, 21018, 21015, 25145, 25154, 25158, 25161, 25163, 25146, 25147, 21030, 21031, 25148, 25153, 25159, 25175, 25135, 25176, 25137, 25177, 25139, 25149, 25151, 25141, 25165, 25166, 25167, 25168, 25126, 25168, 25169, 25170, 25171, 25128, 25171, 25172, 25173, 25146, 25130, 25164, 25124, 25125, 25132, 25133, 25134, 25136, 25138, 25140, 25144, 25143, 25142]) (by decide +kernel) (by decide +kernel) (by decide +kernel) (by decide +kernel) (by decide +kernel) (by decide) (by decide) (by decide) (by decide +kernel))
abbrev kh_needRange_y : mt_T := (⟨"UtilityWorks", "needRange", "(Z)V"⟩, prog_1_method_116_code, 1, none, 11, 0, 1, 25191, 25190, 0, 21001)
def kh_needRange : ct_T := (101, [(0, 0, 1, 1)], [], [], [(0, (0, 0, 0, 0), [(0, 1, 1, 0)], [], ([], [])), (2, (0, 0, 0, 0), [(0, 0, 0, 0)], [], ([], []))], [], 6, 81, 1)
def kh_needRange_b0_0 : sg_T := (12, 0, ([((0, 1, 1, 1), none)], [(0, 0)], [], [], [(0, 0)], [], [], [], none))
def kh_needRange_b0_1 : sg_T := (4, 0, ([((0, 0, 0, 1), none)], [(0, 0)], [], [], [], [], [], [], none))
set_option maxRecDepth 8000 in
theorem kh_needRange_ok : ct_ok wd_fl2 kh_needRange := ct_hand (ff := wd_ff2) (y := kh_needRange_y) (Cs := []) wd_fl2_ok rfl (List.forall_mem_nil _) (by decide +kernel) (fun l D tc ad kd N sm xs S p e s m args below meth c sz lv G H0 => by
  have hx : xs.length = 1 := by rw [H0.2.1.1]; rfl
  refine hd_seg G (na := 1) (fuel := 60) (first := true) (Bs := [kh_needRange_b0_0, kh_needRange_b0_1]) (by decide +kernel) hx H0 ?_
  intro q hq β lv' st' S' H1
  simp only [List.mem_cons, List.not_mem_nil, or_false] at hq
  rcases hq with rfl | rfl
  · exact hd_run G (ss := []) (fuel := 20) (by decide +kernel) H1
  · have hst := st_nil H1 rfl
    subst hst
    exact hd_throw0 G H1 0 (names := ["java/lang/RuntimeException", "java/lang/Exception"]) (ik := 611) (ic := 613) (pl := [25192, 21019, 21015, 25145, 25154, 25158, 25161, 25163, 25146, 25147, 21030, 21031, 25148, 25153, 25159, 25175, 25135, 25176, 25137, 25177, 25139, 25149, 25151, 25141, 25202, 25203, 25204, 25168, 25126, 25168, 25169, 25170, 25171, 25128, 25171, 25172, 25173, 25146, 25130, 25201, 25193, 25194, 25195, 25156, 25196, 25197, 25198, 25199, 25144, 25143, 25200]) (by decide +kernel) (by decide +kernel) (by decide +kernel) (by decide +kernel) (by decide +kernel) (by decide) (by decide) (by decide) (by decide +kernel))
abbrev kh_needState_y : mt_T := (⟨"UtilityWorks", "needState", "(Z)V"⟩, prog_1_method_117_code, 1, none, 11, 0, 1, 25222, 25221, 0, 21001)
def kh_needState : ct_T := (104, [(0, 0, 1, 1)], [], [], [(0, (0, 0, 0, 0), [(0, 1, 1, 0)], [], ([], [])), (3, (0, 0, 0, 0), [(0, 0, 0, 0)], [], ([], []))], [], 6, 81, 1)
def kh_needState_b0_0 : sg_T := (12, 0, ([((0, 1, 1, 1), none)], [(0, 0)], [], [], [(0, 0)], [], [], [], none))
def kh_needState_b0_1 : sg_T := (4, 0, ([((0, 0, 0, 1), none)], [(0, 0)], [], [], [], [], [], [], none))
set_option maxRecDepth 8000 in
theorem kh_needState_ok : ct_ok wd_fl2 kh_needState := ct_hand (ff := wd_ff2) (y := kh_needState_y) (Cs := []) wd_fl2_ok rfl (List.forall_mem_nil _) (by decide +kernel) (fun l D tc ad kd N sm xs S p e s m args below meth c sz lv G H0 => by
  have hx : xs.length = 1 := by rw [H0.2.1.1]; rfl
  refine hd_seg G (na := 1) (fuel := 60) (first := true) (Bs := [kh_needState_b0_0, kh_needState_b0_1]) (by decide +kernel) hx H0 ?_
  intro q hq β lv' st' S' H1
  simp only [List.mem_cons, List.not_mem_nil, or_false] at hq
  rcases hq with rfl | rfl
  · exact hd_run G (ss := []) (fuel := 20) (by decide +kernel) H1
  · have hst := st_nil H1 rfl
    subst hst
    exact hd_throw0 G H1 1 (names := ["java/lang/RuntimeException", "java/lang/Exception"]) (ik := 614) (ic := 616) (pl := [25223, 21020, 21015, 25145, 25154, 25158, 25161, 25163, 25146, 25147, 21030, 21031, 25148, 25153, 25159, 25175, 25135, 25176, 25137, 25177, 25139, 25149, 25151, 25141, 25233, 25234, 25235, 25168, 25126, 25168, 25169, 25170, 25171, 25128, 25171, 25172, 25173, 25146, 25130, 25232, 25224, 25225, 25226, 25157, 25227, 25228, 25229, 25230, 25144, 25143, 25231]) (by decide +kernel) (by decide +kernel) (by decide +kernel) (by decide +kernel) (by decide +kernel) (by decide) (by decide) (by decide) (by decide +kernel))
