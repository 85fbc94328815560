/-! ===== LINKS of the classes' tables, each with its word's place ===== -/
def lk_own : Nat → String := fun i => match i with
  | 0 => "UtilityWorks$Books"
  | 1 => "UtilityWorks$Crews"
  | 2 => "UtilityWorks$Customers"
  | 3 => "UtilityWorks$Grid"
  | 4 => "UtilityWorks$Heat"
  | 5 => "UtilityWorks$Power"
  | 6 => "UtilityWorks$Sky"
  | 7 => "UtilityWorks$Stores"
  | 8 => "UtilityWorks$Town"
  | 9 => "UtilityWorks$Water"
  | 10 => "UtilityWorks$Ways"
  | 11 => "UtilityWorks"
  | 12 => "UtilityWorksModel"
  | 13 => "UtilityWorksLaw"
  | 14 => "java/util/Arrays"
  | 15 => "java/lang/Integer"
  | 16 => "java/lang/Math"
  | _ => ""
def tb_row : Nat → List Cond := fun i => match i with
  | 0 => k2_sels lw_privs_1
  | 1 => k2_sels lw_privs_2
  | 2 => k2_sels lw_privs_3
  | 3 => k2_sels lw_privs_4
  | 4 => k2_sels lw_privs_5
  | 5 => k2_sels lw_privs_6
  | 6 => k2_sels lw_privs_7
  | 7 => k2_sels lw_privs_8
  | 8 => k2_sels lw_privs_9
  | 9 => k2_sels lw_privs_10
  | 10 => k2_sels lw_privs_11
  | 11 => k2_sels lw_privs_12
  | 12 => k2_sels lw_privs_13
  | 13 => k2_sels lw_privs_14
  | 14 => k2_sels lw_privs_15
  | 15 => k2_sels lw_privs_16
  | 16 => k2_sels lw_privs_17
  | 17 => k2_sels lw_privs_18
  | 21 => tables_1_1
  | 22 => tables_1_2
  | 23 => tables_1_3
  | 24 => tables_1_4
  | 25 => tables_1_5
  | 26 => tables_1_6
  | 27 => tables_1_7
  | 28 => tables_1_8
  | 29 => tables_1_9
  | 30 => tables_1_10
  | 31 => tables_1_11
  | 32 => tables_1_12
  | 33 => tables_1_13
  | 34 => tables_1_14
  | 35 => tables_1_15
  | 36 => tables_1_16
  | 37 => tables_1_17
  | 38 => tables_1_18
  | _ => []
theorem k2_sub {a b : List (MethodName × Nat)} {w : Cond} (h : ∀ q ∈ a, q ∈ b) (hw : w ∈ k2_sels a) : w ∈ k2_sels b := by
  obtain ⟨q, h1, h2⟩ := List.mem_map.mp hw
  exact List.mem_map.mpr ⟨q, h q h1, h2⟩
theorem tb_row_in : ∀ (i : Nat) (w : Cond), w ∈ tb_row i → w ∈ lw_tbl := by
  intro i w hw
  match i with
  | 0 => exact List.mem_append_left _ (k2_sub (fun q hq => (List.mem_append_left _ hq)) hw)
  | 1 => exact List.mem_append_left _ (k2_sub (fun q hq => (List.mem_append_right _ (List.mem_append_left _ hq))) hw)
  | 2 => exact List.mem_append_left _ (k2_sub (fun q hq => (List.mem_append_right _ (List.mem_append_right _ (List.mem_append_left _ hq)))) hw)
  | 3 => exact List.mem_append_left _ (k2_sub (fun q hq => (List.mem_append_right _ (List.mem_append_right _ (List.mem_append_right _ (List.mem_append_left _ hq))))) hw)
  | 4 => exact List.mem_append_left _ (k2_sub (fun q hq => (List.mem_append_right _ (List.mem_append_right _ (List.mem_append_right _ (List.mem_append_right _ (List.mem_append_left _ hq)))))) hw)
  | 5 => exact List.mem_append_left _ (k2_sub (fun q hq => (List.mem_append_right _ (List.mem_append_right _ (List.mem_append_right _ (List.mem_append_right _ (List.mem_append_right _ (List.mem_append_left _ hq))))))) hw)
  | 6 => exact List.mem_append_left _ (k2_sub (fun q hq => (List.mem_append_right _ (List.mem_append_right _ (List.mem_append_right _ (List.mem_append_right _ (List.mem_append_right _ (List.mem_append_right _ (List.mem_append_left _ hq)))))))) hw)
  | 7 => exact List.mem_append_left _ (k2_sub (fun q hq => (List.mem_append_right _ (List.mem_append_right _ (List.mem_append_right _ (List.mem_append_right _ (List.mem_append_right _ (List.mem_append_right _ (List.mem_append_right _ (List.mem_append_left _ hq))))))))) hw)
  | 8 => exact List.mem_append_left _ (k2_sub (fun q hq => (List.mem_append_right _ (List.mem_append_right _ (List.mem_append_right _ (List.mem_append_right _ (List.mem_append_right _ (List.mem_append_right _ (List.mem_append_right _ (List.mem_append_right _ (List.mem_append_left _ hq)))))))))) hw)
  | 9 => exact List.mem_append_left _ (k2_sub (fun q hq => (List.mem_append_right _ (List.mem_append_right _ (List.mem_append_right _ (List.mem_append_right _ (List.mem_append_right _ (List.mem_append_right _ (List.mem_append_right _ (List.mem_append_right _ (List.mem_append_right _ (List.mem_append_left _ hq))))))))))) hw)
  | 10 => exact List.mem_append_left _ (k2_sub (fun q hq => (List.mem_append_right _ (List.mem_append_right _ (List.mem_append_right _ (List.mem_append_right _ (List.mem_append_right _ (List.mem_append_right _ (List.mem_append_right _ (List.mem_append_right _ (List.mem_append_right _ (List.mem_append_right _ (List.mem_append_left _ hq)))))))))))) hw)
  | 11 => exact List.mem_append_left _ (k2_sub (fun q hq => (List.mem_append_right _ (List.mem_append_right _ (List.mem_append_right _ (List.mem_append_right _ (List.mem_append_right _ (List.mem_append_right _ (List.mem_append_right _ (List.mem_append_right _ (List.mem_append_right _ (List.mem_append_right _ (List.mem_append_right _ (List.mem_append_left _ hq))))))))))))) hw)
  | 12 => exact List.mem_append_left _ (k2_sub (fun q hq => (List.mem_append_right _ (List.mem_append_right _ (List.mem_append_right _ (List.mem_append_right _ (List.mem_append_right _ (List.mem_append_right _ (List.mem_append_right _ (List.mem_append_right _ (List.mem_append_right _ (List.mem_append_right _ (List.mem_append_right _ (List.mem_append_right _ (List.mem_append_left _ hq)))))))))))))) hw)
  | 13 => exact List.mem_append_left _ (k2_sub (fun q hq => (List.mem_append_right _ (List.mem_append_right _ (List.mem_append_right _ (List.mem_append_right _ (List.mem_append_right _ (List.mem_append_right _ (List.mem_append_right _ (List.mem_append_right _ (List.mem_append_right _ (List.mem_append_right _ (List.mem_append_right _ (List.mem_append_right _ (List.mem_append_right _ (List.mem_append_left _ hq))))))))))))))) hw)
  | 14 => exact List.mem_append_left _ (k2_sub (fun q hq => (List.mem_append_right _ (List.mem_append_right _ (List.mem_append_right _ (List.mem_append_right _ (List.mem_append_right _ (List.mem_append_right _ (List.mem_append_right _ (List.mem_append_right _ (List.mem_append_right _ (List.mem_append_right _ (List.mem_append_right _ (List.mem_append_right _ (List.mem_append_right _ (List.mem_append_right _ (List.mem_append_left _ hq)))))))))))))))) hw)
  | 15 => exact List.mem_append_left _ (k2_sub (fun q hq => (List.mem_append_right _ (List.mem_append_right _ (List.mem_append_right _ (List.mem_append_right _ (List.mem_append_right _ (List.mem_append_right _ (List.mem_append_right _ (List.mem_append_right _ (List.mem_append_right _ (List.mem_append_right _ (List.mem_append_right _ (List.mem_append_right _ (List.mem_append_right _ (List.mem_append_right _ (List.mem_append_right _ (List.mem_append_left _ hq))))))))))))))))) hw)
  | 16 => exact List.mem_append_left _ (k2_sub (fun q hq => (List.mem_append_right _ (List.mem_append_right _ (List.mem_append_right _ (List.mem_append_right _ (List.mem_append_right _ (List.mem_append_right _ (List.mem_append_right _ (List.mem_append_right _ (List.mem_append_right _ (List.mem_append_right _ (List.mem_append_right _ (List.mem_append_right _ (List.mem_append_right _ (List.mem_append_right _ (List.mem_append_right _ (List.mem_append_right _ (List.mem_append_left _ hq)))))))))))))))))) hw)
  | 17 => exact List.mem_append_left _ (k2_sub (fun q hq => (List.mem_append_right _ (List.mem_append_right _ (List.mem_append_right _ (List.mem_append_right _ (List.mem_append_right _ (List.mem_append_right _ (List.mem_append_right _ (List.mem_append_right _ (List.mem_append_right _ (List.mem_append_right _ (List.mem_append_right _ (List.mem_append_right _ (List.mem_append_right _ (List.mem_append_right _ (List.mem_append_right _ (List.mem_append_right _ (List.mem_append_right _ hq)))))))))))))))))) hw)
  | 21 => exact List.mem_append_right _ (List.mem_append_left _ hw)
  | 22 => exact List.mem_append_right _ (List.mem_append_right _ (List.mem_append_left _ hw))
  | 23 => exact List.mem_append_right _ (List.mem_append_right _ (List.mem_append_right _ (List.mem_append_left _ hw)))
  | 24 => exact List.mem_append_right _ (List.mem_append_right _ (List.mem_append_right _ (List.mem_append_right _ (List.mem_append_left _ hw))))
  | 25 => exact List.mem_append_right _ (List.mem_append_right _ (List.mem_append_right _ (List.mem_append_right _ (List.mem_append_right _ (List.mem_append_left _ hw)))))
  | 26 => exact List.mem_append_right _ (List.mem_append_right _ (List.mem_append_right _ (List.mem_append_right _ (List.mem_append_right _ (List.mem_append_right _ (List.mem_append_left _ hw))))))
  | 27 => exact List.mem_append_right _ (List.mem_append_right _ (List.mem_append_right _ (List.mem_append_right _ (List.mem_append_right _ (List.mem_append_right _ (List.mem_append_right _ (List.mem_append_left _ hw)))))))
  | 28 => exact List.mem_append_right _ (List.mem_append_right _ (List.mem_append_right _ (List.mem_append_right _ (List.mem_append_right _ (List.mem_append_right _ (List.mem_append_right _ (List.mem_append_right _ (List.mem_append_left _ hw))))))))
  | 29 => exact List.mem_append_right _ (List.mem_append_right _ (List.mem_append_right _ (List.mem_append_right _ (List.mem_append_right _ (List.mem_append_right _ (List.mem_append_right _ (List.mem_append_right _ (List.mem_append_right _ (List.mem_append_left _ hw)))))))))
  | 30 => exact List.mem_append_right _ (List.mem_append_right _ (List.mem_append_right _ (List.mem_append_right _ (List.mem_append_right _ (List.mem_append_right _ (List.mem_append_right _ (List.mem_append_right _ (List.mem_append_right _ (List.mem_append_right _ (List.mem_append_left _ hw))))))))))
  | 31 => exact List.mem_append_right _ (List.mem_append_right _ (List.mem_append_right _ (List.mem_append_right _ (List.mem_append_right _ (List.mem_append_right _ (List.mem_append_right _ (List.mem_append_right _ (List.mem_append_right _ (List.mem_append_right _ (List.mem_append_right _ (List.mem_append_left _ hw)))))))))))
  | 32 => exact List.mem_append_right _ (List.mem_append_right _ (List.mem_append_right _ (List.mem_append_right _ (List.mem_append_right _ (List.mem_append_right _ (List.mem_append_right _ (List.mem_append_right _ (List.mem_append_right _ (List.mem_append_right _ (List.mem_append_right _ (List.mem_append_right _ (List.mem_append_left _ hw))))))))))))
  | 33 => exact List.mem_append_right _ (List.mem_append_right _ (List.mem_append_right _ (List.mem_append_right _ (List.mem_append_right _ (List.mem_append_right _ (List.mem_append_right _ (List.mem_append_right _ (List.mem_append_right _ (List.mem_append_right _ (List.mem_append_right _ (List.mem_append_right _ (List.mem_append_right _ (List.mem_append_left _ hw)))))))))))))
  | 34 => exact List.mem_append_right _ (List.mem_append_right _ (List.mem_append_right _ (List.mem_append_right _ (List.mem_append_right _ (List.mem_append_right _ (List.mem_append_right _ (List.mem_append_right _ (List.mem_append_right _ (List.mem_append_right _ (List.mem_append_right _ (List.mem_append_right _ (List.mem_append_right _ (List.mem_append_right _ (List.mem_append_left _ hw))))))))))))))
  | 35 => exact List.mem_append_right _ (List.mem_append_right _ (List.mem_append_right _ (List.mem_append_right _ (List.mem_append_right _ (List.mem_append_right _ (List.mem_append_right _ (List.mem_append_right _ (List.mem_append_right _ (List.mem_append_right _ (List.mem_append_right _ (List.mem_append_right _ (List.mem_append_right _ (List.mem_append_right _ (List.mem_append_right _ (List.mem_append_left _ hw)))))))))))))))
  | 36 => exact List.mem_append_right _ (List.mem_append_right _ (List.mem_append_right _ (List.mem_append_right _ (List.mem_append_right _ (List.mem_append_right _ (List.mem_append_right _ (List.mem_append_right _ (List.mem_append_right _ (List.mem_append_right _ (List.mem_append_right _ (List.mem_append_right _ (List.mem_append_right _ (List.mem_append_right _ (List.mem_append_right _ (List.mem_append_right _ (List.mem_append_left _ hw))))))))))))))))
  | 37 => exact List.mem_append_right _ (List.mem_append_right _ (List.mem_append_right _ (List.mem_append_right _ (List.mem_append_right _ (List.mem_append_right _ (List.mem_append_right _ (List.mem_append_right _ (List.mem_append_right _ (List.mem_append_right _ (List.mem_append_right _ (List.mem_append_right _ (List.mem_append_right _ (List.mem_append_right _ (List.mem_append_right _ (List.mem_append_right _ (List.mem_append_right _ (List.mem_append_left _ hw)))))))))))))))))
  | 38 => exact List.mem_append_right _ (List.mem_append_right _ (List.mem_append_right _ (List.mem_append_right _ (List.mem_append_right _ (List.mem_append_right _ (List.mem_append_right _ (List.mem_append_right _ (List.mem_append_right _ (List.mem_append_right _ (List.mem_append_right _ (List.mem_append_right _ (List.mem_append_right _ (List.mem_append_right _ (List.mem_append_right _ (List.mem_append_right _ (List.mem_append_right _ (List.mem_append_right _ hw)))))))))))))))))
  | 18 => cases hw
  | 19 => cases hw
  | 20 => cases hw
  | n + 39 => cases hw
def lk_get (pl : Nat) : Option Cond := (tb_row (pl / 1000))[pl % 1000]?
theorem lk_get_in {pl : Nat} {w : Cond} (h : lk_get pl = some w) : w ∈ lw_tbl := tb_row_in _ _ (List.mem_of_getElem? h)
def lk_at (w : Cond) (pl : Nat) : Bool := decide (lk_get pl = some w)
def lk_chk (w : Cond) (pl : Nat) : Bool := lk_at w pl && goodWord w
theorem lk_chk_in {w : Cond} {pl : Nat} (h : lk_chk w pl = true) : w ∈ fw_AW := by
  rw [lk_chk, Bool.and_eq_true] at h
  exact List.mem_filter.mpr ⟨lk_get_in (of_decide_eq_true h.1), h.2⟩
theorem lk_at_in {w : Cond} {pl : Nat} (h : lk_at w pl = true) (hn : fw_nest w = true) : w ∈ fw_NW := List.mem_filter.mpr ⟨lk_get_in (of_decide_eq_true h), hn⟩
abbrev lk_F : Type := Nat × Nat × Nat × Nat
def lkf_0 : List lk_F := [(13, 0, 0, 22171), (16, 0, 1, 22173), (22, 0, 4, 22182), (25, 0, 5, 22183), (29, 0, 6, 22185), (32, 0, 7, 22186), (35, 0, 8, 22187), (38, 0, 9, 22188), (42, 0, 10, 22190), (59, 0, 2, 22176), (63, 0, 3, 22179), (110, 8, 6, 23108), (130, 8, 0, 23071), (138, 2, 1, 22141), (177, 8, 8, 23116), (190, 2, 0, 22134)]
def lkf_1 : List lk_F := [(13, 1, 1, 22228), (16, 1, 3, 22232), (23, 1, 0, 22226), (31, 1, 2, 22230), (46, 8, 6, 23107), (52, 2, 1, 22140), (59, 8, 1, 23077), (63, 10, 1, 21050), (76, 8, 10, 23123), (80, 6, 5, 23041), (90, 8, 2, 23085), (100, 3, 3, 21114), (119, 8, 7, 23112), (128, 0, 2, 22177), (136, 10, 5, 21063), (156, 8, 9, 23119), (182, 8, 0, 23070), (192, 3, 1, 21107)]
def lkf_2 : List lk_F := [(11, 2, 1, 22136), (16, 2, 2, 22143), (20, 2, 3, 22147), (30, 2, 0, 22129), (64, 8, 10, 23124), (79, 8, 3, 23091), (83, 5, 12, 21158), (92, 8, 4, 23096), (96, 9, 17, 22005), (99, 8, 5, 23101), (103, 4, 14, 22083)]
def lkf_3 : List lk_F := [(11, 3, 0, 21102), (16, 3, 1, 21104), (19, 3, 2, 21108), (22, 3, 3, 21110), (61, 10, 0, 21046), (75, 10, 1, 21051), (105, 8, 0, 23072), (118, 8, 10, 23127), (122, 6, 0, 23030), (131, 8, 7, 23113), (144, 8, 1, 23079)]
def lkf_4 : List lk_F := [(13, 4, 1, 22061), (16, 4, 2, 22065), (20, 4, 3, 22067), (24, 4, 5, 22070), (27, 4, 6, 22072), (30, 4, 7, 22073), (33, 4, 8, 22074), (36, 4, 9, 22075), (39, 4, 10, 22077), (42, 4, 11, 22078), (45, 4, 12, 22079), (48, 4, 13, 22080), (51, 4, 14, 22081), (64, 4, 0, 22057), (84, 8, 10, 23121), (96, 6, 0, 23028), (99, 4, 4, 22069), (109, 8, 6, 23103), (113, 2, 0, 22131), (116, 2, 1, 22137), (126, 8, 2, 23083), (149, 8, 3, 23089), (159, 8, 4, 23094), (163, 9, 16, 22002), (176, 8, 1, 23076), (184, 3, 3, 21113), (193, 10, 1, 21049), (206, 10, 5, 21062), (221, 2, 2, 22145), (241, 6, 7, 23047)]
def lkf_5 : List lk_F := [(13, 5, 1, 21139), (16, 5, 2, 21141), (20, 5, 3, 21143), (24, 5, 4, 21145), (28, 5, 5, 21147), (31, 5, 6, 21148), (34, 5, 7, 21149), (37, 5, 8, 21150), (40, 5, 9, 21151), (43, 5, 10, 21152), (46, 5, 11, 21154), (49, 5, 12, 21156), (52, 5, 13, 21159), (55, 5, 14, 21161), (62, 5, 0, 21137), (78, 8, 2, 23082), (106, 8, 1, 23075), (110, 10, 0, 21045), (121, 3, 3, 21111), (128, 10, 4, 21060), (131, 10, 3, 21058), (134, 8, 4, 23093), (138, 9, 0, 21218), (143, 9, 1, 21221), (153, 8, 5, 23098), (157, 4, 0, 22058), (160, 4, 1, 22062), (163, 8, 6, 23104), (167, 2, 0, 22132), (170, 2, 2, 22144), (177, 2, 1, 22138), (185, 10, 2, 21056), (207, 5, 15, 21162), (210, 5, 16, 21164), (242, 8, 10, 23125), (246, 6, 7, 23046), (266, 10, 1, 21053)]
def lkf_6 : List lk_F := [(9, 6, 0, 23027), (15, 6, 1, 23032), (18, 6, 4, 23038), (23, 6, 6, 23043), (26, 6, 7, 23045), (30, 6, 2, 23034), (33, 6, 3, 23036), (37, 6, 5, 23040), (81, 3, 3, 21115), (89, 8, 2, 23086), (116, 3, 1, 21106)]
def lkf_7 : List lk_F := [(13, 7, 0, 23012), (16, 7, 1, 23014), (31, 0, 1, 22174), (40, 8, 0, 23069), (46, 8, 7, 23111), (54, 0, 3, 22180)]
def lkf_8 : List lk_F := [(12, 8, 1, 23073), (21, 8, 2, 23080), (28, 8, 3, 23087), (35, 8, 4, 23092), (42, 8, 5, 23097), (49, 8, 6, 23102), (56, 8, 7, 23109), (63, 8, 8, 23114), (70, 8, 9, 23117), (77, 8, 10, 23120), (81, 8, 11, 23128), (85, 8, 12, 23129), (88, 8, 15, 23134), (91, 8, 0, 23067), (132, 9, 11, 21236), (135, 4, 9, 22076), (152, 2, 0, 22130), (155, 5, 12, 21157), (162, 9, 17, 22004), (163, 4, 14, 22082), (183, 8, 13, 23131), (190, 8, 14, 23133)]
def lkf_9 : List lk_F := [(13, 9, 1, 21220), (16, 9, 3, 21225), (19, 9, 4, 21227), (23, 9, 5, 21228), (27, 9, 6, 21230), (30, 9, 7, 21231), (33, 9, 8, 21232), (36, 9, 9, 21233), (39, 9, 10, 21234), (42, 9, 11, 21235), (45, 9, 12, 21237), (48, 9, 13, 21238), (51, 9, 14, 21239), (54, 9, 15, 22000), (57, 9, 16, 22001), (60, 9, 17, 22003), (71, 9, 0, 21217), (79, 9, 2, 21223), (90, 8, 3, 23088), (111, 3, 3, 21112), (124, 8, 2, 23084), (166, 8, 5, 23100), (170, 4, 0, 22059), (175, 4, 1, 22063), (182, 8, 6, 23106), (186, 2, 0, 22133), (189, 2, 1, 22139), (206, 3, 0, 21103), (209, 8, 1, 23078), (213, 10, 0, 21047), (226, 10, 1, 21052), (235, 10, 5, 21064), (241, 2, 2, 22146), (258, 8, 10, 23126), (262, 6, 7, 23048), (271, 6, 0, 23029)]
def lkf_10 : List lk_F := [(9, 10, 0, 21044), (15, 10, 1, 21048), (19, 10, 2, 21055), (22, 10, 3, 21057), (25, 10, 5, 21061), (28, 10, 4, 21059)]
def lkf_11 : List lk_F := [(12, 11, 0, 23169), (16, 11, 1, 23170), (38, 8, 2, 23081), (59, 8, 1, 23074), (82, 8, 7, 23110), (103, 8, 0, 23068), (107, 8, 10, 23122), (117, 8, 8, 23115), (124, 8, 3, 23090), (131, 8, 4, 23095), (138, 8, 5, 23099), (145, 8, 6, 23105), (153, 8, 9, 23118), (197, 3, 3, 21116), (201, 3, 1, 21105), (212, 3, 2, 21109), (253, 10, 1, 21054), (259, 10, 5, 21065), (266, 5, 0, 21138), (269, 5, 1, 21140), (282, 5, 11, 21155), (288, 5, 10, 21153), (291, 5, 4, 21146), (299, 5, 13, 21160), (305, 5, 2, 21142), (311, 5, 15, 21163), (314, 5, 16, 21165), (317, 5, 3, 21144), (322, 9, 0, 21219), (325, 9, 1, 21222), (331, 9, 2, 21224), (334, 9, 3, 21226), (368, 9, 5, 21229), (370, 4, 0, 22060), (371, 4, 1, 22064), (392, 4, 2, 22066), (395, 4, 5, 22071), (404, 4, 3, 22068), (406, 2, 0, 22135), (410, 2, 1, 22142), (437, 0, 0, 22172), (463, 0, 10, 22191), (467, 0, 9, 22189), (470, 0, 1, 22175), (473, 0, 5, 22184), (491, 1, 0, 22227), (498, 1, 1, 22229), (505, 1, 2, 22231), (508, 1, 3, 22233), (534, 7, 0, 23013), (541, 0, 2, 22178), (545, 0, 3, 22181), (550, 6, 0, 23031), (553, 6, 1, 23033), (556, 6, 2, 23035), (559, 6, 3, 23037), (564, 6, 4, 23039), (573, 6, 5, 23042), (582, 6, 6, 23044), (600, 8, 13, 23132), (601, 8, 12, 23130), (604, 6, 7, 23049)]
def lkf_12 : List lk_F := [(9, 12, 0, 31211), (13, 12, 1, 31212), (17, 12, 2, 31213), (20, 12, 3, 31214), (23, 12, 4, 31215), (26, 12, 5, 31216), (29, 12, 6, 31217), (33, 12, 7, 31218), (36, 12, 9, 31220), (39, 12, 10, 31221), (42, 12, 11, 31222), (45, 12, 12, 31223), (48, 12, 13, 31224), (51, 12, 14, 31225), (54, 12, 15, 31226), (57, 12, 16, 31227), (60, 12, 17, 31228), (63, 12, 18, 31229), (66, 12, 19, 31230), (69, 12, 20, 31231), (72, 12, 26, 31237), (75, 12, 27, 31238), (78, 12, 28, 31239), (81, 12, 29, 32000), (84, 12, 30, 32001), (87, 12, 31, 32002), (90, 12, 32, 32003), (93, 12, 33, 32004), (96, 12, 34, 32005), (99, 12, 35, 32006), (102, 12, 36, 32007), (105, 12, 37, 32008), (108, 12, 38, 32009), (111, 12, 39, 32010), (114, 12, 40, 32011), (117, 12, 41, 32012), (120, 12, 42, 32013), (123, 12, 43, 32014), (126, 12, 44, 32015), (129, 12, 45, 32016), (132, 12, 49, 32020), (135, 12, 50, 32021), (138, 12, 51, 32022), (141, 12, 52, 32023), (144, 12, 53, 32024), (147, 12, 54, 32025), (150, 12, 55, 32026), (153, 12, 56, 32027), (156, 12, 57, 32028), (159, 12, 58, 32029), (162, 12, 59, 32030), (165, 12, 60, 32031), (168, 12, 63, 32034), (171, 12, 64, 32035), (174, 12, 66, 32037), (177, 12, 67, 32038), (180, 12, 68, 32039), (210, 12, 8, 31219), (419, 12, 21, 31232), (470, 12, 22, 31233), (473, 12, 23, 31234), (476, 12, 24, 31235), (479, 12, 25, 31236), (531, 12, 46, 32017), (534, 12, 47, 32018), (546, 12, 48, 32019), (639, 12, 61, 32032), (642, 12, 62, 32033), (770, 12, 65, 32036)]
def lkf : Nat → List lk_F := fun i => match i with
  | 0 => lkf_0
  | 1 => lkf_1
  | 2 => lkf_2
  | 3 => lkf_3
  | 4 => lkf_4
  | 5 => lkf_5
  | 6 => lkf_6
  | 7 => lkf_7
  | 8 => lkf_8
  | 9 => lkf_9
  | 10 => lkf_10
  | 11 => lkf_11
  | 12 => lkf_12
  | _ => []
def lkf_b (oc : Nat) (q : lk_F) : Bool := match vwCl[q.2.1]? with
  | some (_, T, n0) => decide (q.2.2.1 < n0) && lk_chk (.fieldLink (lk_own oc) q.1 (T q.2.2.1).1 (T q.2.2.1).2.1 (T q.2.2.1).2.2.1) q.2.2.2
  | none => false
theorem lkf_0_ok : lkf_0.all (lkf_b 0) = true := by decide +kernel
theorem lkf_1_ok : lkf_1.all (lkf_b 1) = true := by decide +kernel
theorem lkf_2_ok : lkf_2.all (lkf_b 2) = true := by decide +kernel
theorem lkf_3_ok : lkf_3.all (lkf_b 3) = true := by decide +kernel
theorem lkf_4_ok : lkf_4.all (lkf_b 4) = true := by decide +kernel
theorem lkf_5_ok : lkf_5.all (lkf_b 5) = true := by decide +kernel
theorem lkf_6_ok : lkf_6.all (lkf_b 6) = true := by decide +kernel
theorem lkf_7_ok : lkf_7.all (lkf_b 7) = true := by decide +kernel
theorem lkf_8_ok : lkf_8.all (lkf_b 8) = true := by decide +kernel
theorem lkf_9_ok : lkf_9.all (lkf_b 9) = true := by decide +kernel
theorem lkf_10_ok : lkf_10.all (lkf_b 10) = true := by decide +kernel
theorem lkf_11_ok : lkf_11.all (lkf_b 11) = true := by decide +kernel
theorem lkf_12_ok : lkf_12.all (lkf_b 12) = true := by decide +kernel
theorem lkf_ok : ∀ oc, ∀ q ∈ lkf oc, lkf_b oc q = true := by
  intro oc q hq
  match oc with
  | 0 => exact List.all_eq_true.mp lkf_0_ok q hq
  | 1 => exact List.all_eq_true.mp lkf_1_ok q hq
  | 2 => exact List.all_eq_true.mp lkf_2_ok q hq
  | 3 => exact List.all_eq_true.mp lkf_3_ok q hq
  | 4 => exact List.all_eq_true.mp lkf_4_ok q hq
  | 5 => exact List.all_eq_true.mp lkf_5_ok q hq
  | 6 => exact List.all_eq_true.mp lkf_6_ok q hq
  | 7 => exact List.all_eq_true.mp lkf_7_ok q hq
  | 8 => exact List.all_eq_true.mp lkf_8_ok q hq
  | 9 => exact List.all_eq_true.mp lkf_9_ok q hq
  | 10 => exact List.all_eq_true.mp lkf_10_ok q hq
  | 11 => exact List.all_eq_true.mp lkf_11_ok q hq
  | 12 => exact List.all_eq_true.mp lkf_12_ok q hq
  | n + 13 => cases hq
def lks_0 : List lk_F := []
def lks_1 : List lk_F := [(55, 0, 26115, 1), (139, 1, 26129, 1), (165, 7, 26173, 0)]
def lks_2 : List lk_F := [(23, 6, 22122, 0)]
def lks_3 : List lk_F := [(26, 3, 21089, 0), (33, 4, 21098, 0), (36, 5, 21100, 0), (78, 0, 25069, 1), (81, 1, 25070, 1)]
def lks_4 : List lk_F := [(215, 0, 24210, 1), (218, 1, 24211, 1)]
def lks_5 : List lk_F := [(188, 0, 23226, 1), (191, 1, 23228, 1)]
def lks_6 : List lk_F := [(99, 0, 26073, 1), (106, 1, 26087, 1)]
def lks_7 : List lk_F := [(19, 9, 23010, 0), (37, 8, 27139, 0)]
def lks_8 : List lk_F := []
def lks_9 : List lk_F := [(114, 1, 24075, 1), (117, 0, 24076, 1)]
def lks_10 : List lk_F := [(32, 2, 23200, 1), (35, 0, 23202, 1), (38, 1, 23204, 1)]
def lks_11 : List lk_F := [(237, 0, 28110, 0), (240, 1, 28111, 0), (538, 8, 31029, 0)]
def lks_12 : List lk_F := []
def lks : Nat → List lk_F := fun i => match i with
  | 0 => lks_0
  | 1 => lks_1
  | 2 => lks_2
  | 3 => lks_3
  | 4 => lks_4
  | 5 => lks_5
  | 6 => lks_6
  | 7 => lks_7
  | 8 => lks_8
  | 9 => lks_9
  | 10 => lks_10
  | 11 => lks_11
  | 12 => lks_12
  | _ => []
def lks_b (oc : Nat) (q : lk_F) : Bool := match fw_sn[q.2.1]? with
  | some t => if q.2.2.2 = 0 then lk_chk (.fieldLink (lk_own oc) q.1 t.1 t.2.1 "[I") q.2.2.1 else lk_at (.fieldLinkNest (lk_own oc) q.1 t.1 t.2.1 "[I" "UtilityWorks") q.2.2.1
  | none => false
theorem lks_0_ok : lks_0.all (lks_b 0) = true := by decide +kernel
theorem lks_1_ok : lks_1.all (lks_b 1) = true := by decide +kernel
theorem lks_2_ok : lks_2.all (lks_b 2) = true := by decide +kernel
theorem lks_3_ok : lks_3.all (lks_b 3) = true := by decide +kernel
theorem lks_4_ok : lks_4.all (lks_b 4) = true := by decide +kernel
theorem lks_5_ok : lks_5.all (lks_b 5) = true := by decide +kernel
theorem lks_6_ok : lks_6.all (lks_b 6) = true := by decide +kernel
theorem lks_7_ok : lks_7.all (lks_b 7) = true := by decide +kernel
theorem lks_8_ok : lks_8.all (lks_b 8) = true := by decide +kernel
theorem lks_9_ok : lks_9.all (lks_b 9) = true := by decide +kernel
theorem lks_10_ok : lks_10.all (lks_b 10) = true := by decide +kernel
theorem lks_11_ok : lks_11.all (lks_b 11) = true := by decide +kernel
theorem lks_12_ok : lks_12.all (lks_b 12) = true := by decide +kernel
theorem lks_ok : ∀ oc, ∀ q ∈ lks oc, lks_b oc q = true := by
  intro oc q hq
  match oc with
  | 0 => exact List.all_eq_true.mp lks_0_ok q hq
  | 1 => exact List.all_eq_true.mp lks_1_ok q hq
  | 2 => exact List.all_eq_true.mp lks_2_ok q hq
  | 3 => exact List.all_eq_true.mp lks_3_ok q hq
  | 4 => exact List.all_eq_true.mp lks_4_ok q hq
  | 5 => exact List.all_eq_true.mp lks_5_ok q hq
  | 6 => exact List.all_eq_true.mp lks_6_ok q hq
  | 7 => exact List.all_eq_true.mp lks_7_ok q hq
  | 8 => exact List.all_eq_true.mp lks_8_ok q hq
  | 9 => exact List.all_eq_true.mp lks_9_ok q hq
  | 10 => exact List.all_eq_true.mp lks_10_ok q hq
  | 11 => exact List.all_eq_true.mp lks_11_ok q hq
  | 12 => exact List.all_eq_true.mp lks_12_ok q hq
  | n + 13 => cases hq
def lkc_0 : List (Nat × Int32 × Nat) := []
def lkc_1 : List (Nat × Int32 × Nat) := []
def lkc_2 : List (Nat × Int32 × Nat) := []
def lkc_3 : List (Nat × Int32 × Nat) := []
def lkc_4 : List (Nat × Int32 × Nat) := [(136, 1000000, 24185)]
def lkc_5 : List (Nat × Int32 × Nat) := []
def lkc_6 : List (Nat × Int32 × Nat) := [(54, 65537, 26067)]
def lkc_7 : List (Nat × Int32 × Nat) := []
def lkc_8 : List (Nat × Int32 × Nat) := []
def lkc_9 : List (Nat × Int32 × Nat) := [(198, 1000000, 24114)]
def lkc_10 : List (Nat × Int32 × Nat) := []
def lkc_11 : List (Nat × Int32 × Nat) := [(440, 99999, 30078), (563, 65536, 31051)]
def lkc_12 : List (Nat × Int32 × Nat) := [(820, 99999, 37126), (932, 65537, 33061), (951, 65536, 38000)]
def lkc_13 : List (Nat × Int32 × Nat) := []
def lkc_14 : List (Nat × Int32 × Nat) := []
def lkc_15 : List (Nat × Int32 × Nat) := [(265, 1431655765, 28226), (266, 858993459, 28227), (267, 252645135, 28228)]
def lkc_16 : List (Nat × Int32 × Nat) := []
def lkc : Nat → List (Nat × Int32 × Nat) := fun i => match i with
  | 0 => lkc_0
  | 1 => lkc_1
  | 2 => lkc_2
  | 3 => lkc_3
  | 4 => lkc_4
  | 5 => lkc_5
  | 6 => lkc_6
  | 7 => lkc_7
  | 8 => lkc_8
  | 9 => lkc_9
  | 10 => lkc_10
  | 11 => lkc_11
  | 12 => lkc_12
  | 13 => lkc_13
  | 14 => lkc_14
  | 15 => lkc_15
  | 16 => lkc_16
  | _ => []
def lkc_b (oc : Nat) (q : Nat × Int32 × Nat) : Bool := lk_chk (.constant (lk_own oc) q.1 q.2.1) q.2.2
theorem lkc_0_ok : lkc_0.all (lkc_b 0) = true := by decide +kernel
theorem lkc_1_ok : lkc_1.all (lkc_b 1) = true := by decide +kernel
theorem lkc_2_ok : lkc_2.all (lkc_b 2) = true := by decide +kernel
theorem lkc_3_ok : lkc_3.all (lkc_b 3) = true := by decide +kernel
theorem lkc_4_ok : lkc_4.all (lkc_b 4) = true := by decide +kernel
theorem lkc_5_ok : lkc_5.all (lkc_b 5) = true := by decide +kernel
theorem lkc_6_ok : lkc_6.all (lkc_b 6) = true := by decide +kernel
theorem lkc_7_ok : lkc_7.all (lkc_b 7) = true := by decide +kernel
theorem lkc_8_ok : lkc_8.all (lkc_b 8) = true := by decide +kernel
theorem lkc_9_ok : lkc_9.all (lkc_b 9) = true := by decide +kernel
theorem lkc_10_ok : lkc_10.all (lkc_b 10) = true := by decide +kernel
theorem lkc_11_ok : lkc_11.all (lkc_b 11) = true := by decide +kernel
theorem lkc_12_ok : lkc_12.all (lkc_b 12) = true := by decide +kernel
theorem lkc_13_ok : lkc_13.all (lkc_b 13) = true := by decide +kernel
theorem lkc_14_ok : lkc_14.all (lkc_b 14) = true := by decide +kernel
theorem lkc_15_ok : lkc_15.all (lkc_b 15) = true := by decide +kernel
theorem lkc_16_ok : lkc_16.all (lkc_b 16) = true := by decide +kernel
theorem lkc_ok : ∀ oc, ∀ q ∈ lkc oc, lkc_b oc q = true := by
  intro oc q hq
  match oc with
  | 0 => exact List.all_eq_true.mp lkc_0_ok q hq
  | 1 => exact List.all_eq_true.mp lkc_1_ok q hq
  | 2 => exact List.all_eq_true.mp lkc_2_ok q hq
  | 3 => exact List.all_eq_true.mp lkc_3_ok q hq
  | 4 => exact List.all_eq_true.mp lkc_4_ok q hq
  | 5 => exact List.all_eq_true.mp lkc_5_ok q hq
  | 6 => exact List.all_eq_true.mp lkc_6_ok q hq
  | 7 => exact List.all_eq_true.mp lkc_7_ok q hq
  | 8 => exact List.all_eq_true.mp lkc_8_ok q hq
  | 9 => exact List.all_eq_true.mp lkc_9_ok q hq
  | 10 => exact List.all_eq_true.mp lkc_10_ok q hq
  | 11 => exact List.all_eq_true.mp lkc_11_ok q hq
  | 12 => exact List.all_eq_true.mp lkc_12_ok q hq
  | 13 => exact List.all_eq_true.mp lkc_13_ok q hq
  | 14 => exact List.all_eq_true.mp lkc_14_ok q hq
  | 15 => exact List.all_eq_true.mp lkc_15_ok q hq
  | 16 => exact List.all_eq_true.mp lkc_16_ok q hq
  | n + 17 => cases hq
def lkl_0 : List (Nat × Int64 × Nat) := [(45, 100000, 22166), (95, -1, 30115), (97, 10, 27027), (99, 9, 30116), (108, 100, 27040), (141, 50, 27049), (161, 2, 27087), (167, 40, 27107), (169, 30, 27108), (171, 20, 27109)]
def lkl_1 : List (Nat × Int64 × Nat) := []
def lkl_2 : List (Nat × Int64 × Nat) := []
def lkl_3 : List (Nat × Int64 × Nat) := []
def lkl_4 : List (Nat × Int64 × Nat) := []
def lkl_5 : List (Nat × Int64 × Nat) := [(240, 5, 26210)]
def lkl_6 : List (Nat × Int64 × Nat) := []
def lkl_7 : List (Nat × Int64 × Nat) := []
def lkl_8 : List (Nat × Int64 × Nat) := []
def lkl_9 : List (Nat × Int64 × Nat) := [(278, 150, 24149)]
def lkl_10 : List (Nat × Int64 × Nat) := []
def lkl_11 : List (Nat × Int64 × Nat) := []
def lkl_12 : List (Nat × Int64 × Nat) := [(616, 150, 35210), (744, 100000, 31184), (763, 100, 35081), (768, 50, 35102), (777, 2, 35107), (783, 40, 35120), (785, 30, 35121), (787, 20, 35122)]
def lkl : Nat → List (Nat × Int64 × Nat) := fun i => match i with
  | 0 => lkl_0
  | 1 => lkl_1
  | 2 => lkl_2
  | 3 => lkl_3
  | 4 => lkl_4
  | 5 => lkl_5
  | 6 => lkl_6
  | 7 => lkl_7
  | 8 => lkl_8
  | 9 => lkl_9
  | 10 => lkl_10
  | 11 => lkl_11
  | 12 => lkl_12
  | _ => []
def lkl_b (oc : Nat) (q : Nat × Int64 × Nat) : Bool := lk_chk (.constantLong (lk_own oc) q.1 q.2.1) q.2.2
theorem lkl_0_ok : lkl_0.all (lkl_b 0) = true := by decide +kernel
theorem lkl_1_ok : lkl_1.all (lkl_b 1) = true := by decide +kernel
theorem lkl_2_ok : lkl_2.all (lkl_b 2) = true := by decide +kernel
theorem lkl_3_ok : lkl_3.all (lkl_b 3) = true := by decide +kernel
theorem lkl_4_ok : lkl_4.all (lkl_b 4) = true := by decide +kernel
theorem lkl_5_ok : lkl_5.all (lkl_b 5) = true := by decide +kernel
theorem lkl_6_ok : lkl_6.all (lkl_b 6) = true := by decide +kernel
theorem lkl_7_ok : lkl_7.all (lkl_b 7) = true := by decide +kernel
theorem lkl_8_ok : lkl_8.all (lkl_b 8) = true := by decide +kernel
theorem lkl_9_ok : lkl_9.all (lkl_b 9) = true := by decide +kernel
theorem lkl_10_ok : lkl_10.all (lkl_b 10) = true := by decide +kernel
theorem lkl_11_ok : lkl_11.all (lkl_b 11) = true := by decide +kernel
theorem lkl_12_ok : lkl_12.all (lkl_b 12) = true := by decide +kernel
theorem lkl_ok : ∀ oc, ∀ q ∈ lkl oc, lkl_b oc q = true := by
  intro oc q hq
  match oc with
  | 0 => exact List.all_eq_true.mp lkl_0_ok q hq
  | 1 => exact List.all_eq_true.mp lkl_1_ok q hq
  | 2 => exact List.all_eq_true.mp lkl_2_ok q hq
  | 3 => exact List.all_eq_true.mp lkl_3_ok q hq
  | 4 => exact List.all_eq_true.mp lkl_4_ok q hq
  | 5 => exact List.all_eq_true.mp lkl_5_ok q hq
  | 6 => exact List.all_eq_true.mp lkl_6_ok q hq
  | 7 => exact List.all_eq_true.mp lkl_7_ok q hq
  | 8 => exact List.all_eq_true.mp lkl_8_ok q hq
  | 9 => exact List.all_eq_true.mp lkl_9_ok q hq
  | 10 => exact List.all_eq_true.mp lkl_10_ok q hq
  | 11 => exact List.all_eq_true.mp lkl_11_ok q hq
  | 12 => exact List.all_eq_true.mp lkl_12_ok q hq
  | n + 13 => cases hq
theorem lk_zip {ws : List Cond} {ps : List Nat} (h : (ws.zip ps).all (fun q => lk_chk q.1 q.2) = true) (hl : ws.length ≤ ps.length) : ∀ w ∈ ws, w ∈ fw_AW := by
  intro w hw
  obtain ⟨i, hi, he⟩ := List.mem_iff_getElem.mp hw
  have hz : (ws.zip ps)[i]? = some (w, ps[i]) := by
    rw [List.getElem?_zip_eq_some]
    exact ⟨by rw [List.getElem?_eq_getElem hi, he], List.getElem?_eq_getElem (by omega)⟩
  exact lk_chk_in (List.all_eq_true.mp h _ (List.mem_of_getElem? hz))
def lku_0 : List Nat := [22192, 22194, 22196, 22198, 22200, 22202, 22204, 22206, 22208, 22210, 22212]
def lku_1 : List Nat := [22234, 22236, 22238, 23000]
def lku_2 : List Nat := [22148, 22150, 22152, 22154]
def lku_3 : List Nat := [21117, 21119, 21121, 21123]
def lku_4 : List Nat := [22084, 22086, 22088, 22090, 22092, 22094, 22096, 22098, 22100, 22102, 22104, 22106, 22108, 22110, 22112]
def lku_5 : List Nat := [21166, 21168, 21170, 21172, 21174, 21176, 21178, 21180, 21182, 21184, 21186, 21188, 21190, 21192, 21194, 21196, 21198]
def lku_6 : List Nat := [23050, 23052, 23054, 23056, 23058, 23060, 23062, 23064]
def lku_7 : List Nat := [23015, 23017]
def lku_8 : List Nat := [23135, 23137, 23139, 23141, 23143, 23145, 23147, 23149, 23151, 23153, 23155, 23157, 23159, 23161, 23163, 23165]
def lku_9 : List Nat := [22006, 22008, 22010, 22012, 22014, 22016, 22018, 22020, 22022, 22024, 22026, 22028, 22030, 22032, 22034, 22036, 22038, 22040]
def lku_10 : List Nat := [21066, 21068, 21070, 21072, 21074, 21076]
def lku_11 : List Nat := [23171, 23173]
def lku_12 : List Nat := [32040, 32042, 32044, 32046, 32048, 32050, 32052, 32054, 32056, 32058, 32060, 32062, 32064, 32066, 32068, 32070, 32072, 32074, 32076, 32078, 32080, 32082, 32084, 32086, 32088, 32090, 32092, 32094, 32096, 32098, 32100, 32102, 32104, 32106, 32108, 32110, 32112, 32114, 32116, 32118, 32120, 32122, 32124, 32126, 32128, 32130, 32132, 32134, 32136, 32138, 32140, 32142, 32144, 32146, 32148, 32150, 32152, 32154, 32156, 32158, 32160, 32162, 32164, 32166, 32168, 32170, 32172, 32174, 32176]
theorem lku_0_ok : (u_ws RX0 TX0 11).zip lku_0 |>.all (fun q => lk_chk q.1 q.2) := by decide +kernel
theorem lku_0_in : ∀ w ∈ u_ws RX0 TX0 11, w ∈ fw_AW := lk_zip lku_0_ok (by decide +kernel)
theorem lku_1_ok : (u_ws RX1 TX1 4).zip lku_1 |>.all (fun q => lk_chk q.1 q.2) := by decide +kernel
theorem lku_1_in : ∀ w ∈ u_ws RX1 TX1 4, w ∈ fw_AW := lk_zip lku_1_ok (by decide +kernel)
theorem lku_2_ok : (u_ws RX2 TX2 4).zip lku_2 |>.all (fun q => lk_chk q.1 q.2) := by decide +kernel
theorem lku_2_in : ∀ w ∈ u_ws RX2 TX2 4, w ∈ fw_AW := lk_zip lku_2_ok (by decide +kernel)
theorem lku_3_ok : (u_ws RX3 TX3 4).zip lku_3 |>.all (fun q => lk_chk q.1 q.2) := by decide +kernel
theorem lku_3_in : ∀ w ∈ u_ws RX3 TX3 4, w ∈ fw_AW := lk_zip lku_3_ok (by decide +kernel)
theorem lku_4_ok : (u_ws RX4 TX4 15).zip lku_4 |>.all (fun q => lk_chk q.1 q.2) := by decide +kernel
theorem lku_4_in : ∀ w ∈ u_ws RX4 TX4 15, w ∈ fw_AW := lk_zip lku_4_ok (by decide +kernel)
theorem lku_5_ok : (u_ws RX5 TX5 17).zip lku_5 |>.all (fun q => lk_chk q.1 q.2) := by decide +kernel
theorem lku_5_in : ∀ w ∈ u_ws RX5 TX5 17, w ∈ fw_AW := lk_zip lku_5_ok (by decide +kernel)
theorem lku_6_ok : (u_ws RX6 TX6 8).zip lku_6 |>.all (fun q => lk_chk q.1 q.2) := by decide +kernel
theorem lku_6_in : ∀ w ∈ u_ws RX6 TX6 8, w ∈ fw_AW := lk_zip lku_6_ok (by decide +kernel)
theorem lku_7_ok : (u_ws RX7 TX7 2).zip lku_7 |>.all (fun q => lk_chk q.1 q.2) := by decide +kernel
theorem lku_7_in : ∀ w ∈ u_ws RX7 TX7 2, w ∈ fw_AW := lk_zip lku_7_ok (by decide +kernel)
theorem lku_8_ok : (u_ws RX8 TX8 16).zip lku_8 |>.all (fun q => lk_chk q.1 q.2) := by decide +kernel
theorem lku_8_in : ∀ w ∈ u_ws RX8 TX8 16, w ∈ fw_AW := lk_zip lku_8_ok (by decide +kernel)
theorem lku_9_ok : (u_ws RX9 TX9 18).zip lku_9 |>.all (fun q => lk_chk q.1 q.2) := by decide +kernel
theorem lku_9_in : ∀ w ∈ u_ws RX9 TX9 18, w ∈ fw_AW := lk_zip lku_9_ok (by decide +kernel)
theorem lku_10_ok : (u_ws RX10 TX10 6).zip lku_10 |>.all (fun q => lk_chk q.1 q.2) := by decide +kernel
theorem lku_10_in : ∀ w ∈ u_ws RX10 TX10 6, w ∈ fw_AW := lk_zip lku_10_ok (by decide +kernel)
theorem lku_11_ok : (u_ws RX11 TX11 2).zip lku_11 |>.all (fun q => lk_chk q.1 q.2) := by decide +kernel
theorem lku_11_in : ∀ w ∈ u_ws RX11 TX11 2, w ∈ fw_AW := lk_zip lku_11_ok (by decide +kernel)
theorem lku_12_ok : (u_ws RX12 TX12 69).zip lku_12 |>.all (fun q => lk_chk q.1 q.2) := by decide +kernel
theorem lku_12_in : ∀ w ∈ u_ws RX12 TX12 69, w ∈ fw_AW := lk_zip lku_12_ok (by decide +kernel)
