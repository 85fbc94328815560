/-! ===== links: there, sound, on ===== -/
abbrev kh_link_y : mt_T := (⟨"UtilityWorksModel", "link", "(II)I"⟩, prog_14_method_16_code, 3, some .int, 12, 1, 2, 32207, 32206, 5005, 21014)
def kh_link : ct_T := (357, [(2, 805, 805, 0), (0, 0, 2, 1), (0, 0, 16, 1)], [], [], [(1, (0, 140, 340, 4), [(2, 805, 805, 0), (0, 0, 2, 1), (0, 0, 16, 1)], [], ([], [(16, 1, 2)]))], [], 0, 0, 0)
def kh_link_b0_0 : sg_T := (12, 0, ([((2, 805, 805, 0), none), ((0, 0, 2, 1), none), ((0, 0, 16, 1), none), ((0, 140, 140, 0), none), ((0, 4, 4, 0), none), ((0, 17, 17, 0), none), ((0, 0, 34, 17), none), ((0, 0, 50, 1), none), ((0, 0, 200, 4), none), ((0, 140, 340, 4), none)], [(0, 0), (1, 1), (2, 2)], [9], [], [], [(500009, 3, 8), (700008, 4, 7), (500007, 6, 2), (700006, 5, 1)], [], [], some []))
theorem kh_link_ok : ct_ok wd_fl1 kh_link := ct_hand (ff := wd_ff1) (y := kh_link_y) (Cs := []) wd_fl1_ok rfl (List.forall_mem_nil _) (by decide +kernel) (fun l D tc ad kd N sm xs S p e s m args below meth c sz lv G H0 => by
  have hx : xs.length = 3 := by rw [H0.2.1.1]; rfl
  obtain ⟨α1, hle, Hr⟩ := as_recM (pl := []) [] (by decide +kernel) H0
  have hf := H0.2.2.2.2.2.2.2.2.2.2.1
  have hl1 : α1.length = 3 := by rw [Hr.2.1.1]; rfl
  have hl0 : xs.length = 3 := by rw [H0.2.1.1]; rfl
  have hxa : al_le xs α1 := H0.1.trans hle
  obtain ⟨g1, -, g3, g4, -⟩ := as_fx Hr
  have g0 : (805 ≤ nv α1 0 ∧ nv α1 0 ≤ 805) ∧ (0 ≤ nv α1 1 ∧ nv α1 1 ≤ 2) ∧ (0 ≤ nv α1 2 ∧ nv α1 2 ≤ 16) ∧ True := by
    refine ⟨by have h := (en_nv (i := 0) Hr.2.1 rfl).2; exact h, by have h := (en_nv (i := 1) Hr.2.1 rfl).2; exact h, by have h := (en_nv (i := 2) Hr.2.1 rfl).2; exact h, trivial⟩
  have r0 : nv α1 0 = nv xs 0 := nv_le hle (by omega)
  have r1 : nv α1 1 = nv xs 1 := nv_le hle (by omega)
  have r2 : nv α1 2 = nv xs 2 := nv_le hle (by omega)
  refine hd_segM G (na := 3) (fuel := 600) (first := true) (Bs := [kh_link_b0_0]) (by decide +kernel) hl1 Hr ?_
  intro q hq β lv' st' S' H1
  simp only [List.mem_cons, List.not_mem_nil, or_false] at hq
  rcases hq with rfl
  · obtain ⟨f1, f2, f3, f4, f5⟩ := as_fx H1
    simp only [kh_link_b0_0, fx_env, fx_c, fx_ne, fx_hf, wl_S, Nat.zero_add, Nat.reduceAdd, Nat.reduceDiv, Nat.reduceMod, List.getElem?_cons_zero, List.getElem?_cons_succ, if_true, and_true, true_and] at f1 f2 f3 f4 f5
    have fe0 : nv β 0 = 805 := by omega
    have fe3 : nv β 3 = 140 := by omega
    have fe4 : nv β 4 = 4 := by omega
    have fe5 : nv β 5 = 17 := by omega
    try simp only [fe0, fe3, fe4, fe5, Int.reduceToNat] at f2 f3 f4 f5
    have s0 : nv β 0 = nv α1 0 := nv_le H1.1 (by omega)
    have s1 : nv β 1 = nv α1 1 := nv_le H1.1 (by omega)
    have s2 : nv β 2 = nv α1 2 := nv_le H1.1 (by omega)
    obtain ⟨c0, c1, c2, c3⟩ := f2
    refine hd_retI G (v := 9) (by decide +kernel) (as_backM H1 (by decide +kernel) hxa hf) _ List.mem_cons_self rfl (by decide +kernel) (by decide) (fun w hw => ?_)
    rcases List.mem_singleton.mp hw with rfl
    have g0 := (en_nv (i := 1) H0.2.1 rfl).1
    have g1 := (en_nv (i := 2) H0.2.1 rfl).1
    refine ⟨_, _, g0, g1, ?_⟩
    refine fl1_o (by decide) ?_
    show nv β 9 = 140 + 4 * (17 * nv xs 1 + nv xs 2)
    omega)
abbrev kh_hasLink_y : mt_T := (⟨"UtilityWorksModel", "hasLink", "(II)Z"⟩, prog_14_method_17_code, 3, some .boolean, 12, 1, 2, 32203, 32202, 5004, 21014)
def kh_hasLink : ct_T := (356, [(2, 805, 805, 0), (0, 0, 2, 1), (0, 0, 16, 1)], [], [], [(1, (0, 0, 1, 1), [(2, 805, 805, 0), (0, 0, 2, 1), (0, 0, 16, 1)], [], ([], [(1010, 1, 2)]))], [], 1, 22, 0)
def kh_hasLink_b0_0 : sg_T := (20, 0, ([((2, 805, 805, 0), none), ((0, 0, 2, 1), none), ((0, 0, 16, 1), none), ((2, 806, 806, 1), none), ((0, 140, 340, 4), none), ((0, (-2147483648), 2147483647, 1), none), ((0, 1, 1, 0), none), ((0, 0, 0, 0), none)], [(0, 0), (1, 1), (2, 2)], [7], [(3, 4, 5)], [(5, 1)], [(400000, 5, 6), (800005, 3, 4), (1600004, 1, 2)], [], [], some []))
def kh_hasLink_b0_1 : sg_T := (20, 0, ([((2, 805, 805, 0), none), ((0, 0, 2, 1), none), ((0, 0, 16, 1), none), ((2, 806, 806, 1), none), ((0, 140, 340, 4), none), ((0, 1, 1, 1), none), ((0, 1, 1, 0), none), ((0, 1, 1, 0), none)], [(0, 0), (1, 1), (2, 2)], [7], [(3, 4, 5)], [], [(300000, 5, 6), (800005, 3, 4), (1600004, 1, 2)], [], [], some []))
theorem kh_hasLink_ok : ct_ok wd_fl1 kh_hasLink := ct_hand (ff := wd_ff1) (y := kh_hasLink_y) (Cs := [kh_link]) wd_fl1_ok rfl (List.forall_mem_cons.mpr ⟨kh_link_ok, (List.forall_mem_nil _)⟩) (by decide +kernel) (fun l D tc ad kd N sm xs S p e s m args below meth c sz lv G H0 => by
  have hx : xs.length = 3 := by rw [H0.2.1.1]; rfl
  obtain ⟨α1, hle, Hr⟩ := as_recM (pl := []) [] (by decide +kernel) H0
  have hf := H0.2.2.2.2.2.2.2.2.2.2.1
  have hl1 : α1.length = 3 := by rw [Hr.2.1.1]; rfl
  have hl0 : xs.length = 3 := by rw [H0.2.1.1]; rfl
  have hxa : al_le xs α1 := H0.1.trans hle
  obtain ⟨g1, -, g3, g4, -⟩ := as_fx Hr
  have g0 : (805 ≤ nv α1 0 ∧ nv α1 0 ≤ 805) ∧ (0 ≤ nv α1 1 ∧ nv α1 1 ≤ 2) ∧ (0 ≤ nv α1 2 ∧ nv α1 2 ≤ 16) ∧ True := by
    refine ⟨by have h := (en_nv (i := 0) Hr.2.1 rfl).2; exact h, by have h := (en_nv (i := 1) Hr.2.1 rfl).2; exact h, by have h := (en_nv (i := 2) Hr.2.1 rfl).2; exact h, trivial⟩
  have r0 : nv α1 0 = nv xs 0 := nv_le hle (by omega)
  have r1 : nv α1 1 = nv xs 1 := nv_le hle (by omega)
  have r2 : nv α1 2 = nv xs 2 := nv_le hle (by omega)
  refine hd_segM G (na := 3) (fuel := 600) (first := true) (Bs := [kh_hasLink_b0_0, kh_hasLink_b0_1]) (by decide +kernel) hl1 Hr ?_
  intro q hq β lv' st' S' H1
  simp only [List.mem_cons, List.not_mem_nil, or_false] at hq
  rcases hq with rfl | rfl
  · obtain ⟨f1, f2, f3, f4, f5⟩ := as_fx H1
    simp only [kh_hasLink_b0_0, fx_env, fx_c, fx_ne, fx_hf, wl_S, Nat.zero_add, Nat.reduceAdd, Nat.reduceDiv, Nat.reduceMod, List.getElem?_cons_zero, List.getElem?_cons_succ, if_true, and_true, true_and] at f1 f2 f3 f4 f5
    have fe0 : nv β 0 = 805 := by omega
    have fe3 : nv β 3 = 806 := by omega
    have fe6 : nv β 6 = 1 := by omega
    have fe7 : nv β 7 = 0 := by omega
    try simp only [fe0, fe3, fe6, fe7, Int.reduceToNat] at f2 f3 f4 f5
    have s0 : nv β 0 = nv α1 0 := nv_le H1.1 (by omega)
    have s1 : nv β 1 = nv α1 1 := nv_le H1.1 (by omega)
    have s2 : nv β 2 = nv α1 2 := nv_le H1.1 (by omega)
    obtain ⟨c0, c1, c2⟩ := f2
    have o1 := old_0 c1 rfl
    have d2 := fl1_b (by decide) c2
    simp only [wd_fl] at d2
    have hS : S' = S := by subst S'; rfl
    refine hd_retI G (v := 7) (by decide +kernel) (as_backM H1 (by decide +kernel) hxa hf) _ List.mem_cons_self rfl (by decide +kernel) (by decide) (fun w hw => ?_)
    rcases List.mem_singleton.mp hw with rfl
    have g0 := (en_nv (i := 1) H0.2.1 rfl).1
    have g1 := (en_nv (i := 2) H0.2.1 rfl).1
    refine ⟨_, _, g0, g1, ?_⟩
    rw [wd_fl1, if_neg (by decide)]
    show nv β 7 = b2i (lkv S (nv xs 1) (nv xs 2) 0 = 1)
    have q0 : ∀ k, lkv S (nv xs 1) (nv xs 2) k = (S.1 806 (140 + 4 * (17 * nv xs 1 + nv xs 2) + k).toNat).toInt := fun _ => rfl
    unfold b2i at *
    have l1 : lkv S (nv xs 1) (nv xs 2) 0 = nv β 5 := by rw [q0, show (140 + 4 * (17 * nv xs 1 + nv xs 2) + 0) = nv β 4 by omega]; exact o1
    have x1 : nv β 1 = nv xs 1 := by omega
    have x2 : nv β 2 = nv xs 2 := by omega
    try simp only [x1, x2] at *
    (repeat' split at *) <;> omega
  · obtain ⟨f1, f2, f3, f4, f5⟩ := as_fx H1
    simp only [kh_hasLink_b0_1, fx_env, fx_c, fx_ne, fx_hf, wl_S, Nat.zero_add, Nat.reduceAdd, Nat.reduceDiv, Nat.reduceMod, List.getElem?_cons_zero, List.getElem?_cons_succ, if_true, and_true, true_and] at f1 f2 f3 f4 f5
    have fe0 : nv β 0 = 805 := by omega
    have fe3 : nv β 3 = 806 := by omega
    have fe5 : nv β 5 = 1 := by omega
    have fe6 : nv β 6 = 1 := by omega
    have fe7 : nv β 7 = 1 := by omega
    try simp only [fe0, fe3, fe5, fe6, fe7, Int.reduceToNat] at f2 f3 f4 f5
    have s0 : nv β 0 = nv α1 0 := nv_le H1.1 (by omega)
    have s1 : nv β 1 = nv α1 1 := nv_le H1.1 (by omega)
    have s2 : nv β 2 = nv α1 2 := nv_le H1.1 (by omega)
    obtain ⟨c0, c1, c2⟩ := f2
    have o1 := old_0 c1 rfl
    have d2 := fl1_b (by decide) c2
    simp only [wd_fl] at d2
    have hS : S' = S := by subst S'; rfl
    refine hd_retI G (v := 7) (by decide +kernel) (as_backM H1 (by decide +kernel) hxa hf) _ List.mem_cons_self rfl (by decide +kernel) (by decide) (fun w hw => ?_)
    rcases List.mem_singleton.mp hw with rfl
    have g0 := (en_nv (i := 1) H0.2.1 rfl).1
    have g1 := (en_nv (i := 2) H0.2.1 rfl).1
    refine ⟨_, _, g0, g1, ?_⟩
    rw [wd_fl1, if_neg (by decide)]
    show nv β 7 = b2i (lkv S (nv xs 1) (nv xs 2) 0 = 1)
    have q0 : ∀ k, lkv S (nv xs 1) (nv xs 2) k = (S.1 806 (140 + 4 * (17 * nv xs 1 + nv xs 2) + k).toNat).toInt := fun _ => rfl
    unfold b2i at *
    have l1 : lkv S (nv xs 1) (nv xs 2) 0 = 1 := by rw [q0, show (140 + 4 * (17 * nv xs 1 + nv xs 2) + 0) = nv β 4 by omega]; exact o1
    have x1 : nv β 1 = nv xs 1 := by omega
    have x2 : nv β 2 = nv xs 2 := by omega
    try simp only [x1, x2] at *
    (repeat' split at *) <;> omega)
abbrev kh_isFine_y : mt_T := (⟨"UtilityWorksModel", "isFine", "(II)Z"⟩, prog_14_method_19_code, 3, some .boolean, 12, 1, 2, 32215, 32214, 5007, 21014)
def kh_isFine : ct_T := (359, [(2, 805, 805, 0), (0, 0, 2, 1), (0, 0, 16, 1)], [], [], [(1, (0, 0, 1, 1), [(2, 805, 805, 0), (0, 0, 2, 1), (0, 0, 16, 1)], [], ([], [(1011, 1, 2)]))], [], 2, 44, 0)
def kh_isFine_b0_0 : sg_T := (31, 0, ([((2, 805, 805, 0), none), ((0, 0, 2, 1), none), ((0, 0, 16, 1), none), ((0, 0, 0, 1), none), ((0, 0, 0, 0), none)], [(0, 0), (1, 1), (2, 2)], [4], [], [], [(101000003, 1, 2)], [], [], some []))
def kh_isFine_b0_1 : sg_T := (31, 0, ([((2, 805, 805, 0), none), ((0, 0, 2, 1), none), ((0, 0, 16, 1), none), ((0, 1, 1, 1), none), ((2, 806, 806, 1), none), ((0, 140, 340, 4), none), ((0, 2, 2, 0), none), ((0, 142, 342, 4), some (5, 2)), ((0, (-2147483648), 2147483647, 1), none), ((0, 1, 1, 0), none), ((0, 0, 0, 0), none)], [(0, 0), (1, 1), (2, 2)], [10], [(4, 7, 8)], [(8, 1), (3, 0)], [(400000, 8, 9), (800008, 4, 7), (500007, 5, 6), (1600005, 1, 2), (101000003, 1, 2)], [], [], some []))
def kh_isFine_b0_2 : sg_T := (31, 0, ([((2, 805, 805, 0), none), ((0, 0, 2, 1), none), ((0, 0, 16, 1), none), ((0, 1, 1, 1), none), ((2, 806, 806, 1), none), ((0, 140, 340, 4), none), ((0, 2, 2, 0), none), ((0, 142, 342, 4), some (5, 2)), ((0, 1, 1, 1), none), ((0, 1, 1, 0), none), ((0, 1, 1, 0), none)], [(0, 0), (1, 1), (2, 2)], [10], [(4, 7, 8)], [(3, 0)], [(300000, 8, 9), (800008, 4, 7), (500007, 5, 6), (1600005, 1, 2), (101000003, 1, 2)], [], [], some []))
theorem kh_isFine_ok : ct_ok wd_fl1 kh_isFine := ct_hand (ff := wd_ff1) (y := kh_isFine_y) (Cs := [kh_hasLink, kh_link]) wd_fl1_ok rfl (List.forall_mem_cons.mpr ⟨kh_hasLink_ok, (List.forall_mem_cons.mpr ⟨kh_link_ok, (List.forall_mem_nil _)⟩)⟩) (by decide +kernel) (fun l D tc ad kd N sm xs S p e s m args below meth c sz lv G H0 => by
  have hx : xs.length = 3 := by rw [H0.2.1.1]; rfl
  obtain ⟨α1, hle, Hr⟩ := as_recM (pl := []) [] (by decide +kernel) H0
  have hf := H0.2.2.2.2.2.2.2.2.2.2.1
  have hl1 : α1.length = 3 := by rw [Hr.2.1.1]; rfl
  have hl0 : xs.length = 3 := by rw [H0.2.1.1]; rfl
  have hxa : al_le xs α1 := H0.1.trans hle
  obtain ⟨g1, -, g3, g4, -⟩ := as_fx Hr
  have g0 : (805 ≤ nv α1 0 ∧ nv α1 0 ≤ 805) ∧ (0 ≤ nv α1 1 ∧ nv α1 1 ≤ 2) ∧ (0 ≤ nv α1 2 ∧ nv α1 2 ≤ 16) ∧ True := by
    refine ⟨by have h := (en_nv (i := 0) Hr.2.1 rfl).2; exact h, by have h := (en_nv (i := 1) Hr.2.1 rfl).2; exact h, by have h := (en_nv (i := 2) Hr.2.1 rfl).2; exact h, trivial⟩
  have r0 : nv α1 0 = nv xs 0 := nv_le hle (by omega)
  have r1 : nv α1 1 = nv xs 1 := nv_le hle (by omega)
  have r2 : nv α1 2 = nv xs 2 := nv_le hle (by omega)
  refine hd_segM G (na := 3) (fuel := 600) (first := true) (Bs := [kh_isFine_b0_0, kh_isFine_b0_1, kh_isFine_b0_2]) (by decide +kernel) hl1 Hr ?_
  intro q hq β lv' st' S' H1
  simp only [List.mem_cons, List.not_mem_nil, or_false] at hq
  rcases hq with rfl | rfl | rfl
  · obtain ⟨f1, f2, f3, f4, f5⟩ := as_fx H1
    simp only [kh_isFine_b0_0, fx_env, fx_c, fx_ne, fx_hf, wl_S, Nat.zero_add, Nat.reduceAdd, Nat.reduceDiv, Nat.reduceMod, List.getElem?_cons_zero, List.getElem?_cons_succ, if_true, and_true, true_and] at f1 f2 f3 f4 f5
    have fe0 : nv β 0 = 805 := by omega
    have fe3 : nv β 3 = 0 := by omega
    have fe4 : nv β 4 = 0 := by omega
    try simp only [fe0, fe3, fe4, Int.reduceToNat] at f2 f3 f4 f5
    have s0 : nv β 0 = nv α1 0 := nv_le H1.1 (by omega)
    have s1 : nv β 1 = nv α1 1 := nv_le H1.1 (by omega)
    have s2 : nv β 2 = nv α1 2 := nv_le H1.1 (by omega)
    have c0 := f2
    have d0 := c0
    simp only [wd_fl1, if_neg (show ¬ (wd_base 1010 = true) by decide)] at d0
    have hS : S' = S := by subst S'; rfl
    refine hd_retI G (v := 4) (by decide +kernel) (as_backM H1 (by decide +kernel) hxa hf) _ List.mem_cons_self rfl (by decide +kernel) (by decide) (fun w hw => ?_)
    rcases List.mem_singleton.mp hw with rfl
    have g0 := (en_nv (i := 1) H0.2.1 rfl).1
    have g1 := (en_nv (i := 2) H0.2.1 rfl).1
    refine ⟨_, _, g0, g1, ?_⟩
    rw [wd_fl1, if_neg (by decide)]
    show nv β 4 = b2i (lkv S (nv xs 1) (nv xs 2) 0 = 1 ∧ lkv S (nv xs 1) (nv xs 2) 2 = 1)
    have q0 : ∀ k, lkv S (nv xs 1) (nv xs 2) k = (S.1 806 (140 + 4 * (17 * nv xs 1 + nv xs 2) + k).toNat).toInt := fun _ => rfl
    unfold b2i at *
    have x1 : nv β 1 = nv xs 1 := by omega
    have x2 : nv β 2 = nv xs 2 := by omega
    try simp only [x1, x2] at *
    (repeat' split at *) <;> omega
  · obtain ⟨f1, f2, f3, f4, f5⟩ := as_fx H1
    simp only [kh_isFine_b0_1, fx_env, fx_c, fx_ne, fx_hf, wl_S, Nat.zero_add, Nat.reduceAdd, Nat.reduceDiv, Nat.reduceMod, List.getElem?_cons_zero, List.getElem?_cons_succ, if_true, and_true, true_and] at f1 f2 f3 f4 f5
    have fe0 : nv β 0 = 805 := by omega
    have fe3 : nv β 3 = 1 := by omega
    have fe4 : nv β 4 = 806 := by omega
    have fe6 : nv β 6 = 2 := by omega
    have fe9 : nv β 9 = 1 := by omega
    have fe10 : nv β 10 = 0 := by omega
    try simp only [fe0, fe3, fe4, fe6, fe9, fe10, Int.reduceToNat] at f2 f3 f4 f5
    have s0 : nv β 0 = nv α1 0 := nv_le H1.1 (by omega)
    have s1 : nv β 1 = nv α1 1 := nv_le H1.1 (by omega)
    have s2 : nv β 2 = nv α1 2 := nv_le H1.1 (by omega)
    obtain ⟨c0, c1, c2, c3, c4⟩ := f2
    have o1 := old_0 c1 rfl
    have d3 := fl1_b (by decide) c3
    simp only [wd_fl] at d3
    have d4 := c4
    simp only [wd_fl1, if_neg (show ¬ (wd_base 1010 = true) by decide)] at d4
    have hS : S' = S := by subst S'; rfl
    refine hd_retI G (v := 10) (by decide +kernel) (as_backM H1 (by decide +kernel) hxa hf) _ List.mem_cons_self rfl (by decide +kernel) (by decide) (fun w hw => ?_)
    rcases List.mem_singleton.mp hw with rfl
    have g0 := (en_nv (i := 1) H0.2.1 rfl).1
    have g1 := (en_nv (i := 2) H0.2.1 rfl).1
    refine ⟨_, _, g0, g1, ?_⟩
    rw [wd_fl1, if_neg (by decide)]
    show nv β 10 = b2i (lkv S (nv xs 1) (nv xs 2) 0 = 1 ∧ lkv S (nv xs 1) (nv xs 2) 2 = 1)
    have q0 : ∀ k, lkv S (nv xs 1) (nv xs 2) k = (S.1 806 (140 + 4 * (17 * nv xs 1 + nv xs 2) + k).toNat).toInt := fun _ => rfl
    unfold b2i at *
    have l1 : lkv S (nv xs 1) (nv xs 2) 2 = nv β 8 := by rw [q0, show (140 + 4 * (17 * nv xs 1 + nv xs 2) + 2) = nv β 7 by omega]; exact o1
    have x1 : nv β 1 = nv xs 1 := by omega
    have x2 : nv β 2 = nv xs 2 := by omega
    try simp only [x1, x2] at *
    (repeat' split at *) <;> omega
  · obtain ⟨f1, f2, f3, f4, f5⟩ := as_fx H1
    simp only [kh_isFine_b0_2, fx_env, fx_c, fx_ne, fx_hf, wl_S, Nat.zero_add, Nat.reduceAdd, Nat.reduceDiv, Nat.reduceMod, List.getElem?_cons_zero, List.getElem?_cons_succ, if_true, and_true, true_and] at f1 f2 f3 f4 f5
    have fe0 : nv β 0 = 805 := by omega
    have fe3 : nv β 3 = 1 := by omega
    have fe4 : nv β 4 = 806 := by omega
    have fe6 : nv β 6 = 2 := by omega
    have fe8 : nv β 8 = 1 := by omega
    have fe9 : nv β 9 = 1 := by omega
    have fe10 : nv β 10 = 1 := by omega
    try simp only [fe0, fe3, fe4, fe6, fe8, fe9, fe10, Int.reduceToNat] at f2 f3 f4 f5
    have s0 : nv β 0 = nv α1 0 := nv_le H1.1 (by omega)
    have s1 : nv β 1 = nv α1 1 := nv_le H1.1 (by omega)
    have s2 : nv β 2 = nv α1 2 := nv_le H1.1 (by omega)
    obtain ⟨c0, c1, c2, c3, c4⟩ := f2
    have o1 := old_0 c1 rfl
    have d3 := fl1_b (by decide) c3
    simp only [wd_fl] at d3
    have d4 := c4
    simp only [wd_fl1, if_neg (show ¬ (wd_base 1010 = true) by decide)] at d4
    have hS : S' = S := by subst S'; rfl
    refine hd_retI G (v := 10) (by decide +kernel) (as_backM H1 (by decide +kernel) hxa hf) _ List.mem_cons_self rfl (by decide +kernel) (by decide) (fun w hw => ?_)
    rcases List.mem_singleton.mp hw with rfl
    have g0 := (en_nv (i := 1) H0.2.1 rfl).1
    have g1 := (en_nv (i := 2) H0.2.1 rfl).1
    refine ⟨_, _, g0, g1, ?_⟩
    rw [wd_fl1, if_neg (by decide)]
    show nv β 10 = b2i (lkv S (nv xs 1) (nv xs 2) 0 = 1 ∧ lkv S (nv xs 1) (nv xs 2) 2 = 1)
    have q0 : ∀ k, lkv S (nv xs 1) (nv xs 2) k = (S.1 806 (140 + 4 * (17 * nv xs 1 + nv xs 2) + k).toNat).toInt := fun _ => rfl
    unfold b2i at *
    have l1 : lkv S (nv xs 1) (nv xs 2) 2 = 1 := by rw [q0, show (140 + 4 * (17 * nv xs 1 + nv xs 2) + 2) = nv β 7 by omega]; exact o1
    have x1 : nv β 1 = nv xs 1 := by omega
    have x2 : nv β 2 = nv xs 2 := by omega
    try simp only [x1, x2] at *
    (repeat' split at *) <;> omega)
abbrev kh_isOn_y : mt_T := (⟨"UtilityWorksModel", "isOn", "(II)Z"⟩, prog_14_method_20_code, 3, some .boolean, 12, 1, 2, 32219, 32218, 5008, 21014)
def kh_isOn : ct_T := (360, [(2, 805, 805, 0), (0, 0, 2, 1), (0, 0, 16, 1)], [], [], [(1, (0, 0, 1, 1), [(2, 805, 805, 0), (0, 0, 2, 1), (0, 0, 16, 1)], [], ([], [(1012, 1, 2)]))], [], 2, 44, 0)
def kh_isOn_b0_0 : sg_T := (31, 0, ([((2, 805, 805, 0), none), ((0, 0, 2, 1), none), ((0, 0, 16, 1), none), ((0, 0, 0, 1), none), ((0, 0, 0, 0), none)], [(0, 0), (1, 1), (2, 2)], [4], [], [], [(101000003, 1, 2)], [], [], some []))
def kh_isOn_b0_1 : sg_T := (31, 0, ([((2, 805, 805, 0), none), ((0, 0, 2, 1), none), ((0, 0, 16, 1), none), ((0, 1, 1, 1), none), ((2, 806, 806, 1), none), ((0, 140, 340, 4), none), ((0, 3, 3, 0), none), ((0, 143, 343, 4), some (5, 3)), ((0, (-2147483648), 2147483647, 1), none), ((0, 1, 1, 0), none), ((0, 0, 0, 0), none)], [(0, 0), (1, 1), (2, 2)], [10], [(4, 7, 8)], [(8, 1), (3, 0)], [(400000, 8, 9), (800008, 4, 7), (500007, 5, 6), (1600005, 1, 2), (101000003, 1, 2)], [], [], some []))
def kh_isOn_b0_2 : sg_T := (31, 0, ([((2, 805, 805, 0), none), ((0, 0, 2, 1), none), ((0, 0, 16, 1), none), ((0, 1, 1, 1), none), ((2, 806, 806, 1), none), ((0, 140, 340, 4), none), ((0, 3, 3, 0), none), ((0, 143, 343, 4), some (5, 3)), ((0, 1, 1, 1), none), ((0, 1, 1, 0), none), ((0, 1, 1, 0), none)], [(0, 0), (1, 1), (2, 2)], [10], [(4, 7, 8)], [(3, 0)], [(300000, 8, 9), (800008, 4, 7), (500007, 5, 6), (1600005, 1, 2), (101000003, 1, 2)], [], [], some []))
theorem kh_isOn_ok : ct_ok wd_fl1 kh_isOn := ct_hand (ff := wd_ff1) (y := kh_isOn_y) (Cs := [kh_hasLink, kh_link]) wd_fl1_ok rfl (List.forall_mem_cons.mpr ⟨kh_hasLink_ok, (List.forall_mem_cons.mpr ⟨kh_link_ok, (List.forall_mem_nil _)⟩)⟩) (by decide +kernel) (fun l D tc ad kd N sm xs S p e s m args below meth c sz lv G H0 => by
  have hx : xs.length = 3 := by rw [H0.2.1.1]; rfl
  obtain ⟨α1, hle, Hr⟩ := as_recM (pl := []) [] (by decide +kernel) H0
  have hf := H0.2.2.2.2.2.2.2.2.2.2.1
  have hl1 : α1.length = 3 := by rw [Hr.2.1.1]; rfl
  have hl0 : xs.length = 3 := by rw [H0.2.1.1]; rfl
  have hxa : al_le xs α1 := H0.1.trans hle
  obtain ⟨g1, -, g3, g4, -⟩ := as_fx Hr
  have g0 : (805 ≤ nv α1 0 ∧ nv α1 0 ≤ 805) ∧ (0 ≤ nv α1 1 ∧ nv α1 1 ≤ 2) ∧ (0 ≤ nv α1 2 ∧ nv α1 2 ≤ 16) ∧ True := by
    refine ⟨by have h := (en_nv (i := 0) Hr.2.1 rfl).2; exact h, by have h := (en_nv (i := 1) Hr.2.1 rfl).2; exact h, by have h := (en_nv (i := 2) Hr.2.1 rfl).2; exact h, trivial⟩
  have r0 : nv α1 0 = nv xs 0 := nv_le hle (by omega)
  have r1 : nv α1 1 = nv xs 1 := nv_le hle (by omega)
  have r2 : nv α1 2 = nv xs 2 := nv_le hle (by omega)
  refine hd_segM G (na := 3) (fuel := 600) (first := true) (Bs := [kh_isOn_b0_0, kh_isOn_b0_1, kh_isOn_b0_2]) (by decide +kernel) hl1 Hr ?_
  intro q hq β lv' st' S' H1
  simp only [List.mem_cons, List.not_mem_nil, or_false] at hq
  rcases hq with rfl | rfl | rfl
  · obtain ⟨f1, f2, f3, f4, f5⟩ := as_fx H1
    simp only [kh_isOn_b0_0, fx_env, fx_c, fx_ne, fx_hf, wl_S, Nat.zero_add, Nat.reduceAdd, Nat.reduceDiv, Nat.reduceMod, List.getElem?_cons_zero, List.getElem?_cons_succ, if_true, and_true, true_and] at f1 f2 f3 f4 f5
    have fe0 : nv β 0 = 805 := by omega
    have fe3 : nv β 3 = 0 := by omega
    have fe4 : nv β 4 = 0 := by omega
    try simp only [fe0, fe3, fe4, Int.reduceToNat] at f2 f3 f4 f5
    have s0 : nv β 0 = nv α1 0 := nv_le H1.1 (by omega)
    have s1 : nv β 1 = nv α1 1 := nv_le H1.1 (by omega)
    have s2 : nv β 2 = nv α1 2 := nv_le H1.1 (by omega)
    have c0 := f2
    have d0 := c0
    simp only [wd_fl1, if_neg (show ¬ (wd_base 1010 = true) by decide)] at d0
    have hS : S' = S := by subst S'; rfl
    refine hd_retI G (v := 4) (by decide +kernel) (as_backM H1 (by decide +kernel) hxa hf) _ List.mem_cons_self rfl (by decide +kernel) (by decide) (fun w hw => ?_)
    rcases List.mem_singleton.mp hw with rfl
    have g0 := (en_nv (i := 1) H0.2.1 rfl).1
    have g1 := (en_nv (i := 2) H0.2.1 rfl).1
    refine ⟨_, _, g0, g1, ?_⟩
    rw [wd_fl1, if_neg (by decide)]
    show nv β 4 = b2i (lkv S (nv xs 1) (nv xs 2) 0 = 1 ∧ lkv S (nv xs 1) (nv xs 2) 3 = 1)
    have q0 : ∀ k, lkv S (nv xs 1) (nv xs 2) k = (S.1 806 (140 + 4 * (17 * nv xs 1 + nv xs 2) + k).toNat).toInt := fun _ => rfl
    unfold b2i at *
    have x1 : nv β 1 = nv xs 1 := by omega
    have x2 : nv β 2 = nv xs 2 := by omega
    try simp only [x1, x2] at *
    (repeat' split at *) <;> omega
  · obtain ⟨f1, f2, f3, f4, f5⟩ := as_fx H1
    simp only [kh_isOn_b0_1, fx_env, fx_c, fx_ne, fx_hf, wl_S, Nat.zero_add, Nat.reduceAdd, Nat.reduceDiv, Nat.reduceMod, List.getElem?_cons_zero, List.getElem?_cons_succ, if_true, and_true, true_and] at f1 f2 f3 f4 f5
    have fe0 : nv β 0 = 805 := by omega
    have fe3 : nv β 3 = 1 := by omega
    have fe4 : nv β 4 = 806 := by omega
    have fe6 : nv β 6 = 3 := by omega
    have fe9 : nv β 9 = 1 := by omega
    have fe10 : nv β 10 = 0 := by omega
    try simp only [fe0, fe3, fe4, fe6, fe9, fe10, Int.reduceToNat] at f2 f3 f4 f5
    have s0 : nv β 0 = nv α1 0 := nv_le H1.1 (by omega)
    have s1 : nv β 1 = nv α1 1 := nv_le H1.1 (by omega)
    have s2 : nv β 2 = nv α1 2 := nv_le H1.1 (by omega)
    obtain ⟨c0, c1, c2, c3, c4⟩ := f2
    have o1 := old_0 c1 rfl
    have d3 := fl1_b (by decide) c3
    simp only [wd_fl] at d3
    have d4 := c4
    simp only [wd_fl1, if_neg (show ¬ (wd_base 1010 = true) by decide)] at d4
    have hS : S' = S := by subst S'; rfl
    refine hd_retI G (v := 10) (by decide +kernel) (as_backM H1 (by decide +kernel) hxa hf) _ List.mem_cons_self rfl (by decide +kernel) (by decide) (fun w hw => ?_)
    rcases List.mem_singleton.mp hw with rfl
    have g0 := (en_nv (i := 1) H0.2.1 rfl).1
    have g1 := (en_nv (i := 2) H0.2.1 rfl).1
    refine ⟨_, _, g0, g1, ?_⟩
    rw [wd_fl1, if_neg (by decide)]
    show nv β 10 = b2i (lkv S (nv xs 1) (nv xs 2) 0 = 1 ∧ lkv S (nv xs 1) (nv xs 2) 3 = 1)
    have q0 : ∀ k, lkv S (nv xs 1) (nv xs 2) k = (S.1 806 (140 + 4 * (17 * nv xs 1 + nv xs 2) + k).toNat).toInt := fun _ => rfl
    unfold b2i at *
    have l1 : lkv S (nv xs 1) (nv xs 2) 3 = nv β 8 := by rw [q0, show (140 + 4 * (17 * nv xs 1 + nv xs 2) + 3) = nv β 7 by omega]; exact o1
    have x1 : nv β 1 = nv xs 1 := by omega
    have x2 : nv β 2 = nv xs 2 := by omega
    try simp only [x1, x2] at *
    (repeat' split at *) <;> omega
  · obtain ⟨f1, f2, f3, f4, f5⟩ := as_fx H1
    simp only [kh_isOn_b0_2, fx_env, fx_c, fx_ne, fx_hf, wl_S, Nat.zero_add, Nat.reduceAdd, Nat.reduceDiv, Nat.reduceMod, List.getElem?_cons_zero, List.getElem?_cons_succ, if_true, and_true, true_and] at f1 f2 f3 f4 f5
    have fe0 : nv β 0 = 805 := by omega
    have fe3 : nv β 3 = 1 := by omega
    have fe4 : nv β 4 = 806 := by omega
    have fe6 : nv β 6 = 3 := by omega
    have fe8 : nv β 8 = 1 := by omega
    have fe9 : nv β 9 = 1 := by omega
    have fe10 : nv β 10 = 1 := by omega
    try simp only [fe0, fe3, fe4, fe6, fe8, fe9, fe10, Int.reduceToNat] at f2 f3 f4 f5
    have s0 : nv β 0 = nv α1 0 := nv_le H1.1 (by omega)
    have s1 : nv β 1 = nv α1 1 := nv_le H1.1 (by omega)
    have s2 : nv β 2 = nv α1 2 := nv_le H1.1 (by omega)
    obtain ⟨c0, c1, c2, c3, c4⟩ := f2
    have o1 := old_0 c1 rfl
    have d3 := fl1_b (by decide) c3
    simp only [wd_fl] at d3
    have d4 := c4
    simp only [wd_fl1, if_neg (show ¬ (wd_base 1010 = true) by decide)] at d4
    have hS : S' = S := by subst S'; rfl
    refine hd_retI G (v := 10) (by decide +kernel) (as_backM H1 (by decide +kernel) hxa hf) _ List.mem_cons_self rfl (by decide +kernel) (by decide) (fun w hw => ?_)
    rcases List.mem_singleton.mp hw with rfl
    have g0 := (en_nv (i := 1) H0.2.1 rfl).1
    have g1 := (en_nv (i := 2) H0.2.1 rfl).1
    refine ⟨_, _, g0, g1, ?_⟩
    rw [wd_fl1, if_neg (by decide)]
    show nv β 10 = b2i (lkv S (nv xs 1) (nv xs 2) 0 = 1 ∧ lkv S (nv xs 1) (nv xs 2) 3 = 1)
    have q0 : ∀ k, lkv S (nv xs 1) (nv xs 2) k = (S.1 806 (140 + 4 * (17 * nv xs 1 + nv xs 2) + k).toNat).toInt := fun _ => rfl
    unfold b2i at *
    have l1 : lkv S (nv xs 1) (nv xs 2) 3 = 1 := by rw [q0, show (140 + 4 * (17 * nv xs 1 + nv xs 2) + 3) = nv β 7 by omega]; exact o1
    have x1 : nv β 1 = nv xs 1 := by omega
    have x2 : nv β 2 = nv xs 2 := by omega
    try simp only [x1, x2] at *
    (repeat' split at *) <;> omega)
abbrev kh_leads_y : mt_T := (⟨"UtilityWorksModel", "leads", "(II)Z"⟩, prog_14_method_21_code, 3, some .boolean, 12, 1, 2, 32211, 32210, 5006, 21014)
def kh_leads : ct_T := (358, [(2, 805, 805, 0), (0, 0, 2, 1), (0, 0, 16, 1)], [], [], [(1, (0, 0, 1, 1), [(2, 805, 805, 0), (0, 0, 2, 1), (0, 0, 16, 1)], [], ([], [(1013, 1, 2)]))], [], 3, 66, 0)
def kh_leads_b0_0 : sg_T := (23, 0, ([((2, 805, 805, 0), none), ((0, 0, 2, 1), none), ((0, 0, 16, 1), none), ((0, 0, 0, 1), none), ((0, 0, 0, 0), none)], [(0, 0), (1, 1), (2, 2)], [4], [], [], [(101100003, 1, 2)], [], [], some []))
def kh_leads_b0_1 : sg_T := (23, 0, ([((2, 805, 805, 0), none), ((0, 0, 2, 1), none), ((0, 0, 16, 1), none), ((0, 1, 1, 1), none), ((0, 0, 0, 1), none), ((0, 0, 0, 0), none)], [(0, 0), (1, 1), (2, 2)], [5], [], [(3, 0)], [(101200004, 1, 2), (101100003, 1, 2)], [], [], some []))
def kh_leads_b0_2 : sg_T := (23, 0, ([((2, 805, 805, 0), none), ((0, 0, 2, 1), none), ((0, 0, 16, 1), none), ((0, 1, 1, 1), none), ((0, 1, 1, 1), none), ((0, 1, 1, 0), none)], [(0, 0), (1, 1), (2, 2)], [5], [], [(4, 0), (3, 0)], [(101200004, 1, 2), (101100003, 1, 2)], [], [], some []))
theorem kh_leads_ok : ct_ok wd_fl1 kh_leads := ct_hand (ff := wd_ff1) (y := kh_leads_y) (Cs := [kh_isFine, kh_isOn]) wd_fl1_ok rfl (List.forall_mem_cons.mpr ⟨kh_isFine_ok, (List.forall_mem_cons.mpr ⟨kh_isOn_ok, (List.forall_mem_nil _)⟩)⟩) (by decide +kernel) (fun l D tc ad kd N sm xs S p e s m args below meth c sz lv G H0 => by
  have hx : xs.length = 3 := by rw [H0.2.1.1]; rfl
  obtain ⟨α1, hle, Hr⟩ := as_recM (pl := []) [] (by decide +kernel) H0
  have hf := H0.2.2.2.2.2.2.2.2.2.2.1
  have hl1 : α1.length = 3 := by rw [Hr.2.1.1]; rfl
  have hl0 : xs.length = 3 := by rw [H0.2.1.1]; rfl
  have hxa : al_le xs α1 := H0.1.trans hle
  obtain ⟨g1, -, g3, g4, -⟩ := as_fx Hr
  have g0 : (805 ≤ nv α1 0 ∧ nv α1 0 ≤ 805) ∧ (0 ≤ nv α1 1 ∧ nv α1 1 ≤ 2) ∧ (0 ≤ nv α1 2 ∧ nv α1 2 ≤ 16) ∧ True := by
    refine ⟨by have h := (en_nv (i := 0) Hr.2.1 rfl).2; exact h, by have h := (en_nv (i := 1) Hr.2.1 rfl).2; exact h, by have h := (en_nv (i := 2) Hr.2.1 rfl).2; exact h, trivial⟩
  have r0 : nv α1 0 = nv xs 0 := nv_le hle (by omega)
  have r1 : nv α1 1 = nv xs 1 := nv_le hle (by omega)
  have r2 : nv α1 2 = nv xs 2 := nv_le hle (by omega)
  refine hd_segM G (na := 3) (fuel := 600) (first := true) (Bs := [kh_leads_b0_0, kh_leads_b0_1, kh_leads_b0_2]) (by decide +kernel) hl1 Hr ?_
  intro q hq β lv' st' S' H1
  simp only [List.mem_cons, List.not_mem_nil, or_false] at hq
  rcases hq with rfl | rfl | rfl
  · obtain ⟨f1, f2, f3, f4, f5⟩ := as_fx H1
    simp only [kh_leads_b0_0, fx_env, fx_c, fx_ne, fx_hf, wl_S, Nat.zero_add, Nat.reduceAdd, Nat.reduceDiv, Nat.reduceMod, List.getElem?_cons_zero, List.getElem?_cons_succ, if_true, and_true, true_and] at f1 f2 f3 f4 f5
    have fe0 : nv β 0 = 805 := by omega
    have fe3 : nv β 3 = 0 := by omega
    have fe4 : nv β 4 = 0 := by omega
    try simp only [fe0, fe3, fe4, Int.reduceToNat] at f2 f3 f4 f5
    have s0 : nv β 0 = nv α1 0 := nv_le H1.1 (by omega)
    have s1 : nv β 1 = nv α1 1 := nv_le H1.1 (by omega)
    have s2 : nv β 2 = nv α1 2 := nv_le H1.1 (by omega)
    have c0 := f2
    have d0 := c0
    simp only [wd_fl1, if_neg (show ¬ (wd_base 1011 = true) by decide)] at d0
    have hS : S' = S := by subst S'; rfl
    refine hd_retI G (v := 4) (by decide +kernel) (as_backM H1 (by decide +kernel) hxa hf) _ List.mem_cons_self rfl (by decide +kernel) (by decide) (fun w hw => ?_)
    rcases List.mem_singleton.mp hw with rfl
    have g0 := (en_nv (i := 1) H0.2.1 rfl).1
    have g1 := (en_nv (i := 2) H0.2.1 rfl).1
    refine ⟨_, _, g0, g1, ?_⟩
    rw [wd_fl1, if_neg (by decide)]
    show nv β 4 = b2i (leadsP S (nv xs 1) (nv xs 2))
    have q0 : ∀ k, lkv S (nv xs 1) (nv xs 2) k = (S.1 806 (140 + 4 * (17 * nv xs 1 + nv xs 2) + k).toNat).toInt := fun _ => rfl
    unfold b2i at *
    have x1 : nv β 1 = nv xs 1 := by omega
    have x2 : nv β 2 = nv xs 2 := by omega
    try simp only [x1, x2] at *
    (repeat' split at *) <;> omega
  · obtain ⟨f1, f2, f3, f4, f5⟩ := as_fx H1
    simp only [kh_leads_b0_1, fx_env, fx_c, fx_ne, fx_hf, wl_S, Nat.zero_add, Nat.reduceAdd, Nat.reduceDiv, Nat.reduceMod, List.getElem?_cons_zero, List.getElem?_cons_succ, if_true, and_true, true_and] at f1 f2 f3 f4 f5
    have fe0 : nv β 0 = 805 := by omega
    have fe3 : nv β 3 = 1 := by omega
    have fe4 : nv β 4 = 0 := by omega
    have fe5 : nv β 5 = 0 := by omega
    try simp only [fe0, fe3, fe4, fe5, Int.reduceToNat] at f2 f3 f4 f5
    have s0 : nv β 0 = nv α1 0 := nv_le H1.1 (by omega)
    have s1 : nv β 1 = nv α1 1 := nv_le H1.1 (by omega)
    have s2 : nv β 2 = nv α1 2 := nv_le H1.1 (by omega)
    obtain ⟨c0, c1⟩ := f2
    have d0 := c0
    simp only [wd_fl1, if_neg (show ¬ (wd_base 1012 = true) by decide)] at d0
    have d1 := c1
    simp only [wd_fl1, if_neg (show ¬ (wd_base 1011 = true) by decide)] at d1
    have hS : S' = S := by subst S'; rfl
    refine hd_retI G (v := 5) (by decide +kernel) (as_backM H1 (by decide +kernel) hxa hf) _ List.mem_cons_self rfl (by decide +kernel) (by decide) (fun w hw => ?_)
    rcases List.mem_singleton.mp hw with rfl
    have g0 := (en_nv (i := 1) H0.2.1 rfl).1
    have g1 := (en_nv (i := 2) H0.2.1 rfl).1
    refine ⟨_, _, g0, g1, ?_⟩
    rw [wd_fl1, if_neg (by decide)]
    show nv β 5 = b2i (leadsP S (nv xs 1) (nv xs 2))
    have q0 : ∀ k, lkv S (nv xs 1) (nv xs 2) k = (S.1 806 (140 + 4 * (17 * nv xs 1 + nv xs 2) + k).toNat).toInt := fun _ => rfl
    unfold b2i at *
    have x1 : nv β 1 = nv xs 1 := by omega
    have x2 : nv β 2 = nv xs 2 := by omega
    try simp only [x1, x2] at *
    (repeat' split at *) <;> omega
  · obtain ⟨f1, f2, f3, f4, f5⟩ := as_fx H1
    simp only [kh_leads_b0_2, fx_env, fx_c, fx_ne, fx_hf, wl_S, Nat.zero_add, Nat.reduceAdd, Nat.reduceDiv, Nat.reduceMod, List.getElem?_cons_zero, List.getElem?_cons_succ, if_true, and_true, true_and] at f1 f2 f3 f4 f5
    have fe0 : nv β 0 = 805 := by omega
    have fe3 : nv β 3 = 1 := by omega
    have fe4 : nv β 4 = 1 := by omega
    have fe5 : nv β 5 = 1 := by omega
    try simp only [fe0, fe3, fe4, fe5, Int.reduceToNat] at f2 f3 f4 f5
    have s0 : nv β 0 = nv α1 0 := nv_le H1.1 (by omega)
    have s1 : nv β 1 = nv α1 1 := nv_le H1.1 (by omega)
    have s2 : nv β 2 = nv α1 2 := nv_le H1.1 (by omega)
    obtain ⟨c0, c1⟩ := f2
    have d0 := c0
    simp only [wd_fl1, if_neg (show ¬ (wd_base 1012 = true) by decide)] at d0
    have d1 := c1
    simp only [wd_fl1, if_neg (show ¬ (wd_base 1011 = true) by decide)] at d1
    have hS : S' = S := by subst S'; rfl
    refine hd_retI G (v := 5) (by decide +kernel) (as_backM H1 (by decide +kernel) hxa hf) _ List.mem_cons_self rfl (by decide +kernel) (by decide) (fun w hw => ?_)
    rcases List.mem_singleton.mp hw with rfl
    have g0 := (en_nv (i := 1) H0.2.1 rfl).1
    have g1 := (en_nv (i := 2) H0.2.1 rfl).1
    refine ⟨_, _, g0, g1, ?_⟩
    rw [wd_fl1, if_neg (by decide)]
    show nv β 5 = b2i (leadsP S (nv xs 1) (nv xs 2))
    have q0 : ∀ k, lkv S (nv xs 1) (nv xs 2) k = (S.1 806 (140 + 4 * (17 * nv xs 1 + nv xs 2) + k).toNat).toInt := fun _ => rfl
    unfold b2i at *
    have x1 : nv β 1 = nv xs 1 := by omega
    have x2 : nv β 2 = nv xs 2 := by omega
    try simp only [x1, x2] at *
    (repeat' split at *) <;> omega)
