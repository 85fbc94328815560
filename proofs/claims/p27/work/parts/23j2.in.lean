/-! whether a number is in a span, told exactly -/
abbrev kh_in0_y : mt_T := (⟨"UtilityWorksModel", "in", "(III)Z"⟩, prog_14_method_5_code, 3, some .boolean, 12, 0, 3, 32192, 32191, 0, 21014)
def kh_in0 : ct_T := (353, [(0, (-2147483648), 2147483647, 1), (0, 0, 0, 0), (0, 1, 1, 0)], [], [], [(1, (0, 0, 0, 0), [(0, (-2147483648), 2147483647, 1), (0, 0, 0, 0), (0, 1, 1, 0)], [], ([], [(40, 0, 0)])), (1, (0, 1, 1, 0), [(0, 0, 1, 1), (0, 0, 0, 0), (0, 1, 1, 0)], [], ([], [(40, 0, 0)]))], [], 0, 0, 0)
def kh_in0_b0_0 : sg_T := (15, 0, ([((0, (-2147483648), (-1), 1), none), ((0, 0, 0, 0), none), ((0, 1, 1, 0), none), ((0, 0, 0, 0), none)], [(0, 0), (1, 1), (2, 2)], [3], [], [], [(100000, 0, 1)], [], [], some []))
def kh_in0_b0_1 : sg_T := (15, 0, ([((0, 2, 2147483647, 1), none), ((0, 0, 0, 0), none), ((0, 1, 1, 0), none), ((0, 0, 0, 0), none)], [(0, 0), (1, 1), (2, 2)], [3], [], [], [(100000, 2, 0), (200000, 1, 0)], [], [], some []))
def kh_in0_b0_2 : sg_T := (15, 0, ([((0, 0, 1, 1), none), ((0, 0, 0, 0), none), ((0, 1, 1, 0), none), ((0, 1, 1, 0), none)], [(0, 0), (1, 1), (2, 2)], [3], [], [], [(200000, 0, 2), (200000, 1, 0)], [], [], some []))
set_option maxHeartbeats 16000000 in
set_option maxRecDepth 8000 in
theorem kh_in0_ok : ct_ok wd_fl2 kh_in0 := ct_hand (ff := wd_ff2) (y := kh_in0_y) (Cs := []) wd_fl2_ok rfl (List.forall_mem_nil _) (by decide +kernel) (fun l D tc ad kd N sm xs S p e s m args below meth c sz lv G H0 => by
  have hx : xs.length = 3 := by rw [H0.2.1.1]; rfl
  obtain ⟨α1, hle, Hr⟩ := as_recM (pl := []) [] (by decide +kernel) H0
  have hf := H0.2.2.2.2.2.2.2.2.2.2.1
  have hl1 : α1.length = 3 := by rw [Hr.2.1.1]; rfl
  have hl0 : xs.length = 3 := by rw [H0.2.1.1]; rfl
  have hxa : al_le xs α1 := H0.1.trans hle
  obtain ⟨g1, -, g3, g4, -⟩ := as_fx Hr
  have g0 : ((-2147483648) ≤ nv α1 0 ∧ nv α1 0 ≤ 2147483647) ∧ (0 ≤ nv α1 1 ∧ nv α1 1 ≤ 0) ∧ (1 ≤ nv α1 2 ∧ nv α1 2 ≤ 1) ∧ True := by
    refine ⟨by have h := (en_nv (i := 0) Hr.2.1 rfl).2; exact h, by have h := (en_nv (i := 1) Hr.2.1 rfl).2; exact h, by have h := (en_nv (i := 2) Hr.2.1 rfl).2; exact h, trivial⟩
  have r0 : nv α1 0 = nv xs 0 := nv_le hle (by omega)
  have r1 : nv α1 1 = nv xs 1 := nv_le hle (by omega)
  have r2 : nv α1 2 = nv xs 2 := nv_le hle (by omega)
  refine hd_segM G (na := 3) (fuel := 600) (first := true) (Bs := [kh_in0_b0_0, kh_in0_b0_1, kh_in0_b0_2]) (by decide +kernel) hl1 Hr ?_
  intro q hq β lv' st' S' H1
  simp only [List.mem_cons, List.not_mem_nil, or_false] at hq
  rcases hq with rfl | rfl | rfl
  · obtain ⟨f1, f2, f3, f4, f5⟩ := as_fx H1
    simp only [kh_in0_b0_0, fx_env, fx_c, fx_ne, fx_hf, wl_S, Nat.zero_add, Nat.reduceAdd, Nat.reduceDiv, Nat.reduceMod, List.getElem?_cons_zero, List.getElem?_cons_succ, if_true, and_true, true_and] at f1 f2 f3 f4 f5
    have fe1 : nv β 1 = 0 := by omega
    have fe2 : nv β 2 = 1 := by omega
    have fe3 : nv β 3 = 0 := by omega
    try simp only [fe1, fe2, fe3, Int.reduceToNat] at f2 f3 f4 f5
    have s0 : nv β 0 = nv α1 0 := nv_le H1.1 (by omega)
    have s1 : nv β 1 = nv α1 1 := nv_le H1.1 (by omega)
    have s2 : nv β 2 = nv α1 2 := nv_le H1.1 (by omega)
    have c0 := f2
    refine hd_retI G (v := 3) (by decide +kernel) (as_backM H1 (by decide +kernel) hxa hf) _ (List.mem_cons_self) rfl (by decide +kernel) (by decide) (fun w hw => ?_)
    rcases List.mem_singleton.mp hw with rfl
    have g0' := (en_nv (i := 0) H0.2.1 rfl).1
    refine ⟨_, _, g0', g0', ?_⟩
    rw [wd_fl2, if_neg (by decide)]
    show nv β 3 = b2i (0 ≤ nv xs 0 ∧ nv xs 0 ≤ 1)
    have x0 : nv β 0 = nv xs 0 := by omega
    unfold b2i
    split <;> omega
  · obtain ⟨f1, f2, f3, f4, f5⟩ := as_fx H1
    simp only [kh_in0_b0_1, fx_env, fx_c, fx_ne, fx_hf, wl_S, Nat.zero_add, Nat.reduceAdd, Nat.reduceDiv, Nat.reduceMod, List.getElem?_cons_zero, List.getElem?_cons_succ, if_true, and_true, true_and] at f1 f2 f3 f4 f5
    have fe1 : nv β 1 = 0 := by omega
    have fe2 : nv β 2 = 1 := by omega
    have fe3 : nv β 3 = 0 := by omega
    try simp only [fe1, fe2, fe3, Int.reduceToNat] at f2 f3 f4 f5
    have s0 : nv β 0 = nv α1 0 := nv_le H1.1 (by omega)
    have s1 : nv β 1 = nv α1 1 := nv_le H1.1 (by omega)
    have s2 : nv β 2 = nv α1 2 := nv_le H1.1 (by omega)
    obtain ⟨c0, c1⟩ := f2
    refine hd_retI G (v := 3) (by decide +kernel) (as_backM H1 (by decide +kernel) hxa hf) _ (List.mem_cons_self) rfl (by decide +kernel) (by decide) (fun w hw => ?_)
    rcases List.mem_singleton.mp hw with rfl
    have g0' := (en_nv (i := 0) H0.2.1 rfl).1
    refine ⟨_, _, g0', g0', ?_⟩
    rw [wd_fl2, if_neg (by decide)]
    show nv β 3 = b2i (0 ≤ nv xs 0 ∧ nv xs 0 ≤ 1)
    have x0 : nv β 0 = nv xs 0 := by omega
    unfold b2i
    split <;> omega
  · obtain ⟨f1, f2, f3, f4, f5⟩ := as_fx H1
    simp only [kh_in0_b0_2, fx_env, fx_c, fx_ne, fx_hf, wl_S, Nat.zero_add, Nat.reduceAdd, Nat.reduceDiv, Nat.reduceMod, List.getElem?_cons_zero, List.getElem?_cons_succ, if_true, and_true, true_and] at f1 f2 f3 f4 f5
    have fe1 : nv β 1 = 0 := by omega
    have fe2 : nv β 2 = 1 := by omega
    have fe3 : nv β 3 = 1 := by omega
    try simp only [fe1, fe2, fe3, Int.reduceToNat] at f2 f3 f4 f5
    have s0 : nv β 0 = nv α1 0 := nv_le H1.1 (by omega)
    have s1 : nv β 1 = nv α1 1 := nv_le H1.1 (by omega)
    have s2 : nv β 2 = nv α1 2 := nv_le H1.1 (by omega)
    obtain ⟨c0, c1⟩ := f2
    refine hd_retI G (v := 3) (by decide +kernel) (as_backM H1 (by decide +kernel) hxa hf) _ (List.mem_cons_of_mem _ List.mem_cons_self) rfl (by decide +kernel) (by decide) (fun w hw => ?_)
    rcases List.mem_singleton.mp hw with rfl
    have g0' := (en_nv (i := 0) H0.2.1 rfl).1
    refine ⟨_, _, g0', g0', ?_⟩
    rw [wd_fl2, if_neg (by decide)]
    show nv β 3 = b2i (0 ≤ nv xs 0 ∧ nv xs 0 ≤ 1)
    have x0 : nv β 0 = nv xs 0 := by omega
    unfold b2i
    split <;> omega)
abbrev kh_in1_y : mt_T := (⟨"UtilityWorksModel", "in", "(III)Z"⟩, prog_14_method_5_code, 3, some .boolean, 12, 0, 3, 32192, 32191, 0, 21014)
def kh_in1 : ct_T := (353, [(0, (-2147483648), 2147483647, 1), (0, (-30), (-30), 0), (0, 40, 40, 0)], [], [], [(1, (0, 0, 0, 0), [(0, (-2147483648), 2147483647, 1), (0, (-30), (-30), 0), (0, 40, 40, 0)], [], ([], [(41, 0, 0)])), (1, (0, 1, 1, 0), [(0, (-30), 40, 1), (0, (-30), (-30), 0), (0, 40, 40, 0)], [], ([], [(41, 0, 0)]))], [], 0, 0, 0)
def kh_in1_b0_0 : sg_T := (15, 0, ([((0, (-2147483648), (-31), 1), none), ((0, (-30), (-30), 0), none), ((0, 40, 40, 0), none), ((0, 0, 0, 0), none)], [(0, 0), (1, 1), (2, 2)], [3], [], [], [(100000, 0, 1)], [], [], some []))
def kh_in1_b0_1 : sg_T := (15, 0, ([((0, 41, 2147483647, 1), none), ((0, (-30), (-30), 0), none), ((0, 40, 40, 0), none), ((0, 0, 0, 0), none)], [(0, 0), (1, 1), (2, 2)], [3], [], [], [(100000, 2, 0), (200000, 1, 0)], [], [], some []))
def kh_in1_b0_2 : sg_T := (15, 0, ([((0, (-30), 40, 1), none), ((0, (-30), (-30), 0), none), ((0, 40, 40, 0), none), ((0, 1, 1, 0), none)], [(0, 0), (1, 1), (2, 2)], [3], [], [], [(200000, 0, 2), (200000, 1, 0)], [], [], some []))
set_option maxHeartbeats 16000000 in
set_option maxRecDepth 8000 in
theorem kh_in1_ok : ct_ok wd_fl2 kh_in1 := ct_hand (ff := wd_ff2) (y := kh_in1_y) (Cs := []) wd_fl2_ok rfl (List.forall_mem_nil _) (by decide +kernel) (fun l D tc ad kd N sm xs S p e s m args below meth c sz lv G H0 => by
  have hx : xs.length = 3 := by rw [H0.2.1.1]; rfl
  obtain ⟨α1, hle, Hr⟩ := as_recM (pl := []) [] (by decide +kernel) H0
  have hf := H0.2.2.2.2.2.2.2.2.2.2.1
  have hl1 : α1.length = 3 := by rw [Hr.2.1.1]; rfl
  have hl0 : xs.length = 3 := by rw [H0.2.1.1]; rfl
  have hxa : al_le xs α1 := H0.1.trans hle
  obtain ⟨g1, -, g3, g4, -⟩ := as_fx Hr
  have g0 : ((-2147483648) ≤ nv α1 0 ∧ nv α1 0 ≤ 2147483647) ∧ ((-30) ≤ nv α1 1 ∧ nv α1 1 ≤ (-30)) ∧ (40 ≤ nv α1 2 ∧ nv α1 2 ≤ 40) ∧ True := by
    refine ⟨by have h := (en_nv (i := 0) Hr.2.1 rfl).2; exact h, by have h := (en_nv (i := 1) Hr.2.1 rfl).2; exact h, by have h := (en_nv (i := 2) Hr.2.1 rfl).2; exact h, trivial⟩
  have r0 : nv α1 0 = nv xs 0 := nv_le hle (by omega)
  have r1 : nv α1 1 = nv xs 1 := nv_le hle (by omega)
  have r2 : nv α1 2 = nv xs 2 := nv_le hle (by omega)
  refine hd_segM G (na := 3) (fuel := 600) (first := true) (Bs := [kh_in1_b0_0, kh_in1_b0_1, kh_in1_b0_2]) (by decide +kernel) hl1 Hr ?_
  intro q hq β lv' st' S' H1
  simp only [List.mem_cons, List.not_mem_nil, or_false] at hq
  rcases hq with rfl | rfl | rfl
  · obtain ⟨f1, f2, f3, f4, f5⟩ := as_fx H1
    simp only [kh_in1_b0_0, fx_env, fx_c, fx_ne, fx_hf, wl_S, Nat.zero_add, Nat.reduceAdd, Nat.reduceDiv, Nat.reduceMod, List.getElem?_cons_zero, List.getElem?_cons_succ, if_true, and_true, true_and] at f1 f2 f3 f4 f5
    have fe1 : nv β 1 = (-30) := by omega
    have fe2 : nv β 2 = 40 := by omega
    have fe3 : nv β 3 = 0 := by omega
    try simp only [fe1, fe2, fe3, Int.reduceToNat] at f2 f3 f4 f5
    have s0 : nv β 0 = nv α1 0 := nv_le H1.1 (by omega)
    have s1 : nv β 1 = nv α1 1 := nv_le H1.1 (by omega)
    have s2 : nv β 2 = nv α1 2 := nv_le H1.1 (by omega)
    have c0 := f2
    refine hd_retI G (v := 3) (by decide +kernel) (as_backM H1 (by decide +kernel) hxa hf) _ (List.mem_cons_self) rfl (by decide +kernel) (by decide) (fun w hw => ?_)
    rcases List.mem_singleton.mp hw with rfl
    have g0' := (en_nv (i := 0) H0.2.1 rfl).1
    refine ⟨_, _, g0', g0', ?_⟩
    rw [wd_fl2, if_neg (by decide)]
    show nv β 3 = b2i ((-30) ≤ nv xs 0 ∧ nv xs 0 ≤ 40)
    have x0 : nv β 0 = nv xs 0 := by omega
    unfold b2i
    split <;> omega
  · obtain ⟨f1, f2, f3, f4, f5⟩ := as_fx H1
    simp only [kh_in1_b0_1, fx_env, fx_c, fx_ne, fx_hf, wl_S, Nat.zero_add, Nat.reduceAdd, Nat.reduceDiv, Nat.reduceMod, List.getElem?_cons_zero, List.getElem?_cons_succ, if_true, and_true, true_and] at f1 f2 f3 f4 f5
    have fe1 : nv β 1 = (-30) := by omega
    have fe2 : nv β 2 = 40 := by omega
    have fe3 : nv β 3 = 0 := by omega
    try simp only [fe1, fe2, fe3, Int.reduceToNat] at f2 f3 f4 f5
    have s0 : nv β 0 = nv α1 0 := nv_le H1.1 (by omega)
    have s1 : nv β 1 = nv α1 1 := nv_le H1.1 (by omega)
    have s2 : nv β 2 = nv α1 2 := nv_le H1.1 (by omega)
    obtain ⟨c0, c1⟩ := f2
    refine hd_retI G (v := 3) (by decide +kernel) (as_backM H1 (by decide +kernel) hxa hf) _ (List.mem_cons_self) rfl (by decide +kernel) (by decide) (fun w hw => ?_)
    rcases List.mem_singleton.mp hw with rfl
    have g0' := (en_nv (i := 0) H0.2.1 rfl).1
    refine ⟨_, _, g0', g0', ?_⟩
    rw [wd_fl2, if_neg (by decide)]
    show nv β 3 = b2i ((-30) ≤ nv xs 0 ∧ nv xs 0 ≤ 40)
    have x0 : nv β 0 = nv xs 0 := by omega
    unfold b2i
    split <;> omega
  · obtain ⟨f1, f2, f3, f4, f5⟩ := as_fx H1
    simp only [kh_in1_b0_2, fx_env, fx_c, fx_ne, fx_hf, wl_S, Nat.zero_add, Nat.reduceAdd, Nat.reduceDiv, Nat.reduceMod, List.getElem?_cons_zero, List.getElem?_cons_succ, if_true, and_true, true_and] at f1 f2 f3 f4 f5
    have fe1 : nv β 1 = (-30) := by omega
    have fe2 : nv β 2 = 40 := by omega
    have fe3 : nv β 3 = 1 := by omega
    try simp only [fe1, fe2, fe3, Int.reduceToNat] at f2 f3 f4 f5
    have s0 : nv β 0 = nv α1 0 := nv_le H1.1 (by omega)
    have s1 : nv β 1 = nv α1 1 := nv_le H1.1 (by omega)
    have s2 : nv β 2 = nv α1 2 := nv_le H1.1 (by omega)
    obtain ⟨c0, c1⟩ := f2
    refine hd_retI G (v := 3) (by decide +kernel) (as_backM H1 (by decide +kernel) hxa hf) _ (List.mem_cons_of_mem _ List.mem_cons_self) rfl (by decide +kernel) (by decide) (fun w hw => ?_)
    rcases List.mem_singleton.mp hw with rfl
    have g0' := (en_nv (i := 0) H0.2.1 rfl).1
    refine ⟨_, _, g0', g0', ?_⟩
    rw [wd_fl2, if_neg (by decide)]
    show nv β 3 = b2i ((-30) ≤ nv xs 0 ∧ nv xs 0 ≤ 40)
    have x0 : nv β 0 = nv xs 0 := by omega
    unfold b2i
    split <;> omega)
abbrev kh_in2_y : mt_T := (⟨"UtilityWorksModel", "in", "(III)Z"⟩, prog_14_method_5_code, 3, some .boolean, 12, 0, 3, 32192, 32191, 0, 21014)
def kh_in2 : ct_T := (353, [(0, (-2147483648), 2147483647, 1), (0, 0, 0, 0), (0, 9, 9, 0)], [], [], [(1, (0, 0, 0, 0), [(0, (-2147483648), 2147483647, 1), (0, 0, 0, 0), (0, 9, 9, 0)], [], ([], [(42, 0, 0)])), (1, (0, 1, 1, 0), [(0, 0, 9, 1), (0, 0, 0, 0), (0, 9, 9, 0)], [], ([], [(42, 0, 0)]))], [], 0, 0, 0)
def kh_in2_b0_0 : sg_T := (15, 0, ([((0, (-2147483648), (-1), 1), none), ((0, 0, 0, 0), none), ((0, 9, 9, 0), none), ((0, 0, 0, 0), none)], [(0, 0), (1, 1), (2, 2)], [3], [], [], [(100000, 0, 1)], [], [], some []))
def kh_in2_b0_1 : sg_T := (15, 0, ([((0, 10, 2147483647, 1), none), ((0, 0, 0, 0), none), ((0, 9, 9, 0), none), ((0, 0, 0, 0), none)], [(0, 0), (1, 1), (2, 2)], [3], [], [], [(100000, 2, 0), (200000, 1, 0)], [], [], some []))
def kh_in2_b0_2 : sg_T := (15, 0, ([((0, 0, 9, 1), none), ((0, 0, 0, 0), none), ((0, 9, 9, 0), none), ((0, 1, 1, 0), none)], [(0, 0), (1, 1), (2, 2)], [3], [], [], [(200000, 0, 2), (200000, 1, 0)], [], [], some []))
set_option maxHeartbeats 16000000 in
set_option maxRecDepth 8000 in
theorem kh_in2_ok : ct_ok wd_fl2 kh_in2 := ct_hand (ff := wd_ff2) (y := kh_in2_y) (Cs := []) wd_fl2_ok rfl (List.forall_mem_nil _) (by decide +kernel) (fun l D tc ad kd N sm xs S p e s m args below meth c sz lv G H0 => by
  have hx : xs.length = 3 := by rw [H0.2.1.1]; rfl
  obtain ⟨α1, hle, Hr⟩ := as_recM (pl := []) [] (by decide +kernel) H0
  have hf := H0.2.2.2.2.2.2.2.2.2.2.1
  have hl1 : α1.length = 3 := by rw [Hr.2.1.1]; rfl
  have hl0 : xs.length = 3 := by rw [H0.2.1.1]; rfl
  have hxa : al_le xs α1 := H0.1.trans hle
  obtain ⟨g1, -, g3, g4, -⟩ := as_fx Hr
  have g0 : ((-2147483648) ≤ nv α1 0 ∧ nv α1 0 ≤ 2147483647) ∧ (0 ≤ nv α1 1 ∧ nv α1 1 ≤ 0) ∧ (9 ≤ nv α1 2 ∧ nv α1 2 ≤ 9) ∧ True := by
    refine ⟨by have h := (en_nv (i := 0) Hr.2.1 rfl).2; exact h, by have h := (en_nv (i := 1) Hr.2.1 rfl).2; exact h, by have h := (en_nv (i := 2) Hr.2.1 rfl).2; exact h, trivial⟩
  have r0 : nv α1 0 = nv xs 0 := nv_le hle (by omega)
  have r1 : nv α1 1 = nv xs 1 := nv_le hle (by omega)
  have r2 : nv α1 2 = nv xs 2 := nv_le hle (by omega)
  refine hd_segM G (na := 3) (fuel := 600) (first := true) (Bs := [kh_in2_b0_0, kh_in2_b0_1, kh_in2_b0_2]) (by decide +kernel) hl1 Hr ?_
  intro q hq β lv' st' S' H1
  simp only [List.mem_cons, List.not_mem_nil, or_false] at hq
  rcases hq with rfl | rfl | rfl
  · obtain ⟨f1, f2, f3, f4, f5⟩ := as_fx H1
    simp only [kh_in2_b0_0, fx_env, fx_c, fx_ne, fx_hf, wl_S, Nat.zero_add, Nat.reduceAdd, Nat.reduceDiv, Nat.reduceMod, List.getElem?_cons_zero, List.getElem?_cons_succ, if_true, and_true, true_and] at f1 f2 f3 f4 f5
    have fe1 : nv β 1 = 0 := by omega
    have fe2 : nv β 2 = 9 := by omega
    have fe3 : nv β 3 = 0 := by omega
    try simp only [fe1, fe2, fe3, Int.reduceToNat] at f2 f3 f4 f5
    have s0 : nv β 0 = nv α1 0 := nv_le H1.1 (by omega)
    have s1 : nv β 1 = nv α1 1 := nv_le H1.1 (by omega)
    have s2 : nv β 2 = nv α1 2 := nv_le H1.1 (by omega)
    have c0 := f2
    refine hd_retI G (v := 3) (by decide +kernel) (as_backM H1 (by decide +kernel) hxa hf) _ (List.mem_cons_self) rfl (by decide +kernel) (by decide) (fun w hw => ?_)
    rcases List.mem_singleton.mp hw with rfl
    have g0' := (en_nv (i := 0) H0.2.1 rfl).1
    refine ⟨_, _, g0', g0', ?_⟩
    rw [wd_fl2, if_neg (by decide)]
    show nv β 3 = b2i (0 ≤ nv xs 0 ∧ nv xs 0 ≤ 9)
    have x0 : nv β 0 = nv xs 0 := by omega
    unfold b2i
    split <;> omega
  · obtain ⟨f1, f2, f3, f4, f5⟩ := as_fx H1
    simp only [kh_in2_b0_1, fx_env, fx_c, fx_ne, fx_hf, wl_S, Nat.zero_add, Nat.reduceAdd, Nat.reduceDiv, Nat.reduceMod, List.getElem?_cons_zero, List.getElem?_cons_succ, if_true, and_true, true_and] at f1 f2 f3 f4 f5
    have fe1 : nv β 1 = 0 := by omega
    have fe2 : nv β 2 = 9 := by omega
    have fe3 : nv β 3 = 0 := by omega
    try simp only [fe1, fe2, fe3, Int.reduceToNat] at f2 f3 f4 f5
    have s0 : nv β 0 = nv α1 0 := nv_le H1.1 (by omega)
    have s1 : nv β 1 = nv α1 1 := nv_le H1.1 (by omega)
    have s2 : nv β 2 = nv α1 2 := nv_le H1.1 (by omega)
    obtain ⟨c0, c1⟩ := f2
    refine hd_retI G (v := 3) (by decide +kernel) (as_backM H1 (by decide +kernel) hxa hf) _ (List.mem_cons_self) rfl (by decide +kernel) (by decide) (fun w hw => ?_)
    rcases List.mem_singleton.mp hw with rfl
    have g0' := (en_nv (i := 0) H0.2.1 rfl).1
    refine ⟨_, _, g0', g0', ?_⟩
    rw [wd_fl2, if_neg (by decide)]
    show nv β 3 = b2i (0 ≤ nv xs 0 ∧ nv xs 0 ≤ 9)
    have x0 : nv β 0 = nv xs 0 := by omega
    unfold b2i
    split <;> omega
  · obtain ⟨f1, f2, f3, f4, f5⟩ := as_fx H1
    simp only [kh_in2_b0_2, fx_env, fx_c, fx_ne, fx_hf, wl_S, Nat.zero_add, Nat.reduceAdd, Nat.reduceDiv, Nat.reduceMod, List.getElem?_cons_zero, List.getElem?_cons_succ, if_true, and_true, true_and] at f1 f2 f3 f4 f5
    have fe1 : nv β 1 = 0 := by omega
    have fe2 : nv β 2 = 9 := by omega
    have fe3 : nv β 3 = 1 := by omega
    try simp only [fe1, fe2, fe3, Int.reduceToNat] at f2 f3 f4 f5
    have s0 : nv β 0 = nv α1 0 := nv_le H1.1 (by omega)
    have s1 : nv β 1 = nv α1 1 := nv_le H1.1 (by omega)
    have s2 : nv β 2 = nv α1 2 := nv_le H1.1 (by omega)
    obtain ⟨c0, c1⟩ := f2
    refine hd_retI G (v := 3) (by decide +kernel) (as_backM H1 (by decide +kernel) hxa hf) _ (List.mem_cons_of_mem _ List.mem_cons_self) rfl (by decide +kernel) (by decide) (fun w hw => ?_)
    rcases List.mem_singleton.mp hw with rfl
    have g0' := (en_nv (i := 0) H0.2.1 rfl).1
    refine ⟨_, _, g0', g0', ?_⟩
    rw [wd_fl2, if_neg (by decide)]
    show nv β 3 = b2i (0 ≤ nv xs 0 ∧ nv xs 0 ≤ 9)
    have x0 : nv β 0 = nv xs 0 := by omega
    unfold b2i
    split <;> omega)
abbrev kh_in3_y : mt_T := (⟨"UtilityWorksModel", "in", "(III)Z"⟩, prog_14_method_5_code, 3, some .boolean, 12, 0, 3, 32192, 32191, 0, 21014)
def kh_in3 : ct_T := (353, [(0, (-2147483648), 2147483647, 1), (0, 0, 0, 0), (0, 65536, 65536, 0)], [], [], [(1, (0, 0, 0, 0), [(0, (-2147483648), 2147483647, 1), (0, 0, 0, 0), (0, 65536, 65536, 0)], [], ([], [(43, 0, 0)])), (1, (0, 1, 1, 0), [(0, 0, 65536, 1), (0, 0, 0, 0), (0, 65536, 65536, 0)], [], ([], [(43, 0, 0)]))], [], 0, 0, 0)
def kh_in3_b0_0 : sg_T := (15, 0, ([((0, (-2147483648), (-1), 1), none), ((0, 0, 0, 0), none), ((0, 65536, 65536, 0), none), ((0, 0, 0, 0), none)], [(0, 0), (1, 1), (2, 2)], [3], [], [], [(100000, 0, 1)], [], [], some []))
def kh_in3_b0_1 : sg_T := (15, 0, ([((0, 65537, 2147483647, 1), none), ((0, 0, 0, 0), none), ((0, 65536, 65536, 0), none), ((0, 0, 0, 0), none)], [(0, 0), (1, 1), (2, 2)], [3], [], [], [(100000, 2, 0), (200000, 1, 0)], [], [], some []))
def kh_in3_b0_2 : sg_T := (15, 0, ([((0, 0, 65536, 1), none), ((0, 0, 0, 0), none), ((0, 65536, 65536, 0), none), ((0, 1, 1, 0), none)], [(0, 0), (1, 1), (2, 2)], [3], [], [], [(200000, 0, 2), (200000, 1, 0)], [], [], some []))
set_option maxHeartbeats 16000000 in
set_option maxRecDepth 8000 in
theorem kh_in3_ok : ct_ok wd_fl2 kh_in3 := ct_hand (ff := wd_ff2) (y := kh_in3_y) (Cs := []) wd_fl2_ok rfl (List.forall_mem_nil _) (by decide +kernel) (fun l D tc ad kd N sm xs S p e s m args below meth c sz lv G H0 => by
  have hx : xs.length = 3 := by rw [H0.2.1.1]; rfl
  obtain ⟨α1, hle, Hr⟩ := as_recM (pl := []) [] (by decide +kernel) H0
  have hf := H0.2.2.2.2.2.2.2.2.2.2.1
  have hl1 : α1.length = 3 := by rw [Hr.2.1.1]; rfl
  have hl0 : xs.length = 3 := by rw [H0.2.1.1]; rfl
  have hxa : al_le xs α1 := H0.1.trans hle
  obtain ⟨g1, -, g3, g4, -⟩ := as_fx Hr
  have g0 : ((-2147483648) ≤ nv α1 0 ∧ nv α1 0 ≤ 2147483647) ∧ (0 ≤ nv α1 1 ∧ nv α1 1 ≤ 0) ∧ (65536 ≤ nv α1 2 ∧ nv α1 2 ≤ 65536) ∧ True := by
    refine ⟨by have h := (en_nv (i := 0) Hr.2.1 rfl).2; exact h, by have h := (en_nv (i := 1) Hr.2.1 rfl).2; exact h, by have h := (en_nv (i := 2) Hr.2.1 rfl).2; exact h, trivial⟩
  have r0 : nv α1 0 = nv xs 0 := nv_le hle (by omega)
  have r1 : nv α1 1 = nv xs 1 := nv_le hle (by omega)
  have r2 : nv α1 2 = nv xs 2 := nv_le hle (by omega)
  refine hd_segM G (na := 3) (fuel := 600) (first := true) (Bs := [kh_in3_b0_0, kh_in3_b0_1, kh_in3_b0_2]) (by decide +kernel) hl1 Hr ?_
  intro q hq β lv' st' S' H1
  simp only [List.mem_cons, List.not_mem_nil, or_false] at hq
  rcases hq with rfl | rfl | rfl
  · obtain ⟨f1, f2, f3, f4, f5⟩ := as_fx H1
    simp only [kh_in3_b0_0, fx_env, fx_c, fx_ne, fx_hf, wl_S, Nat.zero_add, Nat.reduceAdd, Nat.reduceDiv, Nat.reduceMod, List.getElem?_cons_zero, List.getElem?_cons_succ, if_true, and_true, true_and] at f1 f2 f3 f4 f5
    have fe1 : nv β 1 = 0 := by omega
    have fe2 : nv β 2 = 65536 := by omega
    have fe3 : nv β 3 = 0 := by omega
    try simp only [fe1, fe2, fe3, Int.reduceToNat] at f2 f3 f4 f5
    have s0 : nv β 0 = nv α1 0 := nv_le H1.1 (by omega)
    have s1 : nv β 1 = nv α1 1 := nv_le H1.1 (by omega)
    have s2 : nv β 2 = nv α1 2 := nv_le H1.1 (by omega)
    have c0 := f2
    refine hd_retI G (v := 3) (by decide +kernel) (as_backM H1 (by decide +kernel) hxa hf) _ (List.mem_cons_self) rfl (by decide +kernel) (by decide) (fun w hw => ?_)
    rcases List.mem_singleton.mp hw with rfl
    have g0' := (en_nv (i := 0) H0.2.1 rfl).1
    refine ⟨_, _, g0', g0', ?_⟩
    rw [wd_fl2, if_neg (by decide)]
    show nv β 3 = b2i (0 ≤ nv xs 0 ∧ nv xs 0 ≤ 65536)
    have x0 : nv β 0 = nv xs 0 := by omega
    unfold b2i
    split <;> omega
  · obtain ⟨f1, f2, f3, f4, f5⟩ := as_fx H1
    simp only [kh_in3_b0_1, fx_env, fx_c, fx_ne, fx_hf, wl_S, Nat.zero_add, Nat.reduceAdd, Nat.reduceDiv, Nat.reduceMod, List.getElem?_cons_zero, List.getElem?_cons_succ, if_true, and_true, true_and] at f1 f2 f3 f4 f5
    have fe1 : nv β 1 = 0 := by omega
    have fe2 : nv β 2 = 65536 := by omega
    have fe3 : nv β 3 = 0 := by omega
    try simp only [fe1, fe2, fe3, Int.reduceToNat] at f2 f3 f4 f5
    have s0 : nv β 0 = nv α1 0 := nv_le H1.1 (by omega)
    have s1 : nv β 1 = nv α1 1 := nv_le H1.1 (by omega)
    have s2 : nv β 2 = nv α1 2 := nv_le H1.1 (by omega)
    obtain ⟨c0, c1⟩ := f2
    refine hd_retI G (v := 3) (by decide +kernel) (as_backM H1 (by decide +kernel) hxa hf) _ (List.mem_cons_self) rfl (by decide +kernel) (by decide) (fun w hw => ?_)
    rcases List.mem_singleton.mp hw with rfl
    have g0' := (en_nv (i := 0) H0.2.1 rfl).1
    refine ⟨_, _, g0', g0', ?_⟩
    rw [wd_fl2, if_neg (by decide)]
    show nv β 3 = b2i (0 ≤ nv xs 0 ∧ nv xs 0 ≤ 65536)
    have x0 : nv β 0 = nv xs 0 := by omega
    unfold b2i
    split <;> omega
  · obtain ⟨f1, f2, f3, f4, f5⟩ := as_fx H1
    simp only [kh_in3_b0_2, fx_env, fx_c, fx_ne, fx_hf, wl_S, Nat.zero_add, Nat.reduceAdd, Nat.reduceDiv, Nat.reduceMod, List.getElem?_cons_zero, List.getElem?_cons_succ, if_true, and_true, true_and] at f1 f2 f3 f4 f5
    have fe1 : nv β 1 = 0 := by omega
    have fe2 : nv β 2 = 65536 := by omega
    have fe3 : nv β 3 = 1 := by omega
    try simp only [fe1, fe2, fe3, Int.reduceToNat] at f2 f3 f4 f5
    have s0 : nv β 0 = nv α1 0 := nv_le H1.1 (by omega)
    have s1 : nv β 1 = nv α1 1 := nv_le H1.1 (by omega)
    have s2 : nv β 2 = nv α1 2 := nv_le H1.1 (by omega)
    obtain ⟨c0, c1⟩ := f2
    refine hd_retI G (v := 3) (by decide +kernel) (as_backM H1 (by decide +kernel) hxa hf) _ (List.mem_cons_of_mem _ List.mem_cons_self) rfl (by decide +kernel) (by decide) (fun w hw => ?_)
    rcases List.mem_singleton.mp hw with rfl
    have g0' := (en_nv (i := 0) H0.2.1 rfl).1
    refine ⟨_, _, g0', g0', ?_⟩
    rw [wd_fl2, if_neg (by decide)]
    show nv β 3 = b2i (0 ≤ nv xs 0 ∧ nv xs 0 ≤ 65536)
    have x0 : nv β 0 = nv xs 0 := by omega
    unfold b2i
    split <;> omega)
abbrev kh_in4_y : mt_T := (⟨"UtilityWorksModel", "in", "(III)Z"⟩, prog_14_method_5_code, 3, some .boolean, 12, 0, 3, 32192, 32191, 0, 21014)
def kh_in4 : ct_T := (353, [(0, (-2147483648), 2147483647, 1), (0, 0, 0, 0), (0, 2, 2, 0)], [], [], [(1, (0, 0, 0, 0), [(0, (-2147483648), 2147483647, 1), (0, 0, 0, 0), (0, 2, 2, 0)], [], ([], [(44, 0, 0)])), (1, (0, 1, 1, 0), [(0, 0, 2, 1), (0, 0, 0, 0), (0, 2, 2, 0)], [], ([], [(44, 0, 0)]))], [], 0, 0, 0)
def kh_in4_b0_0 : sg_T := (15, 0, ([((0, (-2147483648), (-1), 1), none), ((0, 0, 0, 0), none), ((0, 2, 2, 0), none), ((0, 0, 0, 0), none)], [(0, 0), (1, 1), (2, 2)], [3], [], [], [(100000, 0, 1)], [], [], some []))
def kh_in4_b0_1 : sg_T := (15, 0, ([((0, 3, 2147483647, 1), none), ((0, 0, 0, 0), none), ((0, 2, 2, 0), none), ((0, 0, 0, 0), none)], [(0, 0), (1, 1), (2, 2)], [3], [], [], [(100000, 2, 0), (200000, 1, 0)], [], [], some []))
def kh_in4_b0_2 : sg_T := (15, 0, ([((0, 0, 2, 1), none), ((0, 0, 0, 0), none), ((0, 2, 2, 0), none), ((0, 1, 1, 0), none)], [(0, 0), (1, 1), (2, 2)], [3], [], [], [(200000, 0, 2), (200000, 1, 0)], [], [], some []))
set_option maxHeartbeats 16000000 in
set_option maxRecDepth 8000 in
theorem kh_in4_ok : ct_ok wd_fl2 kh_in4 := ct_hand (ff := wd_ff2) (y := kh_in4_y) (Cs := []) wd_fl2_ok rfl (List.forall_mem_nil _) (by decide +kernel) (fun l D tc ad kd N sm xs S p e s m args below meth c sz lv G H0 => by
  have hx : xs.length = 3 := by rw [H0.2.1.1]; rfl
  obtain ⟨α1, hle, Hr⟩ := as_recM (pl := []) [] (by decide +kernel) H0
  have hf := H0.2.2.2.2.2.2.2.2.2.2.1
  have hl1 : α1.length = 3 := by rw [Hr.2.1.1]; rfl
  have hl0 : xs.length = 3 := by rw [H0.2.1.1]; rfl
  have hxa : al_le xs α1 := H0.1.trans hle
  obtain ⟨g1, -, g3, g4, -⟩ := as_fx Hr
  have g0 : ((-2147483648) ≤ nv α1 0 ∧ nv α1 0 ≤ 2147483647) ∧ (0 ≤ nv α1 1 ∧ nv α1 1 ≤ 0) ∧ (2 ≤ nv α1 2 ∧ nv α1 2 ≤ 2) ∧ True := by
    refine ⟨by have h := (en_nv (i := 0) Hr.2.1 rfl).2; exact h, by have h := (en_nv (i := 1) Hr.2.1 rfl).2; exact h, by have h := (en_nv (i := 2) Hr.2.1 rfl).2; exact h, trivial⟩
  have r0 : nv α1 0 = nv xs 0 := nv_le hle (by omega)
  have r1 : nv α1 1 = nv xs 1 := nv_le hle (by omega)
  have r2 : nv α1 2 = nv xs 2 := nv_le hle (by omega)
  refine hd_segM G (na := 3) (fuel := 600) (first := true) (Bs := [kh_in4_b0_0, kh_in4_b0_1, kh_in4_b0_2]) (by decide +kernel) hl1 Hr ?_
  intro q hq β lv' st' S' H1
  simp only [List.mem_cons, List.not_mem_nil, or_false] at hq
  rcases hq with rfl | rfl | rfl
  · obtain ⟨f1, f2, f3, f4, f5⟩ := as_fx H1
    simp only [kh_in4_b0_0, fx_env, fx_c, fx_ne, fx_hf, wl_S, Nat.zero_add, Nat.reduceAdd, Nat.reduceDiv, Nat.reduceMod, List.getElem?_cons_zero, List.getElem?_cons_succ, if_true, and_true, true_and] at f1 f2 f3 f4 f5
    have fe1 : nv β 1 = 0 := by omega
    have fe2 : nv β 2 = 2 := by omega
    have fe3 : nv β 3 = 0 := by omega
    try simp only [fe1, fe2, fe3, Int.reduceToNat] at f2 f3 f4 f5
    have s0 : nv β 0 = nv α1 0 := nv_le H1.1 (by omega)
    have s1 : nv β 1 = nv α1 1 := nv_le H1.1 (by omega)
    have s2 : nv β 2 = nv α1 2 := nv_le H1.1 (by omega)
    have c0 := f2
    refine hd_retI G (v := 3) (by decide +kernel) (as_backM H1 (by decide +kernel) hxa hf) _ (List.mem_cons_self) rfl (by decide +kernel) (by decide) (fun w hw => ?_)
    rcases List.mem_singleton.mp hw with rfl
    have g0' := (en_nv (i := 0) H0.2.1 rfl).1
    refine ⟨_, _, g0', g0', ?_⟩
    rw [wd_fl2, if_neg (by decide)]
    show nv β 3 = b2i (0 ≤ nv xs 0 ∧ nv xs 0 ≤ 2)
    have x0 : nv β 0 = nv xs 0 := by omega
    unfold b2i
    split <;> omega
  · obtain ⟨f1, f2, f3, f4, f5⟩ := as_fx H1
    simp only [kh_in4_b0_1, fx_env, fx_c, fx_ne, fx_hf, wl_S, Nat.zero_add, Nat.reduceAdd, Nat.reduceDiv, Nat.reduceMod, List.getElem?_cons_zero, List.getElem?_cons_succ, if_true, and_true, true_and] at f1 f2 f3 f4 f5
    have fe1 : nv β 1 = 0 := by omega
    have fe2 : nv β 2 = 2 := by omega
    have fe3 : nv β 3 = 0 := by omega
    try simp only [fe1, fe2, fe3, Int.reduceToNat] at f2 f3 f4 f5
    have s0 : nv β 0 = nv α1 0 := nv_le H1.1 (by omega)
    have s1 : nv β 1 = nv α1 1 := nv_le H1.1 (by omega)
    have s2 : nv β 2 = nv α1 2 := nv_le H1.1 (by omega)
    obtain ⟨c0, c1⟩ := f2
    refine hd_retI G (v := 3) (by decide +kernel) (as_backM H1 (by decide +kernel) hxa hf) _ (List.mem_cons_self) rfl (by decide +kernel) (by decide) (fun w hw => ?_)
    rcases List.mem_singleton.mp hw with rfl
    have g0' := (en_nv (i := 0) H0.2.1 rfl).1
    refine ⟨_, _, g0', g0', ?_⟩
    rw [wd_fl2, if_neg (by decide)]
    show nv β 3 = b2i (0 ≤ nv xs 0 ∧ nv xs 0 ≤ 2)
    have x0 : nv β 0 = nv xs 0 := by omega
    unfold b2i
    split <;> omega
  · obtain ⟨f1, f2, f3, f4, f5⟩ := as_fx H1
    simp only [kh_in4_b0_2, fx_env, fx_c, fx_ne, fx_hf, wl_S, Nat.zero_add, Nat.reduceAdd, Nat.reduceDiv, Nat.reduceMod, List.getElem?_cons_zero, List.getElem?_cons_succ, if_true, and_true, true_and] at f1 f2 f3 f4 f5
    have fe1 : nv β 1 = 0 := by omega
    have fe2 : nv β 2 = 2 := by omega
    have fe3 : nv β 3 = 1 := by omega
    try simp only [fe1, fe2, fe3, Int.reduceToNat] at f2 f3 f4 f5
    have s0 : nv β 0 = nv α1 0 := nv_le H1.1 (by omega)
    have s1 : nv β 1 = nv α1 1 := nv_le H1.1 (by omega)
    have s2 : nv β 2 = nv α1 2 := nv_le H1.1 (by omega)
    obtain ⟨c0, c1⟩ := f2
    refine hd_retI G (v := 3) (by decide +kernel) (as_backM H1 (by decide +kernel) hxa hf) _ (List.mem_cons_of_mem _ List.mem_cons_self) rfl (by decide +kernel) (by decide) (fun w hw => ?_)
    rcases List.mem_singleton.mp hw with rfl
    have g0' := (en_nv (i := 0) H0.2.1 rfl).1
    refine ⟨_, _, g0', g0', ?_⟩
    rw [wd_fl2, if_neg (by decide)]
    show nv β 3 = b2i (0 ≤ nv xs 0 ∧ nv xs 0 ≤ 2)
    have x0 : nv β 0 = nv xs 0 := by omega
    unfold b2i
    split <;> omega)
abbrev kh_in5_y : mt_T := (⟨"UtilityWorksModel", "in", "(III)Z"⟩, prog_14_method_5_code, 3, some .boolean, 12, 0, 3, 32192, 32191, 0, 21014)
def kh_in5 : ct_T := (353, [(0, (-2147483648), 2147483647, 1), (0, 1, 1, 0), (0, 9, 9, 0)], [], [], [(1, (0, 0, 0, 0), [(0, (-2147483648), 2147483647, 1), (0, 1, 1, 0), (0, 9, 9, 0)], [], ([], [(45, 0, 0)])), (1, (0, 1, 1, 0), [(0, 1, 9, 1), (0, 1, 1, 0), (0, 9, 9, 0)], [], ([], [(45, 0, 0)]))], [], 0, 0, 0)
def kh_in5_b0_0 : sg_T := (15, 0, ([((0, (-2147483648), 0, 1), none), ((0, 1, 1, 0), none), ((0, 9, 9, 0), none), ((0, 0, 0, 0), none)], [(0, 0), (1, 1), (2, 2)], [3], [], [], [(100000, 0, 1)], [], [], some []))
def kh_in5_b0_1 : sg_T := (15, 0, ([((0, 10, 2147483647, 1), none), ((0, 1, 1, 0), none), ((0, 9, 9, 0), none), ((0, 0, 0, 0), none)], [(0, 0), (1, 1), (2, 2)], [3], [], [], [(100000, 2, 0), (200000, 1, 0)], [], [], some []))
def kh_in5_b0_2 : sg_T := (15, 0, ([((0, 1, 9, 1), none), ((0, 1, 1, 0), none), ((0, 9, 9, 0), none), ((0, 1, 1, 0), none)], [(0, 0), (1, 1), (2, 2)], [3], [], [], [(200000, 0, 2), (200000, 1, 0)], [], [], some []))
set_option maxHeartbeats 16000000 in
set_option maxRecDepth 8000 in
theorem kh_in5_ok : ct_ok wd_fl2 kh_in5 := ct_hand (ff := wd_ff2) (y := kh_in5_y) (Cs := []) wd_fl2_ok rfl (List.forall_mem_nil _) (by decide +kernel) (fun l D tc ad kd N sm xs S p e s m args below meth c sz lv G H0 => by
  have hx : xs.length = 3 := by rw [H0.2.1.1]; rfl
  obtain ⟨α1, hle, Hr⟩ := as_recM (pl := []) [] (by decide +kernel) H0
  have hf := H0.2.2.2.2.2.2.2.2.2.2.1
  have hl1 : α1.length = 3 := by rw [Hr.2.1.1]; rfl
  have hl0 : xs.length = 3 := by rw [H0.2.1.1]; rfl
  have hxa : al_le xs α1 := H0.1.trans hle
  obtain ⟨g1, -, g3, g4, -⟩ := as_fx Hr
  have g0 : ((-2147483648) ≤ nv α1 0 ∧ nv α1 0 ≤ 2147483647) ∧ (1 ≤ nv α1 1 ∧ nv α1 1 ≤ 1) ∧ (9 ≤ nv α1 2 ∧ nv α1 2 ≤ 9) ∧ True := by
    refine ⟨by have h := (en_nv (i := 0) Hr.2.1 rfl).2; exact h, by have h := (en_nv (i := 1) Hr.2.1 rfl).2; exact h, by have h := (en_nv (i := 2) Hr.2.1 rfl).2; exact h, trivial⟩
  have r0 : nv α1 0 = nv xs 0 := nv_le hle (by omega)
  have r1 : nv α1 1 = nv xs 1 := nv_le hle (by omega)
  have r2 : nv α1 2 = nv xs 2 := nv_le hle (by omega)
  refine hd_segM G (na := 3) (fuel := 600) (first := true) (Bs := [kh_in5_b0_0, kh_in5_b0_1, kh_in5_b0_2]) (by decide +kernel) hl1 Hr ?_
  intro q hq β lv' st' S' H1
  simp only [List.mem_cons, List.not_mem_nil, or_false] at hq
  rcases hq with rfl | rfl | rfl
  · obtain ⟨f1, f2, f3, f4, f5⟩ := as_fx H1
    simp only [kh_in5_b0_0, fx_env, fx_c, fx_ne, fx_hf, wl_S, Nat.zero_add, Nat.reduceAdd, Nat.reduceDiv, Nat.reduceMod, List.getElem?_cons_zero, List.getElem?_cons_succ, if_true, and_true, true_and] at f1 f2 f3 f4 f5
    have fe1 : nv β 1 = 1 := by omega
    have fe2 : nv β 2 = 9 := by omega
    have fe3 : nv β 3 = 0 := by omega
    try simp only [fe1, fe2, fe3, Int.reduceToNat] at f2 f3 f4 f5
    have s0 : nv β 0 = nv α1 0 := nv_le H1.1 (by omega)
    have s1 : nv β 1 = nv α1 1 := nv_le H1.1 (by omega)
    have s2 : nv β 2 = nv α1 2 := nv_le H1.1 (by omega)
    have c0 := f2
    refine hd_retI G (v := 3) (by decide +kernel) (as_backM H1 (by decide +kernel) hxa hf) _ (List.mem_cons_self) rfl (by decide +kernel) (by decide) (fun w hw => ?_)
    rcases List.mem_singleton.mp hw with rfl
    have g0' := (en_nv (i := 0) H0.2.1 rfl).1
    refine ⟨_, _, g0', g0', ?_⟩
    rw [wd_fl2, if_neg (by decide)]
    show nv β 3 = b2i (1 ≤ nv xs 0 ∧ nv xs 0 ≤ 9)
    have x0 : nv β 0 = nv xs 0 := by omega
    unfold b2i
    split <;> omega
  · obtain ⟨f1, f2, f3, f4, f5⟩ := as_fx H1
    simp only [kh_in5_b0_1, fx_env, fx_c, fx_ne, fx_hf, wl_S, Nat.zero_add, Nat.reduceAdd, Nat.reduceDiv, Nat.reduceMod, List.getElem?_cons_zero, List.getElem?_cons_succ, if_true, and_true, true_and] at f1 f2 f3 f4 f5
    have fe1 : nv β 1 = 1 := by omega
    have fe2 : nv β 2 = 9 := by omega
    have fe3 : nv β 3 = 0 := by omega
    try simp only [fe1, fe2, fe3, Int.reduceToNat] at f2 f3 f4 f5
    have s0 : nv β 0 = nv α1 0 := nv_le H1.1 (by omega)
    have s1 : nv β 1 = nv α1 1 := nv_le H1.1 (by omega)
    have s2 : nv β 2 = nv α1 2 := nv_le H1.1 (by omega)
    obtain ⟨c0, c1⟩ := f2
    refine hd_retI G (v := 3) (by decide +kernel) (as_backM H1 (by decide +kernel) hxa hf) _ (List.mem_cons_self) rfl (by decide +kernel) (by decide) (fun w hw => ?_)
    rcases List.mem_singleton.mp hw with rfl
    have g0' := (en_nv (i := 0) H0.2.1 rfl).1
    refine ⟨_, _, g0', g0', ?_⟩
    rw [wd_fl2, if_neg (by decide)]
    show nv β 3 = b2i (1 ≤ nv xs 0 ∧ nv xs 0 ≤ 9)
    have x0 : nv β 0 = nv xs 0 := by omega
    unfold b2i
    split <;> omega
  · obtain ⟨f1, f2, f3, f4, f5⟩ := as_fx H1
    simp only [kh_in5_b0_2, fx_env, fx_c, fx_ne, fx_hf, wl_S, Nat.zero_add, Nat.reduceAdd, Nat.reduceDiv, Nat.reduceMod, List.getElem?_cons_zero, List.getElem?_cons_succ, if_true, and_true, true_and] at f1 f2 f3 f4 f5
    have fe1 : nv β 1 = 1 := by omega
    have fe2 : nv β 2 = 9 := by omega
    have fe3 : nv β 3 = 1 := by omega
    try simp only [fe1, fe2, fe3, Int.reduceToNat] at f2 f3 f4 f5
    have s0 : nv β 0 = nv α1 0 := nv_le H1.1 (by omega)
    have s1 : nv β 1 = nv α1 1 := nv_le H1.1 (by omega)
    have s2 : nv β 2 = nv α1 2 := nv_le H1.1 (by omega)
    obtain ⟨c0, c1⟩ := f2
    refine hd_retI G (v := 3) (by decide +kernel) (as_backM H1 (by decide +kernel) hxa hf) _ (List.mem_cons_of_mem _ List.mem_cons_self) rfl (by decide +kernel) (by decide) (fun w hw => ?_)
    rcases List.mem_singleton.mp hw with rfl
    have g0' := (en_nv (i := 0) H0.2.1 rfl).1
    refine ⟨_, _, g0', g0', ?_⟩
    rw [wd_fl2, if_neg (by decide)]
    show nv β 3 = b2i (1 ≤ nv xs 0 ∧ nv xs 0 ≤ 9)
    have x0 : nv β 0 = nv xs 0 := by omega
    unfold b2i
    split <;> omega)
abbrev kh_in6_y : mt_T := (⟨"UtilityWorksModel", "in", "(III)Z"⟩, prog_14_method_5_code, 3, some .boolean, 12, 0, 3, 32192, 32191, 0, 21014)
def kh_in6 : ct_T := (353, [(0, (-2147483648), 2147483647, 1), (0, 1, 1, 0), (0, 60, 60, 0)], [], [], [(1, (0, 0, 0, 0), [(0, (-2147483648), 2147483647, 1), (0, 1, 1, 0), (0, 60, 60, 0)], [], ([], [(46, 0, 0)])), (1, (0, 1, 1, 0), [(0, 1, 60, 1), (0, 1, 1, 0), (0, 60, 60, 0)], [], ([], [(46, 0, 0)]))], [], 0, 0, 0)
def kh_in6_b0_0 : sg_T := (15, 0, ([((0, (-2147483648), 0, 1), none), ((0, 1, 1, 0), none), ((0, 60, 60, 0), none), ((0, 0, 0, 0), none)], [(0, 0), (1, 1), (2, 2)], [3], [], [], [(100000, 0, 1)], [], [], some []))
def kh_in6_b0_1 : sg_T := (15, 0, ([((0, 61, 2147483647, 1), none), ((0, 1, 1, 0), none), ((0, 60, 60, 0), none), ((0, 0, 0, 0), none)], [(0, 0), (1, 1), (2, 2)], [3], [], [], [(100000, 2, 0), (200000, 1, 0)], [], [], some []))
def kh_in6_b0_2 : sg_T := (15, 0, ([((0, 1, 60, 1), none), ((0, 1, 1, 0), none), ((0, 60, 60, 0), none), ((0, 1, 1, 0), none)], [(0, 0), (1, 1), (2, 2)], [3], [], [], [(200000, 0, 2), (200000, 1, 0)], [], [], some []))
set_option maxHeartbeats 16000000 in
set_option maxRecDepth 8000 in
theorem kh_in6_ok : ct_ok wd_fl2 kh_in6 := ct_hand (ff := wd_ff2) (y := kh_in6_y) (Cs := []) wd_fl2_ok rfl (List.forall_mem_nil _) (by decide +kernel) (fun l D tc ad kd N sm xs S p e s m args below meth c sz lv G H0 => by
  have hx : xs.length = 3 := by rw [H0.2.1.1]; rfl
  obtain ⟨α1, hle, Hr⟩ := as_recM (pl := []) [] (by decide +kernel) H0
  have hf := H0.2.2.2.2.2.2.2.2.2.2.1
  have hl1 : α1.length = 3 := by rw [Hr.2.1.1]; rfl
  have hl0 : xs.length = 3 := by rw [H0.2.1.1]; rfl
  have hxa : al_le xs α1 := H0.1.trans hle
  obtain ⟨g1, -, g3, g4, -⟩ := as_fx Hr
  have g0 : ((-2147483648) ≤ nv α1 0 ∧ nv α1 0 ≤ 2147483647) ∧ (1 ≤ nv α1 1 ∧ nv α1 1 ≤ 1) ∧ (60 ≤ nv α1 2 ∧ nv α1 2 ≤ 60) ∧ True := by
    refine ⟨by have h := (en_nv (i := 0) Hr.2.1 rfl).2; exact h, by have h := (en_nv (i := 1) Hr.2.1 rfl).2; exact h, by have h := (en_nv (i := 2) Hr.2.1 rfl).2; exact h, trivial⟩
  have r0 : nv α1 0 = nv xs 0 := nv_le hle (by omega)
  have r1 : nv α1 1 = nv xs 1 := nv_le hle (by omega)
  have r2 : nv α1 2 = nv xs 2 := nv_le hle (by omega)
  refine hd_segM G (na := 3) (fuel := 600) (first := true) (Bs := [kh_in6_b0_0, kh_in6_b0_1, kh_in6_b0_2]) (by decide +kernel) hl1 Hr ?_
  intro q hq β lv' st' S' H1
  simp only [List.mem_cons, List.not_mem_nil, or_false] at hq
  rcases hq with rfl | rfl | rfl
  · obtain ⟨f1, f2, f3, f4, f5⟩ := as_fx H1
    simp only [kh_in6_b0_0, fx_env, fx_c, fx_ne, fx_hf, wl_S, Nat.zero_add, Nat.reduceAdd, Nat.reduceDiv, Nat.reduceMod, List.getElem?_cons_zero, List.getElem?_cons_succ, if_true, and_true, true_and] at f1 f2 f3 f4 f5
    have fe1 : nv β 1 = 1 := by omega
    have fe2 : nv β 2 = 60 := by omega
    have fe3 : nv β 3 = 0 := by omega
    try simp only [fe1, fe2, fe3, Int.reduceToNat] at f2 f3 f4 f5
    have s0 : nv β 0 = nv α1 0 := nv_le H1.1 (by omega)
    have s1 : nv β 1 = nv α1 1 := nv_le H1.1 (by omega)
    have s2 : nv β 2 = nv α1 2 := nv_le H1.1 (by omega)
    have c0 := f2
    refine hd_retI G (v := 3) (by decide +kernel) (as_backM H1 (by decide +kernel) hxa hf) _ (List.mem_cons_self) rfl (by decide +kernel) (by decide) (fun w hw => ?_)
    rcases List.mem_singleton.mp hw with rfl
    have g0' := (en_nv (i := 0) H0.2.1 rfl).1
    refine ⟨_, _, g0', g0', ?_⟩
    rw [wd_fl2, if_neg (by decide)]
    show nv β 3 = b2i (1 ≤ nv xs 0 ∧ nv xs 0 ≤ 60)
    have x0 : nv β 0 = nv xs 0 := by omega
    unfold b2i
    split <;> omega
  · obtain ⟨f1, f2, f3, f4, f5⟩ := as_fx H1
    simp only [kh_in6_b0_1, fx_env, fx_c, fx_ne, fx_hf, wl_S, Nat.zero_add, Nat.reduceAdd, Nat.reduceDiv, Nat.reduceMod, List.getElem?_cons_zero, List.getElem?_cons_succ, if_true, and_true, true_and] at f1 f2 f3 f4 f5
    have fe1 : nv β 1 = 1 := by omega
    have fe2 : nv β 2 = 60 := by omega
    have fe3 : nv β 3 = 0 := by omega
    try simp only [fe1, fe2, fe3, Int.reduceToNat] at f2 f3 f4 f5
    have s0 : nv β 0 = nv α1 0 := nv_le H1.1 (by omega)
    have s1 : nv β 1 = nv α1 1 := nv_le H1.1 (by omega)
    have s2 : nv β 2 = nv α1 2 := nv_le H1.1 (by omega)
    obtain ⟨c0, c1⟩ := f2
    refine hd_retI G (v := 3) (by decide +kernel) (as_backM H1 (by decide +kernel) hxa hf) _ (List.mem_cons_self) rfl (by decide +kernel) (by decide) (fun w hw => ?_)
    rcases List.mem_singleton.mp hw with rfl
    have g0' := (en_nv (i := 0) H0.2.1 rfl).1
    refine ⟨_, _, g0', g0', ?_⟩
    rw [wd_fl2, if_neg (by decide)]
    show nv β 3 = b2i (1 ≤ nv xs 0 ∧ nv xs 0 ≤ 60)
    have x0 : nv β 0 = nv xs 0 := by omega
    unfold b2i
    split <;> omega
  · obtain ⟨f1, f2, f3, f4, f5⟩ := as_fx H1
    simp only [kh_in6_b0_2, fx_env, fx_c, fx_ne, fx_hf, wl_S, Nat.zero_add, Nat.reduceAdd, Nat.reduceDiv, Nat.reduceMod, List.getElem?_cons_zero, List.getElem?_cons_succ, if_true, and_true, true_and] at f1 f2 f3 f4 f5
    have fe1 : nv β 1 = 1 := by omega
    have fe2 : nv β 2 = 60 := by omega
    have fe3 : nv β 3 = 1 := by omega
    try simp only [fe1, fe2, fe3, Int.reduceToNat] at f2 f3 f4 f5
    have s0 : nv β 0 = nv α1 0 := nv_le H1.1 (by omega)
    have s1 : nv β 1 = nv α1 1 := nv_le H1.1 (by omega)
    have s2 : nv β 2 = nv α1 2 := nv_le H1.1 (by omega)
    obtain ⟨c0, c1⟩ := f2
    refine hd_retI G (v := 3) (by decide +kernel) (as_backM H1 (by decide +kernel) hxa hf) _ (List.mem_cons_of_mem _ List.mem_cons_self) rfl (by decide +kernel) (by decide) (fun w hw => ?_)
    rcases List.mem_singleton.mp hw with rfl
    have g0' := (en_nv (i := 0) H0.2.1 rfl).1
    refine ⟨_, _, g0', g0', ?_⟩
    rw [wd_fl2, if_neg (by decide)]
    show nv β 3 = b2i (1 ≤ nv xs 0 ∧ nv xs 0 ≤ 60)
    have x0 : nv β 0 = nv xs 0 := by omega
    unfold b2i
    split <;> omega)
