/-! places of crews and jobs, one kind each -/
abbrev kh_cJ0_y : mt_T := (⟨"UtilityWorksModel", "cJ", "(II)I"⟩, prog_14_method_267_code, 2, some .int, 12, 0, 2, 33112, 33111, 0, 21014)
def kh_cJ0 : ct_T := (394, [(0, 0, 199, 1), (0, 0, 0, 0)], [], [], [(1, (0, 2450, 4042, 8), [(0, 0, 199, 1), (0, 0, 0, 0)], [], ([], [(12, 0, 1)]))], [], 0, 0, 0)
def kh_cJ0_b0_0 : sg_T := (10, 0, ([((0, 0, 199, 1), none), ((0, 0, 0, 0), none), ((0, 2450, 2450, 0), none), ((0, 8, 8, 0), none), ((0, 0, 1592, 8), none), ((0, 2450, 4042, 8), none), ((0, 2450, 4042, 8), some (5, 0))], [(0, 0), (1, 1)], [6], [], [], [(500006, 5, 1), (500005, 2, 4), (700004, 3, 0)], [], [], some []))
set_option maxHeartbeats 16000000 in
set_option maxRecDepth 8000 in
theorem kh_cJ0_ok : ct_ok wd_fl2 kh_cJ0 := ct_hand (ff := wd_ff2) (y := kh_cJ0_y) (Cs := []) wd_fl2_ok rfl (List.forall_mem_nil _) (by decide +kernel) (fun l D tc ad kd N sm xs S p e s m args below meth c sz lv G H0 => by
  have hx : xs.length = 2 := by rw [H0.2.1.1]; rfl
  obtain ⟨α1, hle, Hr⟩ := as_recM (pl := []) [] (by decide +kernel) H0
  have hf := H0.2.2.2.2.2.2.2.2.2.2.1
  have hl1 : α1.length = 2 := by rw [Hr.2.1.1]; rfl
  have hl0 : xs.length = 2 := by rw [H0.2.1.1]; rfl
  have hxa : al_le xs α1 := H0.1.trans hle
  obtain ⟨g1, -, g3, g4, -⟩ := as_fx Hr
  have g0 : (0 ≤ nv α1 0 ∧ nv α1 0 ≤ 199) ∧ (0 ≤ nv α1 1 ∧ nv α1 1 ≤ 0) ∧ True := by
    refine ⟨by have h := (en_nv (i := 0) Hr.2.1 rfl).2; exact h, by have h := (en_nv (i := 1) Hr.2.1 rfl).2; exact h, trivial⟩
  have r0 : nv α1 0 = nv xs 0 := nv_le hle (by omega)
  have r1 : nv α1 1 = nv xs 1 := nv_le hle (by omega)
  refine hd_segM G (na := 2) (fuel := 600) (first := true) (Bs := [kh_cJ0_b0_0]) (by decide +kernel) hl1 Hr ?_
  intro q hq β lv' st' S' H1
  simp only [List.mem_cons, List.not_mem_nil, or_false] at hq
  rcases hq with rfl
  · obtain ⟨f1, f2, f3, f4, f5⟩ := as_fx H1
    simp only [kh_cJ0_b0_0, fx_env, fx_c, fx_ne, fx_hf, wl_S, Nat.zero_add, Nat.reduceAdd, Nat.reduceDiv, Nat.reduceMod, List.getElem?_cons_zero, List.getElem?_cons_succ, if_true, and_true, true_and] at f1 f2 f3 f4 f5
    have fe1 : nv β 1 = 0 := by omega
    have fe2 : nv β 2 = 2450 := by omega
    have fe3 : nv β 3 = 8 := by omega
    try simp only [fe1, fe2, fe3, Int.reduceToNat] at f2 f3 f4 f5
    have s0 : nv β 0 = nv α1 0 := nv_le H1.1 (by omega)
    have s1 : nv β 1 = nv α1 1 := nv_le H1.1 (by omega)
    obtain ⟨c0, c1, c2⟩ := f2
    refine hd_retI G (v := 6) (by decide +kernel) (as_backM H1 (by decide +kernel) hxa hf) _ List.mem_cons_self rfl (by decide +kernel) (by decide) (fun w hw => ?_)
    rcases List.mem_singleton.mp hw with rfl
    have g0' := (en_nv (i := 0) H0.2.1 rfl).1
    have g1' := (en_nv (i := 1) H0.2.1 rfl).1
    refine ⟨_, _, g0', g1', ?_⟩
    refine fl2_o (by decide) (fl1_o (by decide) ?_)
    show nv β 6 = 2450 + 8 * nv xs 0 + nv xs 1
    omega)
abbrev kh_cJ1_y : mt_T := (⟨"UtilityWorksModel", "cJ", "(II)I"⟩, prog_14_method_267_code, 2, some .int, 12, 0, 2, 33112, 33111, 0, 21014)
def kh_cJ1 : ct_T := (394, [(0, 0, 199, 1), (0, 1, 1, 0)], [], [], [(1, (0, 2451, 4043, 8), [(0, 0, 199, 1), (0, 1, 1, 0)], [], ([], [(12, 0, 1)]))], [], 0, 0, 0)
def kh_cJ1_b0_0 : sg_T := (10, 0, ([((0, 0, 199, 1), none), ((0, 1, 1, 0), none), ((0, 2450, 2450, 0), none), ((0, 8, 8, 0), none), ((0, 0, 1592, 8), none), ((0, 2450, 4042, 8), none), ((0, 2451, 4043, 8), some (5, 1))], [(0, 0), (1, 1)], [6], [], [], [(500006, 5, 1), (500005, 2, 4), (700004, 3, 0)], [], [], some []))
set_option maxHeartbeats 16000000 in
set_option maxRecDepth 8000 in
theorem kh_cJ1_ok : ct_ok wd_fl2 kh_cJ1 := ct_hand (ff := wd_ff2) (y := kh_cJ1_y) (Cs := []) wd_fl2_ok rfl (List.forall_mem_nil _) (by decide +kernel) (fun l D tc ad kd N sm xs S p e s m args below meth c sz lv G H0 => by
  have hx : xs.length = 2 := by rw [H0.2.1.1]; rfl
  obtain ⟨α1, hle, Hr⟩ := as_recM (pl := []) [] (by decide +kernel) H0
  have hf := H0.2.2.2.2.2.2.2.2.2.2.1
  have hl1 : α1.length = 2 := by rw [Hr.2.1.1]; rfl
  have hl0 : xs.length = 2 := by rw [H0.2.1.1]; rfl
  have hxa : al_le xs α1 := H0.1.trans hle
  obtain ⟨g1, -, g3, g4, -⟩ := as_fx Hr
  have g0 : (0 ≤ nv α1 0 ∧ nv α1 0 ≤ 199) ∧ (1 ≤ nv α1 1 ∧ nv α1 1 ≤ 1) ∧ True := by
    refine ⟨by have h := (en_nv (i := 0) Hr.2.1 rfl).2; exact h, by have h := (en_nv (i := 1) Hr.2.1 rfl).2; exact h, trivial⟩
  have r0 : nv α1 0 = nv xs 0 := nv_le hle (by omega)
  have r1 : nv α1 1 = nv xs 1 := nv_le hle (by omega)
  refine hd_segM G (na := 2) (fuel := 600) (first := true) (Bs := [kh_cJ1_b0_0]) (by decide +kernel) hl1 Hr ?_
  intro q hq β lv' st' S' H1
  simp only [List.mem_cons, List.not_mem_nil, or_false] at hq
  rcases hq with rfl
  · obtain ⟨f1, f2, f3, f4, f5⟩ := as_fx H1
    simp only [kh_cJ1_b0_0, fx_env, fx_c, fx_ne, fx_hf, wl_S, Nat.zero_add, Nat.reduceAdd, Nat.reduceDiv, Nat.reduceMod, List.getElem?_cons_zero, List.getElem?_cons_succ, if_true, and_true, true_and] at f1 f2 f3 f4 f5
    have fe1 : nv β 1 = 1 := by omega
    have fe2 : nv β 2 = 2450 := by omega
    have fe3 : nv β 3 = 8 := by omega
    try simp only [fe1, fe2, fe3, Int.reduceToNat] at f2 f3 f4 f5
    have s0 : nv β 0 = nv α1 0 := nv_le H1.1 (by omega)
    have s1 : nv β 1 = nv α1 1 := nv_le H1.1 (by omega)
    obtain ⟨c0, c1, c2⟩ := f2
    refine hd_retI G (v := 6) (by decide +kernel) (as_backM H1 (by decide +kernel) hxa hf) _ List.mem_cons_self rfl (by decide +kernel) (by decide) (fun w hw => ?_)
    rcases List.mem_singleton.mp hw with rfl
    have g0' := (en_nv (i := 0) H0.2.1 rfl).1
    have g1' := (en_nv (i := 1) H0.2.1 rfl).1
    refine ⟨_, _, g0', g1', ?_⟩
    refine fl2_o (by decide) (fl1_o (by decide) ?_)
    show nv β 6 = 2450 + 8 * nv xs 0 + nv xs 1
    omega)
abbrev kh_cJ2_y : mt_T := (⟨"UtilityWorksModel", "cJ", "(II)I"⟩, prog_14_method_267_code, 2, some .int, 12, 0, 2, 33112, 33111, 0, 21014)
def kh_cJ2 : ct_T := (394, [(0, 0, 199, 1), (0, 2, 2, 0)], [], [], [(1, (0, 2452, 4044, 8), [(0, 0, 199, 1), (0, 2, 2, 0)], [], ([], [(12, 0, 1)]))], [], 0, 0, 0)
def kh_cJ2_b0_0 : sg_T := (10, 0, ([((0, 0, 199, 1), none), ((0, 2, 2, 0), none), ((0, 2450, 2450, 0), none), ((0, 8, 8, 0), none), ((0, 0, 1592, 8), none), ((0, 2450, 4042, 8), none), ((0, 2452, 4044, 8), some (5, 2))], [(0, 0), (1, 1)], [6], [], [], [(500006, 5, 1), (500005, 2, 4), (700004, 3, 0)], [], [], some []))
set_option maxHeartbeats 16000000 in
set_option maxRecDepth 8000 in
theorem kh_cJ2_ok : ct_ok wd_fl2 kh_cJ2 := ct_hand (ff := wd_ff2) (y := kh_cJ2_y) (Cs := []) wd_fl2_ok rfl (List.forall_mem_nil _) (by decide +kernel) (fun l D tc ad kd N sm xs S p e s m args below meth c sz lv G H0 => by
  have hx : xs.length = 2 := by rw [H0.2.1.1]; rfl
  obtain ⟨α1, hle, Hr⟩ := as_recM (pl := []) [] (by decide +kernel) H0
  have hf := H0.2.2.2.2.2.2.2.2.2.2.1
  have hl1 : α1.length = 2 := by rw [Hr.2.1.1]; rfl
  have hl0 : xs.length = 2 := by rw [H0.2.1.1]; rfl
  have hxa : al_le xs α1 := H0.1.trans hle
  obtain ⟨g1, -, g3, g4, -⟩ := as_fx Hr
  have g0 : (0 ≤ nv α1 0 ∧ nv α1 0 ≤ 199) ∧ (2 ≤ nv α1 1 ∧ nv α1 1 ≤ 2) ∧ True := by
    refine ⟨by have h := (en_nv (i := 0) Hr.2.1 rfl).2; exact h, by have h := (en_nv (i := 1) Hr.2.1 rfl).2; exact h, trivial⟩
  have r0 : nv α1 0 = nv xs 0 := nv_le hle (by omega)
  have r1 : nv α1 1 = nv xs 1 := nv_le hle (by omega)
  refine hd_segM G (na := 2) (fuel := 600) (first := true) (Bs := [kh_cJ2_b0_0]) (by decide +kernel) hl1 Hr ?_
  intro q hq β lv' st' S' H1
  simp only [List.mem_cons, List.not_mem_nil, or_false] at hq
  rcases hq with rfl
  · obtain ⟨f1, f2, f3, f4, f5⟩ := as_fx H1
    simp only [kh_cJ2_b0_0, fx_env, fx_c, fx_ne, fx_hf, wl_S, Nat.zero_add, Nat.reduceAdd, Nat.reduceDiv, Nat.reduceMod, List.getElem?_cons_zero, List.getElem?_cons_succ, if_true, and_true, true_and] at f1 f2 f3 f4 f5
    have fe1 : nv β 1 = 2 := by omega
    have fe2 : nv β 2 = 2450 := by omega
    have fe3 : nv β 3 = 8 := by omega
    try simp only [fe1, fe2, fe3, Int.reduceToNat] at f2 f3 f4 f5
    have s0 : nv β 0 = nv α1 0 := nv_le H1.1 (by omega)
    have s1 : nv β 1 = nv α1 1 := nv_le H1.1 (by omega)
    obtain ⟨c0, c1, c2⟩ := f2
    refine hd_retI G (v := 6) (by decide +kernel) (as_backM H1 (by decide +kernel) hxa hf) _ List.mem_cons_self rfl (by decide +kernel) (by decide) (fun w hw => ?_)
    rcases List.mem_singleton.mp hw with rfl
    have g0' := (en_nv (i := 0) H0.2.1 rfl).1
    have g1' := (en_nv (i := 1) H0.2.1 rfl).1
    refine ⟨_, _, g0', g1', ?_⟩
    refine fl2_o (by decide) (fl1_o (by decide) ?_)
    show nv β 6 = 2450 + 8 * nv xs 0 + nv xs 1
    omega)
abbrev kh_cJ3_y : mt_T := (⟨"UtilityWorksModel", "cJ", "(II)I"⟩, prog_14_method_267_code, 2, some .int, 12, 0, 2, 33112, 33111, 0, 21014)
def kh_cJ3 : ct_T := (394, [(0, 0, 199, 1), (0, 3, 3, 0)], [], [], [(1, (0, 2453, 4045, 8), [(0, 0, 199, 1), (0, 3, 3, 0)], [], ([], [(12, 0, 1)]))], [], 0, 0, 0)
def kh_cJ3_b0_0 : sg_T := (10, 0, ([((0, 0, 199, 1), none), ((0, 3, 3, 0), none), ((0, 2450, 2450, 0), none), ((0, 8, 8, 0), none), ((0, 0, 1592, 8), none), ((0, 2450, 4042, 8), none), ((0, 2453, 4045, 8), some (5, 3))], [(0, 0), (1, 1)], [6], [], [], [(500006, 5, 1), (500005, 2, 4), (700004, 3, 0)], [], [], some []))
set_option maxHeartbeats 16000000 in
set_option maxRecDepth 8000 in
theorem kh_cJ3_ok : ct_ok wd_fl2 kh_cJ3 := ct_hand (ff := wd_ff2) (y := kh_cJ3_y) (Cs := []) wd_fl2_ok rfl (List.forall_mem_nil _) (by decide +kernel) (fun l D tc ad kd N sm xs S p e s m args below meth c sz lv G H0 => by
  have hx : xs.length = 2 := by rw [H0.2.1.1]; rfl
  obtain ⟨α1, hle, Hr⟩ := as_recM (pl := []) [] (by decide +kernel) H0
  have hf := H0.2.2.2.2.2.2.2.2.2.2.1
  have hl1 : α1.length = 2 := by rw [Hr.2.1.1]; rfl
  have hl0 : xs.length = 2 := by rw [H0.2.1.1]; rfl
  have hxa : al_le xs α1 := H0.1.trans hle
  obtain ⟨g1, -, g3, g4, -⟩ := as_fx Hr
  have g0 : (0 ≤ nv α1 0 ∧ nv α1 0 ≤ 199) ∧ (3 ≤ nv α1 1 ∧ nv α1 1 ≤ 3) ∧ True := by
    refine ⟨by have h := (en_nv (i := 0) Hr.2.1 rfl).2; exact h, by have h := (en_nv (i := 1) Hr.2.1 rfl).2; exact h, trivial⟩
  have r0 : nv α1 0 = nv xs 0 := nv_le hle (by omega)
  have r1 : nv α1 1 = nv xs 1 := nv_le hle (by omega)
  refine hd_segM G (na := 2) (fuel := 600) (first := true) (Bs := [kh_cJ3_b0_0]) (by decide +kernel) hl1 Hr ?_
  intro q hq β lv' st' S' H1
  simp only [List.mem_cons, List.not_mem_nil, or_false] at hq
  rcases hq with rfl
  · obtain ⟨f1, f2, f3, f4, f5⟩ := as_fx H1
    simp only [kh_cJ3_b0_0, fx_env, fx_c, fx_ne, fx_hf, wl_S, Nat.zero_add, Nat.reduceAdd, Nat.reduceDiv, Nat.reduceMod, List.getElem?_cons_zero, List.getElem?_cons_succ, if_true, and_true, true_and] at f1 f2 f3 f4 f5
    have fe1 : nv β 1 = 3 := by omega
    have fe2 : nv β 2 = 2450 := by omega
    have fe3 : nv β 3 = 8 := by omega
    try simp only [fe1, fe2, fe3, Int.reduceToNat] at f2 f3 f4 f5
    have s0 : nv β 0 = nv α1 0 := nv_le H1.1 (by omega)
    have s1 : nv β 1 = nv α1 1 := nv_le H1.1 (by omega)
    obtain ⟨c0, c1, c2⟩ := f2
    refine hd_retI G (v := 6) (by decide +kernel) (as_backM H1 (by decide +kernel) hxa hf) _ List.mem_cons_self rfl (by decide +kernel) (by decide) (fun w hw => ?_)
    rcases List.mem_singleton.mp hw with rfl
    have g0' := (en_nv (i := 0) H0.2.1 rfl).1
    have g1' := (en_nv (i := 1) H0.2.1 rfl).1
    refine ⟨_, _, g0', g1', ?_⟩
    refine fl2_o (by decide) (fl1_o (by decide) ?_)
    show nv β 6 = 2450 + 8 * nv xs 0 + nv xs 1
    omega)
abbrev kh_cJ4_y : mt_T := (⟨"UtilityWorksModel", "cJ", "(II)I"⟩, prog_14_method_267_code, 2, some .int, 12, 0, 2, 33112, 33111, 0, 21014)
def kh_cJ4 : ct_T := (394, [(0, 0, 199, 1), (0, 4, 4, 0)], [], [], [(1, (0, 2454, 4046, 8), [(0, 0, 199, 1), (0, 4, 4, 0)], [], ([], [(12, 0, 1)]))], [], 0, 0, 0)
def kh_cJ4_b0_0 : sg_T := (10, 0, ([((0, 0, 199, 1), none), ((0, 4, 4, 0), none), ((0, 2450, 2450, 0), none), ((0, 8, 8, 0), none), ((0, 0, 1592, 8), none), ((0, 2450, 4042, 8), none), ((0, 2454, 4046, 8), some (5, 4))], [(0, 0), (1, 1)], [6], [], [], [(500006, 5, 1), (500005, 2, 4), (700004, 3, 0)], [], [], some []))
set_option maxHeartbeats 16000000 in
set_option maxRecDepth 8000 in
theorem kh_cJ4_ok : ct_ok wd_fl2 kh_cJ4 := ct_hand (ff := wd_ff2) (y := kh_cJ4_y) (Cs := []) wd_fl2_ok rfl (List.forall_mem_nil _) (by decide +kernel) (fun l D tc ad kd N sm xs S p e s m args below meth c sz lv G H0 => by
  have hx : xs.length = 2 := by rw [H0.2.1.1]; rfl
  obtain ⟨α1, hle, Hr⟩ := as_recM (pl := []) [] (by decide +kernel) H0
  have hf := H0.2.2.2.2.2.2.2.2.2.2.1
  have hl1 : α1.length = 2 := by rw [Hr.2.1.1]; rfl
  have hl0 : xs.length = 2 := by rw [H0.2.1.1]; rfl
  have hxa : al_le xs α1 := H0.1.trans hle
  obtain ⟨g1, -, g3, g4, -⟩ := as_fx Hr
  have g0 : (0 ≤ nv α1 0 ∧ nv α1 0 ≤ 199) ∧ (4 ≤ nv α1 1 ∧ nv α1 1 ≤ 4) ∧ True := by
    refine ⟨by have h := (en_nv (i := 0) Hr.2.1 rfl).2; exact h, by have h := (en_nv (i := 1) Hr.2.1 rfl).2; exact h, trivial⟩
  have r0 : nv α1 0 = nv xs 0 := nv_le hle (by omega)
  have r1 : nv α1 1 = nv xs 1 := nv_le hle (by omega)
  refine hd_segM G (na := 2) (fuel := 600) (first := true) (Bs := [kh_cJ4_b0_0]) (by decide +kernel) hl1 Hr ?_
  intro q hq β lv' st' S' H1
  simp only [List.mem_cons, List.not_mem_nil, or_false] at hq
  rcases hq with rfl
  · obtain ⟨f1, f2, f3, f4, f5⟩ := as_fx H1
    simp only [kh_cJ4_b0_0, fx_env, fx_c, fx_ne, fx_hf, wl_S, Nat.zero_add, Nat.reduceAdd, Nat.reduceDiv, Nat.reduceMod, List.getElem?_cons_zero, List.getElem?_cons_succ, if_true, and_true, true_and] at f1 f2 f3 f4 f5
    have fe1 : nv β 1 = 4 := by omega
    have fe2 : nv β 2 = 2450 := by omega
    have fe3 : nv β 3 = 8 := by omega
    try simp only [fe1, fe2, fe3, Int.reduceToNat] at f2 f3 f4 f5
    have s0 : nv β 0 = nv α1 0 := nv_le H1.1 (by omega)
    have s1 : nv β 1 = nv α1 1 := nv_le H1.1 (by omega)
    obtain ⟨c0, c1, c2⟩ := f2
    refine hd_retI G (v := 6) (by decide +kernel) (as_backM H1 (by decide +kernel) hxa hf) _ List.mem_cons_self rfl (by decide +kernel) (by decide) (fun w hw => ?_)
    rcases List.mem_singleton.mp hw with rfl
    have g0' := (en_nv (i := 0) H0.2.1 rfl).1
    have g1' := (en_nv (i := 1) H0.2.1 rfl).1
    refine ⟨_, _, g0', g1', ?_⟩
    refine fl2_o (by decide) (fl1_o (by decide) ?_)
    show nv β 6 = 2450 + 8 * nv xs 0 + nv xs 1
    omega)
abbrev kh_cJ5_y : mt_T := (⟨"UtilityWorksModel", "cJ", "(II)I"⟩, prog_14_method_267_code, 2, some .int, 12, 0, 2, 33112, 33111, 0, 21014)
def kh_cJ5 : ct_T := (394, [(0, 0, 199, 1), (0, 5, 5, 0)], [], [], [(1, (0, 2455, 4047, 8), [(0, 0, 199, 1), (0, 5, 5, 0)], [], ([], [(12, 0, 1)]))], [], 0, 0, 0)
def kh_cJ5_b0_0 : sg_T := (10, 0, ([((0, 0, 199, 1), none), ((0, 5, 5, 0), none), ((0, 2450, 2450, 0), none), ((0, 8, 8, 0), none), ((0, 0, 1592, 8), none), ((0, 2450, 4042, 8), none), ((0, 2455, 4047, 8), some (5, 5))], [(0, 0), (1, 1)], [6], [], [], [(500006, 5, 1), (500005, 2, 4), (700004, 3, 0)], [], [], some []))
set_option maxHeartbeats 16000000 in
set_option maxRecDepth 8000 in
theorem kh_cJ5_ok : ct_ok wd_fl2 kh_cJ5 := ct_hand (ff := wd_ff2) (y := kh_cJ5_y) (Cs := []) wd_fl2_ok rfl (List.forall_mem_nil _) (by decide +kernel) (fun l D tc ad kd N sm xs S p e s m args below meth c sz lv G H0 => by
  have hx : xs.length = 2 := by rw [H0.2.1.1]; rfl
  obtain ⟨α1, hle, Hr⟩ := as_recM (pl := []) [] (by decide +kernel) H0
  have hf := H0.2.2.2.2.2.2.2.2.2.2.1
  have hl1 : α1.length = 2 := by rw [Hr.2.1.1]; rfl
  have hl0 : xs.length = 2 := by rw [H0.2.1.1]; rfl
  have hxa : al_le xs α1 := H0.1.trans hle
  obtain ⟨g1, -, g3, g4, -⟩ := as_fx Hr
  have g0 : (0 ≤ nv α1 0 ∧ nv α1 0 ≤ 199) ∧ (5 ≤ nv α1 1 ∧ nv α1 1 ≤ 5) ∧ True := by
    refine ⟨by have h := (en_nv (i := 0) Hr.2.1 rfl).2; exact h, by have h := (en_nv (i := 1) Hr.2.1 rfl).2; exact h, trivial⟩
  have r0 : nv α1 0 = nv xs 0 := nv_le hle (by omega)
  have r1 : nv α1 1 = nv xs 1 := nv_le hle (by omega)
  refine hd_segM G (na := 2) (fuel := 600) (first := true) (Bs := [kh_cJ5_b0_0]) (by decide +kernel) hl1 Hr ?_
  intro q hq β lv' st' S' H1
  simp only [List.mem_cons, List.not_mem_nil, or_false] at hq
  rcases hq with rfl
  · obtain ⟨f1, f2, f3, f4, f5⟩ := as_fx H1
    simp only [kh_cJ5_b0_0, fx_env, fx_c, fx_ne, fx_hf, wl_S, Nat.zero_add, Nat.reduceAdd, Nat.reduceDiv, Nat.reduceMod, List.getElem?_cons_zero, List.getElem?_cons_succ, if_true, and_true, true_and] at f1 f2 f3 f4 f5
    have fe1 : nv β 1 = 5 := by omega
    have fe2 : nv β 2 = 2450 := by omega
    have fe3 : nv β 3 = 8 := by omega
    try simp only [fe1, fe2, fe3, Int.reduceToNat] at f2 f3 f4 f5
    have s0 : nv β 0 = nv α1 0 := nv_le H1.1 (by omega)
    have s1 : nv β 1 = nv α1 1 := nv_le H1.1 (by omega)
    obtain ⟨c0, c1, c2⟩ := f2
    refine hd_retI G (v := 6) (by decide +kernel) (as_backM H1 (by decide +kernel) hxa hf) _ List.mem_cons_self rfl (by decide +kernel) (by decide) (fun w hw => ?_)
    rcases List.mem_singleton.mp hw with rfl
    have g0' := (en_nv (i := 0) H0.2.1 rfl).1
    have g1' := (en_nv (i := 1) H0.2.1 rfl).1
    refine ⟨_, _, g0', g1', ?_⟩
    refine fl2_o (by decide) (fl1_o (by decide) ?_)
    show nv β 6 = 2450 + 8 * nv xs 0 + nv xs 1
    omega)
abbrev kh_cC0_y : mt_T := (⟨"UtilityWorksModel", "cC", "(II)I"⟩, prog_14_method_266_code, 2, some .int, 12, 0, 2, 31195, 31194, 0, 21014)
def kh_cC0 : ct_T := (345, [(0, 0, 3, 1), (0, 0, 0, 0)], [], [], [(1, (0, 2401, 2425, 8), [(0, 0, 3, 1), (0, 0, 0, 0)], [], ([], [(13, 0, 1)]))], [], 0, 0, 0)
def kh_cC0_b0_0 : sg_T := (10, 0, ([((0, 0, 3, 1), none), ((0, 0, 0, 0), none), ((0, 2401, 2401, 0), none), ((0, 8, 8, 0), none), ((0, 0, 24, 8), none), ((0, 2401, 2425, 8), none), ((0, 2401, 2425, 8), some (5, 0))], [(0, 0), (1, 1)], [6], [], [], [(500006, 5, 1), (500005, 2, 4), (700004, 3, 0)], [], [], some []))
set_option maxHeartbeats 16000000 in
set_option maxRecDepth 8000 in
theorem kh_cC0_ok : ct_ok wd_fl2 kh_cC0 := ct_hand (ff := wd_ff2) (y := kh_cC0_y) (Cs := []) wd_fl2_ok rfl (List.forall_mem_nil _) (by decide +kernel) (fun l D tc ad kd N sm xs S p e s m args below meth c sz lv G H0 => by
  have hx : xs.length = 2 := by rw [H0.2.1.1]; rfl
  obtain ⟨α1, hle, Hr⟩ := as_recM (pl := []) [] (by decide +kernel) H0
  have hf := H0.2.2.2.2.2.2.2.2.2.2.1
  have hl1 : α1.length = 2 := by rw [Hr.2.1.1]; rfl
  have hl0 : xs.length = 2 := by rw [H0.2.1.1]; rfl
  have hxa : al_le xs α1 := H0.1.trans hle
  obtain ⟨g1, -, g3, g4, -⟩ := as_fx Hr
  have g0 : (0 ≤ nv α1 0 ∧ nv α1 0 ≤ 3) ∧ (0 ≤ nv α1 1 ∧ nv α1 1 ≤ 0) ∧ True := by
    refine ⟨by have h := (en_nv (i := 0) Hr.2.1 rfl).2; exact h, by have h := (en_nv (i := 1) Hr.2.1 rfl).2; exact h, trivial⟩
  have r0 : nv α1 0 = nv xs 0 := nv_le hle (by omega)
  have r1 : nv α1 1 = nv xs 1 := nv_le hle (by omega)
  refine hd_segM G (na := 2) (fuel := 600) (first := true) (Bs := [kh_cC0_b0_0]) (by decide +kernel) hl1 Hr ?_
  intro q hq β lv' st' S' H1
  simp only [List.mem_cons, List.not_mem_nil, or_false] at hq
  rcases hq with rfl
  · obtain ⟨f1, f2, f3, f4, f5⟩ := as_fx H1
    simp only [kh_cC0_b0_0, fx_env, fx_c, fx_ne, fx_hf, wl_S, Nat.zero_add, Nat.reduceAdd, Nat.reduceDiv, Nat.reduceMod, List.getElem?_cons_zero, List.getElem?_cons_succ, if_true, and_true, true_and] at f1 f2 f3 f4 f5
    have fe1 : nv β 1 = 0 := by omega
    have fe2 : nv β 2 = 2401 := by omega
    have fe3 : nv β 3 = 8 := by omega
    try simp only [fe1, fe2, fe3, Int.reduceToNat] at f2 f3 f4 f5
    have s0 : nv β 0 = nv α1 0 := nv_le H1.1 (by omega)
    have s1 : nv β 1 = nv α1 1 := nv_le H1.1 (by omega)
    obtain ⟨c0, c1, c2⟩ := f2
    refine hd_retI G (v := 6) (by decide +kernel) (as_backM H1 (by decide +kernel) hxa hf) _ List.mem_cons_self rfl (by decide +kernel) (by decide) (fun w hw => ?_)
    rcases List.mem_singleton.mp hw with rfl
    have g0' := (en_nv (i := 0) H0.2.1 rfl).1
    have g1' := (en_nv (i := 1) H0.2.1 rfl).1
    refine ⟨_, _, g0', g1', ?_⟩
    refine fl2_o (by decide) (fl1_o (by decide) ?_)
    show nv β 6 = 2401 + 8 * nv xs 0 + nv xs 1
    omega)
abbrev kh_cC1_y : mt_T := (⟨"UtilityWorksModel", "cC", "(II)I"⟩, prog_14_method_266_code, 2, some .int, 12, 0, 2, 31195, 31194, 0, 21014)
def kh_cC1 : ct_T := (345, [(0, 0, 3, 1), (0, 1, 1, 0)], [], [], [(1, (0, 2402, 2426, 8), [(0, 0, 3, 1), (0, 1, 1, 0)], [], ([], [(13, 0, 1)]))], [], 0, 0, 0)
def kh_cC1_b0_0 : sg_T := (10, 0, ([((0, 0, 3, 1), none), ((0, 1, 1, 0), none), ((0, 2401, 2401, 0), none), ((0, 8, 8, 0), none), ((0, 0, 24, 8), none), ((0, 2401, 2425, 8), none), ((0, 2402, 2426, 8), some (5, 1))], [(0, 0), (1, 1)], [6], [], [], [(500006, 5, 1), (500005, 2, 4), (700004, 3, 0)], [], [], some []))
set_option maxHeartbeats 16000000 in
set_option maxRecDepth 8000 in
theorem kh_cC1_ok : ct_ok wd_fl2 kh_cC1 := ct_hand (ff := wd_ff2) (y := kh_cC1_y) (Cs := []) wd_fl2_ok rfl (List.forall_mem_nil _) (by decide +kernel) (fun l D tc ad kd N sm xs S p e s m args below meth c sz lv G H0 => by
  have hx : xs.length = 2 := by rw [H0.2.1.1]; rfl
  obtain ⟨α1, hle, Hr⟩ := as_recM (pl := []) [] (by decide +kernel) H0
  have hf := H0.2.2.2.2.2.2.2.2.2.2.1
  have hl1 : α1.length = 2 := by rw [Hr.2.1.1]; rfl
  have hl0 : xs.length = 2 := by rw [H0.2.1.1]; rfl
  have hxa : al_le xs α1 := H0.1.trans hle
  obtain ⟨g1, -, g3, g4, -⟩ := as_fx Hr
  have g0 : (0 ≤ nv α1 0 ∧ nv α1 0 ≤ 3) ∧ (1 ≤ nv α1 1 ∧ nv α1 1 ≤ 1) ∧ True := by
    refine ⟨by have h := (en_nv (i := 0) Hr.2.1 rfl).2; exact h, by have h := (en_nv (i := 1) Hr.2.1 rfl).2; exact h, trivial⟩
  have r0 : nv α1 0 = nv xs 0 := nv_le hle (by omega)
  have r1 : nv α1 1 = nv xs 1 := nv_le hle (by omega)
  refine hd_segM G (na := 2) (fuel := 600) (first := true) (Bs := [kh_cC1_b0_0]) (by decide +kernel) hl1 Hr ?_
  intro q hq β lv' st' S' H1
  simp only [List.mem_cons, List.not_mem_nil, or_false] at hq
  rcases hq with rfl
  · obtain ⟨f1, f2, f3, f4, f5⟩ := as_fx H1
    simp only [kh_cC1_b0_0, fx_env, fx_c, fx_ne, fx_hf, wl_S, Nat.zero_add, Nat.reduceAdd, Nat.reduceDiv, Nat.reduceMod, List.getElem?_cons_zero, List.getElem?_cons_succ, if_true, and_true, true_and] at f1 f2 f3 f4 f5
    have fe1 : nv β 1 = 1 := by omega
    have fe2 : nv β 2 = 2401 := by omega
    have fe3 : nv β 3 = 8 := by omega
    try simp only [fe1, fe2, fe3, Int.reduceToNat] at f2 f3 f4 f5
    have s0 : nv β 0 = nv α1 0 := nv_le H1.1 (by omega)
    have s1 : nv β 1 = nv α1 1 := nv_le H1.1 (by omega)
    obtain ⟨c0, c1, c2⟩ := f2
    refine hd_retI G (v := 6) (by decide +kernel) (as_backM H1 (by decide +kernel) hxa hf) _ List.mem_cons_self rfl (by decide +kernel) (by decide) (fun w hw => ?_)
    rcases List.mem_singleton.mp hw with rfl
    have g0' := (en_nv (i := 0) H0.2.1 rfl).1
    have g1' := (en_nv (i := 1) H0.2.1 rfl).1
    refine ⟨_, _, g0', g1', ?_⟩
    refine fl2_o (by decide) (fl1_o (by decide) ?_)
    show nv β 6 = 2401 + 8 * nv xs 0 + nv xs 1
    omega)
abbrev kh_cC2_y : mt_T := (⟨"UtilityWorksModel", "cC", "(II)I"⟩, prog_14_method_266_code, 2, some .int, 12, 0, 2, 31195, 31194, 0, 21014)
def kh_cC2 : ct_T := (345, [(0, 0, 3, 1), (0, 2, 2, 0)], [], [], [(1, (0, 2403, 2427, 8), [(0, 0, 3, 1), (0, 2, 2, 0)], [], ([], [(13, 0, 1)]))], [], 0, 0, 0)
def kh_cC2_b0_0 : sg_T := (10, 0, ([((0, 0, 3, 1), none), ((0, 2, 2, 0), none), ((0, 2401, 2401, 0), none), ((0, 8, 8, 0), none), ((0, 0, 24, 8), none), ((0, 2401, 2425, 8), none), ((0, 2403, 2427, 8), some (5, 2))], [(0, 0), (1, 1)], [6], [], [], [(500006, 5, 1), (500005, 2, 4), (700004, 3, 0)], [], [], some []))
set_option maxHeartbeats 16000000 in
set_option maxRecDepth 8000 in
theorem kh_cC2_ok : ct_ok wd_fl2 kh_cC2 := ct_hand (ff := wd_ff2) (y := kh_cC2_y) (Cs := []) wd_fl2_ok rfl (List.forall_mem_nil _) (by decide +kernel) (fun l D tc ad kd N sm xs S p e s m args below meth c sz lv G H0 => by
  have hx : xs.length = 2 := by rw [H0.2.1.1]; rfl
  obtain ⟨α1, hle, Hr⟩ := as_recM (pl := []) [] (by decide +kernel) H0
  have hf := H0.2.2.2.2.2.2.2.2.2.2.1
  have hl1 : α1.length = 2 := by rw [Hr.2.1.1]; rfl
  have hl0 : xs.length = 2 := by rw [H0.2.1.1]; rfl
  have hxa : al_le xs α1 := H0.1.trans hle
  obtain ⟨g1, -, g3, g4, -⟩ := as_fx Hr
  have g0 : (0 ≤ nv α1 0 ∧ nv α1 0 ≤ 3) ∧ (2 ≤ nv α1 1 ∧ nv α1 1 ≤ 2) ∧ True := by
    refine ⟨by have h := (en_nv (i := 0) Hr.2.1 rfl).2; exact h, by have h := (en_nv (i := 1) Hr.2.1 rfl).2; exact h, trivial⟩
  have r0 : nv α1 0 = nv xs 0 := nv_le hle (by omega)
  have r1 : nv α1 1 = nv xs 1 := nv_le hle (by omega)
  refine hd_segM G (na := 2) (fuel := 600) (first := true) (Bs := [kh_cC2_b0_0]) (by decide +kernel) hl1 Hr ?_
  intro q hq β lv' st' S' H1
  simp only [List.mem_cons, List.not_mem_nil, or_false] at hq
  rcases hq with rfl
  · obtain ⟨f1, f2, f3, f4, f5⟩ := as_fx H1
    simp only [kh_cC2_b0_0, fx_env, fx_c, fx_ne, fx_hf, wl_S, Nat.zero_add, Nat.reduceAdd, Nat.reduceDiv, Nat.reduceMod, List.getElem?_cons_zero, List.getElem?_cons_succ, if_true, and_true, true_and] at f1 f2 f3 f4 f5
    have fe1 : nv β 1 = 2 := by omega
    have fe2 : nv β 2 = 2401 := by omega
    have fe3 : nv β 3 = 8 := by omega
    try simp only [fe1, fe2, fe3, Int.reduceToNat] at f2 f3 f4 f5
    have s0 : nv β 0 = nv α1 0 := nv_le H1.1 (by omega)
    have s1 : nv β 1 = nv α1 1 := nv_le H1.1 (by omega)
    obtain ⟨c0, c1, c2⟩ := f2
    refine hd_retI G (v := 6) (by decide +kernel) (as_backM H1 (by decide +kernel) hxa hf) _ List.mem_cons_self rfl (by decide +kernel) (by decide) (fun w hw => ?_)
    rcases List.mem_singleton.mp hw with rfl
    have g0' := (en_nv (i := 0) H0.2.1 rfl).1
    have g1' := (en_nv (i := 1) H0.2.1 rfl).1
    refine ⟨_, _, g0', g1', ?_⟩
    refine fl2_o (by decide) (fl1_o (by decide) ?_)
    show nv β 6 = 2401 + 8 * nv xs 0 + nv xs 1
    omega)
abbrev kh_cC3_y : mt_T := (⟨"UtilityWorksModel", "cC", "(II)I"⟩, prog_14_method_266_code, 2, some .int, 12, 0, 2, 31195, 31194, 0, 21014)
def kh_cC3 : ct_T := (345, [(0, 0, 3, 1), (0, 3, 3, 0)], [], [], [(1, (0, 2404, 2428, 8), [(0, 0, 3, 1), (0, 3, 3, 0)], [], ([], [(13, 0, 1)]))], [], 0, 0, 0)
def kh_cC3_b0_0 : sg_T := (10, 0, ([((0, 0, 3, 1), none), ((0, 3, 3, 0), none), ((0, 2401, 2401, 0), none), ((0, 8, 8, 0), none), ((0, 0, 24, 8), none), ((0, 2401, 2425, 8), none), ((0, 2404, 2428, 8), some (5, 3))], [(0, 0), (1, 1)], [6], [], [], [(500006, 5, 1), (500005, 2, 4), (700004, 3, 0)], [], [], some []))
set_option maxHeartbeats 16000000 in
set_option maxRecDepth 8000 in
theorem kh_cC3_ok : ct_ok wd_fl2 kh_cC3 := ct_hand (ff := wd_ff2) (y := kh_cC3_y) (Cs := []) wd_fl2_ok rfl (List.forall_mem_nil _) (by decide +kernel) (fun l D tc ad kd N sm xs S p e s m args below meth c sz lv G H0 => by
  have hx : xs.length = 2 := by rw [H0.2.1.1]; rfl
  obtain ⟨α1, hle, Hr⟩ := as_recM (pl := []) [] (by decide +kernel) H0
  have hf := H0.2.2.2.2.2.2.2.2.2.2.1
  have hl1 : α1.length = 2 := by rw [Hr.2.1.1]; rfl
  have hl0 : xs.length = 2 := by rw [H0.2.1.1]; rfl
  have hxa : al_le xs α1 := H0.1.trans hle
  obtain ⟨g1, -, g3, g4, -⟩ := as_fx Hr
  have g0 : (0 ≤ nv α1 0 ∧ nv α1 0 ≤ 3) ∧ (3 ≤ nv α1 1 ∧ nv α1 1 ≤ 3) ∧ True := by
    refine ⟨by have h := (en_nv (i := 0) Hr.2.1 rfl).2; exact h, by have h := (en_nv (i := 1) Hr.2.1 rfl).2; exact h, trivial⟩
  have r0 : nv α1 0 = nv xs 0 := nv_le hle (by omega)
  have r1 : nv α1 1 = nv xs 1 := nv_le hle (by omega)
  refine hd_segM G (na := 2) (fuel := 600) (first := true) (Bs := [kh_cC3_b0_0]) (by decide +kernel) hl1 Hr ?_
  intro q hq β lv' st' S' H1
  simp only [List.mem_cons, List.not_mem_nil, or_false] at hq
  rcases hq with rfl
  · obtain ⟨f1, f2, f3, f4, f5⟩ := as_fx H1
    simp only [kh_cC3_b0_0, fx_env, fx_c, fx_ne, fx_hf, wl_S, Nat.zero_add, Nat.reduceAdd, Nat.reduceDiv, Nat.reduceMod, List.getElem?_cons_zero, List.getElem?_cons_succ, if_true, and_true, true_and] at f1 f2 f3 f4 f5
    have fe1 : nv β 1 = 3 := by omega
    have fe2 : nv β 2 = 2401 := by omega
    have fe3 : nv β 3 = 8 := by omega
    try simp only [fe1, fe2, fe3, Int.reduceToNat] at f2 f3 f4 f5
    have s0 : nv β 0 = nv α1 0 := nv_le H1.1 (by omega)
    have s1 : nv β 1 = nv α1 1 := nv_le H1.1 (by omega)
    obtain ⟨c0, c1, c2⟩ := f2
    refine hd_retI G (v := 6) (by decide +kernel) (as_backM H1 (by decide +kernel) hxa hf) _ List.mem_cons_self rfl (by decide +kernel) (by decide) (fun w hw => ?_)
    rcases List.mem_singleton.mp hw with rfl
    have g0' := (en_nv (i := 0) H0.2.1 rfl).1
    have g1' := (en_nv (i := 1) H0.2.1 rfl).1
    refine ⟨_, _, g0', g1', ?_⟩
    refine fl2_o (by decide) (fl1_o (by decide) ?_)
    show nv β 6 = 2401 + 8 * nv xs 0 + nv xs 1
    omega)
abbrev kh_cC4_y : mt_T := (⟨"UtilityWorksModel", "cC", "(II)I"⟩, prog_14_method_266_code, 2, some .int, 12, 0, 2, 31195, 31194, 0, 21014)
def kh_cC4 : ct_T := (345, [(0, 0, 3, 1), (0, 4, 4, 0)], [], [], [(1, (0, 2405, 2429, 8), [(0, 0, 3, 1), (0, 4, 4, 0)], [], ([], [(13, 0, 1)]))], [], 0, 0, 0)
def kh_cC4_b0_0 : sg_T := (10, 0, ([((0, 0, 3, 1), none), ((0, 4, 4, 0), none), ((0, 2401, 2401, 0), none), ((0, 8, 8, 0), none), ((0, 0, 24, 8), none), ((0, 2401, 2425, 8), none), ((0, 2405, 2429, 8), some (5, 4))], [(0, 0), (1, 1)], [6], [], [], [(500006, 5, 1), (500005, 2, 4), (700004, 3, 0)], [], [], some []))
set_option maxHeartbeats 16000000 in
set_option maxRecDepth 8000 in
theorem kh_cC4_ok : ct_ok wd_fl2 kh_cC4 := ct_hand (ff := wd_ff2) (y := kh_cC4_y) (Cs := []) wd_fl2_ok rfl (List.forall_mem_nil _) (by decide +kernel) (fun l D tc ad kd N sm xs S p e s m args below meth c sz lv G H0 => by
  have hx : xs.length = 2 := by rw [H0.2.1.1]; rfl
  obtain ⟨α1, hle, Hr⟩ := as_recM (pl := []) [] (by decide +kernel) H0
  have hf := H0.2.2.2.2.2.2.2.2.2.2.1
  have hl1 : α1.length = 2 := by rw [Hr.2.1.1]; rfl
  have hl0 : xs.length = 2 := by rw [H0.2.1.1]; rfl
  have hxa : al_le xs α1 := H0.1.trans hle
  obtain ⟨g1, -, g3, g4, -⟩ := as_fx Hr
  have g0 : (0 ≤ nv α1 0 ∧ nv α1 0 ≤ 3) ∧ (4 ≤ nv α1 1 ∧ nv α1 1 ≤ 4) ∧ True := by
    refine ⟨by have h := (en_nv (i := 0) Hr.2.1 rfl).2; exact h, by have h := (en_nv (i := 1) Hr.2.1 rfl).2; exact h, trivial⟩
  have r0 : nv α1 0 = nv xs 0 := nv_le hle (by omega)
  have r1 : nv α1 1 = nv xs 1 := nv_le hle (by omega)
  refine hd_segM G (na := 2) (fuel := 600) (first := true) (Bs := [kh_cC4_b0_0]) (by decide +kernel) hl1 Hr ?_
  intro q hq β lv' st' S' H1
  simp only [List.mem_cons, List.not_mem_nil, or_false] at hq
  rcases hq with rfl
  · obtain ⟨f1, f2, f3, f4, f5⟩ := as_fx H1
    simp only [kh_cC4_b0_0, fx_env, fx_c, fx_ne, fx_hf, wl_S, Nat.zero_add, Nat.reduceAdd, Nat.reduceDiv, Nat.reduceMod, List.getElem?_cons_zero, List.getElem?_cons_succ, if_true, and_true, true_and] at f1 f2 f3 f4 f5
    have fe1 : nv β 1 = 4 := by omega
    have fe2 : nv β 2 = 2401 := by omega
    have fe3 : nv β 3 = 8 := by omega
    try simp only [fe1, fe2, fe3, Int.reduceToNat] at f2 f3 f4 f5
    have s0 : nv β 0 = nv α1 0 := nv_le H1.1 (by omega)
    have s1 : nv β 1 = nv α1 1 := nv_le H1.1 (by omega)
    obtain ⟨c0, c1, c2⟩ := f2
    refine hd_retI G (v := 6) (by decide +kernel) (as_backM H1 (by decide +kernel) hxa hf) _ List.mem_cons_self rfl (by decide +kernel) (by decide) (fun w hw => ?_)
    rcases List.mem_singleton.mp hw with rfl
    have g0' := (en_nv (i := 0) H0.2.1 rfl).1
    have g1' := (en_nv (i := 1) H0.2.1 rfl).1
    refine ⟨_, _, g0', g1', ?_⟩
    refine fl2_o (by decide) (fl1_o (by decide) ?_)
    show nv β 6 = 2401 + 8 * nv xs 0 + nv xs 1
    omega)
abbrev kh_cC5_y : mt_T := (⟨"UtilityWorksModel", "cC", "(II)I"⟩, prog_14_method_266_code, 2, some .int, 12, 0, 2, 31195, 31194, 0, 21014)
def kh_cC5 : ct_T := (345, [(0, 0, 3, 1), (0, 5, 5, 0)], [], [], [(1, (0, 2406, 2430, 8), [(0, 0, 3, 1), (0, 5, 5, 0)], [], ([], [(13, 0, 1)]))], [], 0, 0, 0)
def kh_cC5_b0_0 : sg_T := (10, 0, ([((0, 0, 3, 1), none), ((0, 5, 5, 0), none), ((0, 2401, 2401, 0), none), ((0, 8, 8, 0), none), ((0, 0, 24, 8), none), ((0, 2401, 2425, 8), none), ((0, 2406, 2430, 8), some (5, 5))], [(0, 0), (1, 1)], [6], [], [], [(500006, 5, 1), (500005, 2, 4), (700004, 3, 0)], [], [], some []))
set_option maxHeartbeats 16000000 in
set_option maxRecDepth 8000 in
theorem kh_cC5_ok : ct_ok wd_fl2 kh_cC5 := ct_hand (ff := wd_ff2) (y := kh_cC5_y) (Cs := []) wd_fl2_ok rfl (List.forall_mem_nil _) (by decide +kernel) (fun l D tc ad kd N sm xs S p e s m args below meth c sz lv G H0 => by
  have hx : xs.length = 2 := by rw [H0.2.1.1]; rfl
  obtain ⟨α1, hle, Hr⟩ := as_recM (pl := []) [] (by decide +kernel) H0
  have hf := H0.2.2.2.2.2.2.2.2.2.2.1
  have hl1 : α1.length = 2 := by rw [Hr.2.1.1]; rfl
  have hl0 : xs.length = 2 := by rw [H0.2.1.1]; rfl
  have hxa : al_le xs α1 := H0.1.trans hle
  obtain ⟨g1, -, g3, g4, -⟩ := as_fx Hr
  have g0 : (0 ≤ nv α1 0 ∧ nv α1 0 ≤ 3) ∧ (5 ≤ nv α1 1 ∧ nv α1 1 ≤ 5) ∧ True := by
    refine ⟨by have h := (en_nv (i := 0) Hr.2.1 rfl).2; exact h, by have h := (en_nv (i := 1) Hr.2.1 rfl).2; exact h, trivial⟩
  have r0 : nv α1 0 = nv xs 0 := nv_le hle (by omega)
  have r1 : nv α1 1 = nv xs 1 := nv_le hle (by omega)
  refine hd_segM G (na := 2) (fuel := 600) (first := true) (Bs := [kh_cC5_b0_0]) (by decide +kernel) hl1 Hr ?_
  intro q hq β lv' st' S' H1
  simp only [List.mem_cons, List.not_mem_nil, or_false] at hq
  rcases hq with rfl
  · obtain ⟨f1, f2, f3, f4, f5⟩ := as_fx H1
    simp only [kh_cC5_b0_0, fx_env, fx_c, fx_ne, fx_hf, wl_S, Nat.zero_add, Nat.reduceAdd, Nat.reduceDiv, Nat.reduceMod, List.getElem?_cons_zero, List.getElem?_cons_succ, if_true, and_true, true_and] at f1 f2 f3 f4 f5
    have fe1 : nv β 1 = 5 := by omega
    have fe2 : nv β 2 = 2401 := by omega
    have fe3 : nv β 3 = 8 := by omega
    try simp only [fe1, fe2, fe3, Int.reduceToNat] at f2 f3 f4 f5
    have s0 : nv β 0 = nv α1 0 := nv_le H1.1 (by omega)
    have s1 : nv β 1 = nv α1 1 := nv_le H1.1 (by omega)
    obtain ⟨c0, c1, c2⟩ := f2
    refine hd_retI G (v := 6) (by decide +kernel) (as_backM H1 (by decide +kernel) hxa hf) _ List.mem_cons_self rfl (by decide +kernel) (by decide) (fun w hw => ?_)
    rcases List.mem_singleton.mp hw with rfl
    have g0' := (en_nv (i := 0) H0.2.1 rfl).1
    have g1' := (en_nv (i := 1) H0.2.1 rfl).1
    refine ⟨_, _, g0', g1', ?_⟩
    refine fl2_o (by decide) (fl1_o (by decide) ?_)
    show nv β 6 = 2401 + 8 * nv xs 0 + nv xs 1
    omega)
abbrev kh_cC6_y : mt_T := (⟨"UtilityWorksModel", "cC", "(II)I"⟩, prog_14_method_266_code, 2, some .int, 12, 0, 2, 31195, 31194, 0, 21014)
def kh_cC6 : ct_T := (345, [(0, 0, 3, 1), (0, 6, 6, 0)], [], [], [(1, (0, 2407, 2431, 8), [(0, 0, 3, 1), (0, 6, 6, 0)], [], ([], [(13, 0, 1)]))], [], 0, 0, 0)
def kh_cC6_b0_0 : sg_T := (10, 0, ([((0, 0, 3, 1), none), ((0, 6, 6, 0), none), ((0, 2401, 2401, 0), none), ((0, 8, 8, 0), none), ((0, 0, 24, 8), none), ((0, 2401, 2425, 8), none), ((0, 2407, 2431, 8), some (5, 6))], [(0, 0), (1, 1)], [6], [], [], [(500006, 5, 1), (500005, 2, 4), (700004, 3, 0)], [], [], some []))
set_option maxHeartbeats 16000000 in
set_option maxRecDepth 8000 in
theorem kh_cC6_ok : ct_ok wd_fl2 kh_cC6 := ct_hand (ff := wd_ff2) (y := kh_cC6_y) (Cs := []) wd_fl2_ok rfl (List.forall_mem_nil _) (by decide +kernel) (fun l D tc ad kd N sm xs S p e s m args below meth c sz lv G H0 => by
  have hx : xs.length = 2 := by rw [H0.2.1.1]; rfl
  obtain ⟨α1, hle, Hr⟩ := as_recM (pl := []) [] (by decide +kernel) H0
  have hf := H0.2.2.2.2.2.2.2.2.2.2.1
  have hl1 : α1.length = 2 := by rw [Hr.2.1.1]; rfl
  have hl0 : xs.length = 2 := by rw [H0.2.1.1]; rfl
  have hxa : al_le xs α1 := H0.1.trans hle
  obtain ⟨g1, -, g3, g4, -⟩ := as_fx Hr
  have g0 : (0 ≤ nv α1 0 ∧ nv α1 0 ≤ 3) ∧ (6 ≤ nv α1 1 ∧ nv α1 1 ≤ 6) ∧ True := by
    refine ⟨by have h := (en_nv (i := 0) Hr.2.1 rfl).2; exact h, by have h := (en_nv (i := 1) Hr.2.1 rfl).2; exact h, trivial⟩
  have r0 : nv α1 0 = nv xs 0 := nv_le hle (by omega)
  have r1 : nv α1 1 = nv xs 1 := nv_le hle (by omega)
  refine hd_segM G (na := 2) (fuel := 600) (first := true) (Bs := [kh_cC6_b0_0]) (by decide +kernel) hl1 Hr ?_
  intro q hq β lv' st' S' H1
  simp only [List.mem_cons, List.not_mem_nil, or_false] at hq
  rcases hq with rfl
  · obtain ⟨f1, f2, f3, f4, f5⟩ := as_fx H1
    simp only [kh_cC6_b0_0, fx_env, fx_c, fx_ne, fx_hf, wl_S, Nat.zero_add, Nat.reduceAdd, Nat.reduceDiv, Nat.reduceMod, List.getElem?_cons_zero, List.getElem?_cons_succ, if_true, and_true, true_and] at f1 f2 f3 f4 f5
    have fe1 : nv β 1 = 6 := by omega
    have fe2 : nv β 2 = 2401 := by omega
    have fe3 : nv β 3 = 8 := by omega
    try simp only [fe1, fe2, fe3, Int.reduceToNat] at f2 f3 f4 f5
    have s0 : nv β 0 = nv α1 0 := nv_le H1.1 (by omega)
    have s1 : nv β 1 = nv α1 1 := nv_le H1.1 (by omega)
    obtain ⟨c0, c1, c2⟩ := f2
    refine hd_retI G (v := 6) (by decide +kernel) (as_backM H1 (by decide +kernel) hxa hf) _ List.mem_cons_self rfl (by decide +kernel) (by decide) (fun w hw => ?_)
    rcases List.mem_singleton.mp hw with rfl
    have g0' := (en_nv (i := 0) H0.2.1 rfl).1
    have g1' := (en_nv (i := 1) H0.2.1 rfl).1
    refine ⟨_, _, g0', g1', ?_⟩
    refine fl2_o (by decide) (fl1_o (by decide) ?_)
    show nv β 6 = 2401 + 8 * nv xs 0 + nv xs 1
    omega)
