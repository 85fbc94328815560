/-! ===== farFrom: just what it lays down ===== -/
def fst1 (r : Int) (a b : Nat) (f : Nat → Int) : Nat → Int := fun x => if x = a then (if f b = r ∧ f a = -1 then r + 1 else f a) else f x
def fstep (S : fw_S) (r : Int) (t : Nat) (f : Nat → Int) : Nat → Int := if clP S t then f else fst1 r (highI t).toNat (lowI t).toNat (fst1 r (lowI t).toNat (highI t).toNat f)
def fI (S : fw_S) (to : Int) : Nat → Nat → Int
  | 0 => fun x => if (x : Int) = to then 0 else -1
  | n + 1 => fstep S ((n / 17 : Nat) : Int) (n % 17) (fI S to n)
theorem fI_s {S : fw_S} {to : Int} {R st : Nat} (h : st < 17) : fI S to (17 * R + st + 1) = fstep S R st (fI S to (17 * R + st)) := by
  show fstep S (((17 * R + st) / 17 : Nat) : Int) ((17 * R + st) % 17) _ = _
  rw [show (17 * R + st) / 17 = R by omega, show (17 * R + st) % 17 = st by omega]
def R_farFrom : List av_X → fw_S → fw_O → fw_S → Prop := fun xs S _ S' => (∀ x : Nat, x < 12 → (S'.1 814 x).toInt = fI S (nv xs 1) 204 x) ∧ S'.1 806 = S.1 806
theorem clP_e {S S1 : fw_S} {x : Int} (e6 : S1.1 806 = S.1 806) : clP S1 x ↔ clP S x := by
  unfold clP
  rw [e6]
abbrev kh_isDug_y : mt_T := (⟨"UtilityWorksModel", "isDug", "(I)Z"⟩, prog_14_method_50_code, 2, some .boolean, 12, 1, 1, 33013, 33012, 5012, 21014)
def kh_isDug : ct_T := (369, [(2, 805, 805, 0), (0, 0, 16, 1)], [], [], [(1, (0, 0, 1, 1), [(2, 805, 805, 0), (0, 0, 16, 1)], [], ([], [(1020, 1, 1)]))], [], 0, 0, 0)
def kh_isDug_b0_0 : sg_T := (18, 0, ([((2, 805, 805, 0), none), ((0, 0, 16, 1), none), ((2, 806, 806, 1), none), ((0, 66, 66, 0), none), ((0, 66, 82, 1), none), ((0, (-2147483648), 2147483647, 1), none), ((0, 1, 1, 0), none), ((0, 0, 0, 0), none)], [(0, 0), (1, 1)], [7], [(2, 4, 5)], [(5, 1)], [(400000, 5, 6), (800005, 2, 4), (500004, 3, 1)], [], [], some []))
def kh_isDug_b0_1 : sg_T := (18, 0, ([((2, 805, 805, 0), none), ((0, 0, 16, 1), none), ((2, 806, 806, 1), none), ((0, 66, 66, 0), none), ((0, 66, 82, 1), none), ((0, 1, 1, 1), none), ((0, 1, 1, 0), none), ((0, 1, 1, 0), none)], [(0, 0), (1, 1)], [7], [(2, 4, 5)], [], [(300000, 5, 6), (800005, 2, 4), (500004, 3, 1)], [], [], some []))
theorem kh_isDug_ok : ct_ok wd_fl1 kh_isDug := ct_hand (ff := wd_ff1) (y := kh_isDug_y) (Cs := []) wd_fl1_ok rfl (List.forall_mem_nil _) (by decide +kernel) (fun l D tc ad kd N sm xs S p e s m args below meth c sz lv G H0 => by
  have hx : xs.length = 2 := by rw [H0.2.1.1]; rfl
  obtain ⟨α1, hle, Hr⟩ := as_recM (pl := []) [] (by decide +kernel) H0
  have hf := H0.2.2.2.2.2.2.2.2.2.2.1
  have hl1 : α1.length = 2 := by rw [Hr.2.1.1]; rfl
  have hl0 : xs.length = 2 := by rw [H0.2.1.1]; rfl
  have hxa : al_le xs α1 := H0.1.trans hle
  obtain ⟨g1, -, g3, g4, -⟩ := as_fx Hr
  have g0 : (805 ≤ nv α1 0 ∧ nv α1 0 ≤ 805) ∧ (0 ≤ nv α1 1 ∧ nv α1 1 ≤ 16) ∧ True := by
    refine ⟨by have h := (en_nv (i := 0) Hr.2.1 rfl).2; exact h, by have h := (en_nv (i := 1) Hr.2.1 rfl).2; exact h, trivial⟩
  have r0 : nv α1 0 = nv xs 0 := nv_le hle (by omega)
  have r1 : nv α1 1 = nv xs 1 := nv_le hle (by omega)
  refine hd_segM G (na := 2) (fuel := 600) (first := true) (Bs := [kh_isDug_b0_0, kh_isDug_b0_1]) (by decide +kernel) hl1 Hr ?_
  intro q hq β lv' st' S' H1
  simp only [List.mem_cons, List.not_mem_nil, or_false] at hq
  rcases hq with rfl | rfl
  · obtain ⟨f1, f2, f3, f4, f5⟩ := as_fx H1
    simp only [kh_isDug_b0_0, fx_env, fx_c, fx_ne, fx_hf, wl_S, Nat.zero_add, Nat.reduceAdd, Nat.reduceDiv, Nat.reduceMod, List.getElem?_cons_zero, List.getElem?_cons_succ, if_true, and_true, true_and] at f1 f2 f3 f4 f5
    have fe0 : nv β 0 = 805 := by omega
    have fe2 : nv β 2 = 806 := by omega
    have fe3 : nv β 3 = 66 := by omega
    have fe6 : nv β 6 = 1 := by omega
    have fe7 : nv β 7 = 0 := by omega
    try simp only [fe0, fe2, fe3, fe6, fe7, Int.reduceToNat] at f2 f3 f4 f5
    have s0 : nv β 0 = nv α1 0 := nv_le H1.1 (by omega)
    have s1 : nv β 1 = nv α1 1 := nv_le H1.1 (by omega)
    obtain ⟨c0, c1, c2⟩ := f2
    have o1 := old_0 c1 rfl
    rw [show nv β 4 = 66 + nv xs 1 by omega] at o1
    have hS : S' = S := by subst S'; rfl
    refine hd_retI G (v := 7) (by decide +kernel) (as_backM H1 (by decide +kernel) hxa hf) _ List.mem_cons_self rfl (by decide +kernel) (by decide) (fun w hw => ?_)
    rcases List.mem_singleton.mp hw with rfl
    have g0' := (en_nv (i := 1) H0.2.1 rfl).1
    refine ⟨_, _, g0', g0', ?_⟩
    rw [wd_fl1, if_neg (by decide)]
    show nv β 7 = b2i ((S.1 806 (66 + nv xs 1).toNat).toInt = 1)
    unfold b2i
    split <;> omega
  · obtain ⟨f1, f2, f3, f4, f5⟩ := as_fx H1
    simp only [kh_isDug_b0_1, fx_env, fx_c, fx_ne, fx_hf, wl_S, Nat.zero_add, Nat.reduceAdd, Nat.reduceDiv, Nat.reduceMod, List.getElem?_cons_zero, List.getElem?_cons_succ, if_true, and_true, true_and] at f1 f2 f3 f4 f5
    have fe0 : nv β 0 = 805 := by omega
    have fe2 : nv β 2 = 806 := by omega
    have fe3 : nv β 3 = 66 := by omega
    have fe5 : nv β 5 = 1 := by omega
    have fe6 : nv β 6 = 1 := by omega
    have fe7 : nv β 7 = 1 := by omega
    try simp only [fe0, fe2, fe3, fe5, fe6, fe7, Int.reduceToNat] at f2 f3 f4 f5
    have s0 : nv β 0 = nv α1 0 := nv_le H1.1 (by omega)
    have s1 : nv β 1 = nv α1 1 := nv_le H1.1 (by omega)
    obtain ⟨c0, c1, c2⟩ := f2
    have o1 := old_0 c1 rfl
    rw [show nv β 4 = 66 + nv xs 1 by omega] at o1
    have hS : S' = S := by subst S'; rfl
    refine hd_retI G (v := 7) (by decide +kernel) (as_backM H1 (by decide +kernel) hxa hf) _ List.mem_cons_self rfl (by decide +kernel) (by decide) (fun w hw => ?_)
    rcases List.mem_singleton.mp hw with rfl
    have g0' := (en_nv (i := 1) H0.2.1 rfl).1
    refine ⟨_, _, g0', g0', ?_⟩
    rw [wd_fl1, if_neg (by decide)]
    show nv β 7 = b2i ((S.1 806 (66 + nv xs 1).toNat).toInt = 1)
    unfold b2i
    split <;> omega)
abbrev kh_isClosed_y : mt_T := (⟨"UtilityWorksModel", "isClosed", "(I)Z"⟩, prog_14_method_53_code, 2, some .boolean, 12, 1, 1, 33156, 33155, 7011, 21014)
def kh_isClosed : ct_T := (405, [(2, 805, 805, 0), (0, 0, 16, 1)], [], [], [(1, (0, 0, 1, 1), [(2, 805, 805, 0), (0, 0, 16, 1)], [], ([], [(1015, 1, 1)]))], [], 1, 21, 0)
def kh_isClosed_b0_0 : sg_T := (26, 0, ([((2, 805, 805, 0), none), ((0, 0, 16, 1), none), ((0, 1, 1, 1), none), ((0, 1, 1, 0), none)], [(0, 0), (1, 1)], [3], [], [(2, 0)], [(102000002, 1, 1)], [], [], some []))
def kh_isClosed_b0_1 : sg_T := (26, 0, ([((2, 805, 805, 0), none), ((0, 0, 16, 1), none), ((0, 0, 0, 1), none), ((2, 806, 806, 1), none), ((0, 83, 83, 0), none), ((0, 83, 99, 1), none), ((0, (-2147483648), 2147483647, 1), none), ((0, 1, 1, 0), none), ((0, 0, 0, 0), none)], [(0, 0), (1, 1)], [8], [(3, 5, 6)], [(6, 1)], [(400000, 6, 7), (800006, 3, 5), (500005, 4, 1), (102000002, 1, 1)], [], [], some []))
def kh_isClosed_b0_2 : sg_T := (26, 0, ([((2, 805, 805, 0), none), ((0, 0, 16, 1), none), ((0, 0, 0, 1), none), ((2, 806, 806, 1), none), ((0, 83, 83, 0), none), ((0, 83, 99, 1), none), ((0, 1, 1, 1), none), ((0, 1, 1, 0), none), ((0, 1, 1, 0), none)], [(0, 0), (1, 1)], [8], [(3, 5, 6)], [], [(300000, 6, 7), (800006, 3, 5), (500005, 4, 1), (102000002, 1, 1)], [], [], some []))
theorem kh_isClosed_ok : ct_ok wd_fl1 kh_isClosed := ct_hand (ff := wd_ff1) (y := kh_isClosed_y) (Cs := [kh_isDug]) wd_fl1_ok rfl (List.forall_mem_cons.mpr ⟨kh_isDug_ok, (List.forall_mem_nil _)⟩) (by decide +kernel) (fun l D tc ad kd N sm xs S p e s m args below meth c sz lv G H0 => by
  have hx : xs.length = 2 := by rw [H0.2.1.1]; rfl
  obtain ⟨α1, hle, Hr⟩ := as_recM (pl := []) [] (by decide +kernel) H0
  have hf := H0.2.2.2.2.2.2.2.2.2.2.1
  have hl1 : α1.length = 2 := by rw [Hr.2.1.1]; rfl
  have hl0 : xs.length = 2 := by rw [H0.2.1.1]; rfl
  have hxa : al_le xs α1 := H0.1.trans hle
  obtain ⟨g1, -, g3, g4, -⟩ := as_fx Hr
  have g0 : (805 ≤ nv α1 0 ∧ nv α1 0 ≤ 805) ∧ (0 ≤ nv α1 1 ∧ nv α1 1 ≤ 16) ∧ True := by
    refine ⟨by have h := (en_nv (i := 0) Hr.2.1 rfl).2; exact h, by have h := (en_nv (i := 1) Hr.2.1 rfl).2; exact h, trivial⟩
  have r0 : nv α1 0 = nv xs 0 := nv_le hle (by omega)
  have r1 : nv α1 1 = nv xs 1 := nv_le hle (by omega)
  refine hd_segM G (na := 2) (fuel := 600) (first := true) (Bs := [kh_isClosed_b0_0, kh_isClosed_b0_1, kh_isClosed_b0_2]) (by decide +kernel) hl1 Hr ?_
  intro q hq β lv' st' S' H1
  simp only [List.mem_cons, List.not_mem_nil, or_false] at hq
  rcases hq with rfl | rfl | rfl
  · obtain ⟨f1, f2, f3, f4, f5⟩ := as_fx H1
    simp only [kh_isClosed_b0_0, fx_env, fx_c, fx_ne, fx_hf, wl_S, Nat.zero_add, Nat.reduceAdd, Nat.reduceDiv, Nat.reduceMod, List.getElem?_cons_zero, List.getElem?_cons_succ, if_true, and_true, true_and] at f1 f2 f3 f4 f5
    have fe0 : nv β 0 = 805 := by omega
    have fe2 : nv β 2 = 1 := by omega
    have fe3 : nv β 3 = 1 := by omega
    try simp only [fe0, fe2, fe3, Int.reduceToNat] at f2 f3 f4 f5
    have s0 : nv β 0 = nv α1 0 := nv_le H1.1 (by omega)
    have s1 : nv β 1 = nv α1 1 := nv_le H1.1 (by omega)
    have c0 := f2
    have y1 : nv β 1 = nv xs 1 := by omega
    have d0 := c0
    simp only [wd_fl1, if_neg (show ¬ (wd_base 1020 = true) by decide)] at d0
    have hS : S' = S := by subst S'; rfl
    refine hd_retI G (v := 3) (by decide +kernel) (as_backM H1 (by decide +kernel) hxa hf) _ List.mem_cons_self rfl (by decide +kernel) (by decide) (fun w hw => ?_)
    rcases List.mem_singleton.mp hw with rfl
    have g0' := (en_nv (i := 1) H0.2.1 rfl).1
    refine ⟨_, _, g0', g0', ?_⟩
    rw [wd_fl1, if_neg (by decide)]
    show nv β 3 = b2i (clP S (nv xs 1))
    rw [y1] at d0
    unfold b2i clP at *
    (repeat' split at *) <;> omega
  · obtain ⟨f1, f2, f3, f4, f5⟩ := as_fx H1
    simp only [kh_isClosed_b0_1, fx_env, fx_c, fx_ne, fx_hf, wl_S, Nat.zero_add, Nat.reduceAdd, Nat.reduceDiv, Nat.reduceMod, List.getElem?_cons_zero, List.getElem?_cons_succ, if_true, and_true, true_and] at f1 f2 f3 f4 f5
    have fe0 : nv β 0 = 805 := by omega
    have fe2 : nv β 2 = 0 := by omega
    have fe3 : nv β 3 = 806 := by omega
    have fe4 : nv β 4 = 83 := by omega
    have fe7 : nv β 7 = 1 := by omega
    have fe8 : nv β 8 = 0 := by omega
    try simp only [fe0, fe2, fe3, fe4, fe7, fe8, Int.reduceToNat] at f2 f3 f4 f5
    have s0 : nv β 0 = nv α1 0 := nv_le H1.1 (by omega)
    have s1 : nv β 1 = nv α1 1 := nv_le H1.1 (by omega)
    obtain ⟨c0, c1, c2, c3⟩ := f2
    have y1 : nv β 1 = nv xs 1 := by omega
    have d3 := c3
    simp only [wd_fl1, if_neg (show ¬ (wd_base 1020 = true) by decide)] at d3
    have o1 := old_0 c1 rfl
    rw [show nv β 5 = 83 + nv xs 1 by omega] at o1
    have hS : S' = S := by subst S'; rfl
    refine hd_retI G (v := 8) (by decide +kernel) (as_backM H1 (by decide +kernel) hxa hf) _ List.mem_cons_self rfl (by decide +kernel) (by decide) (fun w hw => ?_)
    rcases List.mem_singleton.mp hw with rfl
    have g0' := (en_nv (i := 1) H0.2.1 rfl).1
    refine ⟨_, _, g0', g0', ?_⟩
    rw [wd_fl1, if_neg (by decide)]
    show nv β 8 = b2i (clP S (nv xs 1))
    rw [y1] at d3
    unfold b2i clP at *
    (repeat' split at *) <;> omega
  · obtain ⟨f1, f2, f3, f4, f5⟩ := as_fx H1
    simp only [kh_isClosed_b0_2, fx_env, fx_c, fx_ne, fx_hf, wl_S, Nat.zero_add, Nat.reduceAdd, Nat.reduceDiv, Nat.reduceMod, List.getElem?_cons_zero, List.getElem?_cons_succ, if_true, and_true, true_and] at f1 f2 f3 f4 f5
    have fe0 : nv β 0 = 805 := by omega
    have fe2 : nv β 2 = 0 := by omega
    have fe3 : nv β 3 = 806 := by omega
    have fe4 : nv β 4 = 83 := by omega
    have fe6 : nv β 6 = 1 := by omega
    have fe7 : nv β 7 = 1 := by omega
    have fe8 : nv β 8 = 1 := by omega
    try simp only [fe0, fe2, fe3, fe4, fe6, fe7, fe8, Int.reduceToNat] at f2 f3 f4 f5
    have s0 : nv β 0 = nv α1 0 := nv_le H1.1 (by omega)
    have s1 : nv β 1 = nv α1 1 := nv_le H1.1 (by omega)
    obtain ⟨c0, c1, c2, c3⟩ := f2
    have y1 : nv β 1 = nv xs 1 := by omega
    have d3 := c3
    simp only [wd_fl1, if_neg (show ¬ (wd_base 1020 = true) by decide)] at d3
    have o1 := old_0 c1 rfl
    rw [show nv β 5 = 83 + nv xs 1 by omega] at o1
    have hS : S' = S := by subst S'; rfl
    refine hd_retI G (v := 8) (by decide +kernel) (as_backM H1 (by decide +kernel) hxa hf) _ List.mem_cons_self rfl (by decide +kernel) (by decide) (fun w hw => ?_)
    rcases List.mem_singleton.mp hw with rfl
    have g0' := (en_nv (i := 1) H0.2.1 rfl).1
    refine ⟨_, _, g0', g0', ?_⟩
    rw [wd_fl1, if_neg (by decide)]
    show nv β 8 = b2i (clP S (nv xs 1))
    rw [y1] at d3
    unfold b2i clP at *
    (repeat' split at *) <;> omega)
abbrev kh_farFrom_y : mt_T := (⟨"UtilityWorksModel", "farFrom", "(I)V"⟩, prog_14_method_69_code, 6, none, 12, 1, 1, 33152, 33151, 7010, 21014)
def kh_farFrom : ct_T := (404, [(2, 805, 805, 0), (0, (-2147483648), 2147483647, 1)], [], [], [(0, (0, 0, 0, 0), [(2, 805, 805, 0), (0, (-2147483648), 2147483647, 1)], [], ([], []))], [((814, 814), (0, 11, 1))], 2, 42, 0)
def kh_farFrom_a2 : an_T := (2, 0, ([((2, 805, 805, 0), none), ((0, (-2147483648), 2147483647, 1), none), ((0, 0, 12, 1), none)], [(0, 0), (1, 1), (2, 2)], [], [], [], [], [], [], none), [])
def kh_farFrom_a32 : an_T := (32, 0, ([((2, 805, 805, 0), none), ((0, (-2147483648), 2147483647, 1), none), ((0, 0, 12, 1), none)], [(0, 0), (1, 1), (2, 2)], [], [], [], [], [], [], none), [])
def kh_farFrom_a40 : an_T := (40, 0, ([((2, 805, 805, 0), none), ((0, (-2147483648), 2147483647, 1), none), ((0, 0, 11, 1), none), ((0, 0, 17, 1), none)], [(0, 0), (1, 1), (2, 2), (3, 3)], [], [], [], [], [], [], none), [])
def kh_farFrom_a108 : an_T := (108, 0, ([((2, 805, 805, 0), none), ((0, (-2147483648), 2147483647, 1), none), ((0, 0, 11, 1), none), ((0, 0, 16, 1), none), ((0, 0, 10, 1), none), ((0, 1, 11, 1), none)], [(0, 0), (1, 1), (2, 2), (3, 3), (4, 4), (5, 5)], [], [], [], [], [], [], none), [])
def kh_farFrom_b0_0 : sg_T := (2, 0, ([((2, 805, 805, 0), none), ((0, (-2147483648), 2147483647, 1), none), ((0, 0, 0, 0), none)], [(2, 2), (0, 0), (1, 1)], [], [], [], [], [], [], some []))
def kh_farFrom_b2_0 : sg_T := (32, 0, ([((2, 805, 805, 0), none), ((0, (-2147483648), 2147483647, 1), none), ((0, 12, 12, 1), none), ((0, 12, 12, 0), none), ((0, 0, 0, 0), none)], [(2, 4), (0, 0), (1, 1)], [], [], [], [(200000, 3, 2)], [], [], some []))
def kh_farFrom_b2_1 : sg_T := (2, 0, ([((2, 805, 805, 0), none), ((0, (-2147483648), 2147483647, 1), none), ((0, 0, 11, 1), none), ((0, 12, 12, 0), none), ((2, 814, 814, 1), none), ((0, (-1), (-1), 0), none), ((0, 1, 12, 1), some (2, 1))], [(2, 6), (0, 0), (1, 1)], [], [(4, 2, 5)], [], [(400000, 2, 1), (100000, 2, 3)], [], [], some [(4, 2, 5)]))
def kh_farFrom_b2_2 : sg_T := (2, 0, ([((2, 805, 805, 0), none), ((0, 0, 11, 1), none), ((0, 0, 11, 1), none), ((0, 12, 12, 0), none), ((2, 814, 814, 1), none), ((0, 0, 0, 0), none), ((0, 1, 12, 1), some (2, 1))], [(2, 6), (0, 0), (1, 1)], [], [(4, 2, 5)], [], [(300000, 2, 1), (100000, 2, 3)], [], [], some [(4, 2, 5)]))
def kh_farFrom_b32_0 : sg_T := (162, 0, ([((2, 805, 805, 0), none), ((0, (-2147483648), 2147483647, 1), none), ((0, 12, 12, 1), none), ((0, 12, 12, 0), none)], [(0, 0), (1, 1), (2, 2)], [], [], [], [(200000, 3, 2)], [], [], some []))
def kh_farFrom_b32_1 : sg_T := (40, 0, ([((2, 805, 805, 0), none), ((0, (-2147483648), 2147483647, 1), none), ((0, 0, 11, 1), none), ((0, 12, 12, 0), none), ((0, 0, 0, 0), none)], [(3, 4), (0, 0), (1, 1), (2, 2)], [], [], [], [(100000, 2, 3)], [], [], some []))
def kh_farFrom_b40_0 : sg_T := (32, 0, ([((2, 805, 805, 0), none), ((0, (-2147483648), 2147483647, 1), none), ((0, 0, 11, 1), none), ((0, 17, 17, 1), none), ((0, 17, 17, 0), none), ((0, 1, 12, 1), some (2, 1))], [(2, 5), (0, 0), (1, 1), (3, 3)], [], [], [], [(200000, 4, 3)], [], [], some []))
def kh_farFrom_b40_1 : sg_T := (40, 0, ([((2, 805, 805, 0), none), ((0, (-2147483648), 2147483647, 1), none), ((0, 0, 11, 1), none), ((0, 0, 16, 1), none), ((0, 17, 17, 0), none), ((0, 0, 10, 1), none), ((0, 1, 11, 1), none), ((0, 1, 1, 1), none), ((0, 1, 17, 1), some (3, 1))], [(3, 8), (5, 6), (4, 5), (0, 0), (1, 1), (2, 2)], [], [], [(7, 0)], [(101500007, 3, 3), (1100006, 3, 3), (1000005, 3, 3), (100000, 3, 4)], [], [], some []))
def kh_farFrom_b40_2 : sg_T := (108, 0, ([((2, 805, 805, 0), none), ((0, (-2147483648), 2147483647, 1), none), ((0, 0, 11, 1), none), ((0, 0, 16, 1), none), ((0, 17, 17, 0), none), ((0, 0, 10, 1), none), ((0, 1, 11, 1), none), ((0, 0, 0, 1), none), ((2, 814, 814, 1), none), ((2, 814, 814, 1), none), ((0, (-1), 12, 1), none), ((2, 814, 814, 1), none), ((0, (-1), 12, 1), none)], [(5, 6), (4, 5), (0, 0), (1, 1), (2, 2), (3, 3)], [], [(8, 5, 12)], [], [(800012, 11, 5), (400000, 10, 2), (800010, 9, 6), (101500007, 3, 3), (1100006, 3, 3), (1000005, 3, 3), (100000, 3, 4)], [], [], some [(8, 5, 12)]))
def kh_farFrom_b40_3 : sg_T := (108, 0, ([((2, 805, 805, 0), none), ((0, (-2147483648), 2147483647, 1), none), ((0, 0, 11, 1), none), ((0, 0, 16, 1), none), ((0, 17, 17, 0), none), ((0, 0, 10, 1), none), ((0, 1, 11, 1), none), ((0, 0, 0, 1), none), ((2, 814, 814, 1), none), ((2, 814, 814, 1), none), ((0, 0, 11, 1), none), ((2, 814, 814, 1), none), ((0, 0, 12, 1), none), ((0, (-1), (-1), 0), none), ((2, 814, 814, 1), none)], [(5, 6), (4, 5), (0, 0), (1, 1), (2, 2), (3, 3)], [], [(8, 5, 12)], [(12, (-1))], [(400000, 12, 13), (800012, 11, 5), (300000, 10, 2), (800010, 9, 6), (101500007, 3, 3), (1100006, 3, 3), (1000005, 3, 3), (100000, 3, 4)], [], [], some [(8, 5, 12)]))
def kh_farFrom_b40_4 : sg_T := (108, 0, ([((2, 805, 805, 0), none), ((0, (-2147483648), 2147483647, 1), none), ((0, 0, 11, 1), none), ((0, 0, 16, 1), none), ((0, 17, 17, 0), none), ((0, 0, 10, 1), none), ((0, 1, 11, 1), none), ((0, 0, 0, 1), none), ((2, 814, 814, 1), none), ((2, 814, 814, 1), none), ((0, 0, 11, 1), none), ((2, 814, 814, 1), none), ((0, (-1), (-1), 1), none), ((0, (-1), (-1), 0), none), ((0, 1, 1, 0), none), ((0, 1, 12, 1), some (2, 1))], [(5, 6), (4, 5), (0, 0), (1, 1), (2, 2), (3, 3)], [], [(8, 5, 15)], [], [(500015, 2, 14), (300000, 12, 13), (800012, 11, 5), (300000, 10, 2), (800010, 9, 6), (101500007, 3, 3), (1100006, 3, 3), (1000005, 3, 3), (100000, 3, 4)], [], [], some [(8, 5, 15)]))
def kh_farFrom_b108_0 : sg_T := (40, 0, ([((2, 805, 805, 0), none), ((0, (-2147483648), 2147483647, 1), none), ((0, 0, 11, 1), none), ((0, 0, 16, 1), none), ((0, 0, 10, 1), none), ((0, 1, 11, 1), none), ((2, 814, 814, 1), none), ((2, 814, 814, 1), none), ((0, (-1), 12, 1), none), ((2, 814, 814, 1), none), ((0, (-1), 12, 1), none), ((0, 1, 17, 1), some (3, 1))], [(3, 11), (0, 0), (1, 1), (2, 2), (4, 4), (5, 5)], [], [(6, 5, 10)], [], [(800010, 9, 5), (400000, 8, 2), (800008, 7, 4)], [], [], some [(6, 5, 10)]))
def kh_farFrom_b108_1 : sg_T := (40, 0, ([((2, 805, 805, 0), none), ((0, (-2147483648), 2147483647, 1), none), ((0, 0, 11, 1), none), ((0, 0, 16, 1), none), ((0, 0, 10, 1), none), ((0, 1, 11, 1), none), ((2, 814, 814, 1), none), ((2, 814, 814, 1), none), ((0, 0, 11, 1), none), ((2, 814, 814, 1), none), ((0, 0, 12, 1), none), ((0, (-1), (-1), 0), none), ((2, 814, 814, 1), none), ((0, 1, 17, 1), some (3, 1))], [(3, 13), (0, 0), (1, 1), (2, 2), (4, 4), (5, 5)], [], [(6, 5, 10)], [(10, (-1))], [(400000, 10, 11), (800010, 9, 5), (300000, 8, 2), (800008, 7, 4)], [], [], some [(6, 5, 10)]))
def kh_farFrom_b108_2 : sg_T := (40, 0, ([((2, 805, 805, 0), none), ((0, (-2147483648), 2147483647, 1), none), ((0, 0, 11, 1), none), ((0, 0, 16, 1), none), ((0, 0, 10, 1), none), ((0, 1, 11, 1), none), ((2, 814, 814, 1), none), ((2, 814, 814, 1), none), ((0, 0, 11, 1), none), ((2, 814, 814, 1), none), ((0, (-1), (-1), 1), none), ((0, (-1), (-1), 0), none), ((0, 1, 1, 0), none), ((0, 1, 12, 1), some (2, 1)), ((0, 1, 17, 1), some (3, 1))], [(3, 14), (0, 0), (1, 1), (2, 2), (4, 4), (5, 5)], [], [(6, 5, 13)], [], [(500013, 2, 12), (300000, 10, 11), (800010, 9, 5), (300000, 8, 2), (800008, 7, 4)], [], [], some [(6, 5, 13)]))
theorem kh_farFrom_okR : ct_okR wd_fl1 kh_farFrom R_farFrom := ct_handR (R := R_farFrom) (ff := wd_ff1) (y := kh_farFrom_y) (Cs := [kh_low, kh_high, kh_isClosed]) wd_fl1_ok rfl (List.forall_mem_cons.mpr ⟨kh_low_l, (List.forall_mem_cons.mpr ⟨kh_high_l, (List.forall_mem_cons.mpr ⟨kh_isClosed_ok, (List.forall_mem_nil _)⟩)⟩)⟩) (by decide +kernel) (fun l D tc ad kd N sm xs S p e s m args below meth c sz lv G H0 => by
  have hx : xs.length = 2 := by rw [H0.2.1.1]; rfl
  have hP : ∀ (k : Nat), (∀ (α : List av_X) (lv : List (Nat × Value)) (st : List Value) (S1 : fw_S), as_in ad sm wd_fl1 xs S kh_farFrom.2.2.2.2.2.1 α kh_farFrom_a2.2.2.1 lv st S1 → (∀ x : Nat, (x : Int) < nv α 2 → x < 12 → (S1.1 814 x).toInt = fI S (nv α 1) 0 x) → 100000 + (12 - nv α 2).toNat < k → hd_WR R_farFrom wd_fl1 kh_farFrom kh_farFrom_y l D tc ad kd N sm xs S p e s m args below meth c sz 2 lv st S1 0) ∧ (∀ (α : List av_X) (lv : List (Nat × Value)) (st : List Value) (S1 : fw_S), as_in ad sm wd_fl1 xs S kh_farFrom.2.2.2.2.2.1 α kh_farFrom_a32.2.2.1 lv st S1 → (0 ≤ nv α 2 ∧ ∀ x : Nat, x < 12 → (S1.1 814 x).toInt = fI S (nv α 1) (17 * (nv α 2).toNat) x) → (12 - nv α 2).toNat * 100 + 50 < k → hd_WR R_farFrom wd_fl1 kh_farFrom kh_farFrom_y l D tc ad kd N sm xs S p e s m args below meth c sz 32 lv st S1 0) ∧ (∀ (α : List av_X) (lv : List (Nat × Value)) (st : List Value) (S1 : fw_S), as_in ad sm wd_fl1 xs S kh_farFrom.2.2.2.2.2.1 α kh_farFrom_a40.2.2.1 lv st S1 → (∀ x : Nat, x < 12 → (S1.1 814 x).toInt = fI S (nv α 1) (17 * (nv α 2).toNat + (nv α 3).toNat) x) → (12 - nv α 2).toNat * 100 + (17 - nv α 3).toNat * 2 + 1 < k → hd_WR R_farFrom wd_fl1 kh_farFrom kh_farFrom_y l D tc ad kd N sm xs S p e s m args below meth c sz 40 lv st S1 0) ∧ (∀ (α : List av_X) (lv : List (Nat × Value)) (st : List Value) (S1 : fw_S), as_in ad sm wd_fl1 xs S kh_farFrom.2.2.2.2.2.1 α kh_farFrom_a108.2.2.1 lv st S1 → (¬ clP S (nv α 3) ∧ nv α 4 = lowI (nv α 3) ∧ nv α 5 = highI (nv α 3) ∧ ∀ x : Nat, x < 12 → (S1.1 814 x).toInt = fst1 (nv α 2) (lowI (nv α 3)).toNat (highI (nv α 3)).toNat (fI S (nv α 1) (17 * (nv α 2).toNat + (nv α 3).toNat)) x) → (12 - nv α 2).toNat * 100 + (17 - nv α 3).toNat * 2 < k → hd_WR R_farFrom wd_fl1 kh_farFrom kh_farFrom_y l D tc ad kd N sm xs S p e s m args below meth c sz 108 lv st S1 0) ∧ True := by
    intro k
    induction k with
    | zero => exact ⟨fun _ _ _ _ _ _ h => absurd h (Nat.not_lt_zero _), fun _ _ _ _ _ _ h => absurd h (Nat.not_lt_zero _), fun _ _ _ _ _ _ h => absurd h (Nat.not_lt_zero _), fun _ _ _ _ _ _ h => absurd h (Nat.not_lt_zero _), trivial⟩
    | succ k ih =>
    refine ⟨?_, ?_, ?_, ?_, trivial⟩
    · intro α lv st S1 H hp hk
      obtain ⟨α1, hle, Hr⟩ := as_recM (pl := []) [((814, 814), (0, 11, 1))] (by decide +kernel) H
      have hf := H.2.2.2.2.2.2.2.2.2.2.1
      have hl1 : α1.length = 3 := by rw [Hr.2.1.1]; rfl
      have hl0 : α.length = 3 := by rw [H.2.1.1]; rfl
      have hxa : al_le xs α1 := H.1.trans hle
      obtain ⟨g1, -, g3, g4, -⟩ := as_fx Hr
      have g0 : (805 ≤ nv α1 0 ∧ nv α1 0 ≤ 805) ∧ ((-2147483648) ≤ nv α1 1 ∧ nv α1 1 ≤ 2147483647) ∧ (0 ≤ nv α1 2 ∧ nv α1 2 ≤ 12) ∧ True := by
        refine ⟨by have h := (en_nv (i := 0) Hr.2.1 rfl).2; exact h, by have h := (en_nv (i := 1) Hr.2.1 rfl).2; exact h, by have h := (en_nv (i := 2) Hr.2.1 rfl).2; exact h, trivial⟩
      have r0 : nv α1 0 = nv α 0 := nv_le hle (by omega)
      have r1 : nv α1 1 = nv α 1 := nv_le hle (by omega)
      have r2 : nv α1 2 = nv α 2 := nv_le hle (by omega)
      refine hd_segMR G (na := 3) (fuel := 600) (first := true) (Bs := [kh_farFrom_b2_0, kh_farFrom_b2_1, kh_farFrom_b2_2]) (by decide +kernel) hl1 Hr ?_
      intro q hq β lv' st' S' H1
      simp only [List.mem_cons, List.not_mem_nil, or_false] at hq
      rcases hq with rfl | rfl | rfl
      · obtain ⟨f1, f2, f3, f4, f5⟩ := as_fx H1
        simp only [kh_farFrom_b2_0, fx_env, fx_c, fx_ne, fx_hf, wl_S, Nat.zero_add, Nat.reduceAdd, Nat.reduceDiv, Nat.reduceMod, List.getElem?_cons_zero, List.getElem?_cons_succ, if_true, and_true, true_and] at f1 f2 f3 f4 f5
        have fe0 : nv β 0 = 805 := by omega
        have fe2 : nv β 2 = 12 := by omega
        have fe3 : nv β 3 = 12 := by omega
        have fe4 : nv β 4 = 0 := by omega
        try simp only [fe0, fe2, fe3, fe4, Int.reduceToNat] at f2 f3 f4 f5
        have s0 : nv β 0 = nv α1 0 := nv_le H1.1 (by omega)
        have s1 : nv β 1 = nv α1 1 := nv_le H1.1 (by omega)
        have s2 : nv β 2 = nv α1 2 := nv_le H1.1 (by omega)
        have c0 := f2
        obtain ⟨α', Ha, hm⟩ := hd_gpM (q := kh_farFrom_a32) (n := 0) (by decide +kernel) hx H1 (by decide +kernel) hxa hf
        have hfr := H1.2.2.2.2.2.2.2.2.2.2.1
        have m0 : nv α' 0 = nv β 0 := hm 0 0 rfl
        have m1 : nv α' 1 = nv β 1 := hm 1 1 rfl
        have m2 : nv α' 2 = nv β 4 := hm 2 4 rfl
        subst S'
        refine ih.2.1 _ _ _ _ Ha ?_ ?_
        · refine ⟨by omega, fun y hy => ?_⟩
          rw [m1, m2, s1, r1, fe4]
          exact hp y (by omega) hy
        · omega
      · obtain ⟨f1, f2, f3, f4, f5⟩ := as_fx H1
        simp only [kh_farFrom_b2_1, fx_env, fx_c, fx_ne, fx_hf, wl_S, Nat.zero_add, Nat.reduceAdd, Nat.reduceDiv, Nat.reduceMod, List.getElem?_cons_zero, List.getElem?_cons_succ, if_true, and_true, true_and] at f1 f2 f3 f4 f5
        have fe0 : nv β 0 = 805 := by omega
        have fe3 : nv β 3 = 12 := by omega
        have fe4 : nv β 4 = 814 := by omega
        have fe5 : nv β 5 = (-1) := by omega
        try simp only [fe0, fe3, fe4, fe5, Int.reduceToNat] at f2 f3 f4 f5
        have s0 : nv β 0 = nv α1 0 := nv_le H1.1 (by omega)
        have s1 : nv β 1 = nv α1 1 := nv_le H1.1 (by omega)
        have s2 : nv β 2 = nv α1 2 := nv_le H1.1 (by omega)
        obtain ⟨c0, c1⟩ := f2
        obtain ⟨α', Ha, hm⟩ := hd_gpM (q := kh_farFrom_a2) (n := 0) (by decide +kernel) hx H1 (by decide +kernel) hxa hf
        have hfr := H1.2.2.2.2.2.2.2.2.2.2.1
        have m0 : nv α' 0 = nv β 0 := hm 0 0 rfl
        have m1 : nv α' 1 = nv β 1 := hm 1 1 rfl
        have m2 : nv α' 2 = nv β 6 := hm 2 6 rfl
        subst S'
        refine ih.1 _ _ _ _ Ha ?_ ?_
        · intro y hy hy2
          rw [m2] at hy
          rw [fw_i_row, m1]
          show _ = (if (y : Int) = nv β 1 then (0 : Int) else -1)
          by_cases e : y = (nv β 2).toNat
          · rw [if_pos e]
            by_cases e2 : (y : Int) = nv β 1
            · rw [if_pos e2]; first | decide | (exfalso; omega)
            · rw [if_neg e2]; first | decide | (exfalso; omega)
          · rw [if_neg e, s1, r1]
            exact hp y (by omega) hy2
        · omega
      · obtain ⟨f1, f2, f3, f4, f5⟩ := as_fx H1
        simp only [kh_farFrom_b2_2, fx_env, fx_c, fx_ne, fx_hf, wl_S, Nat.zero_add, Nat.reduceAdd, Nat.reduceDiv, Nat.reduceMod, List.getElem?_cons_zero, List.getElem?_cons_succ, if_true, and_true, true_and] at f1 f2 f3 f4 f5
        have fe0 : nv β 0 = 805 := by omega
        have fe3 : nv β 3 = 12 := by omega
        have fe4 : nv β 4 = 814 := by omega
        have fe5 : nv β 5 = 0 := by omega
        try simp only [fe0, fe3, fe4, fe5, Int.reduceToNat] at f2 f3 f4 f5
        have s0 : nv β 0 = nv α1 0 := nv_le H1.1 (by omega)
        have s1 : nv β 1 = nv α1 1 := nv_le H1.1 (by omega)
        have s2 : nv β 2 = nv α1 2 := nv_le H1.1 (by omega)
        obtain ⟨c0, c1⟩ := f2
        obtain ⟨α', Ha, hm⟩ := hd_gpM (q := kh_farFrom_a2) (n := 0) (by decide +kernel) hx H1 (by decide +kernel) hxa hf
        have hfr := H1.2.2.2.2.2.2.2.2.2.2.1
        have m0 : nv α' 0 = nv β 0 := hm 0 0 rfl
        have m1 : nv α' 1 = nv β 1 := hm 1 1 rfl
        have m2 : nv α' 2 = nv β 6 := hm 2 6 rfl
        subst S'
        refine ih.1 _ _ _ _ Ha ?_ ?_
        · intro y hy hy2
          rw [m2] at hy
          rw [fw_i_row, m1]
          show _ = (if (y : Int) = nv β 1 then (0 : Int) else -1)
          by_cases e : y = (nv β 2).toNat
          · rw [if_pos e]
            by_cases e2 : (y : Int) = nv β 1
            · rw [if_pos e2]; first | decide | (exfalso; omega)
            · rw [if_neg e2]; first | decide | (exfalso; omega)
          · rw [if_neg e, s1, r1]
            exact hp y (by omega) hy2
        · omega
    · intro α lv st S1 H hp hk
      obtain ⟨α1, hle, Hr⟩ := as_recM (pl := []) [] (by decide +kernel) H
      have hf := H.2.2.2.2.2.2.2.2.2.2.1
      have hl1 : α1.length = 3 := by rw [Hr.2.1.1]; rfl
      have hl0 : α.length = 3 := by rw [H.2.1.1]; rfl
      have hxa : al_le xs α1 := H.1.trans hle
      obtain ⟨g1, -, g3, g4, -⟩ := as_fx Hr
      have g0 : (805 ≤ nv α1 0 ∧ nv α1 0 ≤ 805) ∧ ((-2147483648) ≤ nv α1 1 ∧ nv α1 1 ≤ 2147483647) ∧ (0 ≤ nv α1 2 ∧ nv α1 2 ≤ 12) ∧ True := by
        refine ⟨by have h := (en_nv (i := 0) Hr.2.1 rfl).2; exact h, by have h := (en_nv (i := 1) Hr.2.1 rfl).2; exact h, by have h := (en_nv (i := 2) Hr.2.1 rfl).2; exact h, trivial⟩
      have r0 : nv α1 0 = nv α 0 := nv_le hle (by omega)
      have r1 : nv α1 1 = nv α 1 := nv_le hle (by omega)
      have r2 : nv α1 2 = nv α 2 := nv_le hle (by omega)
      refine hd_segMR G (na := 3) (fuel := 600) (first := true) (Bs := [kh_farFrom_b32_0, kh_farFrom_b32_1]) (by decide +kernel) hl1 Hr ?_
      intro q hq β lv' st' S' H1
      simp only [List.mem_cons, List.not_mem_nil, or_false] at hq
      rcases hq with rfl | rfl
      · obtain ⟨f1, f2, f3, f4, f5⟩ := as_fx H1
        simp only [kh_farFrom_b32_0, fx_env, fx_c, fx_ne, fx_hf, wl_S, Nat.zero_add, Nat.reduceAdd, Nat.reduceDiv, Nat.reduceMod, List.getElem?_cons_zero, List.getElem?_cons_succ, if_true, and_true, true_and] at f1 f2 f3 f4 f5
        have fe0 : nv β 0 = 805 := by omega
        have fe2 : nv β 2 = 12 := by omega
        have fe3 : nv β 3 = 12 := by omega
        try simp only [fe0, fe2, fe3, Int.reduceToNat] at f2 f3 f4 f5
        have s0 : nv β 0 = nv α1 0 := nv_le H1.1 (by omega)
        have s1 : nv β 1 = nv α1 1 := nv_le H1.1 (by omega)
        have s2 : nv β 2 = nv α1 2 := nv_le H1.1 (by omega)
        have c0 := f2
        have z1 : nv α 1 = nv xs 1 := nv_le H.1 (by omega)
        have h2 := hp.2
        rw [z1, show 17 * (nv α 2).toNat = 204 by omega] at h2
        exact hd_retVR G (by decide +kernel) (as_backM H1 (by decide +kernel) hxa hf) (by decide +kernel) (by decide) ⟨by rw [f5]; exact h2, by rw [f5]; exact fr_row hf 806 (by decide +kernel)⟩
      · obtain ⟨f1, f2, f3, f4, f5⟩ := as_fx H1
        simp only [kh_farFrom_b32_1, fx_env, fx_c, fx_ne, fx_hf, wl_S, Nat.zero_add, Nat.reduceAdd, Nat.reduceDiv, Nat.reduceMod, List.getElem?_cons_zero, List.getElem?_cons_succ, if_true, and_true, true_and] at f1 f2 f3 f4 f5
        have fe0 : nv β 0 = 805 := by omega
        have fe3 : nv β 3 = 12 := by omega
        have fe4 : nv β 4 = 0 := by omega
        try simp only [fe0, fe3, fe4, Int.reduceToNat] at f2 f3 f4 f5
        have s0 : nv β 0 = nv α1 0 := nv_le H1.1 (by omega)
        have s1 : nv β 1 = nv α1 1 := nv_le H1.1 (by omega)
        have s2 : nv β 2 = nv α1 2 := nv_le H1.1 (by omega)
        have c0 := f2
        obtain ⟨α', Ha, hm⟩ := hd_gpM (q := kh_farFrom_a40) (n := 0) (by decide +kernel) hx H1 (by decide +kernel) hxa hf
        have hfr := H1.2.2.2.2.2.2.2.2.2.2.1
        have m0 : nv α' 0 = nv β 0 := hm 0 0 rfl
        have m1 : nv α' 1 = nv β 1 := hm 1 1 rfl
        have m2 : nv α' 2 = nv β 2 := hm 2 2 rfl
        have m3 : nv α' 3 = nv β 4 := hm 3 4 rfl
        subst S'
        refine ih.2.2.1 _ _ _ _ Ha ?_ ?_
        · intro y hy
          rw [m1, m2, m3, s1, r1, s2, r2, fe4]
          exact hp.2 y hy
        · omega
    · intro α lv st S1 H hp hk
      obtain ⟨α1, hle, Hr⟩ := as_recM (pl := []) [((814, 814), (0, 10, 1))] (by decide +kernel) H
      have hf := H.2.2.2.2.2.2.2.2.2.2.1
      have hl1 : α1.length = 4 := by rw [Hr.2.1.1]; rfl
      have hl0 : α.length = 4 := by rw [H.2.1.1]; rfl
      have hxa : al_le xs α1 := H.1.trans hle
      obtain ⟨g1, -, g3, g4, -⟩ := as_fx Hr
      have g0 : (805 ≤ nv α1 0 ∧ nv α1 0 ≤ 805) ∧ ((-2147483648) ≤ nv α1 1 ∧ nv α1 1 ≤ 2147483647) ∧ (0 ≤ nv α1 2 ∧ nv α1 2 ≤ 11) ∧ (0 ≤ nv α1 3 ∧ nv α1 3 ≤ 17) ∧ True := by
        refine ⟨by have h := (en_nv (i := 0) Hr.2.1 rfl).2; exact h, by have h := (en_nv (i := 1) Hr.2.1 rfl).2; exact h, by have h := (en_nv (i := 2) Hr.2.1 rfl).2; exact h, by have h := (en_nv (i := 3) Hr.2.1 rfl).2; exact h, trivial⟩
      have r0 : nv α1 0 = nv α 0 := nv_le hle (by omega)
      have r1 : nv α1 1 = nv α 1 := nv_le hle (by omega)
      have r2 : nv α1 2 = nv α 2 := nv_le hle (by omega)
      have r3 : nv α1 3 = nv α 3 := nv_le hle (by omega)
      refine hd_segMR G (na := 4) (fuel := 600) (first := true) (Bs := [kh_farFrom_b40_0, kh_farFrom_b40_1, kh_farFrom_b40_2, kh_farFrom_b40_3, kh_farFrom_b40_4]) (by decide +kernel) hl1 Hr ?_
      intro q hq β lv' st' S' H1
      simp only [List.mem_cons, List.not_mem_nil, or_false] at hq
      rcases hq with rfl | rfl | rfl | rfl | rfl
      · obtain ⟨f1, f2, f3, f4, f5⟩ := as_fx H1
        simp only [kh_farFrom_b40_0, fx_env, fx_c, fx_ne, fx_hf, wl_S, Nat.zero_add, Nat.reduceAdd, Nat.reduceDiv, Nat.reduceMod, List.getElem?_cons_zero, List.getElem?_cons_succ, if_true, and_true, true_and] at f1 f2 f3 f4 f5
        have fe0 : nv β 0 = 805 := by omega
        have fe3 : nv β 3 = 17 := by omega
        have fe4 : nv β 4 = 17 := by omega
        try simp only [fe0, fe3, fe4, Int.reduceToNat] at f2 f3 f4 f5
        have s0 : nv β 0 = nv α1 0 := nv_le H1.1 (by omega)
        have s1 : nv β 1 = nv α1 1 := nv_le H1.1 (by omega)
        have s2 : nv β 2 = nv α1 2 := nv_le H1.1 (by omega)
        have s3 : nv β 3 = nv α1 3 := nv_le H1.1 (by omega)
        have c0 := f2
        obtain ⟨α', Ha, hm⟩ := hd_gpM (q := kh_farFrom_a32) (n := 0) (by decide +kernel) hx H1 (by decide +kernel) hxa hf
        have hfr := H1.2.2.2.2.2.2.2.2.2.2.1
        have m0 : nv α' 0 = nv β 0 := hm 0 0 rfl
        have m1 : nv α' 1 = nv β 1 := hm 1 1 rfl
        have m2 : nv α' 2 = nv β 5 := hm 2 5 rfl
        subst S'
        refine ih.2.1 _ _ _ _ Ha ?_ ?_
        · refine ⟨by omega, fun y hy => ?_⟩
          rw [m1, m2, s1, r1, show 17 * (nv β 5).toNat = 17 * (nv α 2).toNat + (nv α 3).toNat by omega]
          exact hp y hy
        · omega
      · obtain ⟨f1, f2, f3, f4, f5⟩ := as_fx H1
        simp only [kh_farFrom_b40_1, fx_env, fx_c, fx_ne, fx_hf, wl_S, Nat.zero_add, Nat.reduceAdd, Nat.reduceDiv, Nat.reduceMod, List.getElem?_cons_zero, List.getElem?_cons_succ, if_true, and_true, true_and] at f1 f2 f3 f4 f5
        have fe0 : nv β 0 = 805 := by omega
        have fe4 : nv β 4 = 17 := by omega
        have fe7 : nv β 7 = 1 := by omega
        try simp only [fe0, fe4, fe7, Int.reduceToNat] at f2 f3 f4 f5
        have s0 : nv β 0 = nv α1 0 := nv_le H1.1 (by omega)
        have s1 : nv β 1 = nv α1 1 := nv_le H1.1 (by omega)
        have s2 : nv β 2 = nv α1 2 := nv_le H1.1 (by omega)
        have s3 : nv β 3 = nv α1 3 := nv_le H1.1 (by omega)
        obtain ⟨c0, c1, c2, c3⟩ := f2
        obtain ⟨α', Ha, hm⟩ := hd_gpM (q := kh_farFrom_a40) (n := 0) (by decide +kernel) hx H1 (by decide +kernel) hxa hf
        have hfr := H1.2.2.2.2.2.2.2.2.2.2.1
        have m0 : nv α' 0 = nv β 0 := hm 0 0 rfl
        have m1 : nv α' 1 = nv β 1 := hm 1 1 rfl
        have m2 : nv α' 2 = nv β 2 := hm 2 2 rfl
        have m3 : nv α' 3 = nv β 8 := hm 3 8 rfl
        subst S'
        have e6 : S1.1 806 = S.1 806 := fr_row hf 806 (by decide +kernel)
        have d0 := c0
        simp only [wd_fl1, if_neg (show ¬ (wd_base 1015 = true) by decide)] at d0
        have d1 := fl1_b (by decide) c1
        simp only [wd_fl] at d1
        have d2 := fl1_b (by decide) c2
        simp only [wd_fl] at d2
        have hcl : clP S (nv α 3) := by
          have h := (clP_e e6).mp (b2i_1 (d0.symm.trans (by omega)))
          rw [s3, r3] at h
          exact h
        refine ih.2.2.1 _ _ _ _ Ha ?_ ?_
        · intro y hy
          rw [m1, m2, m3, s1, r1, s2, r2, show 17 * (nv α 2).toNat + (nv β 8).toNat = 17 * (nv α 2).toNat + (nv α 3).toNat + 1 by omega, fI_s (by omega)]
          unfold fstep
          rw [if_pos (by rw [Int.toNat_of_nonneg (by omega)]; exact hcl)]
          exact hp y hy
        · omega
      · obtain ⟨f1, f2, f3, f4, f5⟩ := as_fx H1
        simp only [kh_farFrom_b40_2, fx_env, fx_c, fx_ne, fx_hf, wl_S, Nat.zero_add, Nat.reduceAdd, Nat.reduceDiv, Nat.reduceMod, List.getElem?_cons_zero, List.getElem?_cons_succ, if_true, and_true, true_and] at f1 f2 f3 f4 f5
        have fe0 : nv β 0 = 805 := by omega
        have fe4 : nv β 4 = 17 := by omega
        have fe7 : nv β 7 = 0 := by omega
        have fe8 : nv β 8 = 814 := by omega
        have fe9 : nv β 9 = 814 := by omega
        have fe11 : nv β 11 = 814 := by omega
        try simp only [fe0, fe4, fe7, fe8, fe9, fe11, Int.reduceToNat] at f2 f3 f4 f5
        have s0 : nv β 0 = nv α1 0 := nv_le H1.1 (by omega)
        have s1 : nv β 1 = nv α1 1 := nv_le H1.1 (by omega)
        have s2 : nv β 2 = nv α1 2 := nv_le H1.1 (by omega)
        have s3 : nv β 3 = nv α1 3 := nv_le H1.1 (by omega)
        obtain ⟨c0, c1, c2, c3, c4, c5, c6⟩ := f2
        obtain ⟨α', Ha, hm⟩ := hd_gpM (q := kh_farFrom_a108) (n := 0) (by decide +kernel) hx H1 (by decide +kernel) hxa hf
        have hfr := H1.2.2.2.2.2.2.2.2.2.2.1
        have m0 : nv α' 0 = nv β 0 := hm 0 0 rfl
        have m1 : nv α' 1 = nv β 1 := hm 1 1 rfl
        have m2 : nv α' 2 = nv β 2 := hm 2 2 rfl
        have m3 : nv α' 3 = nv β 3 := hm 3 3 rfl
        have m4 : nv α' 4 = nv β 5 := hm 4 5 rfl
        have m5 : nv α' 5 = nv β 6 := hm 5 6 rfl
        subst S'
        have e6 : S1.1 806 = S.1 806 := fr_row hf 806 (by decide +kernel)
        have d3 := c3
        simp only [wd_fl1, if_neg (show ¬ (wd_base 1015 = true) by decide)] at d3
        have d4 := fl1_b (by decide) c4
        simp only [wd_fl] at d4
        have d5 := fl1_b (by decide) c5
        simp only [wd_fl] at d5
        have o0 := old_0 c0 rfl
        have o2 := old_0 c2 rfl
        have hcl : ¬ clP S (nv α 3) := by
          have h := fun g => b2i_0 (d3.symm.trans (by omega)) ((clP_e e6).mpr g)
          rw [s3, r3] at h
          exact h
        have bl := lh_bd (nv α 3).toNat (by omega)
        rw [Int.toNat_of_nonneg (show 0 ≤ nv α 3 by omega)] at bl
        have fa := hp (lowI (nv α 3)).toNat (by omega)
        have fb := hp (highI (nv α 3)).toNat (by omega)
        have xa : nv β 5 = lowI (nv α 3) := by rw [← r3, ← s3]; omega
        have xb : nv β 6 = highI (nv α 3) := by rw [← r3, ← s3]; omega
        rw [xa] at o0
        rw [xb] at o2
        refine ih.2.2.2.1 _ _ _ _ Ha ?_ ?_
        · refine ⟨by rw [m3, s3, r3]; exact hcl, by rw [m3, m4, s3, r3]; exact xa, by rw [m3, m5, s3, r3]; exact xb, fun y hy => ?_⟩
          rw [m1, m2, m3, s1, r1, s2, r2, s3, r3, fw_i_row]
          unfold fst1
          by_cases e : y = (nv β 5).toNat
          · rw [if_pos e, if_pos (by omega), i32_of (by omega) (by omega), ← fa, ← fb]
            split <;> omega
          · rw [if_neg e, if_neg (by omega)]
            exact hp y hy
        · omega
      · obtain ⟨f1, f2, f3, f4, f5⟩ := as_fx H1
        simp only [kh_farFrom_b40_3, fx_env, fx_c, fx_ne, fx_hf, wl_S, Nat.zero_add, Nat.reduceAdd, Nat.reduceDiv, Nat.reduceMod, List.getElem?_cons_zero, List.getElem?_cons_succ, if_true, and_true, true_and] at f1 f2 f3 f4 f5
        have fe0 : nv β 0 = 805 := by omega
        have fe4 : nv β 4 = 17 := by omega
        have fe7 : nv β 7 = 0 := by omega
        have fe8 : nv β 8 = 814 := by omega
        have fe9 : nv β 9 = 814 := by omega
        have fe11 : nv β 11 = 814 := by omega
        have fe13 : nv β 13 = (-1) := by omega
        have fe14 : nv β 14 = 814 := by omega
        try simp only [fe0, fe4, fe7, fe8, fe9, fe11, fe13, fe14, Int.reduceToNat] at f2 f3 f4 f5
        have s0 : nv β 0 = nv α1 0 := nv_le H1.1 (by omega)
        have s1 : nv β 1 = nv α1 1 := nv_le H1.1 (by omega)
        have s2 : nv β 2 = nv α1 2 := nv_le H1.1 (by omega)
        have s3 : nv β 3 = nv α1 3 := nv_le H1.1 (by omega)
        obtain ⟨c0, c1, c2, c3, c4, c5, c6, c7⟩ := f2
        obtain ⟨α', Ha, hm⟩ := hd_gpM (q := kh_farFrom_a108) (n := 0) (by decide +kernel) hx H1 (by decide +kernel) hxa hf
        have hfr := H1.2.2.2.2.2.2.2.2.2.2.1
        have m0 : nv α' 0 = nv β 0 := hm 0 0 rfl
        have m1 : nv α' 1 = nv β 1 := hm 1 1 rfl
        have m2 : nv α' 2 = nv β 2 := hm 2 2 rfl
        have m3 : nv α' 3 = nv β 3 := hm 3 3 rfl
        have m4 : nv α' 4 = nv β 5 := hm 4 5 rfl
        have m5 : nv α' 5 = nv β 6 := hm 5 6 rfl
        subst S'
        have e6 : S1.1 806 = S.1 806 := fr_row hf 806 (by decide +kernel)
        have d4 := c4
        simp only [wd_fl1, if_neg (show ¬ (wd_base 1015 = true) by decide)] at d4
        have d5 := fl1_b (by decide) c5
        simp only [wd_fl] at d5
        have d6 := fl1_b (by decide) c6
        simp only [wd_fl] at d6
        have o1 := old_0 c1 rfl
        have o3 := old_0 c3 rfl
        have hcl : ¬ clP S (nv α 3) := by
          have h := fun g => b2i_0 (d4.symm.trans (by omega)) ((clP_e e6).mpr g)
          rw [s3, r3] at h
          exact h
        have bl := lh_bd (nv α 3).toNat (by omega)
        rw [Int.toNat_of_nonneg (show 0 ≤ nv α 3 by omega)] at bl
        have fa := hp (lowI (nv α 3)).toNat (by omega)
        have fb := hp (highI (nv α 3)).toNat (by omega)
        have xa : nv β 5 = lowI (nv α 3) := by rw [← r3, ← s3]; omega
        have xb : nv β 6 = highI (nv α 3) := by rw [← r3, ← s3]; omega
        rw [xa] at o1
        rw [xb] at o3
        refine ih.2.2.2.1 _ _ _ _ Ha ?_ ?_
        · refine ⟨by rw [m3, s3, r3]; exact hcl, by rw [m3, m4, s3, r3]; exact xa, by rw [m3, m5, s3, r3]; exact xb, fun y hy => ?_⟩
          rw [m1, m2, m3, s1, r1, s2, r2, s3, r3, fw_i_row]
          unfold fst1
          by_cases e : y = (nv β 5).toNat
          · rw [if_pos e, if_pos (by omega), i32_of (by omega) (by omega), ← fa, ← fb]
            split <;> omega
          · rw [if_neg e, if_neg (by omega)]
            exact hp y hy
        · omega
      · obtain ⟨f1, f2, f3, f4, f5⟩ := as_fx H1
        simp only [kh_farFrom_b40_4, fx_env, fx_c, fx_ne, fx_hf, wl_S, Nat.zero_add, Nat.reduceAdd, Nat.reduceDiv, Nat.reduceMod, List.getElem?_cons_zero, List.getElem?_cons_succ, if_true, and_true, true_and] at f1 f2 f3 f4 f5
        have fe0 : nv β 0 = 805 := by omega
        have fe4 : nv β 4 = 17 := by omega
        have fe7 : nv β 7 = 0 := by omega
        have fe8 : nv β 8 = 814 := by omega
        have fe9 : nv β 9 = 814 := by omega
        have fe11 : nv β 11 = 814 := by omega
        have fe12 : nv β 12 = (-1) := by omega
        have fe13 : nv β 13 = (-1) := by omega
        have fe14 : nv β 14 = 1 := by omega
        try simp only [fe0, fe4, fe7, fe8, fe9, fe11, fe12, fe13, fe14, Int.reduceToNat] at f2 f3 f4 f5
        have s0 : nv β 0 = nv α1 0 := nv_le H1.1 (by omega)
        have s1 : nv β 1 = nv α1 1 := nv_le H1.1 (by omega)
        have s2 : nv β 2 = nv α1 2 := nv_le H1.1 (by omega)
        have s3 : nv β 3 = nv α1 3 := nv_le H1.1 (by omega)
        obtain ⟨c0, c1, c2, c3, c4, c5, c6, c7, c8⟩ := f2
        obtain ⟨α', Ha, hm⟩ := hd_gpM (q := kh_farFrom_a108) (n := 0) (by decide +kernel) hx H1 (by decide +kernel) hxa hf
        have hfr := H1.2.2.2.2.2.2.2.2.2.2.1
        have m0 : nv α' 0 = nv β 0 := hm 0 0 rfl
        have m1 : nv α' 1 = nv β 1 := hm 1 1 rfl
        have m2 : nv α' 2 = nv β 2 := hm 2 2 rfl
        have m3 : nv α' 3 = nv β 3 := hm 3 3 rfl
        have m4 : nv α' 4 = nv β 5 := hm 4 5 rfl
        have m5 : nv α' 5 = nv β 6 := hm 5 6 rfl
        subst S'
        have e6 : S1.1 806 = S.1 806 := fr_row hf 806 (by decide +kernel)
        have d5 := c5
        simp only [wd_fl1, if_neg (show ¬ (wd_base 1015 = true) by decide)] at d5
        have d6 := fl1_b (by decide) c6
        simp only [wd_fl] at d6
        have d7 := fl1_b (by decide) c7
        simp only [wd_fl] at d7
        have o2 := old_0 c2 rfl
        have o4 := old_0 c4 rfl
        have hcl : ¬ clP S (nv α 3) := by
          have h := fun g => b2i_0 (d5.symm.trans (by omega)) ((clP_e e6).mpr g)
          rw [s3, r3] at h
          exact h
        have bl := lh_bd (nv α 3).toNat (by omega)
        rw [Int.toNat_of_nonneg (show 0 ≤ nv α 3 by omega)] at bl
        have fa := hp (lowI (nv α 3)).toNat (by omega)
        have fb := hp (highI (nv α 3)).toNat (by omega)
        have xa : nv β 5 = lowI (nv α 3) := by rw [← r3, ← s3]; omega
        have xb : nv β 6 = highI (nv α 3) := by rw [← r3, ← s3]; omega
        rw [xa] at o2
        rw [xb] at o4
        refine ih.2.2.2.1 _ _ _ _ Ha ?_ ?_
        · refine ⟨by rw [m3, s3, r3]; exact hcl, by rw [m3, m4, s3, r3]; exact xa, by rw [m3, m5, s3, r3]; exact xb, fun y hy => ?_⟩
          rw [m1, m2, m3, s1, r1, s2, r2, s3, r3, fw_i_row]
          unfold fst1
          by_cases e : y = (nv β 5).toNat
          · rw [if_pos e, if_pos (by omega), i32_of (by omega) (by omega), ← fa, ← fb]
            split <;> omega
          · rw [if_neg e, if_neg (by omega)]
            exact hp y hy
        · omega
    · intro α lv st S1 H hp hk
      obtain ⟨α1, hle, Hr⟩ := as_recM (pl := []) [((814, 814), (1, 11, 1))] (by decide +kernel) H
      have hf := H.2.2.2.2.2.2.2.2.2.2.1
      have hl1 : α1.length = 6 := by rw [Hr.2.1.1]; rfl
      have hl0 : α.length = 6 := by rw [H.2.1.1]; rfl
      have hxa : al_le xs α1 := H.1.trans hle
      obtain ⟨g1, -, g3, g4, -⟩ := as_fx Hr
      have g0 : (805 ≤ nv α1 0 ∧ nv α1 0 ≤ 805) ∧ ((-2147483648) ≤ nv α1 1 ∧ nv α1 1 ≤ 2147483647) ∧ (0 ≤ nv α1 2 ∧ nv α1 2 ≤ 11) ∧ (0 ≤ nv α1 3 ∧ nv α1 3 ≤ 16) ∧ (0 ≤ nv α1 4 ∧ nv α1 4 ≤ 10) ∧ (1 ≤ nv α1 5 ∧ nv α1 5 ≤ 11) ∧ True := by
        refine ⟨by have h := (en_nv (i := 0) Hr.2.1 rfl).2; exact h, by have h := (en_nv (i := 1) Hr.2.1 rfl).2; exact h, by have h := (en_nv (i := 2) Hr.2.1 rfl).2; exact h, by have h := (en_nv (i := 3) Hr.2.1 rfl).2; exact h, by have h := (en_nv (i := 4) Hr.2.1 rfl).2; exact h, by have h := (en_nv (i := 5) Hr.2.1 rfl).2; exact h, trivial⟩
      have r0 : nv α1 0 = nv α 0 := nv_le hle (by omega)
      have r1 : nv α1 1 = nv α 1 := nv_le hle (by omega)
      have r2 : nv α1 2 = nv α 2 := nv_le hle (by omega)
      have r3 : nv α1 3 = nv α 3 := nv_le hle (by omega)
      have r4 : nv α1 4 = nv α 4 := nv_le hle (by omega)
      have r5 : nv α1 5 = nv α 5 := nv_le hle (by omega)
      refine hd_segMR G (na := 6) (fuel := 600) (first := true) (Bs := [kh_farFrom_b108_0, kh_farFrom_b108_1, kh_farFrom_b108_2]) (by decide +kernel) hl1 Hr ?_
      intro q hq β lv' st' S' H1
      simp only [List.mem_cons, List.not_mem_nil, or_false] at hq
      rcases hq with rfl | rfl | rfl
      · obtain ⟨f1, f2, f3, f4, f5⟩ := as_fx H1
        simp only [kh_farFrom_b108_0, fx_env, fx_c, fx_ne, fx_hf, wl_S, Nat.zero_add, Nat.reduceAdd, Nat.reduceDiv, Nat.reduceMod, List.getElem?_cons_zero, List.getElem?_cons_succ, if_true, and_true, true_and] at f1 f2 f3 f4 f5
        have fe0 : nv β 0 = 805 := by omega
        have fe6 : nv β 6 = 814 := by omega
        have fe7 : nv β 7 = 814 := by omega
        have fe9 : nv β 9 = 814 := by omega
        try simp only [fe0, fe6, fe7, fe9, Int.reduceToNat] at f2 f3 f4 f5
        have s0 : nv β 0 = nv α1 0 := nv_le H1.1 (by omega)
        have s1 : nv β 1 = nv α1 1 := nv_le H1.1 (by omega)
        have s2 : nv β 2 = nv α1 2 := nv_le H1.1 (by omega)
        have s3 : nv β 3 = nv α1 3 := nv_le H1.1 (by omega)
        have s4 : nv β 4 = nv α1 4 := nv_le H1.1 (by omega)
        have s5 : nv β 5 = nv α1 5 := nv_le H1.1 (by omega)
        obtain ⟨c0, c1, c2⟩ := f2
        obtain ⟨α', Ha, hm⟩ := hd_gpM (q := kh_farFrom_a40) (n := 0) (by decide +kernel) hx H1 (by decide +kernel) hxa hf
        have hfr := H1.2.2.2.2.2.2.2.2.2.2.1
        have m0 : nv α' 0 = nv β 0 := hm 0 0 rfl
        have m1 : nv α' 1 = nv β 1 := hm 1 1 rfl
        have m2 : nv α' 2 = nv β 2 := hm 2 2 rfl
        have m3 : nv α' 3 = nv β 11 := hm 3 11 rfl
        subst S'
        have o0 := old_0 c0 rfl
        have o2 := old_0 c2 rfl
        have bl := lh_bd (nv α 3).toNat (by omega)
        rw [Int.toNat_of_nonneg (show 0 ≤ nv α 3 by omega)] at bl
        have xa : nv β 4 = lowI (nv α 3) := by rw [s4, r4]; exact hp.2.1
        have xb : nv β 5 = highI (nv α 3) := by rw [s5, r5]; exact hp.2.2.1
        have fa := hp.2.2.2 (lowI (nv α 3)).toNat (by omega)
        have fb := hp.2.2.2 (highI (nv α 3)).toNat (by omega)
        rw [xb] at o0
        rw [xa] at o2
        refine ih.2.2.1 _ _ _ _ Ha ?_ ?_
        · intro y hy
          rw [m1, m2, m3, s1, r1, s2, r2, show 17 * (nv α 2).toNat + (nv β 11).toNat = 17 * (nv α 2).toNat + (nv α 3).toNat + 1 by omega, fI_s (by omega)]
          unfold fstep
          rw [if_neg (by rw [Int.toNat_of_nonneg (by omega)]; exact hp.1), Int.toNat_of_nonneg (show 0 ≤ nv α 3 by omega), Int.toNat_of_nonneg (show 0 ≤ nv α 2 by omega), fw_i_row]
          show _ = (if y = (highI (nv α 3)).toNat then (if _ = _ ∧ _ = _ then _ else _) else _)
          by_cases e : y = (nv β 5).toNat
          · rw [if_pos e, if_pos (by omega), i32_of (by omega) (by omega), ← fa, ← fb]
            split <;> omega
          · rw [if_neg e, if_neg (by omega)]
            exact hp.2.2.2 y hy
        · omega
      · obtain ⟨f1, f2, f3, f4, f5⟩ := as_fx H1
        simp only [kh_farFrom_b108_1, fx_env, fx_c, fx_ne, fx_hf, wl_S, Nat.zero_add, Nat.reduceAdd, Nat.reduceDiv, Nat.reduceMod, List.getElem?_cons_zero, List.getElem?_cons_succ, if_true, and_true, true_and] at f1 f2 f3 f4 f5
        have fe0 : nv β 0 = 805 := by omega
        have fe6 : nv β 6 = 814 := by omega
        have fe7 : nv β 7 = 814 := by omega
        have fe9 : nv β 9 = 814 := by omega
        have fe11 : nv β 11 = (-1) := by omega
        have fe12 : nv β 12 = 814 := by omega
        try simp only [fe0, fe6, fe7, fe9, fe11, fe12, Int.reduceToNat] at f2 f3 f4 f5
        have s0 : nv β 0 = nv α1 0 := nv_le H1.1 (by omega)
        have s1 : nv β 1 = nv α1 1 := nv_le H1.1 (by omega)
        have s2 : nv β 2 = nv α1 2 := nv_le H1.1 (by omega)
        have s3 : nv β 3 = nv α1 3 := nv_le H1.1 (by omega)
        have s4 : nv β 4 = nv α1 4 := nv_le H1.1 (by omega)
        have s5 : nv β 5 = nv α1 5 := nv_le H1.1 (by omega)
        obtain ⟨c0, c1, c2, c3⟩ := f2
        obtain ⟨α', Ha, hm⟩ := hd_gpM (q := kh_farFrom_a40) (n := 0) (by decide +kernel) hx H1 (by decide +kernel) hxa hf
        have hfr := H1.2.2.2.2.2.2.2.2.2.2.1
        have m0 : nv α' 0 = nv β 0 := hm 0 0 rfl
        have m1 : nv α' 1 = nv β 1 := hm 1 1 rfl
        have m2 : nv α' 2 = nv β 2 := hm 2 2 rfl
        have m3 : nv α' 3 = nv β 13 := hm 3 13 rfl
        subst S'
        have o1 := old_0 c1 rfl
        have o3 := old_0 c3 rfl
        have bl := lh_bd (nv α 3).toNat (by omega)
        rw [Int.toNat_of_nonneg (show 0 ≤ nv α 3 by omega)] at bl
        have xa : nv β 4 = lowI (nv α 3) := by rw [s4, r4]; exact hp.2.1
        have xb : nv β 5 = highI (nv α 3) := by rw [s5, r5]; exact hp.2.2.1
        have fa := hp.2.2.2 (lowI (nv α 3)).toNat (by omega)
        have fb := hp.2.2.2 (highI (nv α 3)).toNat (by omega)
        rw [xb] at o1
        rw [xa] at o3
        refine ih.2.2.1 _ _ _ _ Ha ?_ ?_
        · intro y hy
          rw [m1, m2, m3, s1, r1, s2, r2, show 17 * (nv α 2).toNat + (nv β 13).toNat = 17 * (nv α 2).toNat + (nv α 3).toNat + 1 by omega, fI_s (by omega)]
          unfold fstep
          rw [if_neg (by rw [Int.toNat_of_nonneg (by omega)]; exact hp.1), Int.toNat_of_nonneg (show 0 ≤ nv α 3 by omega), Int.toNat_of_nonneg (show 0 ≤ nv α 2 by omega), fw_i_row]
          show _ = (if y = (highI (nv α 3)).toNat then (if _ = _ ∧ _ = _ then _ else _) else _)
          by_cases e : y = (nv β 5).toNat
          · rw [if_pos e, if_pos (by omega), i32_of (by omega) (by omega), ← fa, ← fb]
            split <;> omega
          · rw [if_neg e, if_neg (by omega)]
            exact hp.2.2.2 y hy
        · omega
      · obtain ⟨f1, f2, f3, f4, f5⟩ := as_fx H1
        simp only [kh_farFrom_b108_2, fx_env, fx_c, fx_ne, fx_hf, wl_S, Nat.zero_add, Nat.reduceAdd, Nat.reduceDiv, Nat.reduceMod, List.getElem?_cons_zero, List.getElem?_cons_succ, if_true, and_true, true_and] at f1 f2 f3 f4 f5
        have fe0 : nv β 0 = 805 := by omega
        have fe6 : nv β 6 = 814 := by omega
        have fe7 : nv β 7 = 814 := by omega
        have fe9 : nv β 9 = 814 := by omega
        have fe10 : nv β 10 = (-1) := by omega
        have fe11 : nv β 11 = (-1) := by omega
        have fe12 : nv β 12 = 1 := by omega
        try simp only [fe0, fe6, fe7, fe9, fe10, fe11, fe12, Int.reduceToNat] at f2 f3 f4 f5
        have s0 : nv β 0 = nv α1 0 := nv_le H1.1 (by omega)
        have s1 : nv β 1 = nv α1 1 := nv_le H1.1 (by omega)
        have s2 : nv β 2 = nv α1 2 := nv_le H1.1 (by omega)
        have s3 : nv β 3 = nv α1 3 := nv_le H1.1 (by omega)
        have s4 : nv β 4 = nv α1 4 := nv_le H1.1 (by omega)
        have s5 : nv β 5 = nv α1 5 := nv_le H1.1 (by omega)
        obtain ⟨c0, c1, c2, c3, c4⟩ := f2
        obtain ⟨α', Ha, hm⟩ := hd_gpM (q := kh_farFrom_a40) (n := 0) (by decide +kernel) hx H1 (by decide +kernel) hxa hf
        have hfr := H1.2.2.2.2.2.2.2.2.2.2.1
        have m0 : nv α' 0 = nv β 0 := hm 0 0 rfl
        have m1 : nv α' 1 = nv β 1 := hm 1 1 rfl
        have m2 : nv α' 2 = nv β 2 := hm 2 2 rfl
        have m3 : nv α' 3 = nv β 14 := hm 3 14 rfl
        subst S'
        have o2 := old_0 c2 rfl
        have o4 := old_0 c4 rfl
        have bl := lh_bd (nv α 3).toNat (by omega)
        rw [Int.toNat_of_nonneg (show 0 ≤ nv α 3 by omega)] at bl
        have xa : nv β 4 = lowI (nv α 3) := by rw [s4, r4]; exact hp.2.1
        have xb : nv β 5 = highI (nv α 3) := by rw [s5, r5]; exact hp.2.2.1
        have fa := hp.2.2.2 (lowI (nv α 3)).toNat (by omega)
        have fb := hp.2.2.2 (highI (nv α 3)).toNat (by omega)
        rw [xb] at o2
        rw [xa] at o4
        refine ih.2.2.1 _ _ _ _ Ha ?_ ?_
        · intro y hy
          rw [m1, m2, m3, s1, r1, s2, r2, show 17 * (nv α 2).toNat + (nv β 14).toNat = 17 * (nv α 2).toNat + (nv α 3).toNat + 1 by omega, fI_s (by omega)]
          unfold fstep
          rw [if_neg (by rw [Int.toNat_of_nonneg (by omega)]; exact hp.1), Int.toNat_of_nonneg (show 0 ≤ nv α 3 by omega), Int.toNat_of_nonneg (show 0 ≤ nv α 2 by omega), fw_i_row]
          show _ = (if y = (highI (nv α 3)).toNat then (if _ = _ ∧ _ = _ then _ else _) else _)
          by_cases e : y = (nv β 5).toNat
          · rw [if_pos e, if_pos (by omega), i32_of (by omega) (by omega), ← fa, ← fb]
            split <;> omega
          · rw [if_neg e, if_neg (by omega)]
            exact hp.2.2.2 y hy
        · omega
  obtain ⟨α1, hle, Hr⟩ := as_recM (pl := []) [] (by decide +kernel) H0
  have hf := H0.2.2.2.2.2.2.2.2.2.2.1
  have hl1 : α1.length = 2 := by rw [Hr.2.1.1]; rfl
  have hl0 : xs.length = 2 := by rw [H0.2.1.1]; rfl
  have hxa : al_le xs α1 := H0.1.trans hle
  obtain ⟨g1, -, g3, g4, -⟩ := as_fx Hr
  have g0 : (805 ≤ nv α1 0 ∧ nv α1 0 ≤ 805) ∧ ((-2147483648) ≤ nv α1 1 ∧ nv α1 1 ≤ 2147483647) ∧ True := by
    refine ⟨by have h := (en_nv (i := 0) Hr.2.1 rfl).2; exact h, by have h := (en_nv (i := 1) Hr.2.1 rfl).2; exact h, trivial⟩
  have r0 : nv α1 0 = nv xs 0 := nv_le hle (by omega)
  have r1 : nv α1 1 = nv xs 1 := nv_le hle (by omega)
  refine hd_segMR G (na := 2) (fuel := 600) (first := true) (Bs := [kh_farFrom_b0_0]) (by decide +kernel) hl1 Hr ?_
  intro q hq β lv' st' S' H1
  simp only [List.mem_cons, List.not_mem_nil, or_false] at hq
  rcases hq with rfl
  · obtain ⟨f1, f2, f3, f4, f5⟩ := as_fx H1
    simp only [kh_farFrom_b0_0, fx_env, fx_c, fx_ne, fx_hf, wl_S, Nat.zero_add, Nat.reduceAdd, Nat.reduceDiv, Nat.reduceMod, List.getElem?_cons_zero, List.getElem?_cons_succ, if_true, and_true, true_and] at f1 f2 f3 f4 f5
    have fe0 : nv β 0 = 805 := by omega
    have fe2 : nv β 2 = 0 := by omega
    try simp only [fe0, fe2, Int.reduceToNat] at f2 f3 f4 f5
    have s0 : nv β 0 = nv α1 0 := nv_le H1.1 (by omega)
    have s1 : nv β 1 = nv α1 1 := nv_le H1.1 (by omega)
    obtain ⟨α', Ha, hm⟩ := hd_gpM (q := kh_farFrom_a2) (n := 0) (by decide +kernel) hx H1 (by decide +kernel) hxa hf
    have hfr := H1.2.2.2.2.2.2.2.2.2.2.1
    have m0 : nv α' 0 = nv β 0 := hm 0 0 rfl
    have m1 : nv α' 1 = nv β 1 := hm 1 1 rfl
    have m2 : nv α' 2 = nv β 2 := hm 2 2 rfl
    subst S'
    refine (hP _).1 _ _ _ _ Ha ?_ (Nat.lt_succ_self _)
    · intro y hy _; rw [m2] at hy; omega)
theorem kh_farFrom_ok : ct_ok wd_fl1 kh_farFrom := ct_okR_ok kh_farFrom_okR
