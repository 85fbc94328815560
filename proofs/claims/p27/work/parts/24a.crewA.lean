/-! ===== the class: crews and their jobs are in order ===== -/
theorem mjk_v {S : fw_S} {j w : Nat} (hj : j < 200) (hw : w < 8) : mjk (vF S) j w = (S.1 (579 + j) w).toInt := by unfold mjk; rw [vF_b hj hw]
theorem mck_v {S : fw_S} {k w : Nat} (hk : k < 4) (hw : w < 8) : mck (vF S) k w = (S.1 (574 + k) w).toInt := by unfold mck; rw [vF_k hk hw]
/-- places that aren't written, in a span of cells -/
theorem fr_cs {mod : List md_T} {S S' : fw_S} (h : fr_in mod S S') (c1 c2 : Nat) (p : Nat × Nat × Nat) (hc : mod.all (fun d => md_off d c1 c2 p) = true) {k j : Nat} (h1 : c1 ≤ k) (h2 : k ≤ c2) (hj : pg_in p j) : S'.1 k j = S.1 k j := (h.1 k j (fun g => by
  obtain ⟨d, d1, d2, d3, d4⟩ := g
  exact md_off_in (List.all_eq_true.mp hc d d1) h1 h2 hj d2 d3 d4)).1
def P_crew : List av_X → fw_S → Prop := fun xs S => nv xs 1 < (S.1 572 0).toInt
def P_crew2 : List av_X → fw_S → Prop := fun xs S => nv xs 2 < (S.1 572 0).toInt
def okB (S : fw_S) (v : Int) : Prop := v = -1 ∨ (0 ≤ v ∧ v < (S.1 572 2).toInt ∧ mjk (vF S) v.toNat 4 = 0)
def R_putBack : List av_X → fw_S → fw_O → fw_S → Prop := fun xs S _ S' => ∀ j : Nat, j < 200 → mjk (vF S') j 4 = 1 → mjk (vF S) j 4 = 1 ∧ mjk (vF S) j 5 ≠ nv xs 1
def P_take : List av_X → fw_S → Prop := fun xs S => nv xs 1 < (S.1 572 0).toInt ∧ mck (vF S) (nv xs 1).toNat 3 = -1 ∧ okB S (nv xs 2)
def R_bestJob : List av_X → fw_S → fw_O → fw_S → Prop := fun _ S oc _ => ∃ v : Int32, oc = .inl (some (.int v)) ∧ okB S v.toInt
abbrev kh_isOver_y : mt_T := (⟨"UtilityWorks$Crews", "isOver", "(I)Z"⟩, prog_3_method_4_code, 2, some .boolean, 1, 1, 1, 25033, 25031, 25032, 21011)
def kh_isOver : ct_T := (81, [(2, 572, 572, 1), (0, 0, 199, 1)], [], [], [(1, (0, 0, 1, 1), [(2, 572, 572, 1), (0, 0, 199, 1)], [], ([], [(1041, 1, 1)]))], [], 0, 0, 0)
def kh_isOver_b0_0 : sg_T := (29, 0, ([((2, 572, 572, 1), none), ((0, 0, 199, 1), none), ((2, 578, 578, 1), none), ((2, 579, 778, 1), none), ((0, 4, 4, 0), none), ((0, 2, 2, 1), none), ((0, 2, 2, 0), none), ((0, 1, 1, 0), none)], [(0, 0), (1, 1)], [7], [(3, 4, 5), (2, 1, 3)], [], [(300000, 5, 6), (800005, 3, 4)], [], [], some []))
def kh_isOver_b0_1 : sg_T := (29, 0, ([((2, 572, 572, 1), none), ((0, 0, 199, 1), none), ((2, 578, 578, 1), none), ((2, 579, 778, 1), none), ((0, 4, 4, 0), none), ((0, 0, 1, 1), none), ((0, 2, 2, 0), none), ((2, 578, 578, 1), none), ((0, 4, 4, 0), none), ((0, 3, 3, 0), none), ((0, 0, 0, 0), none)], [(0, 0), (1, 1)], [10], [(3, 4, 5), (2, 1, 3)], [(5, 3), (5, 2)], [(400000, 5, 9), (400000, 5, 6), (800005, 3, 4)], [], [], some []))
def kh_isOver_b0_2 : sg_T := (29, 0, ([((2, 572, 572, 1), none), ((0, 0, 199, 1), none), ((2, 578, 578, 1), none), ((2, 579, 778, 1), none), ((0, 4, 4, 0), none), ((0, 3, 3, 1), none), ((0, 2, 2, 0), none), ((2, 578, 578, 1), none), ((0, 4, 4, 0), none), ((0, 3, 3, 0), none), ((0, 1, 1, 0), none)], [(0, 0), (1, 1)], [10], [(3, 4, 5), (2, 1, 3)], [(5, 2)], [(300000, 5, 9), (400000, 5, 6), (800005, 3, 4)], [], [], some []))
set_option maxHeartbeats 16000000 in
set_option maxRecDepth 8000 in
theorem kh_isOver_ok : ct_ok wd_fl2 kh_isOver := ct_hand (ff := wd_ff2) (y := kh_isOver_y) (Cs := []) wd_fl2_ok rfl (List.forall_mem_nil _) (by decide +kernel) (fun l D tc ad kd N sm xs S p e s m args below meth c sz lv G H0 => by
  have hx : xs.length = 2 := by rw [H0.2.1.1]; rfl
  obtain ⟨α1, hle, Hr⟩ := as_recM (pl := []) [] (by decide +kernel) H0
  have hf := H0.2.2.2.2.2.2.2.2.2.2.1
  have hl1 : α1.length = 2 := by rw [Hr.2.1.1]; rfl
  have hl0 : xs.length = 2 := by rw [H0.2.1.1]; rfl
  have hxa : al_le xs α1 := H0.1.trans hle
  obtain ⟨g1, -, g3, g4, -⟩ := as_fx Hr
  have g0 : (572 ≤ nv α1 0 ∧ nv α1 0 ≤ 572) ∧ (0 ≤ nv α1 1 ∧ nv α1 1 ≤ 199) ∧ True := by
    refine ⟨by have h := (en_nv (i := 0) Hr.2.1 rfl).2; exact h, by have h := (en_nv (i := 1) Hr.2.1 rfl).2; exact h, trivial⟩
  have r0 : nv α1 0 = nv xs 0 := nv_le hle (by omega)
  have r1 : nv α1 1 = nv xs 1 := nv_le hle (by omega)
  refine hd_segM G (na := 2) (fuel := 600) (first := true) (Bs := [kh_isOver_b0_0, kh_isOver_b0_1, kh_isOver_b0_2]) (by decide +kernel) hl1 Hr ?_
  intro q hq β lv' st' S' H1
  simp only [List.mem_cons, List.not_mem_nil, or_false] at hq
  rcases hq with rfl | rfl | rfl
  · obtain ⟨f1, f2, f3, f4, f5⟩ := as_fx H1
    simp only [kh_isOver_b0_0, Nat.reduceEqDiff, if_false, fx_env, fx_c, fx_ne, fx_hf, wl_S, Nat.zero_add, Nat.reduceAdd, Nat.reduceDiv, Nat.reduceMod, List.getElem?_cons_zero, List.getElem?_cons_succ, if_true, and_true, true_and] at f1 f2 f3 f4 f5
    have fe0 : nv β 0 = 572 := by omega
    have fe2 : nv β 2 = 578 := by omega
    have fe4 : nv β 4 = 4 := by omega
    have fe5 : nv β 5 = 2 := by omega
    have fe6 : nv β 6 = 2 := by omega
    have fe7 : nv β 7 = 1 := by omega
    try simp only [fe0, fe2, fe4, fe5, fe6, fe7, Int.reduceToNat] at f2 f3 f4 f5
    have s0 : nv β 0 = nv α1 0 := nv_le H1.1 (by omega)
    have s1 : nv β 1 = nv α1 1 := nv_le H1.1 (by omega)
    obtain ⟨c0, c1⟩ := f2
    have rt3 := hf_rt (c := 578) (lo := 0) (hi := 199) (base := 579) (rv := 2) (iv := 1) (n := 3) (by decide +kernel) (by decide +kernel) H1 (by decide +kernel) (by omega) (by omega) (by omega)
    have o1 := old_i c1 (by have h := (en_nv (i := 5) H1.2.1 rfl).1; rw [fe5] at h; exact h)
    refine hd_retI G (v := 7) (by decide +kernel) (as_backM H1 (by decide +kernel) hxa hf) _ List.mem_cons_self rfl (by decide +kernel) (by decide) (fun w hw => ?_)
    rcases List.mem_singleton.mp hw with rfl
    have g1' := (en_nv (i := 1) H0.2.1 rfl).1
    refine ⟨_, _, g1', g1', ?_⟩
    rw [wd_fl2, if_neg (by decide)]
    show nv β 7 = b2i (¬ mjk (vF S) (nv xs 1).toNat 4 < 2)
    rw [mjk_v (by omega) (by decide), show 579 + (nv xs 1).toNat = (nv β 3).toNat by omega, o1]
    unfold b2i
    split <;> omega
  · obtain ⟨f1, f2, f3, f4, f5⟩ := as_fx H1
    simp only [kh_isOver_b0_1, Nat.reduceEqDiff, if_false, fx_env, fx_c, fx_ne, fx_hf, wl_S, Nat.zero_add, Nat.reduceAdd, Nat.reduceDiv, Nat.reduceMod, List.getElem?_cons_zero, List.getElem?_cons_succ, if_true, and_true, true_and] at f1 f2 f3 f4 f5
    have fe0 : nv β 0 = 572 := by omega
    have fe2 : nv β 2 = 578 := by omega
    have fe4 : nv β 4 = 4 := by omega
    have fe6 : nv β 6 = 2 := by omega
    have fe7 : nv β 7 = 578 := by omega
    have fe8 : nv β 8 = 4 := by omega
    have fe9 : nv β 9 = 3 := by omega
    have fe10 : nv β 10 = 0 := by omega
    try simp only [fe0, fe2, fe4, fe6, fe7, fe8, fe9, fe10, Int.reduceToNat] at f2 f3 f4 f5
    have s0 : nv β 0 = nv α1 0 := nv_le H1.1 (by omega)
    have s1 : nv β 1 = nv α1 1 := nv_le H1.1 (by omega)
    obtain ⟨c0, c1, c2⟩ := f2
    have rt3 := hf_rt (c := 578) (lo := 0) (hi := 199) (base := 579) (rv := 2) (iv := 1) (n := 3) (by decide +kernel) (by decide +kernel) H1 (by decide +kernel) (by omega) (by omega) (by omega)
    have o2 := old_i c2 (en_nv (i := 5) H1.2.1 rfl).1
    refine hd_retI G (v := 10) (by decide +kernel) (as_backM H1 (by decide +kernel) hxa hf) _ List.mem_cons_self rfl (by decide +kernel) (by decide) (fun w hw => ?_)
    rcases List.mem_singleton.mp hw with rfl
    have g1' := (en_nv (i := 1) H0.2.1 rfl).1
    refine ⟨_, _, g1', g1', ?_⟩
    rw [wd_fl2, if_neg (by decide)]
    show nv β 10 = b2i (¬ mjk (vF S) (nv xs 1).toNat 4 < 2)
    rw [mjk_v (by omega) (by decide), show 579 + (nv xs 1).toNat = (nv β 3).toNat by omega, o2]
    unfold b2i
    split <;> omega
  · obtain ⟨f1, f2, f3, f4, f5⟩ := as_fx H1
    simp only [kh_isOver_b0_2, Nat.reduceEqDiff, if_false, fx_env, fx_c, fx_ne, fx_hf, wl_S, Nat.zero_add, Nat.reduceAdd, Nat.reduceDiv, Nat.reduceMod, List.getElem?_cons_zero, List.getElem?_cons_succ, if_true, and_true, true_and] at f1 f2 f3 f4 f5
    have fe0 : nv β 0 = 572 := by omega
    have fe2 : nv β 2 = 578 := by omega
    have fe4 : nv β 4 = 4 := by omega
    have fe5 : nv β 5 = 3 := by omega
    have fe6 : nv β 6 = 2 := by omega
    have fe7 : nv β 7 = 578 := by omega
    have fe8 : nv β 8 = 4 := by omega
    have fe9 : nv β 9 = 3 := by omega
    have fe10 : nv β 10 = 1 := by omega
    try simp only [fe0, fe2, fe4, fe5, fe6, fe7, fe8, fe9, fe10, Int.reduceToNat] at f2 f3 f4 f5
    have s0 : nv β 0 = nv α1 0 := nv_le H1.1 (by omega)
    have s1 : nv β 1 = nv α1 1 := nv_le H1.1 (by omega)
    obtain ⟨c0, c1, c2⟩ := f2
    have rt3 := hf_rt (c := 578) (lo := 0) (hi := 199) (base := 579) (rv := 2) (iv := 1) (n := 3) (by decide +kernel) (by decide +kernel) H1 (by decide +kernel) (by omega) (by omega) (by omega)
    have o2 := old_i c2 (by have h := (en_nv (i := 5) H1.2.1 rfl).1; rw [fe5] at h; exact h)
    refine hd_retI G (v := 10) (by decide +kernel) (as_backM H1 (by decide +kernel) hxa hf) _ List.mem_cons_self rfl (by decide +kernel) (by decide) (fun w hw => ?_)
    rcases List.mem_singleton.mp hw with rfl
    have g1' := (en_nv (i := 1) H0.2.1 rfl).1
    refine ⟨_, _, g1', g1', ?_⟩
    rw [wd_fl2, if_neg (by decide)]
    show nv β 10 = b2i (¬ mjk (vF S) (nv xs 1).toNat 4 < 2)
    rw [mjk_v (by omega) (by decide), show 579 + (nv xs 1).toNat = (nv β 3).toNat by omega, o2]
    unfold b2i
    split <;> omega)
/- UtilityWorks bit -/
def kh_959 : ct_T := (1, [(0, 1, 1, 0)], [], [], [(1, (0, 1, 1, 0), [(0, 1, 1, 0)], [], ([], []))], [], 0, 0, 0)
theorem kh_959_ok : ct_ok wd_fl2 kh_959 := ct_of (ff := wd_ff2) (y := (⟨"UtilityWorks", "bit", "(Z)I"⟩, prog_1_method_124_code, 1, some .int, 11, 0, 1, 21097, 21096, 0, 21001)) (Cs := []) (an := []) (ss := []) (K := 1) (fuel := 4000) wd_fl2_ok rfl (List.forall_mem_nil _) (by decide +kernel)
abbrev kh_notOver_y : mt_T := (⟨"UtilityWorks$Crews", "notOver", "()I"⟩, prog_3_method_5_code, 3, some .int, 1, 1, 0, 25029, 25027, 25028, 21011)
def kh_notOver : ct_T := (80, [(2, 572, 572, 1)], [], [], [(1, (0, 0, 200, 1), [(2, 572, 572, 1)], [], ([], [(1042, 0, 0)]))], [], 1, 21, 0)
def kh_notOver_a4 : an_T := (4, 0, ([((2, 572, 572, 1), none), ((0, 0, 201, 1), none), ((0, 0, 200, 1), none)], [(0, 0), (1, 1), (2, 2)], [], [], [], [], [], [], none), [])
def kh_notOver_b0_0 : sg_T := (4, 0, ([((2, 572, 572, 1), none), ((0, 0, 0, 0), none), ((0, 0, 0, 0), none)], [(2, 2), (1, 1), (0, 0)], [], [], [], [], [], [], some []))
def kh_notOver_b4_0 : sg_T := (38, 0, ([((2, 572, 572, 1), none), ((0, 0, 200, 1), none), ((0, 0, 200, 1), none), ((0, 2, 2, 0), none), ((0, 0, 200, 1), none)], [(0, 0), (1, 1), (2, 2)], [1], [(0, 3, 4)], [], [(200000, 4, 2), (800004, 0, 3)], [], [], some []))
def kh_notOver_b4_1 : sg_T := (4, 0, ([((2, 572, 572, 1), none), ((0, 0, 200, 1), none), ((0, 0, 199, 1), none), ((0, 2, 2, 0), none), ((0, 1, 200, 1), none), ((0, 1, 1, 1), none), ((0, 0, 0, 0), none), ((0, 0, 0, 0), none), ((0, 0, 200, 1), some (1, 0)), ((0, 1, 200, 1), some (2, 1))], [(2, 9), (1, 8), (0, 0)], [], [(0, 3, 4)], [(5, 0)], [(500008, 1, 7), (104100005, 2, 2), (100000, 2, 4), (800004, 0, 3)], [], [], some []))
def kh_notOver_b4_2 : sg_T := (4, 0, ([((2, 572, 572, 1), none), ((0, 0, 200, 1), none), ((0, 0, 199, 1), none), ((0, 2, 2, 0), none), ((0, 1, 200, 1), none), ((0, 0, 0, 1), none), ((0, 1, 1, 0), none), ((0, 1, 1, 0), none), ((0, 1, 201, 1), some (1, 1)), ((0, 1, 200, 1), some (2, 1))], [(2, 9), (1, 8), (0, 0)], [], [(0, 3, 4)], [], [(500008, 1, 7), (104100005, 2, 2), (100000, 2, 4), (800004, 0, 3)], [], [], some []))
def kh_notOver_I (l : Launch) (D : va_G) (tc : Nat → ClassId) (ad : Nat → Nat) (kd : Nat → Nat × Nat) (N : Nat) (sm : Nat → Nat) (xs : List av_X) (S : fw_S) (p : Program) (e : Env) (s : State) (m : MethodId) (args : Array Value) (below : List Frame) (meth : Method) (c : Code) (sz : Nat) (k : Nat) : Prop := (∀ (α : List av_X) (lv : List (Nat × Value)) (S1 : fw_S), as_in ad sm wd_fl2 xs S kh_notOver.2.2.2.2.2.1 α kh_notOver_a4.2.2.1 lv [] S1 → (nv α 2 ≤ (S1.1 572 2).toInt ∧ nv α 1 = opS (vF S1) (nv α 2).toNat) → (200 - nv α 2).toNat < k → hd_W wd_fl2 kh_notOver kh_notOver_y l D tc ad kd N sm xs S p e s m args below meth c sz 4 lv [] S1 0) ∧ True
set_option maxHeartbeats 16000000 in
set_option maxRecDepth 8000 in
theorem kh_notOver_h4 {l : Launch} {D : va_G} {tc : Nat → ClassId} {ad : Nat → Nat} {kd : Nat → Nat × Nat} {N : Nat} {sm : Nat → Nat} {xs : List av_X} {S : fw_S} {p : Program} {e : Env} {s : State} {m : MethodId} {args : Array Value} {below : List Frame} {meth : Method} {c : Code} {sz : Nat} {lvE : List (Nat × Value)} (G : hd_C wd_ff2 wd_fl2 kh_notOver [kh_isOver, kh_926, kh_959] kh_notOver_y l D tc ad kd N sm xs p s m args meth c sz) (H0 : as_in ad sm wd_fl2 xs S kh_notOver.2.2.2.2.2.1 xs (hd_0 kh_notOver) lvE [] S) {k : Nat} (ih : kh_notOver_I l D tc ad kd N sm xs S p e s m args below meth c sz k) : (∀ (α : List av_X) (lv : List (Nat × Value)) (S1 : fw_S), as_in ad sm wd_fl2 xs S kh_notOver.2.2.2.2.2.1 α kh_notOver_a4.2.2.1 lv [] S1 → (nv α 2 ≤ (S1.1 572 2).toInt ∧ nv α 1 = opS (vF S1) (nv α 2).toNat) → (200 - nv α 2).toNat < k + 1 → hd_W wd_fl2 kh_notOver kh_notOver_y l D tc ad kd N sm xs S p e s m args below meth c sz 4 lv [] S1 0) := by
  have hx : xs.length = 1 := by rw [H0.2.1.1]; rfl
  intro α lv S1 H hp hk
  have bp := (en_nv (i := 1) H.2.1 rfl).2
  change 0 ≤ nv α 1 ∧ nv α 1 ≤ 201 at bp
  replace H := as_clamp (i := 1) (lo := 0) (hi := 200) H rfl rfl (by have hb := opS_bd (f := vF S1) (n := (nv α 2).toNat); have b2 := (en_nv (i := 2) H.2.1 rfl).2; change 0 ≤ nv α 2 ∧ nv α 2 ≤ 200 at b2; have := hp.2; omega) (by have hb := opS_bd (f := vF S1) (n := (nv α 2).toNat); have b2 := (en_nv (i := 2) H.2.1 rfl).2; change 0 ≤ nv α 2 ∧ nv α 2 ≤ 200 at b2; have := hp.2; omega) (by decide)
  obtain ⟨α1, hle, Hr⟩ := as_recM (pl := []) [] (by decide +kernel) H
  have hf := H.2.2.2.2.2.2.2.2.2.2.1
  have hl1 : α1.length = 3 := by rw [Hr.2.1.1]; rfl
  have hl0 : α.length = 3 := by rw [H.2.1.1]; rfl
  have hxa : al_le xs α1 := H.1.trans hle
  obtain ⟨g1, -, g3, g4, -⟩ := as_fx Hr
  have g0 : (572 ≤ nv α1 0 ∧ nv α1 0 ≤ 572) ∧ (0 ≤ nv α1 1 ∧ nv α1 1 ≤ 200) ∧ (0 ≤ nv α1 2 ∧ nv α1 2 ≤ 200) ∧ True := by
    refine ⟨by have h := (en_nv (i := 0) Hr.2.1 rfl).2; exact h, by have h := (en_nv (i := 1) Hr.2.1 rfl).2; exact h, by have h := (en_nv (i := 2) Hr.2.1 rfl).2; exact h, trivial⟩
  have r0 : nv α1 0 = nv α 0 := nv_le hle (by omega)
  have r1 : nv α1 1 = nv α 1 := nv_le hle (by omega)
  have r2 : nv α1 2 = nv α 2 := nv_le hle (by omega)
  refine hd_segM G (na := 3) (fuel := 600) (first := true) (Bs := [kh_notOver_b4_0, kh_notOver_b4_1, kh_notOver_b4_2]) (by decide +kernel) hl1 Hr ?_
  intro q hq β lv' st' S' H1
  simp only [List.mem_cons, List.not_mem_nil, or_false] at hq
  rcases hq with rfl | rfl | rfl
  · obtain ⟨f1, f2, f3, f4, f5⟩ := as_fx H1
    simp only [kh_notOver_b4_0, Nat.reduceEqDiff, if_false, fx_env, fx_c, fx_ne, fx_hf, wl_S, Nat.zero_add, Nat.reduceAdd, Nat.reduceDiv, Nat.reduceMod, List.getElem?_cons_zero, List.getElem?_cons_succ, if_true, and_true, true_and] at f1 f2 f3 f4 f5
    have fe0 : nv β 0 = 572 := by omega
    have fe3 : nv β 3 = 2 := by omega
    try simp only [fe0, fe3, Int.reduceToNat] at f2 f3 f4 f5
    have s0 : nv β 0 = nv α1 0 := nv_le H1.1 (by omega)
    have s1 : nv β 1 = nv α1 1 := nv_le H1.1 (by omega)
    have s2 : nv β 2 = nv α1 2 := nv_le H1.1 (by omega)
    obtain ⟨c0, c1⟩ := f2
    have o1 := old_i c1 (en_nv (i := 4) H1.2.1 rfl).1
    have eS : S1 = S := fr_same (show fr_in [] S S1 from hf)
    refine hd_retI G (v := 1) (by decide +kernel) (as_backM H1 (by decide +kernel) hxa hf) _ List.mem_cons_self rfl (by decide +kernel) (by decide) (fun w hw => ?_)
    rcases List.mem_singleton.mp hw with rfl
    have g0' := (en_nv (i := 0) H0.2.1 rfl).1
    refine ⟨_, _, g0', g0', ?_⟩
    rw [wd_fl2, if_neg (by decide)]
    show nv β 1 = opS (vF S) (S.1 572 2).toInt.toNat
    rw [← eS, o1, show (nv β 4).toNat = (nv α 2).toNat by omega, s1, r1]
    exact hp.2
  · have hst := st_nil H1 rfl
    subst hst
    obtain ⟨f1, f2, f3, f4, f5⟩ := as_fx H1
    simp only [kh_notOver_b4_1, Nat.reduceEqDiff, if_false, fx_env, fx_c, fx_ne, fx_hf, wl_S, Nat.zero_add, Nat.reduceAdd, Nat.reduceDiv, Nat.reduceMod, List.getElem?_cons_zero, List.getElem?_cons_succ, if_true, and_true, true_and] at f1 f2 f3 f4 f5
    have fe0 : nv β 0 = 572 := by omega
    have fe3 : nv β 3 = 2 := by omega
    have fe5 : nv β 5 = 1 := by omega
    have fe6 : nv β 6 = 0 := by omega
    have fe7 : nv β 7 = 0 := by omega
    try simp only [fe0, fe3, fe5, fe6, fe7, Int.reduceToNat] at f2 f3 f4 f5
    have s0 : nv β 0 = nv α1 0 := nv_le H1.1 (by omega)
    have s1 : nv β 1 = nv α1 1 := nv_le H1.1 (by omega)
    have s2 : nv β 2 = nv α1 2 := nv_le H1.1 (by omega)
    obtain ⟨c0, c1, c2, c3⟩ := f2
    obtain ⟨α', Ha, hm⟩ := hd_gpM (q := kh_notOver_a4) (n := 0) (by decide +kernel) hx H1 (by decide +kernel) hxa hf
    have hfr := H1.2.2.2.2.2.2.2.2.2.2.1
    have m0 : nv α' 0 = nv β 0 := hm 0 0 rfl
    have m1 : nv α' 1 = nv β 8 := hm 1 8 rfl
    have m2 : nv α' 2 = nv β 9 := hm 2 9 rfl
    subst S'
    have o3 := old_i c3 (en_nv (i := 4) H1.2.1 rfl).1
    have d1 := c1
    simp only [wd_fl2, if_neg (show ¬ (wd_base1 1041 = true) by decide)] at d1
    unfold b2i at d1
    have h2 := hp.2
    rw [← r1, ← s1, ← r2, ← s2] at h2
    refine ih.1 _ _ _ Ha ?_ ?_
    · rw [m1, m2]
      refine ⟨by rw [o3]; omega, ?_⟩
      rw [show (nv β 9).toNat = (nv β 2).toNat + 1 by omega]
      show nv β 8 = opS (vF S1) (nv β 2).toNat + (if mjk (vF S1) (nv β 2).toNat 4 < 2 then 1 else 0)
      by_cases e : mjk (vF S1) (nv β 2).toNat 4 < 2
      · rw [if_neg (fun q => q e)] at d1
        rw [if_pos e]
        omega
      · rw [if_pos e] at d1
        rw [if_neg e]
        omega
    · omega
  · have hst := st_nil H1 rfl
    subst hst
    obtain ⟨f1, f2, f3, f4, f5⟩ := as_fx H1
    simp only [kh_notOver_b4_2, Nat.reduceEqDiff, if_false, fx_env, fx_c, fx_ne, fx_hf, wl_S, Nat.zero_add, Nat.reduceAdd, Nat.reduceDiv, Nat.reduceMod, List.getElem?_cons_zero, List.getElem?_cons_succ, if_true, and_true, true_and] at f1 f2 f3 f4 f5
    have fe0 : nv β 0 = 572 := by omega
    have fe3 : nv β 3 = 2 := by omega
    have fe5 : nv β 5 = 0 := by omega
    have fe6 : nv β 6 = 1 := by omega
    have fe7 : nv β 7 = 1 := by omega
    try simp only [fe0, fe3, fe5, fe6, fe7, Int.reduceToNat] at f2 f3 f4 f5
    have s0 : nv β 0 = nv α1 0 := nv_le H1.1 (by omega)
    have s1 : nv β 1 = nv α1 1 := nv_le H1.1 (by omega)
    have s2 : nv β 2 = nv α1 2 := nv_le H1.1 (by omega)
    obtain ⟨c0, c1, c2, c3⟩ := f2
    obtain ⟨α', Ha, hm⟩ := hd_gpM (q := kh_notOver_a4) (n := 0) (by decide +kernel) hx H1 (by decide +kernel) hxa hf
    have hfr := H1.2.2.2.2.2.2.2.2.2.2.1
    have m0 : nv α' 0 = nv β 0 := hm 0 0 rfl
    have m1 : nv α' 1 = nv β 8 := hm 1 8 rfl
    have m2 : nv α' 2 = nv β 9 := hm 2 9 rfl
    subst S'
    have o3 := old_i c3 (en_nv (i := 4) H1.2.1 rfl).1
    have d1 := c1
    simp only [wd_fl2, if_neg (show ¬ (wd_base1 1041 = true) by decide)] at d1
    unfold b2i at d1
    have h2 := hp.2
    rw [← r1, ← s1, ← r2, ← s2] at h2
    refine ih.1 _ _ _ Ha ?_ ?_
    · rw [m1, m2]
      refine ⟨by rw [o3]; omega, ?_⟩
      rw [show (nv β 9).toNat = (nv β 2).toNat + 1 by omega]
      show nv β 8 = opS (vF S1) (nv β 2).toNat + (if mjk (vF S1) (nv β 2).toNat 4 < 2 then 1 else 0)
      by_cases e : mjk (vF S1) (nv β 2).toNat 4 < 2
      · rw [if_neg (fun q => q e)] at d1
        rw [if_pos e]
        omega
      · rw [if_pos e] at d1
        rw [if_neg e]
        omega
    · omega
set_option maxHeartbeats 16000000 in
set_option maxRecDepth 8000 in
theorem kh_notOver_ok : ct_ok wd_fl2 kh_notOver := ct_hand (ff := wd_ff2) (y := kh_notOver_y) (Cs := [kh_isOver, kh_926, kh_959]) wd_fl2_ok rfl (List.forall_mem_cons.mpr ⟨kh_isOver_ok, (List.forall_mem_cons.mpr ⟨kh_926_ok, (List.forall_mem_cons.mpr ⟨kh_959_ok, (List.forall_mem_nil _)⟩)⟩)⟩) (by decide +kernel) (fun l D tc ad kd N sm xs S p e s m args below meth c sz lv G H0 => by
  have hx : xs.length = 1 := by rw [H0.2.1.1]; rfl
  have hP : ∀ (k : Nat), kh_notOver_I l D tc ad kd N sm xs S p e s m args below meth c sz k := by
    intro k
    induction k with
    | zero => exact ⟨fun _ _ _ _ _ h => absurd h (Nat.not_lt_zero _), trivial⟩
    | succ k ih => exact ⟨kh_notOver_h4 G H0 ih, trivial⟩
  obtain ⟨α1, hle, Hr⟩ := as_recM (pl := []) [] (by decide +kernel) H0
  have hf := H0.2.2.2.2.2.2.2.2.2.2.1
  have hl1 : α1.length = 1 := by rw [Hr.2.1.1]; rfl
  have hl0 : xs.length = 1 := by rw [H0.2.1.1]; rfl
  have hxa : al_le xs α1 := H0.1.trans hle
  obtain ⟨g1, -, g3, g4, -⟩ := as_fx Hr
  have g0 : (572 ≤ nv α1 0 ∧ nv α1 0 ≤ 572) ∧ True := by
    refine ⟨by have h := (en_nv (i := 0) Hr.2.1 rfl).2; exact h, trivial⟩
  have r0 : nv α1 0 = nv xs 0 := nv_le hle (by omega)
  refine hd_segM G (na := 1) (fuel := 600) (first := true) (Bs := [kh_notOver_b0_0]) (by decide +kernel) hl1 Hr ?_
  intro q hq β lv' st' S' H1
  simp only [List.mem_cons, List.not_mem_nil, or_false] at hq
  rcases hq with rfl
  · have hst := st_nil H1 rfl
    subst hst
    obtain ⟨f1, f2, f3, f4, f5⟩ := as_fx H1
    simp only [kh_notOver_b0_0, Nat.reduceEqDiff, if_false, fx_env, fx_c, fx_ne, fx_hf, wl_S, Nat.zero_add, Nat.reduceAdd, Nat.reduceDiv, Nat.reduceMod, List.getElem?_cons_zero, List.getElem?_cons_succ, if_true, and_true, true_and] at f1 f2 f3 f4 f5
    have fe0 : nv β 0 = 572 := by omega
    have fe1 : nv β 1 = 0 := by omega
    have fe2 : nv β 2 = 0 := by omega
    try simp only [fe0, fe1, fe2, Int.reduceToNat] at f2 f3 f4 f5
    have s0 : nv β 0 = nv α1 0 := nv_le H1.1 (by omega)
    obtain ⟨α', Ha, hm⟩ := hd_gpM (q := kh_notOver_a4) (n := 0) (by decide +kernel) hx H1 (by decide +kernel) hxa hf
    have hfr := H1.2.2.2.2.2.2.2.2.2.2.1
    have m0 : nv α' 0 = nv β 0 := hm 0 0 rfl
    have m1 : nv α' 1 = nv β 1 := hm 1 1 rfl
    have m2 : nv α' 2 = nv β 2 := hm 2 2 rfl
    subst S'

    refine (hP _).1 _ _ _ Ha ?_ (Nat.lt_succ_self _)
    · rw [m1, m2]
      have hb := rg_bd1 (q_rg_in (q := ((572, 572), (2, 2, 0), (0, 0, 200, 1))) (by decide +kernel) Ha)
      refine ⟨by omega, ?_⟩
      rw [show (nv β 2).toNat = 0 by omega]
      show nv β 1 = 0
      omega)
abbrev kh_tellJoba_y : mt_T := (⟨"UtilityWorks$Crews", "tellJob", "(IIII)I"⟩, prog_3_method_7_code, 6, some .int, 1, 1, 4, 27117, 27115, 27116, 21011)
def kh_tellJoba : ct_T := (177, [(2, 572, 572, 1), (0, 0, 3, 1), (0, 0, 2, 1), (0, 0, 16, 1), (0, 0, 9, 1)], [], [520, 521], [(1, (0, 0, 199, 1), [(2, 572, 572, 1), (0, 0, 3, 1), (0, 0, 2, 1), (0, 0, 16, 1), (0, 0, 9, 1)], [], ([520, 521], [])), (1, (0, (-1), (-1), 0), [(2, 572, 572, 1), (0, 0, 3, 1), (0, 0, 2, 1), (0, 0, 16, 1), (0, 0, 9, 1)], [], ([520, 521], []))], [((572, 572), (2, 2, 0)), ((579, 778), (0, 0, 0)), ((579, 778), (1, 1, 0)), ((579, 778), (2, 2, 0)), ((579, 778), (3, 3, 0)), ((579, 778), (4, 4, 0)), ((579, 778), (5, 5, 0))], 2, 43, 0)
def kh_tellJoba_b0_0 : sg_T := (20, 0, ([((2, 572, 572, 1), none), ((0, 0, 3, 1), none), ((0, 0, 2, 1), none), ((0, 0, 16, 1), none), ((0, 0, 9, 1), none), ((0, 2, 2, 0), none), ((0, 200, 200, 1), none), ((0, 200, 200, 0), none), ((0, (-1), (-1), 0), none)], [(0, 0), (1, 1), (2, 2), (3, 3), (4, 4)], [8], [(0, 5, 6)], [], [(200000, 7, 6), (800006, 0, 5)], [], [520, 521], some []))
def kh_tellJoba_b0_1 : sg_T := (79, 0, ([((2, 572, 572, 1), none), ((0, 0, 3, 1), none), ((0, 0, 2, 1), none), ((0, 0, 16, 1), none), ((0, 0, 9, 1), none), ((0, 2, 2, 0), none), ((0, 0, 199, 1), none), ((0, 200, 200, 0), none), ((0, 0, 15, 1), none), ((0, 16, 16, 0), none), ((2, 578, 578, 1), none), ((0, 2, 2, 0), none), ((2, 579, 778, 1), none), ((0, 0, 0, 0), none), ((0, 1, 1, 0), none), ((0, 2, 2, 0), none), ((0, 3, 3, 0), none), ((0, 4, 4, 0), none), ((0, 0, 0, 0), none), ((0, 5, 5, 0), none), ((0, (-1), (-1), 0), none), ((0, 2, 2, 0), none), ((0, 1, 1, 0), none), ((0, 1, 200, 1), some (6, 1)), ((0, 2, 2, 0), none), ((0, 2, 2, 0), none), ((0, 1, 1, 0), none), ((0, 0, 199, 1), some (6, 0))], [(5, 12), (0, 0), (1, 1), (2, 2), (3, 3), (4, 4)], [27], [(0, 24, 23), (12, 19, 20), (12, 17, 18), (12, 16, 4), (12, 15, 3), (12, 14, 2), (12, 13, 1), (10, 6, 12)], [], [(600027, 23, 26), (500023, 6, 22), (100000, 8, 9), (104200008, 0, 0), (100000, 6, 7), (800006, 0, 5)], [], [], some [(0, 24, 23), (12, 19, 20), (12, 17, 18), (12, 16, 4), (12, 15, 3), (12, 14, 2), (12, 13, 1)]))
def kh_tellJoba_b0_2 : sg_T := (20, 0, ([((2, 572, 572, 1), none), ((0, 0, 3, 1), none), ((0, 0, 2, 1), none), ((0, 0, 16, 1), none), ((0, 0, 9, 1), none), ((0, 2, 2, 0), none), ((0, 0, 199, 1), none), ((0, 200, 200, 0), none), ((0, 16, 200, 1), none), ((0, 16, 16, 0), none), ((0, (-1), (-1), 0), none)], [(0, 0), (1, 1), (2, 2), (3, 3), (4, 4)], [10], [(0, 5, 6)], [], [(200000, 9, 8), (104200008, 0, 0), (100000, 6, 7), (800006, 0, 5)], [], [520, 521], some []))
set_option maxHeartbeats 16000000 in
set_option maxRecDepth 8000 in
theorem kh_tellJoba_ok : ct_ok wd_fl2 kh_tellJoba := ct_hand (ff := wd_ff2) (y := kh_tellJoba_y) (Cs := [kh_notOver]) wd_fl2_ok rfl (List.forall_mem_cons.mpr ⟨kh_notOver_ok, (List.forall_mem_nil _)⟩) (by decide +kernel) (fun l D tc ad kd N sm xs S p e s m args below meth c sz lv G H0 => by
  have hx : xs.length = 5 := by rw [H0.2.1.1]; rfl
  have q520 : jbW S := by
    have h := H0.2.2.2.2.2.2.2.2.1 520 (by decide +kernel)
    rw [wd_fl2, if_neg (by decide)] at h
    exact h
  have q521 : crewF (vF S) := by
    have h := H0.2.2.2.2.2.2.2.2.1 521 (by decide +kernel)
    rw [wd_fl2, if_neg (by decide)] at h
    exact h
  obtain ⟨α1, hle, Hr⟩ := as_recM (pl := []) [((572, 572), (2, 2, 0)), ((579, 778), (0, 0, 0)), ((579, 778), (1, 1, 0)), ((579, 778), (2, 2, 0)), ((579, 778), (3, 3, 0)), ((579, 778), (4, 4, 0)), ((579, 778), (5, 5, 0))] (by decide +kernel) H0
  have hf := H0.2.2.2.2.2.2.2.2.2.2.1
  have hl1 : α1.length = 5 := by rw [Hr.2.1.1]; rfl
  have hl0 : xs.length = 5 := by rw [H0.2.1.1]; rfl
  have hxa : al_le xs α1 := H0.1.trans hle
  obtain ⟨g1, -, g3, g4, -⟩ := as_fx Hr
  have g0 : (572 ≤ nv α1 0 ∧ nv α1 0 ≤ 572) ∧ (0 ≤ nv α1 1 ∧ nv α1 1 ≤ 3) ∧ (0 ≤ nv α1 2 ∧ nv α1 2 ≤ 2) ∧ (0 ≤ nv α1 3 ∧ nv α1 3 ≤ 16) ∧ (0 ≤ nv α1 4 ∧ nv α1 4 ≤ 9) ∧ True := by
    refine ⟨by have h := (en_nv (i := 0) Hr.2.1 rfl).2; exact h, by have h := (en_nv (i := 1) Hr.2.1 rfl).2; exact h, by have h := (en_nv (i := 2) Hr.2.1 rfl).2; exact h, by have h := (en_nv (i := 3) Hr.2.1 rfl).2; exact h, by have h := (en_nv (i := 4) Hr.2.1 rfl).2; exact h, trivial⟩
  have r0 : nv α1 0 = nv xs 0 := nv_le hle (by omega)
  have r1 : nv α1 1 = nv xs 1 := nv_le hle (by omega)
  have r2 : nv α1 2 = nv xs 2 := nv_le hle (by omega)
  have r3 : nv α1 3 = nv xs 3 := nv_le hle (by omega)
  have r4 : nv α1 4 = nv xs 4 := nv_le hle (by omega)
  refine hd_segM G (na := 5) (fuel := 600) (first := true) (Bs := [kh_tellJoba_b0_0, kh_tellJoba_b0_1, kh_tellJoba_b0_2]) (by decide +kernel) hl1 Hr ?_
  intro q hq β lv' st' S' H1
  simp only [List.mem_cons, List.not_mem_nil, or_false] at hq
  rcases hq with rfl | rfl | rfl
  · obtain ⟨f1, f2, f3, f4, f5⟩ := as_fx H1
    simp only [kh_tellJoba_b0_0, Nat.reduceEqDiff, if_false, fx_env, fx_c, fx_ne, fx_hf, wl_S, Nat.zero_add, Nat.reduceAdd, Nat.reduceDiv, Nat.reduceMod, List.getElem?_cons_zero, List.getElem?_cons_succ, if_true, and_true, true_and] at f1 f2 f3 f4 f5
    have fe0 : nv β 0 = 572 := by omega
    have fe5 : nv β 5 = 2 := by omega
    have fe6 : nv β 6 = 200 := by omega
    have fe7 : nv β 7 = 200 := by omega
    have fe8 : nv β 8 = (-1) := by omega
    try simp only [fe0, fe5, fe6, fe7, fe8, Int.reduceToNat] at f2 f3 f4 f5
    have s0 : nv β 0 = nv α1 0 := nv_le H1.1 (by omega)
    have s1 : nv β 1 = nv α1 1 := nv_le H1.1 (by omega)
    have s2 : nv β 2 = nv α1 2 := nv_le H1.1 (by omega)
    have s3 : nv β 3 = nv α1 3 := nv_le H1.1 (by omega)
    have s4 : nv β 4 = nv α1 4 := nv_le H1.1 (by omega)
    obtain ⟨c0, c1⟩ := f2
    exact hd_run G (ss := []) (fuel := 20) (by decide +kernel) (as_backM H1 (by decide +kernel) hxa hf)
  · obtain ⟨f1, f2, f3, f4, f5⟩ := as_fx H1
    simp only [kh_tellJoba_b0_1, Nat.reduceEqDiff, if_false, fx_env, fx_c, fx_ne, fx_hf, wl_S, Nat.zero_add, Nat.reduceAdd, Nat.reduceDiv, Nat.reduceMod, List.getElem?_cons_zero, List.getElem?_cons_succ, if_true, and_true, true_and] at f1 f2 f3 f4 f5
    have fe0 : nv β 0 = 572 := by omega
    have fe5 : nv β 5 = 2 := by omega
    have fe7 : nv β 7 = 200 := by omega
    have fe9 : nv β 9 = 16 := by omega
    have fe10 : nv β 10 = 578 := by omega
    have fe11 : nv β 11 = 2 := by omega
    have fe13 : nv β 13 = 0 := by omega
    have fe14 : nv β 14 = 1 := by omega
    have fe15 : nv β 15 = 2 := by omega
    have fe16 : nv β 16 = 3 := by omega
    have fe17 : nv β 17 = 4 := by omega
    have fe18 : nv β 18 = 0 := by omega
    have fe19 : nv β 19 = 5 := by omega
    have fe20 : nv β 20 = (-1) := by omega
    have fe21 : nv β 21 = 2 := by omega
    have fe22 : nv β 22 = 1 := by omega
    have fe24 : nv β 24 = 2 := by omega
    have fe25 : nv β 25 = 2 := by omega
    have fe26 : nv β 26 = 1 := by omega
    try simp only [fe0, fe5, fe7, fe9, fe10, fe11, fe13, fe14, fe15, fe16, fe17, fe18, fe19, fe20, fe21, fe22, fe24, fe25, fe26, Int.reduceToNat] at f2 f3 f4 f5
    have s0 : nv β 0 = nv α1 0 := nv_le H1.1 (by omega)
    have s1 : nv β 1 = nv α1 1 := nv_le H1.1 (by omega)
    have s2 : nv β 2 = nv α1 2 := nv_le H1.1 (by omega)
    have s3 : nv β 3 = nv α1 3 := nv_le H1.1 (by omega)
    have s4 : nv β 4 = nv α1 4 := nv_le H1.1 (by omega)
    obtain ⟨c0, c1, c2, c3, c4, c5⟩ := f2
    have rt12 := hf_rt (c := 578) (lo := 0) (hi := 199) (base := 579) (rv := 10) (iv := 6) (n := 12) (by decide +kernel) (by decide +kernel) H1 (by decide +kernel) (by omega) (by omega) (by omega)
    have o5 := old_i c5 (en_nv (i := 6) H1.2.1 rfl).1
    have d3 := c3
    simp only [wd_fl2, if_neg (show ¬ (wd_base1 1042 = true) by decide)] at d3
    have wA : ∀ a b : Nat, S'.1 a b = (if a = 572 ∧ b = 2 then Int32.ofInt (nv β 23) else (if a = (nv β 12).toNat ∧ b = 5 then Int32.ofInt ((-1)) else (if a = (nv β 12).toNat ∧ b = 4 then Int32.ofInt (0) else (if a = (nv β 12).toNat ∧ b = 3 then Int32.ofInt (nv β 4) else (if a = (nv β 12).toNat ∧ b = 2 then Int32.ofInt (nv β 3) else (if a = (nv β 12).toNat ∧ b = 1 then Int32.ofInt (nv β 2) else (if a = (nv β 12).toNat ∧ b = 0 then Int32.ofInt (nv β 1) else (S.1 a b)))))))) := fun a b => by rw [f5]; rfl
    have hr : roomF (vF S) := by
      refine ⟨by unfold jobsN; rw [vF_j]; omega, by unfold jobsN; rw [vF_j]; omega, ?_⟩
      unfold opF
      rw [vF_j, ← d3]
      omega
    have hg : crewF (vF S') := by
      refine crew_add (f := vF S) (j := (nv β 6).toNat) q521 hr ?_ ?_ ?_ (fun k' hk' => ?_) (fun j' w hj' hw hne' => ?_) (fun h4 => ?_) ?_
      · rw [vF_c, vF_c, wA]; (repeat' split) <;> first | (exfalso; omega) | rfl | (rw [i32_of (by omega) (by omega)] <;> omega) | omega
      · rw [vF_j, vF_j, wA]; (repeat' split) <;> first | (exfalso; omega) | rfl | (rw [i32_of (by omega) (by omega)] <;> omega) | omega
      · rw [vF_j]; omega
      · rw [mck_v hk' (by omega), mck_v hk' (by omega), wA]; (repeat' split) <;> first | (exfalso; omega) | rfl | (rw [i32_of (by omega) (by omega)] <;> omega) | omega
      · rw [mjk_v hj' (by omega), mjk_v hj' (by omega), wA]; (repeat' split) <;> first | (exfalso; omega) | rfl | (rw [i32_of (by omega) (by omega)] <;> omega) | omega
      · have e0 : mjk (vF S') (nv β 6).toNat 0 = nv β 1 := by rw [mjk_v (by omega) (by omega), wA]; (repeat' split) <;> first | (exfalso; omega) | rfl | (rw [i32_of (by omega) (by omega)] <;> omega) | omega
        rw [e0] at h4
        rw [mjk_v (by omega) (by omega), wA]; (repeat' split) <;> first | (exfalso; omega) | rfl | (rw [i32_of (by omega) (by omega)] <;> omega) | omega
      · rw [mjk_v (by omega) (by omega), wA]; (repeat' split) <;> first | (exfalso; omega) | rfl | (rw [i32_of (by omega) (by omega)] <;> omega) | omega
    have hb : jbW S' := fun j hj h4 => by
      have h := hg.2.2.1 j hj
      rw [mjk_v hj (by omega), mjk_v hj (by omega)] at h
      exact h h4
    exact hd_run G (ss := []) (fuel := 20) (by decide +kernel) (as_fl_in (f := [520, 521]) (as_backM H1 (by decide +kernel) hxa hf) (fun g hg0 => by
      rcases List.mem_cons.mp hg0 with rfl | hg0
      · rw [wd_fl2, if_neg (by decide)]; exact hb
      rcases List.mem_singleton.mp hg0 with rfl
      rw [wd_fl2, if_neg (by decide)]; exact hg))
  · obtain ⟨f1, f2, f3, f4, f5⟩ := as_fx H1
    simp only [kh_tellJoba_b0_2, Nat.reduceEqDiff, if_false, fx_env, fx_c, fx_ne, fx_hf, wl_S, Nat.zero_add, Nat.reduceAdd, Nat.reduceDiv, Nat.reduceMod, List.getElem?_cons_zero, List.getElem?_cons_succ, if_true, and_true, true_and] at f1 f2 f3 f4 f5
    have fe0 : nv β 0 = 572 := by omega
    have fe5 : nv β 5 = 2 := by omega
    have fe7 : nv β 7 = 200 := by omega
    have fe9 : nv β 9 = 16 := by omega
    have fe10 : nv β 10 = (-1) := by omega
    try simp only [fe0, fe5, fe7, fe9, fe10, Int.reduceToNat] at f2 f3 f4 f5
    have s0 : nv β 0 = nv α1 0 := nv_le H1.1 (by omega)
    have s1 : nv β 1 = nv α1 1 := nv_le H1.1 (by omega)
    have s2 : nv β 2 = nv α1 2 := nv_le H1.1 (by omega)
    have s3 : nv β 3 = nv α1 3 := nv_le H1.1 (by omega)
    have s4 : nv β 4 = nv α1 4 := nv_le H1.1 (by omega)
    obtain ⟨c0, c1, c2, c3⟩ := f2
    exact hd_run G (ss := []) (fuel := 20) (by decide +kernel) (as_backM H1 (by decide +kernel) hxa hf))
abbrev kh_tellJobb_y : mt_T := (⟨"UtilityWorks$Crews", "tellJob", "(IIII)I"⟩, prog_3_method_7_code, 6, some .int, 1, 1, 4, 27117, 27115, 27116, 21011)
def kh_tellJobb : ct_T := (177, [(2, 572, 572, 1), (0, 4, 6, 1), (0, 0, 2, 1), (0, 0, 9, 1), (0, 0, 9, 1)], [], [520, 521], [(1, (0, 0, 199, 1), [(2, 572, 572, 1), (0, 4, 6, 1), (0, 0, 2, 1), (0, 0, 9, 1), (0, 0, 9, 1)], [], ([520, 521], [])), (1, (0, (-1), (-1), 0), [(2, 572, 572, 1), (0, 4, 6, 1), (0, 0, 2, 1), (0, 0, 9, 1), (0, 0, 9, 1)], [], ([520, 521], []))], [((572, 572), (2, 2, 0)), ((579, 778), (0, 0, 0)), ((579, 778), (1, 1, 0)), ((579, 778), (2, 2, 0)), ((579, 778), (3, 3, 0)), ((579, 778), (4, 4, 0)), ((579, 778), (5, 5, 0))], 2, 43, 0)
def kh_tellJobb_b0_0 : sg_T := (20, 0, ([((2, 572, 572, 1), none), ((0, 4, 6, 1), none), ((0, 0, 2, 1), none), ((0, 0, 9, 1), none), ((0, 0, 9, 1), none), ((0, 2, 2, 0), none), ((0, 200, 200, 1), none), ((0, 200, 200, 0), none), ((0, (-1), (-1), 0), none)], [(0, 0), (1, 1), (2, 2), (3, 3), (4, 4)], [8], [(0, 5, 6)], [], [(200000, 7, 6), (800006, 0, 5)], [], [520, 521], some []))
def kh_tellJobb_b0_1 : sg_T := (79, 0, ([((2, 572, 572, 1), none), ((0, 4, 6, 1), none), ((0, 0, 2, 1), none), ((0, 0, 9, 1), none), ((0, 0, 9, 1), none), ((0, 2, 2, 0), none), ((0, 0, 199, 1), none), ((0, 200, 200, 0), none), ((0, 0, 15, 1), none), ((0, 16, 16, 0), none), ((2, 578, 578, 1), none), ((0, 2, 2, 0), none), ((2, 579, 778, 1), none), ((0, 0, 0, 0), none), ((0, 1, 1, 0), none), ((0, 2, 2, 0), none), ((0, 3, 3, 0), none), ((0, 4, 4, 0), none), ((0, 0, 0, 0), none), ((0, 5, 5, 0), none), ((0, (-1), (-1), 0), none), ((0, 2, 2, 0), none), ((0, 1, 1, 0), none), ((0, 1, 200, 1), some (6, 1)), ((0, 2, 2, 0), none), ((0, 2, 2, 0), none), ((0, 1, 1, 0), none), ((0, 0, 199, 1), some (6, 0))], [(5, 12), (0, 0), (1, 1), (2, 2), (3, 3), (4, 4)], [27], [(0, 24, 23), (12, 19, 20), (12, 17, 18), (12, 16, 4), (12, 15, 3), (12, 14, 2), (12, 13, 1), (10, 6, 12)], [], [(600027, 23, 26), (500023, 6, 22), (100000, 8, 9), (104200008, 0, 0), (100000, 6, 7), (800006, 0, 5)], [], [], some [(0, 24, 23), (12, 19, 20), (12, 17, 18), (12, 16, 4), (12, 15, 3), (12, 14, 2), (12, 13, 1)]))
def kh_tellJobb_b0_2 : sg_T := (20, 0, ([((2, 572, 572, 1), none), ((0, 4, 6, 1), none), ((0, 0, 2, 1), none), ((0, 0, 9, 1), none), ((0, 0, 9, 1), none), ((0, 2, 2, 0), none), ((0, 0, 199, 1), none), ((0, 200, 200, 0), none), ((0, 16, 200, 1), none), ((0, 16, 16, 0), none), ((0, (-1), (-1), 0), none)], [(0, 0), (1, 1), (2, 2), (3, 3), (4, 4)], [10], [(0, 5, 6)], [], [(200000, 9, 8), (104200008, 0, 0), (100000, 6, 7), (800006, 0, 5)], [], [520, 521], some []))
set_option maxHeartbeats 16000000 in
set_option maxRecDepth 8000 in
theorem kh_tellJobb_ok : ct_ok wd_fl2 kh_tellJobb := ct_hand (ff := wd_ff2) (y := kh_tellJobb_y) (Cs := [kh_notOver]) wd_fl2_ok rfl (List.forall_mem_cons.mpr ⟨kh_notOver_ok, (List.forall_mem_nil _)⟩) (by decide +kernel) (fun l D tc ad kd N sm xs S p e s m args below meth c sz lv G H0 => by
  have hx : xs.length = 5 := by rw [H0.2.1.1]; rfl
  have q520 : jbW S := by
    have h := H0.2.2.2.2.2.2.2.2.1 520 (by decide +kernel)
    rw [wd_fl2, if_neg (by decide)] at h
    exact h
  have q521 : crewF (vF S) := by
    have h := H0.2.2.2.2.2.2.2.2.1 521 (by decide +kernel)
    rw [wd_fl2, if_neg (by decide)] at h
    exact h
  obtain ⟨α1, hle, Hr⟩ := as_recM (pl := []) [((572, 572), (2, 2, 0)), ((579, 778), (0, 0, 0)), ((579, 778), (1, 1, 0)), ((579, 778), (2, 2, 0)), ((579, 778), (3, 3, 0)), ((579, 778), (4, 4, 0)), ((579, 778), (5, 5, 0))] (by decide +kernel) H0
  have hf := H0.2.2.2.2.2.2.2.2.2.2.1
  have hl1 : α1.length = 5 := by rw [Hr.2.1.1]; rfl
  have hl0 : xs.length = 5 := by rw [H0.2.1.1]; rfl
  have hxa : al_le xs α1 := H0.1.trans hle
  obtain ⟨g1, -, g3, g4, -⟩ := as_fx Hr
  have g0 : (572 ≤ nv α1 0 ∧ nv α1 0 ≤ 572) ∧ (4 ≤ nv α1 1 ∧ nv α1 1 ≤ 6) ∧ (0 ≤ nv α1 2 ∧ nv α1 2 ≤ 2) ∧ (0 ≤ nv α1 3 ∧ nv α1 3 ≤ 9) ∧ (0 ≤ nv α1 4 ∧ nv α1 4 ≤ 9) ∧ True := by
    refine ⟨by have h := (en_nv (i := 0) Hr.2.1 rfl).2; exact h, by have h := (en_nv (i := 1) Hr.2.1 rfl).2; exact h, by have h := (en_nv (i := 2) Hr.2.1 rfl).2; exact h, by have h := (en_nv (i := 3) Hr.2.1 rfl).2; exact h, by have h := (en_nv (i := 4) Hr.2.1 rfl).2; exact h, trivial⟩
  have r0 : nv α1 0 = nv xs 0 := nv_le hle (by omega)
  have r1 : nv α1 1 = nv xs 1 := nv_le hle (by omega)
  have r2 : nv α1 2 = nv xs 2 := nv_le hle (by omega)
  have r3 : nv α1 3 = nv xs 3 := nv_le hle (by omega)
  have r4 : nv α1 4 = nv xs 4 := nv_le hle (by omega)
  refine hd_segM G (na := 5) (fuel := 600) (first := true) (Bs := [kh_tellJobb_b0_0, kh_tellJobb_b0_1, kh_tellJobb_b0_2]) (by decide +kernel) hl1 Hr ?_
  intro q hq β lv' st' S' H1
  simp only [List.mem_cons, List.not_mem_nil, or_false] at hq
  rcases hq with rfl | rfl | rfl
  · obtain ⟨f1, f2, f3, f4, f5⟩ := as_fx H1
    simp only [kh_tellJobb_b0_0, Nat.reduceEqDiff, if_false, fx_env, fx_c, fx_ne, fx_hf, wl_S, Nat.zero_add, Nat.reduceAdd, Nat.reduceDiv, Nat.reduceMod, List.getElem?_cons_zero, List.getElem?_cons_succ, if_true, and_true, true_and] at f1 f2 f3 f4 f5
    have fe0 : nv β 0 = 572 := by omega
    have fe5 : nv β 5 = 2 := by omega
    have fe6 : nv β 6 = 200 := by omega
    have fe7 : nv β 7 = 200 := by omega
    have fe8 : nv β 8 = (-1) := by omega
    try simp only [fe0, fe5, fe6, fe7, fe8, Int.reduceToNat] at f2 f3 f4 f5
    have s0 : nv β 0 = nv α1 0 := nv_le H1.1 (by omega)
    have s1 : nv β 1 = nv α1 1 := nv_le H1.1 (by omega)
    have s2 : nv β 2 = nv α1 2 := nv_le H1.1 (by omega)
    have s3 : nv β 3 = nv α1 3 := nv_le H1.1 (by omega)
    have s4 : nv β 4 = nv α1 4 := nv_le H1.1 (by omega)
    obtain ⟨c0, c1⟩ := f2
    exact hd_run G (ss := []) (fuel := 20) (by decide +kernel) (as_backM H1 (by decide +kernel) hxa hf)
  · obtain ⟨f1, f2, f3, f4, f5⟩ := as_fx H1
    simp only [kh_tellJobb_b0_1, Nat.reduceEqDiff, if_false, fx_env, fx_c, fx_ne, fx_hf, wl_S, Nat.zero_add, Nat.reduceAdd, Nat.reduceDiv, Nat.reduceMod, List.getElem?_cons_zero, List.getElem?_cons_succ, if_true, and_true, true_and] at f1 f2 f3 f4 f5
    have fe0 : nv β 0 = 572 := by omega
    have fe5 : nv β 5 = 2 := by omega
    have fe7 : nv β 7 = 200 := by omega
    have fe9 : nv β 9 = 16 := by omega
    have fe10 : nv β 10 = 578 := by omega
    have fe11 : nv β 11 = 2 := by omega
    have fe13 : nv β 13 = 0 := by omega
    have fe14 : nv β 14 = 1 := by omega
    have fe15 : nv β 15 = 2 := by omega
    have fe16 : nv β 16 = 3 := by omega
    have fe17 : nv β 17 = 4 := by omega
    have fe18 : nv β 18 = 0 := by omega
    have fe19 : nv β 19 = 5 := by omega
    have fe20 : nv β 20 = (-1) := by omega
    have fe21 : nv β 21 = 2 := by omega
    have fe22 : nv β 22 = 1 := by omega
    have fe24 : nv β 24 = 2 := by omega
    have fe25 : nv β 25 = 2 := by omega
    have fe26 : nv β 26 = 1 := by omega
    try simp only [fe0, fe5, fe7, fe9, fe10, fe11, fe13, fe14, fe15, fe16, fe17, fe18, fe19, fe20, fe21, fe22, fe24, fe25, fe26, Int.reduceToNat] at f2 f3 f4 f5
    have s0 : nv β 0 = nv α1 0 := nv_le H1.1 (by omega)
    have s1 : nv β 1 = nv α1 1 := nv_le H1.1 (by omega)
    have s2 : nv β 2 = nv α1 2 := nv_le H1.1 (by omega)
    have s3 : nv β 3 = nv α1 3 := nv_le H1.1 (by omega)
    have s4 : nv β 4 = nv α1 4 := nv_le H1.1 (by omega)
    obtain ⟨c0, c1, c2, c3, c4, c5⟩ := f2
    have rt12 := hf_rt (c := 578) (lo := 0) (hi := 199) (base := 579) (rv := 10) (iv := 6) (n := 12) (by decide +kernel) (by decide +kernel) H1 (by decide +kernel) (by omega) (by omega) (by omega)
    have o5 := old_i c5 (en_nv (i := 6) H1.2.1 rfl).1
    have d3 := c3
    simp only [wd_fl2, if_neg (show ¬ (wd_base1 1042 = true) by decide)] at d3
    have wA : ∀ a b : Nat, S'.1 a b = (if a = 572 ∧ b = 2 then Int32.ofInt (nv β 23) else (if a = (nv β 12).toNat ∧ b = 5 then Int32.ofInt ((-1)) else (if a = (nv β 12).toNat ∧ b = 4 then Int32.ofInt (0) else (if a = (nv β 12).toNat ∧ b = 3 then Int32.ofInt (nv β 4) else (if a = (nv β 12).toNat ∧ b = 2 then Int32.ofInt (nv β 3) else (if a = (nv β 12).toNat ∧ b = 1 then Int32.ofInt (nv β 2) else (if a = (nv β 12).toNat ∧ b = 0 then Int32.ofInt (nv β 1) else (S.1 a b)))))))) := fun a b => by rw [f5]; rfl
    have hr : roomF (vF S) := by
      refine ⟨by unfold jobsN; rw [vF_j]; omega, by unfold jobsN; rw [vF_j]; omega, ?_⟩
      unfold opF
      rw [vF_j, ← d3]
      omega
    have hg : crewF (vF S') := by
      refine crew_add (f := vF S) (j := (nv β 6).toNat) q521 hr ?_ ?_ ?_ (fun k' hk' => ?_) (fun j' w hj' hw hne' => ?_) (fun h4 => ?_) ?_
      · rw [vF_c, vF_c, wA]; (repeat' split) <;> first | (exfalso; omega) | rfl | (rw [i32_of (by omega) (by omega)] <;> omega) | omega
      · rw [vF_j, vF_j, wA]; (repeat' split) <;> first | (exfalso; omega) | rfl | (rw [i32_of (by omega) (by omega)] <;> omega) | omega
      · rw [vF_j]; omega
      · rw [mck_v hk' (by omega), mck_v hk' (by omega), wA]; (repeat' split) <;> first | (exfalso; omega) | rfl | (rw [i32_of (by omega) (by omega)] <;> omega) | omega
      · rw [mjk_v hj' (by omega), mjk_v hj' (by omega), wA]; (repeat' split) <;> first | (exfalso; omega) | rfl | (rw [i32_of (by omega) (by omega)] <;> omega) | omega
      · have e0 : mjk (vF S') (nv β 6).toNat 0 = nv β 1 := by rw [mjk_v (by omega) (by omega), wA]; (repeat' split) <;> first | (exfalso; omega) | rfl | (rw [i32_of (by omega) (by omega)] <;> omega) | omega
        rw [e0] at h4
        rw [mjk_v (by omega) (by omega), wA]; (repeat' split) <;> first | (exfalso; omega) | rfl | (rw [i32_of (by omega) (by omega)] <;> omega) | omega
      · rw [mjk_v (by omega) (by omega), wA]; (repeat' split) <;> first | (exfalso; omega) | rfl | (rw [i32_of (by omega) (by omega)] <;> omega) | omega
    have hb : jbW S' := fun j hj h4 => by
      have h := hg.2.2.1 j hj
      rw [mjk_v hj (by omega), mjk_v hj (by omega)] at h
      exact h h4
    exact hd_run G (ss := []) (fuel := 20) (by decide +kernel) (as_fl_in (f := [520, 521]) (as_backM H1 (by decide +kernel) hxa hf) (fun g hg0 => by
      rcases List.mem_cons.mp hg0 with rfl | hg0
      · rw [wd_fl2, if_neg (by decide)]; exact hb
      rcases List.mem_singleton.mp hg0 with rfl
      rw [wd_fl2, if_neg (by decide)]; exact hg))
  · obtain ⟨f1, f2, f3, f4, f5⟩ := as_fx H1
    simp only [kh_tellJobb_b0_2, Nat.reduceEqDiff, if_false, fx_env, fx_c, fx_ne, fx_hf, wl_S, Nat.zero_add, Nat.reduceAdd, Nat.reduceDiv, Nat.reduceMod, List.getElem?_cons_zero, List.getElem?_cons_succ, if_true, and_true, true_and] at f1 f2 f3 f4 f5
    have fe0 : nv β 0 = 572 := by omega
    have fe5 : nv β 5 = 2 := by omega
    have fe7 : nv β 7 = 200 := by omega
    have fe9 : nv β 9 = 16 := by omega
    have fe10 : nv β 10 = (-1) := by omega
    try simp only [fe0, fe5, fe7, fe9, fe10, Int.reduceToNat] at f2 f3 f4 f5
    have s0 : nv β 0 = nv α1 0 := nv_le H1.1 (by omega)
    have s1 : nv β 1 = nv α1 1 := nv_le H1.1 (by omega)
    have s2 : nv β 2 = nv α1 2 := nv_le H1.1 (by omega)
    have s3 : nv β 3 = nv α1 3 := nv_le H1.1 (by omega)
    have s4 : nv β 4 = nv α1 4 := nv_le H1.1 (by omega)
    obtain ⟨c0, c1, c2, c3⟩ := f2
    exact hd_run G (ss := []) (fuel := 20) (by decide +kernel) (as_backM H1 (by decide +kernel) hxa hf))
abbrev kh_putBack_y : mt_T := (⟨"UtilityWorks$Crews", "putBack", "(I)V"⟩, prog_3_method_8_code, 4, none, 1, 1, 1, 26104, 26102, 26103, 21011)
def kh_putBack : ct_T := (124, [(2, 572, 572, 1), (0, 0, 3, 1)], [], [521], [(0, (0, 0, 0, 0), [(2, 572, 572, 1), (0, 0, 3, 1)], [], ([521], []))], [((574, 577), (3, 3, 0)), ((574, 577), (4, 4, 0)), ((579, 778), (4, 4, 0)), ((579, 778), (5, 5, 0))], 0, 0, 0)
def kh_putBack_b0_0 : sg_T := (42, 0, ([((2, 572, 572, 1), none), ((0, 0, 3, 1), none), ((2, 573, 573, 1), none), ((2, 574, 577, 1), none), ((0, 3, 3, 0), none), ((0, (-1), (-1), 1), none), ((0, (-1), (-1), 0), none), ((0, 3, 3, 0), none), ((0, (-1), (-1), 0), none), ((0, 4, 4, 0), none), ((0, 0, 0, 0), none)], [(3, 5), (2, 3), (0, 0), (1, 1)], [], [(3, 9, 10), (3, 7, 8), (2, 1, 3)], [], [(300000, 5, 6), (800005, 3, 4)], [], [], some [(3, 9, 10), (3, 7, 8)]))
def kh_putBack_b0_1 : sg_T := (42, 0, ([((2, 572, 572, 1), none), ((0, 0, 3, 1), none), ((2, 573, 573, 1), none), ((2, 574, 577, 1), none), ((0, 3, 3, 0), none), ((0, 0, 199, 1), none), ((0, (-1), (-1), 0), none), ((2, 578, 578, 1), none), ((2, 579, 778, 1), none), ((0, 4, 4, 0), none), ((0, 0, 0, 0), none), ((2, 578, 578, 1), none), ((0, 5, 5, 0), none), ((0, (-1), (-1), 0), none), ((0, 3, 3, 0), none), ((0, (-1), (-1), 0), none), ((0, 4, 4, 0), none), ((0, 0, 0, 0), none)], [(3, 5), (2, 3), (0, 0), (1, 1)], [], [(3, 16, 17), (3, 14, 15), (8, 12, 13), (8, 9, 10), (7, 5, 8), (2, 1, 3)], [(5, (-1))], [(400000, 5, 6), (800005, 3, 4)], [], [], some [(3, 16, 17), (3, 14, 15), (8, 12, 13), (8, 9, 10)]))
set_option maxHeartbeats 16000000 in
set_option maxRecDepth 8000 in
theorem kh_putBack_okP : ct_okPR wd_fl2 kh_putBack P_crew R_putBack := ct_handPR (P := P_crew) (R := R_putBack) (ff := wd_ff2) (y := kh_putBack_y) (Cs := []) wd_fl2_ok rfl (List.forall_mem_nil _) (by decide +kernel) (fun l D tc ad kd N sm xs S p e s m args below meth c sz lv G H0 hpre => by
  have hx : xs.length = 2 := by rw [H0.2.1.1]; rfl
  have q521 : crewF (vF S) := by
    have h := H0.2.2.2.2.2.2.2.2.1 521 (by decide +kernel)
    rw [wd_fl2, if_neg (by decide)] at h
    exact h
  obtain ⟨α1, hle, Hr⟩ := as_recM (pl := []) [((574, 577), (3, 3, 0)), ((574, 577), (4, 4, 0)), ((579, 778), (4, 4, 0)), ((579, 778), (5, 5, 0))] (by decide +kernel) H0
  have hf := H0.2.2.2.2.2.2.2.2.2.2.1
  have hl1 : α1.length = 2 := by rw [Hr.2.1.1]; rfl
  have hl0 : xs.length = 2 := by rw [H0.2.1.1]; rfl
  have hxa : al_le xs α1 := H0.1.trans hle
  obtain ⟨g1, -, g3, g4, -⟩ := as_fx Hr
  have g0 : (572 ≤ nv α1 0 ∧ nv α1 0 ≤ 572) ∧ (0 ≤ nv α1 1 ∧ nv α1 1 ≤ 3) ∧ True := by
    refine ⟨by have h := (en_nv (i := 0) Hr.2.1 rfl).2; exact h, by have h := (en_nv (i := 1) Hr.2.1 rfl).2; exact h, trivial⟩
  have r0 : nv α1 0 = nv xs 0 := nv_le hle (by omega)
  have r1 : nv α1 1 = nv xs 1 := nv_le hle (by omega)
  refine hd_segMR G (na := 2) (fuel := 600) (first := true) (Bs := [kh_putBack_b0_0, kh_putBack_b0_1]) (by decide +kernel) hl1 Hr ?_
  intro q hq β lv' st' S' H1
  simp only [List.mem_cons, List.not_mem_nil, or_false] at hq
  rcases hq with rfl | rfl
  · obtain ⟨f1, f2, f3, f4, f5⟩ := as_fx H1
    simp only [kh_putBack_b0_0, Nat.reduceEqDiff, if_false, fx_env, fx_c, fx_ne, fx_hf, wl_S, Nat.zero_add, Nat.reduceAdd, Nat.reduceDiv, Nat.reduceMod, List.getElem?_cons_zero, List.getElem?_cons_succ, if_true, and_true, true_and] at f1 f2 f3 f4 f5
    have fe0 : nv β 0 = 572 := by omega
    have fe2 : nv β 2 = 573 := by omega
    have fe4 : nv β 4 = 3 := by omega
    have fe5 : nv β 5 = (-1) := by omega
    have fe6 : nv β 6 = (-1) := by omega
    have fe7 : nv β 7 = 3 := by omega
    have fe8 : nv β 8 = (-1) := by omega
    have fe9 : nv β 9 = 4 := by omega
    have fe10 : nv β 10 = 0 := by omega
    try simp only [fe0, fe2, fe4, fe5, fe6, fe7, fe8, fe9, fe10, Int.reduceToNat] at f2 f3 f4 f5
    have s0 : nv β 0 = nv α1 0 := nv_le H1.1 (by omega)
    have s1 : nv β 1 = nv α1 1 := nv_le H1.1 (by omega)
    obtain ⟨c0, c1⟩ := f2
    have rt3 := hf_rt (c := 573) (lo := 0) (hi := 3) (base := 574) (rv := 2) (iv := 1) (n := 3) (by decide +kernel) (by decide +kernel) H1 (by decide +kernel) (by omega) (by omega) (by omega)
    have o1 := old_i c1 (by have h := (en_nv (i := 5) H1.2.1 rfl).1; rw [fe5] at h; exact h)
    have wA : ∀ a b : Nat, S'.1 a b = (if a = (nv β 3).toNat ∧ b = 4 then Int32.ofInt (0) else (if a = (nv β 3).toNat ∧ b = 3 then Int32.ofInt ((-1)) else (S.1 a b))) := fun a b => by rw [f5]; rfl
    have hm : mck (vF S) (nv xs 1).toNat 3 = nv β 5 := by rw [mck_v (by omega) (by omega), show 574 + (nv xs 1).toNat = (nv β 3).toNat by omega]; exact o1.trans (by omega)
    have hP : nv xs 1 < (S.1 572 0).toInt := hpre
    have hg : crewF (vF S') := by
      refine crewF_eq ?_ ?_ (fun k' hk' => ?_) (fun j' w hj' hw => ?_) q521
      · rw [vF_c, vF_c, wA]; (repeat' split) <;> first | (exfalso; omega) | rfl | (rw [i32_of (by omega) (by omega)] <;> omega) | omega
      · rw [vF_j, vF_j, wA]; (repeat' split) <;> first | (exfalso; omega) | rfl | (rw [i32_of (by omega) (by omega)] <;> omega) | omega
      · rw [vF_k hk' (by omega), vF_k hk' (by omega), wA]
        by_cases e : 574 + k' = (nv β 3).toNat
        · have e1 : (S.1 (574 + k') 3).toInt = -1 := by rw [e, o1] <;> omega
          refine Int32.toInt_inj.mp ?_
          rw [e1]
          (repeat' split) <;> first | (exfalso; omega) | rfl | (rw [i32_of (by omega) (by omega)] <;> omega) | omega
        · (repeat' split) <;> first | (exfalso; omega) | rfl | (rw [i32_of (by omega) (by omega)] <;> omega) | omega
      · rw [vF_b hj' hw, vF_b hj' hw, wA]; (repeat' split) <;> first | (exfalso; omega) | rfl | (rw [i32_of (by omega) (by omega)] <;> omega) | omega
    have hR : R_putBack xs S (.inl none) S' := fun j hj h4 => by
      have e4 : mjk (vF S') j 4 = mjk (vF S) j 4 := by rw [mjk_v hj (by omega), mjk_v hj (by omega), wA]; (repeat' split) <;> first | (exfalso; omega) | rfl | (rw [i32_of (by omega) (by omega)] <;> omega) | omega
      rw [e4] at h4
      refine ⟨h4, fun e5 => ?_⟩
      obtain ⟨-, -, -, -, r5⟩ := q521.2.2.2.1.2 j hj h4
      rw [e5] at r5
      omega
    exact hd_retVR G (by decide +kernel) (as_fl_in (f := [521]) (as_backM H1 (by decide +kernel) hxa hf) (fun g hg0 => by
      rcases List.mem_singleton.mp hg0 with rfl
      rw [wd_fl2, if_neg (by decide)]; exact hg)) (by decide +kernel) (by decide) hR
  · obtain ⟨f1, f2, f3, f4, f5⟩ := as_fx H1
    simp only [kh_putBack_b0_1, Nat.reduceEqDiff, if_false, fx_env, fx_c, fx_ne, fx_hf, wl_S, Nat.zero_add, Nat.reduceAdd, Nat.reduceDiv, Nat.reduceMod, List.getElem?_cons_zero, List.getElem?_cons_succ, if_true, and_true, true_and] at f1 f2 f3 f4 f5
    have fe0 : nv β 0 = 572 := by omega
    have fe2 : nv β 2 = 573 := by omega
    have fe4 : nv β 4 = 3 := by omega
    have fe6 : nv β 6 = (-1) := by omega
    have fe7 : nv β 7 = 578 := by omega
    have fe9 : nv β 9 = 4 := by omega
    have fe10 : nv β 10 = 0 := by omega
    have fe11 : nv β 11 = 578 := by omega
    have fe12 : nv β 12 = 5 := by omega
    have fe13 : nv β 13 = (-1) := by omega
    have fe14 : nv β 14 = 3 := by omega
    have fe15 : nv β 15 = (-1) := by omega
    have fe16 : nv β 16 = 4 := by omega
    have fe17 : nv β 17 = 0 := by omega
    try simp only [fe0, fe2, fe4, fe6, fe7, fe9, fe10, fe11, fe12, fe13, fe14, fe15, fe16, fe17, Int.reduceToNat] at f2 f3 f4 f5
    have s0 : nv β 0 = nv α1 0 := nv_le H1.1 (by omega)
    have s1 : nv β 1 = nv α1 1 := nv_le H1.1 (by omega)
    obtain ⟨c0, c1⟩ := f2
    have rt8 := hf_rt (c := 578) (lo := 0) (hi := 199) (base := 579) (rv := 7) (iv := 5) (n := 8) (by decide +kernel) (by decide +kernel) H1 (by decide +kernel) (by omega) (by omega) (by omega)
    have rt3 := hf_rt (c := 573) (lo := 0) (hi := 3) (base := 574) (rv := 2) (iv := 1) (n := 3) (by decide +kernel) (by decide +kernel) H1 (by decide +kernel) (by omega) (by omega) (by omega)
    have o1 := old_i c1 (en_nv (i := 5) H1.2.1 rfl).1
    have wA : ∀ a b : Nat, S'.1 a b = (if a = (nv β 3).toNat ∧ b = 4 then Int32.ofInt (0) else (if a = (nv β 3).toNat ∧ b = 3 then Int32.ofInt ((-1)) else (if a = (nv β 8).toNat ∧ b = 5 then Int32.ofInt ((-1)) else (if a = (nv β 8).toNat ∧ b = 4 then Int32.ofInt (0) else (S.1 a b))))) := fun a b => by rw [f5]; rfl
    have hm : mck (vF S) (nv xs 1).toNat 3 = nv β 5 := by rw [mck_v (by omega) (by omega), show 574 + (nv xs 1).toNat = (nv β 3).toNat by omega]; exact o1.trans (by omega)
    have hP : nv xs 1 < (S.1 572 0).toInt := hpre
    have hg : crewF (vF S') := by
      refine crew_end (f := vF S) (k := (nv xs 1).toNat) (j := (nv β 5).toNat) q521 ?_ ?_ (by omega) (by omega) (fun k' hk' hn => ?_) (fun j' w hj' hw hn => ?_) (by rw [vF_c]; omega) (by omega) ?_ ?_
      · rw [vF_c, vF_c, wA]; (repeat' split) <;> first | (exfalso; omega) | rfl | (rw [i32_of (by omega) (by omega)] <;> omega) | omega
      · rw [vF_j, vF_j, wA]; (repeat' split) <;> first | (exfalso; omega) | rfl | (rw [i32_of (by omega) (by omega)] <;> omega) | omega
      · rw [mck_v hk' (by omega), mck_v hk' (by omega), wA]; (repeat' split) <;> first | (exfalso; omega) | rfl | (rw [i32_of (by omega) (by omega)] <;> omega) | omega
      · rw [mjk_v hj' (by omega), mjk_v hj' (by omega), wA]; (repeat' split) <;> first | (exfalso; omega) | rfl | (rw [i32_of (by omega) (by omega)] <;> omega) | omega
      · rw [mck_v (by omega) (by omega), wA]; (repeat' split) <;> first | (exfalso; omega) | rfl | (rw [i32_of (by omega) (by omega)] <;> omega) | omega
      · have e4 : mjk (vF S') (nv β 5).toNat 4 = 0 := by rw [mjk_v (by omega) (by omega), wA]; (repeat' split) <;> first | (exfalso; omega) | rfl | (rw [i32_of (by omega) (by omega)] <;> omega) | omega
        omega
    have hR : R_putBack xs S (.inl none) S' := fun j hj h4 => by
      by_cases ej : (j : Int) = nv β 5
      · exfalso
        have e4 : mjk (vF S') j 4 = 0 := by rw [mjk_v hj (by omega), wA]; (repeat' split) <;> first | (exfalso; omega) | rfl | (rw [i32_of (by omega) (by omega)] <;> omega) | omega
        omega
      · have e4 : mjk (vF S') j 4 = mjk (vF S) j 4 := by rw [mjk_v hj (by omega), mjk_v hj (by omega), wA]; (repeat' split) <;> first | (exfalso; omega) | rfl | (rw [i32_of (by omega) (by omega)] <;> omega) | omega
        rw [e4] at h4
        refine ⟨h4, fun e5 => ?_⟩
        obtain ⟨-, -, -, -, r5⟩ := q521.2.2.2.1.2 j hj h4
        rw [e5] at r5
        omega
    exact hd_retVR G (by decide +kernel) (as_fl_in (f := [521]) (as_backM H1 (by decide +kernel) hxa hf) (fun g hg0 => by
      rcases List.mem_singleton.mp hg0 with rfl
      rw [wd_fl2, if_neg (by decide)]; exact hg)) (by decide +kernel) (by decide) hR)
abbrev kh_takeJob_y : mt_T := (⟨"UtilityWorks$Crews", "takeJob", "(II)V"⟩, prog_3_method_13_code, 3, none, 1, 1, 2, 26123, 26122, 2003, 21011)
def kh_takeJob : ct_T := (128, [(2, 572, 572, 1), (0, 0, 3, 1), (0, (-1), 199, 1)], [], [521], [(0, (0, 0, 0, 0), [(2, 572, 572, 1), (0, 0, 3, 1), (0, (-1), 199, 1)], [], ([521], []))], [((574, 577), (3, 3, 0)), ((574, 577), (4, 4, 0)), ((579, 778), (4, 4, 0)), ((579, 778), (5, 5, 0))], 0, 0, 0)
def kh_takeJob_b0_0 : sg_T := (41, 0, ([((2, 572, 572, 1), none), ((0, 0, 3, 1), none), ((0, (-1), (-1), 1), none), ((0, (-1), (-1), 0), none)], [(0, 0), (1, 1), (2, 2)], [], [], [], [(300000, 2, 3)], [], [521], some []))
def kh_takeJob_b0_1 : sg_T := (41, 0, ([((2, 572, 572, 1), none), ((0, 0, 3, 1), none), ((0, 0, 199, 1), none), ((0, (-1), (-1), 0), none), ((2, 573, 573, 1), none), ((2, 574, 577, 1), none), ((0, 3, 3, 0), none), ((2, 573, 573, 1), none), ((0, 4, 4, 0), none), ((0, 0, 0, 0), none), ((2, 578, 578, 1), none), ((2, 579, 778, 1), none), ((0, 4, 4, 0), none), ((0, 1, 1, 0), none), ((2, 578, 578, 1), none), ((0, 5, 5, 0), none)], [(0, 0), (1, 1), (2, 2)], [], [(11, 15, 1), (11, 12, 13), (10, 2, 11), (5, 8, 9), (5, 6, 2), (4, 1, 5)], [(2, (-1))], [(400000, 2, 3)], [], [], some [(11, 15, 1), (11, 12, 13), (5, 8, 9), (5, 6, 2)]))
set_option maxHeartbeats 16000000 in
set_option maxRecDepth 8000 in
theorem kh_takeJob_okP : ct_okPR wd_fl2 kh_takeJob P_take R_any := ct_handPR (P := P_take) (R := R_any) (ff := wd_ff2) (y := kh_takeJob_y) (Cs := []) wd_fl2_ok rfl (List.forall_mem_nil _) (by decide +kernel) (fun l D tc ad kd N sm xs S p e s m args below meth c sz lv G H0 hpre => by
  have hx : xs.length = 3 := by rw [H0.2.1.1]; rfl
  have q521 : crewF (vF S) := by
    have h := H0.2.2.2.2.2.2.2.2.1 521 (by decide +kernel)
    rw [wd_fl2, if_neg (by decide)] at h
    exact h
  obtain ⟨α1, hle, Hr⟩ := as_recM (pl := []) [((574, 577), (3, 3, 0)), ((574, 577), (4, 4, 0)), ((579, 778), (4, 4, 0)), ((579, 778), (5, 5, 0))] (by decide +kernel) H0
  have hf := H0.2.2.2.2.2.2.2.2.2.2.1
  have hl1 : α1.length = 3 := by rw [Hr.2.1.1]; rfl
  have hl0 : xs.length = 3 := by rw [H0.2.1.1]; rfl
  have hxa : al_le xs α1 := H0.1.trans hle
  obtain ⟨g1, -, g3, g4, -⟩ := as_fx Hr
  have g0 : (572 ≤ nv α1 0 ∧ nv α1 0 ≤ 572) ∧ (0 ≤ nv α1 1 ∧ nv α1 1 ≤ 3) ∧ ((-1) ≤ nv α1 2 ∧ nv α1 2 ≤ 199) ∧ True := by
    refine ⟨by have h := (en_nv (i := 0) Hr.2.1 rfl).2; exact h, by have h := (en_nv (i := 1) Hr.2.1 rfl).2; exact h, by have h := (en_nv (i := 2) Hr.2.1 rfl).2; exact h, trivial⟩
  have r0 : nv α1 0 = nv xs 0 := nv_le hle (by omega)
  have r1 : nv α1 1 = nv xs 1 := nv_le hle (by omega)
  have r2 : nv α1 2 = nv xs 2 := nv_le hle (by omega)
  refine hd_segMR G (na := 3) (fuel := 600) (first := true) (Bs := [kh_takeJob_b0_0, kh_takeJob_b0_1]) (by decide +kernel) hl1 Hr ?_
  intro q hq β lv' st' S' H1
  simp only [List.mem_cons, List.not_mem_nil, or_false] at hq
  rcases hq with rfl | rfl
  · obtain ⟨f1, f2, f3, f4, f5⟩ := as_fx H1
    simp only [kh_takeJob_b0_0, Nat.reduceEqDiff, if_false, fx_env, fx_c, fx_ne, fx_hf, wl_S, Nat.zero_add, Nat.reduceAdd, Nat.reduceDiv, Nat.reduceMod, List.getElem?_cons_zero, List.getElem?_cons_succ, if_true, and_true, true_and] at f1 f2 f3 f4 f5
    have fe0 : nv β 0 = 572 := by omega
    have fe2 : nv β 2 = (-1) := by omega
    have fe3 : nv β 3 = (-1) := by omega
    try simp only [fe0, fe2, fe3, Int.reduceToNat] at f2 f3 f4 f5
    have s0 : nv β 0 = nv α1 0 := nv_le H1.1 (by omega)
    have s1 : nv β 1 = nv α1 1 := nv_le H1.1 (by omega)
    have s2 : nv β 2 = nv α1 2 := nv_le H1.1 (by omega)
    have c0 := f2
    exact hd_retVR G (by decide +kernel) (as_fl_in (f := [521]) (as_backM H1 (by decide +kernel) hxa hf) (fun g hg0 => by
      rcases List.mem_singleton.mp hg0 with rfl
      rw [wd_fl2, if_neg (by decide)]; exact (by rw [show S' = S from f5]; exact q521))) (by decide +kernel) (by decide) trivial
  · obtain ⟨f1, f2, f3, f4, f5⟩ := as_fx H1
    simp only [kh_takeJob_b0_1, Nat.reduceEqDiff, if_false, fx_env, fx_c, fx_ne, fx_hf, wl_S, Nat.zero_add, Nat.reduceAdd, Nat.reduceDiv, Nat.reduceMod, List.getElem?_cons_zero, List.getElem?_cons_succ, if_true, and_true, true_and] at f1 f2 f3 f4 f5
    have fe0 : nv β 0 = 572 := by omega
    have fe3 : nv β 3 = (-1) := by omega
    have fe4 : nv β 4 = 573 := by omega
    have fe6 : nv β 6 = 3 := by omega
    have fe7 : nv β 7 = 573 := by omega
    have fe8 : nv β 8 = 4 := by omega
    have fe9 : nv β 9 = 0 := by omega
    have fe10 : nv β 10 = 578 := by omega
    have fe12 : nv β 12 = 4 := by omega
    have fe13 : nv β 13 = 1 := by omega
    have fe14 : nv β 14 = 578 := by omega
    have fe15 : nv β 15 = 5 := by omega
    try simp only [fe0, fe3, fe4, fe6, fe7, fe8, fe9, fe10, fe12, fe13, fe14, fe15, Int.reduceToNat] at f2 f3 f4 f5
    have s0 : nv β 0 = nv α1 0 := nv_le H1.1 (by omega)
    have s1 : nv β 1 = nv α1 1 := nv_le H1.1 (by omega)
    have s2 : nv β 2 = nv α1 2 := nv_le H1.1 (by omega)
    have c0 := f2
    have rt11 := hf_rt (c := 578) (lo := 0) (hi := 199) (base := 579) (rv := 10) (iv := 2) (n := 11) (by decide +kernel) (by decide +kernel) H1 (by decide +kernel) (by omega) (by omega) (by omega)
    have rt5 := hf_rt (c := 573) (lo := 0) (hi := 3) (base := 574) (rv := 4) (iv := 1) (n := 5) (by decide +kernel) (by decide +kernel) H1 (by decide +kernel) (by omega) (by omega) (by omega)
    have wA : ∀ a b : Nat, S'.1 a b = (if a = (nv β 11).toNat ∧ b = 5 then Int32.ofInt (nv β 1) else (if a = (nv β 11).toNat ∧ b = 4 then Int32.ofInt (1) else (if a = (nv β 5).toNat ∧ b = 4 then Int32.ofInt (0) else (if a = (nv β 5).toNat ∧ b = 3 then Int32.ofInt (nv β 2) else (S.1 a b))))) := fun a b => by rw [f5]; rfl
    obtain ⟨hP, hm, hB⟩ := hpre
    have hB2 : 0 ≤ nv xs 2 ∧ nv xs 2 < (S.1 572 2).toInt ∧ mjk (vF S) (nv xs 2).toNat 4 = 0 := by
      rcases hB with g | g
      · exfalso; omega
      · exact g
    obtain ⟨b1, b2, b3⟩ := hB2
    have hg : crewF (vF S') := by
      refine crew_take (f := vF S) (k := (nv xs 1).toNat) (j := (nv xs 2).toNat) q521 ?_ ?_ (by omega) (by rw [vF_j]; omega) (fun k' hk' hn => ?_) (fun j' w hj' hw hn => ?_) (by rw [vF_c]; omega) hm ?_ b3 ?_ ?_
      · rw [vF_c, vF_c, wA]; (repeat' split) <;> first | (exfalso; omega) | rfl | (rw [i32_of (by omega) (by omega)] <;> omega) | omega
      · rw [vF_j, vF_j, wA]; (repeat' split) <;> first | (exfalso; omega) | rfl | (rw [i32_of (by omega) (by omega)] <;> omega) | omega
      · rw [mck_v hk' (by omega), mck_v hk' (by omega), wA]; (repeat' split) <;> first | (exfalso; omega) | rfl | (rw [i32_of (by omega) (by omega)] <;> omega) | omega
      · rw [mjk_v hj' (by omega), mjk_v hj' (by omega), wA]; (repeat' split) <;> first | (exfalso; omega) | rfl | (rw [i32_of (by omega) (by omega)] <;> omega) | omega
      · rw [mck_v (by omega) (by omega), wA]; (repeat' split) <;> first | (exfalso; omega) | rfl | (rw [i32_of (by omega) (by omega)] <;> omega) | omega
      · rw [mjk_v (by omega) (by omega), wA]; (repeat' split) <;> first | (exfalso; omega) | rfl | (rw [i32_of (by omega) (by omega)] <;> omega) | omega
      · rw [mjk_v (by omega) (by omega), wA]; (repeat' split) <;> first | (exfalso; omega) | rfl | (rw [i32_of (by omega) (by omega)] <;> omega) | omega
    exact hd_retVR G (by decide +kernel) (as_fl_in (f := [521]) (as_backM H1 (by decide +kernel) hxa hf) (fun g hg0 => by
      rcases List.mem_singleton.mp hg0 with rfl
      rw [wd_fl2, if_neg (by decide)]; exact hg)) (by decide +kernel) (by decide) trivial)
