/-! ===== the class: calls about crews and jobs ===== -/
abbrev kh_uIsCrew_y : mt_T := (⟨"UtilityWorks", "isCrew", "(I)Z"⟩, prog_1_method_123_code, 2, some .boolean, 11, 1, 1, 30188, 30187, 4001, 21001)
def kh_uIsCrew : ct_T := (302, [(2, 0, 0, 0), (0, (-2147483648), 2147483647, 1)], [], [], [(1, (0, 1, 1, 0), [(2, 0, 0, 0), (0, 0, 3, 1)], [], ([], [(1043, 1, 1)])), (1, (0, 0, 0, 0), [(2, 0, 0, 0), (0, (-2147483648), 2147483647, 1)], [], ([], [(1043, 1, 1)]))], [], 0, 0, 0)
def kh_uIsCrew_b0_0 : sg_T := (23, 0, ([((2, 0, 0, 0), none), ((0, (-2147483648), (-1), 1), none), ((0, 0, 0, 0), none)], [(0, 0), (1, 1)], [2], [], [], [], [], [], some []))
def kh_uIsCrew_b0_1 : sg_T := (23, 0, ([((2, 0, 0, 0), none), ((0, 2, 2147483647, 1), none), ((2, 1, 1, 1), none), ((2, 572, 572, 1), none), ((0, 0, 0, 0), none), ((0, 2, 4, 1), none), ((0, 0, 0, 0), none)], [(0, 0), (1, 1)], [6], [(3, 4, 5)], [], [(200000, 5, 1), (800005, 3, 4)], [], [], some []))
def kh_uIsCrew_b0_2 : sg_T := (23, 0, ([((2, 0, 0, 0), none), ((0, 0, 3, 1), none), ((2, 1, 1, 1), none), ((2, 572, 572, 1), none), ((0, 0, 0, 0), none), ((0, 2, 4, 1), none), ((0, 1, 1, 0), none)], [(0, 0), (1, 1)], [6], [(3, 4, 5)], [], [(100000, 1, 5), (800005, 3, 4)], [], [], some []))
set_option maxHeartbeats 16000000 in
set_option maxRecDepth 8000 in
theorem kh_uIsCrew_ok : ct_ok wd_fl2 kh_uIsCrew := ct_hand (ff := wd_ff2) (y := kh_uIsCrew_y) (Cs := []) wd_fl2_ok rfl (List.forall_mem_nil _) (by decide +kernel) (fun l D tc ad kd N sm xs S p e s m args below meth c sz lv G H0 => by
  have hx : xs.length = 2 := by rw [H0.2.1.1]; rfl
  obtain ⟨α1, hle, Hr⟩ := as_recM (pl := []) [] (by decide +kernel) H0
  have hf := H0.2.2.2.2.2.2.2.2.2.2.1
  have hl1 : α1.length = 2 := by rw [Hr.2.1.1]; rfl
  have hl0 : xs.length = 2 := by rw [H0.2.1.1]; rfl
  have hxa : al_le xs α1 := H0.1.trans hle
  obtain ⟨g1, -, g3, g4, -⟩ := as_fx Hr
  have g0 : (0 ≤ nv α1 0 ∧ nv α1 0 ≤ 0) ∧ ((-2147483648) ≤ nv α1 1 ∧ nv α1 1 ≤ 2147483647) ∧ True := by
    refine ⟨by have h := (en_nv (i := 0) Hr.2.1 rfl).2; exact h, by have h := (en_nv (i := 1) Hr.2.1 rfl).2; exact h, trivial⟩
  have r0 : nv α1 0 = nv xs 0 := nv_le hle (by omega)
  have r1 : nv α1 1 = nv xs 1 := nv_le hle (by omega)
  refine hd_segM G (na := 2) (fuel := 600) (first := true) (Bs := [kh_uIsCrew_b0_0, kh_uIsCrew_b0_1, kh_uIsCrew_b0_2]) (by decide +kernel) hl1 Hr ?_
  intro q hq β lv' st' S' H1
  simp only [List.mem_cons, List.not_mem_nil, or_false] at hq
  rcases hq with rfl | rfl | rfl
  · obtain ⟨f1, f2, f3, f4, f5⟩ := as_fx H1
    simp only [kh_uIsCrew_b0_0, Nat.reduceEqDiff, if_false, fx_env, fx_c, fx_ne, fx_hf, wl_S, Nat.zero_add, Nat.reduceAdd, Nat.reduceDiv, Nat.reduceMod, List.getElem?_cons_zero, List.getElem?_cons_succ, if_true, and_true, true_and] at f1 f2 f3 f4 f5
    have fe0 : nv β 0 = 0 := by omega
    have fe2 : nv β 2 = 0 := by omega
    try simp only [fe0, fe2, Int.reduceToNat] at f2 f3 f4 f5
    have s0 : nv β 0 = nv α1 0 := nv_le H1.1 (by omega)
    have s1 : nv β 1 = nv α1 1 := nv_le H1.1 (by omega)
    refine hd_retI G (v := 2) (by decide +kernel) (as_backM H1 (by decide +kernel) hxa hf) _ (List.mem_cons_of_mem _ List.mem_cons_self) rfl (by decide +kernel) (by decide) (fun w hw => ?_)
    rcases List.mem_singleton.mp hw with rfl
    have g1' := (en_nv (i := 1) H0.2.1 rfl).1
    refine ⟨_, _, g1', g1', ?_⟩
    rw [wd_fl2, if_neg (by decide)]
    show nv β 2 = b2i (0 ≤ nv xs 1 ∧ nv xs 1 < (S.1 572 0).toInt)
    unfold b2i
    rw [if_neg (by omega)]; omega
  · obtain ⟨f1, f2, f3, f4, f5⟩ := as_fx H1
    simp only [kh_uIsCrew_b0_1, Nat.reduceEqDiff, if_false, fx_env, fx_c, fx_ne, fx_hf, wl_S, Nat.zero_add, Nat.reduceAdd, Nat.reduceDiv, Nat.reduceMod, List.getElem?_cons_zero, List.getElem?_cons_succ, if_true, and_true, true_and] at f1 f2 f3 f4 f5
    have fe0 : nv β 0 = 0 := by omega
    have fe2 : nv β 2 = 1 := by omega
    have fe3 : nv β 3 = 572 := by omega
    have fe4 : nv β 4 = 0 := by omega
    have fe6 : nv β 6 = 0 := by omega
    try simp only [fe0, fe2, fe3, fe4, fe6, Int.reduceToNat] at f2 f3 f4 f5
    have s0 : nv β 0 = nv α1 0 := nv_le H1.1 (by omega)
    have s1 : nv β 1 = nv α1 1 := nv_le H1.1 (by omega)
    obtain ⟨c0, c1⟩ := f2
    have o1 := old_i c1 (en_nv (i := 5) H1.2.1 rfl).1
    refine hd_retI G (v := 6) (by decide +kernel) (as_backM H1 (by decide +kernel) hxa hf) _ (List.mem_cons_of_mem _ List.mem_cons_self) rfl (by decide +kernel) (by decide) (fun w hw => ?_)
    rcases List.mem_singleton.mp hw with rfl
    have g1' := (en_nv (i := 1) H0.2.1 rfl).1
    refine ⟨_, _, g1', g1', ?_⟩
    rw [wd_fl2, if_neg (by decide)]
    show nv β 6 = b2i (0 ≤ nv xs 1 ∧ nv xs 1 < (S.1 572 0).toInt)
    rw [o1]
    unfold b2i
    rw [if_neg (by omega)]; omega
  · obtain ⟨f1, f2, f3, f4, f5⟩ := as_fx H1
    simp only [kh_uIsCrew_b0_2, Nat.reduceEqDiff, if_false, fx_env, fx_c, fx_ne, fx_hf, wl_S, Nat.zero_add, Nat.reduceAdd, Nat.reduceDiv, Nat.reduceMod, List.getElem?_cons_zero, List.getElem?_cons_succ, if_true, and_true, true_and] at f1 f2 f3 f4 f5
    have fe0 : nv β 0 = 0 := by omega
    have fe2 : nv β 2 = 1 := by omega
    have fe3 : nv β 3 = 572 := by omega
    have fe4 : nv β 4 = 0 := by omega
    have fe6 : nv β 6 = 1 := by omega
    try simp only [fe0, fe2, fe3, fe4, fe6, Int.reduceToNat] at f2 f3 f4 f5
    have s0 : nv β 0 = nv α1 0 := nv_le H1.1 (by omega)
    have s1 : nv β 1 = nv α1 1 := nv_le H1.1 (by omega)
    obtain ⟨c0, c1⟩ := f2
    have o1 := old_i c1 (en_nv (i := 5) H1.2.1 rfl).1
    refine hd_retI G (v := 6) (by decide +kernel) (as_backM H1 (by decide +kernel) hxa hf) _ List.mem_cons_self rfl (by decide +kernel) (by decide) (fun w hw => ?_)
    rcases List.mem_singleton.mp hw with rfl
    have g1' := (en_nv (i := 1) H0.2.1 rfl).1
    refine ⟨_, _, g1', g1', ?_⟩
    rw [wd_fl2, if_neg (by decide)]
    show nv β 6 = b2i (0 ≤ nv xs 1 ∧ nv xs 1 < (S.1 572 0).toInt)
    rw [o1]
    unfold b2i
    rw [if_pos ⟨by omega, by omega⟩]; omega)
abbrev kh_uLeave_y : mt_T := (⟨"UtilityWorks", "leave", "(I)I"⟩, prog_1_method_93_code, 3, some .int, 11, 1, 1, 30202, 30200, 30201, 21001)
def kh_uLeave : ct_T := (304, [(2, 0, 0, 0), (0, (-2147483648), 2147483647, 1)], [], [520, 521, 522], [(1, (0, 0, 199, 1), [(2, 0, 0, 0), (0, (-2147483648), 2147483647, 1)], [], ([520, 521, 522], [])), (3, (0, 0, 0, 0), [(2, 0, 0, 0), (0, 0, 3, 1)], [], ([520, 521, 522], [])), (4, (0, 0, 0, 0), [(2, 0, 0, 0), (0, (-2147483648), 2147483647, 1)], [], ([520, 521, 522], []))], [((574, 577), (3, 3, 0)), ((574, 577), (4, 4, 0)), ((579, 778), (4, 4, 0)), ((579, 778), (5, 5, 0))], 7, 101, 2)
def kh_uLeave_X : List cs_T := [(3, (0, 0, 0, 0), [(2, 0, 0, 0), (0, 0, 3, 1)], [], ([520, 521, 522], [])), (4, (0, 0, 0, 0), [(2, 0, 0, 0), (0, (-2147483648), 2147483647, 1)], [], ([520, 521, 522], []))]
def kh_uLeave_a44 : an_T := (44, 2, ([((2, 0, 0, 0), none), ((0, 0, 3, 1), none), ((0, 0, 199, 1), none), ((2, 572, 572, 1), none)], [(0, 0), (1, 1), (2, 2)], [1, 3], [], [], [], [], [520, 521, 522], none), [])
def kh_uLeave_a47 : an_T := (47, 2, ([((2, 0, 0, 0), none), ((0, 0, 3, 1), none), ((0, 0, 199, 1), none)], [(0, 0), (1, 1), (2, 2)], [], [], [], [], [], [520, 521, 522], none), [])
def kh_uLeave_b0_0 : sg_T := (44, 2, ([((2, 0, 0, 0), none), ((0, 0, 3, 1), none), ((0, 1, 1, 0), none), ((2, 1, 1, 1), none), ((2, 572, 572, 1), none), ((2, 573, 573, 1), none), ((2, 574, 577, 1), none), ((0, 3, 3, 0), none), ((0, 0, 199, 1), none), ((0, (-1), (-1), 0), none), ((0, 1, 1, 0), none), ((2, 1, 1, 1), none), ((2, 572, 572, 1), none)], [(2, 8), (0, 0), (1, 1)], [1, 12], [(6, 7, 8), (5, 1, 6)], [(8, (-1))], [(400000, 8, 9), (800008, 6, 7), (104300002, 1, 1)], [], [520, 521, 522], some []))
def kh_uLeave_b44_0 : sg_T := (47, 2, ([((2, 0, 0, 0), none), ((0, 0, 3, 1), none), ((0, 0, 199, 1), none), ((2, 572, 572, 1), none)], [(0, 0), (1, 1), (2, 2)], [], [], [], [], [], [521, 520, 522], none))
def kh_uLeave_b47_0 : sg_T := (48, 2, ([((2, 0, 0, 0), none), ((0, 0, 3, 1), none), ((0, 0, 199, 1), none)], [(0, 0), (1, 1), (2, 2)], [2], [], [], [], [], [520, 521, 522], some []))
def kh_uLeave_I (l : Launch) (D : va_G) (tc : Nat → ClassId) (ad : Nat → Nat) (kd : Nat → Nat × Nat) (N : Nat) (sm : Nat → Nat) (xs : List av_X) (S : fw_S) (p : Program) (e : Env) (s : State) (m : MethodId) (args : Array Value) (below : List Frame) (meth : Method) (c : Code) (sz : Nat) (k : Nat) : Prop := (∀ (α : List av_X) (lv : List (Nat × Value)) (st : List Value) (S1 : fw_S), as_in ad sm wd_fl2 xs S kh_uLeave.2.2.2.2.2.1 α kh_uLeave_a44.2.2.1 lv st S1 → (nv xs 1 < (S1.1 572 0).toInt) → 5 < k → hd_W wd_fl2 kh_uLeave kh_uLeave_y l D tc ad kd N sm xs S p e s m args below meth c sz 44 lv st S1 2) ∧ (∀ (α : List av_X) (lv : List (Nat × Value)) (st : List Value) (S1 : fw_S), as_in ad sm wd_fl2 xs S kh_uLeave.2.2.2.2.2.1 α kh_uLeave_a47.2.2.1 lv st S1 → (True) → 0 < k → hd_W wd_fl2 kh_uLeave kh_uLeave_y l D tc ad kd N sm xs S p e s m args below meth c sz 47 lv st S1 2) ∧ True
set_option maxHeartbeats 16000000 in
set_option maxRecDepth 8000 in
theorem kh_uLeave_h44 {l : Launch} {D : va_G} {tc : Nat → ClassId} {ad : Nat → Nat} {kd : Nat → Nat × Nat} {N : Nat} {sm : Nat → Nat} {xs : List av_X} {S : fw_S} {p : Program} {e : Env} {s : State} {m : MethodId} {args : Array Value} {below : List Frame} {meth : Method} {c : Code} {sz : Nat} {lvE : List (Nat × Value)} (G : hd_C wd_ff2 wd_fl2 kh_uLeave [kh_uIsCrew, kh_needThing, kh_needState] kh_uLeave_y l D tc ad kd N sm xs p s m args meth c sz) (H0 : as_in ad sm wd_fl2 xs S kh_uLeave.2.2.2.2.2.1 xs (hd_0 kh_uLeave) lvE [] S) {k : Nat} (ih : kh_uLeave_I l D tc ad kd N sm xs S p e s m args below meth c sz k) : (∀ (α : List av_X) (lv : List (Nat × Value)) (st : List Value) (S1 : fw_S), as_in ad sm wd_fl2 xs S kh_uLeave.2.2.2.2.2.1 α kh_uLeave_a44.2.2.1 lv st S1 → (nv xs 1 < (S1.1 572 0).toInt) → 5 < k + 1 → hd_W wd_fl2 kh_uLeave kh_uLeave_y l D tc ad kd N sm xs S p e s m args below meth c sz 44 lv st S1 2) := by
  have hx : xs.length = 2 := by rw [H0.2.1.1]; rfl
  intro α lv st S1 H hp hk
  obtain ⟨α1, hle, Hr⟩ := as_recM (pl := []) [((574, 577), (3, 3, 0)), ((574, 577), (4, 4, 0)), ((579, 778), (4, 4, 0)), ((579, 778), (5, 5, 0))] (by decide +kernel) H
  have hf := H.2.2.2.2.2.2.2.2.2.2.1
  have hl1 : α1.length = 4 := by rw [Hr.2.1.1]; rfl
  have hl0 : α.length = 4 := by rw [H.2.1.1]; rfl
  have hxa : al_le xs α1 := H.1.trans hle
  obtain ⟨g1, -, g3, g4, -⟩ := as_fx Hr
  have g0 : (0 ≤ nv α1 0 ∧ nv α1 0 ≤ 0) ∧ (0 ≤ nv α1 1 ∧ nv α1 1 ≤ 3) ∧ (0 ≤ nv α1 2 ∧ nv α1 2 ≤ 199) ∧ (572 ≤ nv α1 3 ∧ nv α1 3 ≤ 572) ∧ True := by
    refine ⟨by have h := (en_nv (i := 0) Hr.2.1 rfl).2; exact h, by have h := (en_nv (i := 1) Hr.2.1 rfl).2; exact h, by have h := (en_nv (i := 2) Hr.2.1 rfl).2; exact h, by have h := (en_nv (i := 3) Hr.2.1 rfl).2; exact h, trivial⟩
  have r0 : nv α1 0 = nv α 0 := nv_le hle (by omega)
  have r1 : nv α1 1 = nv α 1 := nv_le hle (by omega)
  have r2 : nv α1 2 = nv α 2 := nv_le hle (by omega)
  have r3 : nv α1 3 = nv α 3 := nv_le hle (by omega)
  refine hd_callPN (Rr := R_putBack) (Rs := [kh_putBack]) (idx := 499) G (List.forall_mem_cons.mpr ⟨kh_putBack_okP, List.forall_mem_nil _⟩) (fun Cc hCc ys hnm => by
      rcases List.mem_singleton.mp hCc with rfl
      have y1 : nv ys 1 = nv α1 1 := nm_nv hnm (i := 1) (v := 1) rfl
      have z1 : nv α 1 = nv xs 1 := nv_le H.1 (by omega)
      show nv ys 1 < (S1.1 572 0).toInt
      rw [y1, r1, z1]
      exact hp) (na := 4) (Bs := [kh_uLeave_b44_0]) (by decide +kernel) (by decide +kernel) hl1 Hr ?_
  intro q hq β lv' st' S' H1 hRx
  simp only [List.mem_cons, List.not_mem_nil, or_false] at hq
  rcases hq with rfl
  · obtain ⟨f1, f2, f3, f4, f5⟩ := as_fx H1
    simp only [kh_uLeave_b44_0, Nat.reduceEqDiff, if_false, fx_env, fx_c, fx_ne, fx_hf, wl_S, Nat.zero_add, Nat.reduceAdd, Nat.reduceDiv, Nat.reduceMod, List.getElem?_cons_zero, List.getElem?_cons_succ, if_true, and_true, true_and] at f1 f2 f3 f4 f5
    have fe0 : nv β 0 = 0 := by omega
    have fe3 : nv β 3 = 572 := by omega
    try simp only [fe0, fe3, Int.reduceToNat] at f2 f3 f4 f5
    have s0 : nv β 0 = nv α1 0 := nv_le H1.1 (by omega)
    have s1 : nv β 1 = nv α1 1 := nv_le H1.1 (by omega)
    have s2 : nv β 2 = nv α1 2 := nv_le H1.1 (by omega)
    have s3 : nv β 3 = nv α1 3 := nv_le H1.1 (by omega)
    obtain ⟨α', Ha, hm⟩ := hd_gpM (q := kh_uLeave_a47) (n := 2) (by decide +kernel) hx H1 (by decide +kernel) hxa hf
    have hfr := H1.2.2.2.2.2.2.2.2.2.2.1
    have m0 : nv α' 0 = nv β 0 := hm 0 0 rfl
    have m1 : nv α' 1 = nv β 1 := hm 1 1 rfl
    have m2 : nv α' 2 = nv β 2 := hm 2 2 rfl
    refine ih.2.1 _ _ _ _ Ha ?_ ?_
    · trivial
    · omega
set_option maxHeartbeats 16000000 in
set_option maxRecDepth 8000 in
theorem kh_uLeave_h47 {l : Launch} {D : va_G} {tc : Nat → ClassId} {ad : Nat → Nat} {kd : Nat → Nat × Nat} {N : Nat} {sm : Nat → Nat} {xs : List av_X} {S : fw_S} {p : Program} {e : Env} {s : State} {m : MethodId} {args : Array Value} {below : List Frame} {meth : Method} {c : Code} {sz : Nat} {lvE : List (Nat × Value)} (G : hd_C wd_ff2 wd_fl2 kh_uLeave [kh_uIsCrew, kh_needThing, kh_needState] kh_uLeave_y l D tc ad kd N sm xs p s m args meth c sz) (H0 : as_in ad sm wd_fl2 xs S kh_uLeave.2.2.2.2.2.1 xs (hd_0 kh_uLeave) lvE [] S) {k : Nat} (ih : kh_uLeave_I l D tc ad kd N sm xs S p e s m args below meth c sz k) : (∀ (α : List av_X) (lv : List (Nat × Value)) (st : List Value) (S1 : fw_S), as_in ad sm wd_fl2 xs S kh_uLeave.2.2.2.2.2.1 α kh_uLeave_a47.2.2.1 lv st S1 → (True) → 0 < k + 1 → hd_W wd_fl2 kh_uLeave kh_uLeave_y l D tc ad kd N sm xs S p e s m args below meth c sz 47 lv st S1 2) := by
  have hx : xs.length = 2 := by rw [H0.2.1.1]; rfl
  intro α lv st S1 H hp hk
  obtain ⟨α1, hle, Hr⟩ := as_recM (pl := []) [] (by decide +kernel) H
  have hf := H.2.2.2.2.2.2.2.2.2.2.1
  have hl1 : α1.length = 3 := by rw [Hr.2.1.1]; rfl
  have hl0 : α.length = 3 := by rw [H.2.1.1]; rfl
  have hxa : al_le xs α1 := H.1.trans hle
  obtain ⟨g1, -, g3, g4, -⟩ := as_fx Hr
  have g0 : (0 ≤ nv α1 0 ∧ nv α1 0 ≤ 0) ∧ (0 ≤ nv α1 1 ∧ nv α1 1 ≤ 3) ∧ (0 ≤ nv α1 2 ∧ nv α1 2 ≤ 199) ∧ True := by
    refine ⟨by have h := (en_nv (i := 0) Hr.2.1 rfl).2; exact h, by have h := (en_nv (i := 1) Hr.2.1 rfl).2; exact h, by have h := (en_nv (i := 2) Hr.2.1 rfl).2; exact h, trivial⟩
  have r0 : nv α1 0 = nv α 0 := nv_le hle (by omega)
  have r1 : nv α1 1 = nv α 1 := nv_le hle (by omega)
  have r2 : nv α1 2 = nv α 2 := nv_le hle (by omega)
  refine hd_segM G (na := 3) (fuel := 600) (first := true) (Bs := [kh_uLeave_b47_0]) (by decide +kernel) hl1 Hr ?_
  intro q hq β lv' st' S' H1
  simp only [List.mem_cons, List.not_mem_nil, or_false] at hq
  rcases hq with rfl
  · obtain ⟨f1, f2, f3, f4, f5⟩ := as_fx H1
    simp only [kh_uLeave_b47_0, Nat.reduceEqDiff, if_false, fx_env, fx_c, fx_ne, fx_hf, wl_S, Nat.zero_add, Nat.reduceAdd, Nat.reduceDiv, Nat.reduceMod, List.getElem?_cons_zero, List.getElem?_cons_succ, if_true, and_true, true_and] at f1 f2 f3 f4 f5
    have fe0 : nv β 0 = 0 := by omega
    try simp only [fe0, Int.reduceToNat] at f2 f3 f4 f5
    have s0 : nv β 0 = nv α1 0 := nv_le H1.1 (by omega)
    have s1 : nv β 1 = nv α1 1 := nv_le H1.1 (by omega)
    have s2 : nv β 2 = nv α1 2 := nv_le H1.1 (by omega)
    exact hd_run G (ss := []) (fuel := 20) (by decide +kernel) (as_backM H1 (by decide +kernel) hxa hf)
set_option maxHeartbeats 16000000 in
set_option maxRecDepth 8000 in
theorem kh_uLeave_ok : ct_ok wd_fl2 kh_uLeave := ct_hand (ff := wd_ff2) (y := kh_uLeave_y) (Cs := [kh_uIsCrew, kh_needThing, kh_needState]) wd_fl2_ok rfl (List.forall_mem_cons.mpr ⟨kh_uIsCrew_ok, (List.forall_mem_cons.mpr ⟨kh_needThing_ok, (List.forall_mem_cons.mpr ⟨kh_needState_ok, (List.forall_mem_nil _)⟩)⟩)⟩) (by decide +kernel) (fun l D tc ad kd N sm xs S p e s m args below meth c sz lv G H0 => by
  have hx : xs.length = 2 := by rw [H0.2.1.1]; rfl
  have hP : ∀ (k : Nat), kh_uLeave_I l D tc ad kd N sm xs S p e s m args below meth c sz k := by
    intro k
    induction k with
    | zero => exact ⟨fun _ _ _ _ _ _ h => absurd h (Nat.not_lt_zero _), fun _ _ _ _ _ _ h => absurd h (Nat.not_lt_zero _), trivial⟩
    | succ k ih => exact ⟨kh_uLeave_h44 G H0 ih, kh_uLeave_h47 G H0 ih, trivial⟩
  obtain ⟨α1, hαe, hle, Hr⟩ : ∃ α1, α1 = xs ∧ al_le xs α1 ∧ as_in ad sm wd_fl2 α1 S [] α1 (as_rec (hd_0 kh_uLeave) []) lv [] S := ⟨xs, rfl, al_le.refl, as_rec0 _ H0⟩
  have hf := H0.2.2.2.2.2.2.2.2.2.2.1
  have hl1 : α1.length = 2 := by rw [Hr.2.1.1]; rfl
  have hl0 : xs.length = 2 := by rw [H0.2.1.1]; rfl
  have hxa : al_le xs α1 := H0.1.trans hle
  obtain ⟨g1, -, g3, g4, -⟩ := as_fx Hr
  have g0 : (0 ≤ nv α1 0 ∧ nv α1 0 ≤ 0) ∧ ((-2147483648) ≤ nv α1 1 ∧ nv α1 1 ≤ 2147483647) ∧ True := by
    refine ⟨by have h := (en_nv (i := 0) Hr.2.1 rfl).2; exact h, by have h := (en_nv (i := 1) Hr.2.1 rfl).2; exact h, trivial⟩
  have r0 : nv α1 0 = nv xs 0 := nv_le hle (by omega)
  have r1 : nv α1 1 = nv xs 1 := nv_le hle (by omega)
  refine hd_segX G (csX := kh_uLeave_X) (fuel := 600) (Bs := [kh_uLeave_b0_0]) (by decide +kernel) (by decide +kernel) (fun q hq => List.mem_cons_of_mem _ (hq)) hαe Hr ?_
  intro q hq β lv' st' S' H1
  simp only [List.mem_cons, List.not_mem_nil, or_false] at hq
  rcases hq with rfl
  · obtain ⟨f1, f2, f3, f4, f5⟩ := as_fx H1
    simp only [kh_uLeave_b0_0, Nat.reduceEqDiff, if_false, fx_env, fx_c, fx_ne, fx_hf, wl_S, Nat.zero_add, Nat.reduceAdd, Nat.reduceDiv, Nat.reduceMod, List.getElem?_cons_zero, List.getElem?_cons_succ, if_true, and_true, true_and] at f1 f2 f3 f4 f5
    have fe0 : nv β 0 = 0 := by omega
    have fe2 : nv β 2 = 1 := by omega
    have fe3 : nv β 3 = 1 := by omega
    have fe4 : nv β 4 = 572 := by omega
    have fe5 : nv β 5 = 573 := by omega
    have fe7 : nv β 7 = 3 := by omega
    have fe9 : nv β 9 = (-1) := by omega
    have fe10 : nv β 10 = 1 := by omega
    have fe11 : nv β 11 = 1 := by omega
    have fe12 : nv β 12 = 572 := by omega
    try simp only [fe0, fe2, fe3, fe4, fe5, fe7, fe9, fe10, fe11, fe12, Int.reduceToNat] at f2 f3 f4 f5
    have s0 : nv β 0 = nv α1 0 := nv_le H1.1 (by omega)
    have s1 : nv β 1 = nv α1 1 := nv_le H1.1 (by omega)
    obtain ⟨c0, c1, c2⟩ := f2
    obtain ⟨α', Ha, hm⟩ := hd_gpM (q := kh_uLeave_a44) (n := 2) (by decide +kernel) hx H1 (by decide +kernel) hxa hf
    have hfr := H1.2.2.2.2.2.2.2.2.2.2.1
    have m0 : nv α' 0 = nv β 0 := hm 0 0 rfl
    have m1 : nv α' 1 = nv β 1 := hm 1 1 rfl
    have m2 : nv α' 2 = nv β 8 := hm 2 8 rfl
    have m3 : nv α' 3 = nv β 12 := hm 3 12 rfl
    have o1 := old_i c1 (en_nv (i := 8) H1.2.1 rfl).1
    have d2 := c2
    simp only [wd_fl2, if_neg (show ¬ (wd_base1 1043 = true) by decide)] at d2
    unfold b2i at d2
    refine (hP _).1 _ _ _ _ Ha ?_ (Nat.lt_succ_self _)
    · by_cases e : 0 ≤ nv β 1 ∧ nv β 1 < (S.1 572 0).toInt
      · have := e.2
        rw [show S' = S from f5]
        omega
      · rw [if_neg e] at d2
        omega)
/- UtilityWorks isWithin -/
def kh_1001 : ct_T := (100, [(0, (-2147483648), 2147483647, 1), (0, 0, 0, 0), (0, (-1), 199, 1)], [], [], [(1, (0, 1, 1, 0), [(0, 0, 199, 1), (0, 0, 0, 0), (0, 0, 199, 1)], [], ([], [])), (1, (0, 0, 0, 0), [(0, (-2147483648), 2147483647, 1), (0, 0, 0, 0), (0, (-1), 199, 1)], [], ([], []))], [], 0, 0, 0)
theorem kh_1001_ok : ct_ok wd_fl2 kh_1001 := ct_of (ff := wd_ff2) (y := (⟨"UtilityWorks", "isWithin", "(III)Z"⟩, prog_1_method_118_code, 3, some .boolean, 11, 0, 3, 25188, 25187, 0, 21001)) (Cs := []) (an := [(14, 0, ([((0, (-2147483648), 2147483647, 1), none), ((0, 0, 0, 0), none), ((0, (-1), 199, 1), none)], [(0, 0), (1, 1), (2, 2)], [], [], [], [], [], [], none), [(0, 0, 99986)])]) (ss := []) (K := 1) (fuel := 4000) wd_fl2_ok rfl (List.forall_mem_nil _) (by decide +kernel)
abbrev kh_uDropJob_y : mt_T := (⟨"UtilityWorks", "dropJob", "(I)I"⟩, prog_1_method_96_code, 3, some .int, 11, 1, 1, 30225, 30223, 30224, 21001)
def kh_uDropJob : ct_T := (307, [(2, 0, 0, 0), (0, (-2147483648), 2147483647, 1)], [], [520, 521, 522], [(1, (0, 0, 200, 1), [(2, 0, 0, 0), (0, (-2147483648), 2147483647, 1)], [], ([520, 521, 522], [])), (3, (0, 0, 0, 0), [(2, 0, 0, 0), (0, 0, 199, 1)], [], ([520, 521, 522], [])), (4, (0, 0, 0, 0), [(2, 0, 0, 0), (0, (-2147483648), 2147483647, 1)], [], ([520, 521, 522], []))], [((574, 577), (3, 3, 0)), ((574, 577), (4, 4, 0)), ((579, 778), (4, 4, 0)), ((579, 778), (5, 5, 0))], 7, 101, 2)
def kh_uDropJob_X : List cs_T := [(3, (0, 0, 0, 0), [(2, 0, 0, 0), (0, 0, 199, 1)], [], ([520, 521, 522], [])), (4, (0, 0, 0, 0), [(2, 0, 0, 0), (0, (-2147483648), 2147483647, 1)], [], ([520, 521, 522], []))]
def kh_uDropJob_a42 : an_T := (42, 2, ([((2, 0, 0, 0), none), ((0, 0, 199, 1), none)], [(0, 0), (1, 1)], [], [], [], [], [], [520, 521, 522], none), [])
def kh_uDropJob_a62 : an_T := (62, 2, ([((2, 0, 0, 0), none), ((0, 0, 199, 1), none), ((0, (-1), 3, 1), none), ((0, 0, 1, 1), none)], [(0, 0), (1, 1), (2, 2)], [3], [], [], [], [], [520, 521, 522], none), [])
def kh_uDropJob_a73 : an_T := (73, 2, ([((2, 0, 0, 0), none), ((0, 0, 199, 1), none), ((0, (-1), 3, 1), none), ((0, (-1), 3, 1), none), ((2, 572, 572, 1), none)], [(0, 0), (1, 1), (2, 2)], [3, 4], [], [], [], [], [520, 521, 522], none), [])
def kh_uDropJob_a76 : an_T := (76, 2, ([((2, 0, 0, 0), none), ((0, 0, 199, 1), none), ((0, (-1), 3, 1), none)], [(0, 0), (1, 1), (2, 2)], [], [], [], [], [], [520, 521, 522], none), [])
def kh_uDropJob_b0_0 : sg_T := (42, 2, ([((2, 0, 0, 0), none), ((0, 0, 199, 1), none), ((0, 0, 0, 0), none), ((2, 1, 1, 1), none), ((2, 572, 572, 1), none), ((0, 2, 2, 0), none), ((0, 0, 200, 1), none), ((0, 1, 1, 0), none), ((0, 0, 199, 1), some (6, (-1))), ((0, 1, 1, 0), none), ((2, 1, 1, 1), none), ((2, 572, 572, 1), none), ((0, 0, 0, 1), none), ((0, 1, 1, 0), none)], [(0, 0), (1, 1)], [], [(4, 5, 6)], [], [(104100012, 1, 1), (600008, 6, 7), (800006, 4, 5)], [], [520, 521, 522], some []))
def kh_uDropJob_b42_0 : sg_T := (62, 2, ([((2, 0, 0, 0), none), ((0, 0, 199, 1), none), ((2, 1, 1, 1), none), ((2, 572, 572, 1), none), ((2, 578, 578, 1), none), ((2, 579, 778, 1), none), ((0, 5, 5, 0), none), ((0, 0, 3, 1), none), ((0, 1, 1, 0), none)], [(2, 7), (0, 0), (1, 1)], [8], [(5, 6, 7), (4, 1, 5)], [], [(104300008, 7, 7), (800007, 5, 6)], [], [520, 521, 522], some []))
def kh_uDropJob_b42_1 : sg_T := (62, 2, ([((2, 0, 0, 0), none), ((0, 0, 199, 1), none), ((2, 1, 1, 1), none), ((2, 572, 572, 1), none), ((2, 578, 578, 1), none), ((2, 579, 778, 1), none), ((0, 5, 5, 0), none), ((0, (-1), 3, 1), none), ((0, 0, 0, 0), none)], [(2, 7), (0, 0), (1, 1)], [8], [(5, 6, 7), (4, 1, 5)], [], [(104300008, 7, 7), (800007, 5, 6)], [], [520, 521, 522], some []))
def kh_uDropJob_b62_0 : sg_T := (76, 2, ([((2, 0, 0, 0), none), ((0, 0, 199, 1), none), ((0, (-1), 3, 1), none), ((0, 0, 0, 1), none)], [(0, 0), (1, 1), (2, 2)], [], [], [], [], [], [520, 521, 522], some []))
def kh_uDropJob_b62_1 : sg_T := (73, 2, ([((2, 0, 0, 0), none), ((0, 0, 199, 1), none), ((0, (-1), 3, 1), none), ((0, 1, 1, 1), none), ((2, 1, 1, 1), none), ((2, 572, 572, 1), none)], [(0, 0), (1, 1), (2, 2)], [2, 5], [], [(3, 0)], [], [], [520, 521, 522], some []))
def kh_uDropJob_b73_0 : sg_T := (76, 2, ([((2, 0, 0, 0), none), ((0, 0, 199, 1), none), ((0, (-1), 3, 1), none), ((0, 0, 3, 1), none), ((2, 572, 572, 1), none)], [(0, 0), (1, 1), (2, 2)], [], [], [], [], [], [521, 520, 522], none))
def kh_uDropJob_b76_0 : sg_T := (101, 2, ([((2, 0, 0, 0), none), ((0, 0, 199, 1), none), ((0, (-1), 3, 1), none), ((2, 1, 1, 1), none), ((2, 572, 572, 1), none), ((2, 578, 578, 1), none), ((2, 579, 778, 1), none), ((0, 4, 4, 0), none), ((0, 3, 3, 0), none), ((2, 1, 1, 1), none), ((2, 572, 572, 1), none), ((0, 0, 200, 1), none)], [(0, 0), (1, 1), (2, 2)], [11], [(6, 7, 8), (5, 1, 6)], [], [], [], [520, 522], some [(6, 7, 8)]))
def kh_uDropJob_I (l : Launch) (D : va_G) (tc : Nat → ClassId) (ad : Nat → Nat) (kd : Nat → Nat × Nat) (N : Nat) (sm : Nat → Nat) (xs : List av_X) (S : fw_S) (p : Program) (e : Env) (s : State) (m : MethodId) (args : Array Value) (below : List Frame) (meth : Method) (c : Code) (sz : Nat) (k : Nat) : Prop := (∀ (α : List av_X) (lv : List (Nat × Value)) (st : List Value) (S1 : fw_S), as_in ad sm wd_fl2 xs S kh_uDropJob.2.2.2.2.2.1 α kh_uDropJob_a42.2.2.1 lv st S1 → (S1 = S ∧ mjk (vF S) (nv xs 1).toNat 4 < 2) → 9 < k → hd_W wd_fl2 kh_uDropJob kh_uDropJob_y l D tc ad kd N sm xs S p e s m args below meth c sz 42 lv st S1 2) ∧ (∀ (α : List av_X) (lv : List (Nat × Value)) (st : List Value) (S1 : fw_S), as_in ad sm wd_fl2 xs S kh_uDropJob.2.2.2.2.2.1 α kh_uDropJob_a62.2.2.1 lv st S1 → (S1 = S ∧ mjk (vF S) (nv xs 1).toNat 4 < 2 ∧ nv α 2 = mjk (vF S) (nv xs 1).toNat 5 ∧ nv α 3 = b2i (0 ≤ nv α 2 ∧ nv α 2 < (S.1 572 0).toInt)) → 7 < k → hd_W wd_fl2 kh_uDropJob kh_uDropJob_y l D tc ad kd N sm xs S p e s m args below meth c sz 62 lv st S1 2) ∧ (∀ (α : List av_X) (lv : List (Nat × Value)) (st : List Value) (S1 : fw_S), as_in ad sm wd_fl2 xs S kh_uDropJob.2.2.2.2.2.1 α kh_uDropJob_a73.2.2.1 lv st S1 → (S1 = S ∧ nv α 3 = mjk (vF S) (nv xs 1).toNat 5 ∧ (0 ≤ nv α 3 ∧ nv α 3 ≤ 3) ∧ nv α 3 < (S.1 572 0).toInt) → 5 < k → hd_W wd_fl2 kh_uDropJob kh_uDropJob_y l D tc ad kd N sm xs S p e s m args below meth c sz 73 lv st S1 2) ∧ (∀ (α : List av_X) (lv : List (Nat × Value)) (st : List Value) (S1 : fw_S), as_in ad sm wd_fl2 xs S kh_uDropJob.2.2.2.2.2.1 α kh_uDropJob_a76.2.2.1 lv st S1 → (mjk (vF S1) (nv xs 1).toNat 4 ≠ 1) → 0 < k → hd_W wd_fl2 kh_uDropJob kh_uDropJob_y l D tc ad kd N sm xs S p e s m args below meth c sz 76 lv st S1 2) ∧ True
set_option maxHeartbeats 16000000 in
set_option maxRecDepth 8000 in
theorem kh_uDropJob_h42 {l : Launch} {D : va_G} {tc : Nat → ClassId} {ad : Nat → Nat} {kd : Nat → Nat × Nat} {N : Nat} {sm : Nat → Nat} {xs : List av_X} {S : fw_S} {p : Program} {e : Env} {s : State} {m : MethodId} {args : Array Value} {below : List Frame} {meth : Method} {c : Code} {sz : Nat} {lvE : List (Nat × Value)} (G : hd_C wd_ff2 wd_fl2 kh_uDropJob [kh_1001, kh_needThing, kh_isOver, kh_needState, kh_uIsCrew, kh_notOver] kh_uDropJob_y l D tc ad kd N sm xs p s m args meth c sz) (H0 : as_in ad sm wd_fl2 xs S kh_uDropJob.2.2.2.2.2.1 xs (hd_0 kh_uDropJob) lvE [] S) {k : Nat} (ih : kh_uDropJob_I l D tc ad kd N sm xs S p e s m args below meth c sz k) : (∀ (α : List av_X) (lv : List (Nat × Value)) (st : List Value) (S1 : fw_S), as_in ad sm wd_fl2 xs S kh_uDropJob.2.2.2.2.2.1 α kh_uDropJob_a42.2.2.1 lv st S1 → (S1 = S ∧ mjk (vF S) (nv xs 1).toNat 4 < 2) → 9 < k + 1 → hd_W wd_fl2 kh_uDropJob kh_uDropJob_y l D tc ad kd N sm xs S p e s m args below meth c sz 42 lv st S1 2) := by
  have hx : xs.length = 2 := by rw [H0.2.1.1]; rfl
  have x1 := (en_nv (i := 1) H0.2.1 rfl).2
  change -2147483648 ≤ nv xs 1 ∧ nv xs 1 ≤ 2147483647 at x1
  intro α lv st S1 H hp hk
  obtain ⟨α1, hle, Hr⟩ := as_recM (pl := []) [] (by decide +kernel) H
  have hf := H.2.2.2.2.2.2.2.2.2.2.1
  have hl1 : α1.length = 2 := by rw [Hr.2.1.1]; rfl
  have hl0 : α.length = 2 := by rw [H.2.1.1]; rfl
  have hxa : al_le xs α1 := H.1.trans hle
  obtain ⟨g1, -, g3, g4, -⟩ := as_fx Hr
  have g0 : (0 ≤ nv α1 0 ∧ nv α1 0 ≤ 0) ∧ (0 ≤ nv α1 1 ∧ nv α1 1 ≤ 199) ∧ True := by
    refine ⟨by have h := (en_nv (i := 0) Hr.2.1 rfl).2; exact h, by have h := (en_nv (i := 1) Hr.2.1 rfl).2; exact h, trivial⟩
  have r0 : nv α1 0 = nv α 0 := nv_le hle (by omega)
  have r1 : nv α1 1 = nv α 1 := nv_le hle (by omega)
  refine hd_segM G (na := 2) (fuel := 600) (first := true) (Bs := [kh_uDropJob_b42_0, kh_uDropJob_b42_1]) (by decide +kernel) hl1 Hr ?_
  intro q hq β lv' st' S' H1
  simp only [List.mem_cons, List.not_mem_nil, or_false] at hq
  rcases hq with rfl | rfl
  · obtain ⟨f1, f2, f3, f4, f5⟩ := as_fx H1
    simp only [kh_uDropJob_b42_0, Nat.reduceEqDiff, if_false, fx_env, fx_c, fx_ne, fx_hf, wl_S, Nat.zero_add, Nat.reduceAdd, Nat.reduceDiv, Nat.reduceMod, List.getElem?_cons_zero, List.getElem?_cons_succ, if_true, and_true, true_and] at f1 f2 f3 f4 f5
    have fe0 : nv β 0 = 0 := by omega
    have fe2 : nv β 2 = 1 := by omega
    have fe3 : nv β 3 = 572 := by omega
    have fe4 : nv β 4 = 578 := by omega
    have fe6 : nv β 6 = 5 := by omega
    have fe8 : nv β 8 = 1 := by omega
    try simp only [fe0, fe2, fe3, fe4, fe6, fe8, Int.reduceToNat] at f2 f3 f4 f5
    have s0 : nv β 0 = nv α1 0 := nv_le H1.1 (by omega)
    have s1 : nv β 1 = nv α1 1 := nv_le H1.1 (by omega)
    obtain ⟨c0, c1⟩ := f2
    obtain ⟨α', Ha, hm⟩ := hd_gpM (q := kh_uDropJob_a62) (n := 2) (by decide +kernel) hx H1 (by decide +kernel) hxa hf
    have hfr := H1.2.2.2.2.2.2.2.2.2.2.1
    have m0 : nv α' 0 = nv β 0 := hm 0 0 rfl
    have m1 : nv α' 1 = nv β 1 := hm 1 1 rfl
    have m2 : nv α' 2 = nv β 7 := hm 2 7 rfl
    have m3 : nv α' 3 = nv β 8 := hm 3 8 rfl
    have z1 : nv α 1 = nv xs 1 := nv_le H.1 (by omega)
    have rt5 := hf_rt (c := 578) (lo := 0) (hi := 199) (base := 579) (rv := 4) (iv := 1) (n := 5) (by decide +kernel) (by decide +kernel) H1 (by decide +kernel) (by omega) (by omega) (by omega)
    have o1 := old_i c1 (en_nv (i := 7) H1.2.1 rfl).1
    have d0 := c0
    simp only [wd_fl2, if_neg (show ¬ (wd_base1 1043 = true) by decide)] at d0
    obtain ⟨p1, p2⟩ := hp
    have h5 : nv β 7 = mjk (vF S) (nv xs 1).toNat 5 := by rw [mjk_v (by omega) (by decide), show 579 + (nv xs 1).toNat = (nv β 5).toNat by omega, ← p1, o1]
    rw [p1] at d0
    refine ih.2.1 _ _ _ _ Ha ?_ ?_
    · rw [m2, m3]
      exact ⟨f5.trans p1, p2, h5, by rw [← d0] <;> omega⟩
    · omega
  · obtain ⟨f1, f2, f3, f4, f5⟩ := as_fx H1
    simp only [kh_uDropJob_b42_1, Nat.reduceEqDiff, if_false, fx_env, fx_c, fx_ne, fx_hf, wl_S, Nat.zero_add, Nat.reduceAdd, Nat.reduceDiv, Nat.reduceMod, List.getElem?_cons_zero, List.getElem?_cons_succ, if_true, and_true, true_and] at f1 f2 f3 f4 f5
    have fe0 : nv β 0 = 0 := by omega
    have fe2 : nv β 2 = 1 := by omega
    have fe3 : nv β 3 = 572 := by omega
    have fe4 : nv β 4 = 578 := by omega
    have fe6 : nv β 6 = 5 := by omega
    have fe8 : nv β 8 = 0 := by omega
    try simp only [fe0, fe2, fe3, fe4, fe6, fe8, Int.reduceToNat] at f2 f3 f4 f5
    have s0 : nv β 0 = nv α1 0 := nv_le H1.1 (by omega)
    have s1 : nv β 1 = nv α1 1 := nv_le H1.1 (by omega)
    obtain ⟨c0, c1⟩ := f2
    obtain ⟨α', Ha, hm⟩ := hd_gpM (q := kh_uDropJob_a62) (n := 2) (by decide +kernel) hx H1 (by decide +kernel) hxa hf
    have hfr := H1.2.2.2.2.2.2.2.2.2.2.1
    have m0 : nv α' 0 = nv β 0 := hm 0 0 rfl
    have m1 : nv α' 1 = nv β 1 := hm 1 1 rfl
    have m2 : nv α' 2 = nv β 7 := hm 2 7 rfl
    have m3 : nv α' 3 = nv β 8 := hm 3 8 rfl
    have z1 : nv α 1 = nv xs 1 := nv_le H.1 (by omega)
    have rt5 := hf_rt (c := 578) (lo := 0) (hi := 199) (base := 579) (rv := 4) (iv := 1) (n := 5) (by decide +kernel) (by decide +kernel) H1 (by decide +kernel) (by omega) (by omega) (by omega)
    have o1 := old_i c1 (en_nv (i := 7) H1.2.1 rfl).1
    have d0 := c0
    simp only [wd_fl2, if_neg (show ¬ (wd_base1 1043 = true) by decide)] at d0
    obtain ⟨p1, p2⟩ := hp
    have h5 : nv β 7 = mjk (vF S) (nv xs 1).toNat 5 := by rw [mjk_v (by omega) (by decide), show 579 + (nv xs 1).toNat = (nv β 5).toNat by omega, ← p1, o1]
    rw [p1] at d0
    refine ih.2.1 _ _ _ _ Ha ?_ ?_
    · rw [m2, m3]
      exact ⟨f5.trans p1, p2, h5, by rw [← d0] <;> omega⟩
    · omega
set_option maxHeartbeats 16000000 in
set_option maxRecDepth 8000 in
theorem kh_uDropJob_h62 {l : Launch} {D : va_G} {tc : Nat → ClassId} {ad : Nat → Nat} {kd : Nat → Nat × Nat} {N : Nat} {sm : Nat → Nat} {xs : List av_X} {S : fw_S} {p : Program} {e : Env} {s : State} {m : MethodId} {args : Array Value} {below : List Frame} {meth : Method} {c : Code} {sz : Nat} {lvE : List (Nat × Value)} (G : hd_C wd_ff2 wd_fl2 kh_uDropJob [kh_1001, kh_needThing, kh_isOver, kh_needState, kh_uIsCrew, kh_notOver] kh_uDropJob_y l D tc ad kd N sm xs p s m args meth c sz) (H0 : as_in ad sm wd_fl2 xs S kh_uDropJob.2.2.2.2.2.1 xs (hd_0 kh_uDropJob) lvE [] S) {k : Nat} (ih : kh_uDropJob_I l D tc ad kd N sm xs S p e s m args below meth c sz k) : (∀ (α : List av_X) (lv : List (Nat × Value)) (st : List Value) (S1 : fw_S), as_in ad sm wd_fl2 xs S kh_uDropJob.2.2.2.2.2.1 α kh_uDropJob_a62.2.2.1 lv st S1 → (S1 = S ∧ mjk (vF S) (nv xs 1).toNat 4 < 2 ∧ nv α 2 = mjk (vF S) (nv xs 1).toNat 5 ∧ nv α 3 = b2i (0 ≤ nv α 2 ∧ nv α 2 < (S.1 572 0).toInt)) → 7 < k + 1 → hd_W wd_fl2 kh_uDropJob kh_uDropJob_y l D tc ad kd N sm xs S p e s m args below meth c sz 62 lv st S1 2) := by
  have hx : xs.length = 2 := by rw [H0.2.1.1]; rfl
  have x1 := (en_nv (i := 1) H0.2.1 rfl).2
  change -2147483648 ≤ nv xs 1 ∧ nv xs 1 ≤ 2147483647 at x1
  intro α lv st S1 H hp hk
  obtain ⟨α1, hle, Hr⟩ := as_recM (pl := []) [] (by decide +kernel) H
  have hf := H.2.2.2.2.2.2.2.2.2.2.1
  have hl1 : α1.length = 4 := by rw [Hr.2.1.1]; rfl
  have hl0 : α.length = 4 := by rw [H.2.1.1]; rfl
  have hxa : al_le xs α1 := H.1.trans hle
  obtain ⟨g1, -, g3, g4, -⟩ := as_fx Hr
  have g0 : (0 ≤ nv α1 0 ∧ nv α1 0 ≤ 0) ∧ (0 ≤ nv α1 1 ∧ nv α1 1 ≤ 199) ∧ ((-1) ≤ nv α1 2 ∧ nv α1 2 ≤ 3) ∧ (0 ≤ nv α1 3 ∧ nv α1 3 ≤ 1) ∧ True := by
    refine ⟨by have h := (en_nv (i := 0) Hr.2.1 rfl).2; exact h, by have h := (en_nv (i := 1) Hr.2.1 rfl).2; exact h, by have h := (en_nv (i := 2) Hr.2.1 rfl).2; exact h, by have h := (en_nv (i := 3) Hr.2.1 rfl).2; exact h, trivial⟩
  have r0 : nv α1 0 = nv α 0 := nv_le hle (by omega)
  have r1 : nv α1 1 = nv α 1 := nv_le hle (by omega)
  have r2 : nv α1 2 = nv α 2 := nv_le hle (by omega)
  have r3 : nv α1 3 = nv α 3 := nv_le hle (by omega)
  refine hd_segM G (na := 4) (fuel := 600) (first := true) (Bs := [kh_uDropJob_b62_0, kh_uDropJob_b62_1]) (by decide +kernel) hl1 Hr ?_
  intro q hq β lv' st' S' H1
  simp only [List.mem_cons, List.not_mem_nil, or_false] at hq
  rcases hq with rfl | rfl
  · obtain ⟨f1, f2, f3, f4, f5⟩ := as_fx H1
    simp only [kh_uDropJob_b62_0, Nat.reduceEqDiff, if_false, fx_env, fx_c, fx_ne, fx_hf, wl_S, Nat.zero_add, Nat.reduceAdd, Nat.reduceDiv, Nat.reduceMod, List.getElem?_cons_zero, List.getElem?_cons_succ, if_true, and_true, true_and] at f1 f2 f3 f4 f5
    have fe0 : nv β 0 = 0 := by omega
    have fe3 : nv β 3 = 0 := by omega
    try simp only [fe0, fe3, Int.reduceToNat] at f2 f3 f4 f5
    have s0 : nv β 0 = nv α1 0 := nv_le H1.1 (by omega)
    have s1 : nv β 1 = nv α1 1 := nv_le H1.1 (by omega)
    have s2 : nv β 2 = nv α1 2 := nv_le H1.1 (by omega)
    have s3 : nv β 3 = nv α1 3 := nv_le H1.1 (by omega)
    obtain ⟨α', Ha, hm⟩ := hd_gpM (q := kh_uDropJob_a76) (n := 2) (by decide +kernel) hx H1 (by decide +kernel) hxa hf
    have hfr := H1.2.2.2.2.2.2.2.2.2.2.1
    have m0 : nv α' 0 = nv β 0 := hm 0 0 rfl
    have m1 : nv α' 1 = nv β 1 := hm 1 1 rfl
    have m2 : nv α' 2 = nv β 2 := hm 2 2 rfl
    have z1 : nv α 1 = nv xs 1 := nv_le H.1 (by omega)
    have q521 : crewF (vF S) := by
      have h := H0.2.2.2.2.2.2.2.2.1 521 (by decide +kernel)
      rw [wd_fl2, if_neg (by decide)] at h
      exact h
    obtain ⟨p1, p2, p3, p4⟩ := hp
    unfold b2i at p4
    refine ih.2.2.2.1 _ _ _ _ Ha ?_ ?_
    · rw [show S' = S from f5.trans p1]
      intro e1
      obtain ⟨r1', r2', -, -, -⟩ := q521.2.2.2.1.2 (nv xs 1).toNat (by omega) e1
      rw [vF_c] at r2'
      rw [← p3] at r1' r2'
      rw [if_pos ⟨r1', r2'⟩] at p4
      omega
    · omega
  · obtain ⟨f1, f2, f3, f4, f5⟩ := as_fx H1
    simp only [kh_uDropJob_b62_1, Nat.reduceEqDiff, if_false, fx_env, fx_c, fx_ne, fx_hf, wl_S, Nat.zero_add, Nat.reduceAdd, Nat.reduceDiv, Nat.reduceMod, List.getElem?_cons_zero, List.getElem?_cons_succ, if_true, and_true, true_and] at f1 f2 f3 f4 f5
    have fe0 : nv β 0 = 0 := by omega
    have fe3 : nv β 3 = 1 := by omega
    have fe4 : nv β 4 = 1 := by omega
    have fe5 : nv β 5 = 572 := by omega
    try simp only [fe0, fe3, fe4, fe5, Int.reduceToNat] at f2 f3 f4 f5
    have s0 : nv β 0 = nv α1 0 := nv_le H1.1 (by omega)
    have s1 : nv β 1 = nv α1 1 := nv_le H1.1 (by omega)
    have s2 : nv β 2 = nv α1 2 := nv_le H1.1 (by omega)
    have s3 : nv β 3 = nv α1 3 := nv_le H1.1 (by omega)
    obtain ⟨α', Ha, hm⟩ := hd_gpM (q := kh_uDropJob_a73) (n := 2) (by decide +kernel) hx H1 (by decide +kernel) hxa hf
    have hfr := H1.2.2.2.2.2.2.2.2.2.2.1
    have m0 : nv α' 0 = nv β 0 := hm 0 0 rfl
    have m1 : nv α' 1 = nv β 1 := hm 1 1 rfl
    have m2 : nv α' 2 = nv β 2 := hm 2 2 rfl
    have m3 : nv α' 3 = nv β 2 := hm 3 2 rfl
    have m4 : nv α' 4 = nv β 5 := hm 4 5 rfl
    have z1 : nv α 1 = nv xs 1 := nv_le H.1 (by omega)
    obtain ⟨p1, p2, p3, p4⟩ := hp
    unfold b2i at p4
    have hb : 0 ≤ nv α 2 ∧ nv α 2 < (S.1 572 0).toInt := by
      by_cases e : 0 ≤ nv α 2 ∧ nv α 2 < (S.1 572 0).toInt
      · exact e
      · rw [if_neg e] at p4
        exfalso; omega
    have hc4 := rg_bd1 (q_rg_in (q := ((572, 572), (0, 0, 0), (0, 2, 4, 1))) (by decide +kernel) H0)
    refine ih.2.2.1 _ _ _ _ Ha ?_ ?_
    · rw [m3, s2, r2]
      exact ⟨f5.trans p1, p3, ⟨hb.1, by omega⟩, hb.2⟩
    · omega
set_option maxHeartbeats 16000000 in
set_option maxRecDepth 8000 in
theorem kh_uDropJob_h73 {l : Launch} {D : va_G} {tc : Nat → ClassId} {ad : Nat → Nat} {kd : Nat → Nat × Nat} {N : Nat} {sm : Nat → Nat} {xs : List av_X} {S : fw_S} {p : Program} {e : Env} {s : State} {m : MethodId} {args : Array Value} {below : List Frame} {meth : Method} {c : Code} {sz : Nat} {lvE : List (Nat × Value)} (G : hd_C wd_ff2 wd_fl2 kh_uDropJob [kh_1001, kh_needThing, kh_isOver, kh_needState, kh_uIsCrew, kh_notOver] kh_uDropJob_y l D tc ad kd N sm xs p s m args meth c sz) (H0 : as_in ad sm wd_fl2 xs S kh_uDropJob.2.2.2.2.2.1 xs (hd_0 kh_uDropJob) lvE [] S) {k : Nat} (ih : kh_uDropJob_I l D tc ad kd N sm xs S p e s m args below meth c sz k) : (∀ (α : List av_X) (lv : List (Nat × Value)) (st : List Value) (S1 : fw_S), as_in ad sm wd_fl2 xs S kh_uDropJob.2.2.2.2.2.1 α kh_uDropJob_a73.2.2.1 lv st S1 → (S1 = S ∧ nv α 3 = mjk (vF S) (nv xs 1).toNat 5 ∧ (0 ≤ nv α 3 ∧ nv α 3 ≤ 3) ∧ nv α 3 < (S.1 572 0).toInt) → 5 < k + 1 → hd_W wd_fl2 kh_uDropJob kh_uDropJob_y l D tc ad kd N sm xs S p e s m args below meth c sz 73 lv st S1 2) := by
  have hx : xs.length = 2 := by rw [H0.2.1.1]; rfl
  have x1 := (en_nv (i := 1) H0.2.1 rfl).2
  change -2147483648 ≤ nv xs 1 ∧ nv xs 1 ≤ 2147483647 at x1
  intro α lv st S1 H hp hk
  have bp := (en_nv (i := 3) H.2.1 rfl).2
  change (-1) ≤ nv α 3 ∧ nv α 3 ≤ 3 at bp
  replace H := as_clamp (i := 3) (lo := 0) (hi := 3) H rfl rfl (by exact hp.2.2.1.1) (by exact hp.2.2.1.2) (by decide)
  obtain ⟨α1, hle, Hr⟩ := as_recM (pl := []) [((574, 577), (3, 3, 0)), ((574, 577), (4, 4, 0)), ((579, 778), (4, 4, 0)), ((579, 778), (5, 5, 0))] (by decide +kernel) H
  have hf := H.2.2.2.2.2.2.2.2.2.2.1
  have hl1 : α1.length = 5 := by rw [Hr.2.1.1]; rfl
  have hl0 : α.length = 5 := by rw [H.2.1.1]; rfl
  have hxa : al_le xs α1 := H.1.trans hle
  obtain ⟨g1, -, g3, g4, -⟩ := as_fx Hr
  have g0 : (0 ≤ nv α1 0 ∧ nv α1 0 ≤ 0) ∧ (0 ≤ nv α1 1 ∧ nv α1 1 ≤ 199) ∧ ((-1) ≤ nv α1 2 ∧ nv α1 2 ≤ 3) ∧ (0 ≤ nv α1 3 ∧ nv α1 3 ≤ 3) ∧ (572 ≤ nv α1 4 ∧ nv α1 4 ≤ 572) ∧ True := by
    refine ⟨by have h := (en_nv (i := 0) Hr.2.1 rfl).2; exact h, by have h := (en_nv (i := 1) Hr.2.1 rfl).2; exact h, by have h := (en_nv (i := 2) Hr.2.1 rfl).2; exact h, by have h := (en_nv (i := 3) Hr.2.1 rfl).2; exact h, by have h := (en_nv (i := 4) Hr.2.1 rfl).2; exact h, trivial⟩
  have r0 : nv α1 0 = nv α 0 := nv_le hle (by omega)
  have r1 : nv α1 1 = nv α 1 := nv_le hle (by omega)
  have r2 : nv α1 2 = nv α 2 := nv_le hle (by omega)
  have r3 : nv α1 3 = nv α 3 := nv_le hle (by omega)
  have r4 : nv α1 4 = nv α 4 := nv_le hle (by omega)
  refine hd_callPN (Rr := R_putBack) (Rs := [kh_putBack]) (idx := 499) G (List.forall_mem_cons.mpr ⟨kh_putBack_okP, List.forall_mem_nil _⟩) (fun Cc hCc ys hnm => by
      rcases List.mem_singleton.mp hCc with rfl
      have y1 : nv ys 1 = nv α1 3 := nm_nv hnm (i := 1) (v := 3) rfl
      show nv ys 1 < (S1.1 572 0).toInt
      rw [y1, r3, hp.1]
      exact hp.2.2.2) (na := 5) (Bs := [kh_uDropJob_b73_0]) (by decide +kernel) (by decide +kernel) hl1 Hr ?_
  intro q hq β lv' st' S' H1 hRx
  simp only [List.mem_cons, List.not_mem_nil, or_false] at hq
  rcases hq with rfl
  · obtain ⟨f1, f2, f3, f4, f5⟩ := as_fx H1
    simp only [kh_uDropJob_b73_0, Nat.reduceEqDiff, if_false, fx_env, fx_c, fx_ne, fx_hf, wl_S, Nat.zero_add, Nat.reduceAdd, Nat.reduceDiv, Nat.reduceMod, List.getElem?_cons_zero, List.getElem?_cons_succ, if_true, and_true, true_and] at f1 f2 f3 f4 f5
    have fe0 : nv β 0 = 0 := by omega
    have fe4 : nv β 4 = 572 := by omega
    try simp only [fe0, fe4, Int.reduceToNat] at f2 f3 f4 f5
    have s0 : nv β 0 = nv α1 0 := nv_le H1.1 (by omega)
    have s1 : nv β 1 = nv α1 1 := nv_le H1.1 (by omega)
    have s2 : nv β 2 = nv α1 2 := nv_le H1.1 (by omega)
    have s3 : nv β 3 = nv α1 3 := nv_le H1.1 (by omega)
    have s4 : nv β 4 = nv α1 4 := nv_le H1.1 (by omega)
    obtain ⟨α', Ha, hm⟩ := hd_gpM (q := kh_uDropJob_a76) (n := 2) (by decide +kernel) hx H1 (by decide +kernel) hxa hf
    have hfr := H1.2.2.2.2.2.2.2.2.2.2.1
    have m0 : nv α' 0 = nv β 0 := hm 0 0 rfl
    have m1 : nv α' 1 = nv β 1 := hm 1 1 rfl
    have m2 : nv α' 2 = nv β 2 := hm 2 2 rfl
    have z1 : nv α 1 = nv xs 1 := nv_le H.1 (by omega)
    obtain ⟨Cc, hCc, ys, rr, hnm, hR, rest, hre⟩ := hRx
    rcases List.mem_singleton.mp hCc with rfl
    have y1 : nv ys 1 = nv α1 3 := nm_nv hnm (i := 1) (v := 3) rfl
    obtain ⟨p1, p2, p3, p4⟩ := hp
    refine ih.2.2.2.1 _ _ _ _ Ha ?_ ?_
    · intro e1
      obtain ⟨u1, u2⟩ := hR (nv xs 1).toNat (by omega) e1
      rw [y1, r3, p2, p1] at u2
      exact u2 rfl
    · omega
set_option maxHeartbeats 16000000 in
set_option maxRecDepth 8000 in
theorem kh_uDropJob_h76 {l : Launch} {D : va_G} {tc : Nat → ClassId} {ad : Nat → Nat} {kd : Nat → Nat × Nat} {N : Nat} {sm : Nat → Nat} {xs : List av_X} {S : fw_S} {p : Program} {e : Env} {s : State} {m : MethodId} {args : Array Value} {below : List Frame} {meth : Method} {c : Code} {sz : Nat} {lvE : List (Nat × Value)} (G : hd_C wd_ff2 wd_fl2 kh_uDropJob [kh_1001, kh_needThing, kh_isOver, kh_needState, kh_uIsCrew, kh_notOver] kh_uDropJob_y l D tc ad kd N sm xs p s m args meth c sz) (H0 : as_in ad sm wd_fl2 xs S kh_uDropJob.2.2.2.2.2.1 xs (hd_0 kh_uDropJob) lvE [] S) {k : Nat} (ih : kh_uDropJob_I l D tc ad kd N sm xs S p e s m args below meth c sz k) : (∀ (α : List av_X) (lv : List (Nat × Value)) (st : List Value) (S1 : fw_S), as_in ad sm wd_fl2 xs S kh_uDropJob.2.2.2.2.2.1 α kh_uDropJob_a76.2.2.1 lv st S1 → (mjk (vF S1) (nv xs 1).toNat 4 ≠ 1) → 0 < k + 1 → hd_W wd_fl2 kh_uDropJob kh_uDropJob_y l D tc ad kd N sm xs S p e s m args below meth c sz 76 lv st S1 2) := by
  have hx : xs.length = 2 := by rw [H0.2.1.1]; rfl
  have x1 := (en_nv (i := 1) H0.2.1 rfl).2
  change -2147483648 ≤ nv xs 1 ∧ nv xs 1 ≤ 2147483647 at x1
  intro α lv st S1 H hp hk
  obtain ⟨α1, hle, Hr⟩ := as_recM (pl := []) [((579, 778), (4, 4, 0))] (by decide +kernel) H
  have hf := H.2.2.2.2.2.2.2.2.2.2.1
  have hl1 : α1.length = 3 := by rw [Hr.2.1.1]; rfl
  have hl0 : α.length = 3 := by rw [H.2.1.1]; rfl
  have hxa : al_le xs α1 := H.1.trans hle
  obtain ⟨g1, -, g3, g4, -⟩ := as_fx Hr
  have g0 : (0 ≤ nv α1 0 ∧ nv α1 0 ≤ 0) ∧ (0 ≤ nv α1 1 ∧ nv α1 1 ≤ 199) ∧ ((-1) ≤ nv α1 2 ∧ nv α1 2 ≤ 3) ∧ True := by
    refine ⟨by have h := (en_nv (i := 0) Hr.2.1 rfl).2; exact h, by have h := (en_nv (i := 1) Hr.2.1 rfl).2; exact h, by have h := (en_nv (i := 2) Hr.2.1 rfl).2; exact h, trivial⟩
  have r0 : nv α1 0 = nv α 0 := nv_le hle (by omega)
  have r1 : nv α1 1 = nv α 1 := nv_le hle (by omega)
  have r2 : nv α1 2 = nv α 2 := nv_le hle (by omega)
  refine hd_segM G (na := 3) (fuel := 600) (first := true) (Bs := [kh_uDropJob_b76_0]) (by decide +kernel) hl1 Hr ?_
  intro q hq β lv' st' S' H1
  simp only [List.mem_cons, List.not_mem_nil, or_false] at hq
  rcases hq with rfl
  · obtain ⟨f1, f2, f3, f4, f5⟩ := as_fx H1
    simp only [kh_uDropJob_b76_0, Nat.reduceEqDiff, if_false, fx_env, fx_c, fx_ne, fx_hf, wl_S, Nat.zero_add, Nat.reduceAdd, Nat.reduceDiv, Nat.reduceMod, List.getElem?_cons_zero, List.getElem?_cons_succ, if_true, and_true, true_and] at f1 f2 f3 f4 f5
    have fe0 : nv β 0 = 0 := by omega
    have fe3 : nv β 3 = 1 := by omega
    have fe4 : nv β 4 = 572 := by omega
    have fe5 : nv β 5 = 578 := by omega
    have fe7 : nv β 7 = 4 := by omega
    have fe8 : nv β 8 = 3 := by omega
    have fe9 : nv β 9 = 1 := by omega
    have fe10 : nv β 10 = 572 := by omega
    try simp only [fe0, fe3, fe4, fe5, fe7, fe8, fe9, fe10, Int.reduceToNat] at f2 f3 f4 f5
    have s0 : nv β 0 = nv α1 0 := nv_le H1.1 (by omega)
    have s1 : nv β 1 = nv α1 1 := nv_le H1.1 (by omega)
    have s2 : nv β 2 = nv α1 2 := nv_le H1.1 (by omega)
    have z1 : nv α 1 = nv xs 1 := nv_le H.1 (by omega)
    have q521 : crewF (vF S1) := by
      have h := H.2.2.2.2.2.2.2.2.1 521 (by decide +kernel)
      rw [wd_fl2, if_neg (by decide)] at h
      exact h
    have rt6 := hf_rt (c := 578) (lo := 0) (hi := 199) (base := 579) (rv := 5) (iv := 1) (n := 6) (by decide +kernel) (by decide +kernel) H1 (by decide +kernel) (by omega) (by omega) (by omega)
    have wA : ∀ a b : Nat, S'.1 a b = (if a = (nv β 6).toNat ∧ b = 4 then Int32.ofInt (3) else (S1.1 a b)) := fun a b => by rw [f5]; rfl
    have hg : crewF (vF S') := by
      refine crew_drop (f := vF S1) (j := (nv xs 1).toNat) q521 ?_ ?_ (by omega) (fun k' hk' => ?_) (fun j' w hj' hw hn => ?_) hp ?_
      · rw [vF_c, vF_c, wA]; (repeat' split) <;> first | (exfalso; omega) | rfl | (rw [i32_of (by omega) (by omega)] <;> omega) | omega
      · rw [vF_j, vF_j, wA]; (repeat' split) <;> first | (exfalso; omega) | rfl | (rw [i32_of (by omega) (by omega)] <;> omega) | omega
      · rw [mck_v hk' (by omega), mck_v hk' (by omega), wA]; (repeat' split) <;> first | (exfalso; omega) | rfl | (rw [i32_of (by omega) (by omega)] <;> omega) | omega
      · rw [mjk_v hj' (by omega), mjk_v hj' (by omega), wA]; (repeat' split) <;> first | (exfalso; omega) | rfl | (rw [i32_of (by omega) (by omega)] <;> omega) | omega
      · rw [mjk_v (by omega) (by omega), wA]; (repeat' split) <;> first | (exfalso; omega) | rfl | (rw [i32_of (by omega) (by omega)] <;> omega) | omega
    exact hd_run G (ss := []) (fuel := 20) (by decide +kernel) (as_fl_in (f := [521]) (as_backM H1 (by decide +kernel) hxa hf) (fun g hg0 => by
      rcases List.mem_singleton.mp hg0 with rfl
      rw [wd_fl2, if_neg (by decide)]; exact hg))
set_option maxHeartbeats 16000000 in
set_option maxRecDepth 8000 in
theorem kh_uDropJob_ok : ct_ok wd_fl2 kh_uDropJob := ct_hand (ff := wd_ff2) (y := kh_uDropJob_y) (Cs := [kh_1001, kh_needThing, kh_isOver, kh_needState, kh_uIsCrew, kh_notOver]) wd_fl2_ok rfl (List.forall_mem_cons.mpr ⟨kh_1001_ok, (List.forall_mem_cons.mpr ⟨kh_needThing_ok, (List.forall_mem_cons.mpr ⟨kh_isOver_ok, (List.forall_mem_cons.mpr ⟨kh_needState_ok, (List.forall_mem_cons.mpr ⟨kh_uIsCrew_ok, (List.forall_mem_cons.mpr ⟨kh_notOver_ok, (List.forall_mem_nil _)⟩)⟩)⟩)⟩)⟩)⟩) (by decide +kernel) (fun l D tc ad kd N sm xs S p e s m args below meth c sz lv G H0 => by
  have hx : xs.length = 2 := by rw [H0.2.1.1]; rfl
  have x1 := (en_nv (i := 1) H0.2.1 rfl).2
  change -2147483648 ≤ nv xs 1 ∧ nv xs 1 ≤ 2147483647 at x1
  have hP : ∀ (k : Nat), kh_uDropJob_I l D tc ad kd N sm xs S p e s m args below meth c sz k := by
    intro k
    induction k with
    | zero => exact ⟨fun _ _ _ _ _ _ h => absurd h (Nat.not_lt_zero _), fun _ _ _ _ _ _ h => absurd h (Nat.not_lt_zero _), fun _ _ _ _ _ _ h => absurd h (Nat.not_lt_zero _), fun _ _ _ _ _ _ h => absurd h (Nat.not_lt_zero _), trivial⟩
    | succ k ih => exact ⟨kh_uDropJob_h42 G H0 ih, kh_uDropJob_h62 G H0 ih, kh_uDropJob_h73 G H0 ih, kh_uDropJob_h76 G H0 ih, trivial⟩
  obtain ⟨α1, hαe, hle, Hr⟩ : ∃ α1, α1 = xs ∧ al_le xs α1 ∧ as_in ad sm wd_fl2 α1 S [] α1 (as_rec (hd_0 kh_uDropJob) []) lv [] S := ⟨xs, rfl, al_le.refl, as_rec0 _ H0⟩
  have hf := H0.2.2.2.2.2.2.2.2.2.2.1
  have hl1 : α1.length = 2 := by rw [Hr.2.1.1]; rfl
  have hl0 : xs.length = 2 := by rw [H0.2.1.1]; rfl
  have hxa : al_le xs α1 := H0.1.trans hle
  obtain ⟨g1, -, g3, g4, -⟩ := as_fx Hr
  have g0 : (0 ≤ nv α1 0 ∧ nv α1 0 ≤ 0) ∧ ((-2147483648) ≤ nv α1 1 ∧ nv α1 1 ≤ 2147483647) ∧ True := by
    refine ⟨by have h := (en_nv (i := 0) Hr.2.1 rfl).2; exact h, by have h := (en_nv (i := 1) Hr.2.1 rfl).2; exact h, trivial⟩
  have r0 : nv α1 0 = nv xs 0 := nv_le hle (by omega)
  have r1 : nv α1 1 = nv xs 1 := nv_le hle (by omega)
  refine hd_segX G (csX := kh_uDropJob_X) (fuel := 600) (Bs := [kh_uDropJob_b0_0]) (by decide +kernel) (by decide +kernel) (fun q hq => List.mem_cons_of_mem _ (hq)) hαe Hr ?_
  intro q hq β lv' st' S' H1
  simp only [List.mem_cons, List.not_mem_nil, or_false] at hq
  rcases hq with rfl
  · obtain ⟨f1, f2, f3, f4, f5⟩ := as_fx H1
    simp only [kh_uDropJob_b0_0, Nat.reduceEqDiff, if_false, fx_env, fx_c, fx_ne, fx_hf, wl_S, Nat.zero_add, Nat.reduceAdd, Nat.reduceDiv, Nat.reduceMod, List.getElem?_cons_zero, List.getElem?_cons_succ, if_true, and_true, true_and] at f1 f2 f3 f4 f5
    have fe0 : nv β 0 = 0 := by omega
    have fe2 : nv β 2 = 0 := by omega
    have fe3 : nv β 3 = 1 := by omega
    have fe4 : nv β 4 = 572 := by omega
    have fe5 : nv β 5 = 2 := by omega
    have fe7 : nv β 7 = 1 := by omega
    have fe9 : nv β 9 = 1 := by omega
    have fe10 : nv β 10 = 1 := by omega
    have fe11 : nv β 11 = 572 := by omega
    have fe12 : nv β 12 = 0 := by omega
    have fe13 : nv β 13 = 1 := by omega
    try simp only [fe0, fe2, fe3, fe4, fe5, fe7, fe9, fe10, fe11, fe12, fe13, Int.reduceToNat] at f2 f3 f4 f5
    have s0 : nv β 0 = nv α1 0 := nv_le H1.1 (by omega)
    have s1 : nv β 1 = nv α1 1 := nv_le H1.1 (by omega)
    obtain ⟨c0, c1, c2⟩ := f2
    obtain ⟨α', Ha, hm⟩ := hd_gpM (q := kh_uDropJob_a42) (n := 2) (by decide +kernel) hx H1 (by decide +kernel) hxa hf
    have hfr := H1.2.2.2.2.2.2.2.2.2.2.1
    have m0 : nv α' 0 = nv β 0 := hm 0 0 rfl
    have m1 : nv α' 1 = nv β 1 := hm 1 1 rfl
    have o2 := old_i c2 (en_nv (i := 6) H1.2.1 rfl).1
    have d0 := c0
    simp only [wd_fl2, if_neg (show ¬ (wd_base1 1041 = true) by decide)] at d0
    unfold b2i at d0
    refine (hP _).1 _ _ _ _ Ha ?_ (Nat.lt_succ_self _)
    · refine ⟨f5, ?_⟩
      rw [show nv xs 1 = nv β 1 by omega]
      by_cases e : mjk (vF S) (nv β 1).toNat 4 < 2
      · exact e
      · rw [if_pos e] at d0
        omega)
abbrev kh_hireCrew_y : mt_T := (⟨"UtilityWorks$Crews", "hireCrew", "(III)I"⟩, prog_3_method_3_code, 5, some .int, 1, 1, 3, 22225, 22223, 22224, 21011)
def kh_hireCrew : ct_T := (9, [(2, 572, 572, 1), (0, 0, 11, 1), (0, 1, 31, 1), (0, 1, 4, 1)], [((572, 572), (0, 0, 0), (0, 2, 3, 1))], [521], [(1, (0, 2, 3, 1), [(2, 572, 572, 1), (0, 0, 11, 1), (0, 1, 31, 1), (0, 1, 4, 1)], [], ([521], []))], [((572, 572), (0, 0, 0)), ((576, 577), (0, 0, 0)), ((576, 577), (1, 1, 0)), ((576, 577), (2, 2, 0)), ((576, 577), (3, 3, 0))], 0, 0, 0)
def kh_hireCrew_b0_0 : sg_T := (47, 0, ([((2, 572, 572, 1), none), ((0, 0, 11, 1), none), ((0, 1, 31, 1), none), ((0, 1, 4, 1), none), ((2, 573, 573, 1), none), ((0, 0, 0, 0), none), ((0, 2, 3, 1), none), ((2, 576, 577, 1), none), ((0, 0, 0, 0), none), ((0, 1, 1, 0), none), ((0, 2, 2, 0), none), ((0, 3, 3, 0), none), ((0, (-1), (-1), 0), none), ((0, 0, 0, 0), none), ((0, 1, 1, 0), none), ((0, 3, 4, 1), some (6, 1)), ((0, 0, 0, 0), none), ((0, 0, 0, 0), none), ((0, 1, 1, 0), none), ((0, 2, 3, 1), some (6, 0))], [(4, 7), (0, 0), (1, 1), (2, 2), (3, 3)], [19], [(0, 16, 15), (7, 11, 12), (7, 10, 3), (7, 9, 2), (7, 8, 1), (4, 6, 7)], [], [(600019, 15, 18), (500015, 6, 14), (800006, 0, 5)], [], [], some [(0, 16, 15), (7, 11, 12), (7, 10, 3), (7, 9, 2), (7, 8, 1)]))
set_option maxHeartbeats 16000000 in
set_option maxRecDepth 8000 in
theorem kh_hireCrew_ok : ct_ok wd_fl2 kh_hireCrew := ct_hand (ff := wd_ff2) (y := kh_hireCrew_y) (Cs := []) wd_fl2_ok rfl (List.forall_mem_nil _) (by decide +kernel) (fun l D tc ad kd N sm xs S p e s m args below meth c sz lv G H0 => by
  have hx : xs.length = 4 := by rw [H0.2.1.1]; rfl
  have q521 : crewF (vF S) := by
    have h := H0.2.2.2.2.2.2.2.2.1 521 (by decide +kernel)
    rw [wd_fl2, if_neg (by decide)] at h
    exact h
  obtain ⟨α1, hle, Hr⟩ := as_recM (pl := []) [((572, 572), (0, 0, 0)), ((576, 577), (0, 0, 0)), ((576, 577), (1, 1, 0)), ((576, 577), (2, 2, 0)), ((576, 577), (3, 3, 0))] (by decide +kernel) H0
  have hf := H0.2.2.2.2.2.2.2.2.2.2.1
  have hl1 : α1.length = 4 := by rw [Hr.2.1.1]; rfl
  have hl0 : xs.length = 4 := by rw [H0.2.1.1]; rfl
  have hxa : al_le xs α1 := H0.1.trans hle
  obtain ⟨g1, -, g3, g4, -⟩ := as_fx Hr
  have g0 : (572 ≤ nv α1 0 ∧ nv α1 0 ≤ 572) ∧ (0 ≤ nv α1 1 ∧ nv α1 1 ≤ 11) ∧ (1 ≤ nv α1 2 ∧ nv α1 2 ≤ 31) ∧ (1 ≤ nv α1 3 ∧ nv α1 3 ≤ 4) ∧ True := by
    refine ⟨by have h := (en_nv (i := 0) Hr.2.1 rfl).2; exact h, by have h := (en_nv (i := 1) Hr.2.1 rfl).2; exact h, by have h := (en_nv (i := 2) Hr.2.1 rfl).2; exact h, by have h := (en_nv (i := 3) Hr.2.1 rfl).2; exact h, trivial⟩
  have r0 : nv α1 0 = nv xs 0 := nv_le hle (by omega)
  have r1 : nv α1 1 = nv xs 1 := nv_le hle (by omega)
  have r2 : nv α1 2 = nv xs 2 := nv_le hle (by omega)
  have r3 : nv α1 3 = nv xs 3 := nv_le hle (by omega)
  refine hd_segM G (na := 4) (fuel := 600) (first := true) (Bs := [kh_hireCrew_b0_0]) (by decide +kernel) hl1 Hr ?_
  intro q hq β lv' st' S' H1
  simp only [List.mem_cons, List.not_mem_nil, or_false] at hq
  rcases hq with rfl
  · obtain ⟨f1, f2, f3, f4, f5⟩ := as_fx H1
    simp only [kh_hireCrew_b0_0, Nat.reduceEqDiff, if_false, fx_env, fx_c, fx_ne, fx_hf, wl_S, Nat.zero_add, Nat.reduceAdd, Nat.reduceDiv, Nat.reduceMod, List.getElem?_cons_zero, List.getElem?_cons_succ, if_true, and_true, true_and] at f1 f2 f3 f4 f5
    have fe0 : nv β 0 = 572 := by omega
    have fe4 : nv β 4 = 573 := by omega
    have fe5 : nv β 5 = 0 := by omega
    have fe8 : nv β 8 = 0 := by omega
    have fe9 : nv β 9 = 1 := by omega
    have fe10 : nv β 10 = 2 := by omega
    have fe11 : nv β 11 = 3 := by omega
    have fe12 : nv β 12 = (-1) := by omega
    have fe13 : nv β 13 = 0 := by omega
    have fe14 : nv β 14 = 1 := by omega
    have fe16 : nv β 16 = 0 := by omega
    have fe17 : nv β 17 = 0 := by omega
    have fe18 : nv β 18 = 1 := by omega
    try simp only [fe0, fe4, fe5, fe8, fe9, fe10, fe11, fe12, fe13, fe14, fe16, fe17, fe18, Int.reduceToNat] at f2 f3 f4 f5
    have s0 : nv β 0 = nv α1 0 := nv_le H1.1 (by omega)
    have s1 : nv β 1 = nv α1 1 := nv_le H1.1 (by omega)
    have s2 : nv β 2 = nv α1 2 := nv_le H1.1 (by omega)
    have s3 : nv β 3 = nv α1 3 := nv_le H1.1 (by omega)
    obtain ⟨c0, c1, c2⟩ := f2
    have rt7 := hf_rt (c := 573) (lo := 0) (hi := 3) (base := 574) (rv := 4) (iv := 6) (n := 7) (by decide +kernel) (by decide +kernel) H1 (by decide +kernel) (by omega) (by omega) (by omega)
    have o2 := old_i c2 (en_nv (i := 6) H1.2.1 rfl).1
    have wA : ∀ a b : Nat, S'.1 a b = (if a = 572 ∧ b = 0 then Int32.ofInt (nv β 15) else (if a = (nv β 7).toNat ∧ b = 3 then Int32.ofInt ((-1)) else (if a = (nv β 7).toNat ∧ b = 2 then Int32.ofInt (nv β 3) else (if a = (nv β 7).toNat ∧ b = 1 then Int32.ofInt (nv β 2) else (if a = (nv β 7).toNat ∧ b = 0 then Int32.ofInt (nv β 1) else (S.1 a b)))))) := fun a b => by rw [f5]; rfl
    have hg : crewF (vF S') := by
      refine crew_hire (f := vF S) (k := (nv β 6).toNat) q521 ?_ ?_ ?_ (fun k' hk' hn => ?_) (fun j' w hj' hw => ?_) ?_
      · rw [vF_c, vF_c, wA]; (repeat' split) <;> first | (exfalso; omega) | rfl | (rw [i32_of (by omega) (by omega)] <;> omega) | omega
      · rw [vF_c]; omega
      · rw [vF_j, vF_j, wA]; (repeat' split) <;> first | (exfalso; omega) | rfl | (rw [i32_of (by omega) (by omega)] <;> omega) | omega
      · rw [mck_v hk' (by omega), mck_v hk' (by omega), wA]; (repeat' split) <;> first | (exfalso; omega) | rfl | (rw [i32_of (by omega) (by omega)] <;> omega) | omega
      · rw [mjk_v hj' (by omega), mjk_v hj' (by omega), wA]; (repeat' split) <;> first | (exfalso; omega) | rfl | (rw [i32_of (by omega) (by omega)] <;> omega) | omega
      · rw [mck_v (by omega) (by omega), wA]; (repeat' split) <;> first | (exfalso; omega) | rfl | (rw [i32_of (by omega) (by omega)] <;> omega) | omega
    exact hd_run G (ss := []) (fuel := 20) (by decide +kernel) (as_fl_in (f := [521]) (as_backM H1 (by decide +kernel) hxa hf) (fun g hg0 => by
      rcases List.mem_singleton.mp hg0 with rfl
      rw [wd_fl2, if_neg (by decide)]; exact hg)))
