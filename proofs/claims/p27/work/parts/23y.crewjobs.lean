/-! ===== the class: jobs of crews ===== -/
abbrev kh_spotOf_y : mt_T := (⟨"UtilityWorks$Crews", "spotOf", "(LUtilityWorks$Town;[I)I"⟩, prog_3_method_10_code, 3, some .int, 1, 1, 2, 26114, 26113, 2001, 21011)
def kh_spotOf : ct_T := (126, [(2, 572, 572, 1), (2, 1, 1, 1), (2, 579, 778, 1)], [], [520], [(1, (0, 0, 11, 1), [(2, 572, 572, 1), (2, 1, 1, 1), (2, 579, 778, 1)], [], ([], []))], [], 0, 0, 0)
def kh_spotOf_a17 : an_T := (17, 0, ([((2, 572, 572, 1), none), ((2, 1, 1, 1), none), ((2, 579, 778, 1), none), ((0, 0, 16, 1), none), ((2, 166, 166, 1), none)], [(0, 0), (1, 1), (2, 2)], [3, 4], [], [], [], [], [520], none), [])
def kh_spotOf_b0_0 : sg_T := (30, 0, ([((2, 572, 572, 1), none), ((2, 1, 1, 1), none), ((2, 579, 778, 1), none), ((0, 0, 0, 0), none), ((0, 0, 3, 1), none), ((0, 4, 4, 0), none), ((3, 0, 0, 0), none), ((0, 2, 2, 0), none), ((0, 0, 16, 1), none), ((0, 0, 10, 1), none)], [(0, 0), (1, 1), (2, 2)], [9], [(2, 7, 8), (2, 3, 4)], [], [(800008, 2, 7), (100000, 4, 5), (800004, 2, 3)], [], [520], some []))
def kh_spotOf_b0_1 : sg_T := (17, 0, ([((2, 572, 572, 1), none), ((2, 1, 1, 1), none), ((2, 579, 778, 1), none), ((0, 0, 0, 0), none), ((0, 4, 6, 1), none), ((0, 4, 4, 0), none), ((2, 165, 165, 1), none), ((2, 166, 166, 1), none), ((0, 2, 2, 0), none), ((0, 0, 16, 1), none)], [(0, 0), (1, 1), (2, 2)], [9, 7], [(2, 8, 9), (2, 3, 4)], [], [(800009, 2, 8), (200000, 5, 4), (800004, 2, 3)], [], [520], some []))
def kh_spotOf_b17_0 : sg_T := (30, 0, ([((2, 572, 572, 1), none), ((2, 1, 1, 1), none), ((2, 579, 778, 1), none), ((0, 0, 9, 1), none), ((2, 166, 166, 1), none), ((2, 167, 176, 1), none), ((0, 0, 0, 0), none), ((0, 0, 11, 1), none)], [(0, 0), (1, 1), (2, 2)], [7], [(5, 6, 7)], [], [(800007, 5, 6)], [], [520], some []))
def kh_spotOf_I (l : Launch) (D : va_G) (tc : Nat → ClassId) (ad : Nat → Nat) (kd : Nat → Nat × Nat) (N : Nat) (sm : Nat → Nat) (xs : List av_X) (S : fw_S) (p : Program) (e : Env) (s : State) (m : MethodId) (args : Array Value) (below : List Frame) (meth : Method) (c : Code) (sz : Nat) (k : Nat) : Prop := (∀ (α : List av_X) (lv : List (Nat × Value)) (st : List Value) (S1 : fw_S), as_in ad sm wd_fl2 xs S kh_spotOf.2.2.2.2.2.1 α kh_spotOf_a17.2.2.1 lv st S1 → (nv α 3 ≤ 9) → 0 < k → hd_W wd_fl2 kh_spotOf kh_spotOf_y l D tc ad kd N sm xs S p e s m args below meth c sz 17 lv st S1 0) ∧ True
set_option maxHeartbeats 16000000 in
set_option maxRecDepth 8000 in
theorem kh_spotOf_h17 {l : Launch} {D : va_G} {tc : Nat → ClassId} {ad : Nat → Nat} {kd : Nat → Nat × Nat} {N : Nat} {sm : Nat → Nat} {xs : List av_X} {S : fw_S} {p : Program} {e : Env} {s : State} {m : MethodId} {args : Array Value} {below : List Frame} {meth : Method} {c : Code} {sz : Nat} {lvE : List (Nat × Value)} (G : hd_C wd_ff2 wd_fl2 kh_spotOf [] kh_spotOf_y l D tc ad kd N sm xs p s m args meth c sz) (H0 : as_in ad sm wd_fl2 xs S kh_spotOf.2.2.2.2.2.1 xs (hd_0 kh_spotOf) lvE [] S) {k : Nat} (ih : kh_spotOf_I l D tc ad kd N sm xs S p e s m args below meth c sz k) : (∀ (α : List av_X) (lv : List (Nat × Value)) (st : List Value) (S1 : fw_S), as_in ad sm wd_fl2 xs S kh_spotOf.2.2.2.2.2.1 α kh_spotOf_a17.2.2.1 lv st S1 → (nv α 3 ≤ 9) → 0 < k + 1 → hd_W wd_fl2 kh_spotOf kh_spotOf_y l D tc ad kd N sm xs S p e s m args below meth c sz 17 lv st S1 0) := by
  have hx : xs.length = 3 := by rw [H0.2.1.1]; rfl
  have q520 : jbW S := by
    have h := H0.2.2.2.2.2.2.2.2.1 520 (by decide +kernel)
    rw [wd_fl2, if_neg (by decide)] at h
    exact h
  intro α lv st S1 H hp hk
  have bp := (en_nv (i := 3) H.2.1 rfl).2
  change 0 ≤ nv α 3 ∧ nv α 3 ≤ 16 at bp
  replace H := as_clamp (i := 3) (lo := 0) (hi := 9) H rfl rfl (by omega) (by exact hp) (by decide)
  obtain ⟨α1, hle, Hr⟩ := as_recM (pl := []) [] (by decide +kernel) H
  have hf := H.2.2.2.2.2.2.2.2.2.2.1
  have hl1 : α1.length = 5 := by rw [Hr.2.1.1]; rfl
  have hl0 : α.length = 5 := by rw [H.2.1.1]; rfl
  have hxa : al_le xs α1 := H.1.trans hle
  obtain ⟨g1, -, g3, g4, -⟩ := as_fx Hr
  have g0 : (572 ≤ nv α1 0 ∧ nv α1 0 ≤ 572) ∧ (1 ≤ nv α1 1 ∧ nv α1 1 ≤ 1) ∧ (579 ≤ nv α1 2 ∧ nv α1 2 ≤ 778) ∧ (0 ≤ nv α1 3 ∧ nv α1 3 ≤ 9) ∧ (166 ≤ nv α1 4 ∧ nv α1 4 ≤ 166) ∧ True := by
    refine ⟨by have h := (en_nv (i := 0) Hr.2.1 rfl).2; exact h, by have h := (en_nv (i := 1) Hr.2.1 rfl).2; exact h, by have h := (en_nv (i := 2) Hr.2.1 rfl).2; exact h, by have h := (en_nv (i := 3) Hr.2.1 rfl).2; exact h, by have h := (en_nv (i := 4) Hr.2.1 rfl).2; exact h, trivial⟩
  have r0 : nv α1 0 = nv α 0 := nv_le hle (by omega)
  have r1 : nv α1 1 = nv α 1 := nv_le hle (by omega)
  have r2 : nv α1 2 = nv α 2 := nv_le hle (by omega)
  have r3 : nv α1 3 = nv α 3 := nv_le hle (by omega)
  have r4 : nv α1 4 = nv α 4 := nv_le hle (by omega)
  refine hd_segM G (na := 5) (fuel := 600) (first := true) (Bs := [kh_spotOf_b17_0]) (by decide +kernel) hl1 Hr ?_
  intro q hq β lv' st' S' H1
  simp only [List.mem_cons, List.not_mem_nil, or_false] at hq
  rcases hq with rfl
  · obtain ⟨f1, f2, f3, f4, f5⟩ := as_fx H1
    simp only [kh_spotOf_b17_0, fx_env, fx_c, fx_ne, fx_hf, wl_S, Nat.zero_add, Nat.reduceAdd, Nat.reduceDiv, Nat.reduceMod, List.getElem?_cons_zero, List.getElem?_cons_succ, if_true, and_true, true_and] at f1 f2 f3 f4 f5
    have fe0 : nv β 0 = 572 := by omega
    have fe1 : nv β 1 = 1 := by omega
    have fe4 : nv β 4 = 166 := by omega
    have fe6 : nv β 6 = 0 := by omega
    try simp only [fe0, fe1, fe4, fe6, Int.reduceToNat] at f2 f3 f4 f5
    have s0 : nv β 0 = nv α1 0 := nv_le H1.1 (by omega)
    have s1 : nv β 1 = nv α1 1 := nv_le H1.1 (by omega)
    have s2 : nv β 2 = nv α1 2 := nv_le H1.1 (by omega)
    have s3 : nv β 3 = nv α1 3 := nv_le H1.1 (by omega)
    have s4 : nv β 4 = nv α1 4 := nv_le H1.1 (by omega)
    have c0 := f2
    exact hd_run G (ss := []) (fuel := 20) (by decide +kernel) (as_backM H1 (by decide +kernel) hxa hf)
set_option maxHeartbeats 16000000 in
set_option maxRecDepth 8000 in
theorem kh_spotOf_ok : ct_ok wd_fl2 kh_spotOf := ct_hand (ff := wd_ff2) (y := kh_spotOf_y) (Cs := []) wd_fl2_ok rfl (List.forall_mem_nil _) (by decide +kernel) (fun l D tc ad kd N sm xs S p e s m args below meth c sz lv G H0 => by
  have hx : xs.length = 3 := by rw [H0.2.1.1]; rfl
  have q520 : jbW S := by
    have h := H0.2.2.2.2.2.2.2.2.1 520 (by decide +kernel)
    rw [wd_fl2, if_neg (by decide)] at h
    exact h
  have hP : ∀ (k : Nat), kh_spotOf_I l D tc ad kd N sm xs S p e s m args below meth c sz k := by
    intro k
    induction k with
    | zero => exact ⟨fun _ _ _ _ _ _ h => absurd h (Nat.not_lt_zero _), trivial⟩
    | succ k ih => exact ⟨kh_spotOf_h17 G H0 ih, trivial⟩
  obtain ⟨α1, hle, Hr⟩ := as_recM (pl := []) [] (by decide +kernel) H0
  have hf := H0.2.2.2.2.2.2.2.2.2.2.1
  have hl1 : α1.length = 3 := by rw [Hr.2.1.1]; rfl
  have hl0 : xs.length = 3 := by rw [H0.2.1.1]; rfl
  have hxa : al_le xs α1 := H0.1.trans hle
  obtain ⟨g1, -, g3, g4, -⟩ := as_fx Hr
  have g0 : (572 ≤ nv α1 0 ∧ nv α1 0 ≤ 572) ∧ (1 ≤ nv α1 1 ∧ nv α1 1 ≤ 1) ∧ (579 ≤ nv α1 2 ∧ nv α1 2 ≤ 778) ∧ True := by
    refine ⟨by have h := (en_nv (i := 0) Hr.2.1 rfl).2; exact h, by have h := (en_nv (i := 1) Hr.2.1 rfl).2; exact h, by have h := (en_nv (i := 2) Hr.2.1 rfl).2; exact h, trivial⟩
  have r0 : nv α1 0 = nv xs 0 := nv_le hle (by omega)
  have r1 : nv α1 1 = nv xs 1 := nv_le hle (by omega)
  have r2 : nv α1 2 = nv xs 2 := nv_le hle (by omega)
  refine hd_segM G (na := 3) (fuel := 600) (first := true) (Bs := [kh_spotOf_b0_0, kh_spotOf_b0_1]) (by decide +kernel) hl1 Hr ?_
  intro q hq β lv' st' S' H1
  simp only [List.mem_cons, List.not_mem_nil, or_false] at hq
  rcases hq with rfl | rfl
  · obtain ⟨f1, f2, f3, f4, f5⟩ := as_fx H1
    simp only [kh_spotOf_b0_0, fx_env, fx_c, fx_ne, fx_hf, wl_S, Nat.zero_add, Nat.reduceAdd, Nat.reduceDiv, Nat.reduceMod, List.getElem?_cons_zero, List.getElem?_cons_succ, if_true, and_true, true_and] at f1 f2 f3 f4 f5
    have fe0 : nv β 0 = 572 := by omega
    have fe1 : nv β 1 = 1 := by omega
    have fe3 : nv β 3 = 0 := by omega
    have fe5 : nv β 5 = 4 := by omega
    have fe7 : nv β 7 = 2 := by omega
    try simp only [fe0, fe1, fe3, fe5, fe7, Int.reduceToNat] at f2 f3 f4 f5
    have s0 : nv β 0 = nv α1 0 := nv_le H1.1 (by omega)
    have s1 : nv β 1 = nv α1 1 := nv_le H1.1 (by omega)
    have s2 : nv β 2 = nv α1 2 := nv_le H1.1 (by omega)
    obtain ⟨c0, c1, c2⟩ := f2
    exact hd_run G (ss := []) (fuel := 20) (by decide +kernel) (as_backM H1 (by decide +kernel) hxa hf)
  · obtain ⟨f1, f2, f3, f4, f5⟩ := as_fx H1
    simp only [kh_spotOf_b0_1, fx_env, fx_c, fx_ne, fx_hf, wl_S, Nat.zero_add, Nat.reduceAdd, Nat.reduceDiv, Nat.reduceMod, List.getElem?_cons_zero, List.getElem?_cons_succ, if_true, and_true, true_and] at f1 f2 f3 f4 f5
    have fe0 : nv β 0 = 572 := by omega
    have fe1 : nv β 1 = 1 := by omega
    have fe3 : nv β 3 = 0 := by omega
    have fe5 : nv β 5 = 4 := by omega
    have fe6 : nv β 6 = 165 := by omega
    have fe7 : nv β 7 = 166 := by omega
    have fe8 : nv β 8 = 2 := by omega
    try simp only [fe0, fe1, fe3, fe5, fe6, fe7, fe8, Int.reduceToNat] at f2 f3 f4 f5
    have s0 : nv β 0 = nv α1 0 := nv_le H1.1 (by omega)
    have s1 : nv β 1 = nv α1 1 := nv_le H1.1 (by omega)
    have s2 : nv β 2 = nv α1 2 := nv_le H1.1 (by omega)
    obtain ⟨c0, c1, c2⟩ := f2
    obtain ⟨α', Ha, hm⟩ := hd_gpM (q := kh_spotOf_a17) (n := 0) (by decide +kernel) hx H1 (by decide +kernel) hxa hf
    have hfr := H1.2.2.2.2.2.2.2.2.2.2.1
    have m0 : nv α' 0 = nv β 0 := hm 0 0 rfl
    have m1 : nv α' 1 = nv β 1 := hm 1 1 rfl
    have m2 : nv α' 2 = nv β 2 := hm 2 2 rfl
    have m3 : nv α' 3 = nv β 9 := hm 3 9 rfl
    have m4 : nv α' 4 = nv β 7 := hm 4 7 rfl
    subst S'
    obtain ⟨h0, h1⟩ := f4
    have q := q520 (nv β 2 - 579).toNat (by omega)
    rw [show 579 + (nv β 2 - 579).toNat = (nv β 2).toNat by omega] at q
    refine (hP _).1 _ _ _ _ Ha ?_ (Nat.lt_succ_self _)
    · omega)
/- UtilityWorks$Grid isDug -/
def kh_919 : ct_T := (108, [(2, 8, 8, 1), (0, 0, 16, 1)], [], [], [(1, (0, 0, 0, 0), [(2, 8, 8, 1), (0, 0, 16, 1)], [], ([], [])), (1, (0, 1, 1, 0), [(2, 8, 8, 1), (0, 0, 16, 1)], [], ([], []))], [], 0, 0, 0)
theorem kh_919_ok : ct_ok wd_fl2 kh_919 := ct_of (ff := wd_ff2) (y := (⟨"UtilityWorks$Grid", "isDug", "(I)Z"⟩, prog_5_method_19_code, 2, some .boolean, 3, 1, 1, 26022, 26020, 26021, 21004)) (Cs := []) (an := []) (ss := []) (K := 1) (fuel := 4000) wd_fl2_ok rfl (List.forall_mem_nil _) (by decide +kernel)
/- UtilityWorks$Grid isBroken -/
def kh_920 : ct_T := (38, [(2, 8, 8, 1), (0, 0, 2, 1), (0, 0, 16, 1)], [], [], [(1, (0, 1, 1, 0), [(2, 8, 8, 1), (0, 0, 2, 1), (0, 0, 16, 1)], [], ([], [])), (1, (0, 0, 0, 0), [(2, 8, 8, 1), (0, 0, 2, 1), (0, 0, 16, 1)], [], ([], []))], [], 0, 0, 0)
theorem kh_920_ok : ct_ok wd_fl2 kh_920 := ct_of (ff := wd_ff2) (y := (⟨"UtilityWorks$Grid", "isBroken", "(II)Z"⟩, prog_5_method_7_code, 4, some .boolean, 3, 1, 2, 24069, 24067, 24068, 21004)) (Cs := []) (an := [(29, 0, ([((2, 8, 8, 1), none), ((0, 0, 2, 1), none), ((0, 0, 16, 1), none), ((2, 10, 60, 1), none)], [(0, 0), (1, 1), (2, 2), (3, 3)], [], [], [], [], [], [], none), [(0, 0, 99971)])]) (ss := []) (K := 1) (fuel := 4000) wd_fl2_ok rfl (List.forall_mem_nil _) (by decide +kernel)
/- UtilityWorks$Grid hasLink -/
def kh_921 : ct_T := (31, [(2, 8, 8, 1), (0, 0, 2, 1), (0, 0, 16, 1)], [], [], [(1, (0, 0, 0, 0), [(2, 8, 8, 1), (0, 0, 2, 1), (0, 0, 16, 1)], [], ([], [])), (1, (0, 1, 1, 0), [(2, 8, 8, 1), (0, 0, 2, 1), (0, 0, 16, 1)], [], ([], []))], [], 0, 0, 0)
theorem kh_921_ok : ct_ok wd_fl2 kh_921 := ct_of (ff := wd_ff2) (y := (⟨"UtilityWorks$Grid", "hasLink", "(II)Z"⟩, prog_5_method_5_code, 3, some .boolean, 3, 1, 2, 24039, 24037, 24038, 21004)) (Cs := []) (an := []) (ss := []) (K := 1) (fuel := 4000) wd_fl2_ok rfl (List.forall_mem_nil _) (by decide +kernel)
abbrev kh_hasNothing_y : mt_T := (⟨"UtilityWorks$Crews", "hasNothingToDo", "(LUtilityWorks$Town;[I)Z"⟩, prog_3_method_16_code, 4, some .boolean, 1, 1, 2, 26137, 26136, 2006, 21011)
def kh_hasNothing : ct_T := (131, [(2, 572, 572, 1), (2, 1, 1, 1), (2, 579, 778, 1)], [], [520], [(1, (0, 0, 1, 1), [(2, 572, 572, 1), (2, 1, 1, 1), (2, 579, 778, 1)], [], ([], []))], [], 1, 23, 0)
def kh_hasNothing_a106 : an_T := (106, 0, ([((2, 572, 572, 1), none), ((2, 1, 1, 1), none), ((2, 579, 778, 1), none), ((0, 0, 16, 1), none)], [(0, 0), (1, 1), (2, 2), (3, 3)], [], [], [], [], [], [520], none), [])
def kh_hasNothing_a126 : an_T := (126, 0, ([((2, 572, 572, 1), none), ((2, 1, 1, 1), none), ((2, 579, 778, 1), none), ((0, 0, 16, 1), none)], [(0, 0), (1, 1), (2, 2), (3, 3)], [], [], [], [], [], [520], none), [])
def kh_hasNothing_b0_0 : sg_T := (56, 0, ([((2, 572, 572, 1), none), ((2, 1, 1, 1), none), ((2, 579, 778, 1), none), ((0, 2, 2, 0), none), ((0, 0, 16, 1), none), ((0, 0, 0, 0), none), ((0, 0, 0, 0), none), ((2, 8, 8, 1), none), ((0, 0, 0, 0), none)], [(3, 4), (0, 0), (1, 1), (2, 2)], [8], [(2, 5, 6), (2, 3, 4)], [], [(800006, 2, 5), (800004, 2, 3)], [], [520], some []))
def kh_hasNothing_b0_1 : sg_T := (56, 0, ([((2, 572, 572, 1), none), ((2, 1, 1, 1), none), ((2, 579, 778, 1), none), ((0, 2, 2, 0), none), ((0, 0, 16, 1), none), ((0, 0, 0, 0), none), ((0, 0, 0, 0), none), ((2, 8, 8, 1), none), ((0, 1, 1, 0), none)], [(3, 4), (0, 0), (1, 1), (2, 2)], [8], [(2, 5, 6), (2, 3, 4)], [], [(800006, 2, 5), (800004, 2, 3)], [], [520], some []))
def kh_hasNothing_b0_2 : sg_T := (73, 0, ([((2, 572, 572, 1), none), ((2, 1, 1, 1), none), ((2, 579, 778, 1), none), ((0, 2, 2, 0), none), ((0, 0, 16, 1), none), ((0, 0, 0, 0), none), ((0, 1, 1, 0), none), ((2, 8, 8, 1), none), ((0, 0, 0, 0), none), ((0, 1, 1, 0), none)], [(3, 4), (0, 0), (1, 1), (2, 2)], [9], [(2, 5, 6), (2, 3, 4)], [], [(800006, 2, 5), (800004, 2, 3)], [], [520], some []))
def kh_hasNothing_b0_3 : sg_T := (73, 0, ([((2, 572, 572, 1), none), ((2, 1, 1, 1), none), ((2, 579, 778, 1), none), ((0, 2, 2, 0), none), ((0, 0, 16, 1), none), ((0, 0, 0, 0), none), ((0, 1, 1, 0), none), ((2, 8, 8, 1), none), ((0, 1, 1, 0), none), ((0, 0, 0, 0), none)], [(3, 4), (0, 0), (1, 1), (2, 2)], [9], [(2, 5, 6), (2, 3, 4)], [(8, 0)], [(800006, 2, 5), (800004, 2, 3)], [], [520], some []))
def kh_hasNothing_b0_4 : sg_T := (93, 0, ([((2, 572, 572, 1), none), ((2, 1, 1, 1), none), ((2, 579, 778, 1), none), ((0, 2, 2, 0), none), ((0, 0, 16, 1), none), ((0, 0, 0, 0), none), ((0, 2, 2, 0), none), ((2, 8, 8, 1), none), ((0, 1, 1, 0), none), ((0, 0, 2, 1), none), ((0, 1, 1, 0), none), ((0, 0, 0, 0), none)], [(3, 4), (0, 0), (1, 1), (2, 2)], [11], [(2, 8, 9), (2, 5, 6), (2, 3, 4)], [(10, 0)], [(800009, 2, 8), (800006, 2, 5), (800004, 2, 3)], [], [520], some []))
def kh_hasNothing_b0_5 : sg_T := (93, 0, ([((2, 572, 572, 1), none), ((2, 1, 1, 1), none), ((2, 579, 778, 1), none), ((0, 2, 2, 0), none), ((0, 0, 16, 1), none), ((0, 0, 0, 0), none), ((0, 2, 2, 0), none), ((2, 8, 8, 1), none), ((0, 1, 1, 0), none), ((0, 0, 2, 1), none), ((0, 0, 0, 0), none), ((0, 1, 1, 0), none)], [(3, 4), (0, 0), (1, 1), (2, 2)], [11], [(2, 8, 9), (2, 5, 6), (2, 3, 4)], [], [(800009, 2, 8), (800006, 2, 5), (800004, 2, 3)], [], [520], some []))
def kh_hasNothing_b0_6 : sg_T := (105, 0, ([((2, 572, 572, 1), none), ((2, 1, 1, 1), none), ((2, 579, 778, 1), none), ((0, 2, 2, 0), none), ((0, 0, 16, 1), none), ((0, 0, 0, 0), none), ((0, 3, 3, 0), none), ((2, 8, 8, 1), none), ((0, 1, 1, 0), none), ((0, 0, 2, 1), none), ((0, 0, 0, 0), none)], [(3, 4), (0, 0), (1, 1), (2, 2)], [10], [(2, 8, 9), (2, 5, 6), (2, 3, 4)], [], [(800009, 2, 8), (800006, 2, 5), (800004, 2, 3)], [], [520], some []))
def kh_hasNothing_b0_7 : sg_T := (105, 0, ([((2, 572, 572, 1), none), ((2, 1, 1, 1), none), ((2, 579, 778, 1), none), ((0, 2, 2, 0), none), ((0, 0, 16, 1), none), ((0, 0, 0, 0), none), ((0, 3, 3, 0), none), ((2, 8, 8, 1), none), ((0, 1, 1, 0), none), ((0, 0, 2, 1), none), ((0, 1, 1, 0), none)], [(3, 4), (0, 0), (1, 1), (2, 2)], [10], [(2, 8, 9), (2, 5, 6), (2, 3, 4)], [], [(800009, 2, 8), (800006, 2, 5), (800004, 2, 3)], [], [520], some []))
def kh_hasNothing_b0_8 : sg_T := (148, 0, ([((2, 572, 572, 1), none), ((2, 1, 1, 1), none), ((2, 579, 778, 1), none), ((0, 2, 2, 0), none), ((0, 0, 16, 1), none), ((0, 0, 0, 0), none), ((0, 4, 4, 0), none), ((0, 0, 0, 0), none)], [(3, 4), (0, 0), (1, 1), (2, 2)], [7], [(2, 5, 6), (2, 3, 4)], [], [(800006, 2, 5), (800004, 2, 3)], [], [520], some []))
def kh_hasNothing_b0_9 : sg_T := (106, 0, ([((2, 572, 572, 1), none), ((2, 1, 1, 1), none), ((2, 579, 778, 1), none), ((0, 2, 2, 0), none), ((0, 0, 16, 1), none), ((0, 0, 0, 0), none), ((0, 5, 5, 0), none)], [(3, 4), (0, 0), (1, 1), (2, 2)], [], [(2, 5, 6), (2, 3, 4)], [], [(800006, 2, 5), (800004, 2, 3)], [], [520], some []))
def kh_hasNothing_b0_10 : sg_T := (126, 0, ([((2, 572, 572, 1), none), ((2, 1, 1, 1), none), ((2, 579, 778, 1), none), ((0, 2, 2, 0), none), ((0, 0, 16, 1), none), ((0, 0, 0, 0), none), ((0, 6, 6, 0), none)], [(3, 4), (0, 0), (1, 1), (2, 2)], [], [(2, 5, 6), (2, 3, 4)], [], [(800006, 2, 5), (800004, 2, 3)], [], [520], some []))
def kh_hasNothing_b106_0 : sg_T := (125, 0, ([((2, 572, 572, 1), none), ((2, 1, 1, 1), none), ((2, 579, 778, 1), none), ((0, 0, 9, 1), none), ((2, 165, 165, 1), none), ((2, 166, 166, 1), none), ((2, 167, 176, 1), none), ((0, 2, 2, 0), none), ((0, (-2147483648), 2147483647, 1), none), ((0, 0, 0, 0), none)], [(0, 0), (1, 1), (2, 2), (3, 3)], [9], [(6, 7, 8)], [(8, 0)], [(800008, 6, 7)], [], [520], some []))
def kh_hasNothing_b106_1 : sg_T := (125, 0, ([((2, 572, 572, 1), none), ((2, 1, 1, 1), none), ((2, 579, 778, 1), none), ((0, 0, 9, 1), none), ((2, 165, 165, 1), none), ((2, 166, 166, 1), none), ((2, 167, 176, 1), none), ((0, 2, 2, 0), none), ((0, 0, 0, 1), none), ((0, 1, 1, 0), none)], [(0, 0), (1, 1), (2, 2), (3, 3)], [9], [(6, 7, 8)], [], [(800008, 6, 7)], [], [520], some []))
def kh_hasNothing_b126_0 : sg_T := (146, 0, ([((2, 572, 572, 1), none), ((2, 1, 1, 1), none), ((2, 579, 778, 1), none), ((0, 0, 9, 1), none), ((2, 165, 165, 1), none), ((2, 166, 166, 1), none), ((2, 167, 176, 1), none), ((0, 12, 12, 0), none), ((0, (-2147483648), 2147483647, 1), none), ((0, 0, 0, 0), none)], [(0, 0), (1, 1), (2, 2), (3, 3)], [9], [(6, 7, 8)], [(8, 0)], [(800008, 6, 7)], [], [520], some []))
def kh_hasNothing_b126_1 : sg_T := (146, 0, ([((2, 572, 572, 1), none), ((2, 1, 1, 1), none), ((2, 579, 778, 1), none), ((0, 0, 9, 1), none), ((2, 165, 165, 1), none), ((2, 166, 166, 1), none), ((2, 167, 176, 1), none), ((0, 12, 12, 0), none), ((0, 0, 0, 1), none), ((0, 1, 1, 0), none)], [(0, 0), (1, 1), (2, 2), (3, 3)], [9], [(6, 7, 8)], [], [(800008, 6, 7)], [], [520], some []))
def kh_hasNothing_I (l : Launch) (D : va_G) (tc : Nat → ClassId) (ad : Nat → Nat) (kd : Nat → Nat × Nat) (N : Nat) (sm : Nat → Nat) (xs : List av_X) (S : fw_S) (p : Program) (e : Env) (s : State) (m : MethodId) (args : Array Value) (below : List Frame) (meth : Method) (c : Code) (sz : Nat) (k : Nat) : Prop := (∀ (α : List av_X) (lv : List (Nat × Value)) (st : List Value) (S1 : fw_S), as_in ad sm wd_fl2 xs S kh_hasNothing.2.2.2.2.2.1 α kh_hasNothing_a106.2.2.1 lv st S1 → (nv α 3 ≤ 9) → 0 < k → hd_W wd_fl2 kh_hasNothing kh_hasNothing_y l D tc ad kd N sm xs S p e s m args below meth c sz 106 lv st S1 0) ∧ (∀ (α : List av_X) (lv : List (Nat × Value)) (st : List Value) (S1 : fw_S), as_in ad sm wd_fl2 xs S kh_hasNothing.2.2.2.2.2.1 α kh_hasNothing_a126.2.2.1 lv st S1 → (nv α 3 ≤ 9) → 0 < k → hd_W wd_fl2 kh_hasNothing kh_hasNothing_y l D tc ad kd N sm xs S p e s m args below meth c sz 126 lv st S1 0) ∧ True
set_option maxHeartbeats 16000000 in
set_option maxRecDepth 8000 in
theorem kh_hasNothing_h106 {l : Launch} {D : va_G} {tc : Nat → ClassId} {ad : Nat → Nat} {kd : Nat → Nat × Nat} {N : Nat} {sm : Nat → Nat} {xs : List av_X} {S : fw_S} {p : Program} {e : Env} {s : State} {m : MethodId} {args : Array Value} {below : List Frame} {meth : Method} {c : Code} {sz : Nat} {lvE : List (Nat × Value)} (G : hd_C wd_ff2 wd_fl2 kh_hasNothing [kh_919, kh_920, kh_921] kh_hasNothing_y l D tc ad kd N sm xs p s m args meth c sz) (H0 : as_in ad sm wd_fl2 xs S kh_hasNothing.2.2.2.2.2.1 xs (hd_0 kh_hasNothing) lvE [] S) {k : Nat} (ih : kh_hasNothing_I l D tc ad kd N sm xs S p e s m args below meth c sz k) : (∀ (α : List av_X) (lv : List (Nat × Value)) (st : List Value) (S1 : fw_S), as_in ad sm wd_fl2 xs S kh_hasNothing.2.2.2.2.2.1 α kh_hasNothing_a106.2.2.1 lv st S1 → (nv α 3 ≤ 9) → 0 < k + 1 → hd_W wd_fl2 kh_hasNothing kh_hasNothing_y l D tc ad kd N sm xs S p e s m args below meth c sz 106 lv st S1 0) := by
  have hx : xs.length = 3 := by rw [H0.2.1.1]; rfl
  have q520 : jbW S := by
    have h := H0.2.2.2.2.2.2.2.2.1 520 (by decide +kernel)
    rw [wd_fl2, if_neg (by decide)] at h
    exact h
  intro α lv st S1 H hp hk
  have bp := (en_nv (i := 3) H.2.1 rfl).2
  change 0 ≤ nv α 3 ∧ nv α 3 ≤ 16 at bp
  replace H := as_clamp (i := 3) (lo := 0) (hi := 9) H rfl rfl (by omega) (by exact hp) (by decide)
  obtain ⟨α1, hle, Hr⟩ := as_recM (pl := []) [] (by decide +kernel) H
  have hf := H.2.2.2.2.2.2.2.2.2.2.1
  have hl1 : α1.length = 4 := by rw [Hr.2.1.1]; rfl
  have hl0 : α.length = 4 := by rw [H.2.1.1]; rfl
  have hxa : al_le xs α1 := H.1.trans hle
  obtain ⟨g1, -, g3, g4, -⟩ := as_fx Hr
  have g0 : (572 ≤ nv α1 0 ∧ nv α1 0 ≤ 572) ∧ (1 ≤ nv α1 1 ∧ nv α1 1 ≤ 1) ∧ (579 ≤ nv α1 2 ∧ nv α1 2 ≤ 778) ∧ (0 ≤ nv α1 3 ∧ nv α1 3 ≤ 9) ∧ True := by
    refine ⟨by have h := (en_nv (i := 0) Hr.2.1 rfl).2; exact h, by have h := (en_nv (i := 1) Hr.2.1 rfl).2; exact h, by have h := (en_nv (i := 2) Hr.2.1 rfl).2; exact h, by have h := (en_nv (i := 3) Hr.2.1 rfl).2; exact h, trivial⟩
  have r0 : nv α1 0 = nv α 0 := nv_le hle (by omega)
  have r1 : nv α1 1 = nv α 1 := nv_le hle (by omega)
  have r2 : nv α1 2 = nv α 2 := nv_le hle (by omega)
  have r3 : nv α1 3 = nv α 3 := nv_le hle (by omega)
  refine hd_segM G (na := 4) (fuel := 600) (first := true) (Bs := [kh_hasNothing_b106_0, kh_hasNothing_b106_1]) (by decide +kernel) hl1 Hr ?_
  intro q hq β lv' st' S' H1
  simp only [List.mem_cons, List.not_mem_nil, or_false] at hq
  rcases hq with rfl | rfl
  · obtain ⟨f1, f2, f3, f4, f5⟩ := as_fx H1
    simp only [kh_hasNothing_b106_0, fx_env, fx_c, fx_ne, fx_hf, wl_S, Nat.zero_add, Nat.reduceAdd, Nat.reduceDiv, Nat.reduceMod, List.getElem?_cons_zero, List.getElem?_cons_succ, if_true, and_true, true_and] at f1 f2 f3 f4 f5
    have fe0 : nv β 0 = 572 := by omega
    have fe1 : nv β 1 = 1 := by omega
    have fe4 : nv β 4 = 165 := by omega
    have fe5 : nv β 5 = 166 := by omega
    have fe7 : nv β 7 = 2 := by omega
    have fe9 : nv β 9 = 0 := by omega
    try simp only [fe0, fe1, fe4, fe5, fe7, fe9, Int.reduceToNat] at f2 f3 f4 f5
    have s0 : nv β 0 = nv α1 0 := nv_le H1.1 (by omega)
    have s1 : nv β 1 = nv α1 1 := nv_le H1.1 (by omega)
    have s2 : nv β 2 = nv α1 2 := nv_le H1.1 (by omega)
    have s3 : nv β 3 = nv α1 3 := nv_le H1.1 (by omega)
    have c0 := f2
    exact hd_run G (ss := []) (fuel := 20) (by decide +kernel) (as_backM H1 (by decide +kernel) hxa hf)
  · obtain ⟨f1, f2, f3, f4, f5⟩ := as_fx H1
    simp only [kh_hasNothing_b106_1, fx_env, fx_c, fx_ne, fx_hf, wl_S, Nat.zero_add, Nat.reduceAdd, Nat.reduceDiv, Nat.reduceMod, List.getElem?_cons_zero, List.getElem?_cons_succ, if_true, and_true, true_and] at f1 f2 f3 f4 f5
    have fe0 : nv β 0 = 572 := by omega
    have fe1 : nv β 1 = 1 := by omega
    have fe4 : nv β 4 = 165 := by omega
    have fe5 : nv β 5 = 166 := by omega
    have fe7 : nv β 7 = 2 := by omega
    have fe8 : nv β 8 = 0 := by omega
    have fe9 : nv β 9 = 1 := by omega
    try simp only [fe0, fe1, fe4, fe5, fe7, fe8, fe9, Int.reduceToNat] at f2 f3 f4 f5
    have s0 : nv β 0 = nv α1 0 := nv_le H1.1 (by omega)
    have s1 : nv β 1 = nv α1 1 := nv_le H1.1 (by omega)
    have s2 : nv β 2 = nv α1 2 := nv_le H1.1 (by omega)
    have s3 : nv β 3 = nv α1 3 := nv_le H1.1 (by omega)
    have c0 := f2
    exact hd_run G (ss := []) (fuel := 20) (by decide +kernel) (as_backM H1 (by decide +kernel) hxa hf)
set_option maxHeartbeats 16000000 in
set_option maxRecDepth 8000 in
theorem kh_hasNothing_h126 {l : Launch} {D : va_G} {tc : Nat → ClassId} {ad : Nat → Nat} {kd : Nat → Nat × Nat} {N : Nat} {sm : Nat → Nat} {xs : List av_X} {S : fw_S} {p : Program} {e : Env} {s : State} {m : MethodId} {args : Array Value} {below : List Frame} {meth : Method} {c : Code} {sz : Nat} {lvE : List (Nat × Value)} (G : hd_C wd_ff2 wd_fl2 kh_hasNothing [kh_919, kh_920, kh_921] kh_hasNothing_y l D tc ad kd N sm xs p s m args meth c sz) (H0 : as_in ad sm wd_fl2 xs S kh_hasNothing.2.2.2.2.2.1 xs (hd_0 kh_hasNothing) lvE [] S) {k : Nat} (ih : kh_hasNothing_I l D tc ad kd N sm xs S p e s m args below meth c sz k) : (∀ (α : List av_X) (lv : List (Nat × Value)) (st : List Value) (S1 : fw_S), as_in ad sm wd_fl2 xs S kh_hasNothing.2.2.2.2.2.1 α kh_hasNothing_a126.2.2.1 lv st S1 → (nv α 3 ≤ 9) → 0 < k + 1 → hd_W wd_fl2 kh_hasNothing kh_hasNothing_y l D tc ad kd N sm xs S p e s m args below meth c sz 126 lv st S1 0) := by
  have hx : xs.length = 3 := by rw [H0.2.1.1]; rfl
  have q520 : jbW S := by
    have h := H0.2.2.2.2.2.2.2.2.1 520 (by decide +kernel)
    rw [wd_fl2, if_neg (by decide)] at h
    exact h
  intro α lv st S1 H hp hk
  have bp := (en_nv (i := 3) H.2.1 rfl).2
  change 0 ≤ nv α 3 ∧ nv α 3 ≤ 16 at bp
  replace H := as_clamp (i := 3) (lo := 0) (hi := 9) H rfl rfl (by omega) (by exact hp) (by decide)
  obtain ⟨α1, hle, Hr⟩ := as_recM (pl := []) [] (by decide +kernel) H
  have hf := H.2.2.2.2.2.2.2.2.2.2.1
  have hl1 : α1.length = 4 := by rw [Hr.2.1.1]; rfl
  have hl0 : α.length = 4 := by rw [H.2.1.1]; rfl
  have hxa : al_le xs α1 := H.1.trans hle
  obtain ⟨g1, -, g3, g4, -⟩ := as_fx Hr
  have g0 : (572 ≤ nv α1 0 ∧ nv α1 0 ≤ 572) ∧ (1 ≤ nv α1 1 ∧ nv α1 1 ≤ 1) ∧ (579 ≤ nv α1 2 ∧ nv α1 2 ≤ 778) ∧ (0 ≤ nv α1 3 ∧ nv α1 3 ≤ 9) ∧ True := by
    refine ⟨by have h := (en_nv (i := 0) Hr.2.1 rfl).2; exact h, by have h := (en_nv (i := 1) Hr.2.1 rfl).2; exact h, by have h := (en_nv (i := 2) Hr.2.1 rfl).2; exact h, by have h := (en_nv (i := 3) Hr.2.1 rfl).2; exact h, trivial⟩
  have r0 : nv α1 0 = nv α 0 := nv_le hle (by omega)
  have r1 : nv α1 1 = nv α 1 := nv_le hle (by omega)
  have r2 : nv α1 2 = nv α 2 := nv_le hle (by omega)
  have r3 : nv α1 3 = nv α 3 := nv_le hle (by omega)
  refine hd_segM G (na := 4) (fuel := 600) (first := true) (Bs := [kh_hasNothing_b126_0, kh_hasNothing_b126_1]) (by decide +kernel) hl1 Hr ?_
  intro q hq β lv' st' S' H1
  simp only [List.mem_cons, List.not_mem_nil, or_false] at hq
  rcases hq with rfl | rfl
  · obtain ⟨f1, f2, f3, f4, f5⟩ := as_fx H1
    simp only [kh_hasNothing_b126_0, fx_env, fx_c, fx_ne, fx_hf, wl_S, Nat.zero_add, Nat.reduceAdd, Nat.reduceDiv, Nat.reduceMod, List.getElem?_cons_zero, List.getElem?_cons_succ, if_true, and_true, true_and] at f1 f2 f3 f4 f5
    have fe0 : nv β 0 = 572 := by omega
    have fe1 : nv β 1 = 1 := by omega
    have fe4 : nv β 4 = 165 := by omega
    have fe5 : nv β 5 = 166 := by omega
    have fe7 : nv β 7 = 12 := by omega
    have fe9 : nv β 9 = 0 := by omega
    try simp only [fe0, fe1, fe4, fe5, fe7, fe9, Int.reduceToNat] at f2 f3 f4 f5
    have s0 : nv β 0 = nv α1 0 := nv_le H1.1 (by omega)
    have s1 : nv β 1 = nv α1 1 := nv_le H1.1 (by omega)
    have s2 : nv β 2 = nv α1 2 := nv_le H1.1 (by omega)
    have s3 : nv β 3 = nv α1 3 := nv_le H1.1 (by omega)
    have c0 := f2
    exact hd_run G (ss := []) (fuel := 20) (by decide +kernel) (as_backM H1 (by decide +kernel) hxa hf)
  · obtain ⟨f1, f2, f3, f4, f5⟩ := as_fx H1
    simp only [kh_hasNothing_b126_1, fx_env, fx_c, fx_ne, fx_hf, wl_S, Nat.zero_add, Nat.reduceAdd, Nat.reduceDiv, Nat.reduceMod, List.getElem?_cons_zero, List.getElem?_cons_succ, if_true, and_true, true_and] at f1 f2 f3 f4 f5
    have fe0 : nv β 0 = 572 := by omega
    have fe1 : nv β 1 = 1 := by omega
    have fe4 : nv β 4 = 165 := by omega
    have fe5 : nv β 5 = 166 := by omega
    have fe7 : nv β 7 = 12 := by omega
    have fe8 : nv β 8 = 0 := by omega
    have fe9 : nv β 9 = 1 := by omega
    try simp only [fe0, fe1, fe4, fe5, fe7, fe8, fe9, Int.reduceToNat] at f2 f3 f4 f5
    have s0 : nv β 0 = nv α1 0 := nv_le H1.1 (by omega)
    have s1 : nv β 1 = nv α1 1 := nv_le H1.1 (by omega)
    have s2 : nv β 2 = nv α1 2 := nv_le H1.1 (by omega)
    have s3 : nv β 3 = nv α1 3 := nv_le H1.1 (by omega)
    have c0 := f2
    exact hd_run G (ss := []) (fuel := 20) (by decide +kernel) (as_backM H1 (by decide +kernel) hxa hf)
set_option maxHeartbeats 16000000 in
set_option maxRecDepth 8000 in
theorem kh_hasNothing_ok : ct_ok wd_fl2 kh_hasNothing := ct_hand (ff := wd_ff2) (y := kh_hasNothing_y) (Cs := [kh_919, kh_920, kh_921]) wd_fl2_ok rfl (List.forall_mem_cons.mpr ⟨kh_919_ok, (List.forall_mem_cons.mpr ⟨kh_920_ok, (List.forall_mem_cons.mpr ⟨kh_921_ok, (List.forall_mem_nil _)⟩)⟩)⟩) (by decide +kernel) (fun l D tc ad kd N sm xs S p e s m args below meth c sz lv G H0 => by
  have hx : xs.length = 3 := by rw [H0.2.1.1]; rfl
  have q520 : jbW S := by
    have h := H0.2.2.2.2.2.2.2.2.1 520 (by decide +kernel)
    rw [wd_fl2, if_neg (by decide)] at h
    exact h
  have hP : ∀ (k : Nat), kh_hasNothing_I l D tc ad kd N sm xs S p e s m args below meth c sz k := by
    intro k
    induction k with
    | zero => exact ⟨fun _ _ _ _ _ _ h => absurd h (Nat.not_lt_zero _), fun _ _ _ _ _ _ h => absurd h (Nat.not_lt_zero _), trivial⟩
    | succ k ih => exact ⟨kh_hasNothing_h106 G H0 ih, kh_hasNothing_h126 G H0 ih, trivial⟩
  obtain ⟨α1, hle, Hr⟩ := as_recM (pl := []) [] (by decide +kernel) H0
  have hf := H0.2.2.2.2.2.2.2.2.2.2.1
  have hl1 : α1.length = 3 := by rw [Hr.2.1.1]; rfl
  have hl0 : xs.length = 3 := by rw [H0.2.1.1]; rfl
  have hxa : al_le xs α1 := H0.1.trans hle
  obtain ⟨g1, -, g3, g4, -⟩ := as_fx Hr
  have g0 : (572 ≤ nv α1 0 ∧ nv α1 0 ≤ 572) ∧ (1 ≤ nv α1 1 ∧ nv α1 1 ≤ 1) ∧ (579 ≤ nv α1 2 ∧ nv α1 2 ≤ 778) ∧ True := by
    refine ⟨by have h := (en_nv (i := 0) Hr.2.1 rfl).2; exact h, by have h := (en_nv (i := 1) Hr.2.1 rfl).2; exact h, by have h := (en_nv (i := 2) Hr.2.1 rfl).2; exact h, trivial⟩
  have r0 : nv α1 0 = nv xs 0 := nv_le hle (by omega)
  have r1 : nv α1 1 = nv xs 1 := nv_le hle (by omega)
  have r2 : nv α1 2 = nv xs 2 := nv_le hle (by omega)
  refine hd_segM G (na := 3) (fuel := 600) (first := true) (Bs := [kh_hasNothing_b0_0, kh_hasNothing_b0_1, kh_hasNothing_b0_2, kh_hasNothing_b0_3, kh_hasNothing_b0_4, kh_hasNothing_b0_5, kh_hasNothing_b0_6, kh_hasNothing_b0_7, kh_hasNothing_b0_8, kh_hasNothing_b0_9, kh_hasNothing_b0_10]) (by decide +kernel) hl1 Hr ?_
  intro q hq β lv' st' S' H1
  simp only [List.mem_cons, List.not_mem_nil, or_false] at hq
  rcases hq with rfl | rfl | rfl | rfl | rfl | rfl | rfl | rfl | rfl | rfl | rfl
  · obtain ⟨f1, f2, f3, f4, f5⟩ := as_fx H1
    simp only [kh_hasNothing_b0_0, fx_env, fx_c, fx_ne, fx_hf, wl_S, Nat.zero_add, Nat.reduceAdd, Nat.reduceDiv, Nat.reduceMod, List.getElem?_cons_zero, List.getElem?_cons_succ, if_true, and_true, true_and] at f1 f2 f3 f4 f5
    have fe0 : nv β 0 = 572 := by omega
    have fe1 : nv β 1 = 1 := by omega
    have fe3 : nv β 3 = 2 := by omega
    have fe5 : nv β 5 = 0 := by omega
    have fe6 : nv β 6 = 0 := by omega
    have fe7 : nv β 7 = 8 := by omega
    have fe8 : nv β 8 = 0 := by omega
    try simp only [fe0, fe1, fe3, fe5, fe6, fe7, fe8, Int.reduceToNat] at f2 f3 f4 f5
    have s0 : nv β 0 = nv α1 0 := nv_le H1.1 (by omega)
    have s1 : nv β 1 = nv α1 1 := nv_le H1.1 (by omega)
    have s2 : nv β 2 = nv α1 2 := nv_le H1.1 (by omega)
    obtain ⟨c0, c1⟩ := f2
    exact hd_run G (ss := []) (fuel := 20) (by decide +kernel) (as_backM H1 (by decide +kernel) hxa hf)
  · obtain ⟨f1, f2, f3, f4, f5⟩ := as_fx H1
    simp only [kh_hasNothing_b0_1, fx_env, fx_c, fx_ne, fx_hf, wl_S, Nat.zero_add, Nat.reduceAdd, Nat.reduceDiv, Nat.reduceMod, List.getElem?_cons_zero, List.getElem?_cons_succ, if_true, and_true, true_and] at f1 f2 f3 f4 f5
    have fe0 : nv β 0 = 572 := by omega
    have fe1 : nv β 1 = 1 := by omega
    have fe3 : nv β 3 = 2 := by omega
    have fe5 : nv β 5 = 0 := by omega
    have fe6 : nv β 6 = 0 := by omega
    have fe7 : nv β 7 = 8 := by omega
    have fe8 : nv β 8 = 1 := by omega
    try simp only [fe0, fe1, fe3, fe5, fe6, fe7, fe8, Int.reduceToNat] at f2 f3 f4 f5
    have s0 : nv β 0 = nv α1 0 := nv_le H1.1 (by omega)
    have s1 : nv β 1 = nv α1 1 := nv_le H1.1 (by omega)
    have s2 : nv β 2 = nv α1 2 := nv_le H1.1 (by omega)
    obtain ⟨c0, c1⟩ := f2
    exact hd_run G (ss := []) (fuel := 20) (by decide +kernel) (as_backM H1 (by decide +kernel) hxa hf)
  · obtain ⟨f1, f2, f3, f4, f5⟩ := as_fx H1
    simp only [kh_hasNothing_b0_2, fx_env, fx_c, fx_ne, fx_hf, wl_S, Nat.zero_add, Nat.reduceAdd, Nat.reduceDiv, Nat.reduceMod, List.getElem?_cons_zero, List.getElem?_cons_succ, if_true, and_true, true_and] at f1 f2 f3 f4 f5
    have fe0 : nv β 0 = 572 := by omega
    have fe1 : nv β 1 = 1 := by omega
    have fe3 : nv β 3 = 2 := by omega
    have fe5 : nv β 5 = 0 := by omega
    have fe6 : nv β 6 = 1 := by omega
    have fe7 : nv β 7 = 8 := by omega
    have fe8 : nv β 8 = 0 := by omega
    have fe9 : nv β 9 = 1 := by omega
    try simp only [fe0, fe1, fe3, fe5, fe6, fe7, fe8, fe9, Int.reduceToNat] at f2 f3 f4 f5
    have s0 : nv β 0 = nv α1 0 := nv_le H1.1 (by omega)
    have s1 : nv β 1 = nv α1 1 := nv_le H1.1 (by omega)
    have s2 : nv β 2 = nv α1 2 := nv_le H1.1 (by omega)
    obtain ⟨c0, c1⟩ := f2
    exact hd_run G (ss := []) (fuel := 20) (by decide +kernel) (as_backM H1 (by decide +kernel) hxa hf)
  · obtain ⟨f1, f2, f3, f4, f5⟩ := as_fx H1
    simp only [kh_hasNothing_b0_3, fx_env, fx_c, fx_ne, fx_hf, wl_S, Nat.zero_add, Nat.reduceAdd, Nat.reduceDiv, Nat.reduceMod, List.getElem?_cons_zero, List.getElem?_cons_succ, if_true, and_true, true_and] at f1 f2 f3 f4 f5
    have fe0 : nv β 0 = 572 := by omega
    have fe1 : nv β 1 = 1 := by omega
    have fe3 : nv β 3 = 2 := by omega
    have fe5 : nv β 5 = 0 := by omega
    have fe6 : nv β 6 = 1 := by omega
    have fe7 : nv β 7 = 8 := by omega
    have fe8 : nv β 8 = 1 := by omega
    have fe9 : nv β 9 = 0 := by omega
    try simp only [fe0, fe1, fe3, fe5, fe6, fe7, fe8, fe9, Int.reduceToNat] at f2 f3 f4 f5
    have s0 : nv β 0 = nv α1 0 := nv_le H1.1 (by omega)
    have s1 : nv β 1 = nv α1 1 := nv_le H1.1 (by omega)
    have s2 : nv β 2 = nv α1 2 := nv_le H1.1 (by omega)
    obtain ⟨c0, c1⟩ := f2
    exact hd_run G (ss := []) (fuel := 20) (by decide +kernel) (as_backM H1 (by decide +kernel) hxa hf)
  · obtain ⟨f1, f2, f3, f4, f5⟩ := as_fx H1
    simp only [kh_hasNothing_b0_4, fx_env, fx_c, fx_ne, fx_hf, wl_S, Nat.zero_add, Nat.reduceAdd, Nat.reduceDiv, Nat.reduceMod, List.getElem?_cons_zero, List.getElem?_cons_succ, if_true, and_true, true_and] at f1 f2 f3 f4 f5
    have fe0 : nv β 0 = 572 := by omega
    have fe1 : nv β 1 = 1 := by omega
    have fe3 : nv β 3 = 2 := by omega
    have fe5 : nv β 5 = 0 := by omega
    have fe6 : nv β 6 = 2 := by omega
    have fe7 : nv β 7 = 8 := by omega
    have fe8 : nv β 8 = 1 := by omega
    have fe10 : nv β 10 = 1 := by omega
    have fe11 : nv β 11 = 0 := by omega
    try simp only [fe0, fe1, fe3, fe5, fe6, fe7, fe8, fe10, fe11, Int.reduceToNat] at f2 f3 f4 f5
    have s0 : nv β 0 = nv α1 0 := nv_le H1.1 (by omega)
    have s1 : nv β 1 = nv α1 1 := nv_le H1.1 (by omega)
    have s2 : nv β 2 = nv α1 2 := nv_le H1.1 (by omega)
    obtain ⟨c0, c1, c2⟩ := f2
    exact hd_run G (ss := []) (fuel := 20) (by decide +kernel) (as_backM H1 (by decide +kernel) hxa hf)
  · obtain ⟨f1, f2, f3, f4, f5⟩ := as_fx H1
    simp only [kh_hasNothing_b0_5, fx_env, fx_c, fx_ne, fx_hf, wl_S, Nat.zero_add, Nat.reduceAdd, Nat.reduceDiv, Nat.reduceMod, List.getElem?_cons_zero, List.getElem?_cons_succ, if_true, and_true, true_and] at f1 f2 f3 f4 f5
    have fe0 : nv β 0 = 572 := by omega
    have fe1 : nv β 1 = 1 := by omega
    have fe3 : nv β 3 = 2 := by omega
    have fe5 : nv β 5 = 0 := by omega
    have fe6 : nv β 6 = 2 := by omega
    have fe7 : nv β 7 = 8 := by omega
    have fe8 : nv β 8 = 1 := by omega
    have fe10 : nv β 10 = 0 := by omega
    have fe11 : nv β 11 = 1 := by omega
    try simp only [fe0, fe1, fe3, fe5, fe6, fe7, fe8, fe10, fe11, Int.reduceToNat] at f2 f3 f4 f5
    have s0 : nv β 0 = nv α1 0 := nv_le H1.1 (by omega)
    have s1 : nv β 1 = nv α1 1 := nv_le H1.1 (by omega)
    have s2 : nv β 2 = nv α1 2 := nv_le H1.1 (by omega)
    obtain ⟨c0, c1, c2⟩ := f2
    exact hd_run G (ss := []) (fuel := 20) (by decide +kernel) (as_backM H1 (by decide +kernel) hxa hf)
  · obtain ⟨f1, f2, f3, f4, f5⟩ := as_fx H1
    simp only [kh_hasNothing_b0_6, fx_env, fx_c, fx_ne, fx_hf, wl_S, Nat.zero_add, Nat.reduceAdd, Nat.reduceDiv, Nat.reduceMod, List.getElem?_cons_zero, List.getElem?_cons_succ, if_true, and_true, true_and] at f1 f2 f3 f4 f5
    have fe0 : nv β 0 = 572 := by omega
    have fe1 : nv β 1 = 1 := by omega
    have fe3 : nv β 3 = 2 := by omega
    have fe5 : nv β 5 = 0 := by omega
    have fe6 : nv β 6 = 3 := by omega
    have fe7 : nv β 7 = 8 := by omega
    have fe8 : nv β 8 = 1 := by omega
    have fe10 : nv β 10 = 0 := by omega
    try simp only [fe0, fe1, fe3, fe5, fe6, fe7, fe8, fe10, Int.reduceToNat] at f2 f3 f4 f5
    have s0 : nv β 0 = nv α1 0 := nv_le H1.1 (by omega)
    have s1 : nv β 1 = nv α1 1 := nv_le H1.1 (by omega)
    have s2 : nv β 2 = nv α1 2 := nv_le H1.1 (by omega)
    obtain ⟨c0, c1, c2⟩ := f2
    exact hd_run G (ss := []) (fuel := 20) (by decide +kernel) (as_backM H1 (by decide +kernel) hxa hf)
  · obtain ⟨f1, f2, f3, f4, f5⟩ := as_fx H1
    simp only [kh_hasNothing_b0_7, fx_env, fx_c, fx_ne, fx_hf, wl_S, Nat.zero_add, Nat.reduceAdd, Nat.reduceDiv, Nat.reduceMod, List.getElem?_cons_zero, List.getElem?_cons_succ, if_true, and_true, true_and] at f1 f2 f3 f4 f5
    have fe0 : nv β 0 = 572 := by omega
    have fe1 : nv β 1 = 1 := by omega
    have fe3 : nv β 3 = 2 := by omega
    have fe5 : nv β 5 = 0 := by omega
    have fe6 : nv β 6 = 3 := by omega
    have fe7 : nv β 7 = 8 := by omega
    have fe8 : nv β 8 = 1 := by omega
    have fe10 : nv β 10 = 1 := by omega
    try simp only [fe0, fe1, fe3, fe5, fe6, fe7, fe8, fe10, Int.reduceToNat] at f2 f3 f4 f5
    have s0 : nv β 0 = nv α1 0 := nv_le H1.1 (by omega)
    have s1 : nv β 1 = nv α1 1 := nv_le H1.1 (by omega)
    have s2 : nv β 2 = nv α1 2 := nv_le H1.1 (by omega)
    obtain ⟨c0, c1, c2⟩ := f2
    exact hd_run G (ss := []) (fuel := 20) (by decide +kernel) (as_backM H1 (by decide +kernel) hxa hf)
  · obtain ⟨f1, f2, f3, f4, f5⟩ := as_fx H1
    simp only [kh_hasNothing_b0_8, fx_env, fx_c, fx_ne, fx_hf, wl_S, Nat.zero_add, Nat.reduceAdd, Nat.reduceDiv, Nat.reduceMod, List.getElem?_cons_zero, List.getElem?_cons_succ, if_true, and_true, true_and] at f1 f2 f3 f4 f5
    have fe0 : nv β 0 = 572 := by omega
    have fe1 : nv β 1 = 1 := by omega
    have fe3 : nv β 3 = 2 := by omega
    have fe5 : nv β 5 = 0 := by omega
    have fe6 : nv β 6 = 4 := by omega
    have fe7 : nv β 7 = 0 := by omega
    try simp only [fe0, fe1, fe3, fe5, fe6, fe7, Int.reduceToNat] at f2 f3 f4 f5
    have s0 : nv β 0 = nv α1 0 := nv_le H1.1 (by omega)
    have s1 : nv β 1 = nv α1 1 := nv_le H1.1 (by omega)
    have s2 : nv β 2 = nv α1 2 := nv_le H1.1 (by omega)
    obtain ⟨c0, c1⟩ := f2
    exact hd_run G (ss := []) (fuel := 20) (by decide +kernel) (as_backM H1 (by decide +kernel) hxa hf)
  · obtain ⟨f1, f2, f3, f4, f5⟩ := as_fx H1
    simp only [kh_hasNothing_b0_9, fx_env, fx_c, fx_ne, fx_hf, wl_S, Nat.zero_add, Nat.reduceAdd, Nat.reduceDiv, Nat.reduceMod, List.getElem?_cons_zero, List.getElem?_cons_succ, if_true, and_true, true_and] at f1 f2 f3 f4 f5
    have fe0 : nv β 0 = 572 := by omega
    have fe1 : nv β 1 = 1 := by omega
    have fe3 : nv β 3 = 2 := by omega
    have fe5 : nv β 5 = 0 := by omega
    have fe6 : nv β 6 = 5 := by omega
    try simp only [fe0, fe1, fe3, fe5, fe6, Int.reduceToNat] at f2 f3 f4 f5
    have s0 : nv β 0 = nv α1 0 := nv_le H1.1 (by omega)
    have s1 : nv β 1 = nv α1 1 := nv_le H1.1 (by omega)
    have s2 : nv β 2 = nv α1 2 := nv_le H1.1 (by omega)
    obtain ⟨c0, c1⟩ := f2
    obtain ⟨α', Ha, hm⟩ := hd_gpM (q := kh_hasNothing_a106) (n := 0) (by decide +kernel) hx H1 (by decide +kernel) hxa hf
    have hfr := H1.2.2.2.2.2.2.2.2.2.2.1
    have m0 : nv α' 0 = nv β 0 := hm 0 0 rfl
    have m1 : nv α' 1 = nv β 1 := hm 1 1 rfl
    have m2 : nv α' 2 = nv β 2 := hm 2 2 rfl
    have m3 : nv α' 3 = nv β 4 := hm 3 4 rfl
    subst S'
    obtain ⟨h0, h1⟩ := f4
    have q := q520 (nv β 2 - 579).toNat (by omega)
    rw [show 579 + (nv β 2 - 579).toNat = (nv β 2).toNat by omega] at q
    refine (hP _).1 _ _ _ _ Ha ?_ (Nat.lt_succ_self _)
    · omega
  · obtain ⟨f1, f2, f3, f4, f5⟩ := as_fx H1
    simp only [kh_hasNothing_b0_10, fx_env, fx_c, fx_ne, fx_hf, wl_S, Nat.zero_add, Nat.reduceAdd, Nat.reduceDiv, Nat.reduceMod, List.getElem?_cons_zero, List.getElem?_cons_succ, if_true, and_true, true_and] at f1 f2 f3 f4 f5
    have fe0 : nv β 0 = 572 := by omega
    have fe1 : nv β 1 = 1 := by omega
    have fe3 : nv β 3 = 2 := by omega
    have fe5 : nv β 5 = 0 := by omega
    have fe6 : nv β 6 = 6 := by omega
    try simp only [fe0, fe1, fe3, fe5, fe6, Int.reduceToNat] at f2 f3 f4 f5
    have s0 : nv β 0 = nv α1 0 := nv_le H1.1 (by omega)
    have s1 : nv β 1 = nv α1 1 := nv_le H1.1 (by omega)
    have s2 : nv β 2 = nv α1 2 := nv_le H1.1 (by omega)
    obtain ⟨c0, c1⟩ := f2
    obtain ⟨α', Ha, hm⟩ := hd_gpM (q := kh_hasNothing_a126) (n := 0) (by decide +kernel) hx H1 (by decide +kernel) hxa hf
    have hfr := H1.2.2.2.2.2.2.2.2.2.2.1
    have m0 : nv α' 0 = nv β 0 := hm 0 0 rfl
    have m1 : nv α' 1 = nv β 1 := hm 1 1 rfl
    have m2 : nv α' 2 = nv β 2 := hm 2 2 rfl
    have m3 : nv α' 3 = nv β 4 := hm 3 4 rfl
    subst S'
    obtain ⟨h0, h1⟩ := f4
    have q := q520 (nv β 2 - 579).toNat (by omega)
    rw [show 579 + (nv β 2 - 579).toNat = (nv β 2).toNat by omega] at q
    refine (hP _).2.1 _ _ _ _ Ha ?_ (Nat.lt_succ_self _)
    · omega)
