/-! ===== jobs told, taken, left, ended ===== -/
def P_hasJob : List av_X → fw_S → Prop := fun xs S => nv xs 1 < (S.1 806 2400).toInt ∧ 0 ≤ mck (S.1 806) (nv xs 1).toNat 3
def P_noJob : List av_X → fw_S → Prop := fun xs S => nv xs 1 < (S.1 806 2400).toInt ∧ mck (S.1 806) (nv xs 1).toNat 3 = -1
def R_cLeaves : List av_X → fw_S → fw_O → fw_S → Prop := fun xs S _ S' => mjk (S'.1 806) (mck (S.1 806) (nv xs 1).toNat 3).toNat 4 = 0
def R_any : List av_X → fw_S → fw_O → fw_S → Prop := fun _ _ _ _ => True
def R_cBest : List av_X → fw_S → fw_O → fw_S → Prop := fun _ S oc _ => ∃ v : Int32, oc = .inl (some (.int v)) ∧ (v.toInt = -1 ∨ (0 ≤ v.toInt ∧ v.toInt < (S.1 806 2440).toInt ∧ mjk (S.1 806) v.toInt.toNat 4 = 0))
theorem mck_eq {S : fw_S} {k : Nat} {a v : Int} (h : (S.1 806 a.toNat).toInt = v) (e : a = 2401 + 8 * k + 3) : mck (S.1 806) k 3 = v := by
  unfold mck
  rw [show 2401 + 8 * k + 3 = a.toNat by omega]
  exact h
theorem mjk_eq {S : fw_S} {j w : Nat} {a v : Int} (h : (S.1 806 a.toNat).toInt = v) (e : a = 2450 + 8 * j + w) : mjk (S.1 806) j w = v := by
  unfold mjk
  rw [show 2450 + 8 * j + w = a.toNat by omega]
  exact h
abbrev kh_cOpen_y : mt_T := (⟨"UtilityWorksModel", "cOpen", "()I"⟩, prog_14_method_274_code, 3, some .int, 12, 1, 0, 35134, 35133, 14009, 21014)
def kh_cOpen : ct_T := (519, [(2, 805, 805, 0)], [], [], [(1, (0, 0, 200, 1), [(2, 805, 805, 0)], [], ([], [(1030, 0, 0)]))], [], 1, 21, 0)
def kh_cOpen_a4 : an_T := (4, 0, ([((2, 805, 805, 0), none), ((0, 0, 201, 1), none), ((0, 0, 200, 1), none)], [(0, 0), (1, 1), (2, 2)], [], [], [], [], [], [], none), [])
def kh_cOpen_b0_0 : sg_T := (4, 0, ([((2, 805, 805, 0), none), ((0, 0, 0, 0), none), ((0, 0, 0, 0), none)], [(2, 2), (1, 1), (0, 0)], [], [], [], [], [], [], some []))
def kh_cOpen_b4_0 : sg_T := (45, 0, ([((2, 805, 805, 0), none), ((0, 0, 200, 1), none), ((0, 0, 200, 1), none), ((2, 806, 806, 1), none), ((0, 2440, 2440, 0), none), ((0, 0, 200, 1), none)], [(0, 0), (1, 1), (2, 2)], [1], [(3, 4, 5)], [], [(200000, 5, 2), (800005, 3, 4)], [], [], some []))
def kh_cOpen_b4_1 : sg_T := (4, 0, ([((2, 805, 805, 0), none), ((0, 0, 200, 1), none), ((0, 0, 199, 1), none), ((2, 806, 806, 1), none), ((0, 2440, 2440, 0), none), ((0, 1, 200, 1), none), ((2, 806, 806, 1), none), ((0, 4, 4, 0), none), ((0, 2454, 4046, 8), none), ((0, 2, 3, 1), none), ((0, 2, 2, 0), none), ((0, 0, 0, 0), none), ((0, 0, 200, 1), some (1, 0)), ((0, 1, 200, 1), some (2, 1))], [(2, 13), (1, 12), (0, 0)], [], [(6, 8, 9), (3, 4, 5)], [], [(500012, 1, 11), (200000, 10, 9), (800009, 6, 8), (1200008, 2, 7), (100000, 2, 5), (800005, 3, 4)], [], [], some []))
def kh_cOpen_b4_2 : sg_T := (4, 0, ([((2, 805, 805, 0), none), ((0, 0, 200, 1), none), ((0, 0, 199, 1), none), ((2, 806, 806, 1), none), ((0, 2440, 2440, 0), none), ((0, 1, 200, 1), none), ((2, 806, 806, 1), none), ((0, 4, 4, 0), none), ((0, 2454, 4046, 8), none), ((0, 0, 1, 1), none), ((0, 2, 2, 0), none), ((0, 1, 1, 0), none), ((0, 1, 201, 1), some (1, 1)), ((0, 1, 200, 1), some (2, 1))], [(2, 13), (1, 12), (0, 0)], [], [(6, 8, 9), (3, 4, 5)], [], [(500012, 1, 11), (100000, 9, 10), (800009, 6, 8), (1200008, 2, 7), (100000, 2, 5), (800005, 3, 4)], [], [], some []))
def kh_cOpen_I (l : Launch) (D : va_G) (tc : Nat → ClassId) (ad : Nat → Nat) (kd : Nat → Nat × Nat) (N : Nat) (sm : Nat → Nat) (xs : List av_X) (S : fw_S) (p : Program) (e : Env) (s : State) (m : MethodId) (args : Array Value) (below : List Frame) (meth : Method) (c : Code) (sz : Nat) (k : Nat) : Prop := (∀ (α : List av_X) (lv : List (Nat × Value)) (S1 : fw_S), as_in ad sm wd_fl2 xs S kh_cOpen.2.2.2.2.2.1 α kh_cOpen_a4.2.2.1 lv [] S1 → (nv α 2 ≤ (S1.1 806 2440).toInt ∧ nv α 1 = opS (S1.1 806) (nv α 2).toNat) → (200 - nv α 2).toNat < k → hd_W wd_fl2 kh_cOpen kh_cOpen_y l D tc ad kd N sm xs S p e s m args below meth c sz 4 lv [] S1 0) ∧ True
set_option maxHeartbeats 16000000 in
set_option maxRecDepth 8000 in
theorem kh_cOpen_h4 {l : Launch} {D : va_G} {tc : Nat → ClassId} {ad : Nat → Nat} {kd : Nat → Nat × Nat} {N : Nat} {sm : Nat → Nat} {xs : List av_X} {S : fw_S} {p : Program} {e : Env} {s : State} {m : MethodId} {args : Array Value} {below : List Frame} {meth : Method} {c : Code} {sz : Nat} {lvE : List (Nat × Value)} (G : hd_C wd_ff2 wd_fl2 kh_cOpen [kh_cJ4] kh_cOpen_y l D tc ad kd N sm xs p s m args meth c sz) (H0 : as_in ad sm wd_fl2 xs S kh_cOpen.2.2.2.2.2.1 xs (hd_0 kh_cOpen) lvE [] S) {k : Nat} (ih : kh_cOpen_I l D tc ad kd N sm xs S p e s m args below meth c sz k) : (∀ (α : List av_X) (lv : List (Nat × Value)) (S1 : fw_S), as_in ad sm wd_fl2 xs S kh_cOpen.2.2.2.2.2.1 α kh_cOpen_a4.2.2.1 lv [] S1 → (nv α 2 ≤ (S1.1 806 2440).toInt ∧ nv α 1 = opS (S1.1 806) (nv α 2).toNat) → (200 - nv α 2).toNat < k + 1 → hd_W wd_fl2 kh_cOpen kh_cOpen_y l D tc ad kd N sm xs S p e s m args below meth c sz 4 lv [] S1 0) := by
  have hx : xs.length = 1 := by rw [H0.2.1.1]; rfl
  intro α lv S1 H hp hk
  have bp := (en_nv (i := 1) H.2.1 rfl).2
  change 0 ≤ nv α 1 ∧ nv α 1 ≤ 201 at bp
  replace H := as_clamp (i := 1) (lo := 0) (hi := 200) H rfl rfl (by have hb := opS_bd (f := S1.1 806) (n := (nv α 2).toNat); have b2 := (en_nv (i := 2) H.2.1 rfl).2; change 0 ≤ nv α 2 ∧ nv α 2 ≤ 200 at b2; have := hp.2; omega) (by have hb := opS_bd (f := S1.1 806) (n := (nv α 2).toNat); have b2 := (en_nv (i := 2) H.2.1 rfl).2; change 0 ≤ nv α 2 ∧ nv α 2 ≤ 200 at b2; have := hp.2; omega) (by decide)
  obtain ⟨α1, hle, Hr⟩ := as_recM (pl := []) [] (by decide +kernel) H
  have hf := H.2.2.2.2.2.2.2.2.2.2.1
  have hl1 : α1.length = 3 := by rw [Hr.2.1.1]; rfl
  have hl0 : α.length = 3 := by rw [H.2.1.1]; rfl
  have hxa : al_le xs α1 := H.1.trans hle
  obtain ⟨g1, -, g3, g4, -⟩ := as_fx Hr
  have g0 : (805 ≤ nv α1 0 ∧ nv α1 0 ≤ 805) ∧ (0 ≤ nv α1 1 ∧ nv α1 1 ≤ 200) ∧ (0 ≤ nv α1 2 ∧ nv α1 2 ≤ 200) ∧ True := by
    refine ⟨by have h := (en_nv (i := 0) Hr.2.1 rfl).2; exact h, by have h := (en_nv (i := 1) Hr.2.1 rfl).2; exact h, by have h := (en_nv (i := 2) Hr.2.1 rfl).2; exact h, trivial⟩
  have r0 : nv α1 0 = nv α 0 := nv_le hle (by omega)
  have r1 : nv α1 1 = nv α 1 := nv_le hle (by omega)
  have r2 : nv α1 2 = nv α 2 := nv_le hle (by omega)
  refine hd_segM G (na := 3) (fuel := 600) (first := true) (Bs := [kh_cOpen_b4_0, kh_cOpen_b4_1, kh_cOpen_b4_2]) (by decide +kernel) hl1 Hr ?_
  intro q hq β lv' st' S' H1
  simp only [List.mem_cons, List.not_mem_nil, or_false] at hq
  rcases hq with rfl | rfl | rfl
  · obtain ⟨f1, f2, f3, f4, f5⟩ := as_fx H1
    simp only [kh_cOpen_b4_0, fx_env, fx_c, fx_ne, fx_hf, wl_S, Nat.zero_add, Nat.reduceAdd, Nat.reduceDiv, Nat.reduceMod, List.getElem?_cons_zero, List.getElem?_cons_succ, if_true, and_true, true_and] at f1 f2 f3 f4 f5
    have fe0 : nv β 0 = 805 := by omega
    have fe3 : nv β 3 = 806 := by omega
    have fe4 : nv β 4 = 2440 := by omega
    try simp only [fe0, fe3, fe4, Int.reduceToNat] at f2 f3 f4 f5
    have s0 : nv β 0 = nv α1 0 := nv_le H1.1 (by omega)
    have s1 : nv β 1 = nv α1 1 := nv_le H1.1 (by omega)
    have s2 : nv β 2 = nv α1 2 := nv_le H1.1 (by omega)
    obtain ⟨c0, c1⟩ := f2
    have o1 := old_0 c1 rfl
    have eS : S1 = S := fr_same (show fr_in [] S S1 from hf)
    refine hd_retI G (v := 1) (by decide +kernel) (as_backM H1 (by decide +kernel) hxa hf) _ List.mem_cons_self rfl (by decide +kernel) (by decide) (fun w hw => ?_)
    rcases List.mem_singleton.mp hw with rfl
    have g0' := (en_nv (i := 0) H0.2.1 rfl).1
    refine ⟨_, _, g0', g0', ?_⟩
    rw [wd_fl2, if_neg (by decide)]
    show nv β 1 = opS (S.1 806) (S.1 806 2440).toInt.toNat
    rw [← eS, o1, show (nv β 5).toNat = (nv α 2).toNat by omega, s1, r1]
    exact hp.2
  · have hst := st_nil H1 rfl
    subst hst
    obtain ⟨f1, f2, f3, f4, f5⟩ := as_fx H1
    simp only [kh_cOpen_b4_1, fx_env, fx_c, fx_ne, fx_hf, wl_S, Nat.zero_add, Nat.reduceAdd, Nat.reduceDiv, Nat.reduceMod, List.getElem?_cons_zero, List.getElem?_cons_succ, if_true, and_true, true_and] at f1 f2 f3 f4 f5
    have fe0 : nv β 0 = 805 := by omega
    have fe3 : nv β 3 = 806 := by omega
    have fe4 : nv β 4 = 2440 := by omega
    have fe6 : nv β 6 = 806 := by omega
    have fe7 : nv β 7 = 4 := by omega
    have fe10 : nv β 10 = 2 := by omega
    have fe11 : nv β 11 = 0 := by omega
    try simp only [fe0, fe3, fe4, fe6, fe7, fe10, fe11, Int.reduceToNat] at f2 f3 f4 f5
    have s0 : nv β 0 = nv α1 0 := nv_le H1.1 (by omega)
    have s1 : nv β 1 = nv α1 1 := nv_le H1.1 (by omega)
    have s2 : nv β 2 = nv α1 2 := nv_le H1.1 (by omega)
    obtain ⟨c0, c1, c2, c3, c4, c5⟩ := f2
    obtain ⟨α', Ha, hm⟩ := hd_gpM (q := kh_cOpen_a4) (n := 0) (by decide +kernel) hx H1 (by decide +kernel) hxa hf
    have hfr := H1.2.2.2.2.2.2.2.2.2.2.1
    have m0 : nv α' 0 = nv β 0 := hm 0 0 rfl
    have m1 : nv α' 1 = nv β 12 := hm 1 12 rfl
    have m2 : nv α' 2 = nv β 13 := hm 2 13 rfl
    subst S'
    have o2 := old_0 c2 rfl
    have o5 := old_0 c5 rfl
    have d3 := fl1_b (by decide) (fl2_b (by decide) c3)
    simp only [wd_fl] at d3
    have hs : mjk (S1.1 806) (nv β 2).toNat 4 = nv β 9 := mjk_eq o2 (by omega)
    have hb := opS_bd (f := S1.1 806) (n := (nv α 2).toNat)
    refine ih.1 _ _ _ Ha ?_ ?_
    · rw [m1, m2]
      refine ⟨by rw [o5]; omega, ?_⟩
      rw [show (nv β 13).toNat = (nv β 2).toNat + 1 by omega]
      show nv β 12 = opS (S1.1 806) (nv β 2).toNat + (if mjk (S1.1 806) (nv β 2).toNat 4 < 2 then 1 else 0)
      rw [hs]
      have h2 := hp.2
      rw [← r2, ← s2] at h2
      split <;> omega
    · omega
  · have hst := st_nil H1 rfl
    subst hst
    obtain ⟨f1, f2, f3, f4, f5⟩ := as_fx H1
    simp only [kh_cOpen_b4_2, fx_env, fx_c, fx_ne, fx_hf, wl_S, Nat.zero_add, Nat.reduceAdd, Nat.reduceDiv, Nat.reduceMod, List.getElem?_cons_zero, List.getElem?_cons_succ, if_true, and_true, true_and] at f1 f2 f3 f4 f5
    have fe0 : nv β 0 = 805 := by omega
    have fe3 : nv β 3 = 806 := by omega
    have fe4 : nv β 4 = 2440 := by omega
    have fe6 : nv β 6 = 806 := by omega
    have fe7 : nv β 7 = 4 := by omega
    have fe10 : nv β 10 = 2 := by omega
    have fe11 : nv β 11 = 1 := by omega
    try simp only [fe0, fe3, fe4, fe6, fe7, fe10, fe11, Int.reduceToNat] at f2 f3 f4 f5
    have s0 : nv β 0 = nv α1 0 := nv_le H1.1 (by omega)
    have s1 : nv β 1 = nv α1 1 := nv_le H1.1 (by omega)
    have s2 : nv β 2 = nv α1 2 := nv_le H1.1 (by omega)
    obtain ⟨c0, c1, c2, c3, c4, c5⟩ := f2
    obtain ⟨α', Ha, hm⟩ := hd_gpM (q := kh_cOpen_a4) (n := 0) (by decide +kernel) hx H1 (by decide +kernel) hxa hf
    have hfr := H1.2.2.2.2.2.2.2.2.2.2.1
    have m0 : nv α' 0 = nv β 0 := hm 0 0 rfl
    have m1 : nv α' 1 = nv β 12 := hm 1 12 rfl
    have m2 : nv α' 2 = nv β 13 := hm 2 13 rfl
    subst S'
    have o2 := old_0 c2 rfl
    have o5 := old_0 c5 rfl
    have d3 := fl1_b (by decide) (fl2_b (by decide) c3)
    simp only [wd_fl] at d3
    have hs : mjk (S1.1 806) (nv β 2).toNat 4 = nv β 9 := mjk_eq o2 (by omega)
    have hb := opS_bd (f := S1.1 806) (n := (nv α 2).toNat)
    refine ih.1 _ _ _ Ha ?_ ?_
    · rw [m1, m2]
      refine ⟨by rw [o5]; omega, ?_⟩
      rw [show (nv β 13).toNat = (nv β 2).toNat + 1 by omega]
      show nv β 12 = opS (S1.1 806) (nv β 2).toNat + (if mjk (S1.1 806) (nv β 2).toNat 4 < 2 then 1 else 0)
      rw [hs]
      have h2 := hp.2
      rw [← r2, ← s2] at h2
      split <;> omega
    · omega
set_option maxHeartbeats 16000000 in
set_option maxRecDepth 8000 in
theorem kh_cOpen_ok : ct_ok wd_fl2 kh_cOpen := ct_hand (ff := wd_ff2) (y := kh_cOpen_y) (Cs := [kh_cJ4]) wd_fl2_ok rfl (List.forall_mem_cons.mpr ⟨kh_cJ4_ok, (List.forall_mem_nil _)⟩) (by decide +kernel) (fun l D tc ad kd N sm xs S p e s m args below meth c sz lv G H0 => by
  have hx : xs.length = 1 := by rw [H0.2.1.1]; rfl
  have hP : ∀ (k : Nat), kh_cOpen_I l D tc ad kd N sm xs S p e s m args below meth c sz k := by
    intro k
    induction k with
    | zero => exact ⟨fun _ _ _ _ _ h => absurd h (Nat.not_lt_zero _), trivial⟩
    | succ k ih => exact ⟨kh_cOpen_h4 G H0 ih, trivial⟩
  obtain ⟨α1, hle, Hr⟩ := as_recM (pl := []) [] (by decide +kernel) H0
  have hf := H0.2.2.2.2.2.2.2.2.2.2.1
  have hl1 : α1.length = 1 := by rw [Hr.2.1.1]; rfl
  have hl0 : xs.length = 1 := by rw [H0.2.1.1]; rfl
  have hxa : al_le xs α1 := H0.1.trans hle
  obtain ⟨g1, -, g3, g4, -⟩ := as_fx Hr
  have g0 : (805 ≤ nv α1 0 ∧ nv α1 0 ≤ 805) ∧ True := by
    refine ⟨by have h := (en_nv (i := 0) Hr.2.1 rfl).2; exact h, trivial⟩
  have r0 : nv α1 0 = nv xs 0 := nv_le hle (by omega)
  refine hd_segM G (na := 1) (fuel := 600) (first := true) (Bs := [kh_cOpen_b0_0]) (by decide +kernel) hl1 Hr ?_
  intro q hq β lv' st' S' H1
  simp only [List.mem_cons, List.not_mem_nil, or_false] at hq
  rcases hq with rfl
  · have hst := st_nil H1 rfl
    subst hst
    obtain ⟨f1, f2, f3, f4, f5⟩ := as_fx H1
    simp only [kh_cOpen_b0_0, fx_env, fx_c, fx_ne, fx_hf, wl_S, Nat.zero_add, Nat.reduceAdd, Nat.reduceDiv, Nat.reduceMod, List.getElem?_cons_zero, List.getElem?_cons_succ, if_true, and_true, true_and] at f1 f2 f3 f4 f5
    have fe0 : nv β 0 = 805 := by omega
    have fe1 : nv β 1 = 0 := by omega
    have fe2 : nv β 2 = 0 := by omega
    try simp only [fe0, fe1, fe2, Int.reduceToNat] at f2 f3 f4 f5
    have s0 : nv β 0 = nv α1 0 := nv_le H1.1 (by omega)
    obtain ⟨α', Ha, hm⟩ := hd_gpM (q := kh_cOpen_a4) (n := 0) (by decide +kernel) hx H1 (by decide +kernel) hxa hf
    have hfr := H1.2.2.2.2.2.2.2.2.2.2.1
    have m0 : nv α' 0 = nv β 0 := hm 0 0 rfl
    have m1 : nv α' 1 = nv β 1 := hm 1 1 rfl
    have m2 : nv α' 2 = nv β 2 := hm 2 2 rfl
    subst S'
    refine (hP _).1 _ _ _ Ha ?_ (Nat.lt_succ_self _)
    · exact ⟨by rw [m2, fe2]; exact (rg_bd1 (q_rg_in (q := ((806, 806), (2440, 2440, 0), (0, 0, 200, 1))) (by decide +kernel) Ha)).1, by rw [m1, m2]; show nv β 1 = opS (S.1 806) (nv β 2).toNat; rw [show (nv β 2).toNat = 0 by omega]; exact fe1⟩)
abbrev kh_cMay_y : mt_T := (⟨"UtilityWorksModel", "cMay", "()Z"⟩, prog_14_method_275_code, 1, some .boolean, 12, 1, 0, 35130, 35129, 14008, 21014)
def kh_cMay : ct_T := (518, [(2, 805, 805, 0)], [], [], [(1, (0, 0, 0, 0), [(2, 805, 805, 0)], [], ([], [])), (1, (0, 1, 1, 0), [(2, 805, 805, 0)], [], ([517], []))], [], 2, 43, 0)
def kh_cMay_b0_0 : sg_T := (28, 0, ([((2, 805, 805, 0), none), ((2, 806, 806, 1), none), ((0, 2440, 2440, 0), none), ((0, 200, 200, 1), none), ((0, 200, 200, 0), none), ((0, 0, 0, 0), none)], [(0, 0)], [5], [(1, 2, 3)], [], [(200000, 4, 3), (800003, 1, 2)], [], [], some []))
def kh_cMay_b0_1 : sg_T := (28, 0, ([((2, 805, 805, 0), none), ((2, 806, 806, 1), none), ((0, 2440, 2440, 0), none), ((0, 0, 199, 1), none), ((0, 200, 200, 0), none), ((0, 16, 200, 1), none), ((0, 16, 16, 0), none), ((0, 0, 0, 0), none)], [(0, 0)], [7], [(1, 2, 3)], [], [(200000, 6, 5), (103000005, 0, 0), (100000, 3, 4), (800003, 1, 2)], [], [], some []))
def kh_cMay_b0_2 : sg_T := (28, 0, ([((2, 805, 805, 0), none), ((2, 806, 806, 1), none), ((0, 2440, 2440, 0), none), ((0, 0, 199, 1), none), ((0, 200, 200, 0), none), ((0, 0, 15, 1), none), ((0, 16, 16, 0), none), ((0, 1, 1, 0), none)], [(0, 0)], [7], [(1, 2, 3)], [], [(100000, 5, 6), (103000005, 0, 0), (100000, 3, 4), (800003, 1, 2)], [], [], some []))
set_option maxHeartbeats 16000000 in
set_option maxRecDepth 8000 in
theorem kh_cMay_ok : ct_ok wd_fl2 kh_cMay := ct_hand (ff := wd_ff2) (y := kh_cMay_y) (Cs := [kh_cOpen]) wd_fl2_ok rfl (List.forall_mem_cons.mpr ⟨kh_cOpen_ok, (List.forall_mem_nil _)⟩) (by decide +kernel) (fun l D tc ad kd N sm xs S p e s m args below meth c sz lv G H0 => by
  have hx : xs.length = 1 := by rw [H0.2.1.1]; rfl
  obtain ⟨α1, hle, Hr⟩ := as_recM (pl := []) [] (by decide +kernel) H0
  have hf := H0.2.2.2.2.2.2.2.2.2.2.1
  have hl1 : α1.length = 1 := by rw [Hr.2.1.1]; rfl
  have hl0 : xs.length = 1 := by rw [H0.2.1.1]; rfl
  have hxa : al_le xs α1 := H0.1.trans hle
  obtain ⟨g1, -, g3, g4, -⟩ := as_fx Hr
  have g0 : (805 ≤ nv α1 0 ∧ nv α1 0 ≤ 805) ∧ True := by
    refine ⟨by have h := (en_nv (i := 0) Hr.2.1 rfl).2; exact h, trivial⟩
  have r0 : nv α1 0 = nv xs 0 := nv_le hle (by omega)
  refine hd_segM G (na := 1) (fuel := 600) (first := true) (Bs := [kh_cMay_b0_0, kh_cMay_b0_1, kh_cMay_b0_2]) (by decide +kernel) hl1 Hr ?_
  intro q hq β lv' st' S' H1
  simp only [List.mem_cons, List.not_mem_nil, or_false] at hq
  rcases hq with rfl | rfl | rfl
  · obtain ⟨f1, f2, f3, f4, f5⟩ := as_fx H1
    simp only [kh_cMay_b0_0, fx_env, fx_c, fx_ne, fx_hf, wl_S, Nat.zero_add, Nat.reduceAdd, Nat.reduceDiv, Nat.reduceMod, List.getElem?_cons_zero, List.getElem?_cons_succ, if_true, and_true, true_and] at f1 f2 f3 f4 f5
    have fe0 : nv β 0 = 805 := by omega
    have fe1 : nv β 1 = 806 := by omega
    have fe2 : nv β 2 = 2440 := by omega
    have fe3 : nv β 3 = 200 := by omega
    have fe4 : nv β 4 = 200 := by omega
    have fe5 : nv β 5 = 0 := by omega
    try simp only [fe0, fe1, fe2, fe3, fe4, fe5, Int.reduceToNat] at f2 f3 f4 f5
    have s0 : nv β 0 = nv α1 0 := nv_le H1.1 (by omega)
    obtain ⟨c0, c1⟩ := f2
    exact hd_run G (ss := []) (fuel := 20) (by decide +kernel) (as_backM H1 (by decide +kernel) hxa hf)
  · obtain ⟨f1, f2, f3, f4, f5⟩ := as_fx H1
    simp only [kh_cMay_b0_1, fx_env, fx_c, fx_ne, fx_hf, wl_S, Nat.zero_add, Nat.reduceAdd, Nat.reduceDiv, Nat.reduceMod, List.getElem?_cons_zero, List.getElem?_cons_succ, if_true, and_true, true_and] at f1 f2 f3 f4 f5
    have fe0 : nv β 0 = 805 := by omega
    have fe1 : nv β 1 = 806 := by omega
    have fe2 : nv β 2 = 2440 := by omega
    have fe4 : nv β 4 = 200 := by omega
    have fe6 : nv β 6 = 16 := by omega
    have fe7 : nv β 7 = 0 := by omega
    try simp only [fe0, fe1, fe2, fe4, fe6, fe7, Int.reduceToNat] at f2 f3 f4 f5
    have s0 : nv β 0 = nv α1 0 := nv_le H1.1 (by omega)
    obtain ⟨c0, c1, c2, c3⟩ := f2
    exact hd_run G (ss := []) (fuel := 20) (by decide +kernel) (as_backM H1 (by decide +kernel) hxa hf)
  · obtain ⟨f1, f2, f3, f4, f5⟩ := as_fx H1
    simp only [kh_cMay_b0_2, fx_env, fx_c, fx_ne, fx_hf, wl_S, Nat.zero_add, Nat.reduceAdd, Nat.reduceDiv, Nat.reduceMod, List.getElem?_cons_zero, List.getElem?_cons_succ, if_true, and_true, true_and] at f1 f2 f3 f4 f5
    have fe0 : nv β 0 = 805 := by omega
    have fe1 : nv β 1 = 806 := by omega
    have fe2 : nv β 2 = 2440 := by omega
    have fe4 : nv β 4 = 200 := by omega
    have fe6 : nv β 6 = 16 := by omega
    have fe7 : nv β 7 = 1 := by omega
    try simp only [fe0, fe1, fe2, fe4, fe6, fe7, Int.reduceToNat] at f2 f3 f4 f5
    have s0 : nv β 0 = nv α1 0 := nv_le H1.1 (by omega)
    obtain ⟨c0, c1, c2, c3⟩ := f2
    have o3 := old_0 c3 rfl
    have d1 := c1
    simp only [wd_fl2, if_neg (show ¬ (wd_base1 1030 = true) by decide)] at d1
    have hr : roomF (S'.1 806) := by
      rw [f5]
      have e : (S.1 806 2440).toInt = nv β 3 := o3
      refine ⟨by unfold jobsN; omega, by unfold jobsN; omega, ?_⟩
      unfold opF
      rw [← d1]
      omega
    exact hd_run G (ss := []) (fuel := 20) (by decide +kernel) (as_fl_in (f := [517]) (as_backM H1 (by decide +kernel) hxa hf) (fun g hg => by
      rcases List.mem_singleton.mp hg with rfl
      rw [wd_fl2, if_neg (by decide)]
      exact hr)))
abbrev kh_cAdda_y : mt_T := (⟨"UtilityWorksModel", "cAdd", "(IIII)V"⟩, prog_14_method_277_code, 6, none, 12, 1, 4, 35138, 35137, 14010, 21014)
def kh_cAdda : ct_T := (520, [(2, 805, 805, 0), (0, 0, 3, 1), (0, 0, 2, 1), (0, 0, 16, 1), (0, (-2147483648), 2147483647, 1)], [], [510, 517], [(0, (0, 0, 0, 0), [(2, 805, 805, 0), (0, 0, 3, 1), (0, 0, 2, 1), (0, 0, 16, 1), (0, (-2147483648), 2147483647, 1)], [], ([510], []))], [((806, 806), (2440, 4047, 1))], 1, 21, 0)
def kh_cAdda_a21 : an_T := (21, 0, ([((2, 805, 805, 0), none), ((0, 0, 3, 1), none), ((0, 0, 2, 1), none), ((0, 0, 16, 1), none), ((0, (-2147483648), 2147483647, 1), none), ((0, 0, 200, 1), none), ((0, 1, 201, 1), none), ((0, 2440, 2440, 0), none), ((2, 806, 806, 1), none)], [(0, 0), (1, 1), (2, 2), (3, 3), (4, 4), (5, 5)], [6, 7, 8], [], [], [], [], [510], none), [])
def kh_cAdda_b0_0 : sg_T := (21, 0, ([((2, 805, 805, 0), none), ((0, 0, 3, 1), none), ((0, 0, 2, 1), none), ((0, 0, 16, 1), none), ((0, (-2147483648), 2147483647, 1), none), ((2, 806, 806, 1), none), ((0, 2440, 2440, 0), none), ((0, 0, 200, 1), none), ((2, 806, 806, 1), none), ((0, 2440, 2440, 0), none), ((0, 1, 1, 0), none), ((0, 1, 201, 1), some (7, 1))], [(5, 7), (0, 0), (1, 1), (2, 2), (3, 3), (4, 4)], [11, 9, 8], [(5, 6, 7)], [], [(500011, 7, 10), (800007, 5, 6)], [], [510, 517], some []))
def kh_cAdda_b21_0 : sg_T := (95, 0, ([((2, 805, 805, 0), none), ((0, 0, 3, 1), none), ((0, 0, 2, 1), none), ((0, 0, 16, 1), none), ((0, (-2147483648), 2147483647, 1), none), ((0, 0, 199, 1), none), ((0, 1, 200, 1), none), ((0, 2440, 2440, 0), none), ((2, 806, 806, 1), none), ((2, 806, 806, 1), none), ((0, 0, 0, 0), none), ((0, 2450, 4042, 8), none), ((2, 806, 806, 1), none), ((0, 1, 1, 0), none), ((0, 2451, 4043, 8), none), ((2, 806, 806, 1), none), ((0, 2, 2, 0), none), ((0, 2452, 4044, 8), none), ((2, 806, 806, 1), none), ((0, 3, 3, 0), none), ((0, 2453, 4045, 8), none), ((2, 806, 806, 1), none), ((0, 4, 4, 0), none), ((0, 2454, 4046, 8), none), ((0, 0, 0, 0), none), ((2, 806, 806, 1), none), ((0, 5, 5, 0), none), ((0, 2455, 4047, 8), none), ((0, (-1), (-1), 0), none)], [(0, 0), (1, 1), (2, 2), (3, 3), (4, 4), (5, 5)], [], [(25, 27, 28), (21, 23, 24), (18, 20, 4), (15, 17, 3), (12, 14, 2), (9, 11, 1), (8, 7, 6)], [], [(1200027, 5, 26), (1200023, 5, 22), (1200020, 5, 19), (1200017, 5, 16), (1200014, 5, 13), (1200011, 5, 10)], [], [], some [(25, 27, 28), (21, 23, 24), (18, 20, 4), (15, 17, 3), (12, 14, 2), (9, 11, 1), (8, 7, 6)]))
def kh_cAdda_I (l : Launch) (D : va_G) (tc : Nat → ClassId) (ad : Nat → Nat) (kd : Nat → Nat × Nat) (N : Nat) (sm : Nat → Nat) (xs : List av_X) (S : fw_S) (p : Program) (e : Env) (s : State) (m : MethodId) (args : Array Value) (below : List Frame) (meth : Method) (c : Code) (sz : Nat) (k : Nat) : Prop := (∀ (α : List av_X) (lv : List (Nat × Value)) (st : List Value) (S1 : fw_S), as_in ad sm wd_fl2 xs S kh_cAdda.2.2.2.2.2.1 α kh_cAdda_a21.2.2.1 lv st S1 → (S1 = S ∧ nv α 5 = (S.1 806 2440).toInt ∧ nv α 5 ≤ 199 ∧ nv α 6 = nv α 5 + 1 ∧ nv α 7 = 2440) → 0 < k → hd_W wd_fl2 kh_cAdda kh_cAdda_y l D tc ad kd N sm xs S p e s m args below meth c sz 21 lv st S1 0) ∧ True
set_option maxHeartbeats 16000000 in
set_option maxRecDepth 8000 in
theorem kh_cAdda_h21 {l : Launch} {D : va_G} {tc : Nat → ClassId} {ad : Nat → Nat} {kd : Nat → Nat × Nat} {N : Nat} {sm : Nat → Nat} {xs : List av_X} {S : fw_S} {p : Program} {e : Env} {s : State} {m : MethodId} {args : Array Value} {below : List Frame} {meth : Method} {c : Code} {sz : Nat} {lvE : List (Nat × Value)} (G : hd_C wd_ff2 wd_fl2 kh_cAdda [kh_cJ0, kh_cJ1, kh_cJ2, kh_cJ3, kh_cJ4, kh_cJ5] kh_cAdda_y l D tc ad kd N sm xs p s m args meth c sz) (H0 : as_in ad sm wd_fl2 xs S kh_cAdda.2.2.2.2.2.1 xs (hd_0 kh_cAdda) lvE [] S) {k : Nat} (ih : kh_cAdda_I l D tc ad kd N sm xs S p e s m args below meth c sz k) : (∀ (α : List av_X) (lv : List (Nat × Value)) (st : List Value) (S1 : fw_S), as_in ad sm wd_fl2 xs S kh_cAdda.2.2.2.2.2.1 α kh_cAdda_a21.2.2.1 lv st S1 → (S1 = S ∧ nv α 5 = (S.1 806 2440).toInt ∧ nv α 5 ≤ 199 ∧ nv α 6 = nv α 5 + 1 ∧ nv α 7 = 2440) → 0 < k + 1 → hd_W wd_fl2 kh_cAdda kh_cAdda_y l D tc ad kd N sm xs S p e s m args below meth c sz 21 lv st S1 0) := by
  have hx : xs.length = 5 := by rw [H0.2.1.1]; rfl
  have q510 : crewF (S.1 806) := by
    have h := H0.2.2.2.2.2.2.2.2.1 510 (by decide +kernel)
    rw [wd_fl2, if_neg (by decide)] at h
    exact h
  have q517 : roomF (S.1 806) := by
    have h := H0.2.2.2.2.2.2.2.2.1 517 (by decide +kernel)
    rw [wd_fl2, if_neg (by decide)] at h
    exact h
  intro α lv st S1 H hp hk
  have bp := (en_nv (i := 6) H.2.1 rfl).2
  change 1 ≤ nv α 6 ∧ nv α 6 ≤ 201 at bp
  replace H := as_clamp (i := 6) (lo := 1) (hi := 200) H rfl rfl (by have b5 := (en_nv (i := 5) H.2.1 rfl).2; change 0 ≤ nv α 5 ∧ nv α 5 ≤ _ at b5; obtain ⟨p1, p2, p3, p4, p5⟩ := hp; omega) (by have b5 := (en_nv (i := 5) H.2.1 rfl).2; change 0 ≤ nv α 5 ∧ nv α 5 ≤ _ at b5; obtain ⟨p1, p2, p3, p4, p5⟩ := hp; omega) (by decide)
  have bp := (en_nv (i := 5) H.2.1 rfl).2
  change 0 ≤ nv α 5 ∧ nv α 5 ≤ 200 at bp
  replace H := as_clamp (i := 5) (lo := 0) (hi := 199) H rfl rfl (by have b5 := (en_nv (i := 5) H.2.1 rfl).2; change 0 ≤ nv α 5 ∧ nv α 5 ≤ _ at b5; obtain ⟨p1, p2, p3, p4, p5⟩ := hp; omega) (by have b5 := (en_nv (i := 5) H.2.1 rfl).2; change 0 ≤ nv α 5 ∧ nv α 5 ≤ _ at b5; obtain ⟨p1, p2, p3, p4, p5⟩ := hp; omega) (by decide)
  obtain ⟨α1, hle, Hr⟩ := as_recM (pl := []) [((806, 806), (2440, 4047, 1))] (by decide +kernel) H
  have hf := H.2.2.2.2.2.2.2.2.2.2.1
  have hl1 : α1.length = 9 := by rw [Hr.2.1.1]; rfl
  have hl0 : α.length = 9 := by rw [H.2.1.1]; rfl
  have hxa : al_le xs α1 := H.1.trans hle
  obtain ⟨g1, -, g3, g4, -⟩ := as_fx Hr
  have g0 : (805 ≤ nv α1 0 ∧ nv α1 0 ≤ 805) ∧ (0 ≤ nv α1 1 ∧ nv α1 1 ≤ 3) ∧ (0 ≤ nv α1 2 ∧ nv α1 2 ≤ 2) ∧ (0 ≤ nv α1 3 ∧ nv α1 3 ≤ 16) ∧ ((-2147483648) ≤ nv α1 4 ∧ nv α1 4 ≤ 2147483647) ∧ (0 ≤ nv α1 5 ∧ nv α1 5 ≤ 199) ∧ (1 ≤ nv α1 6 ∧ nv α1 6 ≤ 200) ∧ (2440 ≤ nv α1 7 ∧ nv α1 7 ≤ 2440) ∧ (806 ≤ nv α1 8 ∧ nv α1 8 ≤ 806) ∧ True := by
    refine ⟨by have h := (en_nv (i := 0) Hr.2.1 rfl).2; exact h, by have h := (en_nv (i := 1) Hr.2.1 rfl).2; exact h, by have h := (en_nv (i := 2) Hr.2.1 rfl).2; exact h, by have h := (en_nv (i := 3) Hr.2.1 rfl).2; exact h, by have h := (en_nv (i := 4) Hr.2.1 rfl).2; exact h, by have h := (en_nv (i := 5) Hr.2.1 rfl).2; exact h, by have h := (en_nv (i := 6) Hr.2.1 rfl).2; exact h, by have h := (en_nv (i := 7) Hr.2.1 rfl).2; exact h, by have h := (en_nv (i := 8) Hr.2.1 rfl).2; exact h, trivial⟩
  have r0 : nv α1 0 = nv α 0 := nv_le hle (by omega)
  have r1 : nv α1 1 = nv α 1 := nv_le hle (by omega)
  have r2 : nv α1 2 = nv α 2 := nv_le hle (by omega)
  have r3 : nv α1 3 = nv α 3 := nv_le hle (by omega)
  have r4 : nv α1 4 = nv α 4 := nv_le hle (by omega)
  have r5 : nv α1 5 = nv α 5 := nv_le hle (by omega)
  have r6 : nv α1 6 = nv α 6 := nv_le hle (by omega)
  have r7 : nv α1 7 = nv α 7 := nv_le hle (by omega)
  have r8 : nv α1 8 = nv α 8 := nv_le hle (by omega)
  refine hd_segM G (na := 9) (fuel := 600) (first := true) (Bs := [kh_cAdda_b21_0]) (by decide +kernel) hl1 Hr ?_
  intro q hq β lv' st' S' H1
  simp only [List.mem_cons, List.not_mem_nil, or_false] at hq
  rcases hq with rfl
  · obtain ⟨f1, f2, f3, f4, f5⟩ := as_fx H1
    simp only [kh_cAdda_b21_0, fx_env, fx_c, fx_ne, fx_hf, wl_S, Nat.zero_add, Nat.reduceAdd, Nat.reduceDiv, Nat.reduceMod, List.getElem?_cons_zero, List.getElem?_cons_succ, if_true, and_true, true_and] at f1 f2 f3 f4 f5
    have fe0 : nv β 0 = 805 := by omega
    have fe7 : nv β 7 = 2440 := by omega
    have fe8 : nv β 8 = 806 := by omega
    have fe9 : nv β 9 = 806 := by omega
    have fe10 : nv β 10 = 0 := by omega
    have fe12 : nv β 12 = 806 := by omega
    have fe13 : nv β 13 = 1 := by omega
    have fe15 : nv β 15 = 806 := by omega
    have fe16 : nv β 16 = 2 := by omega
    have fe18 : nv β 18 = 806 := by omega
    have fe19 : nv β 19 = 3 := by omega
    have fe21 : nv β 21 = 806 := by omega
    have fe22 : nv β 22 = 4 := by omega
    have fe24 : nv β 24 = 0 := by omega
    have fe25 : nv β 25 = 806 := by omega
    have fe26 : nv β 26 = 5 := by omega
    have fe28 : nv β 28 = (-1) := by omega
    try simp only [fe0, fe7, fe8, fe9, fe10, fe12, fe13, fe15, fe16, fe18, fe19, fe21, fe22, fe24, fe25, fe26, fe28, Int.reduceToNat] at f2 f3 f4 f5
    have s0 : nv β 0 = nv α1 0 := nv_le H1.1 (by omega)
    have s1 : nv β 1 = nv α1 1 := nv_le H1.1 (by omega)
    have s2 : nv β 2 = nv α1 2 := nv_le H1.1 (by omega)
    have s3 : nv β 3 = nv α1 3 := nv_le H1.1 (by omega)
    have s4 : nv β 4 = nv α1 4 := nv_le H1.1 (by omega)
    have s5 : nv β 5 = nv α1 5 := nv_le H1.1 (by omega)
    have s6 : nv β 6 = nv α1 6 := nv_le H1.1 (by omega)
    have s7 : nv β 7 = nv α1 7 := nv_le H1.1 (by omega)
    have s8 : nv β 8 = nv α1 8 := nv_le H1.1 (by omega)
    obtain ⟨c0, c1, c2, c3, c4, c5⟩ := f2
    have d0 := fl1_b (by decide) (fl2_b (by decide) c0)
    simp only [wd_fl] at d0
    have d1 := fl1_b (by decide) (fl2_b (by decide) c1)
    simp only [wd_fl] at d1
    have d2 := fl1_b (by decide) (fl2_b (by decide) c2)
    simp only [wd_fl] at d2
    have d3 := fl1_b (by decide) (fl2_b (by decide) c3)
    simp only [wd_fl] at d3
    have d4 := fl1_b (by decide) (fl2_b (by decide) c4)
    simp only [wd_fl] at d4
    have d5 := fl1_b (by decide) (fl2_b (by decide) c5)
    simp only [wd_fl] at d5
    have hrow : S'.1 806 = (rw_u (rw_u (rw_u (rw_u (rw_u (rw_u (rw_u (S1.1 806) 2440 (nv β 6)) (nv β 11).toNat (nv β 1)) (nv β 14).toNat (nv β 2)) (nv β 17).toNat (nv β 3)) (nv β 20).toNat (nv β 4)) (nv β 23).toNat (0)) (nv β 27).toNat ((-1))) := by rw [f5]; simp only [row_806]
    have hne : ∀ i : Nat, i ≠ (nv β 27).toNat → i ≠ (nv β 23).toNat → i ≠ (nv β 20).toNat → i ≠ (nv β 17).toNat → i ≠ (nv β 14).toNat → i ≠ (nv β 11).toNat → i ≠ 2440 → S'.1 806 i = S1.1 806 i := fun i n0 n1 n2 n3 n4 n5 n6 => by rw [hrow, rw_u_ne n0, rw_u_ne n1, rw_u_ne n2, rw_u_ne n3, rw_u_ne n4, rw_u_ne n5, rw_u_ne n6]
    have v0 : (S'.1 806 (nv β 27).toNat).toInt = (-1) := by rw [hrow, rw_u_eq (by omega)]
    have v1 : (S'.1 806 (nv β 23).toNat).toInt = 0 := by rw [hrow, rw_u_ne (by omega), rw_u_eq (by omega)]
    have v2 : (S'.1 806 (nv β 20).toNat).toInt = nv β 4 := by rw [hrow, rw_u_ne (by omega), rw_u_ne (by omega), rw_u_eq (by omega)]
    have v3 : (S'.1 806 (nv β 17).toNat).toInt = nv β 3 := by rw [hrow, rw_u_ne (by omega), rw_u_ne (by omega), rw_u_ne (by omega), rw_u_eq (by omega)]
    have v4 : (S'.1 806 (nv β 14).toNat).toInt = nv β 2 := by rw [hrow, rw_u_ne (by omega), rw_u_ne (by omega), rw_u_ne (by omega), rw_u_ne (by omega), rw_u_eq (by omega)]
    have v5 : (S'.1 806 (nv β 11).toNat).toInt = nv β 1 := by rw [hrow, rw_u_ne (by omega), rw_u_ne (by omega), rw_u_ne (by omega), rw_u_ne (by omega), rw_u_ne (by omega), rw_u_eq (by omega)]
    have v6 : (S'.1 806 2440).toInt = nv β 6 := by rw [hrow, rw_u_ne (by omega), rw_u_ne (by omega), rw_u_ne (by omega), rw_u_ne (by omega), rw_u_ne (by omega), rw_u_ne (by omega), rw_u_eq (by omega)]
    obtain ⟨p1, p2, p3, p4, p5⟩ := hp
    have e1 : S1.1 806 = S.1 806 := by rw [p1]
    have hj : (nv β 5) = (S.1 806 2440).toInt := by omega
    have hg : crewF (S'.1 806) := by
      refine crew_add (f := S.1 806) (j := (nv β 5).toNat) q510 q517 ?_ ?_ (by omega) (fun k' hk' => ?_) (fun j' w hj' hw hne' => ?_) (fun h4 => ?_) ?_
      · rw [← e1]; exact hne _ (by omega) (by omega) (by omega) (by omega) (by omega) (by omega) (by omega)
      · rw [v6]; omega
      · unfold mck; rw [hne _ (by omega) (by omega) (by omega) (by omega) (by omega) (by omega) (by omega), e1]
      · unfold mjk; rw [hne _ (by omega) (by omega) (by omega) (by omega) (by omega) (by omega) (by omega), e1]
      · have h0 := mjk_eq (j := (nv β 5).toNat) (w := 0) v5 (by omega)
        rw [h0] at h4
        rw [mjk_eq (w := 2) v3 (by omega)]; omega
      · exact mjk_eq (w := 4) v1 (by omega)
    exact hd_run G (ss := []) (fuel := 20) (by decide +kernel) (as_fl_in (f := [510]) (as_backM H1 (by decide +kernel) hxa hf) (fun g hg' => by
      rcases List.mem_singleton.mp hg' with rfl
      rw [wd_fl2, if_neg (by decide)]
      exact hg))
set_option maxHeartbeats 16000000 in
set_option maxRecDepth 8000 in
theorem kh_cAdda_ok : ct_ok wd_fl2 kh_cAdda := ct_hand (ff := wd_ff2) (y := kh_cAdda_y) (Cs := [kh_cJ0, kh_cJ1, kh_cJ2, kh_cJ3, kh_cJ4, kh_cJ5]) wd_fl2_ok rfl (List.forall_mem_cons.mpr ⟨kh_cJ0_ok, (List.forall_mem_cons.mpr ⟨kh_cJ1_ok, (List.forall_mem_cons.mpr ⟨kh_cJ2_ok, (List.forall_mem_cons.mpr ⟨kh_cJ3_ok, (List.forall_mem_cons.mpr ⟨kh_cJ4_ok, (List.forall_mem_cons.mpr ⟨kh_cJ5_ok, (List.forall_mem_nil _)⟩)⟩)⟩)⟩)⟩)⟩) (by decide +kernel) (fun l D tc ad kd N sm xs S p e s m args below meth c sz lv G H0 => by
  have hx : xs.length = 5 := by rw [H0.2.1.1]; rfl
  have q510 : crewF (S.1 806) := by
    have h := H0.2.2.2.2.2.2.2.2.1 510 (by decide +kernel)
    rw [wd_fl2, if_neg (by decide)] at h
    exact h
  have q517 : roomF (S.1 806) := by
    have h := H0.2.2.2.2.2.2.2.2.1 517 (by decide +kernel)
    rw [wd_fl2, if_neg (by decide)] at h
    exact h
  have hP : ∀ (k : Nat), kh_cAdda_I l D tc ad kd N sm xs S p e s m args below meth c sz k := by
    intro k
    induction k with
    | zero => exact ⟨fun _ _ _ _ _ _ h => absurd h (Nat.not_lt_zero _), trivial⟩
    | succ k ih => exact ⟨kh_cAdda_h21 G H0 ih, trivial⟩
  obtain ⟨α1, hle, Hr⟩ := as_recM (pl := []) [] (by decide +kernel) H0
  have hf := H0.2.2.2.2.2.2.2.2.2.2.1
  have hl1 : α1.length = 5 := by rw [Hr.2.1.1]; rfl
  have hl0 : xs.length = 5 := by rw [H0.2.1.1]; rfl
  have hxa : al_le xs α1 := H0.1.trans hle
  obtain ⟨g1, -, g3, g4, -⟩ := as_fx Hr
  have g0 : (805 ≤ nv α1 0 ∧ nv α1 0 ≤ 805) ∧ (0 ≤ nv α1 1 ∧ nv α1 1 ≤ 3) ∧ (0 ≤ nv α1 2 ∧ nv α1 2 ≤ 2) ∧ (0 ≤ nv α1 3 ∧ nv α1 3 ≤ 16) ∧ ((-2147483648) ≤ nv α1 4 ∧ nv α1 4 ≤ 2147483647) ∧ True := by
    refine ⟨by have h := (en_nv (i := 0) Hr.2.1 rfl).2; exact h, by have h := (en_nv (i := 1) Hr.2.1 rfl).2; exact h, by have h := (en_nv (i := 2) Hr.2.1 rfl).2; exact h, by have h := (en_nv (i := 3) Hr.2.1 rfl).2; exact h, by have h := (en_nv (i := 4) Hr.2.1 rfl).2; exact h, trivial⟩
  have r0 : nv α1 0 = nv xs 0 := nv_le hle (by omega)
  have r1 : nv α1 1 = nv xs 1 := nv_le hle (by omega)
  have r2 : nv α1 2 = nv xs 2 := nv_le hle (by omega)
  have r3 : nv α1 3 = nv xs 3 := nv_le hle (by omega)
  have r4 : nv α1 4 = nv xs 4 := nv_le hle (by omega)
  refine hd_segM G (na := 5) (fuel := 600) (first := true) (Bs := [kh_cAdda_b0_0]) (by decide +kernel) hl1 Hr ?_
  intro q hq β lv' st' S' H1
  simp only [List.mem_cons, List.not_mem_nil, or_false] at hq
  rcases hq with rfl
  · obtain ⟨f1, f2, f3, f4, f5⟩ := as_fx H1
    simp only [kh_cAdda_b0_0, fx_env, fx_c, fx_ne, fx_hf, wl_S, Nat.zero_add, Nat.reduceAdd, Nat.reduceDiv, Nat.reduceMod, List.getElem?_cons_zero, List.getElem?_cons_succ, if_true, and_true, true_and] at f1 f2 f3 f4 f5
    have fe0 : nv β 0 = 805 := by omega
    have fe5 : nv β 5 = 806 := by omega
    have fe6 : nv β 6 = 2440 := by omega
    have fe8 : nv β 8 = 806 := by omega
    have fe9 : nv β 9 = 2440 := by omega
    have fe10 : nv β 10 = 1 := by omega
    try simp only [fe0, fe5, fe6, fe8, fe9, fe10, Int.reduceToNat] at f2 f3 f4 f5
    have s0 : nv β 0 = nv α1 0 := nv_le H1.1 (by omega)
    have s1 : nv β 1 = nv α1 1 := nv_le H1.1 (by omega)
    have s2 : nv β 2 = nv α1 2 := nv_le H1.1 (by omega)
    have s3 : nv β 3 = nv α1 3 := nv_le H1.1 (by omega)
    have s4 : nv β 4 = nv α1 4 := nv_le H1.1 (by omega)
    obtain ⟨c0, c1⟩ := f2
    obtain ⟨α', Ha, hm⟩ := hd_gpM (q := kh_cAdda_a21) (n := 0) (by decide +kernel) hx H1 (by decide +kernel) hxa hf
    have hfr := H1.2.2.2.2.2.2.2.2.2.2.1
    have m0 : nv α' 0 = nv β 0 := hm 0 0 rfl
    have m1 : nv α' 1 = nv β 1 := hm 1 1 rfl
    have m2 : nv α' 2 = nv β 2 := hm 2 2 rfl
    have m3 : nv α' 3 = nv β 3 := hm 3 3 rfl
    have m4 : nv α' 4 = nv β 4 := hm 4 4 rfl
    have m5 : nv α' 5 = nv β 7 := hm 5 7 rfl
    have m6 : nv α' 6 = nv β 11 := hm 6 11 rfl
    have m7 : nv α' 7 = nv β 9 := hm 7 9 rfl
    have m8 : nv α' 8 = nv β 8 := hm 8 8 rfl
    subst S'
    have o1 := old_0 c1 rfl
    obtain ⟨b1, b2, -⟩ := q517
    unfold jobsN at b1 b2
    refine (hP _).1 _ _ _ _ Ha ?_ (Nat.lt_succ_self _)
    · rw [m5, m6, m7]
      exact ⟨rfl, by rw [o1], by omega, by omega, by omega⟩)
abbrev kh_cAddb_y : mt_T := (⟨"UtilityWorksModel", "cAdd", "(IIII)V"⟩, prog_14_method_277_code, 6, none, 12, 1, 4, 35138, 35137, 14010, 21014)
def kh_cAddb : ct_T := (520, [(2, 805, 805, 0), (0, 4, 6, 1), (0, 0, 2, 1), (0, 0, 9, 1), (0, (-2147483648), 2147483647, 1)], [], [510, 517], [(0, (0, 0, 0, 0), [(2, 805, 805, 0), (0, 4, 6, 1), (0, 0, 2, 1), (0, 0, 9, 1), (0, (-2147483648), 2147483647, 1)], [], ([510], []))], [((806, 806), (2440, 4047, 1))], 1, 21, 0)
def kh_cAddb_a21 : an_T := (21, 0, ([((2, 805, 805, 0), none), ((0, 4, 6, 1), none), ((0, 0, 2, 1), none), ((0, 0, 9, 1), none), ((0, (-2147483648), 2147483647, 1), none), ((0, 0, 200, 1), none), ((0, 1, 201, 1), none), ((0, 2440, 2440, 0), none), ((2, 806, 806, 1), none)], [(0, 0), (1, 1), (2, 2), (3, 3), (4, 4), (5, 5)], [6, 7, 8], [], [], [], [], [510], none), [])
def kh_cAddb_b0_0 : sg_T := (21, 0, ([((2, 805, 805, 0), none), ((0, 4, 6, 1), none), ((0, 0, 2, 1), none), ((0, 0, 9, 1), none), ((0, (-2147483648), 2147483647, 1), none), ((2, 806, 806, 1), none), ((0, 2440, 2440, 0), none), ((0, 0, 200, 1), none), ((2, 806, 806, 1), none), ((0, 2440, 2440, 0), none), ((0, 1, 1, 0), none), ((0, 1, 201, 1), some (7, 1))], [(5, 7), (0, 0), (1, 1), (2, 2), (3, 3), (4, 4)], [11, 9, 8], [(5, 6, 7)], [], [(500011, 7, 10), (800007, 5, 6)], [], [510, 517], some []))
def kh_cAddb_b21_0 : sg_T := (95, 0, ([((2, 805, 805, 0), none), ((0, 4, 6, 1), none), ((0, 0, 2, 1), none), ((0, 0, 9, 1), none), ((0, (-2147483648), 2147483647, 1), none), ((0, 0, 199, 1), none), ((0, 1, 200, 1), none), ((0, 2440, 2440, 0), none), ((2, 806, 806, 1), none), ((2, 806, 806, 1), none), ((0, 0, 0, 0), none), ((0, 2450, 4042, 8), none), ((2, 806, 806, 1), none), ((0, 1, 1, 0), none), ((0, 2451, 4043, 8), none), ((2, 806, 806, 1), none), ((0, 2, 2, 0), none), ((0, 2452, 4044, 8), none), ((2, 806, 806, 1), none), ((0, 3, 3, 0), none), ((0, 2453, 4045, 8), none), ((2, 806, 806, 1), none), ((0, 4, 4, 0), none), ((0, 2454, 4046, 8), none), ((0, 0, 0, 0), none), ((2, 806, 806, 1), none), ((0, 5, 5, 0), none), ((0, 2455, 4047, 8), none), ((0, (-1), (-1), 0), none)], [(0, 0), (1, 1), (2, 2), (3, 3), (4, 4), (5, 5)], [], [(25, 27, 28), (21, 23, 24), (18, 20, 4), (15, 17, 3), (12, 14, 2), (9, 11, 1), (8, 7, 6)], [], [(1200027, 5, 26), (1200023, 5, 22), (1200020, 5, 19), (1200017, 5, 16), (1200014, 5, 13), (1200011, 5, 10)], [], [], some [(25, 27, 28), (21, 23, 24), (18, 20, 4), (15, 17, 3), (12, 14, 2), (9, 11, 1), (8, 7, 6)]))
def kh_cAddb_I (l : Launch) (D : va_G) (tc : Nat → ClassId) (ad : Nat → Nat) (kd : Nat → Nat × Nat) (N : Nat) (sm : Nat → Nat) (xs : List av_X) (S : fw_S) (p : Program) (e : Env) (s : State) (m : MethodId) (args : Array Value) (below : List Frame) (meth : Method) (c : Code) (sz : Nat) (k : Nat) : Prop := (∀ (α : List av_X) (lv : List (Nat × Value)) (st : List Value) (S1 : fw_S), as_in ad sm wd_fl2 xs S kh_cAddb.2.2.2.2.2.1 α kh_cAddb_a21.2.2.1 lv st S1 → (S1 = S ∧ nv α 5 = (S.1 806 2440).toInt ∧ nv α 5 ≤ 199 ∧ nv α 6 = nv α 5 + 1 ∧ nv α 7 = 2440) → 0 < k → hd_W wd_fl2 kh_cAddb kh_cAddb_y l D tc ad kd N sm xs S p e s m args below meth c sz 21 lv st S1 0) ∧ True
set_option maxHeartbeats 16000000 in
set_option maxRecDepth 8000 in
theorem kh_cAddb_h21 {l : Launch} {D : va_G} {tc : Nat → ClassId} {ad : Nat → Nat} {kd : Nat → Nat × Nat} {N : Nat} {sm : Nat → Nat} {xs : List av_X} {S : fw_S} {p : Program} {e : Env} {s : State} {m : MethodId} {args : Array Value} {below : List Frame} {meth : Method} {c : Code} {sz : Nat} {lvE : List (Nat × Value)} (G : hd_C wd_ff2 wd_fl2 kh_cAddb [kh_cJ0, kh_cJ1, kh_cJ2, kh_cJ3, kh_cJ4, kh_cJ5] kh_cAddb_y l D tc ad kd N sm xs p s m args meth c sz) (H0 : as_in ad sm wd_fl2 xs S kh_cAddb.2.2.2.2.2.1 xs (hd_0 kh_cAddb) lvE [] S) {k : Nat} (ih : kh_cAddb_I l D tc ad kd N sm xs S p e s m args below meth c sz k) : (∀ (α : List av_X) (lv : List (Nat × Value)) (st : List Value) (S1 : fw_S), as_in ad sm wd_fl2 xs S kh_cAddb.2.2.2.2.2.1 α kh_cAddb_a21.2.2.1 lv st S1 → (S1 = S ∧ nv α 5 = (S.1 806 2440).toInt ∧ nv α 5 ≤ 199 ∧ nv α 6 = nv α 5 + 1 ∧ nv α 7 = 2440) → 0 < k + 1 → hd_W wd_fl2 kh_cAddb kh_cAddb_y l D tc ad kd N sm xs S p e s m args below meth c sz 21 lv st S1 0) := by
  have hx : xs.length = 5 := by rw [H0.2.1.1]; rfl
  have q510 : crewF (S.1 806) := by
    have h := H0.2.2.2.2.2.2.2.2.1 510 (by decide +kernel)
    rw [wd_fl2, if_neg (by decide)] at h
    exact h
  have q517 : roomF (S.1 806) := by
    have h := H0.2.2.2.2.2.2.2.2.1 517 (by decide +kernel)
    rw [wd_fl2, if_neg (by decide)] at h
    exact h
  intro α lv st S1 H hp hk
  have bp := (en_nv (i := 6) H.2.1 rfl).2
  change 1 ≤ nv α 6 ∧ nv α 6 ≤ 201 at bp
  replace H := as_clamp (i := 6) (lo := 1) (hi := 200) H rfl rfl (by have b5 := (en_nv (i := 5) H.2.1 rfl).2; change 0 ≤ nv α 5 ∧ nv α 5 ≤ _ at b5; obtain ⟨p1, p2, p3, p4, p5⟩ := hp; omega) (by have b5 := (en_nv (i := 5) H.2.1 rfl).2; change 0 ≤ nv α 5 ∧ nv α 5 ≤ _ at b5; obtain ⟨p1, p2, p3, p4, p5⟩ := hp; omega) (by decide)
  have bp := (en_nv (i := 5) H.2.1 rfl).2
  change 0 ≤ nv α 5 ∧ nv α 5 ≤ 200 at bp
  replace H := as_clamp (i := 5) (lo := 0) (hi := 199) H rfl rfl (by have b5 := (en_nv (i := 5) H.2.1 rfl).2; change 0 ≤ nv α 5 ∧ nv α 5 ≤ _ at b5; obtain ⟨p1, p2, p3, p4, p5⟩ := hp; omega) (by have b5 := (en_nv (i := 5) H.2.1 rfl).2; change 0 ≤ nv α 5 ∧ nv α 5 ≤ _ at b5; obtain ⟨p1, p2, p3, p4, p5⟩ := hp; omega) (by decide)
  obtain ⟨α1, hle, Hr⟩ := as_recM (pl := []) [((806, 806), (2440, 4047, 1))] (by decide +kernel) H
  have hf := H.2.2.2.2.2.2.2.2.2.2.1
  have hl1 : α1.length = 9 := by rw [Hr.2.1.1]; rfl
  have hl0 : α.length = 9 := by rw [H.2.1.1]; rfl
  have hxa : al_le xs α1 := H.1.trans hle
  obtain ⟨g1, -, g3, g4, -⟩ := as_fx Hr
  have g0 : (805 ≤ nv α1 0 ∧ nv α1 0 ≤ 805) ∧ (4 ≤ nv α1 1 ∧ nv α1 1 ≤ 6) ∧ (0 ≤ nv α1 2 ∧ nv α1 2 ≤ 2) ∧ (0 ≤ nv α1 3 ∧ nv α1 3 ≤ 9) ∧ ((-2147483648) ≤ nv α1 4 ∧ nv α1 4 ≤ 2147483647) ∧ (0 ≤ nv α1 5 ∧ nv α1 5 ≤ 199) ∧ (1 ≤ nv α1 6 ∧ nv α1 6 ≤ 200) ∧ (2440 ≤ nv α1 7 ∧ nv α1 7 ≤ 2440) ∧ (806 ≤ nv α1 8 ∧ nv α1 8 ≤ 806) ∧ True := by
    refine ⟨by have h := (en_nv (i := 0) Hr.2.1 rfl).2; exact h, by have h := (en_nv (i := 1) Hr.2.1 rfl).2; exact h, by have h := (en_nv (i := 2) Hr.2.1 rfl).2; exact h, by have h := (en_nv (i := 3) Hr.2.1 rfl).2; exact h, by have h := (en_nv (i := 4) Hr.2.1 rfl).2; exact h, by have h := (en_nv (i := 5) Hr.2.1 rfl).2; exact h, by have h := (en_nv (i := 6) Hr.2.1 rfl).2; exact h, by have h := (en_nv (i := 7) Hr.2.1 rfl).2; exact h, by have h := (en_nv (i := 8) Hr.2.1 rfl).2; exact h, trivial⟩
  have r0 : nv α1 0 = nv α 0 := nv_le hle (by omega)
  have r1 : nv α1 1 = nv α 1 := nv_le hle (by omega)
  have r2 : nv α1 2 = nv α 2 := nv_le hle (by omega)
  have r3 : nv α1 3 = nv α 3 := nv_le hle (by omega)
  have r4 : nv α1 4 = nv α 4 := nv_le hle (by omega)
  have r5 : nv α1 5 = nv α 5 := nv_le hle (by omega)
  have r6 : nv α1 6 = nv α 6 := nv_le hle (by omega)
  have r7 : nv α1 7 = nv α 7 := nv_le hle (by omega)
  have r8 : nv α1 8 = nv α 8 := nv_le hle (by omega)
  refine hd_segM G (na := 9) (fuel := 600) (first := true) (Bs := [kh_cAddb_b21_0]) (by decide +kernel) hl1 Hr ?_
  intro q hq β lv' st' S' H1
  simp only [List.mem_cons, List.not_mem_nil, or_false] at hq
  rcases hq with rfl
  · obtain ⟨f1, f2, f3, f4, f5⟩ := as_fx H1
    simp only [kh_cAddb_b21_0, fx_env, fx_c, fx_ne, fx_hf, wl_S, Nat.zero_add, Nat.reduceAdd, Nat.reduceDiv, Nat.reduceMod, List.getElem?_cons_zero, List.getElem?_cons_succ, if_true, and_true, true_and] at f1 f2 f3 f4 f5
    have fe0 : nv β 0 = 805 := by omega
    have fe7 : nv β 7 = 2440 := by omega
    have fe8 : nv β 8 = 806 := by omega
    have fe9 : nv β 9 = 806 := by omega
    have fe10 : nv β 10 = 0 := by omega
    have fe12 : nv β 12 = 806 := by omega
    have fe13 : nv β 13 = 1 := by omega
    have fe15 : nv β 15 = 806 := by omega
    have fe16 : nv β 16 = 2 := by omega
    have fe18 : nv β 18 = 806 := by omega
    have fe19 : nv β 19 = 3 := by omega
    have fe21 : nv β 21 = 806 := by omega
    have fe22 : nv β 22 = 4 := by omega
    have fe24 : nv β 24 = 0 := by omega
    have fe25 : nv β 25 = 806 := by omega
    have fe26 : nv β 26 = 5 := by omega
    have fe28 : nv β 28 = (-1) := by omega
    try simp only [fe0, fe7, fe8, fe9, fe10, fe12, fe13, fe15, fe16, fe18, fe19, fe21, fe22, fe24, fe25, fe26, fe28, Int.reduceToNat] at f2 f3 f4 f5
    have s0 : nv β 0 = nv α1 0 := nv_le H1.1 (by omega)
    have s1 : nv β 1 = nv α1 1 := nv_le H1.1 (by omega)
    have s2 : nv β 2 = nv α1 2 := nv_le H1.1 (by omega)
    have s3 : nv β 3 = nv α1 3 := nv_le H1.1 (by omega)
    have s4 : nv β 4 = nv α1 4 := nv_le H1.1 (by omega)
    have s5 : nv β 5 = nv α1 5 := nv_le H1.1 (by omega)
    have s6 : nv β 6 = nv α1 6 := nv_le H1.1 (by omega)
    have s7 : nv β 7 = nv α1 7 := nv_le H1.1 (by omega)
    have s8 : nv β 8 = nv α1 8 := nv_le H1.1 (by omega)
    obtain ⟨c0, c1, c2, c3, c4, c5⟩ := f2
    have d0 := fl1_b (by decide) (fl2_b (by decide) c0)
    simp only [wd_fl] at d0
    have d1 := fl1_b (by decide) (fl2_b (by decide) c1)
    simp only [wd_fl] at d1
    have d2 := fl1_b (by decide) (fl2_b (by decide) c2)
    simp only [wd_fl] at d2
    have d3 := fl1_b (by decide) (fl2_b (by decide) c3)
    simp only [wd_fl] at d3
    have d4 := fl1_b (by decide) (fl2_b (by decide) c4)
    simp only [wd_fl] at d4
    have d5 := fl1_b (by decide) (fl2_b (by decide) c5)
    simp only [wd_fl] at d5
    have hrow : S'.1 806 = (rw_u (rw_u (rw_u (rw_u (rw_u (rw_u (rw_u (S1.1 806) 2440 (nv β 6)) (nv β 11).toNat (nv β 1)) (nv β 14).toNat (nv β 2)) (nv β 17).toNat (nv β 3)) (nv β 20).toNat (nv β 4)) (nv β 23).toNat (0)) (nv β 27).toNat ((-1))) := by rw [f5]; simp only [row_806]
    have hne : ∀ i : Nat, i ≠ (nv β 27).toNat → i ≠ (nv β 23).toNat → i ≠ (nv β 20).toNat → i ≠ (nv β 17).toNat → i ≠ (nv β 14).toNat → i ≠ (nv β 11).toNat → i ≠ 2440 → S'.1 806 i = S1.1 806 i := fun i n0 n1 n2 n3 n4 n5 n6 => by rw [hrow, rw_u_ne n0, rw_u_ne n1, rw_u_ne n2, rw_u_ne n3, rw_u_ne n4, rw_u_ne n5, rw_u_ne n6]
    have v0 : (S'.1 806 (nv β 27).toNat).toInt = (-1) := by rw [hrow, rw_u_eq (by omega)]
    have v1 : (S'.1 806 (nv β 23).toNat).toInt = 0 := by rw [hrow, rw_u_ne (by omega), rw_u_eq (by omega)]
    have v2 : (S'.1 806 (nv β 20).toNat).toInt = nv β 4 := by rw [hrow, rw_u_ne (by omega), rw_u_ne (by omega), rw_u_eq (by omega)]
    have v3 : (S'.1 806 (nv β 17).toNat).toInt = nv β 3 := by rw [hrow, rw_u_ne (by omega), rw_u_ne (by omega), rw_u_ne (by omega), rw_u_eq (by omega)]
    have v4 : (S'.1 806 (nv β 14).toNat).toInt = nv β 2 := by rw [hrow, rw_u_ne (by omega), rw_u_ne (by omega), rw_u_ne (by omega), rw_u_ne (by omega), rw_u_eq (by omega)]
    have v5 : (S'.1 806 (nv β 11).toNat).toInt = nv β 1 := by rw [hrow, rw_u_ne (by omega), rw_u_ne (by omega), rw_u_ne (by omega), rw_u_ne (by omega), rw_u_ne (by omega), rw_u_eq (by omega)]
    have v6 : (S'.1 806 2440).toInt = nv β 6 := by rw [hrow, rw_u_ne (by omega), rw_u_ne (by omega), rw_u_ne (by omega), rw_u_ne (by omega), rw_u_ne (by omega), rw_u_ne (by omega), rw_u_eq (by omega)]
    obtain ⟨p1, p2, p3, p4, p5⟩ := hp
    have e1 : S1.1 806 = S.1 806 := by rw [p1]
    have hj : (nv β 5) = (S.1 806 2440).toInt := by omega
    have hg : crewF (S'.1 806) := by
      refine crew_add (f := S.1 806) (j := (nv β 5).toNat) q510 q517 ?_ ?_ (by omega) (fun k' hk' => ?_) (fun j' w hj' hw hne' => ?_) (fun h4 => ?_) ?_
      · rw [← e1]; exact hne _ (by omega) (by omega) (by omega) (by omega) (by omega) (by omega) (by omega)
      · rw [v6]; omega
      · unfold mck; rw [hne _ (by omega) (by omega) (by omega) (by omega) (by omega) (by omega) (by omega), e1]
      · unfold mjk; rw [hne _ (by omega) (by omega) (by omega) (by omega) (by omega) (by omega) (by omega), e1]
      · have h0 := mjk_eq (j := (nv β 5).toNat) (w := 0) v5 (by omega)
        rw [h0] at h4
        rw [mjk_eq (w := 2) v3 (by omega)]; omega
      · exact mjk_eq (w := 4) v1 (by omega)
    exact hd_run G (ss := []) (fuel := 20) (by decide +kernel) (as_fl_in (f := [510]) (as_backM H1 (by decide +kernel) hxa hf) (fun g hg' => by
      rcases List.mem_singleton.mp hg' with rfl
      rw [wd_fl2, if_neg (by decide)]
      exact hg))
set_option maxHeartbeats 16000000 in
set_option maxRecDepth 8000 in
theorem kh_cAddb_ok : ct_ok wd_fl2 kh_cAddb := ct_hand (ff := wd_ff2) (y := kh_cAddb_y) (Cs := [kh_cJ0, kh_cJ1, kh_cJ2, kh_cJ3, kh_cJ4, kh_cJ5]) wd_fl2_ok rfl (List.forall_mem_cons.mpr ⟨kh_cJ0_ok, (List.forall_mem_cons.mpr ⟨kh_cJ1_ok, (List.forall_mem_cons.mpr ⟨kh_cJ2_ok, (List.forall_mem_cons.mpr ⟨kh_cJ3_ok, (List.forall_mem_cons.mpr ⟨kh_cJ4_ok, (List.forall_mem_cons.mpr ⟨kh_cJ5_ok, (List.forall_mem_nil _)⟩)⟩)⟩)⟩)⟩)⟩) (by decide +kernel) (fun l D tc ad kd N sm xs S p e s m args below meth c sz lv G H0 => by
  have hx : xs.length = 5 := by rw [H0.2.1.1]; rfl
  have q510 : crewF (S.1 806) := by
    have h := H0.2.2.2.2.2.2.2.2.1 510 (by decide +kernel)
    rw [wd_fl2, if_neg (by decide)] at h
    exact h
  have q517 : roomF (S.1 806) := by
    have h := H0.2.2.2.2.2.2.2.2.1 517 (by decide +kernel)
    rw [wd_fl2, if_neg (by decide)] at h
    exact h
  have hP : ∀ (k : Nat), kh_cAddb_I l D tc ad kd N sm xs S p e s m args below meth c sz k := by
    intro k
    induction k with
    | zero => exact ⟨fun _ _ _ _ _ _ h => absurd h (Nat.not_lt_zero _), trivial⟩
    | succ k ih => exact ⟨kh_cAddb_h21 G H0 ih, trivial⟩
  obtain ⟨α1, hle, Hr⟩ := as_recM (pl := []) [] (by decide +kernel) H0
  have hf := H0.2.2.2.2.2.2.2.2.2.2.1
  have hl1 : α1.length = 5 := by rw [Hr.2.1.1]; rfl
  have hl0 : xs.length = 5 := by rw [H0.2.1.1]; rfl
  have hxa : al_le xs α1 := H0.1.trans hle
  obtain ⟨g1, -, g3, g4, -⟩ := as_fx Hr
  have g0 : (805 ≤ nv α1 0 ∧ nv α1 0 ≤ 805) ∧ (4 ≤ nv α1 1 ∧ nv α1 1 ≤ 6) ∧ (0 ≤ nv α1 2 ∧ nv α1 2 ≤ 2) ∧ (0 ≤ nv α1 3 ∧ nv α1 3 ≤ 9) ∧ ((-2147483648) ≤ nv α1 4 ∧ nv α1 4 ≤ 2147483647) ∧ True := by
    refine ⟨by have h := (en_nv (i := 0) Hr.2.1 rfl).2; exact h, by have h := (en_nv (i := 1) Hr.2.1 rfl).2; exact h, by have h := (en_nv (i := 2) Hr.2.1 rfl).2; exact h, by have h := (en_nv (i := 3) Hr.2.1 rfl).2; exact h, by have h := (en_nv (i := 4) Hr.2.1 rfl).2; exact h, trivial⟩
  have r0 : nv α1 0 = nv xs 0 := nv_le hle (by omega)
  have r1 : nv α1 1 = nv xs 1 := nv_le hle (by omega)
  have r2 : nv α1 2 = nv xs 2 := nv_le hle (by omega)
  have r3 : nv α1 3 = nv xs 3 := nv_le hle (by omega)
  have r4 : nv α1 4 = nv xs 4 := nv_le hle (by omega)
  refine hd_segM G (na := 5) (fuel := 600) (first := true) (Bs := [kh_cAddb_b0_0]) (by decide +kernel) hl1 Hr ?_
  intro q hq β lv' st' S' H1
  simp only [List.mem_cons, List.not_mem_nil, or_false] at hq
  rcases hq with rfl
  · obtain ⟨f1, f2, f3, f4, f5⟩ := as_fx H1
    simp only [kh_cAddb_b0_0, fx_env, fx_c, fx_ne, fx_hf, wl_S, Nat.zero_add, Nat.reduceAdd, Nat.reduceDiv, Nat.reduceMod, List.getElem?_cons_zero, List.getElem?_cons_succ, if_true, and_true, true_and] at f1 f2 f3 f4 f5
    have fe0 : nv β 0 = 805 := by omega
    have fe5 : nv β 5 = 806 := by omega
    have fe6 : nv β 6 = 2440 := by omega
    have fe8 : nv β 8 = 806 := by omega
    have fe9 : nv β 9 = 2440 := by omega
    have fe10 : nv β 10 = 1 := by omega
    try simp only [fe0, fe5, fe6, fe8, fe9, fe10, Int.reduceToNat] at f2 f3 f4 f5
    have s0 : nv β 0 = nv α1 0 := nv_le H1.1 (by omega)
    have s1 : nv β 1 = nv α1 1 := nv_le H1.1 (by omega)
    have s2 : nv β 2 = nv α1 2 := nv_le H1.1 (by omega)
    have s3 : nv β 3 = nv α1 3 := nv_le H1.1 (by omega)
    have s4 : nv β 4 = nv α1 4 := nv_le H1.1 (by omega)
    obtain ⟨c0, c1⟩ := f2
    obtain ⟨α', Ha, hm⟩ := hd_gpM (q := kh_cAddb_a21) (n := 0) (by decide +kernel) hx H1 (by decide +kernel) hxa hf
    have hfr := H1.2.2.2.2.2.2.2.2.2.2.1
    have m0 : nv α' 0 = nv β 0 := hm 0 0 rfl
    have m1 : nv α' 1 = nv β 1 := hm 1 1 rfl
    have m2 : nv α' 2 = nv β 2 := hm 2 2 rfl
    have m3 : nv α' 3 = nv β 3 := hm 3 3 rfl
    have m4 : nv α' 4 = nv β 4 := hm 4 4 rfl
    have m5 : nv α' 5 = nv β 7 := hm 5 7 rfl
    have m6 : nv α' 6 = nv β 11 := hm 6 11 rfl
    have m7 : nv α' 7 = nv β 9 := hm 7 9 rfl
    have m8 : nv α' 8 = nv β 8 := hm 8 8 rfl
    subst S'
    have o1 := old_0 c1 rfl
    obtain ⟨b1, b2, -⟩ := q517
    unfold jobsN at b1 b2
    refine (hP _).1 _ _ _ _ Ha ?_ (Nat.lt_succ_self _)
    · rw [m5, m6, m7]
      exact ⟨rfl, by rw [o1], by omega, by omega, by omega⟩)
abbrev kh_cSpot_y : mt_T := (⟨"UtilityWorksModel", "cSpot", "(I)I"⟩, prog_14_method_278_code, 3, some .int, 12, 1, 1, 33140, 33139, 7007, 21014)
def kh_cSpot : ct_T := (401, [(2, 805, 805, 0), (0, 0, 199, 1)], [], [510], [(1, (0, 0, 11, 1), [(2, 805, 805, 0), (0, 0, 199, 1)], [], ([], []))], [], 2, 42, 0)
def kh_cSpot_a27 : an_T := (27, 0, ([((2, 805, 805, 0), none), ((0, 0, 199, 1), none), ((0, 0, 16, 1), none), ((0, 0, 16, 1), none)], [(0, 0), (1, 1), (2, 2)], [3, 0], [], [], [], [], [510], none), [])
def kh_cSpot_b0_0 : sg_T := (53, 0, ([((2, 805, 805, 0), none), ((0, 0, 199, 1), none), ((2, 806, 806, 1), none), ((0, 2, 2, 0), none), ((0, 2452, 4044, 8), none), ((0, 0, 16, 1), none), ((2, 806, 806, 1), none), ((0, 0, 0, 0), none), ((0, 2450, 4042, 8), none), ((0, 0, 3, 1), none), ((0, 3, 3, 0), none), ((0, 1, 10, 1), none), ((0, 1, 10, 1), none), ((0, 1, 11, 1), none)], [(2, 5), (0, 0), (1, 1)], [13], [(6, 8, 9), (2, 4, 5)], [], [(1100013, 5, 5), (200000, 12, 11), (1100012, 5, 5), (1000011, 5, 5), (200000, 9, 10), (800009, 6, 8), (1200008, 1, 7), (800005, 2, 4), (1200004, 1, 3)], [], [510], some []))
def kh_cSpot_b0_1 : sg_T := (53, 0, ([((2, 805, 805, 0), none), ((0, 0, 199, 1), none), ((2, 806, 806, 1), none), ((0, 2, 2, 0), none), ((0, 2452, 4044, 8), none), ((0, 0, 16, 1), none), ((2, 806, 806, 1), none), ((0, 0, 0, 0), none), ((0, 2450, 4042, 8), none), ((0, 0, 3, 1), none), ((0, 3, 3, 0), none), ((0, 0, 10, 1), none), ((0, 1, 11, 1), none), ((0, 0, 10, 1), none)], [(2, 5), (0, 0), (1, 1)], [13], [(6, 8, 9), (2, 4, 5)], [], [(1000013, 5, 5), (100000, 11, 12), (1100012, 5, 5), (1000011, 5, 5), (200000, 9, 10), (800009, 6, 8), (1200008, 1, 7), (800005, 2, 4), (1200004, 1, 3)], [], [510], some []))
def kh_cSpot_b0_2 : sg_T := (27, 0, ([((2, 805, 805, 0), none), ((0, 0, 199, 1), none), ((2, 806, 806, 1), none), ((0, 2, 2, 0), none), ((0, 2452, 4044, 8), none), ((0, 0, 16, 1), none), ((2, 806, 806, 1), none), ((0, 0, 0, 0), none), ((0, 2450, 4042, 8), none), ((0, 4, 6, 1), none), ((0, 3, 3, 0), none)], [(2, 5), (0, 0), (1, 1)], [5, 0], [(6, 8, 9), (2, 4, 5)], [], [(100000, 10, 9), (800009, 6, 8), (1200008, 1, 7), (800005, 2, 4), (1200004, 1, 3)], [], [510], some []))
def kh_cSpot_b27_0 : sg_T := (30, 0, ([((2, 805, 805, 0), none), ((0, 0, 199, 1), none), ((0, 0, 16, 1), none), ((0, 0, 9, 1), none), ((0, 0, 11, 1), none)], [(0, 0), (1, 1), (2, 2)], [4], [], [], [], [], [510], some []))
def kh_cSpot_I (l : Launch) (D : va_G) (tc : Nat → ClassId) (ad : Nat → Nat) (kd : Nat → Nat × Nat) (N : Nat) (sm : Nat → Nat) (xs : List av_X) (S : fw_S) (p : Program) (e : Env) (s : State) (m : MethodId) (args : Array Value) (below : List Frame) (meth : Method) (c : Code) (sz : Nat) (k : Nat) : Prop := (∀ (α : List av_X) (lv : List (Nat × Value)) (st : List Value) (S1 : fw_S), as_in ad sm wd_fl2 xs S kh_cSpot.2.2.2.2.2.1 α kh_cSpot_a27.2.2.1 lv st S1 → (nv α 3 ≤ 9) → 0 < k → hd_W wd_fl2 kh_cSpot kh_cSpot_y l D tc ad kd N sm xs S p e s m args below meth c sz 27 lv st S1 0) ∧ True
set_option maxHeartbeats 16000000 in
set_option maxRecDepth 8000 in
theorem kh_cSpot_h27 {l : Launch} {D : va_G} {tc : Nat → ClassId} {ad : Nat → Nat} {kd : Nat → Nat × Nat} {N : Nat} {sm : Nat → Nat} {xs : List av_X} {S : fw_S} {p : Program} {e : Env} {s : State} {m : MethodId} {args : Array Value} {below : List Frame} {meth : Method} {c : Code} {sz : Nat} {lvE : List (Nat × Value)} (G : hd_C wd_ff2 wd_fl2 kh_cSpot [kh_cJ2, kh_cJ0, kh_low, kh_high, kh_395] kh_cSpot_y l D tc ad kd N sm xs p s m args meth c sz) (H0 : as_in ad sm wd_fl2 xs S kh_cSpot.2.2.2.2.2.1 xs (hd_0 kh_cSpot) lvE [] S) {k : Nat} (ih : kh_cSpot_I l D tc ad kd N sm xs S p e s m args below meth c sz k) : (∀ (α : List av_X) (lv : List (Nat × Value)) (st : List Value) (S1 : fw_S), as_in ad sm wd_fl2 xs S kh_cSpot.2.2.2.2.2.1 α kh_cSpot_a27.2.2.1 lv st S1 → (nv α 3 ≤ 9) → 0 < k + 1 → hd_W wd_fl2 kh_cSpot kh_cSpot_y l D tc ad kd N sm xs S p e s m args below meth c sz 27 lv st S1 0) := by
  have hx : xs.length = 2 := by rw [H0.2.1.1]; rfl
  have q510 : crewF (S.1 806) := by
    have h := H0.2.2.2.2.2.2.2.2.1 510 (by decide +kernel)
    rw [wd_fl2, if_neg (by decide)] at h
    exact h
  intro α lv st S1 H hp hk
  have bp := (en_nv (i := 3) H.2.1 rfl).2
  change 0 ≤ nv α 3 ∧ nv α 3 ≤ 16 at bp
  replace H := as_clamp (i := 3) (lo := 0) (hi := 9) H rfl rfl (by omega) (by exact hp) (by decide)
  obtain ⟨α1, hle, Hr⟩ := as_recM (pl := []) [] (by decide +kernel) H
  have hf := H.2.2.2.2.2.2.2.2.2.2.1
  have hl1 : α1.length = 4 := by rw [Hr.2.1.1]; rfl
  have hl0 : α.length = 4 := by rw [H.2.1.1]; rfl
  have hxa : al_le xs α1 := H.1.trans hle
  obtain ⟨g1, -, g3, g4, -⟩ := as_fx Hr
  have g0 : (805 ≤ nv α1 0 ∧ nv α1 0 ≤ 805) ∧ (0 ≤ nv α1 1 ∧ nv α1 1 ≤ 199) ∧ (0 ≤ nv α1 2 ∧ nv α1 2 ≤ 16) ∧ (0 ≤ nv α1 3 ∧ nv α1 3 ≤ 9) ∧ True := by
    refine ⟨by have h := (en_nv (i := 0) Hr.2.1 rfl).2; exact h, by have h := (en_nv (i := 1) Hr.2.1 rfl).2; exact h, by have h := (en_nv (i := 2) Hr.2.1 rfl).2; exact h, by have h := (en_nv (i := 3) Hr.2.1 rfl).2; exact h, trivial⟩
  have r0 : nv α1 0 = nv α 0 := nv_le hle (by omega)
  have r1 : nv α1 1 = nv α 1 := nv_le hle (by omega)
  have r2 : nv α1 2 = nv α 2 := nv_le hle (by omega)
  have r3 : nv α1 3 = nv α 3 := nv_le hle (by omega)
  refine hd_segM G (na := 4) (fuel := 600) (first := true) (Bs := [kh_cSpot_b27_0]) (by decide +kernel) hl1 Hr ?_
  intro q hq β lv' st' S' H1
  simp only [List.mem_cons, List.not_mem_nil, or_false] at hq
  rcases hq with rfl
  · obtain ⟨f1, f2, f3, f4, f5⟩ := as_fx H1
    simp only [kh_cSpot_b27_0, fx_env, fx_c, fx_ne, fx_hf, wl_S, Nat.zero_add, Nat.reduceAdd, Nat.reduceDiv, Nat.reduceMod, List.getElem?_cons_zero, List.getElem?_cons_succ, if_true, and_true, true_and] at f1 f2 f3 f4 f5
    have fe0 : nv β 0 = 805 := by omega
    try simp only [fe0, Int.reduceToNat] at f2 f3 f4 f5
    have s0 : nv β 0 = nv α1 0 := nv_le H1.1 (by omega)
    have s1 : nv β 1 = nv α1 1 := nv_le H1.1 (by omega)
    have s2 : nv β 2 = nv α1 2 := nv_le H1.1 (by omega)
    have s3 : nv β 3 = nv α1 3 := nv_le H1.1 (by omega)
    exact hd_run G (ss := []) (fuel := 20) (by decide +kernel) (as_backM H1 (by decide +kernel) hxa hf)
set_option maxHeartbeats 16000000 in
set_option maxRecDepth 8000 in
theorem kh_cSpot_ok : ct_ok wd_fl2 kh_cSpot := ct_hand (ff := wd_ff2) (y := kh_cSpot_y) (Cs := [kh_cJ2, kh_cJ0, kh_low, kh_high, kh_395]) wd_fl2_ok rfl (List.forall_mem_cons.mpr ⟨kh_cJ2_ok, (List.forall_mem_cons.mpr ⟨kh_cJ0_ok, (List.forall_mem_cons.mpr ⟨kh_low_l2, (List.forall_mem_cons.mpr ⟨kh_high_l2, (List.forall_mem_cons.mpr ⟨kh_395_l2, (List.forall_mem_nil _)⟩)⟩)⟩)⟩)⟩) (by decide +kernel) (fun l D tc ad kd N sm xs S p e s m args below meth c sz lv G H0 => by
  have hx : xs.length = 2 := by rw [H0.2.1.1]; rfl
  have q510 : crewF (S.1 806) := by
    have h := H0.2.2.2.2.2.2.2.2.1 510 (by decide +kernel)
    rw [wd_fl2, if_neg (by decide)] at h
    exact h
  have hP : ∀ (k : Nat), kh_cSpot_I l D tc ad kd N sm xs S p e s m args below meth c sz k := by
    intro k
    induction k with
    | zero => exact ⟨fun _ _ _ _ _ _ h => absurd h (Nat.not_lt_zero _), trivial⟩
    | succ k ih => exact ⟨kh_cSpot_h27 G H0 ih, trivial⟩
  obtain ⟨α1, hle, Hr⟩ := as_recM (pl := []) [] (by decide +kernel) H0
  have hf := H0.2.2.2.2.2.2.2.2.2.2.1
  have hl1 : α1.length = 2 := by rw [Hr.2.1.1]; rfl
  have hl0 : xs.length = 2 := by rw [H0.2.1.1]; rfl
  have hxa : al_le xs α1 := H0.1.trans hle
  obtain ⟨g1, -, g3, g4, -⟩ := as_fx Hr
  have g0 : (805 ≤ nv α1 0 ∧ nv α1 0 ≤ 805) ∧ (0 ≤ nv α1 1 ∧ nv α1 1 ≤ 199) ∧ True := by
    refine ⟨by have h := (en_nv (i := 0) Hr.2.1 rfl).2; exact h, by have h := (en_nv (i := 1) Hr.2.1 rfl).2; exact h, trivial⟩
  have r0 : nv α1 0 = nv xs 0 := nv_le hle (by omega)
  have r1 : nv α1 1 = nv xs 1 := nv_le hle (by omega)
  refine hd_segM G (na := 2) (fuel := 600) (first := true) (Bs := [kh_cSpot_b0_0, kh_cSpot_b0_1, kh_cSpot_b0_2]) (by decide +kernel) hl1 Hr ?_
  intro q hq β lv' st' S' H1
  simp only [List.mem_cons, List.not_mem_nil, or_false] at hq
  rcases hq with rfl | rfl | rfl
  · obtain ⟨f1, f2, f3, f4, f5⟩ := as_fx H1
    simp only [kh_cSpot_b0_0, fx_env, fx_c, fx_ne, fx_hf, wl_S, Nat.zero_add, Nat.reduceAdd, Nat.reduceDiv, Nat.reduceMod, List.getElem?_cons_zero, List.getElem?_cons_succ, if_true, and_true, true_and] at f1 f2 f3 f4 f5
    have fe0 : nv β 0 = 805 := by omega
    have fe2 : nv β 2 = 806 := by omega
    have fe3 : nv β 3 = 2 := by omega
    have fe6 : nv β 6 = 806 := by omega
    have fe7 : nv β 7 = 0 := by omega
    have fe10 : nv β 10 = 3 := by omega
    try simp only [fe0, fe2, fe3, fe6, fe7, fe10, Int.reduceToNat] at f2 f3 f4 f5
    have s0 : nv β 0 = nv α1 0 := nv_le H1.1 (by omega)
    have s1 : nv β 1 = nv α1 1 := nv_le H1.1 (by omega)
    obtain ⟨c0, c1, c2, c3, c4, c5, c6, c7, c8⟩ := f2
    exact hd_run G (ss := []) (fuel := 20) (by decide +kernel) (as_backM H1 (by decide +kernel) hxa hf)
  · obtain ⟨f1, f2, f3, f4, f5⟩ := as_fx H1
    simp only [kh_cSpot_b0_1, fx_env, fx_c, fx_ne, fx_hf, wl_S, Nat.zero_add, Nat.reduceAdd, Nat.reduceDiv, Nat.reduceMod, List.getElem?_cons_zero, List.getElem?_cons_succ, if_true, and_true, true_and] at f1 f2 f3 f4 f5
    have fe0 : nv β 0 = 805 := by omega
    have fe2 : nv β 2 = 806 := by omega
    have fe3 : nv β 3 = 2 := by omega
    have fe6 : nv β 6 = 806 := by omega
    have fe7 : nv β 7 = 0 := by omega
    have fe10 : nv β 10 = 3 := by omega
    try simp only [fe0, fe2, fe3, fe6, fe7, fe10, Int.reduceToNat] at f2 f3 f4 f5
    have s0 : nv β 0 = nv α1 0 := nv_le H1.1 (by omega)
    have s1 : nv β 1 = nv α1 1 := nv_le H1.1 (by omega)
    obtain ⟨c0, c1, c2, c3, c4, c5, c6, c7, c8⟩ := f2
    exact hd_run G (ss := []) (fuel := 20) (by decide +kernel) (as_backM H1 (by decide +kernel) hxa hf)
  · obtain ⟨f1, f2, f3, f4, f5⟩ := as_fx H1
    simp only [kh_cSpot_b0_2, fx_env, fx_c, fx_ne, fx_hf, wl_S, Nat.zero_add, Nat.reduceAdd, Nat.reduceDiv, Nat.reduceMod, List.getElem?_cons_zero, List.getElem?_cons_succ, if_true, and_true, true_and] at f1 f2 f3 f4 f5
    have fe0 : nv β 0 = 805 := by omega
    have fe2 : nv β 2 = 806 := by omega
    have fe3 : nv β 3 = 2 := by omega
    have fe6 : nv β 6 = 806 := by omega
    have fe7 : nv β 7 = 0 := by omega
    have fe10 : nv β 10 = 3 := by omega
    try simp only [fe0, fe2, fe3, fe6, fe7, fe10, Int.reduceToNat] at f2 f3 f4 f5
    have s0 : nv β 0 = nv α1 0 := nv_le H1.1 (by omega)
    have s1 : nv β 1 = nv α1 1 := nv_le H1.1 (by omega)
    obtain ⟨c0, c1, c2, c3, c4⟩ := f2
    obtain ⟨α', Ha, hm⟩ := hd_gpM (q := kh_cSpot_a27) (n := 0) (by decide +kernel) hx H1 (by decide +kernel) hxa hf
    have hfr := H1.2.2.2.2.2.2.2.2.2.2.1
    have m0 : nv α' 0 = nv β 0 := hm 0 0 rfl
    have m1 : nv α' 1 = nv β 1 := hm 1 1 rfl
    have m2 : nv α' 2 = nv β 5 := hm 2 5 rfl
    have m3 : nv α' 3 = nv β 5 := hm 3 5 rfl
    subst S'
    have o1 := old_0 c1 rfl
    have o3 := old_0 c3 rfl
    have d2 := fl1_b (by decide) (fl2_b (by decide) c2)
    simp only [wd_fl] at d2
    have d4 := fl1_b (by decide) (fl2_b (by decide) c4)
    simp only [wd_fl] at d4
    have hk := mjk_eq (j := (nv β 1).toNat) (w := 0) o1 (by omega)
    have hl := mjk_eq (j := (nv β 1).toNat) (w := 2) o3 (by omega)
    have h9 := q510.2.2.1 (nv β 1).toNat (by omega) (by omega)
    refine (hP _).1 _ _ _ _ Ha ?_ (Nat.lt_succ_self _)
    · rw [m3]; omega)
