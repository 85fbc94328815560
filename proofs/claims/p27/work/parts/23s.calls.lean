/-! ===== lasts, coal, isSoundCrews ===== -/
/- UtilityWorksModel in -/
def kh_641 : ct_T := (353, [(0, (-2147483648), 2147483647, 1), (0, 0, 0, 0), (0, 0, 1, 1)], [], [], [(1, (0, 1, 1, 0), [(0, 0, 1, 1), (0, 0, 0, 0), (0, 0, 1, 1)], [], ([], [])), (1, (0, 0, 0, 0), [(0, (-2147483648), 2147483647, 1), (0, 0, 0, 0), (0, 0, 1, 1)], [], ([], []))], [], 0, 0, 0)
theorem kh_641_ok : ct_ok wd_fl2 kh_641 := ct_of (ff := wd_ff2) (y := (⟨"UtilityWorksModel", "in", "(III)Z"⟩, prog_14_method_5_code, 3, some .boolean, 12, 0, 3, 32192, 32191, 0, 21014)) (Cs := []) (an := [(14, 0, ([((0, (-2147483648), 2147483647, 1), none), ((0, 0, 0, 0), none), ((0, 0, 1, 1), none)], [(0, 0), (1, 1), (2, 2)], [], [], [], [], [], [], none), [(0, 0, 99986)])]) (ss := []) (K := 1) (fuel := 4000) wd_fl2_ok rfl (List.forall_mem_nil _) (by decide +kernel)
/- UtilityWorksModel hNext -/
def kh_642 : ct_T := (542, [(2, 805, 805, 0)], [], [], [(0, (0, 0, 0, 0), [(2, 805, 805, 0)], [], ([], []))], [((805, 805), (21, 62, 1)), ((815, 815), (0, 16, 1)), ((816, 816), (0, 16, 1)), ((817, 817), (0, 11, 1)), ((818, 818), (0, 3, 1)), ((819, 819), (0, 11, 1)), ((820, 820), (0, 16, 1)), ((821, 821), (0, 2, 1)), ((822, 822), (0, 1, 1)), ((823, 823), (0, 9, 1)), ((824, 824), (0, 9, 1)), ((825, 825), (0, 11, 1)), ((827, 827), (0, 2, 1)), ((827, 827), (3, 6, 1)), ((828, 828), (0, 2, 1)), ((828, 828), (3, 6, 1)), ((829, 829), (0, 6, 1)), ((830, 830), (0, 6, 1)), ((831, 831), (0, 11, 1)), ((832, 832), (0, 11, 1)), ((833, 833), (0, 11, 1)), ((834, 834), (0, 11, 1)), ((835, 835), (0, 11, 1)), ((836, 836), (0, 11, 1)), ((837, 837), (0, 11, 1)), ((838, 838), (0, 11, 1)), ((839, 839), (0, 33, 1)), ((840, 840), (0, 11, 1)), ((841, 841), (0, 10, 1)), ((843, 843), (0, 1, 1)), ((844, 844), (0, 9, 1)), ((845, 845), (0, 11, 1)), ((846, 846), (0, 1, 1)), ((847, 847), (0, 1, 1)), ((848, 848), (0, 33, 1)), ((849, 849), (0, 16, 1)), ((850, 850), (0, 11, 1)), ((851, 851), (0, 11, 1)), ((852, 852), (0, 11, 1)), ((854, 854), (0, 11, 1)), ((855, 855), (0, 23, 1)), ((856, 856), (0, 287, 1)), ((857, 857), (0, 9, 1)), ((858, 858), (0, 9, 1))], 9, 209, 0)
theorem kh_642_ok : ct_ok wd_fl2 kh_642 := ct_of (ff := wd_ff2) (y := (⟨"UtilityWorksModel", "hNext", "()V"⟩, prog_14_method_174_code, 1, none, 12, 1, 0, 35226, 35225, 15007, 21014)) (Cs := [kh_powerDeal, kh_waterDeal, kh_heatDeal]) (an := []) (ss := []) (K := 1) (fuel := 4000) wd_fl2_ok rfl (List.forall_mem_cons.mpr ⟨kh_powerDeal_l2, (List.forall_mem_cons.mpr ⟨kh_waterDeal_ok, (List.forall_mem_cons.mpr ⟨kh_heatDeal_l2, (List.forall_mem_nil _)⟩)⟩)⟩) (by decide +kernel)
abbrev kh_lasts_y : mt_T := (⟨"UtilityWorksModel", "lasts", "(I)I"⟩, prog_14_method_186_code, 2, some .int, 12, 1, 1, 37040, 37038, 37039, 21014)
def kh_lasts : ct_T := (615, [(2, 805, 805, 0), (0, (-2147483648), 2147483647, 1)], [], [], [(1, (0, 0, 999, 1), [(2, 805, 805, 0), (0, (-2147483648), 2147483647, 1)], [], ([], []))], [((805, 805), (8, 8, 0)), ((805, 805), (21, 62, 1)), ((815, 815), (0, 16, 1)), ((816, 816), (0, 16, 1)), ((817, 817), (0, 11, 1)), ((818, 818), (0, 3, 1)), ((819, 819), (0, 11, 1)), ((820, 820), (0, 16, 1)), ((821, 821), (0, 2, 1)), ((822, 822), (0, 1, 1)), ((823, 823), (0, 9, 1)), ((824, 824), (0, 9, 1)), ((825, 825), (0, 11, 1)), ((827, 827), (0, 2, 1)), ((827, 827), (3, 6, 1)), ((828, 828), (0, 2, 1)), ((828, 828), (3, 6, 1)), ((829, 829), (0, 6, 1)), ((830, 830), (0, 6, 1)), ((831, 831), (0, 11, 1)), ((832, 832), (0, 11, 1)), ((833, 833), (0, 11, 1)), ((834, 834), (0, 11, 1)), ((835, 835), (0, 11, 1)), ((836, 836), (0, 11, 1)), ((837, 837), (0, 11, 1)), ((838, 838), (0, 11, 1)), ((839, 839), (0, 33, 1)), ((840, 840), (0, 11, 1)), ((841, 841), (0, 10, 1)), ((843, 843), (0, 1, 1)), ((844, 844), (0, 9, 1)), ((845, 845), (0, 11, 1)), ((846, 846), (0, 1, 1)), ((847, 847), (0, 1, 1)), ((848, 848), (0, 33, 1)), ((849, 849), (0, 16, 1)), ((850, 850), (0, 11, 1)), ((851, 851), (0, 11, 1)), ((852, 852), (0, 11, 1)), ((854, 854), (0, 11, 1)), ((855, 855), (0, 23, 1)), ((856, 856), (0, 287, 1)), ((857, 857), (0, 9, 1)), ((858, 858), (0, 9, 1))], 10, 229, 0)
def kh_lasts_a39 : an_T := (39, 0, ([((2, 805, 805, 0), none), ((0, 0, 1, 1), none)], [(0, 0), (1, 1)], [], [], [], [], [], [], none), [])
def kh_lasts_a72 : an_T := (72, 0, ([((2, 805, 805, 0), none), ((0, 0, 1, 1), none), ((0, 0, 30, 1), none), ((0, 0, 999, 1), none)], [(0, 0), (1, 1)], [2, 3], [], [], [], [], [], none), [])
def kh_lasts_b0_0 : sg_T := (38, 0, ([((2, 805, 805, 0), none), ((0, 0, 1, 1), none), ((0, 0, 0, 0), none), ((2, 806, 806, 1), none), ((0, 1200, 1200, 0), none), ((0, 1, 2, 1), none), ((0, 1, 1, 0), none), ((0, 0, 1, 1), some (5, (-1))), ((0, 1, 1, 0), none), ((0, 1, 1, 0), none), ((0, 0, 0, 0), none), ((0, 1, 1, 0), none), ((0, 0, 0, 0), none)], [(0, 0), (1, 1)], [12], [(3, 4, 5)], [(11, 0)], [(600007, 5, 6), (800005, 3, 4)], [], [], none))
def kh_lasts_b0_1 : sg_T := (39, 0, ([((2, 805, 805, 0), none), ((0, 0, 1, 1), none), ((0, 0, 0, 0), none), ((2, 806, 806, 1), none), ((0, 1200, 1200, 0), none), ((0, 1, 2, 1), none), ((0, 1, 1, 0), none), ((0, 0, 1, 1), some (5, (-1))), ((0, 1, 1, 0), none), ((0, 1, 1, 0), none), ((0, 0, 0, 0), none), ((0, 0, 0, 0), none)], [(0, 0), (1, 1)], [], [(3, 4, 5)], [], [(600007, 5, 6), (800005, 3, 4)], [], [], none))
def kh_lasts_b0_2 : sg_T := (38, 0, ([((2, 805, 805, 0), none), ((0, 0, 1, 1), none), ((0, 0, 0, 0), none), ((2, 806, 806, 1), none), ((0, 1200, 1200, 0), none), ((0, 1, 2, 1), none), ((0, 1, 1, 0), none), ((0, 0, 1, 1), some (5, (-1))), ((0, 1, 1, 0), none), ((0, 1, 1, 0), none), ((0, 0, 0, 0), none), ((0, 2, 4, 1), none), ((0, 0, 0, 0), none)], [(0, 0), (1, 1)], [12], [(3, 4, 5)], [(11, 0)], [(600007, 5, 6), (800005, 3, 4)], [], [], none))
def kh_lasts_b0_3 : sg_T := (24, 0, ([((2, 805, 805, 0), none), ((0, (-2147483648), 2147483647, 1), none), ((0, 0, 0, 0), none), ((2, 806, 806, 1), none), ((0, 1200, 1200, 0), none), ((0, 1, 2, 1), none), ((0, 1, 1, 0), none), ((0, 0, 1, 1), some (5, (-1))), ((0, 0, 0, 0), none), ((0, 1, 1, 0), none), ((0, 1, 1, 0), none), ((0, 0, 0, 0), none)], [(0, 0), (1, 1)], [11], [(3, 4, 5)], [(10, 0)], [(600007, 5, 6), (800005, 3, 4)], [], [], none))
def kh_lasts_b39_0 : sg_T := (72, 0, ([((2, 805, 805, 0), none), ((0, 0, 1, 1), none), ((0, 1, 30, 1), none), ((2, 806, 806, 1), none), ((0, 1201, 1201, 0), none), ((0, 5, 5, 0), none), ((0, 0, 5, 5), none), ((0, 1201, 1206, 5), none), ((0, 2, 2, 0), none), ((0, 1203, 1208, 5), some (7, 2)), ((0, 0, 999, 1), none), ((0, 0, 30, 1), none)], [(0, 0), (1, 1)], [11, 10], [(3, 9, 10)], [(2, 0)], [(101800011, 1, 1), (800010, 3, 9), (500009, 7, 8), (500007, 4, 6), (700006, 5, 1), (101800002, 1, 1)], [], [], some []))
def kh_lasts_b39_1 : sg_T := (73, 0, ([((2, 805, 805, 0), none), ((0, 0, 1, 1), none), ((0, 0, 0, 1), none), ((0, 999, 999, 0), none)], [(0, 0), (1, 1)], [3], [], [], [(101800002, 1, 1)], [], [], some []))
def kh_lasts_b72_0 : sg_T := (73, 0, ([((2, 805, 805, 0), none), ((0, 0, 1, 1), none), ((0, 1, 30, 1), none), ((0, 0, 999, 1), none), ((0, 0, 999, 1), none)], [(0, 0), (1, 1)], [4], [], [], [(900004, 3, 2)], [], [], some []))
def kh_lasts_I (l : Launch) (D : va_G) (tc : Nat → ClassId) (ad : Nat → Nat) (kd : Nat → Nat × Nat) (N : Nat) (sm : Nat → Nat) (xs : List av_X) (S : fw_S) (p : Program) (e : Env) (s : State) (m : MethodId) (args : Array Value) (below : List Frame) (meth : Method) (c : Code) (sz : Nat) (k : Nat) : Prop := (∀ (α : List av_X) (lv : List (Nat × Value)) (st : List Value) (S1 : fw_S), as_in ad sm wd_fl2 xs S kh_lasts.2.2.2.2.2.1 α kh_lasts_a39.2.2.1 lv st S1 → (True) → 5 < k → hd_W wd_fl2 kh_lasts kh_lasts_y l D tc ad kd N sm xs S p e s m args below meth c sz 39 lv st S1 0) ∧ (∀ (α : List av_X) (lv : List (Nat × Value)) (st : List Value) (S1 : fw_S), as_in ad sm wd_fl2 xs S kh_lasts.2.2.2.2.2.1 α kh_lasts_a72.2.2.1 lv st S1 → (1 ≤ nv α 2) → 1 < k → hd_W wd_fl2 kh_lasts kh_lasts_y l D tc ad kd N sm xs S p e s m args below meth c sz 72 lv st S1 0) ∧ True
set_option maxHeartbeats 16000000 in
set_option maxRecDepth 8000 in
theorem kh_lasts_h39 {l : Launch} {D : va_G} {tc : Nat → ClassId} {ad : Nat → Nat} {kd : Nat → Nat × Nat} {N : Nat} {sm : Nat → Nat} {xs : List av_X} {S : fw_S} {p : Program} {e : Env} {s : State} {m : MethodId} {args : Array Value} {below : List Frame} {meth : Method} {c : Code} {sz : Nat} {lvE : List (Nat × Value)} (G : hd_C wd_ff2 wd_fl2 kh_lasts [kh_641, kh_588, kh_642, kh_421, kh_592, kh_hFuel] kh_lasts_y l D tc ad kd N sm xs p s m args meth c sz) (H0 : as_in ad sm wd_fl2 xs S kh_lasts.2.2.2.2.2.1 xs (hd_0 kh_lasts) lvE [] S) {k : Nat} (ih : kh_lasts_I l D tc ad kd N sm xs S p e s m args below meth c sz k) : (∀ (α : List av_X) (lv : List (Nat × Value)) (st : List Value) (S1 : fw_S), as_in ad sm wd_fl2 xs S kh_lasts.2.2.2.2.2.1 α kh_lasts_a39.2.2.1 lv st S1 → (True) → 5 < k + 1 → hd_W wd_fl2 kh_lasts kh_lasts_y l D tc ad kd N sm xs S p e s m args below meth c sz 39 lv st S1 0) := by
  have hx : xs.length = 2 := by rw [H0.2.1.1]; rfl
  intro α lv st S1 H hp hk
  obtain ⟨α1, hle, Hr⟩ := as_recM (pl := []) [] (by decide +kernel) H
  have hf := H.2.2.2.2.2.2.2.2.2.2.1
  have hl1 : α1.length = 2 := by rw [Hr.2.1.1]; rfl
  have hl0 : α.length = 2 := by rw [H.2.1.1]; rfl
  have hxa : al_le xs α1 := H.1.trans hle
  obtain ⟨g1, -, g3, g4, -⟩ := as_fx Hr
  have g0 : (805 ≤ nv α1 0 ∧ nv α1 0 ≤ 805) ∧ (0 ≤ nv α1 1 ∧ nv α1 1 ≤ 1) ∧ True := by
    refine ⟨by have h := (en_nv (i := 0) Hr.2.1 rfl).2; exact h, by have h := (en_nv (i := 1) Hr.2.1 rfl).2; exact h, trivial⟩
  have r0 : nv α1 0 = nv α 0 := nv_le hle (by omega)
  have r1 : nv α1 1 = nv α 1 := nv_le hle (by omega)
  refine hd_segM G (na := 2) (fuel := 600) (first := true) (Bs := [kh_lasts_b39_0, kh_lasts_b39_1]) (by decide +kernel) hl1 Hr ?_
  intro q hq β lv' st' S' H1
  simp only [List.mem_cons, List.not_mem_nil, or_false] at hq
  rcases hq with rfl | rfl
  · obtain ⟨f1, f2, f3, f4, f5⟩ := as_fx H1
    simp only [kh_lasts_b39_0, fx_env, fx_c, fx_ne, fx_hf, wl_S, Nat.zero_add, Nat.reduceAdd, Nat.reduceDiv, Nat.reduceMod, List.getElem?_cons_zero, List.getElem?_cons_succ, if_true, and_true, true_and] at f1 f2 f3 f4 f5
    have fe0 : nv β 0 = 805 := by omega
    have fe3 : nv β 3 = 806 := by omega
    have fe4 : nv β 4 = 1201 := by omega
    have fe5 : nv β 5 = 5 := by omega
    have fe8 : nv β 8 = 2 := by omega
    try simp only [fe0, fe3, fe4, fe5, fe8, Int.reduceToNat] at f2 f3 f4 f5
    have s0 : nv β 0 = nv α1 0 := nv_le H1.1 (by omega)
    have s1 : nv β 1 = nv α1 1 := nv_le H1.1 (by omega)
    obtain ⟨c0, c1, c2, c3, c4, c5⟩ := f2
    obtain ⟨α', Ha, hm⟩ := hd_gpM (q := kh_lasts_a72) (n := 0) (by decide +kernel) hx H1 (by decide +kernel) hxa hf
    have hfr := H1.2.2.2.2.2.2.2.2.2.2.1
    have m0 : nv α' 0 = nv β 0 := hm 0 0 rfl
    have m1 : nv α' 1 = nv β 1 := hm 1 1 rfl
    have m2 : nv α' 2 = nv β 11 := hm 2 11 rfl
    have m3 : nv α' 3 = nv β 10 := hm 3 10 rfl
    subst S'
    have d0 := fl2_b (by decide) c0
    simp only [wd_fl1, if_neg (show ¬ (wd_base 1018 = true) by decide)] at d0
    have d5 := fl2_b (by decide) c5
    simp only [wd_fl1, if_neg (show ¬ (wd_base 1018 = true) by decide)] at d5
    refine ih.2.1 _ _ _ _ Ha ?_ ?_
    · rw [m2]; omega
    · omega
  · obtain ⟨f1, f2, f3, f4, f5⟩ := as_fx H1
    simp only [kh_lasts_b39_1, fx_env, fx_c, fx_ne, fx_hf, wl_S, Nat.zero_add, Nat.reduceAdd, Nat.reduceDiv, Nat.reduceMod, List.getElem?_cons_zero, List.getElem?_cons_succ, if_true, and_true, true_and] at f1 f2 f3 f4 f5
    have fe0 : nv β 0 = 805 := by omega
    have fe2 : nv β 2 = 0 := by omega
    have fe3 : nv β 3 = 999 := by omega
    try simp only [fe0, fe2, fe3, Int.reduceToNat] at f2 f3 f4 f5
    have s0 : nv β 0 = nv α1 0 := nv_le H1.1 (by omega)
    have s1 : nv β 1 = nv α1 1 := nv_le H1.1 (by omega)
    have c0 := f2
    exact hd_run G (ss := []) (fuel := 20) (by decide +kernel) (as_backM H1 (by decide +kernel) hxa hf)
set_option maxHeartbeats 16000000 in
set_option maxRecDepth 8000 in
theorem kh_lasts_h72 {l : Launch} {D : va_G} {tc : Nat → ClassId} {ad : Nat → Nat} {kd : Nat → Nat × Nat} {N : Nat} {sm : Nat → Nat} {xs : List av_X} {S : fw_S} {p : Program} {e : Env} {s : State} {m : MethodId} {args : Array Value} {below : List Frame} {meth : Method} {c : Code} {sz : Nat} {lvE : List (Nat × Value)} (G : hd_C wd_ff2 wd_fl2 kh_lasts [kh_641, kh_588, kh_642, kh_421, kh_592, kh_hFuel] kh_lasts_y l D tc ad kd N sm xs p s m args meth c sz) (H0 : as_in ad sm wd_fl2 xs S kh_lasts.2.2.2.2.2.1 xs (hd_0 kh_lasts) lvE [] S) {k : Nat} (ih : kh_lasts_I l D tc ad kd N sm xs S p e s m args below meth c sz k) : (∀ (α : List av_X) (lv : List (Nat × Value)) (st : List Value) (S1 : fw_S), as_in ad sm wd_fl2 xs S kh_lasts.2.2.2.2.2.1 α kh_lasts_a72.2.2.1 lv st S1 → (1 ≤ nv α 2) → 1 < k + 1 → hd_W wd_fl2 kh_lasts kh_lasts_y l D tc ad kd N sm xs S p e s m args below meth c sz 72 lv st S1 0) := by
  have hx : xs.length = 2 := by rw [H0.2.1.1]; rfl
  intro α lv st S1 H hp hk
  have bp := (en_nv (i := 2) H.2.1 rfl).2
  change 0 ≤ nv α 2 ∧ nv α 2 ≤ 30 at bp
  replace H := as_clamp (i := 2) (lo := 1) (hi := 30) H rfl rfl (by exact hp) (by omega) (by decide)
  obtain ⟨α1, hle, Hr⟩ := as_recM (pl := []) [] (by decide +kernel) H
  have hf := H.2.2.2.2.2.2.2.2.2.2.1
  have hl1 : α1.length = 4 := by rw [Hr.2.1.1]; rfl
  have hl0 : α.length = 4 := by rw [H.2.1.1]; rfl
  have hxa : al_le xs α1 := H.1.trans hle
  obtain ⟨g1, -, g3, g4, -⟩ := as_fx Hr
  have g0 : (805 ≤ nv α1 0 ∧ nv α1 0 ≤ 805) ∧ (0 ≤ nv α1 1 ∧ nv α1 1 ≤ 1) ∧ (1 ≤ nv α1 2 ∧ nv α1 2 ≤ 30) ∧ (0 ≤ nv α1 3 ∧ nv α1 3 ≤ 999) ∧ True := by
    refine ⟨by have h := (en_nv (i := 0) Hr.2.1 rfl).2; exact h, by have h := (en_nv (i := 1) Hr.2.1 rfl).2; exact h, by have h := (en_nv (i := 2) Hr.2.1 rfl).2; exact h, by have h := (en_nv (i := 3) Hr.2.1 rfl).2; exact h, trivial⟩
  have r0 : nv α1 0 = nv α 0 := nv_le hle (by omega)
  have r1 : nv α1 1 = nv α 1 := nv_le hle (by omega)
  have r2 : nv α1 2 = nv α 2 := nv_le hle (by omega)
  have r3 : nv α1 3 = nv α 3 := nv_le hle (by omega)
  refine hd_segM G (na := 4) (fuel := 600) (first := true) (Bs := [kh_lasts_b72_0]) (by decide +kernel) hl1 Hr ?_
  intro q hq β lv' st' S' H1
  simp only [List.mem_cons, List.not_mem_nil, or_false] at hq
  rcases hq with rfl
  · obtain ⟨f1, f2, f3, f4, f5⟩ := as_fx H1
    simp only [kh_lasts_b72_0, fx_env, fx_c, fx_ne, fx_hf, wl_S, Nat.zero_add, Nat.reduceAdd, Nat.reduceDiv, Nat.reduceMod, List.getElem?_cons_zero, List.getElem?_cons_succ, if_true, and_true, true_and] at f1 f2 f3 f4 f5
    have fe0 : nv β 0 = 805 := by omega
    try simp only [fe0, Int.reduceToNat] at f2 f3 f4 f5
    have s0 : nv β 0 = nv α1 0 := nv_le H1.1 (by omega)
    have s1 : nv β 1 = nv α1 1 := nv_le H1.1 (by omega)
    have s2 : nv β 2 = nv α1 2 := nv_le H1.1 (by omega)
    have s3 : nv β 3 = nv α1 3 := nv_le H1.1 (by omega)
    have c0 := f2
    exact hd_run G (ss := []) (fuel := 20) (by decide +kernel) (as_backM H1 (by decide +kernel) hxa hf)
set_option maxHeartbeats 16000000 in
set_option maxRecDepth 8000 in
theorem kh_lasts_ok : ct_ok wd_fl2 kh_lasts := ct_hand (ff := wd_ff2) (y := kh_lasts_y) (Cs := [kh_641, kh_588, kh_642, kh_421, kh_592, kh_hFuel]) wd_fl2_ok rfl (List.forall_mem_cons.mpr ⟨kh_641_ok, (List.forall_mem_cons.mpr ⟨kh_588_ok, (List.forall_mem_cons.mpr ⟨kh_642_ok, (List.forall_mem_cons.mpr ⟨kh_421_l2, (List.forall_mem_cons.mpr ⟨kh_592_ok, (List.forall_mem_cons.mpr ⟨kh_hFuel_l2, (List.forall_mem_nil _)⟩)⟩)⟩)⟩)⟩)⟩) (by decide +kernel) (fun l D tc ad kd N sm xs S p e s m args below meth c sz lv G H0 => by
  have hx : xs.length = 2 := by rw [H0.2.1.1]; rfl
  have hP : ∀ (k : Nat), kh_lasts_I l D tc ad kd N sm xs S p e s m args below meth c sz k := by
    intro k
    induction k with
    | zero => exact ⟨fun _ _ _ _ _ _ h => absurd h (Nat.not_lt_zero _), fun _ _ _ _ _ _ h => absurd h (Nat.not_lt_zero _), trivial⟩
    | succ k ih => exact ⟨kh_lasts_h39 G H0 ih, kh_lasts_h72 G H0 ih, trivial⟩
  obtain ⟨α1, hle, Hr⟩ := as_recM (pl := []) [((805, 805), (8, 8, 0)), ((805, 805), (21, 62, 1)), ((815, 815), (0, 16, 1)), ((816, 816), (0, 16, 1)), ((817, 817), (0, 11, 1)), ((818, 818), (0, 3, 1)), ((819, 819), (0, 11, 1)), ((820, 820), (0, 16, 1)), ((821, 821), (0, 2, 1)), ((822, 822), (0, 1, 1)), ((823, 823), (0, 9, 1)), ((824, 824), (0, 9, 1)), ((825, 825), (0, 11, 1)), ((827, 827), (0, 2, 1)), ((827, 827), (3, 6, 1)), ((828, 828), (0, 2, 1)), ((828, 828), (3, 6, 1)), ((829, 829), (0, 6, 1)), ((830, 830), (0, 6, 1)), ((831, 831), (0, 11, 1)), ((832, 832), (0, 11, 1)), ((833, 833), (0, 11, 1)), ((834, 834), (0, 11, 1)), ((835, 835), (0, 11, 1)), ((836, 836), (0, 11, 1)), ((837, 837), (0, 11, 1)), ((838, 838), (0, 11, 1)), ((839, 839), (0, 33, 1)), ((840, 840), (0, 11, 1)), ((841, 841), (0, 10, 1)), ((843, 843), (0, 1, 1)), ((844, 844), (0, 9, 1)), ((845, 845), (0, 11, 1)), ((846, 846), (0, 1, 1)), ((847, 847), (0, 1, 1)), ((848, 848), (0, 33, 1)), ((849, 849), (0, 16, 1)), ((850, 850), (0, 11, 1)), ((851, 851), (0, 11, 1)), ((852, 852), (0, 11, 1)), ((854, 854), (0, 11, 1)), ((855, 855), (0, 23, 1)), ((856, 856), (0, 287, 1)), ((857, 857), (0, 9, 1)), ((858, 858), (0, 9, 1))] (by decide +kernel) H0
  have hf := H0.2.2.2.2.2.2.2.2.2.2.1
  have hl1 : α1.length = 2 := by rw [Hr.2.1.1]; rfl
  have hl0 : xs.length = 2 := by rw [H0.2.1.1]; rfl
  have hxa : al_le xs α1 := H0.1.trans hle
  obtain ⟨g1, -, g3, g4, -⟩ := as_fx Hr
  have g0 : (805 ≤ nv α1 0 ∧ nv α1 0 ≤ 805) ∧ ((-2147483648) ≤ nv α1 1 ∧ nv α1 1 ≤ 2147483647) ∧ True := by
    refine ⟨by have h := (en_nv (i := 0) Hr.2.1 rfl).2; exact h, by have h := (en_nv (i := 1) Hr.2.1 rfl).2; exact h, trivial⟩
  have r0 : nv α1 0 = nv xs 0 := nv_le hle (by omega)
  have r1 : nv α1 1 = nv xs 1 := nv_le hle (by omega)
  refine hd_segM G (na := 2) (fuel := 600) (first := true) (Bs := [kh_lasts_b0_0, kh_lasts_b0_1, kh_lasts_b0_2, kh_lasts_b0_3]) (by decide +kernel) hl1 Hr ?_
  intro q hq β lv' st' S' H1
  simp only [List.mem_cons, List.not_mem_nil, or_false] at hq
  rcases hq with rfl | rfl | rfl | rfl
  · obtain ⟨f1, f2, f3, f4, f5⟩ := as_fx H1
    simp only [kh_lasts_b0_0, fx_env, fx_c, fx_ne, fx_hf, wl_S, Nat.zero_add, Nat.reduceAdd, Nat.reduceDiv, Nat.reduceMod, List.getElem?_cons_zero, List.getElem?_cons_succ, if_true, and_true, true_and] at f1 f2 f3 f4 f5
    have fe0 : nv β 0 = 805 := by omega
    have fe2 : nv β 2 = 0 := by omega
    have fe3 : nv β 3 = 806 := by omega
    have fe4 : nv β 4 = 1200 := by omega
    have fe6 : nv β 6 = 1 := by omega
    have fe8 : nv β 8 = 1 := by omega
    have fe9 : nv β 9 = 1 := by omega
    have fe10 : nv β 10 = 0 := by omega
    have fe11 : nv β 11 = 1 := by omega
    have fe12 : nv β 12 = 0 := by omega
    try simp only [fe0, fe2, fe3, fe4, fe6, fe8, fe9, fe10, fe11, fe12, Int.reduceToNat] at f2 f3 f4 f5
    have s0 : nv β 0 = nv α1 0 := nv_le H1.1 (by omega)
    have s1 : nv β 1 = nv α1 1 := nv_le H1.1 (by omega)
    obtain ⟨c0, c1⟩ := f2
    exact hd_run G (ss := []) (fuel := 20) (by decide +kernel) (as_backM H1 (by decide +kernel) hxa hf)
  · obtain ⟨f1, f2, f3, f4, f5⟩ := as_fx H1
    simp only [kh_lasts_b0_1, fx_env, fx_c, fx_ne, fx_hf, wl_S, Nat.zero_add, Nat.reduceAdd, Nat.reduceDiv, Nat.reduceMod, List.getElem?_cons_zero, List.getElem?_cons_succ, if_true, and_true, true_and] at f1 f2 f3 f4 f5
    have fe0 : nv β 0 = 805 := by omega
    have fe2 : nv β 2 = 0 := by omega
    have fe3 : nv β 3 = 806 := by omega
    have fe4 : nv β 4 = 1200 := by omega
    have fe6 : nv β 6 = 1 := by omega
    have fe8 : nv β 8 = 1 := by omega
    have fe9 : nv β 9 = 1 := by omega
    have fe10 : nv β 10 = 0 := by omega
    have fe11 : nv β 11 = 0 := by omega
    try simp only [fe0, fe2, fe3, fe4, fe6, fe8, fe9, fe10, fe11, Int.reduceToNat] at f2 f3 f4 f5
    have s0 : nv β 0 = nv α1 0 := nv_le H1.1 (by omega)
    have s1 : nv β 1 = nv α1 1 := nv_le H1.1 (by omega)
    obtain ⟨c0, c1⟩ := f2
    obtain ⟨α', Ha, hm⟩ := hd_gpM (q := kh_lasts_a39) (n := 0) (by decide +kernel) hx H1 (by decide +kernel) hxa hf
    have hfr := H1.2.2.2.2.2.2.2.2.2.2.1
    have m0 : nv α' 0 = nv β 0 := hm 0 0 rfl
    have m1 : nv α' 1 = nv β 1 := hm 1 1 rfl
    refine (hP _).1 _ _ _ _ Ha ?_ (Nat.lt_succ_self _)
    · trivial
  · obtain ⟨f1, f2, f3, f4, f5⟩ := as_fx H1
    simp only [kh_lasts_b0_2, fx_env, fx_c, fx_ne, fx_hf, wl_S, Nat.zero_add, Nat.reduceAdd, Nat.reduceDiv, Nat.reduceMod, List.getElem?_cons_zero, List.getElem?_cons_succ, if_true, and_true, true_and] at f1 f2 f3 f4 f5
    have fe0 : nv β 0 = 805 := by omega
    have fe2 : nv β 2 = 0 := by omega
    have fe3 : nv β 3 = 806 := by omega
    have fe4 : nv β 4 = 1200 := by omega
    have fe6 : nv β 6 = 1 := by omega
    have fe8 : nv β 8 = 1 := by omega
    have fe9 : nv β 9 = 1 := by omega
    have fe10 : nv β 10 = 0 := by omega
    have fe12 : nv β 12 = 0 := by omega
    try simp only [fe0, fe2, fe3, fe4, fe6, fe8, fe9, fe10, fe12, Int.reduceToNat] at f2 f3 f4 f5
    have s0 : nv β 0 = nv α1 0 := nv_le H1.1 (by omega)
    have s1 : nv β 1 = nv α1 1 := nv_le H1.1 (by omega)
    obtain ⟨c0, c1⟩ := f2
    exact hd_run G (ss := []) (fuel := 20) (by decide +kernel) (as_backM H1 (by decide +kernel) hxa hf)
  · obtain ⟨f1, f2, f3, f4, f5⟩ := as_fx H1
    simp only [kh_lasts_b0_3, fx_env, fx_c, fx_ne, fx_hf, wl_S, Nat.zero_add, Nat.reduceAdd, Nat.reduceDiv, Nat.reduceMod, List.getElem?_cons_zero, List.getElem?_cons_succ, if_true, and_true, true_and] at f1 f2 f3 f4 f5
    have fe0 : nv β 0 = 805 := by omega
    have fe2 : nv β 2 = 0 := by omega
    have fe3 : nv β 3 = 806 := by omega
    have fe4 : nv β 4 = 1200 := by omega
    have fe6 : nv β 6 = 1 := by omega
    have fe8 : nv β 8 = 0 := by omega
    have fe9 : nv β 9 = 1 := by omega
    have fe10 : nv β 10 = 1 := by omega
    have fe11 : nv β 11 = 0 := by omega
    try simp only [fe0, fe2, fe3, fe4, fe6, fe8, fe9, fe10, fe11, Int.reduceToNat] at f2 f3 f4 f5
    have s0 : nv β 0 = nv α1 0 := nv_le H1.1 (by omega)
    have s1 : nv β 1 = nv α1 1 := nv_le H1.1 (by omega)
    obtain ⟨c0, c1⟩ := f2
    exact hd_run G (ss := []) (fuel := 20) (by decide +kernel) (as_backM H1 (by decide +kernel) hxa hf))
/- UtilityWorksModel in -/
def kh_643 : ct_T := (353, [(0, (-2147483648), 2147483647, 1), (0, 1, 1, 0), (0, 999, 999, 0)], [], [], [(1, (0, 1, 1, 0), [(0, 1, 999, 1), (0, 1, 1, 0), (0, 999, 999, 0)], [], ([], [])), (1, (0, 0, 0, 0), [(0, (-2147483648), 2147483647, 1), (0, 1, 1, 0), (0, 999, 999, 0)], [], ([], []))], [], 0, 0, 0)
theorem kh_643_ok : ct_ok wd_fl2 kh_643 := ct_of (ff := wd_ff2) (y := (⟨"UtilityWorksModel", "in", "(III)Z"⟩, prog_14_method_5_code, 3, some .boolean, 12, 0, 3, 32192, 32191, 0, 21014)) (Cs := []) (an := [(14, 0, ([((0, (-2147483648), 2147483647, 1), none), ((0, 1, 1, 0), none), ((0, 999, 999, 0), none)], [(0, 0), (1, 1), (2, 2)], [], [], [], [], [], [], none), [(0, 0, 99986)])]) (ss := []) (K := 1) (fuel := 4000) wd_fl2_ok rfl (List.forall_mem_nil _) (by decide +kernel)
/- UtilityWorksModel stock -/
def kh_644 : ct_T := (421, [(2, 805, 805, 0), (0, 3, 3, 0)], [], [], [(1, (0, (-2147483648), 2147483647, 1), [(2, 805, 805, 0), (0, 3, 3, 0)], [], ([], []))], [], 0, 0, 0)
theorem kh_644_ok : ct_ok wd_fl2 kh_644 := ct_of (ff := wd_ff2) (y := (⟨"UtilityWorksModel", "stock", "(I)I"⟩, prog_14_method_272_code, 2, some .int, 12, 1, 1, 33218, 33217, 8009, 21014)) (Cs := []) (an := []) (ss := []) (K := 1) (fuel := 4000) wd_fl2_ok rfl (List.forall_mem_nil _) (by decide +kernel)
abbrev kh_coal_y : mt_T := (⟨"UtilityWorksModel", "coal", "(II)I"⟩, prog_14_method_179_code, 3, some .int, 12, 1, 2, 37012, 37010, 37011, 21014)
def kh_coal : ct_T := (608, [(2, 805, 805, 0), (0, (-2147483648), 2147483647, 1), (0, (-2147483648), 2147483647, 1)], [], [513], [(1, (0, 0, 999, 1), [(2, 805, 805, 0), (0, (-2147483648), 2147483647, 1), (0, (-2147483648), 2147483647, 1)], [], ([513], []))], [((805, 805), (8, 8, 0)), ((806, 806), (1203, 1208, 5)), ((806, 806), (4060, 4063, 1)), ((806, 806), (4068, 4071, 1))], 1, 22, 0)
def kh_coal_a41 : an_T := (41, 0, ([((2, 805, 805, 0), none), ((0, 0, 1, 1), none), ((0, 1, 999, 1), none)], [(0, 0), (1, 1), (2, 2)], [], [], [], [], [], [513], none), [])
def kh_coal_a87 : an_T := (87, 0, ([((2, 805, 805, 0), none), ((0, 0, 1, 1), none), ((0, 1, 999, 1), none)], [(0, 0), (1, 1), (2, 2)], [], [], [], [], [], [513], none), [])
def kh_coal_a93 : an_T := (93, 0, ([((2, 805, 805, 0), none), ((0, 0, 1, 1), none), ((0, 1, 999, 1), none)], [(0, 0), (1, 1), (2, 2)], [], [], [], [], [], [513], none), [])
def kh_coal_a110 : an_T := (110, 0, ([((2, 805, 805, 0), none), ((0, 0, 1, 1), none), ((0, 1, 999, 1), none), ((0, 1, 1998, 1), none), ((0, 1203, 1208, 5), none), ((2, 806, 806, 1), none)], [(0, 0), (1, 1), (2, 2)], [3, 4, 5], [], [], [], [], [513], none), [])
def kh_coal_b0_0 : sg_T := (41, 0, ([((2, 805, 805, 0), none), ((0, 0, 1, 1), none), ((0, 1, 999, 1), none), ((0, 0, 0, 0), none), ((2, 806, 806, 1), none), ((0, 1200, 1200, 0), none), ((0, 1, 2, 1), none), ((0, 1, 1, 0), none), ((0, 0, 1, 1), some (6, (-1))), ((0, 1, 1, 0), none), ((0, 1, 1, 0), none), ((0, 0, 0, 0), none), ((0, 1, 1, 0), none), ((0, 999, 999, 0), none), ((0, 1, 1, 0), none), ((0, 2, 2, 0), none), ((0, 0, 0, 0), none)], [(0, 0), (1, 1), (2, 2)], [], [(4, 5, 6)], [], [(600008, 6, 7), (800006, 4, 5)], [], [513], none))
def kh_coal_b0_1 : sg_T := (40, 0, ([((2, 805, 805, 0), none), ((0, 0, 1, 1), none), ((0, (-2147483648), 2147483647, 1), none), ((0, 0, 0, 0), none), ((2, 806, 806, 1), none), ((0, 1200, 1200, 0), none), ((0, 1, 2, 1), none), ((0, 1, 1, 0), none), ((0, 0, 1, 1), some (6, (-1))), ((0, 1, 1, 0), none), ((0, 1, 1, 0), none), ((0, 0, 0, 0), none), ((0, 1, 1, 0), none), ((0, 999, 999, 0), none), ((0, 0, 0, 0), none), ((0, 2, 2, 0), none), ((0, 1, 1, 0), none), ((0, 0, 0, 0), none)], [(0, 0), (1, 1), (2, 2)], [17], [(4, 5, 6)], [(16, 0)], [(600008, 6, 7), (800006, 4, 5)], [], [513], none))
def kh_coal_b0_2 : sg_T := (40, 0, ([((2, 805, 805, 0), none), ((0, (-2147483648), 2147483647, 1), none), ((0, (-2147483648), 2147483647, 1), none), ((0, 0, 0, 0), none), ((2, 806, 806, 1), none), ((0, 1200, 1200, 0), none), ((0, 1, 2, 1), none), ((0, 1, 1, 0), none), ((0, 0, 1, 1), some (6, (-1))), ((0, 0, 0, 0), none), ((0, 1, 1, 0), none), ((0, 1, 1, 0), none), ((0, 0, 0, 0), none)], [(0, 0), (1, 1), (2, 2)], [12], [(4, 5, 6)], [(11, 0)], [(600008, 6, 7), (800006, 4, 5)], [], [513], none))
def kh_coal_b41_0 : sg_T := (86, 0, ([((2, 805, 805, 0), none), ((0, 0, 1, 1), none), ((0, 1, 999, 1), none), ((2, 806, 806, 1), none), ((0, 1201, 1201, 0), none), ((0, 5, 5, 0), none), ((0, 0, 5, 5), none), ((0, 1201, 1206, 5), none), ((0, 2, 2, 0), none), ((0, 1203, 1208, 5), some (7, 2)), ((0, 0, 999, 1), none), ((0, 1000, 1998, 1), none), ((0, 999, 999, 0), none), ((0, 0, 0, 0), none), ((0, 3, 3, 0), none), ((0, 1, 1, 0), none), ((0, 0, 0, 0), none)], [(0, 0), (1, 1), (2, 2)], [16], [(3, 9, 10)], [(15, 0)], [(100000, 12, 11), (500011, 10, 2), (800010, 3, 9), (500009, 7, 8), (500007, 4, 6), (700006, 5, 1)], [], [513], none))
def kh_coal_b41_1 : sg_T := (86, 0, ([((2, 805, 805, 0), none), ((0, 0, 1, 1), none), ((0, 1, 999, 1), none), ((2, 806, 806, 1), none), ((0, 1201, 1201, 0), none), ((0, 5, 5, 0), none), ((0, 0, 5, 5), none), ((0, 1201, 1206, 5), none), ((0, 2, 2, 0), none), ((0, 1203, 1208, 5), some (7, 2)), ((0, 0, 999, 1), none), ((0, 1, 999, 1), none), ((0, 999, 999, 0), none), ((0, 3, 3, 0), none), ((0, (-2147483648), 998, 1), none), ((0, 0, 0, 0), none), ((0, 3, 3, 0), none), ((0, 1, 1, 0), none), ((0, 0, 0, 0), none)], [(0, 0), (1, 1), (2, 2)], [18], [(3, 9, 10)], [(17, 0)], [(100000, 14, 2), (200000, 11, 12), (500011, 10, 2), (800010, 3, 9), (500009, 7, 8), (500007, 4, 6), (700006, 5, 1)], [], [513], none))
def kh_coal_b41_2 : sg_T := (87, 0, ([((2, 805, 805, 0), none), ((0, 0, 1, 1), none), ((0, 1, 999, 1), none), ((2, 806, 806, 1), none), ((0, 1201, 1201, 0), none), ((0, 5, 5, 0), none), ((0, 0, 5, 5), none), ((0, 1201, 1206, 5), none), ((0, 2, 2, 0), none), ((0, 1203, 1208, 5), some (7, 2)), ((0, 0, 999, 1), none), ((0, 1, 999, 1), none), ((0, 999, 999, 0), none), ((0, 3, 3, 0), none), ((0, 1, 2147483647, 1), none), ((0, 1, 1, 0), none), ((0, 3, 3, 0), none), ((0, 0, 0, 0), none)], [(0, 0), (1, 1), (2, 2)], [], [(3, 9, 10)], [], [(200000, 2, 14), (200000, 11, 12), (500011, 10, 2), (800010, 3, 9), (500009, 7, 8), (500007, 4, 6), (700006, 5, 1)], [], [513], none))
def kh_coal_b87_0 : sg_T := (93, 0, ([((2, 805, 805, 0), none), ((0, 0, 1, 1), none), ((0, 1, 999, 1), none), ((0, 3, 3, 0), none)], [(0, 0), (1, 1), (2, 2)], [], [], [], [], [], [513], none))
def kh_coal_b93_0 : sg_T := (110, 0, ([((2, 805, 805, 0), none), ((0, 0, 1, 1), none), ((0, 1, 999, 1), none), ((2, 806, 806, 1), none), ((0, 1201, 1201, 0), none), ((0, 5, 5, 0), none), ((0, 0, 5, 5), none), ((0, 1201, 1206, 5), none), ((0, 2, 2, 0), none), ((0, 1203, 1208, 5), some (7, 2)), ((0, 0, 999, 1), none), ((0, 1, 1998, 1), none)], [(0, 0), (1, 1), (2, 2)], [11, 9, 3], [(3, 9, 10)], [], [(500011, 10, 2), (800010, 3, 9), (500009, 7, 8), (500007, 4, 6), (700006, 5, 1)], [], [513], some []))
def kh_coal_b110_0 : sg_T := (125, 0, ([((2, 805, 805, 0), none), ((0, 0, 1, 1), none), ((0, 1, 999, 1), none), ((0, 0, 999, 1), none), ((0, 1203, 1208, 5), none), ((2, 806, 806, 1), none), ((2, 806, 806, 1), none), ((0, 1201, 1201, 0), none), ((0, 5, 5, 0), none), ((0, 0, 5, 5), none), ((0, 1201, 1206, 5), none), ((0, 2, 2, 0), none), ((0, 1203, 1208, 5), some (10, 2)), ((0, 0, 999, 1), none)], [(0, 0), (1, 1), (2, 2)], [13], [(6, 12, 13), (5, 4, 3)], [], [(500012, 10, 11), (500010, 7, 9), (700009, 8, 1)], [], [513], some [(5, 4, 3)]))
def kh_coal_I (l : Launch) (D : va_G) (tc : Nat → ClassId) (ad : Nat → Nat) (kd : Nat → Nat × Nat) (N : Nat) (sm : Nat → Nat) (xs : List av_X) (S : fw_S) (p : Program) (e : Env) (s : State) (m : MethodId) (args : Array Value) (below : List Frame) (meth : Method) (c : Code) (sz : Nat) (k : Nat) : Prop := (∀ (α : List av_X) (lv : List (Nat × Value)) (st : List Value) (S1 : fw_S), as_in ad sm wd_fl2 xs S kh_coal.2.2.2.2.2.1 α kh_coal_a41.2.2.1 lv st S1 → (True) → 9 < k → hd_W wd_fl2 kh_coal kh_coal_y l D tc ad kd N sm xs S p e s m args below meth c sz 41 lv st S1 0) ∧ (∀ (α : List av_X) (lv : List (Nat × Value)) (st : List Value) (S1 : fw_S), as_in ad sm wd_fl2 xs S kh_coal.2.2.2.2.2.1 α kh_coal_a87.2.2.1 lv st S1 → ((S1.1 806 (1203 + 5 * nv xs 1).toNat).toInt + nv xs 2 ≤ 999 ∧ 1 ≤ nv xs 2) → 7 < k → hd_W wd_fl2 kh_coal kh_coal_y l D tc ad kd N sm xs S p e s m args below meth c sz 87 lv st S1 0) ∧ (∀ (α : List av_X) (lv : List (Nat × Value)) (st : List Value) (S1 : fw_S), as_in ad sm wd_fl2 xs S kh_coal.2.2.2.2.2.1 α kh_coal_a93.2.2.1 lv st S1 → ((S1.1 806 (1203 + 5 * nv xs 1).toNat).toInt + nv xs 2 ≤ 999 ∧ 1 ≤ nv xs 2) → 5 < k → hd_W wd_fl2 kh_coal kh_coal_y l D tc ad kd N sm xs S p e s m args below meth c sz 93 lv st S1 0) ∧ (∀ (α : List av_X) (lv : List (Nat × Value)) (st : List Value) (S1 : fw_S), as_in ad sm wd_fl2 xs S kh_coal.2.2.2.2.2.1 α kh_coal_a110.2.2.1 lv st S1 → (0 ≤ nv α 3 ∧ nv α 3 ≤ 999) → 1 < k → hd_W wd_fl2 kh_coal kh_coal_y l D tc ad kd N sm xs S p e s m args below meth c sz 110 lv st S1 0) ∧ True
set_option maxHeartbeats 16000000 in
set_option maxRecDepth 8000 in
theorem kh_coal_h41 {l : Launch} {D : va_G} {tc : Nat → ClassId} {ad : Nat → Nat} {kd : Nat → Nat × Nat} {N : Nat} {sm : Nat → Nat} {xs : List av_X} {S : fw_S} {p : Program} {e : Env} {s : State} {m : MethodId} {args : Array Value} {below : List Frame} {meth : Method} {c : Code} {sz : Nat} {lvE : List (Nat × Value)} (G : hd_C wd_ff2 wd_fl2 kh_coal [kh_641, kh_588, kh_643, kh_590, kh_591, kh_592, kh_639, kh_644, kh_640, kh_takes] kh_coal_y l D tc ad kd N sm xs p s m args meth c sz) (H0 : as_in ad sm wd_fl2 xs S kh_coal.2.2.2.2.2.1 xs (hd_0 kh_coal) lvE [] S) {k : Nat} (ih : kh_coal_I l D tc ad kd N sm xs S p e s m args below meth c sz k) : (∀ (α : List av_X) (lv : List (Nat × Value)) (st : List Value) (S1 : fw_S), as_in ad sm wd_fl2 xs S kh_coal.2.2.2.2.2.1 α kh_coal_a41.2.2.1 lv st S1 → (True) → 9 < k + 1 → hd_W wd_fl2 kh_coal kh_coal_y l D tc ad kd N sm xs S p e s m args below meth c sz 41 lv st S1 0) := by
  have hx : xs.length = 3 := by rw [H0.2.1.1]; rfl
  intro α lv st S1 H hp hk
  obtain ⟨α1, hle, Hr⟩ := as_recM (pl := []) [((805, 805), (8, 8, 0))] (by decide +kernel) H
  have hf := H.2.2.2.2.2.2.2.2.2.2.1
  have hl1 : α1.length = 3 := by rw [Hr.2.1.1]; rfl
  have hl0 : α.length = 3 := by rw [H.2.1.1]; rfl
  have hxa : al_le xs α1 := H.1.trans hle
  obtain ⟨g1, -, g3, g4, -⟩ := as_fx Hr
  have g0 : (805 ≤ nv α1 0 ∧ nv α1 0 ≤ 805) ∧ (0 ≤ nv α1 1 ∧ nv α1 1 ≤ 1) ∧ (1 ≤ nv α1 2 ∧ nv α1 2 ≤ 999) ∧ True := by
    refine ⟨by have h := (en_nv (i := 0) Hr.2.1 rfl).2; exact h, by have h := (en_nv (i := 1) Hr.2.1 rfl).2; exact h, by have h := (en_nv (i := 2) Hr.2.1 rfl).2; exact h, trivial⟩
  have r0 : nv α1 0 = nv α 0 := nv_le hle (by omega)
  have r1 : nv α1 1 = nv α 1 := nv_le hle (by omega)
  have r2 : nv α1 2 = nv α 2 := nv_le hle (by omega)
  refine hd_segM G (na := 3) (fuel := 600) (first := true) (Bs := [kh_coal_b41_0, kh_coal_b41_1, kh_coal_b41_2]) (by decide +kernel) hl1 Hr ?_
  intro q hq β lv' st' S' H1
  simp only [List.mem_cons, List.not_mem_nil, or_false] at hq
  rcases hq with rfl | rfl | rfl
  · obtain ⟨f1, f2, f3, f4, f5⟩ := as_fx H1
    simp only [kh_coal_b41_0, fx_env, fx_c, fx_ne, fx_hf, wl_S, Nat.zero_add, Nat.reduceAdd, Nat.reduceDiv, Nat.reduceMod, List.getElem?_cons_zero, List.getElem?_cons_succ, if_true, and_true, true_and] at f1 f2 f3 f4 f5
    have fe0 : nv β 0 = 805 := by omega
    have fe3 : nv β 3 = 806 := by omega
    have fe4 : nv β 4 = 1201 := by omega
    have fe5 : nv β 5 = 5 := by omega
    have fe8 : nv β 8 = 2 := by omega
    have fe12 : nv β 12 = 999 := by omega
    have fe13 : nv β 13 = 0 := by omega
    have fe14 : nv β 14 = 3 := by omega
    have fe15 : nv β 15 = 1 := by omega
    have fe16 : nv β 16 = 0 := by omega
    try simp only [fe0, fe3, fe4, fe5, fe8, fe12, fe13, fe14, fe15, fe16, Int.reduceToNat] at f2 f3 f4 f5
    have s0 : nv β 0 = nv α1 0 := nv_le H1.1 (by omega)
    have s1 : nv β 1 = nv α1 1 := nv_le H1.1 (by omega)
    have s2 : nv β 2 = nv α1 2 := nv_le H1.1 (by omega)
    obtain ⟨c0, c1, c2, c3, c4, c5⟩ := f2
    exact hd_run G (ss := []) (fuel := 20) (by decide +kernel) (as_backM H1 (by decide +kernel) hxa hf)
  · obtain ⟨f1, f2, f3, f4, f5⟩ := as_fx H1
    simp only [kh_coal_b41_1, fx_env, fx_c, fx_ne, fx_hf, wl_S, Nat.zero_add, Nat.reduceAdd, Nat.reduceDiv, Nat.reduceMod, List.getElem?_cons_zero, List.getElem?_cons_succ, if_true, and_true, true_and] at f1 f2 f3 f4 f5
    have fe0 : nv β 0 = 805 := by omega
    have fe3 : nv β 3 = 806 := by omega
    have fe4 : nv β 4 = 1201 := by omega
    have fe5 : nv β 5 = 5 := by omega
    have fe8 : nv β 8 = 2 := by omega
    have fe12 : nv β 12 = 999 := by omega
    have fe13 : nv β 13 = 3 := by omega
    have fe15 : nv β 15 = 0 := by omega
    have fe16 : nv β 16 = 3 := by omega
    have fe17 : nv β 17 = 1 := by omega
    have fe18 : nv β 18 = 0 := by omega
    try simp only [fe0, fe3, fe4, fe5, fe8, fe12, fe13, fe15, fe16, fe17, fe18, Int.reduceToNat] at f2 f3 f4 f5
    have s0 : nv β 0 = nv α1 0 := nv_le H1.1 (by omega)
    have s1 : nv β 1 = nv α1 1 := nv_le H1.1 (by omega)
    have s2 : nv β 2 = nv α1 2 := nv_le H1.1 (by omega)
    obtain ⟨c0, c1, c2, c3, c4, c5, c6⟩ := f2
    exact hd_run G (ss := []) (fuel := 20) (by decide +kernel) (as_backM H1 (by decide +kernel) hxa hf)
  · obtain ⟨f1, f2, f3, f4, f5⟩ := as_fx H1
    simp only [kh_coal_b41_2, fx_env, fx_c, fx_ne, fx_hf, wl_S, Nat.zero_add, Nat.reduceAdd, Nat.reduceDiv, Nat.reduceMod, List.getElem?_cons_zero, List.getElem?_cons_succ, if_true, and_true, true_and] at f1 f2 f3 f4 f5
    have fe0 : nv β 0 = 805 := by omega
    have fe3 : nv β 3 = 806 := by omega
    have fe4 : nv β 4 = 1201 := by omega
    have fe5 : nv β 5 = 5 := by omega
    have fe8 : nv β 8 = 2 := by omega
    have fe12 : nv β 12 = 999 := by omega
    have fe13 : nv β 13 = 3 := by omega
    have fe15 : nv β 15 = 1 := by omega
    have fe16 : nv β 16 = 3 := by omega
    have fe17 : nv β 17 = 0 := by omega
    try simp only [fe0, fe3, fe4, fe5, fe8, fe12, fe13, fe15, fe16, fe17, Int.reduceToNat] at f2 f3 f4 f5
    have s0 : nv β 0 = nv α1 0 := nv_le H1.1 (by omega)
    have s1 : nv β 1 = nv α1 1 := nv_le H1.1 (by omega)
    have s2 : nv β 2 = nv α1 2 := nv_le H1.1 (by omega)
    obtain ⟨c0, c1, c2, c3, c4, c5, c6⟩ := f2
    obtain ⟨α', Ha, hm⟩ := hd_gpM (q := kh_coal_a87) (n := 0) (by decide +kernel) hx H1 (by decide +kernel) hxa hf
    have hfr := H1.2.2.2.2.2.2.2.2.2.2.1
    have m0 : nv α' 0 = nv β 0 := hm 0 0 rfl
    have m1 : nv α' 1 = nv β 1 := hm 1 1 rfl
    have m2 : nv α' 2 = nv β 2 := hm 2 2 rfl
    have z1 : nv α 1 = nv xs 1 := nv_le H.1 (by omega)
    have z2 : nv α 2 = nv xs 2 := nv_le H.1 (by omega)
    have o3 := old_0 c3 rfl
    refine ih.2.1 _ _ _ _ Ha ?_ ?_
    · rw [fr_row hfr 806 (by decide +kernel), show (1203 + 5 * nv xs 1) = nv β 9 by omega, o3]
      exact ⟨by omega, by omega⟩
    · omega
set_option maxHeartbeats 16000000 in
set_option maxRecDepth 8000 in
theorem kh_coal_h87 {l : Launch} {D : va_G} {tc : Nat → ClassId} {ad : Nat → Nat} {kd : Nat → Nat × Nat} {N : Nat} {sm : Nat → Nat} {xs : List av_X} {S : fw_S} {p : Program} {e : Env} {s : State} {m : MethodId} {args : Array Value} {below : List Frame} {meth : Method} {c : Code} {sz : Nat} {lvE : List (Nat × Value)} (G : hd_C wd_ff2 wd_fl2 kh_coal [kh_641, kh_588, kh_643, kh_590, kh_591, kh_592, kh_639, kh_644, kh_640, kh_takes] kh_coal_y l D tc ad kd N sm xs p s m args meth c sz) (H0 : as_in ad sm wd_fl2 xs S kh_coal.2.2.2.2.2.1 xs (hd_0 kh_coal) lvE [] S) {k : Nat} (ih : kh_coal_I l D tc ad kd N sm xs S p e s m args below meth c sz k) : (∀ (α : List av_X) (lv : List (Nat × Value)) (st : List Value) (S1 : fw_S), as_in ad sm wd_fl2 xs S kh_coal.2.2.2.2.2.1 α kh_coal_a87.2.2.1 lv st S1 → ((S1.1 806 (1203 + 5 * nv xs 1).toNat).toInt + nv xs 2 ≤ 999 ∧ 1 ≤ nv xs 2) → 7 < k + 1 → hd_W wd_fl2 kh_coal kh_coal_y l D tc ad kd N sm xs S p e s m args below meth c sz 87 lv st S1 0) := by
  have hx : xs.length = 3 := by rw [H0.2.1.1]; rfl
  intro α lv st S1 H hp hk
  obtain ⟨α1, hle, Hr⟩ := as_recM (pl := []) [((806, 806), (4060, 4063, 1)), ((806, 806), (4068, 4071, 1))] (by decide +kernel) H
  have hf := H.2.2.2.2.2.2.2.2.2.2.1
  have hl1 : α1.length = 3 := by rw [Hr.2.1.1]; rfl
  have hl0 : α.length = 3 := by rw [H.2.1.1]; rfl
  have hxa : al_le xs α1 := H.1.trans hle
  obtain ⟨g1, -, g3, g4, -⟩ := as_fx Hr
  have g0 : (805 ≤ nv α1 0 ∧ nv α1 0 ≤ 805) ∧ (0 ≤ nv α1 1 ∧ nv α1 1 ≤ 1) ∧ (1 ≤ nv α1 2 ∧ nv α1 2 ≤ 999) ∧ True := by
    refine ⟨by have h := (en_nv (i := 0) Hr.2.1 rfl).2; exact h, by have h := (en_nv (i := 1) Hr.2.1 rfl).2; exact h, by have h := (en_nv (i := 2) Hr.2.1 rfl).2; exact h, trivial⟩
  have r0 : nv α1 0 = nv α 0 := nv_le hle (by omega)
  have r1 : nv α1 1 = nv α 1 := nv_le hle (by omega)
  have r2 : nv α1 2 = nv α 2 := nv_le hle (by omega)
  refine hd_segM G (na := 3) (fuel := 600) (first := true) (Bs := [kh_coal_b87_0]) (by decide +kernel) hl1 Hr ?_
  intro q hq β lv' st' S' H1
  simp only [List.mem_cons, List.not_mem_nil, or_false] at hq
  rcases hq with rfl
  · obtain ⟨f1, f2, f3, f4, f5⟩ := as_fx H1
    simp only [kh_coal_b87_0, fx_env, fx_c, fx_ne, fx_hf, wl_S, Nat.zero_add, Nat.reduceAdd, Nat.reduceDiv, Nat.reduceMod, List.getElem?_cons_zero, List.getElem?_cons_succ, if_true, and_true, true_and] at f1 f2 f3 f4 f5
    have fe0 : nv β 0 = 805 := by omega
    have fe3 : nv β 3 = 3 := by omega
    try simp only [fe0, fe3, Int.reduceToNat] at f2 f3 f4 f5
    have s0 : nv β 0 = nv α1 0 := nv_le H1.1 (by omega)
    have s1 : nv β 1 = nv α1 1 := nv_le H1.1 (by omega)
    have s2 : nv β 2 = nv α1 2 := nv_le H1.1 (by omega)
    obtain ⟨α', Ha, hm⟩ := hd_gpM (q := kh_coal_a93) (n := 0) (by decide +kernel) hx H1 (by decide +kernel) hxa hf
    have hfr := H1.2.2.2.2.2.2.2.2.2.2.1
    have m0 : nv α' 0 = nv β 0 := hm 0 0 rfl
    have m1 : nv α' 1 = nv β 1 := hm 1 1 rfl
    have m2 : nv α' 2 = nv β 2 := hm 2 2 rfl
    have z1 : nv α 1 = nv xs 1 := nv_le H.1 (by omega)
    have z2 : nv α 2 = nv xs 2 := nv_le H.1 (by omega)
    have e : S'.1 806 (1203 + 5 * nv xs 1).toNat = S1.1 806 (1203 + 5 * nv xs 1).toNat := fr_pg hfr 806 (1203, 1208, 5) (by decide +kernel) (pg_mk (by omega) (by omega) (by omega))
    refine ih.2.2.1 _ _ _ _ Ha ?_ ?_
    · rw [e]; exact hp
    · omega
set_option maxHeartbeats 16000000 in
set_option maxRecDepth 8000 in
theorem kh_coal_h93 {l : Launch} {D : va_G} {tc : Nat → ClassId} {ad : Nat → Nat} {kd : Nat → Nat × Nat} {N : Nat} {sm : Nat → Nat} {xs : List av_X} {S : fw_S} {p : Program} {e : Env} {s : State} {m : MethodId} {args : Array Value} {below : List Frame} {meth : Method} {c : Code} {sz : Nat} {lvE : List (Nat × Value)} (G : hd_C wd_ff2 wd_fl2 kh_coal [kh_641, kh_588, kh_643, kh_590, kh_591, kh_592, kh_639, kh_644, kh_640, kh_takes] kh_coal_y l D tc ad kd N sm xs p s m args meth c sz) (H0 : as_in ad sm wd_fl2 xs S kh_coal.2.2.2.2.2.1 xs (hd_0 kh_coal) lvE [] S) {k : Nat} (ih : kh_coal_I l D tc ad kd N sm xs S p e s m args below meth c sz k) : (∀ (α : List av_X) (lv : List (Nat × Value)) (st : List Value) (S1 : fw_S), as_in ad sm wd_fl2 xs S kh_coal.2.2.2.2.2.1 α kh_coal_a93.2.2.1 lv st S1 → ((S1.1 806 (1203 + 5 * nv xs 1).toNat).toInt + nv xs 2 ≤ 999 ∧ 1 ≤ nv xs 2) → 5 < k + 1 → hd_W wd_fl2 kh_coal kh_coal_y l D tc ad kd N sm xs S p e s m args below meth c sz 93 lv st S1 0) := by
  have hx : xs.length = 3 := by rw [H0.2.1.1]; rfl
  intro α lv st S1 H hp hk
  obtain ⟨α1, hle, Hr⟩ := as_recM (pl := []) [] (by decide +kernel) H
  have hf := H.2.2.2.2.2.2.2.2.2.2.1
  have hl1 : α1.length = 3 := by rw [Hr.2.1.1]; rfl
  have hl0 : α.length = 3 := by rw [H.2.1.1]; rfl
  have hxa : al_le xs α1 := H.1.trans hle
  obtain ⟨g1, -, g3, g4, -⟩ := as_fx Hr
  have g0 : (805 ≤ nv α1 0 ∧ nv α1 0 ≤ 805) ∧ (0 ≤ nv α1 1 ∧ nv α1 1 ≤ 1) ∧ (1 ≤ nv α1 2 ∧ nv α1 2 ≤ 999) ∧ True := by
    refine ⟨by have h := (en_nv (i := 0) Hr.2.1 rfl).2; exact h, by have h := (en_nv (i := 1) Hr.2.1 rfl).2; exact h, by have h := (en_nv (i := 2) Hr.2.1 rfl).2; exact h, trivial⟩
  have r0 : nv α1 0 = nv α 0 := nv_le hle (by omega)
  have r1 : nv α1 1 = nv α 1 := nv_le hle (by omega)
  have r2 : nv α1 2 = nv α 2 := nv_le hle (by omega)
  refine hd_segM G (na := 3) (fuel := 600) (first := true) (Bs := [kh_coal_b93_0]) (by decide +kernel) hl1 Hr ?_
  intro q hq β lv' st' S' H1
  simp only [List.mem_cons, List.not_mem_nil, or_false] at hq
  rcases hq with rfl
  · obtain ⟨f1, f2, f3, f4, f5⟩ := as_fx H1
    simp only [kh_coal_b93_0, fx_env, fx_c, fx_ne, fx_hf, wl_S, Nat.zero_add, Nat.reduceAdd, Nat.reduceDiv, Nat.reduceMod, List.getElem?_cons_zero, List.getElem?_cons_succ, if_true, and_true, true_and] at f1 f2 f3 f4 f5
    have fe0 : nv β 0 = 805 := by omega
    have fe3 : nv β 3 = 806 := by omega
    have fe4 : nv β 4 = 1201 := by omega
    have fe5 : nv β 5 = 5 := by omega
    have fe8 : nv β 8 = 2 := by omega
    try simp only [fe0, fe3, fe4, fe5, fe8, Int.reduceToNat] at f2 f3 f4 f5
    have s0 : nv β 0 = nv α1 0 := nv_le H1.1 (by omega)
    have s1 : nv β 1 = nv α1 1 := nv_le H1.1 (by omega)
    have s2 : nv β 2 = nv α1 2 := nv_le H1.1 (by omega)
    obtain ⟨c0, c1, c2, c3, c4⟩ := f2
    obtain ⟨α', Ha, hm⟩ := hd_gpM (q := kh_coal_a110) (n := 0) (by decide +kernel) hx H1 (by decide +kernel) hxa hf
    have hfr := H1.2.2.2.2.2.2.2.2.2.2.1
    have m0 : nv α' 0 = nv β 0 := hm 0 0 rfl
    have m1 : nv α' 1 = nv β 1 := hm 1 1 rfl
    have m2 : nv α' 2 = nv β 2 := hm 2 2 rfl
    have m3 : nv α' 3 = nv β 11 := hm 3 11 rfl
    have m4 : nv α' 4 = nv β 9 := hm 4 9 rfl
    have m5 : nv α' 5 = nv β 3 := hm 5 3 rfl
    subst S'
    have z1 : nv α 1 = nv xs 1 := nv_le H.1 (by omega)
    have z2 : nv α 2 = nv xs 2 := nv_le H.1 (by omega)
    have o1 := old_0 c1 rfl
    obtain ⟨p1, p2⟩ := hp
    rw [show (1203 + 5 * nv xs 1) = nv β 9 by omega, o1] at p1
    refine ih.2.2.2.1 _ _ _ _ Ha ?_ ?_
    · rw [m3]; exact ⟨by omega, by omega⟩
    · omega
set_option maxHeartbeats 16000000 in
set_option maxRecDepth 8000 in
theorem kh_coal_h110 {l : Launch} {D : va_G} {tc : Nat → ClassId} {ad : Nat → Nat} {kd : Nat → Nat × Nat} {N : Nat} {sm : Nat → Nat} {xs : List av_X} {S : fw_S} {p : Program} {e : Env} {s : State} {m : MethodId} {args : Array Value} {below : List Frame} {meth : Method} {c : Code} {sz : Nat} {lvE : List (Nat × Value)} (G : hd_C wd_ff2 wd_fl2 kh_coal [kh_641, kh_588, kh_643, kh_590, kh_591, kh_592, kh_639, kh_644, kh_640, kh_takes] kh_coal_y l D tc ad kd N sm xs p s m args meth c sz) (H0 : as_in ad sm wd_fl2 xs S kh_coal.2.2.2.2.2.1 xs (hd_0 kh_coal) lvE [] S) {k : Nat} (ih : kh_coal_I l D tc ad kd N sm xs S p e s m args below meth c sz k) : (∀ (α : List av_X) (lv : List (Nat × Value)) (st : List Value) (S1 : fw_S), as_in ad sm wd_fl2 xs S kh_coal.2.2.2.2.2.1 α kh_coal_a110.2.2.1 lv st S1 → (0 ≤ nv α 3 ∧ nv α 3 ≤ 999) → 1 < k + 1 → hd_W wd_fl2 kh_coal kh_coal_y l D tc ad kd N sm xs S p e s m args below meth c sz 110 lv st S1 0) := by
  have hx : xs.length = 3 := by rw [H0.2.1.1]; rfl
  intro α lv st S1 H hp hk
  have bp := (en_nv (i := 3) H.2.1 rfl).2
  change 1 ≤ nv α 3 ∧ nv α 3 ≤ 1998 at bp
  replace H := as_clamp (i := 3) (lo := 0) (hi := 999) H rfl rfl (by exact hp.1) (by exact hp.2) (by decide)
  obtain ⟨α1, hle, Hr⟩ := as_recM (pl := []) [((806, 806), (1203, 1208, 5))] (by decide +kernel) H
  have hf := H.2.2.2.2.2.2.2.2.2.2.1
  have hl1 : α1.length = 6 := by rw [Hr.2.1.1]; rfl
  have hl0 : α.length = 6 := by rw [H.2.1.1]; rfl
  have hxa : al_le xs α1 := H.1.trans hle
  obtain ⟨g1, -, g3, g4, -⟩ := as_fx Hr
  have g0 : (805 ≤ nv α1 0 ∧ nv α1 0 ≤ 805) ∧ (0 ≤ nv α1 1 ∧ nv α1 1 ≤ 1) ∧ (1 ≤ nv α1 2 ∧ nv α1 2 ≤ 999) ∧ (0 ≤ nv α1 3 ∧ nv α1 3 ≤ 999) ∧ (1203 ≤ nv α1 4 ∧ nv α1 4 ≤ 1208) ∧ (806 ≤ nv α1 5 ∧ nv α1 5 ≤ 806) ∧ True := by
    refine ⟨by have h := (en_nv (i := 0) Hr.2.1 rfl).2; exact h, by have h := (en_nv (i := 1) Hr.2.1 rfl).2; exact h, by have h := (en_nv (i := 2) Hr.2.1 rfl).2; exact h, by have h := (en_nv (i := 3) Hr.2.1 rfl).2; exact h, by have h := (en_nv (i := 4) Hr.2.1 rfl).2; exact h, by have h := (en_nv (i := 5) Hr.2.1 rfl).2; exact h, trivial⟩
  have r0 : nv α1 0 = nv α 0 := nv_le hle (by omega)
  have r1 : nv α1 1 = nv α 1 := nv_le hle (by omega)
  have r2 : nv α1 2 = nv α 2 := nv_le hle (by omega)
  have r3 : nv α1 3 = nv α 3 := nv_le hle (by omega)
  have r4 : nv α1 4 = nv α 4 := nv_le hle (by omega)
  have r5 : nv α1 5 = nv α 5 := nv_le hle (by omega)
  refine hd_segM G (na := 6) (fuel := 600) (first := true) (Bs := [kh_coal_b110_0]) (by decide +kernel) hl1 Hr ?_
  intro q hq β lv' st' S' H1
  simp only [List.mem_cons, List.not_mem_nil, or_false] at hq
  rcases hq with rfl
  · obtain ⟨f1, f2, f3, f4, f5⟩ := as_fx H1
    simp only [kh_coal_b110_0, fx_env, fx_c, fx_ne, fx_hf, wl_S, Nat.zero_add, Nat.reduceAdd, Nat.reduceDiv, Nat.reduceMod, List.getElem?_cons_zero, List.getElem?_cons_succ, if_true, and_true, true_and] at f1 f2 f3 f4 f5
    have fe0 : nv β 0 = 805 := by omega
    have fe5 : nv β 5 = 806 := by omega
    have fe6 : nv β 6 = 806 := by omega
    have fe7 : nv β 7 = 1201 := by omega
    have fe8 : nv β 8 = 5 := by omega
    have fe11 : nv β 11 = 2 := by omega
    try simp only [fe0, fe5, fe6, fe7, fe8, fe11, Int.reduceToNat] at f2 f3 f4 f5
    have s0 : nv β 0 = nv α1 0 := nv_le H1.1 (by omega)
    have s1 : nv β 1 = nv α1 1 := nv_le H1.1 (by omega)
    have s2 : nv β 2 = nv α1 2 := nv_le H1.1 (by omega)
    have s3 : nv β 3 = nv α1 3 := nv_le H1.1 (by omega)
    have s4 : nv β 4 = nv α1 4 := nv_le H1.1 (by omega)
    have s5 : nv β 5 = nv α1 5 := nv_le H1.1 (by omega)
    obtain ⟨c0, c1, c2⟩ := f2
    exact hd_run G (ss := []) (fuel := 20) (by decide +kernel) (as_backM H1 (by decide +kernel) hxa hf)
set_option maxHeartbeats 16000000 in
set_option maxRecDepth 8000 in
theorem kh_coal_ok : ct_ok wd_fl2 kh_coal := ct_hand (ff := wd_ff2) (y := kh_coal_y) (Cs := [kh_641, kh_588, kh_643, kh_590, kh_591, kh_592, kh_639, kh_644, kh_640, kh_takes]) wd_fl2_ok rfl (List.forall_mem_cons.mpr ⟨kh_641_ok, (List.forall_mem_cons.mpr ⟨kh_588_ok, (List.forall_mem_cons.mpr ⟨kh_643_ok, (List.forall_mem_cons.mpr ⟨kh_590_ok, (List.forall_mem_cons.mpr ⟨kh_591_ok, (List.forall_mem_cons.mpr ⟨kh_592_ok, (List.forall_mem_cons.mpr ⟨kh_639_ok, (List.forall_mem_cons.mpr ⟨kh_644_ok, (List.forall_mem_cons.mpr ⟨kh_640_ok, (List.forall_mem_cons.mpr ⟨kh_takes_ok, (List.forall_mem_nil _)⟩)⟩)⟩)⟩)⟩)⟩)⟩)⟩)⟩)⟩) (by decide +kernel) (fun l D tc ad kd N sm xs S p e s m args below meth c sz lv G H0 => by
  have hx : xs.length = 3 := by rw [H0.2.1.1]; rfl
  have hP : ∀ (k : Nat), kh_coal_I l D tc ad kd N sm xs S p e s m args below meth c sz k := by
    intro k
    induction k with
    | zero => exact ⟨fun _ _ _ _ _ _ h => absurd h (Nat.not_lt_zero _), fun _ _ _ _ _ _ h => absurd h (Nat.not_lt_zero _), fun _ _ _ _ _ _ h => absurd h (Nat.not_lt_zero _), fun _ _ _ _ _ _ h => absurd h (Nat.not_lt_zero _), trivial⟩
    | succ k ih => exact ⟨kh_coal_h41 G H0 ih, kh_coal_h87 G H0 ih, kh_coal_h93 G H0 ih, kh_coal_h110 G H0 ih, trivial⟩
  obtain ⟨α1, hle, Hr⟩ := as_recM (pl := []) [((805, 805), (8, 8, 0))] (by decide +kernel) H0
  have hf := H0.2.2.2.2.2.2.2.2.2.2.1
  have hl1 : α1.length = 3 := by rw [Hr.2.1.1]; rfl
  have hl0 : xs.length = 3 := by rw [H0.2.1.1]; rfl
  have hxa : al_le xs α1 := H0.1.trans hle
  obtain ⟨g1, -, g3, g4, -⟩ := as_fx Hr
  have g0 : (805 ≤ nv α1 0 ∧ nv α1 0 ≤ 805) ∧ ((-2147483648) ≤ nv α1 1 ∧ nv α1 1 ≤ 2147483647) ∧ ((-2147483648) ≤ nv α1 2 ∧ nv α1 2 ≤ 2147483647) ∧ True := by
    refine ⟨by have h := (en_nv (i := 0) Hr.2.1 rfl).2; exact h, by have h := (en_nv (i := 1) Hr.2.1 rfl).2; exact h, by have h := (en_nv (i := 2) Hr.2.1 rfl).2; exact h, trivial⟩
  have r0 : nv α1 0 = nv xs 0 := nv_le hle (by omega)
  have r1 : nv α1 1 = nv xs 1 := nv_le hle (by omega)
  have r2 : nv α1 2 = nv xs 2 := nv_le hle (by omega)
  refine hd_segM G (na := 3) (fuel := 600) (first := true) (Bs := [kh_coal_b0_0, kh_coal_b0_1, kh_coal_b0_2]) (by decide +kernel) hl1 Hr ?_
  intro q hq β lv' st' S' H1
  simp only [List.mem_cons, List.not_mem_nil, or_false] at hq
  rcases hq with rfl | rfl | rfl
  · obtain ⟨f1, f2, f3, f4, f5⟩ := as_fx H1
    simp only [kh_coal_b0_0, fx_env, fx_c, fx_ne, fx_hf, wl_S, Nat.zero_add, Nat.reduceAdd, Nat.reduceDiv, Nat.reduceMod, List.getElem?_cons_zero, List.getElem?_cons_succ, if_true, and_true, true_and] at f1 f2 f3 f4 f5
    have fe0 : nv β 0 = 805 := by omega
    have fe3 : nv β 3 = 0 := by omega
    have fe4 : nv β 4 = 806 := by omega
    have fe5 : nv β 5 = 1200 := by omega
    have fe7 : nv β 7 = 1 := by omega
    have fe9 : nv β 9 = 1 := by omega
    have fe10 : nv β 10 = 1 := by omega
    have fe11 : nv β 11 = 0 := by omega
    have fe12 : nv β 12 = 1 := by omega
    have fe13 : nv β 13 = 999 := by omega
    have fe14 : nv β 14 = 1 := by omega
    have fe15 : nv β 15 = 2 := by omega
    have fe16 : nv β 16 = 0 := by omega
    try simp only [fe0, fe3, fe4, fe5, fe7, fe9, fe10, fe11, fe12, fe13, fe14, fe15, fe16, Int.reduceToNat] at f2 f3 f4 f5
    have s0 : nv β 0 = nv α1 0 := nv_le H1.1 (by omega)
    have s1 : nv β 1 = nv α1 1 := nv_le H1.1 (by omega)
    have s2 : nv β 2 = nv α1 2 := nv_le H1.1 (by omega)
    obtain ⟨c0, c1⟩ := f2
    obtain ⟨α', Ha, hm⟩ := hd_gpM (q := kh_coal_a41) (n := 0) (by decide +kernel) hx H1 (by decide +kernel) hxa hf
    have hfr := H1.2.2.2.2.2.2.2.2.2.2.1
    have m0 : nv α' 0 = nv β 0 := hm 0 0 rfl
    have m1 : nv α' 1 = nv β 1 := hm 1 1 rfl
    have m2 : nv α' 2 = nv β 2 := hm 2 2 rfl
    refine (hP _).1 _ _ _ _ Ha ?_ (Nat.lt_succ_self _)
    · trivial
  · obtain ⟨f1, f2, f3, f4, f5⟩ := as_fx H1
    simp only [kh_coal_b0_1, fx_env, fx_c, fx_ne, fx_hf, wl_S, Nat.zero_add, Nat.reduceAdd, Nat.reduceDiv, Nat.reduceMod, List.getElem?_cons_zero, List.getElem?_cons_succ, if_true, and_true, true_and] at f1 f2 f3 f4 f5
    have fe0 : nv β 0 = 805 := by omega
    have fe3 : nv β 3 = 0 := by omega
    have fe4 : nv β 4 = 806 := by omega
    have fe5 : nv β 5 = 1200 := by omega
    have fe7 : nv β 7 = 1 := by omega
    have fe9 : nv β 9 = 1 := by omega
    have fe10 : nv β 10 = 1 := by omega
    have fe11 : nv β 11 = 0 := by omega
    have fe12 : nv β 12 = 1 := by omega
    have fe13 : nv β 13 = 999 := by omega
    have fe14 : nv β 14 = 0 := by omega
    have fe15 : nv β 15 = 2 := by omega
    have fe16 : nv β 16 = 1 := by omega
    have fe17 : nv β 17 = 0 := by omega
    try simp only [fe0, fe3, fe4, fe5, fe7, fe9, fe10, fe11, fe12, fe13, fe14, fe15, fe16, fe17, Int.reduceToNat] at f2 f3 f4 f5
    have s0 : nv β 0 = nv α1 0 := nv_le H1.1 (by omega)
    have s1 : nv β 1 = nv α1 1 := nv_le H1.1 (by omega)
    have s2 : nv β 2 = nv α1 2 := nv_le H1.1 (by omega)
    obtain ⟨c0, c1⟩ := f2
    exact hd_run G (ss := []) (fuel := 20) (by decide +kernel) (as_backM H1 (by decide +kernel) hxa hf)
  · obtain ⟨f1, f2, f3, f4, f5⟩ := as_fx H1
    simp only [kh_coal_b0_2, fx_env, fx_c, fx_ne, fx_hf, wl_S, Nat.zero_add, Nat.reduceAdd, Nat.reduceDiv, Nat.reduceMod, List.getElem?_cons_zero, List.getElem?_cons_succ, if_true, and_true, true_and] at f1 f2 f3 f4 f5
    have fe0 : nv β 0 = 805 := by omega
    have fe3 : nv β 3 = 0 := by omega
    have fe4 : nv β 4 = 806 := by omega
    have fe5 : nv β 5 = 1200 := by omega
    have fe7 : nv β 7 = 1 := by omega
    have fe9 : nv β 9 = 0 := by omega
    have fe10 : nv β 10 = 1 := by omega
    have fe11 : nv β 11 = 1 := by omega
    have fe12 : nv β 12 = 0 := by omega
    try simp only [fe0, fe3, fe4, fe5, fe7, fe9, fe10, fe11, fe12, Int.reduceToNat] at f2 f3 f4 f5
    have s0 : nv β 0 = nv α1 0 := nv_le H1.1 (by omega)
    have s1 : nv β 1 = nv α1 1 := nv_le H1.1 (by omega)
    have s2 : nv β 2 = nv α1 2 := nv_le H1.1 (by omega)
    obtain ⟨c0, c1⟩ := f2
    exact hd_run G (ss := []) (fuel := 20) (by decide +kernel) (as_backM H1 (by decide +kernel) hxa hf))
abbrev kh_cFirst_y : mt_T := (⟨"UtilityWorksModel", "cFirst", "(I)I"⟩, prog_14_method_269_code, 1, some .int, 12, 0, 1, 31198, 31197, 0, 21014)
def kh_cFirst : ct_T := (346, [(0, 0, 3, 1)], [], [], [(1, (0, 2, 200, 1), [(0, 0, 3, 1)], [], ([], [(21, 0, 0)]))], [], 0, 0, 0)
def kh_cFirst_b0_0 : sg_T := (21, 0, ([((0, 3, 3, 1), none), ((0, 2, 2, 0), none), ((0, 2, 2, 0), none), ((0, 200, 200, 0), none)], [(0, 0)], [3], [], [(0, 2)], [(400000, 0, 2), (200000, 1, 0)], [], [], some []))
def kh_cFirst_b0_1 : sg_T := (21, 0, ([((0, 2, 2, 1), none), ((0, 2, 2, 0), none), ((0, 2, 2, 0), none), ((0, 2, 2, 0), none)], [(0, 0)], [3], [], [], [(300000, 0, 2), (200000, 1, 0)], [], [], some []))
def kh_cFirst_b0_2 : sg_T := (21, 0, ([((0, 0, 1, 1), none), ((0, 2, 2, 0), none), ((0, 4, 4, 0), none)], [(0, 0)], [2], [], [], [(100000, 0, 1)], [], [], some []))
set_option maxHeartbeats 16000000 in
set_option maxRecDepth 8000 in
theorem kh_cFirst_ok : ct_ok wd_fl2 kh_cFirst := ct_hand (ff := wd_ff2) (y := kh_cFirst_y) (Cs := []) wd_fl2_ok rfl (List.forall_mem_nil _) (by decide +kernel) (fun l D tc ad kd N sm xs S p e s m args below meth c sz lv G H0 => by
  have hx : xs.length = 1 := by rw [H0.2.1.1]; rfl
  obtain ⟨α1, hle, Hr⟩ := as_recM (pl := []) [] (by decide +kernel) H0
  have hf := H0.2.2.2.2.2.2.2.2.2.2.1
  have hl1 : α1.length = 1 := by rw [Hr.2.1.1]; rfl
  have hl0 : xs.length = 1 := by rw [H0.2.1.1]; rfl
  have hxa : al_le xs α1 := H0.1.trans hle
  obtain ⟨g1, -, g3, g4, -⟩ := as_fx Hr
  have g0 : (0 ≤ nv α1 0 ∧ nv α1 0 ≤ 3) ∧ True := by
    refine ⟨by have h := (en_nv (i := 0) Hr.2.1 rfl).2; exact h, trivial⟩
  have r0 : nv α1 0 = nv xs 0 := nv_le hle (by omega)
  refine hd_segM G (na := 1) (fuel := 600) (first := true) (Bs := [kh_cFirst_b0_0, kh_cFirst_b0_1, kh_cFirst_b0_2]) (by decide +kernel) hl1 Hr ?_
  intro q hq β lv' st' S' H1
  simp only [List.mem_cons, List.not_mem_nil, or_false] at hq
  rcases hq with rfl | rfl | rfl
  · obtain ⟨f1, f2, f3, f4, f5⟩ := as_fx H1
    simp only [kh_cFirst_b0_0, fx_env, fx_c, fx_ne, fx_hf, wl_S, Nat.zero_add, Nat.reduceAdd, Nat.reduceDiv, Nat.reduceMod, List.getElem?_cons_zero, List.getElem?_cons_succ, if_true, and_true, true_and] at f1 f2 f3 f4 f5
    have fe0 : nv β 0 = 3 := by omega
    have fe1 : nv β 1 = 2 := by omega
    have fe2 : nv β 2 = 2 := by omega
    have fe3 : nv β 3 = 200 := by omega
    try simp only [fe0, fe1, fe2, fe3, Int.reduceToNat] at f2 f3 f4 f5
    have s0 : nv β 0 = nv α1 0 := nv_le H1.1 (by omega)
    obtain ⟨c0, c1⟩ := f2
    refine hd_retI G (v := 3) (by decide +kernel) (as_backM H1 (by decide +kernel) hxa hf) _ List.mem_cons_self rfl (by decide +kernel) (by decide) (fun w hw => ?_)
    rcases List.mem_singleton.mp hw with rfl
    have g0' := (en_nv (i := 0) H0.2.1 rfl).1
    refine ⟨_, _, g0', g0', ?_⟩
    rw [wd_fl2, if_neg (by decide)]
    show nv β 3 = stFirst (nv xs 0).toNat
    unfold stFirst
    (repeat' split) <;> omega
  · obtain ⟨f1, f2, f3, f4, f5⟩ := as_fx H1
    simp only [kh_cFirst_b0_1, fx_env, fx_c, fx_ne, fx_hf, wl_S, Nat.zero_add, Nat.reduceAdd, Nat.reduceDiv, Nat.reduceMod, List.getElem?_cons_zero, List.getElem?_cons_succ, if_true, and_true, true_and] at f1 f2 f3 f4 f5
    have fe0 : nv β 0 = 2 := by omega
    have fe1 : nv β 1 = 2 := by omega
    have fe2 : nv β 2 = 2 := by omega
    have fe3 : nv β 3 = 2 := by omega
    try simp only [fe0, fe1, fe2, fe3, Int.reduceToNat] at f2 f3 f4 f5
    have s0 : nv β 0 = nv α1 0 := nv_le H1.1 (by omega)
    obtain ⟨c0, c1⟩ := f2
    refine hd_retI G (v := 3) (by decide +kernel) (as_backM H1 (by decide +kernel) hxa hf) _ List.mem_cons_self rfl (by decide +kernel) (by decide) (fun w hw => ?_)
    rcases List.mem_singleton.mp hw with rfl
    have g0' := (en_nv (i := 0) H0.2.1 rfl).1
    refine ⟨_, _, g0', g0', ?_⟩
    rw [wd_fl2, if_neg (by decide)]
    show nv β 3 = stFirst (nv xs 0).toNat
    unfold stFirst
    (repeat' split) <;> omega
  · obtain ⟨f1, f2, f3, f4, f5⟩ := as_fx H1
    simp only [kh_cFirst_b0_2, fx_env, fx_c, fx_ne, fx_hf, wl_S, Nat.zero_add, Nat.reduceAdd, Nat.reduceDiv, Nat.reduceMod, List.getElem?_cons_zero, List.getElem?_cons_succ, if_true, and_true, true_and] at f1 f2 f3 f4 f5
    have fe1 : nv β 1 = 2 := by omega
    have fe2 : nv β 2 = 4 := by omega
    try simp only [fe1, fe2, Int.reduceToNat] at f2 f3 f4 f5
    have s0 : nv β 0 = nv α1 0 := nv_le H1.1 (by omega)
    have c0 := f2
    refine hd_retI G (v := 2) (by decide +kernel) (as_backM H1 (by decide +kernel) hxa hf) _ List.mem_cons_self rfl (by decide +kernel) (by decide) (fun w hw => ?_)
    rcases List.mem_singleton.mp hw with rfl
    have g0' := (en_nv (i := 0) H0.2.1 rfl).1
    refine ⟨_, _, g0', g0', ?_⟩
    rw [wd_fl2, if_neg (by decide)]
    show nv β 2 = stFirst (nv xs 0).toNat
    unfold stFirst
    (repeat' split) <;> omega)
/- UtilityWorksModel well -/
def kh_645 : ct_T := (530, [(2, 805, 805, 0)], [], [], [(0, (0, 0, 0, 0), [(2, 805, 805, 0)], [((805, 805), (8, 8, 0), (0, 0, 0, 0))], ([], []))], [((805, 805), (8, 8, 0))], 0, 0, 0)
theorem kh_645_ok : ct_ok wd_fl2 kh_645 := ct_of (ff := wd_ff2) (y := (⟨"UtilityWorksModel", "well", "()V"⟩, prog_14_method_4_code, 1, none, 12, 1, 0, 35177, 35176, 15003, 21014)) (Cs := []) (an := []) (ss := []) (K := 1) (fuel := 4000) wd_fl2_ok rfl (List.forall_mem_nil _) (by decide +kernel)
abbrev kh_isSoundCrews_y : mt_T := (⟨"UtilityWorksModel", "isSoundCrews", "()Z"⟩, prog_14_method_311_code, 5, some .boolean, 12, 1, 0, 36010, 36008, 36009, 21014)
def kh_isSoundCrews : ct_T := (548, [(2, 805, 805, 0)], [], [510, 513], [(1, (0, 1, 1, 0), [(2, 805, 805, 0)], [], ([510, 513], []))], [((805, 805), (8, 8, 0))], 2, 43, 0)
def kh_isSoundCrews_a4 : an_T := (4, 0, ([((2, 805, 805, 0), none)], [(0, 0)], [], [], [], [], [], [510, 513], none), [])
def kh_isSoundCrews_a21 : an_T := (21, 0, ([((2, 805, 805, 0), none), ((0, 0, 1, 1), none), ((0, 0, 4, 1), none)], [(0, 0), (1, 1), (2, 2)], [], [], [], [], [], [510, 513], none), [])
def kh_isSoundCrews_a90 : an_T := (90, 0, ([((2, 805, 805, 0), none), ((0, 0, 1, 1), none), ((0, 0, 3, 1), none), ((0, (-1), 199, 1), none), ((0, 0, 3, 1), none)], [(0, 0), (1, 1), (2, 2), (3, 3), (4, 4)], [], [], [], [], [], [510, 513], none), [])
def kh_isSoundCrews_a140 : an_T := (140, 0, ([((2, 805, 805, 0), none), ((0, 0, 1, 1), none), ((0, 0, 4, 1), none)], [(0, 0), (1, 1), (2, 2)], [], [], [], [], [], [510, 513], none), [])
def kh_isSoundCrews_b0_0 : sg_T := (4, 0, ([((2, 805, 805, 0), none)], [(0, 0)], [], [], [], [], [], [510, 513], none))
def kh_isSoundCrews_b4_0 : sg_T := (21, 0, ([((2, 805, 805, 0), none), ((0, 17, 200, 1), none), ((0, 16, 16, 0), none), ((0, 0, 0, 0), none), ((0, 0, 0, 0), none)], [(2, 4), (1, 3), (0, 0)], [], [], [], [(100000, 2, 1), (103000001, 0, 0)], [], [510, 513], some []))
def kh_isSoundCrews_b4_1 : sg_T := (21, 0, ([((2, 805, 805, 0), none), ((0, 0, 16, 1), none), ((0, 16, 16, 0), none), ((0, 1, 1, 0), none), ((0, 0, 0, 0), none)], [(2, 4), (1, 3), (0, 0)], [], [], [], [(200000, 1, 2), (103000001, 0, 0)], [], [510, 513], some []))
def kh_isSoundCrews_b21_0 : sg_T := (140, 0, ([((2, 805, 805, 0), none), ((0, 1, 1, 1), none), ((0, 2, 4, 1), none), ((2, 806, 806, 1), none), ((0, 2400, 2400, 0), none), ((0, 2, 4, 1), none), ((0, 0, 0, 0), none)], [(2, 6), (0, 0), (1, 1)], [], [(3, 4, 5)], [], [(200000, 5, 2), (800005, 3, 4)], [], [510, 513], some []))
def kh_isSoundCrews_b21_1 : sg_T := (90, 0, ([((2, 805, 805, 0), none), ((0, 1, 1, 1), none), ((0, 0, 3, 1), none), ((2, 806, 806, 1), none), ((0, 2400, 2400, 0), none), ((0, 2, 4, 1), none), ((2, 806, 806, 1), none), ((0, 3, 3, 0), none), ((0, 2404, 2428, 8), none), ((0, (-1), (-1), 1), none), ((0, (-1), (-1), 0), none), ((0, 1, 1, 0), none), ((0, 0, 0, 0), none)], [(4, 12), (1, 11), (3, 9), (0, 0), (2, 2)], [], [(6, 8, 9), (3, 4, 5)], [(1, 0)], [(300000, 9, 10), (800009, 6, 8), (1300008, 2, 7), (100000, 2, 5), (800005, 3, 4)], [], [510, 513], some []))
def kh_isSoundCrews_b21_2 : sg_T := (90, 0, ([((2, 805, 805, 0), none), ((0, 1, 1, 1), none), ((0, 0, 3, 1), none), ((2, 806, 806, 1), none), ((0, 2400, 2400, 0), none), ((0, 2, 4, 1), none), ((2, 806, 806, 1), none), ((0, 3, 3, 0), none), ((0, 2404, 2428, 8), none), ((0, 0, 199, 1), none), ((0, (-1), (-1), 0), none), ((2, 806, 806, 1), none), ((0, 4, 4, 0), none), ((0, 2454, 4046, 8), none), ((0, 0, 3, 1), none), ((0, 1, 1, 0), none), ((0, 0, 0, 0), none), ((0, 0, 0, 0), none)], [(4, 17), (1, 16), (3, 9), (0, 0), (2, 2)], [], [(11, 13, 14), (6, 8, 9), (3, 4, 5)], [(14, 1), (9, (-1)), (1, 0)], [(400000, 14, 15), (800014, 11, 13), (1200013, 9, 12), (400000, 9, 10), (800009, 6, 8), (1300008, 2, 7), (100000, 2, 5), (800005, 3, 4)], [], [510, 513], some []))
def kh_isSoundCrews_b21_3 : sg_T := (90, 0, ([((2, 805, 805, 0), none), ((0, 1, 1, 1), none), ((0, 0, 3, 1), none), ((2, 806, 806, 1), none), ((0, 2400, 2400, 0), none), ((0, 2, 4, 1), none), ((2, 806, 806, 1), none), ((0, 3, 3, 0), none), ((0, 2404, 2428, 8), none), ((0, 0, 199, 1), none), ((0, (-1), (-1), 0), none), ((2, 806, 806, 1), none), ((0, 4, 4, 0), none), ((0, 2454, 4046, 8), none), ((0, 1, 1, 1), none), ((0, 1, 1, 0), none), ((2, 806, 806, 1), none), ((0, 5, 5, 0), none), ((0, 2455, 4047, 8), none), ((0, (-1), 3, 1), none), ((0, 0, 0, 0), none), ((0, 0, 0, 0), none)], [(4, 21), (1, 20), (3, 9), (0, 0), (2, 2)], [], [(16, 18, 19), (11, 13, 14), (6, 8, 9), (3, 4, 5)], [(9, (-1)), (1, 0)], [(400000, 19, 2), (800019, 16, 18), (1200018, 9, 17), (300000, 14, 15), (800014, 11, 13), (1200013, 9, 12), (400000, 9, 10), (800009, 6, 8), (1300008, 2, 7), (100000, 2, 5), (800005, 3, 4)], [], [510, 513], some []))
def kh_isSoundCrews_b21_4 : sg_T := (90, 0, ([((2, 805, 805, 0), none), ((0, 1, 1, 1), none), ((0, 0, 3, 1), none), ((2, 806, 806, 1), none), ((0, 2400, 2400, 0), none), ((0, 2, 4, 1), none), ((2, 806, 806, 1), none), ((0, 3, 3, 0), none), ((0, 2404, 2428, 8), none), ((0, 0, 199, 1), none), ((0, (-1), (-1), 0), none), ((2, 806, 806, 1), none), ((0, 4, 4, 0), none), ((0, 2454, 4046, 8), none), ((0, 1, 1, 1), none), ((0, 1, 1, 0), none), ((2, 806, 806, 1), none), ((0, 5, 5, 0), none), ((0, 2455, 4047, 8), none), ((0, 0, 3, 1), none), ((0, 1, 1, 0), none), ((0, 0, 0, 0), none)], [(4, 21), (1, 20), (3, 9), (0, 0), (2, 2)], [], [(16, 18, 19), (11, 13, 14), (6, 8, 9), (3, 4, 5)], [(9, (-1)), (1, 0)], [(300000, 19, 2), (800019, 16, 18), (1200018, 9, 17), (300000, 14, 15), (800014, 11, 13), (1200013, 9, 12), (400000, 9, 10), (800009, 6, 8), (1300008, 2, 7), (100000, 2, 5), (800005, 3, 4)], [], [510, 513], some []))
def kh_isSoundCrews_b90_0 : sg_T := (21, 0, ([((2, 805, 805, 0), none), ((0, 1, 1, 1), none), ((0, 0, 3, 1), none), ((0, (-1), 199, 1), none), ((0, 0, 3, 1), none), ((0, 1, 4, 1), some (2, 1))], [(2, 5), (0, 0), (1, 1), (3, 3), (4, 4)], [], [], [], [(200000, 2, 4)], [], [510, 513], some []))
def kh_isSoundCrews_b90_1 : sg_T := (90, 0, ([((2, 805, 805, 0), none), ((0, 1, 1, 1), none), ((0, 1, 3, 1), none), ((0, (-1), (-1), 1), none), ((0, 0, 2, 1), none), ((0, (-1), (-1), 0), none), ((0, 1, 1, 0), none), ((0, 1, 3, 1), some (4, 1))], [(4, 7), (1, 6), (0, 0), (2, 2), (3, 3)], [], [], [(1, 0)], [(300000, 3, 5), (100000, 4, 2)], [], [510, 513], some []))
def kh_isSoundCrews_b90_2 : sg_T := (90, 0, ([((2, 805, 805, 0), none), ((0, 1, 1, 1), none), ((0, 1, 3, 1), none), ((0, 0, 199, 1), none), ((0, 0, 2, 1), none), ((0, (-1), (-1), 0), none), ((2, 806, 806, 1), none), ((0, 3, 3, 0), none), ((0, 2404, 2428, 8), none), ((0, 0, 199, 1), none), ((0, 0, 0, 0), none), ((0, 1, 3, 1), some (4, 1))], [(4, 11), (1, 10), (0, 0), (2, 2), (3, 3)], [], [(6, 8, 9)], [(3, (-1)), (1, 0)], [(300000, 9, 3), (800009, 6, 8), (1300008, 4, 7), (400000, 3, 5), (100000, 4, 2)], [], [510, 513], some []))
def kh_isSoundCrews_b90_3 : sg_T := (90, 0, ([((2, 805, 805, 0), none), ((0, 1, 1, 1), none), ((0, 1, 3, 1), none), ((0, 0, 199, 1), none), ((0, 0, 2, 1), none), ((0, (-1), (-1), 0), none), ((2, 806, 806, 1), none), ((0, 3, 3, 0), none), ((0, 2404, 2428, 8), none), ((0, (-1), 199, 1), none), ((0, 1, 1, 0), none), ((0, 1, 3, 1), some (4, 1))], [(4, 11), (1, 10), (0, 0), (2, 2), (3, 3)], [], [(6, 8, 9)], [(3, (-1)), (1, 0)], [(400000, 9, 3), (800009, 6, 8), (1300008, 4, 7), (400000, 3, 5), (100000, 4, 2)], [], [510, 513], some []))
def kh_isSoundCrews_b140_0 : sg_T := (212, 0, ([((2, 805, 805, 0), none), ((0, 1, 1, 1), none), ((0, 4, 4, 1), none), ((0, 4, 4, 0), none)], [(0, 0), (1, 1), (2, 2)], [1], [], [], [(200000, 3, 2)], [], [510, 513], some []))
def kh_isSoundCrews_b140_1 : sg_T := (140, 0, ([((2, 805, 805, 0), none), ((0, 1, 1, 1), none), ((0, 0, 3, 1), none), ((0, 4, 4, 0), none), ((2, 806, 806, 1), none), ((0, 4060, 4060, 0), none), ((0, 4060, 4063, 1), none), ((0, (-2147483648), 2147483647, 1), none), ((0, 2, 200, 1), none), ((2, 806, 806, 1), none), ((0, 4072, 4072, 0), none), ((0, 4072, 4075, 1), none), ((0, (-2147483648), 2147483647, 1), none), ((0, (-2147483648), 2147483647, 1), none), ((2, 806, 806, 1), none), ((0, 4076, 4076, 0), none), ((0, 4076, 4079, 1), none), ((0, (-2147483648), 2147483647, 1), none), ((0, (-2147483648), 2147483647, 1), none), ((2, 806, 806, 1), none), ((0, 4068, 4068, 0), none), ((0, 4068, 4071, 1), none), ((0, (-2147483648), 2147483647, 1), none), ((0, (-2147483648), 2147483647, 1), none), ((0, 0, 0, 0), none), ((0, 1, 4, 1), some (2, 1))], [(2, 25), (1, 24), (0, 0)], [], [(19, 21, 22), (14, 16, 17), (9, 11, 12), (4, 6, 7)], [(1, 0)], [(400000, 7, 23), (900100023, 18, 22), (800022, 19, 21), (500021, 20, 2), (900100018, 13, 17), (800017, 14, 16), (500016, 15, 2), (900000013, 8, 12), (800012, 9, 11), (500011, 10, 2), (2100008, 2, 2), (800007, 4, 6), (500006, 5, 2), (100000, 2, 3)], [], [510, 513], some []))
def kh_isSoundCrews_b140_2 : sg_T := (140, 0, ([((2, 805, 805, 0), none), ((0, 1, 1, 1), none), ((0, 0, 3, 1), none), ((0, 4, 4, 0), none), ((2, 806, 806, 1), none), ((0, 4060, 4060, 0), none), ((0, 4060, 4063, 1), none), ((0, (-2147483648), 2147483647, 1), none), ((0, 2, 200, 1), none), ((2, 806, 806, 1), none), ((0, 4072, 4072, 0), none), ((0, 4072, 4075, 1), none), ((0, (-2147483648), 2147483647, 1), none), ((0, (-2147483648), 2147483647, 1), none), ((2, 806, 806, 1), none), ((0, 4076, 4076, 0), none), ((0, 4076, 4079, 1), none), ((0, (-2147483648), 2147483647, 1), none), ((0, (-2147483648), 2147483647, 1), none), ((2, 806, 806, 1), none), ((0, 4068, 4068, 0), none), ((0, 4068, 4071, 1), none), ((0, (-2147483648), 2147483647, 1), none), ((0, (-2147483648), 2147483647, 1), none), ((0, 1, 1, 0), none), ((0, 1, 4, 1), some (2, 1))], [(2, 25), (1, 24), (0, 0)], [], [(19, 21, 22), (14, 16, 17), (9, 11, 12), (4, 6, 7)], [(1, 0)], [(300000, 7, 23), (900100023, 18, 22), (800022, 19, 21), (500021, 20, 2), (900100018, 13, 17), (800017, 14, 16), (500016, 15, 2), (900000013, 8, 12), (800012, 9, 11), (500011, 10, 2), (2100008, 2, 2), (800007, 4, 6), (500006, 5, 2), (100000, 2, 3)], [], [510, 513], some []))
def kh_isSoundCrews_I (l : Launch) (D : va_G) (tc : Nat → ClassId) (ad : Nat → Nat) (kd : Nat → Nat × Nat) (N : Nat) (sm : Nat → Nat) (xs : List av_X) (S : fw_S) (p : Program) (e : Env) (s : State) (m : MethodId) (args : Array Value) (below : List Frame) (meth : Method) (c : Code) (sz : Nat) (k : Nat) : Prop := (∀ (α : List av_X) (lv : List (Nat × Value)) (st : List Value) (S1 : fw_S), as_in ad sm wd_fl2 xs S kh_isSoundCrews.2.2.2.2.2.1 α kh_isSoundCrews_a4.2.2.1 lv st S1 → (True) → 1000000 < k → hd_W wd_fl2 kh_isSoundCrews kh_isSoundCrews_y l D tc ad kd N sm xs S p e s m args below meth c sz 4 lv st S1 0) ∧ (∀ (α : List av_X) (lv : List (Nat × Value)) (st : List Value) (S1 : fw_S), as_in ad sm wd_fl2 xs S kh_isSoundCrews.2.2.2.2.2.1 α kh_isSoundCrews_a21.2.2.1 lv st S1 → (nv α 1 = 1) → 1000 + (5 - nv α 2).toNat * 10 + 9 < k → hd_W wd_fl2 kh_isSoundCrews kh_isSoundCrews_y l D tc ad kd N sm xs S p e s m args below meth c sz 21 lv st S1 0) ∧ (∀ (α : List av_X) (lv : List (Nat × Value)) (st : List Value) (S1 : fw_S), as_in ad sm wd_fl2 xs S kh_isSoundCrews.2.2.2.2.2.1 α kh_isSoundCrews_a90.2.2.1 lv st S1 → (nv α 1 = 1 ∧ nv α 2 < (S1.1 806 2400).toInt ∧ nv α 3 = mck (S1.1 806) (nv α 2).toNat 3 ∧ 0 ≤ nv α 4) → 1000 + (5 - nv α 2).toNat * 10 + (4 - nv α 4).toNat < k → hd_W wd_fl2 kh_isSoundCrews kh_isSoundCrews_y l D tc ad kd N sm xs S p e s m args below meth c sz 90 lv st S1 0) ∧ (∀ (α : List av_X) (lv : List (Nat × Value)) (st : List Value) (S1 : fw_S), as_in ad sm wd_fl2 xs S kh_isSoundCrews.2.2.2.2.2.1 α kh_isSoundCrews_a140.2.2.1 lv st S1 → (nv α 1 = 1) → (5 - nv α 2).toNat < k → hd_W wd_fl2 kh_isSoundCrews kh_isSoundCrews_y l D tc ad kd N sm xs S p e s m args below meth c sz 140 lv st S1 0) ∧ True
set_option maxHeartbeats 16000000 in
set_option maxRecDepth 8000 in
theorem kh_isSoundCrews_h4 {l : Launch} {D : va_G} {tc : Nat → ClassId} {ad : Nat → Nat} {kd : Nat → Nat × Nat} {N : Nat} {sm : Nat → Nat} {xs : List av_X} {S : fw_S} {p : Program} {e : Env} {s : State} {m : MethodId} {args : Array Value} {below : List Frame} {meth : Method} {c : Code} {sz : Nat} {lvE : List (Nat × Value)} (G : hd_C wd_ff2 wd_fl2 kh_isSoundCrews [kh_645, kh_cOpen, kh_cC3, kh_cJ4, kh_cJ5, kh_cFirst] kh_isSoundCrews_y l D tc ad kd N sm xs p s m args meth c sz) (H0 : as_in ad sm wd_fl2 xs S kh_isSoundCrews.2.2.2.2.2.1 xs (hd_0 kh_isSoundCrews) lvE [] S) {k : Nat} (ih : kh_isSoundCrews_I l D tc ad kd N sm xs S p e s m args below meth c sz k) : (∀ (α : List av_X) (lv : List (Nat × Value)) (st : List Value) (S1 : fw_S), as_in ad sm wd_fl2 xs S kh_isSoundCrews.2.2.2.2.2.1 α kh_isSoundCrews_a4.2.2.1 lv st S1 → (True) → 1000000 < k + 1 → hd_W wd_fl2 kh_isSoundCrews kh_isSoundCrews_y l D tc ad kd N sm xs S p e s m args below meth c sz 4 lv st S1 0) := by
  have hx : xs.length = 1 := by rw [H0.2.1.1]; rfl
  intro α lv st S1 H hp hk
  obtain ⟨α1, hle, Hr⟩ := as_recM (pl := []) [] (by decide +kernel) H
  have hf := H.2.2.2.2.2.2.2.2.2.2.1
  have hl1 : α1.length = 1 := by rw [Hr.2.1.1]; rfl
  have hl0 : α.length = 1 := by rw [H.2.1.1]; rfl
  have hxa : al_le xs α1 := H.1.trans hle
  obtain ⟨g1, -, g3, g4, -⟩ := as_fx Hr
  have g0 : (805 ≤ nv α1 0 ∧ nv α1 0 ≤ 805) ∧ True := by
    refine ⟨by have h := (en_nv (i := 0) Hr.2.1 rfl).2; exact h, trivial⟩
  have r0 : nv α1 0 = nv α 0 := nv_le hle (by omega)
  refine hd_segM G (na := 1) (fuel := 600) (first := true) (Bs := [kh_isSoundCrews_b4_0, kh_isSoundCrews_b4_1]) (by decide +kernel) hl1 Hr ?_
  intro q hq β lv' st' S' H1
  simp only [List.mem_cons, List.not_mem_nil, or_false] at hq
  rcases hq with rfl | rfl
  · obtain ⟨f1, f2, f3, f4, f5⟩ := as_fx H1
    simp only [kh_isSoundCrews_b4_0, fx_env, fx_c, fx_ne, fx_hf, wl_S, Nat.zero_add, Nat.reduceAdd, Nat.reduceDiv, Nat.reduceMod, List.getElem?_cons_zero, List.getElem?_cons_succ, if_true, and_true, true_and] at f1 f2 f3 f4 f5
    have fe0 : nv β 0 = 805 := by omega
    have fe2 : nv β 2 = 16 := by omega
    have fe3 : nv β 3 = 0 := by omega
    have fe4 : nv β 4 = 0 := by omega
    try simp only [fe0, fe2, fe3, fe4, Int.reduceToNat] at f2 f3 f4 f5
    have s0 : nv β 0 = nv α1 0 := nv_le H1.1 (by omega)
    obtain ⟨c0, c1⟩ := f2
    obtain ⟨α', Ha, hm⟩ := hd_gpM (q := kh_isSoundCrews_a21) (n := 0) (by decide +kernel) hx H1 (by decide +kernel) hxa hf
    have hfr := H1.2.2.2.2.2.2.2.2.2.2.1
    have m0 : nv α' 0 = nv β 0 := hm 0 0 rfl
    have m1 : nv α' 1 = nv β 3 := hm 1 3 rfl
    have m2 : nv α' 2 = nv β 4 := hm 2 4 rfl
    subst S'
    have d1 := c1
    simp only [wd_fl2, if_neg (show ¬ (wd_base1 1030 = true) by decide)] at d1
    have w510 : crewF (S1.1 806) := by
      have h := H.2.2.2.2.2.2.2.2.1 510 (by decide +kernel)
      rw [wd_fl2, if_neg (by decide)] at h
      exact h
    have hb := w510.2.2.2.2
    unfold opF at hb
    rw [← d1] at hb
    refine ih.2.1 _ _ _ _ Ha ?_ ?_
    · exfalso; omega
    · exfalso; omega
  · obtain ⟨f1, f2, f3, f4, f5⟩ := as_fx H1
    simp only [kh_isSoundCrews_b4_1, fx_env, fx_c, fx_ne, fx_hf, wl_S, Nat.zero_add, Nat.reduceAdd, Nat.reduceDiv, Nat.reduceMod, List.getElem?_cons_zero, List.getElem?_cons_succ, if_true, and_true, true_and] at f1 f2 f3 f4 f5
    have fe0 : nv β 0 = 805 := by omega
    have fe2 : nv β 2 = 16 := by omega
    have fe3 : nv β 3 = 1 := by omega
    have fe4 : nv β 4 = 0 := by omega
    try simp only [fe0, fe2, fe3, fe4, Int.reduceToNat] at f2 f3 f4 f5
    have s0 : nv β 0 = nv α1 0 := nv_le H1.1 (by omega)
    obtain ⟨c0, c1⟩ := f2
    obtain ⟨α', Ha, hm⟩ := hd_gpM (q := kh_isSoundCrews_a21) (n := 0) (by decide +kernel) hx H1 (by decide +kernel) hxa hf
    have hfr := H1.2.2.2.2.2.2.2.2.2.2.1
    have m0 : nv α' 0 = nv β 0 := hm 0 0 rfl
    have m1 : nv α' 1 = nv β 3 := hm 1 3 rfl
    have m2 : nv α' 2 = nv β 4 := hm 2 4 rfl
    subst S'
    refine ih.2.1 _ _ _ _ Ha ?_ ?_
    · omega
    · omega
set_option maxHeartbeats 16000000 in
set_option maxRecDepth 8000 in
theorem kh_isSoundCrews_h21 {l : Launch} {D : va_G} {tc : Nat → ClassId} {ad : Nat → Nat} {kd : Nat → Nat × Nat} {N : Nat} {sm : Nat → Nat} {xs : List av_X} {S : fw_S} {p : Program} {e : Env} {s : State} {m : MethodId} {args : Array Value} {below : List Frame} {meth : Method} {c : Code} {sz : Nat} {lvE : List (Nat × Value)} (G : hd_C wd_ff2 wd_fl2 kh_isSoundCrews [kh_645, kh_cOpen, kh_cC3, kh_cJ4, kh_cJ5, kh_cFirst] kh_isSoundCrews_y l D tc ad kd N sm xs p s m args meth c sz) (H0 : as_in ad sm wd_fl2 xs S kh_isSoundCrews.2.2.2.2.2.1 xs (hd_0 kh_isSoundCrews) lvE [] S) {k : Nat} (ih : kh_isSoundCrews_I l D tc ad kd N sm xs S p e s m args below meth c sz k) : (∀ (α : List av_X) (lv : List (Nat × Value)) (st : List Value) (S1 : fw_S), as_in ad sm wd_fl2 xs S kh_isSoundCrews.2.2.2.2.2.1 α kh_isSoundCrews_a21.2.2.1 lv st S1 → (nv α 1 = 1) → 1000 + (5 - nv α 2).toNat * 10 + 9 < k + 1 → hd_W wd_fl2 kh_isSoundCrews kh_isSoundCrews_y l D tc ad kd N sm xs S p e s m args below meth c sz 21 lv st S1 0) := by
  have hx : xs.length = 1 := by rw [H0.2.1.1]; rfl
  intro α lv st S1 H hp hk
  have bp := (en_nv (i := 1) H.2.1 rfl).2
  change 0 ≤ nv α 1 ∧ nv α 1 ≤ 1 at bp
  replace H := as_clamp (i := 1) (lo := 1) (hi := 1) H rfl rfl (by have h1 := hp; omega) (by have h1 := hp; omega) (by decide)
  obtain ⟨α1, hle, Hr⟩ := as_recM (pl := []) [] (by decide +kernel) H
  have hf := H.2.2.2.2.2.2.2.2.2.2.1
  have hl1 : α1.length = 3 := by rw [Hr.2.1.1]; rfl
  have hl0 : α.length = 3 := by rw [H.2.1.1]; rfl
  have hxa : al_le xs α1 := H.1.trans hle
  obtain ⟨g1, -, g3, g4, -⟩ := as_fx Hr
  have g0 : (805 ≤ nv α1 0 ∧ nv α1 0 ≤ 805) ∧ (1 ≤ nv α1 1 ∧ nv α1 1 ≤ 1) ∧ (0 ≤ nv α1 2 ∧ nv α1 2 ≤ 4) ∧ True := by
    refine ⟨by have h := (en_nv (i := 0) Hr.2.1 rfl).2; exact h, by have h := (en_nv (i := 1) Hr.2.1 rfl).2; exact h, by have h := (en_nv (i := 2) Hr.2.1 rfl).2; exact h, trivial⟩
  have r0 : nv α1 0 = nv α 0 := nv_le hle (by omega)
  have r1 : nv α1 1 = nv α 1 := nv_le hle (by omega)
  have r2 : nv α1 2 = nv α 2 := nv_le hle (by omega)
  refine hd_segM G (na := 3) (fuel := 600) (first := true) (Bs := [kh_isSoundCrews_b21_0, kh_isSoundCrews_b21_1, kh_isSoundCrews_b21_2, kh_isSoundCrews_b21_3, kh_isSoundCrews_b21_4]) (by decide +kernel) hl1 Hr ?_
  intro q hq β lv' st' S' H1
  simp only [List.mem_cons, List.not_mem_nil, or_false] at hq
  rcases hq with rfl | rfl | rfl | rfl | rfl
  · obtain ⟨f1, f2, f3, f4, f5⟩ := as_fx H1
    simp only [kh_isSoundCrews_b21_0, fx_env, fx_c, fx_ne, fx_hf, wl_S, Nat.zero_add, Nat.reduceAdd, Nat.reduceDiv, Nat.reduceMod, List.getElem?_cons_zero, List.getElem?_cons_succ, if_true, and_true, true_and] at f1 f2 f3 f4 f5
    have fe0 : nv β 0 = 805 := by omega
    have fe1 : nv β 1 = 1 := by omega
    have fe3 : nv β 3 = 806 := by omega
    have fe4 : nv β 4 = 2400 := by omega
    have fe6 : nv β 6 = 0 := by omega
    try simp only [fe0, fe1, fe3, fe4, fe6, Int.reduceToNat] at f2 f3 f4 f5
    have s0 : nv β 0 = nv α1 0 := nv_le H1.1 (by omega)
    have s1 : nv β 1 = nv α1 1 := nv_le H1.1 (by omega)
    have s2 : nv β 2 = nv α1 2 := nv_le H1.1 (by omega)
    obtain ⟨c0, c1⟩ := f2
    obtain ⟨α', Ha, hm⟩ := hd_gpM (q := kh_isSoundCrews_a140) (n := 0) (by decide +kernel) hx H1 (by decide +kernel) hxa hf
    have hfr := H1.2.2.2.2.2.2.2.2.2.2.1
    have m0 : nv α' 0 = nv β 0 := hm 0 0 rfl
    have m1 : nv α' 1 = nv β 1 := hm 1 1 rfl
    have m2 : nv α' 2 = nv β 6 := hm 2 6 rfl
    subst S'
    refine ih.2.2.2.1 _ _ _ _ Ha ?_ ?_
    · omega
    · omega
  · obtain ⟨f1, f2, f3, f4, f5⟩ := as_fx H1
    simp only [kh_isSoundCrews_b21_1, fx_env, fx_c, fx_ne, fx_hf, wl_S, Nat.zero_add, Nat.reduceAdd, Nat.reduceDiv, Nat.reduceMod, List.getElem?_cons_zero, List.getElem?_cons_succ, if_true, and_true, true_and] at f1 f2 f3 f4 f5
    have fe0 : nv β 0 = 805 := by omega
    have fe1 : nv β 1 = 1 := by omega
    have fe3 : nv β 3 = 806 := by omega
    have fe4 : nv β 4 = 2400 := by omega
    have fe6 : nv β 6 = 806 := by omega
    have fe7 : nv β 7 = 3 := by omega
    have fe9 : nv β 9 = (-1) := by omega
    have fe10 : nv β 10 = (-1) := by omega
    have fe11 : nv β 11 = 1 := by omega
    have fe12 : nv β 12 = 0 := by omega
    try simp only [fe0, fe1, fe3, fe4, fe6, fe7, fe9, fe10, fe11, fe12, Int.reduceToNat] at f2 f3 f4 f5
    have s0 : nv β 0 = nv α1 0 := nv_le H1.1 (by omega)
    have s1 : nv β 1 = nv α1 1 := nv_le H1.1 (by omega)
    have s2 : nv β 2 = nv α1 2 := nv_le H1.1 (by omega)
    obtain ⟨c0, c1, c2, c3, c4⟩ := f2
    obtain ⟨α', Ha, hm⟩ := hd_gpM (q := kh_isSoundCrews_a90) (n := 0) (by decide +kernel) hx H1 (by decide +kernel) hxa hf
    have hfr := H1.2.2.2.2.2.2.2.2.2.2.1
    have m0 : nv α' 0 = nv β 0 := hm 0 0 rfl
    have m1 : nv α' 1 = nv β 11 := hm 1 11 rfl
    have m2 : nv α' 2 = nv β 2 := hm 2 2 rfl
    have m3 : nv α' 3 = nv β 9 := hm 3 9 rfl
    have m4 : nv α' 4 = nv β 12 := hm 4 12 rfl
    subst S'
    have o1 := old_0 c1 rfl
    have o4 := old_0 c4 rfl
    have d2 := fl1_b (by decide) (fl2_b (by decide) c2)
    simp only [wd_fl] at d2
    have hj := mck_eq (k := (nv β 2).toNat) o1 (by omega)
    have hmn : nv β 2 < (S1.1 806 2400).toInt := by rw [o4]; omega
    refine ih.2.2.1 _ _ _ _ Ha ?_ ?_
    · rw [m1, m2, m3, m4]
      exact ⟨by omega, hmn, by omega, by omega⟩
    · omega
  · obtain ⟨f1, f2, f3, f4, f5⟩ := as_fx H1
    simp only [kh_isSoundCrews_b21_2, fx_env, fx_c, fx_ne, fx_hf, wl_S, Nat.zero_add, Nat.reduceAdd, Nat.reduceDiv, Nat.reduceMod, List.getElem?_cons_zero, List.getElem?_cons_succ, if_true, and_true, true_and] at f1 f2 f3 f4 f5
    have fe0 : nv β 0 = 805 := by omega
    have fe1 : nv β 1 = 1 := by omega
    have fe3 : nv β 3 = 806 := by omega
    have fe4 : nv β 4 = 2400 := by omega
    have fe6 : nv β 6 = 806 := by omega
    have fe7 : nv β 7 = 3 := by omega
    have fe10 : nv β 10 = (-1) := by omega
    have fe11 : nv β 11 = 806 := by omega
    have fe12 : nv β 12 = 4 := by omega
    have fe15 : nv β 15 = 1 := by omega
    have fe16 : nv β 16 = 0 := by omega
    have fe17 : nv β 17 = 0 := by omega
    try simp only [fe0, fe1, fe3, fe4, fe6, fe7, fe10, fe11, fe12, fe15, fe16, fe17, Int.reduceToNat] at f2 f3 f4 f5
    have s0 : nv β 0 = nv α1 0 := nv_le H1.1 (by omega)
    have s1 : nv β 1 = nv α1 1 := nv_le H1.1 (by omega)
    have s2 : nv β 2 = nv α1 2 := nv_le H1.1 (by omega)
    obtain ⟨c0, c1, c2, c3, c4, c5, c6, c7⟩ := f2
    obtain ⟨α', Ha, hm⟩ := hd_gpM (q := kh_isSoundCrews_a90) (n := 0) (by decide +kernel) hx H1 (by decide +kernel) hxa hf
    have hfr := H1.2.2.2.2.2.2.2.2.2.2.1
    have m0 : nv α' 0 = nv β 0 := hm 0 0 rfl
    have m1 : nv α' 1 = nv β 16 := hm 1 16 rfl
    have m2 : nv α' 2 = nv β 2 := hm 2 2 rfl
    have m3 : nv α' 3 = nv β 9 := hm 3 9 rfl
    have m4 : nv α' 4 = nv β 17 := hm 4 17 rfl
    subst S'
    have o1 := old_0 c1 rfl
    have o4 := old_0 c4 rfl
    have o7 := old_0 c7 rfl
    have d2 := fl1_b (by decide) (fl2_b (by decide) c2)
    simp only [wd_fl] at d2
    have d5 := fl1_b (by decide) (fl2_b (by decide) c5)
    simp only [wd_fl] at d5
    have hj := mck_eq (k := (nv β 2).toNat) o4 (by omega)
    have hmn : nv β 2 < (S1.1 806 2400).toInt := by rw [o7]; omega
    have w510 : crewF (S1.1 806) := by
      have h := H.2.2.2.2.2.2.2.2.1 510 (by decide +kernel)
      rw [wd_fl2, if_neg (by decide)] at h
      exact h
    have hcr := w510.2.2.2.1.1 (nv β 2).toNat (by omega) (by omega)
    rw [hj] at hcr
    have hcs : False := by
      rcases hcr with e | ⟨e1, e2, e3, e4⟩
      · omega
      · have hs := mjk_eq (j := (nv β 9).toNat) (w := 4) o1 (by omega)
        rw [hs] at e3
        omega
    refine ih.2.2.1 _ _ _ _ Ha ?_ ?_
    · exact hcs.elim
    · exact hcs.elim
  · obtain ⟨f1, f2, f3, f4, f5⟩ := as_fx H1
    simp only [kh_isSoundCrews_b21_3, fx_env, fx_c, fx_ne, fx_hf, wl_S, Nat.zero_add, Nat.reduceAdd, Nat.reduceDiv, Nat.reduceMod, List.getElem?_cons_zero, List.getElem?_cons_succ, if_true, and_true, true_and] at f1 f2 f3 f4 f5
    have fe0 : nv β 0 = 805 := by omega
    have fe1 : nv β 1 = 1 := by omega
    have fe3 : nv β 3 = 806 := by omega
    have fe4 : nv β 4 = 2400 := by omega
    have fe6 : nv β 6 = 806 := by omega
    have fe7 : nv β 7 = 3 := by omega
    have fe10 : nv β 10 = (-1) := by omega
    have fe11 : nv β 11 = 806 := by omega
    have fe12 : nv β 12 = 4 := by omega
    have fe14 : nv β 14 = 1 := by omega
    have fe15 : nv β 15 = 1 := by omega
    have fe16 : nv β 16 = 806 := by omega
    have fe17 : nv β 17 = 5 := by omega
    have fe20 : nv β 20 = 0 := by omega
    have fe21 : nv β 21 = 0 := by omega
    try simp only [fe0, fe1, fe3, fe4, fe6, fe7, fe10, fe11, fe12, fe14, fe15, fe16, fe17, fe20, fe21, Int.reduceToNat] at f2 f3 f4 f5
    have s0 : nv β 0 = nv α1 0 := nv_le H1.1 (by omega)
    have s1 : nv β 1 = nv α1 1 := nv_le H1.1 (by omega)
    have s2 : nv β 2 = nv α1 2 := nv_le H1.1 (by omega)
    obtain ⟨c0, c1, c2, c3, c4, c5, c6, c7, c8, c9, c10⟩ := f2
    obtain ⟨α', Ha, hm⟩ := hd_gpM (q := kh_isSoundCrews_a90) (n := 0) (by decide +kernel) hx H1 (by decide +kernel) hxa hf
    have hfr := H1.2.2.2.2.2.2.2.2.2.2.1
    have m0 : nv α' 0 = nv β 0 := hm 0 0 rfl
    have m1 : nv α' 1 = nv β 20 := hm 1 20 rfl
    have m2 : nv α' 2 = nv β 2 := hm 2 2 rfl
    have m3 : nv α' 3 = nv β 9 := hm 3 9 rfl
    have m4 : nv α' 4 = nv β 21 := hm 4 21 rfl
    subst S'
    have o1 := old_0 c1 rfl
    have o4 := old_0 c4 rfl
    have o7 := old_0 c7 rfl
    have o10 := old_0 c10 rfl
    have d2 := fl1_b (by decide) (fl2_b (by decide) c2)
    simp only [wd_fl] at d2
    have d5 := fl1_b (by decide) (fl2_b (by decide) c5)
    simp only [wd_fl] at d5
    have d8 := fl1_b (by decide) (fl2_b (by decide) c8)
    simp only [wd_fl] at d8
    have hj := mck_eq (k := (nv β 2).toNat) o7 (by omega)
    have hmn : nv β 2 < (S1.1 806 2400).toInt := by rw [o10]; omega
    have w510 : crewF (S1.1 806) := by
      have h := H.2.2.2.2.2.2.2.2.1 510 (by decide +kernel)
      rw [wd_fl2, if_neg (by decide)] at h
      exact h
    have hcr := w510.2.2.2.1.1 (nv β 2).toNat (by omega) (by omega)
    rw [hj] at hcr
    have hcs : False := by
      rcases hcr with e | ⟨e1, e2, e3, e4⟩
      · omega
      · have hs := mjk_eq (j := (nv β 9).toNat) (w := 5) o1 (by omega)
        rw [hs] at e4
        omega
    refine ih.2.2.1 _ _ _ _ Ha ?_ ?_
    · exact hcs.elim
    · exact hcs.elim
  · obtain ⟨f1, f2, f3, f4, f5⟩ := as_fx H1
    simp only [kh_isSoundCrews_b21_4, fx_env, fx_c, fx_ne, fx_hf, wl_S, Nat.zero_add, Nat.reduceAdd, Nat.reduceDiv, Nat.reduceMod, List.getElem?_cons_zero, List.getElem?_cons_succ, if_true, and_true, true_and] at f1 f2 f3 f4 f5
    have fe0 : nv β 0 = 805 := by omega
    have fe1 : nv β 1 = 1 := by omega
    have fe3 : nv β 3 = 806 := by omega
    have fe4 : nv β 4 = 2400 := by omega
    have fe6 : nv β 6 = 806 := by omega
    have fe7 : nv β 7 = 3 := by omega
    have fe10 : nv β 10 = (-1) := by omega
    have fe11 : nv β 11 = 806 := by omega
    have fe12 : nv β 12 = 4 := by omega
    have fe14 : nv β 14 = 1 := by omega
    have fe15 : nv β 15 = 1 := by omega
    have fe16 : nv β 16 = 806 := by omega
    have fe17 : nv β 17 = 5 := by omega
    have fe20 : nv β 20 = 1 := by omega
    have fe21 : nv β 21 = 0 := by omega
    try simp only [fe0, fe1, fe3, fe4, fe6, fe7, fe10, fe11, fe12, fe14, fe15, fe16, fe17, fe20, fe21, Int.reduceToNat] at f2 f3 f4 f5
    have s0 : nv β 0 = nv α1 0 := nv_le H1.1 (by omega)
    have s1 : nv β 1 = nv α1 1 := nv_le H1.1 (by omega)
    have s2 : nv β 2 = nv α1 2 := nv_le H1.1 (by omega)
    obtain ⟨c0, c1, c2, c3, c4, c5, c6, c7, c8, c9, c10⟩ := f2
    obtain ⟨α', Ha, hm⟩ := hd_gpM (q := kh_isSoundCrews_a90) (n := 0) (by decide +kernel) hx H1 (by decide +kernel) hxa hf
    have hfr := H1.2.2.2.2.2.2.2.2.2.2.1
    have m0 : nv α' 0 = nv β 0 := hm 0 0 rfl
    have m1 : nv α' 1 = nv β 20 := hm 1 20 rfl
    have m2 : nv α' 2 = nv β 2 := hm 2 2 rfl
    have m3 : nv α' 3 = nv β 9 := hm 3 9 rfl
    have m4 : nv α' 4 = nv β 21 := hm 4 21 rfl
    subst S'
    have o1 := old_0 c1 rfl
    have o4 := old_0 c4 rfl
    have o7 := old_0 c7 rfl
    have o10 := old_0 c10 rfl
    have d2 := fl1_b (by decide) (fl2_b (by decide) c2)
    simp only [wd_fl] at d2
    have d5 := fl1_b (by decide) (fl2_b (by decide) c5)
    simp only [wd_fl] at d5
    have d8 := fl1_b (by decide) (fl2_b (by decide) c8)
    simp only [wd_fl] at d8
    have hj := mck_eq (k := (nv β 2).toNat) o7 (by omega)
    have hmn : nv β 2 < (S1.1 806 2400).toInt := by rw [o10]; omega
    refine ih.2.2.1 _ _ _ _ Ha ?_ ?_
    · rw [m1, m2, m3, m4]
      exact ⟨by omega, hmn, by omega, by omega⟩
    · omega
set_option maxHeartbeats 16000000 in
set_option maxRecDepth 8000 in
theorem kh_isSoundCrews_h90 {l : Launch} {D : va_G} {tc : Nat → ClassId} {ad : Nat → Nat} {kd : Nat → Nat × Nat} {N : Nat} {sm : Nat → Nat} {xs : List av_X} {S : fw_S} {p : Program} {e : Env} {s : State} {m : MethodId} {args : Array Value} {below : List Frame} {meth : Method} {c : Code} {sz : Nat} {lvE : List (Nat × Value)} (G : hd_C wd_ff2 wd_fl2 kh_isSoundCrews [kh_645, kh_cOpen, kh_cC3, kh_cJ4, kh_cJ5, kh_cFirst] kh_isSoundCrews_y l D tc ad kd N sm xs p s m args meth c sz) (H0 : as_in ad sm wd_fl2 xs S kh_isSoundCrews.2.2.2.2.2.1 xs (hd_0 kh_isSoundCrews) lvE [] S) {k : Nat} (ih : kh_isSoundCrews_I l D tc ad kd N sm xs S p e s m args below meth c sz k) : (∀ (α : List av_X) (lv : List (Nat × Value)) (st : List Value) (S1 : fw_S), as_in ad sm wd_fl2 xs S kh_isSoundCrews.2.2.2.2.2.1 α kh_isSoundCrews_a90.2.2.1 lv st S1 → (nv α 1 = 1 ∧ nv α 2 < (S1.1 806 2400).toInt ∧ nv α 3 = mck (S1.1 806) (nv α 2).toNat 3 ∧ 0 ≤ nv α 4) → 1000 + (5 - nv α 2).toNat * 10 + (4 - nv α 4).toNat < k + 1 → hd_W wd_fl2 kh_isSoundCrews kh_isSoundCrews_y l D tc ad kd N sm xs S p e s m args below meth c sz 90 lv st S1 0) := by
  have hx : xs.length = 1 := by rw [H0.2.1.1]; rfl
  intro α lv st S1 H hp hk
  have bp := (en_nv (i := 1) H.2.1 rfl).2
  change 0 ≤ nv α 1 ∧ nv α 1 ≤ 1 at bp
  replace H := as_clamp (i := 1) (lo := 1) (hi := 1) H rfl rfl (by have h1 := hp.1; omega) (by have h1 := hp.1; omega) (by decide)
  obtain ⟨α1, hle, Hr⟩ := as_recM (pl := []) [] (by decide +kernel) H
  have hf := H.2.2.2.2.2.2.2.2.2.2.1
  have hl1 : α1.length = 5 := by rw [Hr.2.1.1]; rfl
  have hl0 : α.length = 5 := by rw [H.2.1.1]; rfl
  have hxa : al_le xs α1 := H.1.trans hle
  obtain ⟨g1, -, g3, g4, -⟩ := as_fx Hr
  have g0 : (805 ≤ nv α1 0 ∧ nv α1 0 ≤ 805) ∧ (1 ≤ nv α1 1 ∧ nv α1 1 ≤ 1) ∧ (0 ≤ nv α1 2 ∧ nv α1 2 ≤ 3) ∧ ((-1) ≤ nv α1 3 ∧ nv α1 3 ≤ 199) ∧ (0 ≤ nv α1 4 ∧ nv α1 4 ≤ 3) ∧ True := by
    refine ⟨by have h := (en_nv (i := 0) Hr.2.1 rfl).2; exact h, by have h := (en_nv (i := 1) Hr.2.1 rfl).2; exact h, by have h := (en_nv (i := 2) Hr.2.1 rfl).2; exact h, by have h := (en_nv (i := 3) Hr.2.1 rfl).2; exact h, by have h := (en_nv (i := 4) Hr.2.1 rfl).2; exact h, trivial⟩
  have r0 : nv α1 0 = nv α 0 := nv_le hle (by omega)
  have r1 : nv α1 1 = nv α 1 := nv_le hle (by omega)
  have r2 : nv α1 2 = nv α 2 := nv_le hle (by omega)
  have r3 : nv α1 3 = nv α 3 := nv_le hle (by omega)
  have r4 : nv α1 4 = nv α 4 := nv_le hle (by omega)
  refine hd_segM G (na := 5) (fuel := 600) (first := true) (Bs := [kh_isSoundCrews_b90_0, kh_isSoundCrews_b90_1, kh_isSoundCrews_b90_2, kh_isSoundCrews_b90_3]) (by decide +kernel) hl1 Hr ?_
  intro q hq β lv' st' S' H1
  simp only [List.mem_cons, List.not_mem_nil, or_false] at hq
  rcases hq with rfl | rfl | rfl | rfl
  · obtain ⟨f1, f2, f3, f4, f5⟩ := as_fx H1
    simp only [kh_isSoundCrews_b90_0, fx_env, fx_c, fx_ne, fx_hf, wl_S, Nat.zero_add, Nat.reduceAdd, Nat.reduceDiv, Nat.reduceMod, List.getElem?_cons_zero, List.getElem?_cons_succ, if_true, and_true, true_and] at f1 f2 f3 f4 f5
    have fe0 : nv β 0 = 805 := by omega
    have fe1 : nv β 1 = 1 := by omega
    try simp only [fe0, fe1, Int.reduceToNat] at f2 f3 f4 f5
    have s0 : nv β 0 = nv α1 0 := nv_le H1.1 (by omega)
    have s1 : nv β 1 = nv α1 1 := nv_le H1.1 (by omega)
    have s2 : nv β 2 = nv α1 2 := nv_le H1.1 (by omega)
    have s3 : nv β 3 = nv α1 3 := nv_le H1.1 (by omega)
    have s4 : nv β 4 = nv α1 4 := nv_le H1.1 (by omega)
    have c0 := f2
    obtain ⟨α', Ha, hm⟩ := hd_gpM (q := kh_isSoundCrews_a21) (n := 0) (by decide +kernel) hx H1 (by decide +kernel) hxa hf
    have hfr := H1.2.2.2.2.2.2.2.2.2.2.1
    have m0 : nv α' 0 = nv β 0 := hm 0 0 rfl
    have m1 : nv α' 1 = nv β 1 := hm 1 1 rfl
    have m2 : nv α' 2 = nv β 5 := hm 2 5 rfl
    subst S'
    refine ih.2.1 _ _ _ _ Ha ?_ ?_
    · omega
    · omega
  · obtain ⟨f1, f2, f3, f4, f5⟩ := as_fx H1
    simp only [kh_isSoundCrews_b90_1, fx_env, fx_c, fx_ne, fx_hf, wl_S, Nat.zero_add, Nat.reduceAdd, Nat.reduceDiv, Nat.reduceMod, List.getElem?_cons_zero, List.getElem?_cons_succ, if_true, and_true, true_and] at f1 f2 f3 f4 f5
    have fe0 : nv β 0 = 805 := by omega
    have fe1 : nv β 1 = 1 := by omega
    have fe3 : nv β 3 = (-1) := by omega
    have fe5 : nv β 5 = (-1) := by omega
    have fe6 : nv β 6 = 1 := by omega
    try simp only [fe0, fe1, fe3, fe5, fe6, Int.reduceToNat] at f2 f3 f4 f5
    have s0 : nv β 0 = nv α1 0 := nv_le H1.1 (by omega)
    have s1 : nv β 1 = nv α1 1 := nv_le H1.1 (by omega)
    have s2 : nv β 2 = nv α1 2 := nv_le H1.1 (by omega)
    have s3 : nv β 3 = nv α1 3 := nv_le H1.1 (by omega)
    have s4 : nv β 4 = nv α1 4 := nv_le H1.1 (by omega)
    obtain ⟨c0, c1⟩ := f2
    obtain ⟨α', Ha, hm⟩ := hd_gpM (q := kh_isSoundCrews_a90) (n := 0) (by decide +kernel) hx H1 (by decide +kernel) hxa hf
    have hfr := H1.2.2.2.2.2.2.2.2.2.2.1
    have m0 : nv α' 0 = nv β 0 := hm 0 0 rfl
    have m1 : nv α' 1 = nv β 6 := hm 1 6 rfl
    have m2 : nv α' 2 = nv β 2 := hm 2 2 rfl
    have m3 : nv α' 3 = nv β 3 := hm 3 3 rfl
    have m4 : nv α' 4 = nv β 7 := hm 4 7 rfl
    subst S'

    refine ih.2.2.1 _ _ _ _ Ha ?_ ?_
    · rw [m1, m2, m3, m4, s2, r2, s3, r3]
      exact ⟨by omega, hp.2.1, hp.2.2.1, by omega⟩
    · omega
  · obtain ⟨f1, f2, f3, f4, f5⟩ := as_fx H1
    simp only [kh_isSoundCrews_b90_2, fx_env, fx_c, fx_ne, fx_hf, wl_S, Nat.zero_add, Nat.reduceAdd, Nat.reduceDiv, Nat.reduceMod, List.getElem?_cons_zero, List.getElem?_cons_succ, if_true, and_true, true_and] at f1 f2 f3 f4 f5
    have fe0 : nv β 0 = 805 := by omega
    have fe1 : nv β 1 = 1 := by omega
    have fe5 : nv β 5 = (-1) := by omega
    have fe6 : nv β 6 = 806 := by omega
    have fe7 : nv β 7 = 3 := by omega
    have fe10 : nv β 10 = 0 := by omega
    try simp only [fe0, fe1, fe5, fe6, fe7, fe10, Int.reduceToNat] at f2 f3 f4 f5
    have s0 : nv β 0 = nv α1 0 := nv_le H1.1 (by omega)
    have s1 : nv β 1 = nv α1 1 := nv_le H1.1 (by omega)
    have s2 : nv β 2 = nv α1 2 := nv_le H1.1 (by omega)
    have s3 : nv β 3 = nv α1 3 := nv_le H1.1 (by omega)
    have s4 : nv β 4 = nv α1 4 := nv_le H1.1 (by omega)
    obtain ⟨c0, c1, c2, c3, c4⟩ := f2
    obtain ⟨α', Ha, hm⟩ := hd_gpM (q := kh_isSoundCrews_a90) (n := 0) (by decide +kernel) hx H1 (by decide +kernel) hxa hf
    have hfr := H1.2.2.2.2.2.2.2.2.2.2.1
    have m0 : nv α' 0 = nv β 0 := hm 0 0 rfl
    have m1 : nv α' 1 = nv β 10 := hm 1 10 rfl
    have m2 : nv α' 2 = nv β 2 := hm 2 2 rfl
    have m3 : nv α' 3 = nv β 3 := hm 3 3 rfl
    have m4 : nv α' 4 = nv β 11 := hm 4 11 rfl
    subst S'
    have o1 := old_0 c1 rfl
    have d2 := fl1_b (by decide) (fl2_b (by decide) c2)
    simp only [wd_fl] at d2
    have w510 : crewF (S1.1 806) := by
      have h := H.2.2.2.2.2.2.2.2.1 510 (by decide +kernel)
      rw [wd_fl2, if_neg (by decide)] at h
      exact h
    have hj := mck_eq (k := (nv β 4).toNat) o1 (by omega)
    obtain ⟨p1, p2, p3, p4⟩ := hp
    have hcs : False := by
      have h1 := w510.2.2.2.1.1 (nv α 2).toNat (by omega) (by omega)
      have h2 := w510.2.2.2.1.1 (nv β 4).toNat (by omega) (by omega)
      rw [hj] at h2
      rw [← p3] at h1
      rcases h1 with e | ⟨e1, e2, e3, e4⟩
      · omega
      · rcases h2 with e' | ⟨e1', e2', e3', e4'⟩
        · omega
        · rw [show (nv β 9).toNat = (nv α 3).toNat by omega] at e4'
          omega
    refine ih.2.2.1 _ _ _ _ Ha ?_ ?_
    · exact hcs.elim
    · exact hcs.elim
  · obtain ⟨f1, f2, f3, f4, f5⟩ := as_fx H1
    simp only [kh_isSoundCrews_b90_3, fx_env, fx_c, fx_ne, fx_hf, wl_S, Nat.zero_add, Nat.reduceAdd, Nat.reduceDiv, Nat.reduceMod, List.getElem?_cons_zero, List.getElem?_cons_succ, if_true, and_true, true_and] at f1 f2 f3 f4 f5
    have fe0 : nv β 0 = 805 := by omega
    have fe1 : nv β 1 = 1 := by omega
    have fe5 : nv β 5 = (-1) := by omega
    have fe6 : nv β 6 = 806 := by omega
    have fe7 : nv β 7 = 3 := by omega
    have fe10 : nv β 10 = 1 := by omega
    try simp only [fe0, fe1, fe5, fe6, fe7, fe10, Int.reduceToNat] at f2 f3 f4 f5
    have s0 : nv β 0 = nv α1 0 := nv_le H1.1 (by omega)
    have s1 : nv β 1 = nv α1 1 := nv_le H1.1 (by omega)
    have s2 : nv β 2 = nv α1 2 := nv_le H1.1 (by omega)
    have s3 : nv β 3 = nv α1 3 := nv_le H1.1 (by omega)
    have s4 : nv β 4 = nv α1 4 := nv_le H1.1 (by omega)
    obtain ⟨c0, c1, c2, c3, c4⟩ := f2
    obtain ⟨α', Ha, hm⟩ := hd_gpM (q := kh_isSoundCrews_a90) (n := 0) (by decide +kernel) hx H1 (by decide +kernel) hxa hf
    have hfr := H1.2.2.2.2.2.2.2.2.2.2.1
    have m0 : nv α' 0 = nv β 0 := hm 0 0 rfl
    have m1 : nv α' 1 = nv β 10 := hm 1 10 rfl
    have m2 : nv α' 2 = nv β 2 := hm 2 2 rfl
    have m3 : nv α' 3 = nv β 3 := hm 3 3 rfl
    have m4 : nv α' 4 = nv β 11 := hm 4 11 rfl
    subst S'
    have o1 := old_0 c1 rfl
    have d2 := fl1_b (by decide) (fl2_b (by decide) c2)
    simp only [wd_fl] at d2
    refine ih.2.2.1 _ _ _ _ Ha ?_ ?_
    · rw [m1, m2, m3, m4, s2, r2, s3, r3]
      exact ⟨by omega, hp.2.1, hp.2.2.1, by omega⟩
    · omega
set_option maxHeartbeats 16000000 in
set_option maxRecDepth 8000 in
theorem kh_isSoundCrews_h140 {l : Launch} {D : va_G} {tc : Nat → ClassId} {ad : Nat → Nat} {kd : Nat → Nat × Nat} {N : Nat} {sm : Nat → Nat} {xs : List av_X} {S : fw_S} {p : Program} {e : Env} {s : State} {m : MethodId} {args : Array Value} {below : List Frame} {meth : Method} {c : Code} {sz : Nat} {lvE : List (Nat × Value)} (G : hd_C wd_ff2 wd_fl2 kh_isSoundCrews [kh_645, kh_cOpen, kh_cC3, kh_cJ4, kh_cJ5, kh_cFirst] kh_isSoundCrews_y l D tc ad kd N sm xs p s m args meth c sz) (H0 : as_in ad sm wd_fl2 xs S kh_isSoundCrews.2.2.2.2.2.1 xs (hd_0 kh_isSoundCrews) lvE [] S) {k : Nat} (ih : kh_isSoundCrews_I l D tc ad kd N sm xs S p e s m args below meth c sz k) : (∀ (α : List av_X) (lv : List (Nat × Value)) (st : List Value) (S1 : fw_S), as_in ad sm wd_fl2 xs S kh_isSoundCrews.2.2.2.2.2.1 α kh_isSoundCrews_a140.2.2.1 lv st S1 → (nv α 1 = 1) → (5 - nv α 2).toNat < k + 1 → hd_W wd_fl2 kh_isSoundCrews kh_isSoundCrews_y l D tc ad kd N sm xs S p e s m args below meth c sz 140 lv st S1 0) := by
  have hx : xs.length = 1 := by rw [H0.2.1.1]; rfl
  intro α lv st S1 H hp hk
  have bp := (en_nv (i := 1) H.2.1 rfl).2
  change 0 ≤ nv α 1 ∧ nv α 1 ≤ 1 at bp
  replace H := as_clamp (i := 1) (lo := 1) (hi := 1) H rfl rfl (by have h1 := hp; omega) (by have h1 := hp; omega) (by decide)
  obtain ⟨α1, hle, Hr⟩ := as_recM (pl := []) [] (by decide +kernel) H
  have hf := H.2.2.2.2.2.2.2.2.2.2.1
  have hl1 : α1.length = 3 := by rw [Hr.2.1.1]; rfl
  have hl0 : α.length = 3 := by rw [H.2.1.1]; rfl
  have hxa : al_le xs α1 := H.1.trans hle
  obtain ⟨g1, -, g3, g4, -⟩ := as_fx Hr
  have g0 : (805 ≤ nv α1 0 ∧ nv α1 0 ≤ 805) ∧ (1 ≤ nv α1 1 ∧ nv α1 1 ≤ 1) ∧ (0 ≤ nv α1 2 ∧ nv α1 2 ≤ 4) ∧ True := by
    refine ⟨by have h := (en_nv (i := 0) Hr.2.1 rfl).2; exact h, by have h := (en_nv (i := 1) Hr.2.1 rfl).2; exact h, by have h := (en_nv (i := 2) Hr.2.1 rfl).2; exact h, trivial⟩
  have r0 : nv α1 0 = nv α 0 := nv_le hle (by omega)
  have r1 : nv α1 1 = nv α 1 := nv_le hle (by omega)
  have r2 : nv α1 2 = nv α 2 := nv_le hle (by omega)
  refine hd_segM G (na := 3) (fuel := 600) (first := true) (Bs := [kh_isSoundCrews_b140_0, kh_isSoundCrews_b140_1, kh_isSoundCrews_b140_2]) (by decide +kernel) hl1 Hr ?_
  intro q hq β lv' st' S' H1
  simp only [List.mem_cons, List.not_mem_nil, or_false] at hq
  rcases hq with rfl | rfl | rfl
  · obtain ⟨f1, f2, f3, f4, f5⟩ := as_fx H1
    simp only [kh_isSoundCrews_b140_0, fx_env, fx_c, fx_ne, fx_hf, wl_S, Nat.zero_add, Nat.reduceAdd, Nat.reduceDiv, Nat.reduceMod, List.getElem?_cons_zero, List.getElem?_cons_succ, if_true, and_true, true_and] at f1 f2 f3 f4 f5
    have fe0 : nv β 0 = 805 := by omega
    have fe1 : nv β 1 = 1 := by omega
    have fe2 : nv β 2 = 4 := by omega
    have fe3 : nv β 3 = 4 := by omega
    try simp only [fe0, fe1, fe2, fe3, Int.reduceToNat] at f2 f3 f4 f5
    have s0 : nv β 0 = nv α1 0 := nv_le H1.1 (by omega)
    have s1 : nv β 1 = nv α1 1 := nv_le H1.1 (by omega)
    have s2 : nv β 2 = nv α1 2 := nv_le H1.1 (by omega)
    have c0 := f2
    exact hd_run G (ss := []) (fuel := 20) (by decide +kernel) (as_backM H1 (by decide +kernel) hxa hf)
  · obtain ⟨f1, f2, f3, f4, f5⟩ := as_fx H1
    simp only [kh_isSoundCrews_b140_1, fx_env, fx_c, fx_ne, fx_hf, wl_S, Nat.zero_add, Nat.reduceAdd, Nat.reduceDiv, Nat.reduceMod, List.getElem?_cons_zero, List.getElem?_cons_succ, if_true, and_true, true_and] at f1 f2 f3 f4 f5
    have fe0 : nv β 0 = 805 := by omega
    have fe1 : nv β 1 = 1 := by omega
    have fe3 : nv β 3 = 4 := by omega
    have fe4 : nv β 4 = 806 := by omega
    have fe5 : nv β 5 = 4060 := by omega
    have fe9 : nv β 9 = 806 := by omega
    have fe10 : nv β 10 = 4072 := by omega
    have fe14 : nv β 14 = 806 := by omega
    have fe15 : nv β 15 = 4076 := by omega
    have fe19 : nv β 19 = 806 := by omega
    have fe20 : nv β 20 = 4068 := by omega
    have fe24 : nv β 24 = 0 := by omega
    try simp only [fe0, fe1, fe3, fe4, fe5, fe9, fe10, fe14, fe15, fe19, fe20, fe24, Int.reduceToNat] at f2 f3 f4 f5
    have s0 : nv β 0 = nv α1 0 := nv_le H1.1 (by omega)
    have s1 : nv β 1 = nv α1 1 := nv_le H1.1 (by omega)
    have s2 : nv β 2 = nv α1 2 := nv_le H1.1 (by omega)
    obtain ⟨c0, c1, c2, c3, c4, c5, c6, c7, c8, c9, c10, c11, c12, c13⟩ := f2
    obtain ⟨α', Ha, hm⟩ := hd_gpM (q := kh_isSoundCrews_a140) (n := 0) (by decide +kernel) hx H1 (by decide +kernel) hxa hf
    have hfr := H1.2.2.2.2.2.2.2.2.2.2.1
    have m0 : nv α' 0 = nv β 0 := hm 0 0 rfl
    have m1 : nv α' 1 = nv β 24 := hm 1 24 rfl
    have m2 : nv α' 2 = nv β 25 := hm 2 25 rfl
    subst S'
    have o2 := old_0 c2 rfl
    have o5 := old_0 c5 rfl
    have o8 := old_0 c8 rfl
    have o11 := old_0 c11 rfl
    have d10 := c10
    simp only [wd_fl2, if_neg (show ¬ (wd_base1 21 = true) by decide)] at d10
    have w513 : stF (S1.1 806) := by
      have h := H.2.2.2.2.2.2.2.2.1 513 (by decide +kernel)
      rw [wd_fl2, if_neg (by decide)] at h
      exact h
    have hq := w513 (nv β 2).toNat (by omega)
    rw [show 4060 + (nv β 2).toNat = (nv β 6).toNat by omega, show 4072 + (nv β 2).toNat = (nv β 11).toNat by omega, show 4076 + (nv β 2).toNat = (nv β 16).toNat by omega, show 4068 + (nv β 2).toNat = (nv β 21).toNat by omega, o11, o8, o5, o2, ← d10] at hq
    refine ih.2.2.2.1 _ _ _ _ Ha ?_ ?_
    · exfalso; omega
    · exfalso; omega
  · obtain ⟨f1, f2, f3, f4, f5⟩ := as_fx H1
    simp only [kh_isSoundCrews_b140_2, fx_env, fx_c, fx_ne, fx_hf, wl_S, Nat.zero_add, Nat.reduceAdd, Nat.reduceDiv, Nat.reduceMod, List.getElem?_cons_zero, List.getElem?_cons_succ, if_true, and_true, true_and] at f1 f2 f3 f4 f5
    have fe0 : nv β 0 = 805 := by omega
    have fe1 : nv β 1 = 1 := by omega
    have fe3 : nv β 3 = 4 := by omega
    have fe4 : nv β 4 = 806 := by omega
    have fe5 : nv β 5 = 4060 := by omega
    have fe9 : nv β 9 = 806 := by omega
    have fe10 : nv β 10 = 4072 := by omega
    have fe14 : nv β 14 = 806 := by omega
    have fe15 : nv β 15 = 4076 := by omega
    have fe19 : nv β 19 = 806 := by omega
    have fe20 : nv β 20 = 4068 := by omega
    have fe24 : nv β 24 = 1 := by omega
    try simp only [fe0, fe1, fe3, fe4, fe5, fe9, fe10, fe14, fe15, fe19, fe20, fe24, Int.reduceToNat] at f2 f3 f4 f5
    have s0 : nv β 0 = nv α1 0 := nv_le H1.1 (by omega)
    have s1 : nv β 1 = nv α1 1 := nv_le H1.1 (by omega)
    have s2 : nv β 2 = nv α1 2 := nv_le H1.1 (by omega)
    obtain ⟨c0, c1, c2, c3, c4, c5, c6, c7, c8, c9, c10, c11, c12, c13⟩ := f2
    obtain ⟨α', Ha, hm⟩ := hd_gpM (q := kh_isSoundCrews_a140) (n := 0) (by decide +kernel) hx H1 (by decide +kernel) hxa hf
    have hfr := H1.2.2.2.2.2.2.2.2.2.2.1
    have m0 : nv α' 0 = nv β 0 := hm 0 0 rfl
    have m1 : nv α' 1 = nv β 24 := hm 1 24 rfl
    have m2 : nv α' 2 = nv β 25 := hm 2 25 rfl
    subst S'
    refine ih.2.2.2.1 _ _ _ _ Ha ?_ ?_
    · omega
    · omega
set_option maxHeartbeats 16000000 in
set_option maxRecDepth 8000 in
theorem kh_isSoundCrews_ok : ct_ok wd_fl2 kh_isSoundCrews := ct_hand (ff := wd_ff2) (y := kh_isSoundCrews_y) (Cs := [kh_645, kh_cOpen, kh_cC3, kh_cJ4, kh_cJ5, kh_cFirst]) wd_fl2_ok rfl (List.forall_mem_cons.mpr ⟨kh_645_ok, (List.forall_mem_cons.mpr ⟨kh_cOpen_ok, (List.forall_mem_cons.mpr ⟨kh_cC3_ok, (List.forall_mem_cons.mpr ⟨kh_cJ4_ok, (List.forall_mem_cons.mpr ⟨kh_cJ5_ok, (List.forall_mem_cons.mpr ⟨kh_cFirst_ok, (List.forall_mem_nil _)⟩)⟩)⟩)⟩)⟩)⟩) (by decide +kernel) (fun l D tc ad kd N sm xs S p e s m args below meth c sz lv G H0 => by
  have hx : xs.length = 1 := by rw [H0.2.1.1]; rfl
  have hP : ∀ (k : Nat), kh_isSoundCrews_I l D tc ad kd N sm xs S p e s m args below meth c sz k := by
    intro k
    induction k with
    | zero => exact ⟨fun _ _ _ _ _ _ h => absurd h (Nat.not_lt_zero _), fun _ _ _ _ _ _ h => absurd h (Nat.not_lt_zero _), fun _ _ _ _ _ _ h => absurd h (Nat.not_lt_zero _), fun _ _ _ _ _ _ h => absurd h (Nat.not_lt_zero _), trivial⟩
    | succ k ih => exact ⟨kh_isSoundCrews_h4 G H0 ih, kh_isSoundCrews_h21 G H0 ih, kh_isSoundCrews_h90 G H0 ih, kh_isSoundCrews_h140 G H0 ih, trivial⟩
  obtain ⟨α1, hle, Hr⟩ := as_recM (pl := []) [((805, 805), (8, 8, 0))] (by decide +kernel) H0
  have hf := H0.2.2.2.2.2.2.2.2.2.2.1
  have hl1 : α1.length = 1 := by rw [Hr.2.1.1]; rfl
  have hl0 : xs.length = 1 := by rw [H0.2.1.1]; rfl
  have hxa : al_le xs α1 := H0.1.trans hle
  obtain ⟨g1, -, g3, g4, -⟩ := as_fx Hr
  have g0 : (805 ≤ nv α1 0 ∧ nv α1 0 ≤ 805) ∧ True := by
    refine ⟨by have h := (en_nv (i := 0) Hr.2.1 rfl).2; exact h, trivial⟩
  have r0 : nv α1 0 = nv xs 0 := nv_le hle (by omega)
  refine hd_segM G (na := 1) (fuel := 600) (first := true) (Bs := [kh_isSoundCrews_b0_0]) (by decide +kernel) hl1 Hr ?_
  intro q hq β lv' st' S' H1
  simp only [List.mem_cons, List.not_mem_nil, or_false] at hq
  rcases hq with rfl
  · obtain ⟨f1, f2, f3, f4, f5⟩ := as_fx H1
    simp only [kh_isSoundCrews_b0_0, fx_env, fx_c, fx_ne, fx_hf, wl_S, Nat.zero_add, Nat.reduceAdd, Nat.reduceDiv, Nat.reduceMod, List.getElem?_cons_zero, List.getElem?_cons_succ, if_true, and_true, true_and] at f1 f2 f3 f4 f5
    have fe0 : nv β 0 = 805 := by omega
    try simp only [fe0, Int.reduceToNat] at f2 f3 f4 f5
    have s0 : nv β 0 = nv α1 0 := nv_le H1.1 (by omega)
    obtain ⟨α', Ha, hm⟩ := hd_gpM (q := kh_isSoundCrews_a4) (n := 0) (by decide +kernel) hx H1 (by decide +kernel) hxa hf
    have hfr := H1.2.2.2.2.2.2.2.2.2.2.1
    have m0 : nv α' 0 = nv β 0 := hm 0 0 rfl
    refine (hP _).1 _ _ _ _ Ha ?_ (Nat.lt_succ_self _)
    · trivial)
