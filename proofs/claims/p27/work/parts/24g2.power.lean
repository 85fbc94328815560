/-! ===== the class: islands, flows ===== -/
theorem wy_first {F V M : Int → Int} {r st : Int} (h : wyI F V M r st) (hs : 0 ≤ st ∧ st ≤ 11) : M 0 = st := by
  obtain ⟨q1, q2, q3, q4, -⟩ := h.2.2.2.1 0 (by omega) (by have := h.1; omega)
  exact (h.2.2.2.2 (M 0) q1 q2).2.1 (by omega)
theorem wy_step {F V M : Int → Int} {r st k : Int} (h : wyI F V M r st) (h1 : 1 ≤ k) (h2 : k < r) : 0 ≤ othT (V (M k)) (M k) ∧ othT (V (M k)) (M k) ≤ 11 := by
  obtain ⟨q1, q2, q3, q4, q5⟩ := h.2.2.2.1 k (by omega) h2
  obtain ⟨w1, w2, -⟩ := (h.2.2.2.2 (M k) q1 q2).2.2 (q5 h1)
  exact ⟨w1, w2⟩
theorem wyI_eq {S S' : fw_S} {st : Int} (h4 : S'.1 4 = S.1 4) (h5 : S'.1 5 = S.1 5) (h6 : S'.1 6 = S.1 6) (h2 : S'.1 2 4 = S.1 2 4) (h : wyI (yF S) (yV S) (yM S) (yR S) st) : wyI (yF S') (yV S') (yM S') (yR S') st := by
  have e4 : yF S' = yF S := funext fun c => by unfold yF; rw [h4]
  have e5 : yV S' = yV S := funext fun c => by unfold yV; rw [h5]
  have e6 : yM S' = yM S := funext fun c => by unfold yM; rw [h6]
  have e2 : yR S' = yR S := by unfold yR; rw [h2]
  rw [e4, e5, e6, e2]
  exact h
/- java/util/Arrays fill -/
def kh_1002 : ct_T := (6, [(2, 106, 106, 1), (0, (-1), (-1), 0)], [], [], [(0, (0, 0, 0, 0), [(2, 106, 106, 1), (0, (-1), (-1), 0)], [], ([], []))], [((106, 106), (0, 11, 1))], 0, 0, 0)
theorem kh_1002_ok : ct_ok wd_fl2 kh_1002 := ct_of (ff := wd_ff2) (y := (⟨"java/util/Arrays", "fill", "([II)V"⟩, prog_24_method_103_code, 4, none, 14, 0, 2, 22056, 22055, 0, 21008)) (Cs := []) (an := [(5, 0, ([((2, 106, 106, 1), none), ((0, (-1), (-1), 0), none), ((0, 0, 12, 1), none), ((0, 12, 12, 0), none)], [(0, 0), (1, 1), (2, 2), (3, 3)], [], [], [], [], [], [], none), [(0, 0, 99995), (1, 2, 12), (0, 0, 99995)])]) (ss := []) (K := 3) (fuel := 4000) wd_fl2_ok rfl (List.forall_mem_nil _) (by decide +kernel)
abbrev kh_label_y : mt_T := (⟨"UtilityWorks$Power", "label", "(LUtilityWorks$Town;)V"⟩, prog_7_method_5_code, 5, none, 5, 1, 1, 23237, 23236, 3, 21005)
def kh_label : ct_T := (22, [(2, 97, 97, 1), (2, 1, 1, 1)], [], [520, 521, 522], [(0, (0, 0, 0, 0), [(2, 97, 97, 1), (2, 1, 1, 1)], [((106, 106), (0, 11, 1), (0, 0, 11, 1))], ([520, 521, 522], []))], [((2, 2), (4, 4, 0)), ((3, 3), (0, 16, 1)), ((4, 4), (0, 11, 1)), ((5, 5), (0, 11, 1)), ((6, 6), (0, 11, 1)), ((106, 106), (0, 11, 1))], 1, 28, 0)
def kh_label_a7 : an_T := (7, 0, ([((2, 97, 97, 1), none), ((2, 1, 1, 1), none), ((2, 2, 2, 1), none), ((0, 0, 17, 1), none)], [(0, 0), (1, 1), (2, 2), (3, 3)], [], [], [], [], [], [520, 521, 522], none), [])
def kh_label_a41 : an_T := (41, 0, ([((2, 97, 97, 1), none), ((2, 1, 1, 1), none), ((2, 2, 2, 1), none), ((0, 0, 12, 1), none)], [(0, 0), (1, 1), (2, 2), (3, 3)], [], [], [], [], [], [520, 521, 522], none), [])
def kh_label_a68 : an_T := (68, 0, ([((2, 97, 97, 1), none), ((2, 1, 1, 1), none), ((2, 2, 2, 1), none), ((0, 0, 11, 1), none), ((0, 99, 99, 0), none), ((2, 96, 96, 1), none), ((0, 0, 11, 1), none), ((2, 2, 2, 1), none)], [(0, 0), (1, 1), (2, 2), (3, 3)], [4, 5, 6, 7], [], [], [], [], [520, 521, 522], none), [])
def kh_label_a71 : an_T := (71, 0, ([((2, 97, 97, 1), none), ((2, 1, 1, 1), none), ((2, 2, 2, 1), none), ((0, 0, 11, 1), none)], [(0, 0), (1, 1), (2, 2), (3, 3)], [], [], [], [], [], [520, 521, 522, 601], none), [])
def kh_label_a74 : an_T := (74, 0, ([((2, 97, 97, 1), none), ((2, 1, 1, 1), none), ((2, 2, 2, 1), none), ((0, 0, 11, 1), none), ((0, 0, 12, 1), none)], [(0, 0), (1, 1), (2, 2), (3, 3), (4, 4)], [], [], [], [], [], [520, 521, 522, 601], none), [])
def kh_label_b0_0 : sg_T := (7, 0, ([((2, 97, 97, 1), none), ((2, 1, 1, 1), none), ((2, 2, 2, 1), none), ((0, 0, 0, 0), none)], [(3, 3), (2, 2), (0, 0), (1, 1)], [], [], [], [], [], [520, 521, 522], some []))
def kh_label_b7_0 : sg_T := (41, 0, ([((2, 97, 97, 1), none), ((2, 1, 1, 1), none), ((2, 2, 2, 1), none), ((0, 17, 17, 1), none), ((0, 17, 17, 0), none), ((2, 106, 106, 1), none), ((0, (-1), (-1), 0), none), ((0, 0, 0, 0), none)], [(3, 7), (0, 0), (1, 1), (2, 2)], [], [], [], [(200000, 4, 3)], [], [520, 521, 522], none))
def kh_label_b7_1 : sg_T := (7, 0, ([((2, 97, 97, 1), none), ((2, 1, 1, 1), none), ((2, 2, 2, 1), none), ((0, 0, 16, 1), none), ((0, 17, 17, 0), none), ((2, 3, 3, 1), none), ((2, 105, 105, 1), none), ((0, 0, 1, 1), none), ((0, 1, 17, 1), some (3, 1))], [(3, 8), (0, 0), (1, 1), (2, 2)], [], [(5, 3, 7), (6, 3, 7)], [], [(800007, 6, 3), (100000, 3, 4)], [], [520, 521, 522], some [(5, 3, 7)]))
def kh_label_b41_0 : sg_T := (108, 0, ([((2, 97, 97, 1), none), ((2, 1, 1, 1), none), ((2, 2, 2, 1), none), ((0, 12, 12, 1), none), ((0, 12, 12, 0), none)], [(0, 0), (1, 1), (2, 2), (3, 3)], [], [], [], [(200000, 4, 3)], [], [520, 521, 522], some []))
def kh_label_b41_1 : sg_T := (41, 0, ([((2, 97, 97, 1), none), ((2, 1, 1, 1), none), ((2, 2, 2, 1), none), ((0, 0, 11, 1), none), ((0, 12, 12, 0), none), ((2, 106, 106, 1), none), ((0, 0, 11, 1), none), ((0, (-1), (-1), 0), none), ((0, 1, 12, 1), some (3, 1))], [(3, 8), (0, 0), (1, 1), (2, 2)], [], [(5, 3, 6)], [(6, (-1))], [(400000, 6, 7), (800006, 5, 3), (100000, 3, 4)], [], [520, 521, 522], some []))
def kh_label_b41_2 : sg_T := (68, 0, ([((2, 97, 97, 1), none), ((2, 1, 1, 1), none), ((2, 2, 2, 1), none), ((0, 0, 11, 1), none), ((0, 12, 12, 0), none), ((2, 106, 106, 1), none), ((0, (-1), (-1), 1), none), ((0, (-1), (-1), 0), none), ((2, 8, 8, 1), none), ((2, 96, 96, 1), none), ((0, 99, 99, 0), none)], [(0, 0), (1, 1), (2, 2), (3, 3)], [10, 9, 3, 2], [(5, 3, 6)], [], [(300000, 6, 7), (800006, 5, 3), (100000, 3, 4)], [], [520, 521, 522], some []))
def kh_label_b68_0 : sg_T := (71, 0, ([((2, 97, 97, 1), none), ((2, 1, 1, 1), none), ((2, 2, 2, 1), none), ((0, 0, 11, 1), none), ((0, 99, 99, 0), none), ((2, 96, 96, 1), none), ((0, 0, 11, 1), none), ((2, 2, 2, 1), none)], [(0, 0), (1, 1), (2, 2), (3, 3)], [], [], [], [], [], [601, 520, 521, 522], none))
def kh_label_b71_0 : sg_T := (74, 0, ([((2, 97, 97, 1), none), ((2, 1, 1, 1), none), ((2, 2, 2, 1), none), ((0, 0, 11, 1), none), ((0, 0, 0, 0), none)], [(4, 4), (0, 0), (1, 1), (2, 2), (3, 3)], [], [], [], [], [], [520, 521, 522, 601], some []))
def kh_label_b74_0 : sg_T := (41, 0, ([((2, 97, 97, 1), none), ((2, 1, 1, 1), none), ((2, 2, 2, 1), none), ((0, 0, 11, 1), none), ((0, 0, 12, 1), none), ((0, 4, 4, 0), none), ((0, 0, 12, 1), none), ((0, 1, 12, 1), some (3, 1))], [(3, 7), (0, 0), (1, 1), (2, 2), (4, 4)], [], [(2, 5, 6)], [], [(200000, 6, 4), (800006, 2, 5)], [], [520, 521, 522, 601], some []))
def kh_label_b74_1 : sg_T := (74, 0, ([((2, 97, 97, 1), none), ((2, 1, 1, 1), none), ((2, 2, 2, 1), none), ((0, 0, 11, 1), none), ((0, 0, 11, 1), none), ((0, 4, 4, 0), none), ((0, 1, 12, 1), none), ((2, 106, 106, 1), none), ((2, 6, 6, 1), none), ((0, 0, 11, 1), none), ((0, 1, 12, 1), some (4, 1))], [(4, 10), (0, 0), (1, 1), (2, 2), (3, 3)], [], [(7, 9, 3), (8, 4, 9), (2, 5, 6)], [], [(800009, 8, 4), (100000, 4, 6), (800006, 2, 5)], [], [520, 521, 522, 601], some [(7, 9, 3)]))
def kh_label_I (l : Launch) (D : va_G) (tc : Nat → ClassId) (ad : Nat → Nat) (kd : Nat → Nat × Nat) (N : Nat) (sm : Nat → Nat) (xs : List av_X) (S : fw_S) (p : Program) (e : Env) (s : State) (m : MethodId) (args : Array Value) (below : List Frame) (meth : Method) (c : Code) (sz : Nat) (k : Nat) : Prop := (∀ (α : List av_X) (lv : List (Nat × Value)) (st : List Value) (S1 : fw_S), as_in ad sm wd_fl2 xs S kh_label.2.2.2.2.2.1 α kh_label_a7.2.2.1 lv st S1 → (True) → 10000 + (17 - nv α 3).toNat < k → hd_W wd_fl2 kh_label kh_label_y l D tc ad kd N sm xs S p e s m args below meth c sz 7 lv st S1 0) ∧ (∀ (α : List av_X) (lv : List (Nat × Value)) (st : List Value) (S1 : fw_S), as_in ad sm wd_fl2 xs S kh_label.2.2.2.2.2.1 α kh_label_a41.2.2.1 lv st S1 → ((∀ c : Nat, (c : Int) < nv α 3 → c ≤ 11 → 0 ≤ (S1.1 106 c).toInt)) → (12 - nv α 3).toNat * 100 + 99 < k → hd_W wd_fl2 kh_label kh_label_y l D tc ad kd N sm xs S p e s m args below meth c sz 41 lv st S1 0) ∧ (∀ (α : List av_X) (lv : List (Nat × Value)) (st : List Value) (S1 : fw_S), as_in ad sm wd_fl2 xs S kh_label.2.2.2.2.2.1 α kh_label_a68.2.2.1 lv st S1 → ((∀ c : Nat, (c : Int) < nv α 3 → c ≤ 11 → 0 ≤ (S1.1 106 c).toInt) ∧ nv α 6 = nv α 3) → (12 - nv α 3).toNat * 100 + 98 < k → hd_W wd_fl2 kh_label kh_label_y l D tc ad kd N sm xs S p e s m args below meth c sz 68 lv st S1 0) ∧ (∀ (α : List av_X) (lv : List (Nat × Value)) (st : List Value) (S1 : fw_S), as_in ad sm wd_fl2 xs S kh_label.2.2.2.2.2.1 α kh_label_a71.2.2.1 lv st S1 → ((∀ c : Nat, (c : Int) < nv α 3 → c ≤ 11 → 0 ≤ (S1.1 106 c).toInt) ∧ wyI (yF S1) (yV S1) (yM S1) (yR S1) (nv α 3)) → (12 - nv α 3).toNat * 100 + 97 < k → hd_W wd_fl2 kh_label kh_label_y l D tc ad kd N sm xs S p e s m args below meth c sz 71 lv st S1 0) ∧ (∀ (α : List av_X) (lv : List (Nat × Value)) (st : List Value) (S1 : fw_S), as_in ad sm wd_fl2 xs S kh_label.2.2.2.2.2.1 α kh_label_a74.2.2.1 lv st S1 → ((∀ c : Nat, (c : Int) < nv α 3 → c ≤ 11 → 0 ≤ (S1.1 106 c).toInt) ∧ wyI (yF S1) (yV S1) (yM S1) (yR S1) (nv α 3) ∧ (1 ≤ nv α 4 → 0 ≤ (S1.1 106 (nv α 3).toNat).toInt)) → (12 - nv α 3).toNat * 100 + (12 - nv α 4).toNat < k → hd_W wd_fl2 kh_label kh_label_y l D tc ad kd N sm xs S p e s m args below meth c sz 74 lv st S1 0) ∧ True
set_option maxHeartbeats 16000000 in
set_option maxRecDepth 8000 in
theorem kh_label_h7 {l : Launch} {D : va_G} {tc : Nat → ClassId} {ad : Nat → Nat} {kd : Nat → Nat × Nat} {N : Nat} {sm : Nat → Nat} {xs : List av_X} {S : fw_S} {p : Program} {e : Env} {s : State} {m : MethodId} {args : Array Value} {below : List Frame} {meth : Method} {c : Code} {sz : Nat} {lvE : List (Nat × Value)} (G : hd_C wd_ff2 wd_fl2 kh_label [kh_1002, kh_spread] kh_label_y l D tc ad kd N sm xs p s m args meth c sz) (H0 : as_in ad sm wd_fl2 xs S kh_label.2.2.2.2.2.1 xs (hd_0 kh_label) lvE [] S) {k : Nat} (ih : kh_label_I l D tc ad kd N sm xs S p e s m args below meth c sz k) : (∀ (α : List av_X) (lv : List (Nat × Value)) (st : List Value) (S1 : fw_S), as_in ad sm wd_fl2 xs S kh_label.2.2.2.2.2.1 α kh_label_a7.2.2.1 lv st S1 → (True) → 10000 + (17 - nv α 3).toNat < k + 1 → hd_W wd_fl2 kh_label kh_label_y l D tc ad kd N sm xs S p e s m args below meth c sz 7 lv st S1 0) := by
  have hx : xs.length = 2 := by rw [H0.2.1.1]; rfl
  intro α lv st S1 H hp hk
  obtain ⟨α1, hle, Hr⟩ := as_recM (pl := []) [((3, 3), (0, 16, 1)), ((106, 106), (0, 11, 1))] (by decide +kernel) H
  have hf := H.2.2.2.2.2.2.2.2.2.2.1
  have hl1 : α1.length = 4 := by rw [Hr.2.1.1]; rfl
  have hl0 : α.length = 4 := by rw [H.2.1.1]; rfl
  have hxa : al_le xs α1 := H.1.trans hle
  obtain ⟨g1, -, g3, g4, -⟩ := as_fx Hr
  have g0 : (97 ≤ nv α1 0 ∧ nv α1 0 ≤ 97) ∧ (1 ≤ nv α1 1 ∧ nv α1 1 ≤ 1) ∧ (2 ≤ nv α1 2 ∧ nv α1 2 ≤ 2) ∧ (0 ≤ nv α1 3 ∧ nv α1 3 ≤ 17) ∧ True := by
    refine ⟨by have h := (en_nv (i := 0) Hr.2.1 rfl).2; exact h, by have h := (en_nv (i := 1) Hr.2.1 rfl).2; exact h, by have h := (en_nv (i := 2) Hr.2.1 rfl).2; exact h, by have h := (en_nv (i := 3) Hr.2.1 rfl).2; exact h, trivial⟩
  have r0 : nv α1 0 = nv α 0 := nv_le hle (by omega)
  have r1 : nv α1 1 = nv α 1 := nv_le hle (by omega)
  have r2 : nv α1 2 = nv α 2 := nv_le hle (by omega)
  have r3 : nv α1 3 = nv α 3 := nv_le hle (by omega)
  refine hd_segM G (na := 4) (fuel := 600) (first := true) (Bs := [kh_label_b7_0, kh_label_b7_1]) (by decide +kernel) hl1 Hr ?_
  intro q hq β lv' st' S' H1
  simp only [List.mem_cons, List.not_mem_nil, or_false] at hq
  rcases hq with rfl | rfl
  · obtain ⟨f1, f2, f3, f4, f5⟩ := as_fx H1
    simp only [kh_label_b7_0, Nat.reduceEqDiff, if_false, fx_env, fx_c, fx_ne, fx_hf, wl_S, Nat.zero_add, Nat.reduceAdd, Nat.reduceDiv, Nat.reduceMod, List.getElem?_cons_zero, List.getElem?_cons_succ, if_true, and_true, true_and] at f1 f2 f3 f4 f5
    have fe0 : nv β 0 = 97 := by omega
    have fe1 : nv β 1 = 1 := by omega
    have fe2 : nv β 2 = 2 := by omega
    have fe3 : nv β 3 = 17 := by omega
    have fe4 : nv β 4 = 17 := by omega
    have fe5 : nv β 5 = 106 := by omega
    have fe6 : nv β 6 = (-1) := by omega
    have fe7 : nv β 7 = 0 := by omega
    try simp only [fe0, fe1, fe2, fe3, fe4, fe5, fe6, fe7, Int.reduceToNat] at f2 f3 f4 f5
    have s0 : nv β 0 = nv α1 0 := nv_le H1.1 (by omega)
    have s1 : nv β 1 = nv α1 1 := nv_le H1.1 (by omega)
    have s2 : nv β 2 = nv α1 2 := nv_le H1.1 (by omega)
    have s3 : nv β 3 = nv α1 3 := nv_le H1.1 (by omega)
    have c0 := f2
    obtain ⟨α', Ha, hm⟩ := hd_gpM (q := kh_label_a41) (n := 0) (by decide +kernel) hx H1 (by decide +kernel) hxa hf
    have hfr := H1.2.2.2.2.2.2.2.2.2.2.1
    have m0 : nv α' 0 = nv β 0 := hm 0 0 rfl
    have m1 : nv α' 1 = nv β 1 := hm 1 1 rfl
    have m2 : nv α' 2 = nv β 2 := hm 2 2 rfl
    have m3 : nv α' 3 = nv β 7 := hm 3 7 rfl
    refine ih.2.1 _ _ _ _ Ha ?_ ?_
    · intro c h1 h2
      rw [m3] at h1
      omega
    · omega
  · obtain ⟨f1, f2, f3, f4, f5⟩ := as_fx H1
    simp only [kh_label_b7_1, Nat.reduceEqDiff, if_false, fx_env, fx_c, fx_ne, fx_hf, wl_S, Nat.zero_add, Nat.reduceAdd, Nat.reduceDiv, Nat.reduceMod, List.getElem?_cons_zero, List.getElem?_cons_succ, if_true, and_true, true_and] at f1 f2 f3 f4 f5
    have fe0 : nv β 0 = 97 := by omega
    have fe1 : nv β 1 = 1 := by omega
    have fe2 : nv β 2 = 2 := by omega
    have fe4 : nv β 4 = 17 := by omega
    have fe5 : nv β 5 = 3 := by omega
    have fe6 : nv β 6 = 105 := by omega
    try simp only [fe0, fe1, fe2, fe4, fe5, fe6, Int.reduceToNat] at f2 f3 f4 f5
    have s0 : nv β 0 = nv α1 0 := nv_le H1.1 (by omega)
    have s1 : nv β 1 = nv α1 1 := nv_le H1.1 (by omega)
    have s2 : nv β 2 = nv α1 2 := nv_le H1.1 (by omega)
    have s3 : nv β 3 = nv α1 3 := nv_le H1.1 (by omega)
    obtain ⟨c0, c1⟩ := f2
    obtain ⟨α', Ha, hm⟩ := hd_gpM (q := kh_label_a7) (n := 0) (by decide +kernel) hx H1 (by decide +kernel) hxa hf
    have hfr := H1.2.2.2.2.2.2.2.2.2.2.1
    have m0 : nv α' 0 = nv β 0 := hm 0 0 rfl
    have m1 : nv α' 1 = nv β 1 := hm 1 1 rfl
    have m2 : nv α' 2 = nv β 2 := hm 2 2 rfl
    have m3 : nv α' 3 = nv β 8 := hm 3 8 rfl
    refine ih.1 _ _ _ _ Ha ?_ ?_
    · trivial
    · omega
set_option maxHeartbeats 16000000 in
set_option maxRecDepth 8000 in
theorem kh_label_h41 {l : Launch} {D : va_G} {tc : Nat → ClassId} {ad : Nat → Nat} {kd : Nat → Nat × Nat} {N : Nat} {sm : Nat → Nat} {xs : List av_X} {S : fw_S} {p : Program} {e : Env} {s : State} {m : MethodId} {args : Array Value} {below : List Frame} {meth : Method} {c : Code} {sz : Nat} {lvE : List (Nat × Value)} (G : hd_C wd_ff2 wd_fl2 kh_label [kh_1002, kh_spread] kh_label_y l D tc ad kd N sm xs p s m args meth c sz) (H0 : as_in ad sm wd_fl2 xs S kh_label.2.2.2.2.2.1 xs (hd_0 kh_label) lvE [] S) {k : Nat} (ih : kh_label_I l D tc ad kd N sm xs S p e s m args below meth c sz k) : (∀ (α : List av_X) (lv : List (Nat × Value)) (st : List Value) (S1 : fw_S), as_in ad sm wd_fl2 xs S kh_label.2.2.2.2.2.1 α kh_label_a41.2.2.1 lv st S1 → ((∀ c : Nat, (c : Int) < nv α 3 → c ≤ 11 → 0 ≤ (S1.1 106 c).toInt)) → (12 - nv α 3).toNat * 100 + 99 < k + 1 → hd_W wd_fl2 kh_label kh_label_y l D tc ad kd N sm xs S p e s m args below meth c sz 41 lv st S1 0) := by
  have hx : xs.length = 2 := by rw [H0.2.1.1]; rfl
  intro α lv st S1 H hp hk
  obtain ⟨α1, hle, Hr⟩ := as_recM (pl := []) [] (by decide +kernel) H
  have hf := H.2.2.2.2.2.2.2.2.2.2.1
  have hl1 : α1.length = 4 := by rw [Hr.2.1.1]; rfl
  have hl0 : α.length = 4 := by rw [H.2.1.1]; rfl
  have hxa : al_le xs α1 := H.1.trans hle
  obtain ⟨g1, -, g3, g4, -⟩ := as_fx Hr
  have g0 : (97 ≤ nv α1 0 ∧ nv α1 0 ≤ 97) ∧ (1 ≤ nv α1 1 ∧ nv α1 1 ≤ 1) ∧ (2 ≤ nv α1 2 ∧ nv α1 2 ≤ 2) ∧ (0 ≤ nv α1 3 ∧ nv α1 3 ≤ 12) ∧ True := by
    refine ⟨by have h := (en_nv (i := 0) Hr.2.1 rfl).2; exact h, by have h := (en_nv (i := 1) Hr.2.1 rfl).2; exact h, by have h := (en_nv (i := 2) Hr.2.1 rfl).2; exact h, by have h := (en_nv (i := 3) Hr.2.1 rfl).2; exact h, trivial⟩
  have r0 : nv α1 0 = nv α 0 := nv_le hle (by omega)
  have r1 : nv α1 1 = nv α 1 := nv_le hle (by omega)
  have r2 : nv α1 2 = nv α 2 := nv_le hle (by omega)
  have r3 : nv α1 3 = nv α 3 := nv_le hle (by omega)
  refine hd_segM G (na := 4) (fuel := 600) (first := true) (Bs := [kh_label_b41_0, kh_label_b41_1, kh_label_b41_2]) (by decide +kernel) hl1 Hr ?_
  intro q hq β lv' st' S' H1
  simp only [List.mem_cons, List.not_mem_nil, or_false] at hq
  rcases hq with rfl | rfl | rfl
  · obtain ⟨f1, f2, f3, f4, f5⟩ := as_fx H1
    simp only [kh_label_b41_0, Nat.reduceEqDiff, if_false, fx_env, fx_c, fx_ne, fx_hf, wl_S, Nat.zero_add, Nat.reduceAdd, Nat.reduceDiv, Nat.reduceMod, List.getElem?_cons_zero, List.getElem?_cons_succ, if_true, and_true, true_and] at f1 f2 f3 f4 f5
    have fe0 : nv β 0 = 97 := by omega
    have fe1 : nv β 1 = 1 := by omega
    have fe2 : nv β 2 = 2 := by omega
    have fe3 : nv β 3 = 12 := by omega
    have fe4 : nv β 4 = 12 := by omega
    try simp only [fe0, fe1, fe2, fe3, fe4, Int.reduceToNat] at f2 f3 f4 f5
    have s0 : nv β 0 = nv α1 0 := nv_le H1.1 (by omega)
    have s1 : nv β 1 = nv α1 1 := nv_le H1.1 (by omega)
    have s2 : nv β 2 = nv α1 2 := nv_le H1.1 (by omega)
    have s3 : nv β 3 = nv α1 3 := nv_le H1.1 (by omega)
    have c0 := f2
    have e5' : S' = S1 := f5
    exact hd_run G (ss := []) (fuel := 20) (by decide +kernel) (as_rg_in (r := [((106, 106), (0, 11, 1), (0, 0, 11, 1))]) (as_backM H1 (by decide +kernel) hxa hf) (fun q hq => by
      rcases List.mem_singleton.mp hq with rfl
      intro k j k1 k2 k3
      have ek : k = 106 := by have a1 := k1; have a2 := k2; dsimp only at a1 a2; omega
      have ej : j ≤ 11 := k3.2.1
      have hg := q_rg_in (q := ((106, 106), (0, 11, 1), (0, -1, 11, 1))) (by decide +kernel) H1 k j k1 k2 k3
      have h0 := hp j (by omega) ej
      rw [ek, e5'] at hg ⊢
      exact ⟨rfl, hg.2.1, h0, hg.2.2.2.1, av_one _⟩))
  · obtain ⟨f1, f2, f3, f4, f5⟩ := as_fx H1
    simp only [kh_label_b41_1, Nat.reduceEqDiff, if_false, fx_env, fx_c, fx_ne, fx_hf, wl_S, Nat.zero_add, Nat.reduceAdd, Nat.reduceDiv, Nat.reduceMod, List.getElem?_cons_zero, List.getElem?_cons_succ, if_true, and_true, true_and] at f1 f2 f3 f4 f5
    have fe0 : nv β 0 = 97 := by omega
    have fe1 : nv β 1 = 1 := by omega
    have fe2 : nv β 2 = 2 := by omega
    have fe4 : nv β 4 = 12 := by omega
    have fe5 : nv β 5 = 106 := by omega
    have fe7 : nv β 7 = (-1) := by omega
    try simp only [fe0, fe1, fe2, fe4, fe5, fe7, Int.reduceToNat] at f2 f3 f4 f5
    have s0 : nv β 0 = nv α1 0 := nv_le H1.1 (by omega)
    have s1 : nv β 1 = nv α1 1 := nv_le H1.1 (by omega)
    have s2 : nv β 2 = nv α1 2 := nv_le H1.1 (by omega)
    have s3 : nv β 3 = nv α1 3 := nv_le H1.1 (by omega)
    obtain ⟨c0, c1, c2⟩ := f2
    obtain ⟨α', Ha, hm⟩ := hd_gpM (q := kh_label_a41) (n := 0) (by decide +kernel) hx H1 (by decide +kernel) hxa hf
    have hfr := H1.2.2.2.2.2.2.2.2.2.2.1
    have m0 : nv α' 0 = nv β 0 := hm 0 0 rfl
    have m1 : nv α' 1 = nv β 1 := hm 1 1 rfl
    have m2 : nv α' 2 = nv β 2 := hm 2 2 rfl
    have m3 : nv α' 3 = nv β 8 := hm 3 8 rfl
    have o1 := old_0 c1 rfl
    have e5' : S' = S1 := f5
    refine ih.2.1 _ _ _ _ Ha ?_ ?_
    · intro c h1 h2
      rw [m3] at h1
      rw [e5']
      by_cases e : (c : Int) = nv β 3
      · rw [show c = (nv β 3).toNat by omega, o1]
        omega
      · exact hp c (by omega) h2
    · omega
  · obtain ⟨f1, f2, f3, f4, f5⟩ := as_fx H1
    simp only [kh_label_b41_2, Nat.reduceEqDiff, if_false, fx_env, fx_c, fx_ne, fx_hf, wl_S, Nat.zero_add, Nat.reduceAdd, Nat.reduceDiv, Nat.reduceMod, List.getElem?_cons_zero, List.getElem?_cons_succ, if_true, and_true, true_and] at f1 f2 f3 f4 f5
    have fe0 : nv β 0 = 97 := by omega
    have fe1 : nv β 1 = 1 := by omega
    have fe2 : nv β 2 = 2 := by omega
    have fe4 : nv β 4 = 12 := by omega
    have fe5 : nv β 5 = 106 := by omega
    have fe6 : nv β 6 = (-1) := by omega
    have fe7 : nv β 7 = (-1) := by omega
    have fe8 : nv β 8 = 8 := by omega
    have fe9 : nv β 9 = 96 := by omega
    have fe10 : nv β 10 = 99 := by omega
    try simp only [fe0, fe1, fe2, fe4, fe5, fe6, fe7, fe8, fe9, fe10, Int.reduceToNat] at f2 f3 f4 f5
    have s0 : nv β 0 = nv α1 0 := nv_le H1.1 (by omega)
    have s1 : nv β 1 = nv α1 1 := nv_le H1.1 (by omega)
    have s2 : nv β 2 = nv α1 2 := nv_le H1.1 (by omega)
    have s3 : nv β 3 = nv α1 3 := nv_le H1.1 (by omega)
    obtain ⟨c0, c1, c2⟩ := f2
    obtain ⟨α', Ha, hm⟩ := hd_gpM (q := kh_label_a68) (n := 0) (by decide +kernel) hx H1 (by decide +kernel) hxa hf
    have hfr := H1.2.2.2.2.2.2.2.2.2.2.1
    have m0 : nv α' 0 = nv β 0 := hm 0 0 rfl
    have m1 : nv α' 1 = nv β 1 := hm 1 1 rfl
    have m2 : nv α' 2 = nv β 2 := hm 2 2 rfl
    have m3 : nv α' 3 = nv β 3 := hm 3 3 rfl
    have m4 : nv α' 4 = nv β 10 := hm 4 10 rfl
    have m5 : nv α' 5 = nv β 9 := hm 5 9 rfl
    have m6 : nv α' 6 = nv β 3 := hm 6 3 rfl
    have m7 : nv α' 7 = nv β 2 := hm 7 2 rfl
    have o1 := old_0 c1 rfl
    have e5' : S' = S1 := f5
    refine ih.2.2.1 _ _ _ _ Ha ?_ ?_
    · rw [e5', m3, m6]
      exact ⟨fun c h1 h2 => hp c (by omega) h2, by omega⟩
    · omega
set_option maxHeartbeats 16000000 in
set_option maxRecDepth 8000 in
theorem kh_label_h68 {l : Launch} {D : va_G} {tc : Nat → ClassId} {ad : Nat → Nat} {kd : Nat → Nat × Nat} {N : Nat} {sm : Nat → Nat} {xs : List av_X} {S : fw_S} {p : Program} {e : Env} {s : State} {m : MethodId} {args : Array Value} {below : List Frame} {meth : Method} {c : Code} {sz : Nat} {lvE : List (Nat × Value)} (G : hd_C wd_ff2 wd_fl2 kh_label [kh_1002, kh_spread] kh_label_y l D tc ad kd N sm xs p s m args meth c sz) (H0 : as_in ad sm wd_fl2 xs S kh_label.2.2.2.2.2.1 xs (hd_0 kh_label) lvE [] S) {k : Nat} (ih : kh_label_I l D tc ad kd N sm xs S p e s m args below meth c sz k) : (∀ (α : List av_X) (lv : List (Nat × Value)) (st : List Value) (S1 : fw_S), as_in ad sm wd_fl2 xs S kh_label.2.2.2.2.2.1 α kh_label_a68.2.2.1 lv st S1 → ((∀ c : Nat, (c : Int) < nv α 3 → c ≤ 11 → 0 ≤ (S1.1 106 c).toInt) ∧ nv α 6 = nv α 3) → (12 - nv α 3).toNat * 100 + 98 < k + 1 → hd_W wd_fl2 kh_label kh_label_y l D tc ad kd N sm xs S p e s m args below meth c sz 68 lv st S1 0) := by
  have hx : xs.length = 2 := by rw [H0.2.1.1]; rfl
  intro α lv st S1 H hp hk
  obtain ⟨α1, hle, Hr⟩ := as_recM (pl := []) [((2, 2), (4, 4, 0)), ((4, 4), (0, 11, 1)), ((5, 5), (0, 11, 1)), ((6, 6), (0, 11, 1))] (by decide +kernel) H
  have hf := H.2.2.2.2.2.2.2.2.2.2.1
  have hl1 : α1.length = 8 := by rw [Hr.2.1.1]; rfl
  have hl0 : α.length = 8 := by rw [H.2.1.1]; rfl
  have hxa : al_le xs α1 := H.1.trans hle
  obtain ⟨g1, -, g3, g4, -⟩ := as_fx Hr
  have g0 : (97 ≤ nv α1 0 ∧ nv α1 0 ≤ 97) ∧ (1 ≤ nv α1 1 ∧ nv α1 1 ≤ 1) ∧ (2 ≤ nv α1 2 ∧ nv α1 2 ≤ 2) ∧ (0 ≤ nv α1 3 ∧ nv α1 3 ≤ 11) ∧ (99 ≤ nv α1 4 ∧ nv α1 4 ≤ 99) ∧ (96 ≤ nv α1 5 ∧ nv α1 5 ≤ 96) ∧ (0 ≤ nv α1 6 ∧ nv α1 6 ≤ 11) ∧ (2 ≤ nv α1 7 ∧ nv α1 7 ≤ 2) ∧ True := by
    refine ⟨by have h := (en_nv (i := 0) Hr.2.1 rfl).2; exact h, by have h := (en_nv (i := 1) Hr.2.1 rfl).2; exact h, by have h := (en_nv (i := 2) Hr.2.1 rfl).2; exact h, by have h := (en_nv (i := 3) Hr.2.1 rfl).2; exact h, by have h := (en_nv (i := 4) Hr.2.1 rfl).2; exact h, by have h := (en_nv (i := 5) Hr.2.1 rfl).2; exact h, by have h := (en_nv (i := 6) Hr.2.1 rfl).2; exact h, by have h := (en_nv (i := 7) Hr.2.1 rfl).2; exact h, trivial⟩
  have r0 : nv α1 0 = nv α 0 := nv_le hle (by omega)
  have r1 : nv α1 1 = nv α 1 := nv_le hle (by omega)
  have r2 : nv α1 2 = nv α 2 := nv_le hle (by omega)
  have r3 : nv α1 3 = nv α 3 := nv_le hle (by omega)
  have r4 : nv α1 4 = nv α 4 := nv_le hle (by omega)
  have r5 : nv α1 5 = nv α 5 := nv_le hle (by omega)
  have r6 : nv α1 6 = nv α 6 := nv_le hle (by omega)
  have r7 : nv α1 7 = nv α 7 := nv_le hle (by omega)
  refine hd_callR (Rr := R_spread) (Rs := [kh_spread]) (idx := 124) G (List.forall_mem_cons.mpr ⟨kh_spread_okR, List.forall_mem_nil _⟩) (na := 8) (Bs := [kh_label_b68_0]) (by decide +kernel) (by decide +kernel) hl1 Hr ?_
  intro q hq β lv' st' S' H1 hRx
  simp only [List.mem_cons, List.not_mem_nil, or_false] at hq
  rcases hq with rfl
  · obtain ⟨f1, f2, f3, f4, f5⟩ := as_fx H1
    simp only [kh_label_b68_0, Nat.reduceEqDiff, if_false, fx_env, fx_c, fx_ne, fx_hf, wl_S, Nat.zero_add, Nat.reduceAdd, Nat.reduceDiv, Nat.reduceMod, List.getElem?_cons_zero, List.getElem?_cons_succ, if_true, and_true, true_and] at f1 f2 f3 f4 f5
    have fe0 : nv β 0 = 97 := by omega
    have fe1 : nv β 1 = 1 := by omega
    have fe2 : nv β 2 = 2 := by omega
    have fe4 : nv β 4 = 99 := by omega
    have fe5 : nv β 5 = 96 := by omega
    have fe7 : nv β 7 = 2 := by omega
    try simp only [fe0, fe1, fe2, fe4, fe5, fe7, Int.reduceToNat] at f2 f3 f4 f5
    have s0 : nv β 0 = nv α1 0 := nv_le H1.1 (by omega)
    have s1 : nv β 1 = nv α1 1 := nv_le H1.1 (by omega)
    have s2 : nv β 2 = nv α1 2 := nv_le H1.1 (by omega)
    have s3 : nv β 3 = nv α1 3 := nv_le H1.1 (by omega)
    have s4 : nv β 4 = nv α1 4 := nv_le H1.1 (by omega)
    have s5 : nv β 5 = nv α1 5 := nv_le H1.1 (by omega)
    have s6 : nv β 6 = nv α1 6 := nv_le H1.1 (by omega)
    have s7 : nv β 7 = nv α1 7 := nv_le H1.1 (by omega)
    obtain ⟨α', Ha, hm⟩ := hd_gpM (q := kh_label_a71) (n := 0) (by decide +kernel) hx H1 (by decide +kernel) hxa hf
    have hfr := H1.2.2.2.2.2.2.2.2.2.2.1
    have m0 : nv α' 0 = nv β 0 := hm 0 0 rfl
    have m1 : nv α' 1 = nv β 1 := hm 1 1 rfl
    have m2 : nv α' 2 = nv β 2 := hm 2 2 rfl
    have m3 : nv α' 3 = nv β 3 := hm 3 3 rfl
    obtain ⟨Cc, hCc, ys, rr, hnm, hR, rest, hre⟩ := hRx
    rcases List.mem_singleton.mp hCc with rfl
    have y1 : nv ys 1 = nv α1 6 := nm_nv hnm (i := 1) (v := 6) rfl
    have hR2 := hR.2
    rw [y1, r6, hp.2] at hR2
    have eI : S'.1 106 = S1.1 106 := fr_row hfr 106 (by decide +kernel)
    refine ih.2.2.2.1 _ _ _ _ Ha ?_ ?_
    · rw [m3, s3, r3]
      refine ⟨fun c h1 h2 => ?_, hR2⟩
      rw [eI]
      exact hp.1 c h1 h2
    · omega
set_option maxHeartbeats 16000000 in
set_option maxRecDepth 8000 in
theorem kh_label_h71 {l : Launch} {D : va_G} {tc : Nat → ClassId} {ad : Nat → Nat} {kd : Nat → Nat × Nat} {N : Nat} {sm : Nat → Nat} {xs : List av_X} {S : fw_S} {p : Program} {e : Env} {s : State} {m : MethodId} {args : Array Value} {below : List Frame} {meth : Method} {c : Code} {sz : Nat} {lvE : List (Nat × Value)} (G : hd_C wd_ff2 wd_fl2 kh_label [kh_1002, kh_spread] kh_label_y l D tc ad kd N sm xs p s m args meth c sz) (H0 : as_in ad sm wd_fl2 xs S kh_label.2.2.2.2.2.1 xs (hd_0 kh_label) lvE [] S) {k : Nat} (ih : kh_label_I l D tc ad kd N sm xs S p e s m args below meth c sz k) : (∀ (α : List av_X) (lv : List (Nat × Value)) (st : List Value) (S1 : fw_S), as_in ad sm wd_fl2 xs S kh_label.2.2.2.2.2.1 α kh_label_a71.2.2.1 lv st S1 → ((∀ c : Nat, (c : Int) < nv α 3 → c ≤ 11 → 0 ≤ (S1.1 106 c).toInt) ∧ wyI (yF S1) (yV S1) (yM S1) (yR S1) (nv α 3)) → (12 - nv α 3).toNat * 100 + 97 < k + 1 → hd_W wd_fl2 kh_label kh_label_y l D tc ad kd N sm xs S p e s m args below meth c sz 71 lv st S1 0) := by
  have hx : xs.length = 2 := by rw [H0.2.1.1]; rfl
  intro α lv st S1 H hp hk
  obtain ⟨α1, hle, Hr⟩ := as_recM (pl := []) [] (by decide +kernel) H
  have hf := H.2.2.2.2.2.2.2.2.2.2.1
  have hl1 : α1.length = 4 := by rw [Hr.2.1.1]; rfl
  have hl0 : α.length = 4 := by rw [H.2.1.1]; rfl
  have hxa : al_le xs α1 := H.1.trans hle
  obtain ⟨g1, -, g3, g4, -⟩ := as_fx Hr
  have g0 : (97 ≤ nv α1 0 ∧ nv α1 0 ≤ 97) ∧ (1 ≤ nv α1 1 ∧ nv α1 1 ≤ 1) ∧ (2 ≤ nv α1 2 ∧ nv α1 2 ≤ 2) ∧ (0 ≤ nv α1 3 ∧ nv α1 3 ≤ 11) ∧ True := by
    refine ⟨by have h := (en_nv (i := 0) Hr.2.1 rfl).2; exact h, by have h := (en_nv (i := 1) Hr.2.1 rfl).2; exact h, by have h := (en_nv (i := 2) Hr.2.1 rfl).2; exact h, by have h := (en_nv (i := 3) Hr.2.1 rfl).2; exact h, trivial⟩
  have r0 : nv α1 0 = nv α 0 := nv_le hle (by omega)
  have r1 : nv α1 1 = nv α 1 := nv_le hle (by omega)
  have r2 : nv α1 2 = nv α 2 := nv_le hle (by omega)
  have r3 : nv α1 3 = nv α 3 := nv_le hle (by omega)
  refine hd_segM G (na := 4) (fuel := 600) (first := true) (Bs := [kh_label_b71_0]) (by decide +kernel) hl1 Hr ?_
  intro q hq β lv' st' S' H1
  simp only [List.mem_cons, List.not_mem_nil, or_false] at hq
  rcases hq with rfl
  · obtain ⟨f1, f2, f3, f4, f5⟩ := as_fx H1
    simp only [kh_label_b71_0, Nat.reduceEqDiff, if_false, fx_env, fx_c, fx_ne, fx_hf, wl_S, Nat.zero_add, Nat.reduceAdd, Nat.reduceDiv, Nat.reduceMod, List.getElem?_cons_zero, List.getElem?_cons_succ, if_true, and_true, true_and] at f1 f2 f3 f4 f5
    have fe0 : nv β 0 = 97 := by omega
    have fe1 : nv β 1 = 1 := by omega
    have fe2 : nv β 2 = 2 := by omega
    have fe4 : nv β 4 = 0 := by omega
    try simp only [fe0, fe1, fe2, fe4, Int.reduceToNat] at f2 f3 f4 f5
    have s0 : nv β 0 = nv α1 0 := nv_le H1.1 (by omega)
    have s1 : nv β 1 = nv α1 1 := nv_le H1.1 (by omega)
    have s2 : nv β 2 = nv α1 2 := nv_le H1.1 (by omega)
    have s3 : nv β 3 = nv α1 3 := nv_le H1.1 (by omega)
    obtain ⟨α', Ha, hm⟩ := hd_gpM (q := kh_label_a74) (n := 0) (by decide +kernel) hx H1 (by decide +kernel) hxa hf
    have hfr := H1.2.2.2.2.2.2.2.2.2.2.1
    have m0 : nv α' 0 = nv β 0 := hm 0 0 rfl
    have m1 : nv α' 1 = nv β 1 := hm 1 1 rfl
    have m2 : nv α' 2 = nv β 2 := hm 2 2 rfl
    have m3 : nv α' 3 = nv β 3 := hm 3 3 rfl
    have m4 : nv α' 4 = nv β 4 := hm 4 4 rfl
    have e5' : S' = S1 := f5
    refine ih.2.2.2.2.1 _ _ _ _ Ha ?_ ?_
    · rw [e5', m3, m4, s3, r3]
      exact ⟨hp.1, hp.2, fun h1 => by omega⟩
    · omega
set_option maxHeartbeats 16000000 in
set_option maxRecDepth 8000 in
theorem kh_label_h74 {l : Launch} {D : va_G} {tc : Nat → ClassId} {ad : Nat → Nat} {kd : Nat → Nat × Nat} {N : Nat} {sm : Nat → Nat} {xs : List av_X} {S : fw_S} {p : Program} {e : Env} {s : State} {m : MethodId} {args : Array Value} {below : List Frame} {meth : Method} {c : Code} {sz : Nat} {lvE : List (Nat × Value)} (G : hd_C wd_ff2 wd_fl2 kh_label [kh_1002, kh_spread] kh_label_y l D tc ad kd N sm xs p s m args meth c sz) (H0 : as_in ad sm wd_fl2 xs S kh_label.2.2.2.2.2.1 xs (hd_0 kh_label) lvE [] S) {k : Nat} (ih : kh_label_I l D tc ad kd N sm xs S p e s m args below meth c sz k) : (∀ (α : List av_X) (lv : List (Nat × Value)) (st : List Value) (S1 : fw_S), as_in ad sm wd_fl2 xs S kh_label.2.2.2.2.2.1 α kh_label_a74.2.2.1 lv st S1 → ((∀ c : Nat, (c : Int) < nv α 3 → c ≤ 11 → 0 ≤ (S1.1 106 c).toInt) ∧ wyI (yF S1) (yV S1) (yM S1) (yR S1) (nv α 3) ∧ (1 ≤ nv α 4 → 0 ≤ (S1.1 106 (nv α 3).toNat).toInt)) → (12 - nv α 3).toNat * 100 + (12 - nv α 4).toNat < k + 1 → hd_W wd_fl2 kh_label kh_label_y l D tc ad kd N sm xs S p e s m args below meth c sz 74 lv st S1 0) := by
  have hx : xs.length = 2 := by rw [H0.2.1.1]; rfl
  intro α lv st S1 H hp hk
  obtain ⟨α1, hle, Hr⟩ := as_recM (pl := []) [((106, 106), (0, 11, 1))] (by decide +kernel) H
  have hf := H.2.2.2.2.2.2.2.2.2.2.1
  have hl1 : α1.length = 5 := by rw [Hr.2.1.1]; rfl
  have hl0 : α.length = 5 := by rw [H.2.1.1]; rfl
  have hxa : al_le xs α1 := H.1.trans hle
  obtain ⟨g1, -, g3, g4, -⟩ := as_fx Hr
  have g0 : (97 ≤ nv α1 0 ∧ nv α1 0 ≤ 97) ∧ (1 ≤ nv α1 1 ∧ nv α1 1 ≤ 1) ∧ (2 ≤ nv α1 2 ∧ nv α1 2 ≤ 2) ∧ (0 ≤ nv α1 3 ∧ nv α1 3 ≤ 11) ∧ (0 ≤ nv α1 4 ∧ nv α1 4 ≤ 12) ∧ True := by
    refine ⟨by have h := (en_nv (i := 0) Hr.2.1 rfl).2; exact h, by have h := (en_nv (i := 1) Hr.2.1 rfl).2; exact h, by have h := (en_nv (i := 2) Hr.2.1 rfl).2; exact h, by have h := (en_nv (i := 3) Hr.2.1 rfl).2; exact h, by have h := (en_nv (i := 4) Hr.2.1 rfl).2; exact h, trivial⟩
  have r0 : nv α1 0 = nv α 0 := nv_le hle (by omega)
  have r1 : nv α1 1 = nv α 1 := nv_le hle (by omega)
  have r2 : nv α1 2 = nv α 2 := nv_le hle (by omega)
  have r3 : nv α1 3 = nv α 3 := nv_le hle (by omega)
  have r4 : nv α1 4 = nv α 4 := nv_le hle (by omega)
  refine hd_segM G (na := 5) (fuel := 600) (first := true) (Bs := [kh_label_b74_0, kh_label_b74_1]) (by decide +kernel) hl1 Hr ?_
  intro q hq β lv' st' S' H1
  simp only [List.mem_cons, List.not_mem_nil, or_false] at hq
  rcases hq with rfl | rfl
  · obtain ⟨f1, f2, f3, f4, f5⟩ := as_fx H1
    simp only [kh_label_b74_0, Nat.reduceEqDiff, if_false, fx_env, fx_c, fx_ne, fx_hf, wl_S, Nat.zero_add, Nat.reduceAdd, Nat.reduceDiv, Nat.reduceMod, List.getElem?_cons_zero, List.getElem?_cons_succ, if_true, and_true, true_and] at f1 f2 f3 f4 f5
    have fe0 : nv β 0 = 97 := by omega
    have fe1 : nv β 1 = 1 := by omega
    have fe2 : nv β 2 = 2 := by omega
    have fe5 : nv β 5 = 4 := by omega
    try simp only [fe0, fe1, fe2, fe5, Int.reduceToNat] at f2 f3 f4 f5
    have s0 : nv β 0 = nv α1 0 := nv_le H1.1 (by omega)
    have s1 : nv β 1 = nv α1 1 := nv_le H1.1 (by omega)
    have s2 : nv β 2 = nv α1 2 := nv_le H1.1 (by omega)
    have s3 : nv β 3 = nv α1 3 := nv_le H1.1 (by omega)
    have s4 : nv β 4 = nv α1 4 := nv_le H1.1 (by omega)
    obtain ⟨c0, c1⟩ := f2
    obtain ⟨α', Ha, hm⟩ := hd_gpM (q := kh_label_a41) (n := 0) (by decide +kernel) hx H1 (by decide +kernel) hxa hf
    have hfr := H1.2.2.2.2.2.2.2.2.2.2.1
    have m0 : nv α' 0 = nv β 0 := hm 0 0 rfl
    have m1 : nv α' 1 = nv β 1 := hm 1 1 rfl
    have m2 : nv α' 2 = nv β 2 := hm 2 2 rfl
    have m3 : nv α' 3 = nv β 7 := hm 3 7 rfl
    have o1 := old_i c1 (en_nv (i := 6) H1.2.1 rfl).1
    obtain ⟨p1, p2, p3⟩ := hp
    have e5' : S' = S1 := f5
    have u : yR S1 = nv β 6 := o1
    have b1 := p2.1
    have p4 := p3 (by omega)
    refine ih.2.1 _ _ _ _ Ha ?_ ?_
    · intro c h1 h2
      rw [m3] at h1
      rw [e5']
      by_cases e : (c : Int) = nv α 3
      · rw [show c = (nv α 3).toNat by omega]
        exact p4
      · exact p1 c (by omega) h2
    · omega
  · obtain ⟨f1, f2, f3, f4, f5⟩ := as_fx H1
    simp only [kh_label_b74_1, Nat.reduceEqDiff, if_false, fx_env, fx_c, fx_ne, fx_hf, wl_S, Nat.zero_add, Nat.reduceAdd, Nat.reduceDiv, Nat.reduceMod, List.getElem?_cons_zero, List.getElem?_cons_succ, if_true, and_true, true_and] at f1 f2 f3 f4 f5
    have fe0 : nv β 0 = 97 := by omega
    have fe1 : nv β 1 = 1 := by omega
    have fe2 : nv β 2 = 2 := by omega
    have fe5 : nv β 5 = 4 := by omega
    have fe7 : nv β 7 = 106 := by omega
    have fe8 : nv β 8 = 6 := by omega
    try simp only [fe0, fe1, fe2, fe5, fe7, fe8, Int.reduceToNat] at f2 f3 f4 f5
    have s0 : nv β 0 = nv α1 0 := nv_le H1.1 (by omega)
    have s1 : nv β 1 = nv α1 1 := nv_le H1.1 (by omega)
    have s2 : nv β 2 = nv α1 2 := nv_le H1.1 (by omega)
    have s3 : nv β 3 = nv α1 3 := nv_le H1.1 (by omega)
    have s4 : nv β 4 = nv α1 4 := nv_le H1.1 (by omega)
    obtain ⟨c0, c1, c2⟩ := f2
    obtain ⟨α', Ha, hm⟩ := hd_gpM (q := kh_label_a74) (n := 0) (by decide +kernel) hx H1 (by decide +kernel) hxa hf
    have hfr := H1.2.2.2.2.2.2.2.2.2.2.1
    have m0 : nv α' 0 = nv β 0 := hm 0 0 rfl
    have m1 : nv α' 1 = nv β 1 := hm 1 1 rfl
    have m2 : nv α' 2 = nv β 2 := hm 2 2 rfl
    have m3 : nv α' 3 = nv β 3 := hm 3 3 rfl
    have m4 : nv α' 4 = nv β 10 := hm 4 10 rfl
    have o0 := old_0 c0 rfl
    have o2 := old_i c2 (en_nv (i := 6) H1.2.1 rfl).1
    obtain ⟨p1, p2, p3⟩ := hp
    have wA : ∀ a b : Nat, S'.1 a b = (if a = 106 ∧ b = (nv β 9).toNat then Int32.ofInt (nv β 3) else (S1.1 a b)) := fun a b => by rw [f5]; rfl
    have e4 : S'.1 4 = S1.1 4 := fr_row hfr 4 (by decide +kernel)
    have e5 : S'.1 5 = S1.1 5 := fr_row hfr 5 (by decide +kernel)
    have e6 : S'.1 6 = S1.1 6 := fr_row hfr 6 (by decide +kernel)
    have e2 : S'.1 2 4 = S1.1 2 4 := fr_pl hfr 2 4 (by decide +kernel)
    have x3 : 0 ≤ nv α 3 ∧ nv α 3 ≤ 11 := by omega
    refine ih.2.2.2.2.1 _ _ _ _ Ha ?_ ?_
    · rw [m3, m4, s3, r3]
      refine ⟨fun c h1 h2 => ?_, wyI_eq e4 e5 e6 e2 p2, fun h1 => ?_⟩
      · rw [wA]
        split
        · rw [i32_of (by omega) (by omega)]; omega
        · exact p1 c h1 h2
      · by_cases e : 1 ≤ nv α 4
        · rw [wA]
          split
          · rw [i32_of (by omega) (by omega)]; omega
          · exact p3 e
        · have f1 := wy_first p2 x3
          have u : yM S1 (nv β 4) = nv β 9 := o0
          rw [show nv β 4 = 0 by omega, f1] at u
          rw [wA, if_pos ⟨rfl, by omega⟩, i32_of (by omega) (by omega)]
          omega
    · omega
set_option maxHeartbeats 16000000 in
set_option maxRecDepth 8000 in
theorem kh_label_ok : ct_ok wd_fl2 kh_label := ct_hand (ff := wd_ff2) (y := kh_label_y) (Cs := [kh_1002, kh_spread]) wd_fl2_ok rfl (List.forall_mem_cons.mpr ⟨kh_1002_ok, (List.forall_mem_cons.mpr ⟨kh_spread_ok, (List.forall_mem_nil _)⟩)⟩) (by decide +kernel) (fun l D tc ad kd N sm xs S p e s m args below meth c sz lv G H0 => by
  have hx : xs.length = 2 := by rw [H0.2.1.1]; rfl
  have hP : ∀ (k : Nat), kh_label_I l D tc ad kd N sm xs S p e s m args below meth c sz k := by
    intro k
    induction k with
    | zero => exact ⟨fun _ _ _ _ _ _ h => absurd h (Nat.not_lt_zero _), fun _ _ _ _ _ _ h => absurd h (Nat.not_lt_zero _), fun _ _ _ _ _ _ h => absurd h (Nat.not_lt_zero _), fun _ _ _ _ _ _ h => absurd h (Nat.not_lt_zero _), fun _ _ _ _ _ _ h => absurd h (Nat.not_lt_zero _), trivial⟩
    | succ k ih => exact ⟨kh_label_h7 G H0 ih, kh_label_h41 G H0 ih, kh_label_h68 G H0 ih, kh_label_h71 G H0 ih, kh_label_h74 G H0 ih, trivial⟩
  obtain ⟨α1, hle, Hr⟩ := as_recM (pl := []) [] (by decide +kernel) H0
  have hf := H0.2.2.2.2.2.2.2.2.2.2.1
  have hl1 : α1.length = 2 := by rw [Hr.2.1.1]; rfl
  have hl0 : xs.length = 2 := by rw [H0.2.1.1]; rfl
  have hxa : al_le xs α1 := H0.1.trans hle
  obtain ⟨g1, -, g3, g4, -⟩ := as_fx Hr
  have g0 : (97 ≤ nv α1 0 ∧ nv α1 0 ≤ 97) ∧ (1 ≤ nv α1 1 ∧ nv α1 1 ≤ 1) ∧ True := by
    refine ⟨by have h := (en_nv (i := 0) Hr.2.1 rfl).2; exact h, by have h := (en_nv (i := 1) Hr.2.1 rfl).2; exact h, trivial⟩
  have r0 : nv α1 0 = nv xs 0 := nv_le hle (by omega)
  have r1 : nv α1 1 = nv xs 1 := nv_le hle (by omega)
  refine hd_segM G (na := 2) (fuel := 600) (first := true) (Bs := [kh_label_b0_0]) (by decide +kernel) hl1 Hr ?_
  intro q hq β lv' st' S' H1
  simp only [List.mem_cons, List.not_mem_nil, or_false] at hq
  rcases hq with rfl
  · obtain ⟨f1, f2, f3, f4, f5⟩ := as_fx H1
    simp only [kh_label_b0_0, Nat.reduceEqDiff, if_false, fx_env, fx_c, fx_ne, fx_hf, wl_S, Nat.zero_add, Nat.reduceAdd, Nat.reduceDiv, Nat.reduceMod, List.getElem?_cons_zero, List.getElem?_cons_succ, if_true, and_true, true_and] at f1 f2 f3 f4 f5
    have fe0 : nv β 0 = 97 := by omega
    have fe1 : nv β 1 = 1 := by omega
    have fe2 : nv β 2 = 2 := by omega
    have fe3 : nv β 3 = 0 := by omega
    try simp only [fe0, fe1, fe2, fe3, Int.reduceToNat] at f2 f3 f4 f5
    have s0 : nv β 0 = nv α1 0 := nv_le H1.1 (by omega)
    have s1 : nv β 1 = nv α1 1 := nv_le H1.1 (by omega)
    obtain ⟨α', Ha, hm⟩ := hd_gpM (q := kh_label_a7) (n := 0) (by decide +kernel) hx H1 (by decide +kernel) hxa hf
    have hfr := H1.2.2.2.2.2.2.2.2.2.2.1
    have m0 : nv α' 0 = nv β 0 := hm 0 0 rfl
    have m1 : nv α' 1 = nv β 1 := hm 1 1 rfl
    have m2 : nv α' 2 = nv β 2 := hm 2 2 rfl
    have m3 : nv α' 3 = nv β 3 := hm 3 3 rfl
    refine (hP _).1 _ _ _ _ Ha ?_ (Nat.lt_succ_self _)
    · trivial)
/- java/util/Arrays fill -/
def kh_1003 : ct_T := (6, [(2, 111, 111, 1), (0, 0, 0, 0)], [], [], [(0, (0, 0, 0, 0), [(2, 111, 111, 1), (0, 0, 0, 0)], [], ([], []))], [((111, 111), (0, 16, 1))], 0, 0, 0)
theorem kh_1003_ok : ct_ok wd_fl2 kh_1003 := ct_of (ff := wd_ff2) (y := (⟨"java/util/Arrays", "fill", "([II)V"⟩, prog_24_method_103_code, 4, none, 14, 0, 2, 22056, 22055, 0, 21008)) (Cs := []) (an := [(5, 0, ([((2, 111, 111, 1), none), ((0, 0, 0, 0), none), ((0, 0, 17, 1), none), ((0, 17, 17, 0), none)], [(0, 0), (1, 1), (2, 2), (3, 3)], [], [], [], [], [], [], none), [(0, 0, 99995), (1, 2, 17), (0, 0, 99995)])]) (ss := []) (K := 3) (fuel := 4000) wd_fl2_ok rfl (List.forall_mem_nil _) (by decide +kernel)
abbrev kh_findFlows_y : mt_T := (⟨"UtilityWorks$Power", "findFlows", "(LUtilityWorks$Town;)V"⟩, prog_7_method_9_code, 7, none, 5, 1, 1, 24024, 24023, 7, 21005)
def kh_findFlows : ct_T := (28, [(2, 97, 97, 1), (2, 1, 1, 1)], [], [520, 521, 522], [(0, (0, 0, 0, 0), [(2, 97, 97, 1), (2, 1, 1, 1)], [], ([520, 521, 522], []))], [((2, 2), (4, 4, 0)), ((4, 4), (0, 11, 1)), ((5, 5), (0, 11, 1)), ((6, 6), (0, 11, 1)), ((110, 110), (0, 11, 1)), ((111, 111), (0, 16, 1))], 1, 28, 0)
def kh_findFlows_a15 : an_T := (15, 0, ([((2, 97, 97, 1), none), ((2, 1, 1, 1), none), ((2, 2, 2, 1), none), ((0, 0, 12, 1), none)], [(0, 0), (1, 1), (2, 2), (3, 3)], [], [], [], [], [], [520, 521, 522], none), [])
def kh_findFlows_a42 : an_T := (42, 0, ([((2, 97, 97, 1), none), ((2, 1, 1, 1), none), ((2, 2, 2, 1), none), ((0, 0, 4, 1), none)], [(0, 0), (1, 1), (2, 2), (3, 3)], [], [], [], [], [], [520, 521, 522], none), [])
def kh_findFlows_a80 : an_T := (80, 0, ([((2, 97, 97, 1), none), ((2, 1, 1, 1), none), ((2, 2, 2, 1), none), ((0, 0, 12, 1), none)], [(0, 0), (1, 1), (2, 2), (3, 3)], [], [], [], [], [], [520, 521, 522], none), [])
def kh_findFlows_a107 : an_T := (107, 0, ([((2, 97, 97, 1), none), ((2, 1, 1, 1), none), ((2, 2, 2, 1), none), ((0, 0, 11, 1), none), ((0, 99, 99, 0), none), ((2, 96, 96, 1), none), ((0, 0, 11, 1), none), ((2, 2, 2, 1), none)], [(0, 0), (1, 1), (2, 2), (3, 3)], [4, 5, 6, 7], [], [], [], [], [520, 521, 522], none), [])
def kh_findFlows_a110 : an_T := (110, 0, ([((2, 97, 97, 1), none), ((2, 1, 1, 1), none), ((2, 2, 2, 1), none), ((0, 0, 11, 1), none)], [(0, 0), (1, 1), (2, 2), (3, 3)], [], [], [], [], [], [520, 521, 522, 601], none), [])
def kh_findFlows_a118 : an_T := (118, 0, ([((2, 97, 97, 1), none), ((2, 1, 1, 1), none), ((2, 2, 2, 1), none), ((0, 0, 11, 1), none), ((0, (-1), 11, 1), none)], [(0, 0), (1, 1), (2, 2), (3, 3), (4, 4)], [], [], [], [], [], [520, 521, 522, 601], none), [])
def kh_findFlows_a197 : an_T := (197, 0, ([((2, 97, 97, 1), none), ((2, 1, 1, 1), none), ((2, 2, 2, 1), none), ((0, 0, 11, 1), none), ((0, 1, 11, 1), none), ((0, 0, 11, 1), none), ((0, 0, 16, 1), none), ((0, (-10), 21, 1), none), ((2, 110, 110, 1), none)], [(0, 0), (1, 1), (2, 2), (3, 3), (4, 4), (5, 5), (6, 6)], [7, 8], [], [], [], [], [520, 521, 522, 601], none), [])
def kh_findFlows_b0_0 : sg_T := (15, 0, ([((2, 97, 97, 1), none), ((2, 1, 1, 1), none), ((2, 2, 2, 1), none), ((2, 111, 111, 1), none), ((0, 0, 0, 0), none), ((0, 0, 0, 0), none)], [(3, 5), (2, 2), (0, 0), (1, 1)], [], [], [], [], [], [520, 521, 522], none))
def kh_findFlows_b15_0 : sg_T := (42, 0, ([((2, 97, 97, 1), none), ((2, 1, 1, 1), none), ((2, 2, 2, 1), none), ((0, 12, 12, 1), none), ((0, 12, 12, 0), none), ((0, 0, 0, 0), none)], [(3, 5), (0, 0), (1, 1), (2, 2)], [], [], [], [(200000, 4, 3)], [], [520, 521, 522], some []))
def kh_findFlows_b15_1 : sg_T := (15, 0, ([((2, 97, 97, 1), none), ((2, 1, 1, 1), none), ((2, 2, 2, 1), none), ((0, 0, 11, 1), none), ((0, 12, 12, 0), none), ((2, 110, 110, 1), none), ((2, 109, 109, 1), none), ((0, (-2147483648), 2147483647, 1), none), ((0, (-2147483648), 2147483647, 1), none), ((0, 1, 12, 1), some (3, 1))], [(3, 9), (0, 0), (1, 1), (2, 2)], [], [(5, 3, 8), (6, 3, 7)], [], [(800007, 6, 3), (100000, 3, 4)], [], [520, 521, 522], some [(5, 3, 8)]))
def kh_findFlows_b42_0 : sg_T := (80, 0, ([((2, 97, 97, 1), none), ((2, 1, 1, 1), none), ((2, 2, 2, 1), none), ((0, 2, 4, 1), none), ((0, 0, 0, 0), none), ((0, 2, 4, 1), none), ((0, 0, 0, 0), none)], [(3, 6), (0, 0), (1, 1), (2, 2)], [], [(0, 4, 5)], [], [(200000, 5, 3), (800005, 0, 4)], [], [520, 521, 522], some []))
def kh_findFlows_b42_1 : sg_T := (42, 0, ([((2, 97, 97, 1), none), ((2, 1, 1, 1), none), ((2, 2, 2, 1), none), ((0, 0, 3, 1), none), ((0, 0, 0, 0), none), ((0, 2, 4, 1), none), ((2, 110, 110, 1), none), ((2, 98, 98, 1), none), ((2, 99, 102, 1), none), ((0, 0, 0, 0), none), ((0, 0, 11, 1), none), ((0, (-2147483648), 2147483647, 1), none), ((2, 112, 112, 1), none), ((0, (-2147483648), 300, 1), none), ((0, (-2147483648), 2147483647, 1), none), ((0, 1, 4, 1), some (3, 1))], [(3, 15), (0, 0), (1, 1), (2, 2)], [], [(6, 10, 14), (12, 3, 13), (8, 9, 10), (7, 3, 8), (0, 4, 5)], [], [(800013, 12, 3), (800011, 6, 10), (800010, 8, 9), (100000, 3, 5), (800005, 0, 4)], [], [520, 521, 522], some [(6, 10, 14)]))
def kh_findFlows_b80_0 : sg_T := (220, 0, ([((2, 97, 97, 1), none), ((2, 1, 1, 1), none), ((2, 2, 2, 1), none), ((0, 12, 12, 1), none), ((0, 12, 12, 0), none)], [(0, 0), (1, 1), (2, 2), (3, 3)], [], [], [], [(200000, 4, 3)], [], [520, 521, 522], some []))
def kh_findFlows_b80_1 : sg_T := (80, 0, ([((2, 97, 97, 1), none), ((2, 1, 1, 1), none), ((2, 2, 2, 1), none), ((0, 0, 11, 1), none), ((0, 12, 12, 0), none), ((2, 106, 106, 1), none), ((0, (-1), 11, 1), none), ((0, 1, 12, 1), some (3, 1))], [(3, 7), (0, 0), (1, 1), (2, 2)], [], [(5, 3, 6)], [], [(400000, 6, 3), (800006, 5, 3), (100000, 3, 4)], [], [520, 521, 522], some []))
def kh_findFlows_b80_2 : sg_T := (107, 0, ([((2, 97, 97, 1), none), ((2, 1, 1, 1), none), ((2, 2, 2, 1), none), ((0, 0, 11, 1), none), ((0, 12, 12, 0), none), ((2, 106, 106, 1), none), ((0, 0, 11, 1), none), ((2, 8, 8, 1), none), ((2, 96, 96, 1), none), ((0, 99, 99, 0), none)], [(0, 0), (1, 1), (2, 2), (3, 3)], [9, 8, 3, 2], [(5, 3, 6)], [], [(300000, 6, 3), (800006, 5, 3), (100000, 3, 4)], [], [520, 521, 522], some []))
def kh_findFlows_b107_0 : sg_T := (110, 0, ([((2, 97, 97, 1), none), ((2, 1, 1, 1), none), ((2, 2, 2, 1), none), ((0, 0, 11, 1), none), ((0, 99, 99, 0), none), ((2, 96, 96, 1), none), ((0, 0, 11, 1), none), ((2, 2, 2, 1), none)], [(0, 0), (1, 1), (2, 2), (3, 3)], [], [], [], [], [], [601, 520, 521, 522], none))
def kh_findFlows_b110_0 : sg_T := (118, 0, ([((2, 97, 97, 1), none), ((2, 1, 1, 1), none), ((2, 2, 2, 1), none), ((0, 0, 11, 1), none), ((0, 4, 4, 0), none), ((0, 0, 12, 1), none), ((0, 1, 1, 0), none), ((0, (-1), 11, 1), some (5, (-1)))], [(4, 7), (0, 0), (1, 1), (2, 2), (3, 3)], [], [(2, 4, 5)], [], [(600007, 5, 6), (800005, 2, 4)], [], [520, 521, 522, 601], some []))
def kh_findFlows_b118_0 : sg_T := (80, 0, ([((2, 97, 97, 1), none), ((2, 1, 1, 1), none), ((2, 2, 2, 1), none), ((0, 0, 11, 1), none), ((0, (-1), 0, 1), none), ((0, 1, 12, 1), some (3, 1))], [(3, 5), (0, 0), (1, 1), (2, 2), (4, 4)], [], [], [], [], [], [520, 521, 522, 601], some []))
def kh_findFlows_b118_1 : sg_T := (197, 0, ([((2, 97, 97, 1), none), ((2, 1, 1, 1), none), ((2, 2, 2, 1), none), ((0, 0, 11, 1), none), ((0, 1, 11, 1), none), ((2, 6, 6, 1), none), ((0, 0, 11, 1), none), ((2, 5, 5, 1), none), ((0, 0, 16, 1), none), ((2, 111, 111, 1), none), ((3, 0, 0, 0), none), ((0, 0, 10, 1), none), ((2, 110, 110, 1), none), ((0, (-2147483648), 2147483647, 1), none), ((0, (-2147483648), 2147483647, 1), none), ((2, 110, 110, 1), none), ((3, 0, 0, 0), none), ((0, 0, 10, 1), none), ((3, 1, 1, 0), none), ((0, 1, 11, 1), none), ((0, 1, 21, 1), none), ((0, (-10), 21, 1), none)], [(6, 8), (5, 6), (0, 0), (1, 1), (2, 2), (3, 3), (4, 4)], [21, 15], [(9, 8, 14), (12, 6, 13), (7, 6, 8), (5, 4, 6)], [], [(600021, 20, 6), (500020, 17, 19), (901100019, 8, 8), (901000017, 8, 8), (800013, 12, 6), (400000, 6, 11), (901000011, 8, 8), (800008, 7, 6), (800006, 5, 4)], [], [520, 521, 522, 601], some [(9, 8, 14)]))
def kh_findFlows_b118_2 : sg_T := (197, 0, ([((2, 97, 97, 1), none), ((2, 1, 1, 1), none), ((2, 2, 2, 1), none), ((0, 0, 11, 1), none), ((0, 1, 11, 1), none), ((2, 6, 6, 1), none), ((0, 0, 10, 1), none), ((2, 5, 5, 1), none), ((0, 0, 16, 1), none), ((2, 111, 111, 1), none), ((3, 0, 0, 0), none), ((0, 0, 10, 1), none), ((2, 110, 110, 1), none), ((0, (-2147483648), 2147483647, 1), none), ((2, 110, 110, 1), none), ((3, 0, 0, 0), none), ((0, 0, 10, 1), none), ((3, 1, 1, 0), none), ((0, 1, 11, 1), none), ((0, 1, 21, 1), none), ((0, (-9), 21, 1), none)], [(6, 8), (5, 6), (0, 0), (1, 1), (2, 2), (3, 3), (4, 4)], [20, 14], [(9, 8, 13), (12, 6, 13), (7, 6, 8), (5, 4, 6)], [], [(600020, 19, 6), (500019, 16, 18), (901100018, 8, 8), (901000016, 8, 8), (800013, 12, 6), (300000, 6, 11), (901000011, 8, 8), (800008, 7, 6), (800006, 5, 4)], [], [520, 521, 522, 601], some [(9, 8, 13)]))
def kh_findFlows_b197_0 : sg_T := (118, 0, ([((2, 97, 97, 1), none), ((2, 1, 1, 1), none), ((2, 2, 2, 1), none), ((0, 0, 11, 1), none), ((0, 1, 11, 1), none), ((0, 0, 11, 1), none), ((0, 0, 16, 1), none), ((0, 0, 11, 1), none), ((2, 110, 110, 1), none), ((0, (-2147483648), 2147483647, 1), none), ((2, 110, 110, 1), none), ((0, (-2147483648), 2147483647, 1), none), ((0, (-2147483648), 2147483647, 1), none), ((0, 0, 10, 1), some (4, (-1)))], [(4, 13), (0, 0), (1, 1), (2, 2), (3, 3), (5, 5), (6, 6)], [], [(8, 7, 12)], [], [(800011, 10, 5), (800009, 8, 7)], [], [520, 521, 522, 601], some [(8, 7, 12)]))
def kh_findFlows_I (l : Launch) (D : va_G) (tc : Nat → ClassId) (ad : Nat → Nat) (kd : Nat → Nat × Nat) (N : Nat) (sm : Nat → Nat) (xs : List av_X) (S : fw_S) (p : Program) (e : Env) (s : State) (m : MethodId) (args : Array Value) (below : List Frame) (meth : Method) (c : Code) (sz : Nat) (k : Nat) : Prop := (∀ (α : List av_X) (lv : List (Nat × Value)) (st : List Value) (S1 : fw_S), as_in ad sm wd_fl2 xs S kh_findFlows.2.2.2.2.2.1 α kh_findFlows_a15.2.2.1 lv st S1 → (True) → 100000 + (12 - nv α 3).toNat < k → hd_W wd_fl2 kh_findFlows kh_findFlows_y l D tc ad kd N sm xs S p e s m args below meth c sz 15 lv st S1 0) ∧ (∀ (α : List av_X) (lv : List (Nat × Value)) (st : List Value) (S1 : fw_S), as_in ad sm wd_fl2 xs S kh_findFlows.2.2.2.2.2.1 α kh_findFlows_a42.2.2.1 lv st S1 → (True) → 50000 + (10 - nv α 3).toNat < k → hd_W wd_fl2 kh_findFlows kh_findFlows_y l D tc ad kd N sm xs S p e s m args below meth c sz 42 lv st S1 0) ∧ (∀ (α : List av_X) (lv : List (Nat × Value)) (st : List Value) (S1 : fw_S), as_in ad sm wd_fl2 xs S kh_findFlows.2.2.2.2.2.1 α kh_findFlows_a80.2.2.1 lv st S1 → (True) → (12 - nv α 3).toNat * 100 + 99 < k → hd_W wd_fl2 kh_findFlows kh_findFlows_y l D tc ad kd N sm xs S p e s m args below meth c sz 80 lv st S1 0) ∧ (∀ (α : List av_X) (lv : List (Nat × Value)) (st : List Value) (S1 : fw_S), as_in ad sm wd_fl2 xs S kh_findFlows.2.2.2.2.2.1 α kh_findFlows_a107.2.2.1 lv st S1 → (nv α 6 = nv α 3) → (12 - nv α 3).toNat * 100 + 98 < k → hd_W wd_fl2 kh_findFlows kh_findFlows_y l D tc ad kd N sm xs S p e s m args below meth c sz 107 lv st S1 0) ∧ (∀ (α : List av_X) (lv : List (Nat × Value)) (st : List Value) (S1 : fw_S), as_in ad sm wd_fl2 xs S kh_findFlows.2.2.2.2.2.1 α kh_findFlows_a110.2.2.1 lv st S1 → (wyI (yF S1) (yV S1) (yM S1) (yR S1) (nv α 3)) → (12 - nv α 3).toNat * 100 + 97 < k → hd_W wd_fl2 kh_findFlows kh_findFlows_y l D tc ad kd N sm xs S p e s m args below meth c sz 110 lv st S1 0) ∧ (∀ (α : List av_X) (lv : List (Nat × Value)) (st : List Value) (S1 : fw_S), as_in ad sm wd_fl2 xs S kh_findFlows.2.2.2.2.2.1 α kh_findFlows_a118.2.2.1 lv st S1 → (wyI (yF S1) (yV S1) (yM S1) (yR S1) (nv α 3) ∧ nv α 4 < yR S1) → (12 - nv α 3).toNat * 100 + (nv α 4 + 1).toNat * 2 + 1 < k → hd_W wd_fl2 kh_findFlows kh_findFlows_y l D tc ad kd N sm xs S p e s m args below meth c sz 118 lv st S1 0) ∧ (∀ (α : List av_X) (lv : List (Nat × Value)) (st : List Value) (S1 : fw_S), as_in ad sm wd_fl2 xs S kh_findFlows.2.2.2.2.2.1 α kh_findFlows_a197.2.2.1 lv st S1 → (wyI (yF S1) (yV S1) (yM S1) (yR S1) (nv α 3) ∧ nv α 4 < yR S1 ∧ 1 ≤ nv α 4 ∧ (0 ≤ nv α 7 ∧ nv α 7 ≤ 11)) → (12 - nv α 3).toNat * 100 + (nv α 4 + 1).toNat * 2 < k → hd_W wd_fl2 kh_findFlows kh_findFlows_y l D tc ad kd N sm xs S p e s m args below meth c sz 197 lv st S1 0) ∧ True
set_option maxHeartbeats 16000000 in
set_option maxRecDepth 8000 in
theorem kh_findFlows_h15 {l : Launch} {D : va_G} {tc : Nat → ClassId} {ad : Nat → Nat} {kd : Nat → Nat × Nat} {N : Nat} {sm : Nat → Nat} {xs : List av_X} {S : fw_S} {p : Program} {e : Env} {s : State} {m : MethodId} {args : Array Value} {below : List Frame} {meth : Method} {c : Code} {sz : Nat} {lvE : List (Nat × Value)} (G : hd_C wd_ff2 wd_fl2 kh_findFlows [kh_1003, kh_spread] kh_findFlows_y l D tc ad kd N sm xs p s m args meth c sz) (H0 : as_in ad sm wd_fl2 xs S kh_findFlows.2.2.2.2.2.1 xs (hd_0 kh_findFlows) lvE [] S) {k : Nat} (ih : kh_findFlows_I l D tc ad kd N sm xs S p e s m args below meth c sz k) : (∀ (α : List av_X) (lv : List (Nat × Value)) (st : List Value) (S1 : fw_S), as_in ad sm wd_fl2 xs S kh_findFlows.2.2.2.2.2.1 α kh_findFlows_a15.2.2.1 lv st S1 → (True) → 100000 + (12 - nv α 3).toNat < k + 1 → hd_W wd_fl2 kh_findFlows kh_findFlows_y l D tc ad kd N sm xs S p e s m args below meth c sz 15 lv st S1 0) := by
  have hx : xs.length = 2 := by rw [H0.2.1.1]; rfl
  intro α lv st S1 H hp hk
  obtain ⟨α1, hle, Hr⟩ := as_recM (pl := []) [((110, 110), (0, 11, 1))] (by decide +kernel) H
  have hf := H.2.2.2.2.2.2.2.2.2.2.1
  have hl1 : α1.length = 4 := by rw [Hr.2.1.1]; rfl
  have hl0 : α.length = 4 := by rw [H.2.1.1]; rfl
  have hxa : al_le xs α1 := H.1.trans hle
  obtain ⟨g1, -, g3, g4, -⟩ := as_fx Hr
  have g0 : (97 ≤ nv α1 0 ∧ nv α1 0 ≤ 97) ∧ (1 ≤ nv α1 1 ∧ nv α1 1 ≤ 1) ∧ (2 ≤ nv α1 2 ∧ nv α1 2 ≤ 2) ∧ (0 ≤ nv α1 3 ∧ nv α1 3 ≤ 12) ∧ True := by
    refine ⟨by have h := (en_nv (i := 0) Hr.2.1 rfl).2; exact h, by have h := (en_nv (i := 1) Hr.2.1 rfl).2; exact h, by have h := (en_nv (i := 2) Hr.2.1 rfl).2; exact h, by have h := (en_nv (i := 3) Hr.2.1 rfl).2; exact h, trivial⟩
  have r0 : nv α1 0 = nv α 0 := nv_le hle (by omega)
  have r1 : nv α1 1 = nv α 1 := nv_le hle (by omega)
  have r2 : nv α1 2 = nv α 2 := nv_le hle (by omega)
  have r3 : nv α1 3 = nv α 3 := nv_le hle (by omega)
  refine hd_segM G (na := 4) (fuel := 600) (first := true) (Bs := [kh_findFlows_b15_0, kh_findFlows_b15_1]) (by decide +kernel) hl1 Hr ?_
  intro q hq β lv' st' S' H1
  simp only [List.mem_cons, List.not_mem_nil, or_false] at hq
  rcases hq with rfl | rfl
  · obtain ⟨f1, f2, f3, f4, f5⟩ := as_fx H1
    simp only [kh_findFlows_b15_0, Nat.reduceEqDiff, if_false, fx_env, fx_c, fx_ne, fx_hf, wl_S, Nat.zero_add, Nat.reduceAdd, Nat.reduceDiv, Nat.reduceMod, List.getElem?_cons_zero, List.getElem?_cons_succ, if_true, and_true, true_and] at f1 f2 f3 f4 f5
    have fe0 : nv β 0 = 97 := by omega
    have fe1 : nv β 1 = 1 := by omega
    have fe2 : nv β 2 = 2 := by omega
    have fe3 : nv β 3 = 12 := by omega
    have fe4 : nv β 4 = 12 := by omega
    have fe5 : nv β 5 = 0 := by omega
    try simp only [fe0, fe1, fe2, fe3, fe4, fe5, Int.reduceToNat] at f2 f3 f4 f5
    have s0 : nv β 0 = nv α1 0 := nv_le H1.1 (by omega)
    have s1 : nv β 1 = nv α1 1 := nv_le H1.1 (by omega)
    have s2 : nv β 2 = nv α1 2 := nv_le H1.1 (by omega)
    have s3 : nv β 3 = nv α1 3 := nv_le H1.1 (by omega)
    have c0 := f2
    obtain ⟨α', Ha, hm⟩ := hd_gpM (q := kh_findFlows_a42) (n := 0) (by decide +kernel) hx H1 (by decide +kernel) hxa hf
    have hfr := H1.2.2.2.2.2.2.2.2.2.2.1
    have m0 : nv α' 0 = nv β 0 := hm 0 0 rfl
    have m1 : nv α' 1 = nv β 1 := hm 1 1 rfl
    have m2 : nv α' 2 = nv β 2 := hm 2 2 rfl
    have m3 : nv α' 3 = nv β 5 := hm 3 5 rfl
    refine ih.2.1 _ _ _ _ Ha ?_ ?_
    · trivial
    · omega
  · obtain ⟨f1, f2, f3, f4, f5⟩ := as_fx H1
    simp only [kh_findFlows_b15_1, Nat.reduceEqDiff, if_false, fx_env, fx_c, fx_ne, fx_hf, wl_S, Nat.zero_add, Nat.reduceAdd, Nat.reduceDiv, Nat.reduceMod, List.getElem?_cons_zero, List.getElem?_cons_succ, if_true, and_true, true_and] at f1 f2 f3 f4 f5
    have fe0 : nv β 0 = 97 := by omega
    have fe1 : nv β 1 = 1 := by omega
    have fe2 : nv β 2 = 2 := by omega
    have fe4 : nv β 4 = 12 := by omega
    have fe5 : nv β 5 = 110 := by omega
    have fe6 : nv β 6 = 109 := by omega
    try simp only [fe0, fe1, fe2, fe4, fe5, fe6, Int.reduceToNat] at f2 f3 f4 f5
    have s0 : nv β 0 = nv α1 0 := nv_le H1.1 (by omega)
    have s1 : nv β 1 = nv α1 1 := nv_le H1.1 (by omega)
    have s2 : nv β 2 = nv α1 2 := nv_le H1.1 (by omega)
    have s3 : nv β 3 = nv α1 3 := nv_le H1.1 (by omega)
    obtain ⟨c0, c1⟩ := f2
    obtain ⟨α', Ha, hm⟩ := hd_gpM (q := kh_findFlows_a15) (n := 0) (by decide +kernel) hx H1 (by decide +kernel) hxa hf
    have hfr := H1.2.2.2.2.2.2.2.2.2.2.1
    have m0 : nv α' 0 = nv β 0 := hm 0 0 rfl
    have m1 : nv α' 1 = nv β 1 := hm 1 1 rfl
    have m2 : nv α' 2 = nv β 2 := hm 2 2 rfl
    have m3 : nv α' 3 = nv β 9 := hm 3 9 rfl
    refine ih.1 _ _ _ _ Ha ?_ ?_
    · trivial
    · omega
set_option maxHeartbeats 16000000 in
set_option maxRecDepth 8000 in
theorem kh_findFlows_h42 {l : Launch} {D : va_G} {tc : Nat → ClassId} {ad : Nat → Nat} {kd : Nat → Nat × Nat} {N : Nat} {sm : Nat → Nat} {xs : List av_X} {S : fw_S} {p : Program} {e : Env} {s : State} {m : MethodId} {args : Array Value} {below : List Frame} {meth : Method} {c : Code} {sz : Nat} {lvE : List (Nat × Value)} (G : hd_C wd_ff2 wd_fl2 kh_findFlows [kh_1003, kh_spread] kh_findFlows_y l D tc ad kd N sm xs p s m args meth c sz) (H0 : as_in ad sm wd_fl2 xs S kh_findFlows.2.2.2.2.2.1 xs (hd_0 kh_findFlows) lvE [] S) {k : Nat} (ih : kh_findFlows_I l D tc ad kd N sm xs S p e s m args below meth c sz k) : (∀ (α : List av_X) (lv : List (Nat × Value)) (st : List Value) (S1 : fw_S), as_in ad sm wd_fl2 xs S kh_findFlows.2.2.2.2.2.1 α kh_findFlows_a42.2.2.1 lv st S1 → (True) → 50000 + (10 - nv α 3).toNat < k + 1 → hd_W wd_fl2 kh_findFlows kh_findFlows_y l D tc ad kd N sm xs S p e s m args below meth c sz 42 lv st S1 0) := by
  have hx : xs.length = 2 := by rw [H0.2.1.1]; rfl
  intro α lv st S1 H hp hk
  obtain ⟨α1, hle, Hr⟩ := as_recM (pl := []) [((110, 110), (0, 11, 1))] (by decide +kernel) H
  have hf := H.2.2.2.2.2.2.2.2.2.2.1
  have hl1 : α1.length = 4 := by rw [Hr.2.1.1]; rfl
  have hl0 : α.length = 4 := by rw [H.2.1.1]; rfl
  have hxa : al_le xs α1 := H.1.trans hle
  obtain ⟨g1, -, g3, g4, -⟩ := as_fx Hr
  have g0 : (97 ≤ nv α1 0 ∧ nv α1 0 ≤ 97) ∧ (1 ≤ nv α1 1 ∧ nv α1 1 ≤ 1) ∧ (2 ≤ nv α1 2 ∧ nv α1 2 ≤ 2) ∧ (0 ≤ nv α1 3 ∧ nv α1 3 ≤ 4) ∧ True := by
    refine ⟨by have h := (en_nv (i := 0) Hr.2.1 rfl).2; exact h, by have h := (en_nv (i := 1) Hr.2.1 rfl).2; exact h, by have h := (en_nv (i := 2) Hr.2.1 rfl).2; exact h, by have h := (en_nv (i := 3) Hr.2.1 rfl).2; exact h, trivial⟩
  have r0 : nv α1 0 = nv α 0 := nv_le hle (by omega)
  have r1 : nv α1 1 = nv α 1 := nv_le hle (by omega)
  have r2 : nv α1 2 = nv α 2 := nv_le hle (by omega)
  have r3 : nv α1 3 = nv α 3 := nv_le hle (by omega)
  refine hd_segM G (na := 4) (fuel := 600) (first := true) (Bs := [kh_findFlows_b42_0, kh_findFlows_b42_1]) (by decide +kernel) hl1 Hr ?_
  intro q hq β lv' st' S' H1
  simp only [List.mem_cons, List.not_mem_nil, or_false] at hq
  rcases hq with rfl | rfl
  · obtain ⟨f1, f2, f3, f4, f5⟩ := as_fx H1
    simp only [kh_findFlows_b42_0, Nat.reduceEqDiff, if_false, fx_env, fx_c, fx_ne, fx_hf, wl_S, Nat.zero_add, Nat.reduceAdd, Nat.reduceDiv, Nat.reduceMod, List.getElem?_cons_zero, List.getElem?_cons_succ, if_true, and_true, true_and] at f1 f2 f3 f4 f5
    have fe0 : nv β 0 = 97 := by omega
    have fe1 : nv β 1 = 1 := by omega
    have fe2 : nv β 2 = 2 := by omega
    have fe4 : nv β 4 = 0 := by omega
    have fe6 : nv β 6 = 0 := by omega
    try simp only [fe0, fe1, fe2, fe4, fe6, Int.reduceToNat] at f2 f3 f4 f5
    have s0 : nv β 0 = nv α1 0 := nv_le H1.1 (by omega)
    have s1 : nv β 1 = nv α1 1 := nv_le H1.1 (by omega)
    have s2 : nv β 2 = nv α1 2 := nv_le H1.1 (by omega)
    have s3 : nv β 3 = nv α1 3 := nv_le H1.1 (by omega)
    obtain ⟨c0, c1⟩ := f2
    obtain ⟨α', Ha, hm⟩ := hd_gpM (q := kh_findFlows_a80) (n := 0) (by decide +kernel) hx H1 (by decide +kernel) hxa hf
    have hfr := H1.2.2.2.2.2.2.2.2.2.2.1
    have m0 : nv α' 0 = nv β 0 := hm 0 0 rfl
    have m1 : nv α' 1 = nv β 1 := hm 1 1 rfl
    have m2 : nv α' 2 = nv β 2 := hm 2 2 rfl
    have m3 : nv α' 3 = nv β 6 := hm 3 6 rfl
    refine ih.2.2.1 _ _ _ _ Ha ?_ ?_
    · trivial
    · omega
  · obtain ⟨f1, f2, f3, f4, f5⟩ := as_fx H1
    simp only [kh_findFlows_b42_1, Nat.reduceEqDiff, if_false, fx_env, fx_c, fx_ne, fx_hf, wl_S, Nat.zero_add, Nat.reduceAdd, Nat.reduceDiv, Nat.reduceMod, List.getElem?_cons_zero, List.getElem?_cons_succ, if_true, and_true, true_and] at f1 f2 f3 f4 f5
    have fe0 : nv β 0 = 97 := by omega
    have fe1 : nv β 1 = 1 := by omega
    have fe2 : nv β 2 = 2 := by omega
    have fe4 : nv β 4 = 0 := by omega
    have fe6 : nv β 6 = 110 := by omega
    have fe7 : nv β 7 = 98 := by omega
    have fe9 : nv β 9 = 0 := by omega
    have fe12 : nv β 12 = 112 := by omega
    try simp only [fe0, fe1, fe2, fe4, fe6, fe7, fe9, fe12, Int.reduceToNat] at f2 f3 f4 f5
    have s0 : nv β 0 = nv α1 0 := nv_le H1.1 (by omega)
    have s1 : nv β 1 = nv α1 1 := nv_le H1.1 (by omega)
    have s2 : nv β 2 = nv α1 2 := nv_le H1.1 (by omega)
    have s3 : nv β 3 = nv α1 3 := nv_le H1.1 (by omega)
    obtain ⟨c0, c1, c2, c3, c4⟩ := f2
    obtain ⟨α', Ha, hm⟩ := hd_gpM (q := kh_findFlows_a42) (n := 0) (by decide +kernel) hx H1 (by decide +kernel) hxa hf
    have hfr := H1.2.2.2.2.2.2.2.2.2.2.1
    have m0 : nv α' 0 = nv β 0 := hm 0 0 rfl
    have m1 : nv α' 1 = nv β 1 := hm 1 1 rfl
    have m2 : nv α' 2 = nv β 2 := hm 2 2 rfl
    have m3 : nv α' 3 = nv β 15 := hm 3 15 rfl
    refine ih.2.1 _ _ _ _ Ha ?_ ?_
    · trivial
    · omega
set_option maxHeartbeats 16000000 in
set_option maxRecDepth 8000 in
theorem kh_findFlows_h80 {l : Launch} {D : va_G} {tc : Nat → ClassId} {ad : Nat → Nat} {kd : Nat → Nat × Nat} {N : Nat} {sm : Nat → Nat} {xs : List av_X} {S : fw_S} {p : Program} {e : Env} {s : State} {m : MethodId} {args : Array Value} {below : List Frame} {meth : Method} {c : Code} {sz : Nat} {lvE : List (Nat × Value)} (G : hd_C wd_ff2 wd_fl2 kh_findFlows [kh_1003, kh_spread] kh_findFlows_y l D tc ad kd N sm xs p s m args meth c sz) (H0 : as_in ad sm wd_fl2 xs S kh_findFlows.2.2.2.2.2.1 xs (hd_0 kh_findFlows) lvE [] S) {k : Nat} (ih : kh_findFlows_I l D tc ad kd N sm xs S p e s m args below meth c sz k) : (∀ (α : List av_X) (lv : List (Nat × Value)) (st : List Value) (S1 : fw_S), as_in ad sm wd_fl2 xs S kh_findFlows.2.2.2.2.2.1 α kh_findFlows_a80.2.2.1 lv st S1 → (True) → (12 - nv α 3).toNat * 100 + 99 < k + 1 → hd_W wd_fl2 kh_findFlows kh_findFlows_y l D tc ad kd N sm xs S p e s m args below meth c sz 80 lv st S1 0) := by
  have hx : xs.length = 2 := by rw [H0.2.1.1]; rfl
  intro α lv st S1 H hp hk
  obtain ⟨α1, hle, Hr⟩ := as_recM (pl := []) [] (by decide +kernel) H
  have hf := H.2.2.2.2.2.2.2.2.2.2.1
  have hl1 : α1.length = 4 := by rw [Hr.2.1.1]; rfl
  have hl0 : α.length = 4 := by rw [H.2.1.1]; rfl
  have hxa : al_le xs α1 := H.1.trans hle
  obtain ⟨g1, -, g3, g4, -⟩ := as_fx Hr
  have g0 : (97 ≤ nv α1 0 ∧ nv α1 0 ≤ 97) ∧ (1 ≤ nv α1 1 ∧ nv α1 1 ≤ 1) ∧ (2 ≤ nv α1 2 ∧ nv α1 2 ≤ 2) ∧ (0 ≤ nv α1 3 ∧ nv α1 3 ≤ 12) ∧ True := by
    refine ⟨by have h := (en_nv (i := 0) Hr.2.1 rfl).2; exact h, by have h := (en_nv (i := 1) Hr.2.1 rfl).2; exact h, by have h := (en_nv (i := 2) Hr.2.1 rfl).2; exact h, by have h := (en_nv (i := 3) Hr.2.1 rfl).2; exact h, trivial⟩
  have r0 : nv α1 0 = nv α 0 := nv_le hle (by omega)
  have r1 : nv α1 1 = nv α 1 := nv_le hle (by omega)
  have r2 : nv α1 2 = nv α 2 := nv_le hle (by omega)
  have r3 : nv α1 3 = nv α 3 := nv_le hle (by omega)
  refine hd_segM G (na := 4) (fuel := 600) (first := true) (Bs := [kh_findFlows_b80_0, kh_findFlows_b80_1, kh_findFlows_b80_2]) (by decide +kernel) hl1 Hr ?_
  intro q hq β lv' st' S' H1
  simp only [List.mem_cons, List.not_mem_nil, or_false] at hq
  rcases hq with rfl | rfl | rfl
  · obtain ⟨f1, f2, f3, f4, f5⟩ := as_fx H1
    simp only [kh_findFlows_b80_0, Nat.reduceEqDiff, if_false, fx_env, fx_c, fx_ne, fx_hf, wl_S, Nat.zero_add, Nat.reduceAdd, Nat.reduceDiv, Nat.reduceMod, List.getElem?_cons_zero, List.getElem?_cons_succ, if_true, and_true, true_and] at f1 f2 f3 f4 f5
    have fe0 : nv β 0 = 97 := by omega
    have fe1 : nv β 1 = 1 := by omega
    have fe2 : nv β 2 = 2 := by omega
    have fe3 : nv β 3 = 12 := by omega
    have fe4 : nv β 4 = 12 := by omega
    try simp only [fe0, fe1, fe2, fe3, fe4, Int.reduceToNat] at f2 f3 f4 f5
    have s0 : nv β 0 = nv α1 0 := nv_le H1.1 (by omega)
    have s1 : nv β 1 = nv α1 1 := nv_le H1.1 (by omega)
    have s2 : nv β 2 = nv α1 2 := nv_le H1.1 (by omega)
    have s3 : nv β 3 = nv α1 3 := nv_le H1.1 (by omega)
    have c0 := f2
    exact hd_run G (ss := []) (fuel := 20) (by decide +kernel) (as_backM H1 (by decide +kernel) hxa hf)
  · obtain ⟨f1, f2, f3, f4, f5⟩ := as_fx H1
    simp only [kh_findFlows_b80_1, Nat.reduceEqDiff, if_false, fx_env, fx_c, fx_ne, fx_hf, wl_S, Nat.zero_add, Nat.reduceAdd, Nat.reduceDiv, Nat.reduceMod, List.getElem?_cons_zero, List.getElem?_cons_succ, if_true, and_true, true_and] at f1 f2 f3 f4 f5
    have fe0 : nv β 0 = 97 := by omega
    have fe1 : nv β 1 = 1 := by omega
    have fe2 : nv β 2 = 2 := by omega
    have fe4 : nv β 4 = 12 := by omega
    have fe5 : nv β 5 = 106 := by omega
    try simp only [fe0, fe1, fe2, fe4, fe5, Int.reduceToNat] at f2 f3 f4 f5
    have s0 : nv β 0 = nv α1 0 := nv_le H1.1 (by omega)
    have s1 : nv β 1 = nv α1 1 := nv_le H1.1 (by omega)
    have s2 : nv β 2 = nv α1 2 := nv_le H1.1 (by omega)
    have s3 : nv β 3 = nv α1 3 := nv_le H1.1 (by omega)
    obtain ⟨c0, c1, c2⟩ := f2
    obtain ⟨α', Ha, hm⟩ := hd_gpM (q := kh_findFlows_a80) (n := 0) (by decide +kernel) hx H1 (by decide +kernel) hxa hf
    have hfr := H1.2.2.2.2.2.2.2.2.2.2.1
    have m0 : nv α' 0 = nv β 0 := hm 0 0 rfl
    have m1 : nv α' 1 = nv β 1 := hm 1 1 rfl
    have m2 : nv α' 2 = nv β 2 := hm 2 2 rfl
    have m3 : nv α' 3 = nv β 7 := hm 3 7 rfl
    refine ih.2.2.1 _ _ _ _ Ha ?_ ?_
    · trivial
    · omega
  · obtain ⟨f1, f2, f3, f4, f5⟩ := as_fx H1
    simp only [kh_findFlows_b80_2, Nat.reduceEqDiff, if_false, fx_env, fx_c, fx_ne, fx_hf, wl_S, Nat.zero_add, Nat.reduceAdd, Nat.reduceDiv, Nat.reduceMod, List.getElem?_cons_zero, List.getElem?_cons_succ, if_true, and_true, true_and] at f1 f2 f3 f4 f5
    have fe0 : nv β 0 = 97 := by omega
    have fe1 : nv β 1 = 1 := by omega
    have fe2 : nv β 2 = 2 := by omega
    have fe4 : nv β 4 = 12 := by omega
    have fe5 : nv β 5 = 106 := by omega
    have fe7 : nv β 7 = 8 := by omega
    have fe8 : nv β 8 = 96 := by omega
    have fe9 : nv β 9 = 99 := by omega
    try simp only [fe0, fe1, fe2, fe4, fe5, fe7, fe8, fe9, Int.reduceToNat] at f2 f3 f4 f5
    have s0 : nv β 0 = nv α1 0 := nv_le H1.1 (by omega)
    have s1 : nv β 1 = nv α1 1 := nv_le H1.1 (by omega)
    have s2 : nv β 2 = nv α1 2 := nv_le H1.1 (by omega)
    have s3 : nv β 3 = nv α1 3 := nv_le H1.1 (by omega)
    obtain ⟨c0, c1, c2⟩ := f2
    obtain ⟨α', Ha, hm⟩ := hd_gpM (q := kh_findFlows_a107) (n := 0) (by decide +kernel) hx H1 (by decide +kernel) hxa hf
    have hfr := H1.2.2.2.2.2.2.2.2.2.2.1
    have m0 : nv α' 0 = nv β 0 := hm 0 0 rfl
    have m1 : nv α' 1 = nv β 1 := hm 1 1 rfl
    have m2 : nv α' 2 = nv β 2 := hm 2 2 rfl
    have m3 : nv α' 3 = nv β 3 := hm 3 3 rfl
    have m4 : nv α' 4 = nv β 9 := hm 4 9 rfl
    have m5 : nv α' 5 = nv β 8 := hm 5 8 rfl
    have m6 : nv α' 6 = nv β 3 := hm 6 3 rfl
    have m7 : nv α' 7 = nv β 2 := hm 7 2 rfl
    refine ih.2.2.2.1 _ _ _ _ Ha ?_ ?_
    · omega
    · omega
set_option maxHeartbeats 16000000 in
set_option maxRecDepth 8000 in
theorem kh_findFlows_h107 {l : Launch} {D : va_G} {tc : Nat → ClassId} {ad : Nat → Nat} {kd : Nat → Nat × Nat} {N : Nat} {sm : Nat → Nat} {xs : List av_X} {S : fw_S} {p : Program} {e : Env} {s : State} {m : MethodId} {args : Array Value} {below : List Frame} {meth : Method} {c : Code} {sz : Nat} {lvE : List (Nat × Value)} (G : hd_C wd_ff2 wd_fl2 kh_findFlows [kh_1003, kh_spread] kh_findFlows_y l D tc ad kd N sm xs p s m args meth c sz) (H0 : as_in ad sm wd_fl2 xs S kh_findFlows.2.2.2.2.2.1 xs (hd_0 kh_findFlows) lvE [] S) {k : Nat} (ih : kh_findFlows_I l D tc ad kd N sm xs S p e s m args below meth c sz k) : (∀ (α : List av_X) (lv : List (Nat × Value)) (st : List Value) (S1 : fw_S), as_in ad sm wd_fl2 xs S kh_findFlows.2.2.2.2.2.1 α kh_findFlows_a107.2.2.1 lv st S1 → (nv α 6 = nv α 3) → (12 - nv α 3).toNat * 100 + 98 < k + 1 → hd_W wd_fl2 kh_findFlows kh_findFlows_y l D tc ad kd N sm xs S p e s m args below meth c sz 107 lv st S1 0) := by
  have hx : xs.length = 2 := by rw [H0.2.1.1]; rfl
  intro α lv st S1 H hp hk
  obtain ⟨α1, hle, Hr⟩ := as_recM (pl := []) [((2, 2), (4, 4, 0)), ((4, 4), (0, 11, 1)), ((5, 5), (0, 11, 1)), ((6, 6), (0, 11, 1))] (by decide +kernel) H
  have hf := H.2.2.2.2.2.2.2.2.2.2.1
  have hl1 : α1.length = 8 := by rw [Hr.2.1.1]; rfl
  have hl0 : α.length = 8 := by rw [H.2.1.1]; rfl
  have hxa : al_le xs α1 := H.1.trans hle
  obtain ⟨g1, -, g3, g4, -⟩ := as_fx Hr
  have g0 : (97 ≤ nv α1 0 ∧ nv α1 0 ≤ 97) ∧ (1 ≤ nv α1 1 ∧ nv α1 1 ≤ 1) ∧ (2 ≤ nv α1 2 ∧ nv α1 2 ≤ 2) ∧ (0 ≤ nv α1 3 ∧ nv α1 3 ≤ 11) ∧ (99 ≤ nv α1 4 ∧ nv α1 4 ≤ 99) ∧ (96 ≤ nv α1 5 ∧ nv α1 5 ≤ 96) ∧ (0 ≤ nv α1 6 ∧ nv α1 6 ≤ 11) ∧ (2 ≤ nv α1 7 ∧ nv α1 7 ≤ 2) ∧ True := by
    refine ⟨by have h := (en_nv (i := 0) Hr.2.1 rfl).2; exact h, by have h := (en_nv (i := 1) Hr.2.1 rfl).2; exact h, by have h := (en_nv (i := 2) Hr.2.1 rfl).2; exact h, by have h := (en_nv (i := 3) Hr.2.1 rfl).2; exact h, by have h := (en_nv (i := 4) Hr.2.1 rfl).2; exact h, by have h := (en_nv (i := 5) Hr.2.1 rfl).2; exact h, by have h := (en_nv (i := 6) Hr.2.1 rfl).2; exact h, by have h := (en_nv (i := 7) Hr.2.1 rfl).2; exact h, trivial⟩
  have r0 : nv α1 0 = nv α 0 := nv_le hle (by omega)
  have r1 : nv α1 1 = nv α 1 := nv_le hle (by omega)
  have r2 : nv α1 2 = nv α 2 := nv_le hle (by omega)
  have r3 : nv α1 3 = nv α 3 := nv_le hle (by omega)
  have r4 : nv α1 4 = nv α 4 := nv_le hle (by omega)
  have r5 : nv α1 5 = nv α 5 := nv_le hle (by omega)
  have r6 : nv α1 6 = nv α 6 := nv_le hle (by omega)
  have r7 : nv α1 7 = nv α 7 := nv_le hle (by omega)
  refine hd_callR (Rr := R_spread) (Rs := [kh_spread]) (idx := 124) G (List.forall_mem_cons.mpr ⟨kh_spread_okR, List.forall_mem_nil _⟩) (na := 8) (Bs := [kh_findFlows_b107_0]) (by decide +kernel) (by decide +kernel) hl1 Hr ?_
  intro q hq β lv' st' S' H1 hRx
  simp only [List.mem_cons, List.not_mem_nil, or_false] at hq
  rcases hq with rfl
  · obtain ⟨f1, f2, f3, f4, f5⟩ := as_fx H1
    simp only [kh_findFlows_b107_0, Nat.reduceEqDiff, if_false, fx_env, fx_c, fx_ne, fx_hf, wl_S, Nat.zero_add, Nat.reduceAdd, Nat.reduceDiv, Nat.reduceMod, List.getElem?_cons_zero, List.getElem?_cons_succ, if_true, and_true, true_and] at f1 f2 f3 f4 f5
    have fe0 : nv β 0 = 97 := by omega
    have fe1 : nv β 1 = 1 := by omega
    have fe2 : nv β 2 = 2 := by omega
    have fe4 : nv β 4 = 99 := by omega
    have fe5 : nv β 5 = 96 := by omega
    have fe7 : nv β 7 = 2 := by omega
    try simp only [fe0, fe1, fe2, fe4, fe5, fe7, Int.reduceToNat] at f2 f3 f4 f5
    have s0 : nv β 0 = nv α1 0 := nv_le H1.1 (by omega)
    have s1 : nv β 1 = nv α1 1 := nv_le H1.1 (by omega)
    have s2 : nv β 2 = nv α1 2 := nv_le H1.1 (by omega)
    have s3 : nv β 3 = nv α1 3 := nv_le H1.1 (by omega)
    have s4 : nv β 4 = nv α1 4 := nv_le H1.1 (by omega)
    have s5 : nv β 5 = nv α1 5 := nv_le H1.1 (by omega)
    have s6 : nv β 6 = nv α1 6 := nv_le H1.1 (by omega)
    have s7 : nv β 7 = nv α1 7 := nv_le H1.1 (by omega)
    obtain ⟨α', Ha, hm⟩ := hd_gpM (q := kh_findFlows_a110) (n := 0) (by decide +kernel) hx H1 (by decide +kernel) hxa hf
    have hfr := H1.2.2.2.2.2.2.2.2.2.2.1
    have m0 : nv α' 0 = nv β 0 := hm 0 0 rfl
    have m1 : nv α' 1 = nv β 1 := hm 1 1 rfl
    have m2 : nv α' 2 = nv β 2 := hm 2 2 rfl
    have m3 : nv α' 3 = nv β 3 := hm 3 3 rfl
    obtain ⟨Cc, hCc, ys, rr, hnm, hR, rest, hre⟩ := hRx
    rcases List.mem_singleton.mp hCc with rfl
    have y1 : nv ys 1 = nv α1 6 := nm_nv hnm (i := 1) (v := 6) rfl
    have hR2 := hR.2
    rw [y1, r6, hp] at hR2
    refine ih.2.2.2.2.1 _ _ _ _ Ha ?_ ?_
    · rw [m3, s3, r3]
      exact hR2
    · omega
set_option maxHeartbeats 16000000 in
set_option maxRecDepth 8000 in
theorem kh_findFlows_h110 {l : Launch} {D : va_G} {tc : Nat → ClassId} {ad : Nat → Nat} {kd : Nat → Nat × Nat} {N : Nat} {sm : Nat → Nat} {xs : List av_X} {S : fw_S} {p : Program} {e : Env} {s : State} {m : MethodId} {args : Array Value} {below : List Frame} {meth : Method} {c : Code} {sz : Nat} {lvE : List (Nat × Value)} (G : hd_C wd_ff2 wd_fl2 kh_findFlows [kh_1003, kh_spread] kh_findFlows_y l D tc ad kd N sm xs p s m args meth c sz) (H0 : as_in ad sm wd_fl2 xs S kh_findFlows.2.2.2.2.2.1 xs (hd_0 kh_findFlows) lvE [] S) {k : Nat} (ih : kh_findFlows_I l D tc ad kd N sm xs S p e s m args below meth c sz k) : (∀ (α : List av_X) (lv : List (Nat × Value)) (st : List Value) (S1 : fw_S), as_in ad sm wd_fl2 xs S kh_findFlows.2.2.2.2.2.1 α kh_findFlows_a110.2.2.1 lv st S1 → (wyI (yF S1) (yV S1) (yM S1) (yR S1) (nv α 3)) → (12 - nv α 3).toNat * 100 + 97 < k + 1 → hd_W wd_fl2 kh_findFlows kh_findFlows_y l D tc ad kd N sm xs S p e s m args below meth c sz 110 lv st S1 0) := by
  have hx : xs.length = 2 := by rw [H0.2.1.1]; rfl
  intro α lv st S1 H hp hk
  obtain ⟨α1, hle, Hr⟩ := as_recM (pl := []) [] (by decide +kernel) H
  have hf := H.2.2.2.2.2.2.2.2.2.2.1
  have hl1 : α1.length = 4 := by rw [Hr.2.1.1]; rfl
  have hl0 : α.length = 4 := by rw [H.2.1.1]; rfl
  have hxa : al_le xs α1 := H.1.trans hle
  obtain ⟨g1, -, g3, g4, -⟩ := as_fx Hr
  have g0 : (97 ≤ nv α1 0 ∧ nv α1 0 ≤ 97) ∧ (1 ≤ nv α1 1 ∧ nv α1 1 ≤ 1) ∧ (2 ≤ nv α1 2 ∧ nv α1 2 ≤ 2) ∧ (0 ≤ nv α1 3 ∧ nv α1 3 ≤ 11) ∧ True := by
    refine ⟨by have h := (en_nv (i := 0) Hr.2.1 rfl).2; exact h, by have h := (en_nv (i := 1) Hr.2.1 rfl).2; exact h, by have h := (en_nv (i := 2) Hr.2.1 rfl).2; exact h, by have h := (en_nv (i := 3) Hr.2.1 rfl).2; exact h, trivial⟩
  have r0 : nv α1 0 = nv α 0 := nv_le hle (by omega)
  have r1 : nv α1 1 = nv α 1 := nv_le hle (by omega)
  have r2 : nv α1 2 = nv α 2 := nv_le hle (by omega)
  have r3 : nv α1 3 = nv α 3 := nv_le hle (by omega)
  refine hd_segM G (na := 4) (fuel := 600) (first := true) (Bs := [kh_findFlows_b110_0]) (by decide +kernel) hl1 Hr ?_
  intro q hq β lv' st' S' H1
  simp only [List.mem_cons, List.not_mem_nil, or_false] at hq
  rcases hq with rfl
  · obtain ⟨f1, f2, f3, f4, f5⟩ := as_fx H1
    simp only [kh_findFlows_b110_0, Nat.reduceEqDiff, if_false, fx_env, fx_c, fx_ne, fx_hf, wl_S, Nat.zero_add, Nat.reduceAdd, Nat.reduceDiv, Nat.reduceMod, List.getElem?_cons_zero, List.getElem?_cons_succ, if_true, and_true, true_and] at f1 f2 f3 f4 f5
    have fe0 : nv β 0 = 97 := by omega
    have fe1 : nv β 1 = 1 := by omega
    have fe2 : nv β 2 = 2 := by omega
    have fe4 : nv β 4 = 4 := by omega
    have fe6 : nv β 6 = 1 := by omega
    try simp only [fe0, fe1, fe2, fe4, fe6, Int.reduceToNat] at f2 f3 f4 f5
    have s0 : nv β 0 = nv α1 0 := nv_le H1.1 (by omega)
    have s1 : nv β 1 = nv α1 1 := nv_le H1.1 (by omega)
    have s2 : nv β 2 = nv α1 2 := nv_le H1.1 (by omega)
    have s3 : nv β 3 = nv α1 3 := nv_le H1.1 (by omega)
    obtain ⟨c0, c1⟩ := f2
    obtain ⟨α', Ha, hm⟩ := hd_gpM (q := kh_findFlows_a118) (n := 0) (by decide +kernel) hx H1 (by decide +kernel) hxa hf
    have hfr := H1.2.2.2.2.2.2.2.2.2.2.1
    have m0 : nv α' 0 = nv β 0 := hm 0 0 rfl
    have m1 : nv α' 1 = nv β 1 := hm 1 1 rfl
    have m2 : nv α' 2 = nv β 2 := hm 2 2 rfl
    have m3 : nv α' 3 = nv β 3 := hm 3 3 rfl
    have m4 : nv α' 4 = nv β 7 := hm 4 7 rfl
    have o1 := old_i c1 (en_nv (i := 5) H1.2.1 rfl).1
    have e5' : S' = S1 := f5
    have u : yR S1 = nv β 5 := o1
    refine ih.2.2.2.2.2.1 _ _ _ _ Ha ?_ ?_
    · rw [e5', m3, m4, s3, r3]
      exact ⟨hp, by omega⟩
    · omega
set_option maxHeartbeats 16000000 in
set_option maxRecDepth 8000 in
theorem kh_findFlows_h118 {l : Launch} {D : va_G} {tc : Nat → ClassId} {ad : Nat → Nat} {kd : Nat → Nat × Nat} {N : Nat} {sm : Nat → Nat} {xs : List av_X} {S : fw_S} {p : Program} {e : Env} {s : State} {m : MethodId} {args : Array Value} {below : List Frame} {meth : Method} {c : Code} {sz : Nat} {lvE : List (Nat × Value)} (G : hd_C wd_ff2 wd_fl2 kh_findFlows [kh_1003, kh_spread] kh_findFlows_y l D tc ad kd N sm xs p s m args meth c sz) (H0 : as_in ad sm wd_fl2 xs S kh_findFlows.2.2.2.2.2.1 xs (hd_0 kh_findFlows) lvE [] S) {k : Nat} (ih : kh_findFlows_I l D tc ad kd N sm xs S p e s m args below meth c sz k) : (∀ (α : List av_X) (lv : List (Nat × Value)) (st : List Value) (S1 : fw_S), as_in ad sm wd_fl2 xs S kh_findFlows.2.2.2.2.2.1 α kh_findFlows_a118.2.2.1 lv st S1 → (wyI (yF S1) (yV S1) (yM S1) (yR S1) (nv α 3) ∧ nv α 4 < yR S1) → (12 - nv α 3).toNat * 100 + (nv α 4 + 1).toNat * 2 + 1 < k + 1 → hd_W wd_fl2 kh_findFlows kh_findFlows_y l D tc ad kd N sm xs S p e s m args below meth c sz 118 lv st S1 0) := by
  have hx : xs.length = 2 := by rw [H0.2.1.1]; rfl
  intro α lv st S1 H hp hk
  obtain ⟨α1, hle, Hr⟩ := as_recM (pl := []) [((111, 111), (0, 16, 1))] (by decide +kernel) H
  have hf := H.2.2.2.2.2.2.2.2.2.2.1
  have hl1 : α1.length = 5 := by rw [Hr.2.1.1]; rfl
  have hl0 : α.length = 5 := by rw [H.2.1.1]; rfl
  have hxa : al_le xs α1 := H.1.trans hle
  obtain ⟨g1, -, g3, g4, -⟩ := as_fx Hr
  have g0 : (97 ≤ nv α1 0 ∧ nv α1 0 ≤ 97) ∧ (1 ≤ nv α1 1 ∧ nv α1 1 ≤ 1) ∧ (2 ≤ nv α1 2 ∧ nv α1 2 ≤ 2) ∧ (0 ≤ nv α1 3 ∧ nv α1 3 ≤ 11) ∧ ((-1) ≤ nv α1 4 ∧ nv α1 4 ≤ 11) ∧ True := by
    refine ⟨by have h := (en_nv (i := 0) Hr.2.1 rfl).2; exact h, by have h := (en_nv (i := 1) Hr.2.1 rfl).2; exact h, by have h := (en_nv (i := 2) Hr.2.1 rfl).2; exact h, by have h := (en_nv (i := 3) Hr.2.1 rfl).2; exact h, by have h := (en_nv (i := 4) Hr.2.1 rfl).2; exact h, trivial⟩
  have r0 : nv α1 0 = nv α 0 := nv_le hle (by omega)
  have r1 : nv α1 1 = nv α 1 := nv_le hle (by omega)
  have r2 : nv α1 2 = nv α 2 := nv_le hle (by omega)
  have r3 : nv α1 3 = nv α 3 := nv_le hle (by omega)
  have r4 : nv α1 4 = nv α 4 := nv_le hle (by omega)
  refine hd_segM G (na := 5) (fuel := 600) (first := true) (Bs := [kh_findFlows_b118_0, kh_findFlows_b118_1, kh_findFlows_b118_2]) (by decide +kernel) hl1 Hr ?_
  intro q hq β lv' st' S' H1
  simp only [List.mem_cons, List.not_mem_nil, or_false] at hq
  rcases hq with rfl | rfl | rfl
  · obtain ⟨f1, f2, f3, f4, f5⟩ := as_fx H1
    simp only [kh_findFlows_b118_0, Nat.reduceEqDiff, if_false, fx_env, fx_c, fx_ne, fx_hf, wl_S, Nat.zero_add, Nat.reduceAdd, Nat.reduceDiv, Nat.reduceMod, List.getElem?_cons_zero, List.getElem?_cons_succ, if_true, and_true, true_and] at f1 f2 f3 f4 f5
    have fe0 : nv β 0 = 97 := by omega
    have fe1 : nv β 1 = 1 := by omega
    have fe2 : nv β 2 = 2 := by omega
    try simp only [fe0, fe1, fe2, Int.reduceToNat] at f2 f3 f4 f5
    have s0 : nv β 0 = nv α1 0 := nv_le H1.1 (by omega)
    have s1 : nv β 1 = nv α1 1 := nv_le H1.1 (by omega)
    have s2 : nv β 2 = nv α1 2 := nv_le H1.1 (by omega)
    have s3 : nv β 3 = nv α1 3 := nv_le H1.1 (by omega)
    have s4 : nv β 4 = nv α1 4 := nv_le H1.1 (by omega)
    obtain ⟨α', Ha, hm⟩ := hd_gpM (q := kh_findFlows_a80) (n := 0) (by decide +kernel) hx H1 (by decide +kernel) hxa hf
    have hfr := H1.2.2.2.2.2.2.2.2.2.2.1
    have m0 : nv α' 0 = nv β 0 := hm 0 0 rfl
    have m1 : nv α' 1 = nv β 1 := hm 1 1 rfl
    have m2 : nv α' 2 = nv β 2 := hm 2 2 rfl
    have m3 : nv α' 3 = nv β 5 := hm 3 5 rfl
    refine ih.2.2.1 _ _ _ _ Ha ?_ ?_
    · trivial
    · omega
  · obtain ⟨f1, f2, f3, f4, f5⟩ := as_fx H1
    simp only [kh_findFlows_b118_1, Nat.reduceEqDiff, if_false, fx_env, fx_c, fx_ne, fx_hf, wl_S, Nat.zero_add, Nat.reduceAdd, Nat.reduceDiv, Nat.reduceMod, List.getElem?_cons_zero, List.getElem?_cons_succ, if_true, and_true, true_and] at f1 f2 f3 f4 f5
    have fe0 : nv β 0 = 97 := by omega
    have fe1 : nv β 1 = 1 := by omega
    have fe2 : nv β 2 = 2 := by omega
    have fe5 : nv β 5 = 6 := by omega
    have fe7 : nv β 7 = 5 := by omega
    have fe9 : nv β 9 = 111 := by omega
    have fe12 : nv β 12 = 110 := by omega
    have fe15 : nv β 15 = 110 := by omega
    try simp only [fe0, fe1, fe2, fe5, fe7, fe9, fe12, fe15, Int.reduceToNat] at f2 f3 f4 f5
    have s0 : nv β 0 = nv α1 0 := nv_le H1.1 (by omega)
    have s1 : nv β 1 = nv α1 1 := nv_le H1.1 (by omega)
    have s2 : nv β 2 = nv α1 2 := nv_le H1.1 (by omega)
    have s3 : nv β 3 = nv α1 3 := nv_le H1.1 (by omega)
    have s4 : nv β 4 = nv α1 4 := nv_le H1.1 (by omega)
    obtain ⟨c0, c1, c2, c3, c4, c5, c6, c7, c8⟩ := f2
    obtain ⟨α', Ha, hm⟩ := hd_gpM (q := kh_findFlows_a197) (n := 0) (by decide +kernel) hx H1 (by decide +kernel) hxa hf
    have hfr := H1.2.2.2.2.2.2.2.2.2.2.1
    have m0 : nv α' 0 = nv β 0 := hm 0 0 rfl
    have m1 : nv α' 1 = nv β 1 := hm 1 1 rfl
    have m2 : nv α' 2 = nv β 2 := hm 2 2 rfl
    have m3 : nv α' 3 = nv β 3 := hm 3 3 rfl
    have m4 : nv α' 4 = nv β 4 := hm 4 4 rfl
    have m5 : nv α' 5 = nv β 6 := hm 5 6 rfl
    have m6 : nv α' 6 = nv β 8 := hm 6 8 rfl
    have m7 : nv α' 7 = nv β 21 := hm 7 21 rfl
    have m8 : nv α' 8 = nv β 15 := hm 8 15 rfl
    have o4 := old_0 c4 rfl
    have o7 := old_0 c7 rfl
    have o8 := old_0 c8 rfl
    have e4 : S'.1 4 = S1.1 4 := fr_row hfr 4 (by decide +kernel)
    have e5 : S'.1 5 = S1.1 5 := fr_row hfr 5 (by decide +kernel)
    have e6 : S'.1 6 = S1.1 6 := fr_row hfr 6 (by decide +kernel)
    have e2 : S'.1 2 4 = S1.1 2 4 := fr_pl hfr 2 4 (by decide +kernel)
    obtain ⟨p1, p2⟩ := hp
    have t0 := tb_low c3
    have t1 := tb_high c2
    have w := wy_step p1 (k := nv α 4) (by omega) p2
    have u6 : yM S1 (nv α 4) = nv β 6 := by rw [show nv α 4 = nv β 4 by omega]; exact o8
    have u5 : yV S1 (nv β 6) = nv β 8 := o7
    rw [u6, u5] at w
    have u7 : nv β 21 = othT (nv β 8) (nv β 6) := by unfold othT; rw [← t0, ← t1]; omega
    rw [← u7] at w
    refine ih.2.2.2.2.2.2.1 _ _ _ _ Ha ?_ ?_
    · rw [m3, m4, m7, s3, r3, s4, r4]
      refine ⟨wyI_eq e4 e5 e6 e2 p1, ?_, by omega, w⟩
      unfold yR at p2 ⊢
      rw [e2]; exact p2
    · omega
  · obtain ⟨f1, f2, f3, f4, f5⟩ := as_fx H1
    simp only [kh_findFlows_b118_2, Nat.reduceEqDiff, if_false, fx_env, fx_c, fx_ne, fx_hf, wl_S, Nat.zero_add, Nat.reduceAdd, Nat.reduceDiv, Nat.reduceMod, List.getElem?_cons_zero, List.getElem?_cons_succ, if_true, and_true, true_and] at f1 f2 f3 f4 f5
    have fe0 : nv β 0 = 97 := by omega
    have fe1 : nv β 1 = 1 := by omega
    have fe2 : nv β 2 = 2 := by omega
    have fe5 : nv β 5 = 6 := by omega
    have fe7 : nv β 7 = 5 := by omega
    have fe9 : nv β 9 = 111 := by omega
    have fe12 : nv β 12 = 110 := by omega
    have fe14 : nv β 14 = 110 := by omega
    try simp only [fe0, fe1, fe2, fe5, fe7, fe9, fe12, fe14, Int.reduceToNat] at f2 f3 f4 f5
    have s0 : nv β 0 = nv α1 0 := nv_le H1.1 (by omega)
    have s1 : nv β 1 = nv α1 1 := nv_le H1.1 (by omega)
    have s2 : nv β 2 = nv α1 2 := nv_le H1.1 (by omega)
    have s3 : nv β 3 = nv α1 3 := nv_le H1.1 (by omega)
    have s4 : nv β 4 = nv α1 4 := nv_le H1.1 (by omega)
    obtain ⟨c0, c1, c2, c3, c4, c5, c6, c7, c8⟩ := f2
    obtain ⟨α', Ha, hm⟩ := hd_gpM (q := kh_findFlows_a197) (n := 0) (by decide +kernel) hx H1 (by decide +kernel) hxa hf
    have hfr := H1.2.2.2.2.2.2.2.2.2.2.1
    have m0 : nv α' 0 = nv β 0 := hm 0 0 rfl
    have m1 : nv α' 1 = nv β 1 := hm 1 1 rfl
    have m2 : nv α' 2 = nv β 2 := hm 2 2 rfl
    have m3 : nv α' 3 = nv β 3 := hm 3 3 rfl
    have m4 : nv α' 4 = nv β 4 := hm 4 4 rfl
    have m5 : nv α' 5 = nv β 6 := hm 5 6 rfl
    have m6 : nv α' 6 = nv β 8 := hm 6 8 rfl
    have m7 : nv α' 7 = nv β 20 := hm 7 20 rfl
    have m8 : nv α' 8 = nv β 14 := hm 8 14 rfl
    have o4 := old_0 c4 rfl
    have o7 := old_0 c7 rfl
    have o8 := old_0 c8 rfl
    have e4 : S'.1 4 = S1.1 4 := fr_row hfr 4 (by decide +kernel)
    have e5 : S'.1 5 = S1.1 5 := fr_row hfr 5 (by decide +kernel)
    have e6 : S'.1 6 = S1.1 6 := fr_row hfr 6 (by decide +kernel)
    have e2 : S'.1 2 4 = S1.1 2 4 := fr_pl hfr 2 4 (by decide +kernel)
    obtain ⟨p1, p2⟩ := hp
    have t0 := tb_low c3
    have t1 := tb_high c2
    have w := wy_step p1 (k := nv α 4) (by omega) p2
    have u6 : yM S1 (nv α 4) = nv β 6 := by rw [show nv α 4 = nv β 4 by omega]; exact o8
    have u5 : yV S1 (nv β 6) = nv β 8 := o7
    rw [u6, u5] at w
    have u7 : nv β 20 = othT (nv β 8) (nv β 6) := by unfold othT; rw [← t0, ← t1]; omega
    rw [← u7] at w
    refine ih.2.2.2.2.2.2.1 _ _ _ _ Ha ?_ ?_
    · rw [m3, m4, m7, s3, r3, s4, r4]
      refine ⟨wyI_eq e4 e5 e6 e2 p1, ?_, by omega, w⟩
      unfold yR at p2 ⊢
      rw [e2]; exact p2
    · omega
set_option maxHeartbeats 16000000 in
set_option maxRecDepth 8000 in
theorem kh_findFlows_h197 {l : Launch} {D : va_G} {tc : Nat → ClassId} {ad : Nat → Nat} {kd : Nat → Nat × Nat} {N : Nat} {sm : Nat → Nat} {xs : List av_X} {S : fw_S} {p : Program} {e : Env} {s : State} {m : MethodId} {args : Array Value} {below : List Frame} {meth : Method} {c : Code} {sz : Nat} {lvE : List (Nat × Value)} (G : hd_C wd_ff2 wd_fl2 kh_findFlows [kh_1003, kh_spread] kh_findFlows_y l D tc ad kd N sm xs p s m args meth c sz) (H0 : as_in ad sm wd_fl2 xs S kh_findFlows.2.2.2.2.2.1 xs (hd_0 kh_findFlows) lvE [] S) {k : Nat} (ih : kh_findFlows_I l D tc ad kd N sm xs S p e s m args below meth c sz k) : (∀ (α : List av_X) (lv : List (Nat × Value)) (st : List Value) (S1 : fw_S), as_in ad sm wd_fl2 xs S kh_findFlows.2.2.2.2.2.1 α kh_findFlows_a197.2.2.1 lv st S1 → (wyI (yF S1) (yV S1) (yM S1) (yR S1) (nv α 3) ∧ nv α 4 < yR S1 ∧ 1 ≤ nv α 4 ∧ (0 ≤ nv α 7 ∧ nv α 7 ≤ 11)) → (12 - nv α 3).toNat * 100 + (nv α 4 + 1).toNat * 2 < k + 1 → hd_W wd_fl2 kh_findFlows kh_findFlows_y l D tc ad kd N sm xs S p e s m args below meth c sz 197 lv st S1 0) := by
  have hx : xs.length = 2 := by rw [H0.2.1.1]; rfl
  intro α lv st S1 H hp hk
  have bp := (en_nv (i := 7) H.2.1 rfl).2
  change (-10) ≤ nv α 7 ∧ nv α 7 ≤ 21 at bp
  replace H := as_clamp (i := 7) (lo := 0) (hi := 11) H rfl rfl (by exact hp.2.2.2.1) (by exact hp.2.2.2.2) (by decide)
  obtain ⟨α1, hle, Hr⟩ := as_recM (pl := []) [((110, 110), (0, 11, 1))] (by decide +kernel) H
  have hf := H.2.2.2.2.2.2.2.2.2.2.1
  have hl1 : α1.length = 9 := by rw [Hr.2.1.1]; rfl
  have hl0 : α.length = 9 := by rw [H.2.1.1]; rfl
  have hxa : al_le xs α1 := H.1.trans hle
  obtain ⟨g1, -, g3, g4, -⟩ := as_fx Hr
  have g0 : (97 ≤ nv α1 0 ∧ nv α1 0 ≤ 97) ∧ (1 ≤ nv α1 1 ∧ nv α1 1 ≤ 1) ∧ (2 ≤ nv α1 2 ∧ nv α1 2 ≤ 2) ∧ (0 ≤ nv α1 3 ∧ nv α1 3 ≤ 11) ∧ (1 ≤ nv α1 4 ∧ nv α1 4 ≤ 11) ∧ (0 ≤ nv α1 5 ∧ nv α1 5 ≤ 11) ∧ (0 ≤ nv α1 6 ∧ nv α1 6 ≤ 16) ∧ (0 ≤ nv α1 7 ∧ nv α1 7 ≤ 11) ∧ (110 ≤ nv α1 8 ∧ nv α1 8 ≤ 110) ∧ True := by
    refine ⟨by have h := (en_nv (i := 0) Hr.2.1 rfl).2; exact h, by have h := (en_nv (i := 1) Hr.2.1 rfl).2; exact h, by have h := (en_nv (i := 2) Hr.2.1 rfl).2; exact h, by have h := (en_nv (i := 3) Hr.2.1 rfl).2; exact h, by have h := (en_nv (i := 4) Hr.2.1 rfl).2; exact h, by have h := (en_nv (i := 5) Hr.2.1 rfl).2; exact h, by have h := (en_nv (i := 6) Hr.2.1 rfl).2; exact h, by have h := (en_nv (i := 7) Hr.2.1 rfl).2; exact h, by have h := (en_nv (i := 8) Hr.2.1 rfl).2; exact h, trivial⟩
  have r0 : nv α1 0 = nv α 0 := nv_le hle (by omega)
  have r1 : nv α1 1 = nv α 1 := nv_le hle (by omega)
  have r2 : nv α1 2 = nv α 2 := nv_le hle (by omega)
  have r3 : nv α1 3 = nv α 3 := nv_le hle (by omega)
  have r4 : nv α1 4 = nv α 4 := nv_le hle (by omega)
  have r5 : nv α1 5 = nv α 5 := nv_le hle (by omega)
  have r6 : nv α1 6 = nv α 6 := nv_le hle (by omega)
  have r7 : nv α1 7 = nv α 7 := nv_le hle (by omega)
  have r8 : nv α1 8 = nv α 8 := nv_le hle (by omega)
  refine hd_segM G (na := 9) (fuel := 600) (first := true) (Bs := [kh_findFlows_b197_0]) (by decide +kernel) hl1 Hr ?_
  intro q hq β lv' st' S' H1
  simp only [List.mem_cons, List.not_mem_nil, or_false] at hq
  rcases hq with rfl
  · obtain ⟨f1, f2, f3, f4, f5⟩ := as_fx H1
    simp only [kh_findFlows_b197_0, Nat.reduceEqDiff, if_false, fx_env, fx_c, fx_ne, fx_hf, wl_S, Nat.zero_add, Nat.reduceAdd, Nat.reduceDiv, Nat.reduceMod, List.getElem?_cons_zero, List.getElem?_cons_succ, if_true, and_true, true_and] at f1 f2 f3 f4 f5
    have fe0 : nv β 0 = 97 := by omega
    have fe1 : nv β 1 = 1 := by omega
    have fe2 : nv β 2 = 2 := by omega
    have fe8 : nv β 8 = 110 := by omega
    have fe10 : nv β 10 = 110 := by omega
    try simp only [fe0, fe1, fe2, fe8, fe10, Int.reduceToNat] at f2 f3 f4 f5
    have s0 : nv β 0 = nv α1 0 := nv_le H1.1 (by omega)
    have s1 : nv β 1 = nv α1 1 := nv_le H1.1 (by omega)
    have s2 : nv β 2 = nv α1 2 := nv_le H1.1 (by omega)
    have s3 : nv β 3 = nv α1 3 := nv_le H1.1 (by omega)
    have s4 : nv β 4 = nv α1 4 := nv_le H1.1 (by omega)
    have s5 : nv β 5 = nv α1 5 := nv_le H1.1 (by omega)
    have s6 : nv β 6 = nv α1 6 := nv_le H1.1 (by omega)
    have s7 : nv β 7 = nv α1 7 := nv_le H1.1 (by omega)
    have s8 : nv β 8 = nv α1 8 := nv_le H1.1 (by omega)
    obtain ⟨c0, c1⟩ := f2
    obtain ⟨α', Ha, hm⟩ := hd_gpM (q := kh_findFlows_a118) (n := 0) (by decide +kernel) hx H1 (by decide +kernel) hxa hf
    have hfr := H1.2.2.2.2.2.2.2.2.2.2.1
    have m0 : nv α' 0 = nv β 0 := hm 0 0 rfl
    have m1 : nv α' 1 = nv β 1 := hm 1 1 rfl
    have m2 : nv α' 2 = nv β 2 := hm 2 2 rfl
    have m3 : nv α' 3 = nv β 3 := hm 3 3 rfl
    have m4 : nv α' 4 = nv β 13 := hm 4 13 rfl
    have e4 : S'.1 4 = S1.1 4 := fr_row hfr 4 (by decide +kernel)
    have e5 : S'.1 5 = S1.1 5 := fr_row hfr 5 (by decide +kernel)
    have e6 : S'.1 6 = S1.1 6 := fr_row hfr 6 (by decide +kernel)
    have e2 : S'.1 2 4 = S1.1 2 4 := fr_pl hfr 2 4 (by decide +kernel)
    obtain ⟨p1, p2, p3, p4⟩ := hp
    refine ih.2.2.2.2.2.1 _ _ _ _ Ha ?_ ?_
    · rw [m3, m4, s3, r3]
      refine ⟨wyI_eq e4 e5 e6 e2 p1, ?_⟩
      unfold yR at p2 ⊢
      rw [e2]; omega
    · omega
set_option maxHeartbeats 16000000 in
set_option maxRecDepth 8000 in
theorem kh_findFlows_ok : ct_ok wd_fl2 kh_findFlows := ct_hand (ff := wd_ff2) (y := kh_findFlows_y) (Cs := [kh_1003, kh_spread]) wd_fl2_ok rfl (List.forall_mem_cons.mpr ⟨kh_1003_ok, (List.forall_mem_cons.mpr ⟨kh_spread_ok, (List.forall_mem_nil _)⟩)⟩) (by decide +kernel) (fun l D tc ad kd N sm xs S p e s m args below meth c sz lv G H0 => by
  have hx : xs.length = 2 := by rw [H0.2.1.1]; rfl
  have hP : ∀ (k : Nat), kh_findFlows_I l D tc ad kd N sm xs S p e s m args below meth c sz k := by
    intro k
    induction k with
    | zero => exact ⟨fun _ _ _ _ _ _ h => absurd h (Nat.not_lt_zero _), fun _ _ _ _ _ _ h => absurd h (Nat.not_lt_zero _), fun _ _ _ _ _ _ h => absurd h (Nat.not_lt_zero _), fun _ _ _ _ _ _ h => absurd h (Nat.not_lt_zero _), fun _ _ _ _ _ _ h => absurd h (Nat.not_lt_zero _), fun _ _ _ _ _ _ h => absurd h (Nat.not_lt_zero _), fun _ _ _ _ _ _ h => absurd h (Nat.not_lt_zero _), trivial⟩
    | succ k ih => exact ⟨kh_findFlows_h15 G H0 ih, kh_findFlows_h42 G H0 ih, kh_findFlows_h80 G H0 ih, kh_findFlows_h107 G H0 ih, kh_findFlows_h110 G H0 ih, kh_findFlows_h118 G H0 ih, kh_findFlows_h197 G H0 ih, trivial⟩
  obtain ⟨α1, hle, Hr⟩ := as_recM (pl := []) [((111, 111), (0, 16, 1))] (by decide +kernel) H0
  have hf := H0.2.2.2.2.2.2.2.2.2.2.1
  have hl1 : α1.length = 2 := by rw [Hr.2.1.1]; rfl
  have hl0 : xs.length = 2 := by rw [H0.2.1.1]; rfl
  have hxa : al_le xs α1 := H0.1.trans hle
  obtain ⟨g1, -, g3, g4, -⟩ := as_fx Hr
  have g0 : (97 ≤ nv α1 0 ∧ nv α1 0 ≤ 97) ∧ (1 ≤ nv α1 1 ∧ nv α1 1 ≤ 1) ∧ True := by
    refine ⟨by have h := (en_nv (i := 0) Hr.2.1 rfl).2; exact h, by have h := (en_nv (i := 1) Hr.2.1 rfl).2; exact h, trivial⟩
  have r0 : nv α1 0 = nv xs 0 := nv_le hle (by omega)
  have r1 : nv α1 1 = nv xs 1 := nv_le hle (by omega)
  refine hd_segM G (na := 2) (fuel := 600) (first := true) (Bs := [kh_findFlows_b0_0]) (by decide +kernel) hl1 Hr ?_
  intro q hq β lv' st' S' H1
  simp only [List.mem_cons, List.not_mem_nil, or_false] at hq
  rcases hq with rfl
  · obtain ⟨f1, f2, f3, f4, f5⟩ := as_fx H1
    simp only [kh_findFlows_b0_0, Nat.reduceEqDiff, if_false, fx_env, fx_c, fx_ne, fx_hf, wl_S, Nat.zero_add, Nat.reduceAdd, Nat.reduceDiv, Nat.reduceMod, List.getElem?_cons_zero, List.getElem?_cons_succ, if_true, and_true, true_and] at f1 f2 f3 f4 f5
    have fe0 : nv β 0 = 97 := by omega
    have fe1 : nv β 1 = 1 := by omega
    have fe2 : nv β 2 = 2 := by omega
    have fe3 : nv β 3 = 111 := by omega
    have fe4 : nv β 4 = 0 := by omega
    have fe5 : nv β 5 = 0 := by omega
    try simp only [fe0, fe1, fe2, fe3, fe4, fe5, Int.reduceToNat] at f2 f3 f4 f5
    have s0 : nv β 0 = nv α1 0 := nv_le H1.1 (by omega)
    have s1 : nv β 1 = nv α1 1 := nv_le H1.1 (by omega)
    obtain ⟨α', Ha, hm⟩ := hd_gpM (q := kh_findFlows_a15) (n := 0) (by decide +kernel) hx H1 (by decide +kernel) hxa hf
    have hfr := H1.2.2.2.2.2.2.2.2.2.2.1
    have m0 : nv α' 0 = nv β 0 := hm 0 0 rfl
    have m1 : nv α' 1 = nv β 1 := hm 1 1 rfl
    have m2 : nv α' 2 = nv β 2 := hm 2 2 rfl
    have m3 : nv α' 3 = nv β 5 := hm 3 5 rfl
    refine (hP _).1 _ _ _ _ Ha ?_ (Nat.lt_succ_self _)
    · trivial)
