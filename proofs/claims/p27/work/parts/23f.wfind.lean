/-! ===== wFind: whose turn it is ===== -/
theorem wOK_eq {S S' : fw_S} (e6 : S'.1 806 = S.1 806) (e9 : S'.1 839 = S.1 839) (e1 : S'.1 827 = S.1 827) (e2 : S'.1 828 = S.1 828) (e3 : S'.1 829 = S.1 829) (e4 : S'.1 832 = S.1 832) (e5 : S'.1 805 46 = S.1 805 46) (e7 : S'.1 805 47 = S.1 805 47) (h : wOK S) : wOK S' := by
  obtain ⟨a1, a2, a3, a4, a5, a6, n, n1, n2⟩ := h
  unfold wOK
  rw [e1, e2, e3, e4, e5, e7]
  exact ⟨a1, a2, a3, a4, a5, a6, n, n1, wP_eq (fun j _ => by rw [e6]) (fun j _ => by rw [e9]) ⟨a3, a4⟩ n2⟩
abbrev kh_wFind_y : mt_T := (⟨"UtilityWorksModel", "wFind", "(II)Z"⟩, prog_14_method_121_code, 6, some .boolean, 12, 1, 2, 34173, 34172, 11009, 21014)
def kh_wFind : ct_T := (470, [(2, 805, 805, 0), (0, 0, 6, 1), (0, 0, 6, 1)], [], [], [(1, (0, 0, 0, 0), [(2, 805, 805, 0), (0, 0, 6, 1), (0, 0, 6, 1)], [], ([], [])), (1, (0, 1, 1, 0), [(2, 805, 805, 0), (0, 0, 6, 1), (0, 0, 6, 1)], [], ([504], []))], [((805, 805), (46, 46, 0)), ((805, 805), (47, 47, 0)), ((840, 840), (0, 11, 1))], 6, 136, 0)
def kh_wFind_a6 : an_T := (6, 0, ([((2, 805, 805, 0), none), ((0, 0, 6, 1), none), ((0, 0, 6, 1), none), ((0, 0, 99, 1), none), ((0, 0, 7, 1), none)], [(0, 0), (1, 1), (2, 2), (3, 3), (4, 4)], [], [], [], [], [], [], none), [])
def kh_wFind_a37 : an_T := (37, 0, ([((2, 805, 805, 0), none), ((0, 0, 6, 1), none), ((0, 0, 6, 1), none), ((0, 0, 99, 1), none), ((0, 0, 6, 1), none), ((0, (-2147483648), 2147483647, 1), none), ((0, 0, 11, 1), none)], [(0, 0), (1, 1), (2, 2), (3, 3), (4, 4)], [5, 6, 0], [], [], [], [], [], none), [])
def kh_wFind_a40 : an_T := (40, 0, ([((2, 805, 805, 0), none), ((0, 0, 6, 1), none), ((0, 0, 6, 1), none), ((0, 0, 99, 1), none), ((0, 0, 6, 1), none)], [(0, 0), (1, 1), (2, 2), (3, 3), (4, 4)], [], [], [], [], [], [], none), [])
def kh_wFind_a43 : an_T := (43, 0, ([((2, 805, 805, 0), none), ((0, 0, 6, 1), none), ((0, 0, 6, 1), none), ((0, 0, 99, 1), none), ((0, 0, 6, 1), none), ((0, 0, 12, 1), none)], [(0, 0), (1, 1), (2, 2), (3, 3), (4, 4), (5, 5)], [], [], [], [], [], [], none), [])
def kh_wFind_b0_0 : sg_T := (6, 0, ([((2, 805, 805, 0), none), ((0, 0, 6, 1), none), ((0, 0, 6, 1), none), ((0, 99, 99, 0), none)], [(4, 1), (3, 3), (0, 0), (1, 1), (2, 2)], [], [], [], [], [], [], some []))
def kh_wFind_b6_0 : sg_T := (114, 0, ([((2, 805, 805, 0), none), ((0, 0, 6, 1), none), ((0, 0, 6, 1), none), ((0, 99, 99, 1), none), ((0, 1, 7, 1), none), ((0, 99, 99, 0), none), ((0, 0, 0, 0), none)], [(0, 0), (1, 1), (2, 2), (3, 3), (4, 4)], [6], [], [], [(200000, 5, 3), (100000, 2, 4)], [], [], some []))
def kh_wFind_b6_1 : sg_T := (114, 0, ([((2, 805, 805, 0), none), ((0, 0, 6, 1), none), ((0, 0, 6, 1), none), ((0, 0, 98, 1), none), ((0, 1, 7, 1), none), ((0, 99, 99, 0), none), ((0, 1, 1, 0), none)], [(0, 0), (1, 1), (2, 2), (3, 3), (4, 4)], [6], [], [], [(100000, 3, 5), (100000, 2, 4)], [], [], some []))
def kh_wFind_b6_2 : sg_T := (6, 0, ([((2, 805, 805, 0), none), ((0, 0, 6, 1), none), ((0, 0, 6, 1), none), ((0, 0, 99, 1), none), ((0, 0, 6, 1), none), ((2, 829, 829, 1), none), ((0, (-2147483648), 0, 1), none), ((0, 1, 7, 1), some (4, 1))], [(4, 7), (0, 0), (1, 1), (2, 2), (3, 3)], [], [(5, 4, 6)], [], [(800006, 5, 4), (200000, 4, 2)], [], [], some []))
def kh_wFind_b6_3 : sg_T := (37, 0, ([((2, 805, 805, 0), none), ((0, 0, 6, 1), none), ((0, 0, 6, 1), none), ((0, 0, 99, 1), none), ((0, 0, 6, 1), none), ((2, 829, 829, 1), none), ((0, 1, 2147483647, 1), none), ((2, 827, 827, 1), none), ((0, 0, 11, 1), none), ((2, 828, 828, 1), none), ((0, (-2147483648), 2147483647, 1), none)], [(0, 0), (1, 1), (2, 2), (3, 3), (4, 4)], [10, 8, 0], [(9, 4, 10), (7, 4, 8), (5, 4, 6)], [], [(800010, 9, 4), (800008, 7, 4), (800006, 5, 4), (200000, 4, 2)], [], [], some []))
def kh_wFind_b37_0 : sg_T := (40, 0, ([((2, 805, 805, 0), none), ((0, 0, 6, 1), none), ((0, 0, 6, 1), none), ((0, 0, 99, 1), none), ((0, 0, 6, 1), none), ((0, (-2147483648), 2147483647, 1), none), ((0, 0, 11, 1), none)], [(0, 0), (1, 1), (2, 2), (3, 3), (4, 4)], [], [], [], [], [], [], none))
def kh_wFind_b40_0 : sg_T := (43, 0, ([((2, 805, 805, 0), none), ((0, 0, 6, 1), none), ((0, 0, 6, 1), none), ((0, 0, 99, 1), none), ((0, 0, 6, 1), none), ((0, 0, 0, 0), none)], [(5, 5), (0, 0), (1, 1), (2, 2), (3, 3), (4, 4)], [], [], [], [], [], [], some []))
def kh_wFind_b43_0 : sg_T := (6, 0, ([((2, 805, 805, 0), none), ((0, 0, 6, 1), none), ((0, 0, 6, 1), none), ((0, 0, 99, 1), none), ((0, 0, 6, 1), none), ((0, 12, 12, 1), none), ((0, 12, 12, 0), none), ((0, 1, 7, 1), some (4, 1))], [(4, 7), (0, 0), (1, 1), (2, 2), (3, 3), (5, 5)], [], [], [], [(200000, 6, 5)], [], [], some []))
def kh_wFind_b43_1 : sg_T := (43, 0, ([((2, 805, 805, 0), none), ((0, 0, 6, 1), none), ((0, 0, 6, 1), none), ((0, 0, 99, 1), none), ((0, 0, 6, 1), none), ((0, 0, 11, 1), none), ((0, 12, 12, 0), none), ((2, 832, 832, 1), none), ((0, (-2147483648), 0, 1), none), ((0, 1, 12, 1), some (5, 1))], [(5, 9), (0, 0), (1, 1), (2, 2), (3, 3), (4, 4)], [], [(7, 5, 8)], [], [(800008, 7, 5), (100000, 5, 6)], [], [], some []))
def kh_wFind_b43_2 : sg_T := (43, 0, ([((2, 805, 805, 0), none), ((0, 0, 6, 1), none), ((0, 0, 6, 1), none), ((0, 0, 99, 1), none), ((0, 0, 6, 1), none), ((0, 0, 11, 1), none), ((0, 12, 12, 0), none), ((2, 832, 832, 1), none), ((0, 1, 2147483647, 1), none), ((2, 840, 840, 1), none), ((0, 0, 99, 1), none), ((0, 1, 12, 1), some (5, 1))], [(5, 11), (0, 0), (1, 1), (2, 2), (3, 3), (4, 4)], [], [(9, 5, 10), (7, 5, 8)], [], [(200000, 3, 10), (800010, 9, 5), (800008, 7, 5), (100000, 5, 6)], [], [], some []))
def kh_wFind_b43_3 : sg_T := (43, 0, ([((2, 805, 805, 0), none), ((0, 0, 6, 1), none), ((0, 0, 6, 1), none), ((0, 1, 99, 1), none), ((0, 0, 6, 1), none), ((0, 0, 11, 1), none), ((0, 12, 12, 0), none), ((2, 832, 832, 1), none), ((0, 1, 2147483647, 1), none), ((2, 840, 840, 1), none), ((0, 0, 98, 1), none), ((2, 840, 840, 1), none), ((0, 46, 46, 0), none), ((0, 47, 47, 0), none), ((0, 1, 12, 1), some (5, 1))], [(5, 14), (3, 10), (0, 0), (1, 1), (2, 2), (4, 4)], [], [(0, 13, 5), (0, 12, 4), (9, 5, 10), (7, 5, 8)], [], [(100000, 10, 3), (800010, 9, 5), (800008, 7, 5), (100000, 5, 6)], [], [], some [(0, 13, 5), (0, 12, 4)]))
def kh_wFind_I (l : Launch) (D : va_G) (tc : Nat → ClassId) (ad : Nat → Nat) (kd : Nat → Nat × Nat) (N : Nat) (sm : Nat → Nat) (xs : List av_X) (S : fw_S) (p : Program) (e : Env) (s : State) (m : MethodId) (args : Array Value) (below : List Frame) (meth : Method) (c : Code) (sz : Nat) (k : Nat) : Prop := (∀ (α : List av_X) (lv : List (Nat × Value)) (st : List Value) (S1 : fw_S), as_in ad sm wd_fl2 xs S kh_wFind.2.2.2.2.2.1 α kh_wFind_a6.2.2.1 lv st S1 → ((nv α 3 = 99 ∨ (nv α 3 ≤ 98 ∧ wOK S1))) → (8 - nv α 4).toNat * 1000 + 900 < k → hd_W wd_fl2 kh_wFind kh_wFind_y l D tc ad kd N sm xs S p e s m args below meth c sz 6 lv st S1 0) ∧ (∀ (α : List av_X) (lv : List (Nat × Value)) (st : List Value) (S1 : fw_S), as_in ad sm wd_fl2 xs S kh_wFind.2.2.2.2.2.1 α kh_wFind_a37.2.2.1 lv st S1 → ((nv α 3 = 99 ∨ (nv α 3 ≤ 98 ∧ wOK S1)) ∧ 1 ≤ (S1.1 829 (nv α 4).toNat).toInt ∧ nv α 6 = (S1.1 827 (nv α 4).toNat).toInt ∧ nv α 5 = (S1.1 828 (nv α 4).toNat).toInt) → (8 - nv α 4).toNat * 1000 + 800 < k → hd_W wd_fl2 kh_wFind kh_wFind_y l D tc ad kd N sm xs S p e s m args below meth c sz 37 lv st S1 0) ∧ (∀ (α : List av_X) (lv : List (Nat × Value)) (st : List Value) (S1 : fw_S), as_in ad sm wd_fl2 xs S kh_wFind.2.2.2.2.2.1 α kh_wFind_a40.2.2.1 lv st S1 → ((nv α 3 = 99 ∨ (nv α 3 ≤ 98 ∧ wOK S1)) ∧ 1 ≤ (S1.1 829 (nv α 4).toNat).toInt ∧ wDs S1 (S1.1 827 (nv α 4).toNat).toInt (S1.1 828 (nv α 4).toNat).toInt) → (8 - nv α 4).toNat * 1000 + 700 < k → hd_W wd_fl2 kh_wFind kh_wFind_y l D tc ad kd N sm xs S p e s m args below meth c sz 40 lv st S1 0) ∧ (∀ (α : List av_X) (lv : List (Nat × Value)) (st : List Value) (S1 : fw_S), as_in ad sm wd_fl2 xs S kh_wFind.2.2.2.2.2.1 α kh_wFind_a43.2.2.1 lv st S1 → ((nv α 3 = 99 ∨ (nv α 3 ≤ 98 ∧ wOK S1)) ∧ 1 ≤ (S1.1 829 (nv α 4).toNat).toInt ∧ wDs S1 (S1.1 827 (nv α 4).toNat).toInt (S1.1 828 (nv α 4).toNat).toInt) → (8 - nv α 4).toNat * 1000 + (12 - nv α 5).toNat < k → hd_W wd_fl2 kh_wFind kh_wFind_y l D tc ad kd N sm xs S p e s m args below meth c sz 43 lv st S1 0) ∧ True
set_option maxHeartbeats 16000000 in
set_option maxRecDepth 8000 in
theorem kh_wFind_h6 {l : Launch} {D : va_G} {tc : Nat → ClassId} {ad : Nat → Nat} {kd : Nat → Nat × Nat} {N : Nat} {sm : Nat → Nat} {xs : List av_X} {S : fw_S} {p : Program} {e : Env} {s : State} {m : MethodId} {args : Array Value} {below : List Frame} {meth : Method} {c : Code} {sz : Nat} {lvE : List (Nat × Value)} (G : hd_C wd_ff2 wd_fl2 kh_wFind [kh_wReach2] kh_wFind_y l D tc ad kd N sm xs p s m args meth c sz) (H0 : as_in ad sm wd_fl2 xs S kh_wFind.2.2.2.2.2.1 xs (hd_0 kh_wFind) lvE [] S) {k : Nat} (ih : kh_wFind_I l D tc ad kd N sm xs S p e s m args below meth c sz k) : (∀ (α : List av_X) (lv : List (Nat × Value)) (st : List Value) (S1 : fw_S), as_in ad sm wd_fl2 xs S kh_wFind.2.2.2.2.2.1 α kh_wFind_a6.2.2.1 lv st S1 → ((nv α 3 = 99 ∨ (nv α 3 ≤ 98 ∧ wOK S1))) → (8 - nv α 4).toNat * 1000 + 900 < k + 1 → hd_W wd_fl2 kh_wFind kh_wFind_y l D tc ad kd N sm xs S p e s m args below meth c sz 6 lv st S1 0) := by
  have hx : xs.length = 3 := by rw [H0.2.1.1]; rfl
  intro α lv st S1 H hp hk
  obtain ⟨α1, hle, Hr⟩ := as_recM (pl := []) [] (by decide +kernel) H
  have hf := H.2.2.2.2.2.2.2.2.2.2.1
  have hl1 : α1.length = 5 := by rw [Hr.2.1.1]; rfl
  have hl0 : α.length = 5 := by rw [H.2.1.1]; rfl
  have hxa : al_le xs α1 := H.1.trans hle
  obtain ⟨g1, -, g3, g4, -⟩ := as_fx Hr
  have g0 : (805 ≤ nv α1 0 ∧ nv α1 0 ≤ 805) ∧ (0 ≤ nv α1 1 ∧ nv α1 1 ≤ 6) ∧ (0 ≤ nv α1 2 ∧ nv α1 2 ≤ 6) ∧ (0 ≤ nv α1 3 ∧ nv α1 3 ≤ 99) ∧ (0 ≤ nv α1 4 ∧ nv α1 4 ≤ 7) ∧ True := by
    refine ⟨by have h := (en_nv (i := 0) Hr.2.1 rfl).2; exact h, by have h := (en_nv (i := 1) Hr.2.1 rfl).2; exact h, by have h := (en_nv (i := 2) Hr.2.1 rfl).2; exact h, by have h := (en_nv (i := 3) Hr.2.1 rfl).2; exact h, by have h := (en_nv (i := 4) Hr.2.1 rfl).2; exact h, trivial⟩
  have r0 : nv α1 0 = nv α 0 := nv_le hle (by omega)
  have r1 : nv α1 1 = nv α 1 := nv_le hle (by omega)
  have r2 : nv α1 2 = nv α 2 := nv_le hle (by omega)
  have r3 : nv α1 3 = nv α 3 := nv_le hle (by omega)
  have r4 : nv α1 4 = nv α 4 := nv_le hle (by omega)
  refine hd_segM G (na := 5) (fuel := 600) (first := true) (Bs := [kh_wFind_b6_0, kh_wFind_b6_1, kh_wFind_b6_2, kh_wFind_b6_3]) (by decide +kernel) hl1 Hr ?_
  intro q hq β lv' st' S' H1
  simp only [List.mem_cons, List.not_mem_nil, or_false] at hq
  rcases hq with rfl | rfl | rfl | rfl
  · obtain ⟨f1, f2, f3, f4, f5⟩ := as_fx H1
    simp only [kh_wFind_b6_0, fx_env, fx_c, fx_ne, fx_hf, wl_S, Nat.zero_add, Nat.reduceAdd, Nat.reduceDiv, Nat.reduceMod, List.getElem?_cons_zero, List.getElem?_cons_succ, if_true, and_true, true_and] at f1 f2 f3 f4 f5
    have fe0 : nv β 0 = 805 := by omega
    have fe3 : nv β 3 = 99 := by omega
    have fe5 : nv β 5 = 99 := by omega
    have fe6 : nv β 6 = 0 := by omega
    try simp only [fe0, fe3, fe5, fe6, Int.reduceToNat] at f2 f3 f4 f5
    have s0 : nv β 0 = nv α1 0 := nv_le H1.1 (by omega)
    have s1 : nv β 1 = nv α1 1 := nv_le H1.1 (by omega)
    have s2 : nv β 2 = nv α1 2 := nv_le H1.1 (by omega)
    have s3 : nv β 3 = nv α1 3 := nv_le H1.1 (by omega)
    have s4 : nv β 4 = nv α1 4 := nv_le H1.1 (by omega)
    obtain ⟨c0, c1⟩ := f2
    exact hd_run G (ss := []) (fuel := 20) (by decide +kernel) (as_backM H1 (by decide +kernel) hxa hf)
  · obtain ⟨f1, f2, f3, f4, f5⟩ := as_fx H1
    simp only [kh_wFind_b6_1, fx_env, fx_c, fx_ne, fx_hf, wl_S, Nat.zero_add, Nat.reduceAdd, Nat.reduceDiv, Nat.reduceMod, List.getElem?_cons_zero, List.getElem?_cons_succ, if_true, and_true, true_and] at f1 f2 f3 f4 f5
    have fe0 : nv β 0 = 805 := by omega
    have fe5 : nv β 5 = 99 := by omega
    have fe6 : nv β 6 = 1 := by omega
    try simp only [fe0, fe5, fe6, Int.reduceToNat] at f2 f3 f4 f5
    have s0 : nv β 0 = nv α1 0 := nv_le H1.1 (by omega)
    have s1 : nv β 1 = nv α1 1 := nv_le H1.1 (by omega)
    have s2 : nv β 2 = nv α1 2 := nv_le H1.1 (by omega)
    have s3 : nv β 3 = nv α1 3 := nv_le H1.1 (by omega)
    have s4 : nv β 4 = nv α1 4 := nv_le H1.1 (by omega)
    obtain ⟨c0, c1⟩ := f2
    have hch : wOK S' := by
      rw [f5]
      rcases hp with g | g
      · exfalso; omega
      · exact g.2
    exact hd_run G (ss := []) (fuel := 20) (by decide +kernel) (as_fl_in (f := [504]) (as_backM H1 (by decide +kernel) hxa hf) (fun g hg => by
      rcases List.mem_singleton.mp hg with rfl
      rw [wd_fl2, if_neg (by decide)]
      exact hch))
  · obtain ⟨f1, f2, f3, f4, f5⟩ := as_fx H1
    simp only [kh_wFind_b6_2, fx_env, fx_c, fx_ne, fx_hf, wl_S, Nat.zero_add, Nat.reduceAdd, Nat.reduceDiv, Nat.reduceMod, List.getElem?_cons_zero, List.getElem?_cons_succ, if_true, and_true, true_and] at f1 f2 f3 f4 f5
    have fe0 : nv β 0 = 805 := by omega
    have fe5 : nv β 5 = 829 := by omega
    try simp only [fe0, fe5, Int.reduceToNat] at f2 f3 f4 f5
    have s0 : nv β 0 = nv α1 0 := nv_le H1.1 (by omega)
    have s1 : nv β 1 = nv α1 1 := nv_le H1.1 (by omega)
    have s2 : nv β 2 = nv α1 2 := nv_le H1.1 (by omega)
    have s3 : nv β 3 = nv α1 3 := nv_le H1.1 (by omega)
    have s4 : nv β 4 = nv α1 4 := nv_le H1.1 (by omega)
    obtain ⟨c0, c1⟩ := f2
    obtain ⟨α', Ha, hm⟩ := hd_gpM (q := kh_wFind_a6) (n := 0) (by decide +kernel) hx H1 (by decide +kernel) hxa hf
    have hfr := H1.2.2.2.2.2.2.2.2.2.2.1
    have m0 : nv α' 0 = nv β 0 := hm 0 0 rfl
    have m1 : nv α' 1 = nv β 1 := hm 1 1 rfl
    have m2 : nv α' 2 = nv β 2 := hm 2 2 rfl
    have m3 : nv α' 3 = nv β 3 := hm 3 3 rfl
    have m4 : nv α' 4 = nv β 7 := hm 4 7 rfl
    subst S'
    refine ih.1 _ _ _ _ Ha ?_ ?_
    · rw [m3, s3, r3]; exact hp
    · omega
  · obtain ⟨f1, f2, f3, f4, f5⟩ := as_fx H1
    simp only [kh_wFind_b6_3, fx_env, fx_c, fx_ne, fx_hf, wl_S, Nat.zero_add, Nat.reduceAdd, Nat.reduceDiv, Nat.reduceMod, List.getElem?_cons_zero, List.getElem?_cons_succ, if_true, and_true, true_and] at f1 f2 f3 f4 f5
    have fe0 : nv β 0 = 805 := by omega
    have fe5 : nv β 5 = 829 := by omega
    have fe7 : nv β 7 = 827 := by omega
    have fe9 : nv β 9 = 828 := by omega
    try simp only [fe0, fe5, fe7, fe9, Int.reduceToNat] at f2 f3 f4 f5
    have s0 : nv β 0 = nv α1 0 := nv_le H1.1 (by omega)
    have s1 : nv β 1 = nv α1 1 := nv_le H1.1 (by omega)
    have s2 : nv β 2 = nv α1 2 := nv_le H1.1 (by omega)
    have s3 : nv β 3 = nv α1 3 := nv_le H1.1 (by omega)
    have s4 : nv β 4 = nv α1 4 := nv_le H1.1 (by omega)
    obtain ⟨c0, c1, c2, c3⟩ := f2
    obtain ⟨α', Ha, hm⟩ := hd_gpM (q := kh_wFind_a37) (n := 0) (by decide +kernel) hx H1 (by decide +kernel) hxa hf
    have hfr := H1.2.2.2.2.2.2.2.2.2.2.1
    have m0 : nv α' 0 = nv β 0 := hm 0 0 rfl
    have m1 : nv α' 1 = nv β 1 := hm 1 1 rfl
    have m2 : nv α' 2 = nv β 2 := hm 2 2 rfl
    have m3 : nv α' 3 = nv β 3 := hm 3 3 rfl
    have m4 : nv α' 4 = nv β 4 := hm 4 4 rfl
    have m5 : nv α' 5 = nv β 10 := hm 5 10 rfl
    have m6 : nv α' 6 = nv β 8 := hm 6 8 rfl
    subst S'
    have o0 := old_0 c0 rfl
    have o1 := old_0 c1 rfl
    have o2 := old_0 c2 rfl
    refine ih.2.1 _ _ _ _ Ha ?_ ?_
    · rw [m3, m4, m6, m5, s3, r3]
      exact ⟨hp, by rw [o2]; omega, o1.symm, o0.symm⟩
    · omega
set_option maxHeartbeats 16000000 in
set_option maxRecDepth 8000 in
theorem kh_wFind_h37 {l : Launch} {D : va_G} {tc : Nat → ClassId} {ad : Nat → Nat} {kd : Nat → Nat × Nat} {N : Nat} {sm : Nat → Nat} {xs : List av_X} {S : fw_S} {p : Program} {e : Env} {s : State} {m : MethodId} {args : Array Value} {below : List Frame} {meth : Method} {c : Code} {sz : Nat} {lvE : List (Nat × Value)} (G : hd_C wd_ff2 wd_fl2 kh_wFind [kh_wReach2] kh_wFind_y l D tc ad kd N sm xs p s m args meth c sz) (H0 : as_in ad sm wd_fl2 xs S kh_wFind.2.2.2.2.2.1 xs (hd_0 kh_wFind) lvE [] S) {k : Nat} (ih : kh_wFind_I l D tc ad kd N sm xs S p e s m args below meth c sz k) : (∀ (α : List av_X) (lv : List (Nat × Value)) (st : List Value) (S1 : fw_S), as_in ad sm wd_fl2 xs S kh_wFind.2.2.2.2.2.1 α kh_wFind_a37.2.2.1 lv st S1 → ((nv α 3 = 99 ∨ (nv α 3 ≤ 98 ∧ wOK S1)) ∧ 1 ≤ (S1.1 829 (nv α 4).toNat).toInt ∧ nv α 6 = (S1.1 827 (nv α 4).toNat).toInt ∧ nv α 5 = (S1.1 828 (nv α 4).toNat).toInt) → (8 - nv α 4).toNat * 1000 + 800 < k + 1 → hd_W wd_fl2 kh_wFind kh_wFind_y l D tc ad kd N sm xs S p e s m args below meth c sz 37 lv st S1 0) := by
  have hx : xs.length = 3 := by rw [H0.2.1.1]; rfl
  intro α lv st S1 H hp hk
  obtain ⟨α1, hle, Hr⟩ := as_recM (pl := []) [((840, 840), (0, 11, 1))] (by decide +kernel) H
  have hf := H.2.2.2.2.2.2.2.2.2.2.1
  have hl1 : α1.length = 7 := by rw [Hr.2.1.1]; rfl
  have hl0 : α.length = 7 := by rw [H.2.1.1]; rfl
  have hxa : al_le xs α1 := H.1.trans hle
  obtain ⟨g1, -, g3, g4, -⟩ := as_fx Hr
  have g0 : (805 ≤ nv α1 0 ∧ nv α1 0 ≤ 805) ∧ (0 ≤ nv α1 1 ∧ nv α1 1 ≤ 6) ∧ (0 ≤ nv α1 2 ∧ nv α1 2 ≤ 6) ∧ (0 ≤ nv α1 3 ∧ nv α1 3 ≤ 99) ∧ (0 ≤ nv α1 4 ∧ nv α1 4 ≤ 6) ∧ ((-2147483648) ≤ nv α1 5 ∧ nv α1 5 ≤ 2147483647) ∧ (0 ≤ nv α1 6 ∧ nv α1 6 ≤ 11) ∧ True := by
    refine ⟨by have h := (en_nv (i := 0) Hr.2.1 rfl).2; exact h, by have h := (en_nv (i := 1) Hr.2.1 rfl).2; exact h, by have h := (en_nv (i := 2) Hr.2.1 rfl).2; exact h, by have h := (en_nv (i := 3) Hr.2.1 rfl).2; exact h, by have h := (en_nv (i := 4) Hr.2.1 rfl).2; exact h, by have h := (en_nv (i := 5) Hr.2.1 rfl).2; exact h, by have h := (en_nv (i := 6) Hr.2.1 rfl).2; exact h, trivial⟩
  have r0 : nv α1 0 = nv α 0 := nv_le hle (by omega)
  have r1 : nv α1 1 = nv α 1 := nv_le hle (by omega)
  have r2 : nv α1 2 = nv α 2 := nv_le hle (by omega)
  have r3 : nv α1 3 = nv α 3 := nv_le hle (by omega)
  have r4 : nv α1 4 = nv α 4 := nv_le hle (by omega)
  have r5 : nv α1 5 = nv α 5 := nv_le hle (by omega)
  have r6 : nv α1 6 = nv α 6 := nv_le hle (by omega)
  refine hd_callR (Rr := R_wReach) (Rs := [kh_wReach2]) (idx := 528) G (List.forall_mem_cons.mpr ⟨kh_wReach2_okR, List.forall_mem_nil _⟩) (na := 7) (Bs := [kh_wFind_b37_0]) (by decide +kernel) (by decide +kernel) hl1 Hr ?_
  intro q hq β lv' st' S' H1 hRx
  simp only [List.mem_cons, List.not_mem_nil, or_false] at hq
  rcases hq with rfl
  · obtain ⟨f1, f2, f3, f4, f5⟩ := as_fx H1
    simp only [kh_wFind_b37_0, fx_env, fx_c, fx_ne, fx_hf, wl_S, Nat.zero_add, Nat.reduceAdd, Nat.reduceDiv, Nat.reduceMod, List.getElem?_cons_zero, List.getElem?_cons_succ, if_true, and_true, true_and] at f1 f2 f3 f4 f5
    have fe0 : nv β 0 = 805 := by omega
    try simp only [fe0, Int.reduceToNat] at f2 f3 f4 f5
    have s0 : nv β 0 = nv α1 0 := nv_le H1.1 (by omega)
    have s1 : nv β 1 = nv α1 1 := nv_le H1.1 (by omega)
    have s2 : nv β 2 = nv α1 2 := nv_le H1.1 (by omega)
    have s3 : nv β 3 = nv α1 3 := nv_le H1.1 (by omega)
    have s4 : nv β 4 = nv α1 4 := nv_le H1.1 (by omega)
    have s5 : nv β 5 = nv α1 5 := nv_le H1.1 (by omega)
    have s6 : nv β 6 = nv α1 6 := nv_le H1.1 (by omega)
    obtain ⟨α', Ha, hm⟩ := hd_gpM (q := kh_wFind_a40) (n := 0) (by decide +kernel) hx H1 (by decide +kernel) hxa hf
    have hfr := H1.2.2.2.2.2.2.2.2.2.2.1
    have m0 : nv α' 0 = nv β 0 := hm 0 0 rfl
    have m1 : nv α' 1 = nv β 1 := hm 1 1 rfl
    have m2 : nv α' 2 = nv β 2 := hm 2 2 rfl
    have m3 : nv α' 3 = nv β 3 := hm 3 3 rfl
    have m4 : nv α' 4 = nv β 4 := hm 4 4 rfl
    obtain ⟨Cc, hCc, ys, rr, hnm, hR, -⟩ := hRx
    rcases List.mem_singleton.mp hCc with rfl
    have y1 : nv ys 1 = nv α1 6 := nm_nv hnm (i := 1) (v := 6) rfl
    have y2 : nv ys 2 = nv α1 5 := nm_nv hnm (i := 2) (v := 5) rfl
    have hR' : wDs S' (nv ys 1) (nv ys 2) := hR
    rw [y1, y2] at hR'
    have e1 := fr_row hfr 827 (by decide +kernel)
    have e2 := fr_row hfr 828 (by decide +kernel)
    have e3 := fr_row hfr 829 (by decide +kernel)
    obtain ⟨p1, p2, p3, p4⟩ := hp
    refine ih.2.2.1 _ _ _ _ Ha ?_ ?_
    · rw [m3, m4, s3, r3, s4, r4, e1, e2, e3]
      rw [r6, r5, p3, p4] at hR'
      refine ⟨?_, p2, hR'⟩
      rcases p1 with g | ⟨g1, g2⟩
      · exact Or.inl g
      · exact Or.inr ⟨g1, wOK_eq (fr_row hfr 806 (by decide +kernel)) (fr_row hfr 839 (by decide +kernel)) e1 e2 e3 (fr_row hfr 832 (by decide +kernel)) (congrFun (fr_row hfr 805 (by decide +kernel)) 46) (congrFun (fr_row hfr 805 (by decide +kernel)) 47) g2⟩
    · omega
set_option maxHeartbeats 16000000 in
set_option maxRecDepth 8000 in
theorem kh_wFind_h40 {l : Launch} {D : va_G} {tc : Nat → ClassId} {ad : Nat → Nat} {kd : Nat → Nat × Nat} {N : Nat} {sm : Nat → Nat} {xs : List av_X} {S : fw_S} {p : Program} {e : Env} {s : State} {m : MethodId} {args : Array Value} {below : List Frame} {meth : Method} {c : Code} {sz : Nat} {lvE : List (Nat × Value)} (G : hd_C wd_ff2 wd_fl2 kh_wFind [kh_wReach2] kh_wFind_y l D tc ad kd N sm xs p s m args meth c sz) (H0 : as_in ad sm wd_fl2 xs S kh_wFind.2.2.2.2.2.1 xs (hd_0 kh_wFind) lvE [] S) {k : Nat} (ih : kh_wFind_I l D tc ad kd N sm xs S p e s m args below meth c sz k) : (∀ (α : List av_X) (lv : List (Nat × Value)) (st : List Value) (S1 : fw_S), as_in ad sm wd_fl2 xs S kh_wFind.2.2.2.2.2.1 α kh_wFind_a40.2.2.1 lv st S1 → ((nv α 3 = 99 ∨ (nv α 3 ≤ 98 ∧ wOK S1)) ∧ 1 ≤ (S1.1 829 (nv α 4).toNat).toInt ∧ wDs S1 (S1.1 827 (nv α 4).toNat).toInt (S1.1 828 (nv α 4).toNat).toInt) → (8 - nv α 4).toNat * 1000 + 700 < k + 1 → hd_W wd_fl2 kh_wFind kh_wFind_y l D tc ad kd N sm xs S p e s m args below meth c sz 40 lv st S1 0) := by
  have hx : xs.length = 3 := by rw [H0.2.1.1]; rfl
  intro α lv st S1 H hp hk
  obtain ⟨α1, hle, Hr⟩ := as_recM (pl := []) [] (by decide +kernel) H
  have hf := H.2.2.2.2.2.2.2.2.2.2.1
  have hl1 : α1.length = 5 := by rw [Hr.2.1.1]; rfl
  have hl0 : α.length = 5 := by rw [H.2.1.1]; rfl
  have hxa : al_le xs α1 := H.1.trans hle
  obtain ⟨g1, -, g3, g4, -⟩ := as_fx Hr
  have g0 : (805 ≤ nv α1 0 ∧ nv α1 0 ≤ 805) ∧ (0 ≤ nv α1 1 ∧ nv α1 1 ≤ 6) ∧ (0 ≤ nv α1 2 ∧ nv α1 2 ≤ 6) ∧ (0 ≤ nv α1 3 ∧ nv α1 3 ≤ 99) ∧ (0 ≤ nv α1 4 ∧ nv α1 4 ≤ 6) ∧ True := by
    refine ⟨by have h := (en_nv (i := 0) Hr.2.1 rfl).2; exact h, by have h := (en_nv (i := 1) Hr.2.1 rfl).2; exact h, by have h := (en_nv (i := 2) Hr.2.1 rfl).2; exact h, by have h := (en_nv (i := 3) Hr.2.1 rfl).2; exact h, by have h := (en_nv (i := 4) Hr.2.1 rfl).2; exact h, trivial⟩
  have r0 : nv α1 0 = nv α 0 := nv_le hle (by omega)
  have r1 : nv α1 1 = nv α 1 := nv_le hle (by omega)
  have r2 : nv α1 2 = nv α 2 := nv_le hle (by omega)
  have r3 : nv α1 3 = nv α 3 := nv_le hle (by omega)
  have r4 : nv α1 4 = nv α 4 := nv_le hle (by omega)
  refine hd_segM G (na := 5) (fuel := 600) (first := true) (Bs := [kh_wFind_b40_0]) (by decide +kernel) hl1 Hr ?_
  intro q hq β lv' st' S' H1
  simp only [List.mem_cons, List.not_mem_nil, or_false] at hq
  rcases hq with rfl
  · obtain ⟨f1, f2, f3, f4, f5⟩ := as_fx H1
    simp only [kh_wFind_b40_0, fx_env, fx_c, fx_ne, fx_hf, wl_S, Nat.zero_add, Nat.reduceAdd, Nat.reduceDiv, Nat.reduceMod, List.getElem?_cons_zero, List.getElem?_cons_succ, if_true, and_true, true_and] at f1 f2 f3 f4 f5
    have fe0 : nv β 0 = 805 := by omega
    have fe5 : nv β 5 = 0 := by omega
    try simp only [fe0, fe5, Int.reduceToNat] at f2 f3 f4 f5
    have s0 : nv β 0 = nv α1 0 := nv_le H1.1 (by omega)
    have s1 : nv β 1 = nv α1 1 := nv_le H1.1 (by omega)
    have s2 : nv β 2 = nv α1 2 := nv_le H1.1 (by omega)
    have s3 : nv β 3 = nv α1 3 := nv_le H1.1 (by omega)
    have s4 : nv β 4 = nv α1 4 := nv_le H1.1 (by omega)
    obtain ⟨α', Ha, hm⟩ := hd_gpM (q := kh_wFind_a43) (n := 0) (by decide +kernel) hx H1 (by decide +kernel) hxa hf
    have hfr := H1.2.2.2.2.2.2.2.2.2.2.1
    have m0 : nv α' 0 = nv β 0 := hm 0 0 rfl
    have m1 : nv α' 1 = nv β 1 := hm 1 1 rfl
    have m2 : nv α' 2 = nv β 2 := hm 2 2 rfl
    have m3 : nv α' 3 = nv β 3 := hm 3 3 rfl
    have m4 : nv α' 4 = nv β 4 := hm 4 4 rfl
    have m5 : nv α' 5 = nv β 5 := hm 5 5 rfl
    subst S'
    refine ih.2.2.2.1 _ _ _ _ Ha ?_ ?_
    · rw [m3, m4, s3, r3, s4, r4]; exact hp
    · omega
set_option maxHeartbeats 16000000 in
set_option maxRecDepth 8000 in
theorem kh_wFind_h43 {l : Launch} {D : va_G} {tc : Nat → ClassId} {ad : Nat → Nat} {kd : Nat → Nat × Nat} {N : Nat} {sm : Nat → Nat} {xs : List av_X} {S : fw_S} {p : Program} {e : Env} {s : State} {m : MethodId} {args : Array Value} {below : List Frame} {meth : Method} {c : Code} {sz : Nat} {lvE : List (Nat × Value)} (G : hd_C wd_ff2 wd_fl2 kh_wFind [kh_wReach2] kh_wFind_y l D tc ad kd N sm xs p s m args meth c sz) (H0 : as_in ad sm wd_fl2 xs S kh_wFind.2.2.2.2.2.1 xs (hd_0 kh_wFind) lvE [] S) {k : Nat} (ih : kh_wFind_I l D tc ad kd N sm xs S p e s m args below meth c sz k) : (∀ (α : List av_X) (lv : List (Nat × Value)) (st : List Value) (S1 : fw_S), as_in ad sm wd_fl2 xs S kh_wFind.2.2.2.2.2.1 α kh_wFind_a43.2.2.1 lv st S1 → ((nv α 3 = 99 ∨ (nv α 3 ≤ 98 ∧ wOK S1)) ∧ 1 ≤ (S1.1 829 (nv α 4).toNat).toInt ∧ wDs S1 (S1.1 827 (nv α 4).toNat).toInt (S1.1 828 (nv α 4).toNat).toInt) → (8 - nv α 4).toNat * 1000 + (12 - nv α 5).toNat < k + 1 → hd_W wd_fl2 kh_wFind kh_wFind_y l D tc ad kd N sm xs S p e s m args below meth c sz 43 lv st S1 0) := by
  have hx : xs.length = 3 := by rw [H0.2.1.1]; rfl
  intro α lv st S1 H hp hk
  obtain ⟨α1, hle, Hr⟩ := as_recM (pl := []) [((805, 805), (46, 46, 0)), ((805, 805), (47, 47, 0))] (by decide +kernel) H
  have hf := H.2.2.2.2.2.2.2.2.2.2.1
  have hl1 : α1.length = 6 := by rw [Hr.2.1.1]; rfl
  have hl0 : α.length = 6 := by rw [H.2.1.1]; rfl
  have hxa : al_le xs α1 := H.1.trans hle
  obtain ⟨g1, -, g3, g4, -⟩ := as_fx Hr
  have g0 : (805 ≤ nv α1 0 ∧ nv α1 0 ≤ 805) ∧ (0 ≤ nv α1 1 ∧ nv α1 1 ≤ 6) ∧ (0 ≤ nv α1 2 ∧ nv α1 2 ≤ 6) ∧ (0 ≤ nv α1 3 ∧ nv α1 3 ≤ 99) ∧ (0 ≤ nv α1 4 ∧ nv α1 4 ≤ 6) ∧ (0 ≤ nv α1 5 ∧ nv α1 5 ≤ 12) ∧ True := by
    refine ⟨by have h := (en_nv (i := 0) Hr.2.1 rfl).2; exact h, by have h := (en_nv (i := 1) Hr.2.1 rfl).2; exact h, by have h := (en_nv (i := 2) Hr.2.1 rfl).2; exact h, by have h := (en_nv (i := 3) Hr.2.1 rfl).2; exact h, by have h := (en_nv (i := 4) Hr.2.1 rfl).2; exact h, by have h := (en_nv (i := 5) Hr.2.1 rfl).2; exact h, trivial⟩
  have r0 : nv α1 0 = nv α 0 := nv_le hle (by omega)
  have r1 : nv α1 1 = nv α 1 := nv_le hle (by omega)
  have r2 : nv α1 2 = nv α 2 := nv_le hle (by omega)
  have r3 : nv α1 3 = nv α 3 := nv_le hle (by omega)
  have r4 : nv α1 4 = nv α 4 := nv_le hle (by omega)
  have r5 : nv α1 5 = nv α 5 := nv_le hle (by omega)
  refine hd_segM G (na := 6) (fuel := 600) (first := true) (Bs := [kh_wFind_b43_0, kh_wFind_b43_1, kh_wFind_b43_2, kh_wFind_b43_3]) (by decide +kernel) hl1 Hr ?_
  intro q hq β lv' st' S' H1
  simp only [List.mem_cons, List.not_mem_nil, or_false] at hq
  rcases hq with rfl | rfl | rfl | rfl
  · obtain ⟨f1, f2, f3, f4, f5⟩ := as_fx H1
    simp only [kh_wFind_b43_0, fx_env, fx_c, fx_ne, fx_hf, wl_S, Nat.zero_add, Nat.reduceAdd, Nat.reduceDiv, Nat.reduceMod, List.getElem?_cons_zero, List.getElem?_cons_succ, if_true, and_true, true_and] at f1 f2 f3 f4 f5
    have fe0 : nv β 0 = 805 := by omega
    have fe5 : nv β 5 = 12 := by omega
    have fe6 : nv β 6 = 12 := by omega
    try simp only [fe0, fe5, fe6, Int.reduceToNat] at f2 f3 f4 f5
    have s0 : nv β 0 = nv α1 0 := nv_le H1.1 (by omega)
    have s1 : nv β 1 = nv α1 1 := nv_le H1.1 (by omega)
    have s2 : nv β 2 = nv α1 2 := nv_le H1.1 (by omega)
    have s3 : nv β 3 = nv α1 3 := nv_le H1.1 (by omega)
    have s4 : nv β 4 = nv α1 4 := nv_le H1.1 (by omega)
    have s5 : nv β 5 = nv α1 5 := nv_le H1.1 (by omega)
    have c0 := f2
    obtain ⟨α', Ha, hm⟩ := hd_gpM (q := kh_wFind_a6) (n := 0) (by decide +kernel) hx H1 (by decide +kernel) hxa hf
    have hfr := H1.2.2.2.2.2.2.2.2.2.2.1
    have m0 : nv α' 0 = nv β 0 := hm 0 0 rfl
    have m1 : nv α' 1 = nv β 1 := hm 1 1 rfl
    have m2 : nv α' 2 = nv β 2 := hm 2 2 rfl
    have m3 : nv α' 3 = nv β 3 := hm 3 3 rfl
    have m4 : nv α' 4 = nv β 7 := hm 4 7 rfl
    subst S'
    refine ih.1 _ _ _ _ Ha ?_ ?_
    · rw [m3, s3, r3]; exact hp.1
    · omega
  · obtain ⟨f1, f2, f3, f4, f5⟩ := as_fx H1
    simp only [kh_wFind_b43_1, fx_env, fx_c, fx_ne, fx_hf, wl_S, Nat.zero_add, Nat.reduceAdd, Nat.reduceDiv, Nat.reduceMod, List.getElem?_cons_zero, List.getElem?_cons_succ, if_true, and_true, true_and] at f1 f2 f3 f4 f5
    have fe0 : nv β 0 = 805 := by omega
    have fe6 : nv β 6 = 12 := by omega
    have fe7 : nv β 7 = 832 := by omega
    try simp only [fe0, fe6, fe7, Int.reduceToNat] at f2 f3 f4 f5
    have s0 : nv β 0 = nv α1 0 := nv_le H1.1 (by omega)
    have s1 : nv β 1 = nv α1 1 := nv_le H1.1 (by omega)
    have s2 : nv β 2 = nv α1 2 := nv_le H1.1 (by omega)
    have s3 : nv β 3 = nv α1 3 := nv_le H1.1 (by omega)
    have s4 : nv β 4 = nv α1 4 := nv_le H1.1 (by omega)
    have s5 : nv β 5 = nv α1 5 := nv_le H1.1 (by omega)
    obtain ⟨c0, c1⟩ := f2
    obtain ⟨α', Ha, hm⟩ := hd_gpM (q := kh_wFind_a43) (n := 0) (by decide +kernel) hx H1 (by decide +kernel) hxa hf
    have hfr := H1.2.2.2.2.2.2.2.2.2.2.1
    have m0 : nv α' 0 = nv β 0 := hm 0 0 rfl
    have m1 : nv α' 1 = nv β 1 := hm 1 1 rfl
    have m2 : nv α' 2 = nv β 2 := hm 2 2 rfl
    have m3 : nv α' 3 = nv β 3 := hm 3 3 rfl
    have m4 : nv α' 4 = nv β 4 := hm 4 4 rfl
    have m5 : nv α' 5 = nv β 9 := hm 5 9 rfl
    subst S'
    refine ih.2.2.2.1 _ _ _ _ Ha ?_ ?_
    · rw [m3, m4, s3, r3, s4, r4]; exact hp
    · omega
  · obtain ⟨f1, f2, f3, f4, f5⟩ := as_fx H1
    simp only [kh_wFind_b43_2, fx_env, fx_c, fx_ne, fx_hf, wl_S, Nat.zero_add, Nat.reduceAdd, Nat.reduceDiv, Nat.reduceMod, List.getElem?_cons_zero, List.getElem?_cons_succ, if_true, and_true, true_and] at f1 f2 f3 f4 f5
    have fe0 : nv β 0 = 805 := by omega
    have fe6 : nv β 6 = 12 := by omega
    have fe7 : nv β 7 = 832 := by omega
    have fe9 : nv β 9 = 840 := by omega
    try simp only [fe0, fe6, fe7, fe9, Int.reduceToNat] at f2 f3 f4 f5
    have s0 : nv β 0 = nv α1 0 := nv_le H1.1 (by omega)
    have s1 : nv β 1 = nv α1 1 := nv_le H1.1 (by omega)
    have s2 : nv β 2 = nv α1 2 := nv_le H1.1 (by omega)
    have s3 : nv β 3 = nv α1 3 := nv_le H1.1 (by omega)
    have s4 : nv β 4 = nv α1 4 := nv_le H1.1 (by omega)
    have s5 : nv β 5 = nv α1 5 := nv_le H1.1 (by omega)
    obtain ⟨c0, c1, c2, c3⟩ := f2
    obtain ⟨α', Ha, hm⟩ := hd_gpM (q := kh_wFind_a43) (n := 0) (by decide +kernel) hx H1 (by decide +kernel) hxa hf
    have hfr := H1.2.2.2.2.2.2.2.2.2.2.1
    have m0 : nv α' 0 = nv β 0 := hm 0 0 rfl
    have m1 : nv α' 1 = nv β 1 := hm 1 1 rfl
    have m2 : nv α' 2 = nv β 2 := hm 2 2 rfl
    have m3 : nv α' 3 = nv β 3 := hm 3 3 rfl
    have m4 : nv α' 4 = nv β 4 := hm 4 4 rfl
    have m5 : nv α' 5 = nv β 11 := hm 5 11 rfl
    subst S'
    refine ih.2.2.2.1 _ _ _ _ Ha ?_ ?_
    · rw [m3, m4, s3, r3, s4, r4]; exact hp
    · omega
  · obtain ⟨f1, f2, f3, f4, f5⟩ := as_fx H1
    simp only [kh_wFind_b43_3, fx_env, fx_c, fx_ne, fx_hf, wl_S, Nat.zero_add, Nat.reduceAdd, Nat.reduceDiv, Nat.reduceMod, List.getElem?_cons_zero, List.getElem?_cons_succ, if_true, and_true, true_and] at f1 f2 f3 f4 f5
    have fe0 : nv β 0 = 805 := by omega
    have fe6 : nv β 6 = 12 := by omega
    have fe7 : nv β 7 = 832 := by omega
    have fe9 : nv β 9 = 840 := by omega
    have fe11 : nv β 11 = 840 := by omega
    have fe12 : nv β 12 = 46 := by omega
    have fe13 : nv β 13 = 47 := by omega
    try simp only [fe0, fe6, fe7, fe9, fe11, fe12, fe13, Int.reduceToNat] at f2 f3 f4 f5
    have s0 : nv β 0 = nv α1 0 := nv_le H1.1 (by omega)
    have s1 : nv β 1 = nv α1 1 := nv_le H1.1 (by omega)
    have s2 : nv β 2 = nv α1 2 := nv_le H1.1 (by omega)
    have s3 : nv β 3 = nv α1 3 := nv_le H1.1 (by omega)
    have s4 : nv β 4 = nv α1 4 := nv_le H1.1 (by omega)
    have s5 : nv β 5 = nv α1 5 := nv_le H1.1 (by omega)
    obtain ⟨c0, c1, c2, c3⟩ := f2
    obtain ⟨α', Ha, hm⟩ := hd_gpM (q := kh_wFind_a43) (n := 0) (by decide +kernel) hx H1 (by decide +kernel) hxa hf
    have hfr := H1.2.2.2.2.2.2.2.2.2.2.1
    have m0 : nv α' 0 = nv β 0 := hm 0 0 rfl
    have m1 : nv α' 1 = nv β 1 := hm 1 1 rfl
    have m2 : nv α' 2 = nv β 2 := hm 2 2 rfl
    have m3 : nv α' 3 = nv β 10 := hm 3 10 rfl
    have m4 : nv α' 4 = nv β 4 := hm 4 4 rfl
    have m5 : nv α' 5 = nv β 14 := hm 5 14 rfl
    subst S'
    have o1 := old_0 c1 rfl
    have o2 := old_0 c2 rfl
    have a46 : ((fw_i (fw_i S1 805 46 (Int32.ofInt (nv β 4))) 805 47 (Int32.ofInt (nv β 5))).1 805 46).toInt = nv β 4 := by rw [fw_i_row, if_neg (by decide), fw_i_row, if_pos rfl, i32_of (by omega) (by omega)]
    have a47 : ((fw_i (fw_i S1 805 46 (Int32.ofInt (nv β 4))) 805 47 (Int32.ofInt (nv β 5))).1 805 47).toInt = nv β 5 := by rw [fw_i_row, if_pos rfl, i32_of (by omega) (by omega)]
    have en : ∀ c, c ≠ 805 → (fw_i (fw_i S1 805 46 (Int32.ofInt (nv β 4))) 805 47 (Int32.ofInt (nv β 5))).1 c = S1.1 c := fun c hc => (fw_i_ne hc).trans (fw_i_ne hc)
    obtain ⟨p1, p2, p3⟩ := hp
    rw [← r4, ← s4] at p2 p3
    have hn5 : (((nv β 5).toNat : Nat) : Int) = nv β 5 := Int.toNat_of_nonneg (by omega)
    have pth := wD_path p3 (nv β 10).toNat (nv β 5).toNat (by omega) (by rw [o1]; omega) (by omega)
    rw [hn5] at pth
    have e8 : wDs (fw_i (fw_i S1 805 46 (Int32.ofInt (nv β 4))) 805 47 (Int32.ofInt (nv β 5))) (S1.1 827 (nv β 4).toNat).toInt (S1.1 828 (nv β 4).toNat).toInt := by
      have hF := rg_bd (q_rg_in (q := ((827, 827), (0, 6, 1), (0, 0, 11, 1))) (by decide +kernel) H) (j := (nv β 4).toNat) (by omega)
      exact wDs_eq hF (en 840 (by decide)) (en 806 (by decide)) (en 839 (by decide)) p3
    refine ih.2.2.2.1 _ _ _ _ Ha ?_ ?_
    · rw [m3, m4, en 829 (by decide), en 827 (by decide), en 828 (by decide)]
      refine ⟨Or.inr ⟨by omega, ?_⟩, p2, e8⟩
      unfold wOK
      rw [a46, a47, en 829 (by decide), en 832 (by decide), en 828 (by decide), en 827 (by decide)]
      exact ⟨by omega, by omega, by omega, by omega, p2, by rw [o2]; omega, (nv β 10).toNat, pth.1, wP_eq (fun j _ => by rw [en 806 (by decide)]) (fun j _ => by rw [en 839 (by decide)]) (by omega) pth.2⟩
    · omega
set_option maxHeartbeats 16000000 in
set_option maxRecDepth 8000 in
theorem kh_wFind_ok : ct_ok wd_fl2 kh_wFind := ct_hand (ff := wd_ff2) (y := kh_wFind_y) (Cs := [kh_wReach2]) wd_fl2_ok rfl (List.forall_mem_cons.mpr ⟨kh_wReach2_ok, (List.forall_mem_nil _)⟩) (by decide +kernel) (fun l D tc ad kd N sm xs S p e s m args below meth c sz lv G H0 => by
  have hx : xs.length = 3 := by rw [H0.2.1.1]; rfl
  have hP : ∀ (k : Nat), kh_wFind_I l D tc ad kd N sm xs S p e s m args below meth c sz k := by
    intro k
    induction k with
    | zero => exact ⟨fun _ _ _ _ _ _ h => absurd h (Nat.not_lt_zero _), fun _ _ _ _ _ _ h => absurd h (Nat.not_lt_zero _), fun _ _ _ _ _ _ h => absurd h (Nat.not_lt_zero _), fun _ _ _ _ _ _ h => absurd h (Nat.not_lt_zero _), trivial⟩
    | succ k ih => exact ⟨kh_wFind_h6 G H0 ih, kh_wFind_h37 G H0 ih, kh_wFind_h40 G H0 ih, kh_wFind_h43 G H0 ih, trivial⟩
  obtain ⟨α1, hle, Hr⟩ := as_recM (pl := []) [] (by decide +kernel) H0
  have hf := H0.2.2.2.2.2.2.2.2.2.2.1
  have hl1 : α1.length = 3 := by rw [Hr.2.1.1]; rfl
  have hl0 : xs.length = 3 := by rw [H0.2.1.1]; rfl
  have hxa : al_le xs α1 := H0.1.trans hle
  obtain ⟨g1, -, g3, g4, -⟩ := as_fx Hr
  have g0 : (805 ≤ nv α1 0 ∧ nv α1 0 ≤ 805) ∧ (0 ≤ nv α1 1 ∧ nv α1 1 ≤ 6) ∧ (0 ≤ nv α1 2 ∧ nv α1 2 ≤ 6) ∧ True := by
    refine ⟨by have h := (en_nv (i := 0) Hr.2.1 rfl).2; exact h, by have h := (en_nv (i := 1) Hr.2.1 rfl).2; exact h, by have h := (en_nv (i := 2) Hr.2.1 rfl).2; exact h, trivial⟩
  have r0 : nv α1 0 = nv xs 0 := nv_le hle (by omega)
  have r1 : nv α1 1 = nv xs 1 := nv_le hle (by omega)
  have r2 : nv α1 2 = nv xs 2 := nv_le hle (by omega)
  refine hd_segM G (na := 3) (fuel := 600) (first := true) (Bs := [kh_wFind_b0_0]) (by decide +kernel) hl1 Hr ?_
  intro q hq β lv' st' S' H1
  simp only [List.mem_cons, List.not_mem_nil, or_false] at hq
  rcases hq with rfl
  · obtain ⟨f1, f2, f3, f4, f5⟩ := as_fx H1
    simp only [kh_wFind_b0_0, fx_env, fx_c, fx_ne, fx_hf, wl_S, Nat.zero_add, Nat.reduceAdd, Nat.reduceDiv, Nat.reduceMod, List.getElem?_cons_zero, List.getElem?_cons_succ, if_true, and_true, true_and] at f1 f2 f3 f4 f5
    have fe0 : nv β 0 = 805 := by omega
    have fe3 : nv β 3 = 99 := by omega
    try simp only [fe0, fe3, Int.reduceToNat] at f2 f3 f4 f5
    have s0 : nv β 0 = nv α1 0 := nv_le H1.1 (by omega)
    have s1 : nv β 1 = nv α1 1 := nv_le H1.1 (by omega)
    have s2 : nv β 2 = nv α1 2 := nv_le H1.1 (by omega)
    obtain ⟨α', Ha, hm⟩ := hd_gpM (q := kh_wFind_a6) (n := 0) (by decide +kernel) hx H1 (by decide +kernel) hxa hf
    have hfr := H1.2.2.2.2.2.2.2.2.2.2.1
    have m0 : nv α' 0 = nv β 0 := hm 0 0 rfl
    have m1 : nv α' 1 = nv β 1 := hm 1 1 rfl
    have m2 : nv α' 2 = nv β 2 := hm 2 2 rfl
    have m3 : nv α' 3 = nv β 3 := hm 3 3 rfl
    have m4 : nv α' 4 = nv β 1 := hm 4 1 rfl
    subst S'
    refine (hP _).1 _ _ _ _ Ha ?_ (Nat.lt_succ_self _)
    · exact Or.inl (by omega))
