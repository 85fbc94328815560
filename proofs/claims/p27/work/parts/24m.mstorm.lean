/-! ===== the model: a storm told ===== -/
abbrev kh_mStorm_y : mt_T := (⟨"UtilityWorksModel", "storm", "(II)I"⟩, prog_14_method_331_code, 4, some .int, 12, 1, 2, 38004, 38002, 38003, 21014)
def kh_mStorm : ct_T := (665, [(2, 805, 805, 0), (0, 0, 2, 1), (0, 1, 9, 1)], [], [510, 513, 515], [(1, (0, 0, 3, 1), [(2, 805, 805, 0), (0, 0, 2, 1), (0, 1, 9, 1)], [], ([510, 513, 515], []))], [((805, 805), (8, 8, 0)), ((806, 806), (500, 512, 4)), ((806, 806), (501, 513, 4)), ((806, 806), (502, 514, 4)), ((806, 806), (503, 515, 4))], 3, 65, 0)
def kh_mStorm_a36 : an_T := (36, 0, ([((2, 805, 805, 0), none), ((0, 0, 2, 1), none), ((0, 1, 9, 1), none)], [(0, 0), (1, 1), (2, 2)], [0, 0], [], [], [], [], [510, 513, 515], none), [])
def kh_mStorm_a39 : an_T := (39, 0, ([((2, 805, 805, 0), none), ((0, 0, 2, 1), none), ((0, 1, 9, 1), none), ((0, 0, 4, 1), none)], [(0, 0), (1, 1), (2, 2)], [3, 0], [], [], [], [], [510, 513, 515], none), [])
def kh_mStorm_a57 : an_T := (57, 0, ([((2, 805, 805, 0), none), ((0, 0, 2, 1), none), ((0, 1, 9, 1), none)], [(0, 0), (1, 1), (2, 2)], [], [], [], [], [], [510, 513, 515], none), [])
def kh_mStorm_a59 : an_T := (59, 0, ([((2, 805, 805, 0), none), ((0, 0, 2, 1), none), ((0, 1, 9, 1), none), ((0, 0, 4, 1), none)], [(0, 0), (1, 1), (2, 2), (3, 3)], [], [], [], [], [], [510, 513, 515], none), [])
def kh_mStorm_a61 : an_T := (61, 0, ([((2, 805, 805, 0), none), ((0, 0, 2, 1), none), ((0, 1, 9, 1), none), ((0, 0, 3, 1), none), ((0, 0, 3, 1), none)], [(0, 0), (1, 1), (2, 2), (3, 3)], [4, 0], [], [], [], [], [510, 513, 515], none), [])
def kh_mStorm_a64 : an_T := (64, 0, ([((2, 805, 805, 0), none), ((0, 0, 2, 1), none), ((0, 1, 9, 1), none), ((0, 0, 3, 1), none), ((0, 0, 1, 1), none)], [(0, 0), (1, 1), (2, 2), (3, 3)], [4], [], [], [], [], [510, 513, 515], none), [])
def kh_mStorm_a73 : an_T := (73, 0, ([((2, 805, 805, 0), none), ((0, 0, 2, 1), none), ((0, 1, 9, 1), none), ((0, 0, 3, 1), none)], [(0, 0), (1, 1), (2, 2), (3, 3)], [], [], [], [], [], [510, 513, 515], none), [])
def kh_mStorm_b0_0 : sg_T := (33, 0, ([((2, 805, 805, 0), none), ((0, 0, 2, 1), none), ((0, 1, 9, 1), none), ((0, 0, 0, 0), none), ((0, 2, 2, 0), none), ((0, 0, 0, 0), none), ((0, 0, 0, 0), none), ((0, 1, 1, 0), none), ((0, 1, 1, 0), none), ((0, 0, 0, 0), none)], [(0, 0), (1, 1), (2, 2)], [9], [], [(8, 0)], [(4400005, 1, 1)], [((805, 805), (8, 8, 0), (0, 1, 1, 0))], [510, 513, 515], none))
def kh_mStorm_b0_1 : sg_T := (33, 0, ([((2, 805, 805, 0), none), ((0, 0, 2, 1), none), ((0, 1, 9, 1), none), ((0, 0, 0, 0), none), ((0, 2, 2, 0), none), ((0, 1, 1, 0), none), ((0, 1, 1, 0), none), ((0, 9, 9, 0), none), ((0, 0, 0, 0), none), ((0, 0, 0, 0), none), ((0, 1, 1, 0), none), ((0, 1, 1, 0), none), ((0, 0, 0, 0), none)], [(0, 0), (1, 1), (2, 2)], [12], [], [(11, 0), (5, 0)], [(4500008, 2, 2), (4400005, 1, 1)], [((805, 805), (8, 8, 0), (0, 1, 1, 0))], [510, 513, 515], none))
def kh_mStorm_b0_2 : sg_T := (36, 0, ([((2, 805, 805, 0), none), ((0, 0, 2, 1), none), ((0, 1, 9, 1), none), ((0, 0, 0, 0), none), ((0, 2, 2, 0), none), ((0, 1, 1, 0), none), ((0, 1, 1, 0), none), ((0, 9, 9, 0), none), ((0, 1, 1, 0), none), ((0, 1, 1, 0), none), ((0, 1, 1, 0), none), ((0, 0, 0, 0), none)], [(0, 0), (1, 1), (2, 2)], [0, 0], [], [(8, 0), (5, 0)], [(4500008, 2, 2), (4400005, 1, 1)], [((805, 805), (8, 8, 0), (0, 0, 0, 0))], [510, 513, 515], none))
def kh_mStorm_b36_0 : sg_T := (39, 0, ([((2, 805, 805, 0), none), ((0, 0, 2, 1), none), ((0, 1, 9, 1), none), ((0, 0, 4, 1), none)], [(0, 0), (1, 1), (2, 2)], [3, 0], [], [], [], [], [510, 513, 515], some []))
def kh_mStorm_b39_0 : sg_T := (56, 0, ([((2, 805, 805, 0), none), ((0, 0, 2, 1), none), ((0, 1, 9, 1), none), ((0, 4, 4, 1), none), ((0, 4, 4, 0), none), ((0, 0, 0, 0), none), ((0, 2, 2, 0), none), ((0, 1, 1, 0), none), ((0, 0, 0, 0), none)], [(0, 0), (1, 1), (2, 2)], [8], [], [(7, 0)], [(200000, 4, 3)], [((805, 805), (8, 8, 0), (0, 2, 2, 0))], [510, 513, 515], none))
def kh_mStorm_b39_1 : sg_T := (57, 0, ([((2, 805, 805, 0), none), ((0, 0, 2, 1), none), ((0, 1, 9, 1), none), ((0, 0, 3, 1), none), ((0, 4, 4, 0), none), ((0, 1, 1, 0), none), ((0, 2, 2, 0), none), ((0, 0, 0, 0), none)], [(0, 0), (1, 1), (2, 2)], [], [], [], [(100000, 3, 4)], [((805, 805), (8, 8, 0), (0, 0, 0, 0))], [510, 513, 515], none))
def kh_mStorm_b57_0 : sg_T := (59, 0, ([((2, 805, 805, 0), none), ((0, 0, 2, 1), none), ((0, 1, 9, 1), none), ((0, 0, 0, 0), none)], [(3, 3), (0, 0), (1, 1), (2, 2)], [], [], [], [], [], [510, 513, 515], some []))
def kh_mStorm_b59_0 : sg_T := (61, 0, ([((2, 805, 805, 0), none), ((0, 0, 2, 1), none), ((0, 1, 9, 1), none), ((0, 0, 3, 1), none)], [(0, 0), (1, 1), (2, 2), (3, 3)], [3, 0], [], [], [], [], [510, 513, 515], some []))
def kh_mStorm_b61_0 : sg_T := (64, 0, ([((2, 805, 805, 0), none), ((0, 0, 2, 1), none), ((0, 1, 9, 1), none), ((0, 0, 3, 1), none), ((0, 0, 3, 1), none), ((0, 0, 1, 1), none)], [(0, 0), (1, 1), (2, 2), (3, 3)], [5], [], [], [], [], [510, 513, 515], some []))
def kh_mStorm_b64_0 : sg_T := (73, 0, ([((2, 805, 805, 0), none), ((0, 0, 2, 1), none), ((0, 1, 9, 1), none), ((0, 0, 3, 1), none), ((0, 0, 0, 1), none)], [(0, 0), (1, 1), (2, 2), (3, 3)], [], [], [], [], [], [510, 513, 515], some []))
def kh_mStorm_b64_1 : sg_T := (59, 0, ([((2, 805, 805, 0), none), ((0, 0, 2, 1), none), ((0, 1, 9, 1), none), ((0, 0, 3, 1), none), ((0, 1, 1, 1), none), ((0, 1, 4, 1), some (3, 1))], [(3, 5), (0, 0), (1, 1), (2, 2)], [], [], [(4, 0)], [], [], [510, 513, 515], some []))
def kh_mStorm_b73_0 : sg_T := (132, 0, ([((2, 805, 805, 0), none), ((0, 0, 2, 1), none), ((0, 1, 9, 1), none), ((0, 0, 3, 1), none), ((2, 806, 806, 1), none), ((0, 500, 500, 0), none), ((0, 4, 4, 0), none), ((0, 0, 12, 4), none), ((0, 500, 512, 4), none), ((2, 806, 806, 1), none), ((0, 500, 500, 0), none), ((0, 4, 4, 0), none), ((0, 0, 12, 4), none), ((0, 500, 512, 4), none), ((0, 1, 1, 0), none), ((0, 501, 513, 4), some (13, 1)), ((2, 806, 806, 1), none), ((0, 500, 500, 0), none), ((0, 4, 4, 0), none), ((0, 0, 12, 4), none), ((0, 500, 512, 4), none), ((0, 2, 2, 0), none), ((0, 502, 514, 4), some (20, 2)), ((0, (-1), (-1), 0), none), ((2, 806, 806, 1), none), ((0, 500, 500, 0), none), ((0, 4, 4, 0), none), ((0, 0, 12, 4), none), ((0, 500, 512, 4), none), ((0, 3, 3, 0), none), ((0, 503, 515, 4), some (28, 3)), ((0, 0, 0, 0), none)], [(0, 0), (1, 1), (2, 2), (3, 3)], [3], [(24, 30, 31), (16, 22, 23), (9, 15, 2), (4, 8, 1)], [], [(500030, 28, 29), (500028, 25, 27), (700027, 26, 3), (500022, 20, 21), (500020, 17, 19), (700019, 18, 3), (500015, 13, 14), (500013, 10, 12), (700012, 11, 3), (500008, 5, 7), (700007, 6, 3)], [], [510, 513, 515], some [(24, 30, 31), (16, 22, 23), (9, 15, 2), (4, 8, 1)]))
def kh_mStorm_I (l : Launch) (D : va_G) (tc : Nat → ClassId) (ad : Nat → Nat) (kd : Nat → Nat × Nat) (N : Nat) (sm : Nat → Nat) (xs : List av_X) (S : fw_S) (p : Program) (e : Env) (s : State) (m : MethodId) (args : Array Value) (below : List Frame) (meth : Method) (c : Code) (sz : Nat) (k : Nat) : Prop := (∀ (α : List av_X) (lv : List (Nat × Value)) (st : List Value) (S1 : fw_S), as_in ad sm wd_fl2 xs S kh_mStorm.2.2.2.2.2.1 α kh_mStorm_a36.2.2.1 lv st S1 → (S1.1 806 = S.1 806) → 1000 < k → hd_WR R_mStorm wd_fl2 kh_mStorm kh_mStorm_y l D tc ad kd N sm xs S p e s m args below meth c sz 36 lv st S1 0) ∧ (∀ (α : List av_X) (lv : List (Nat × Value)) (st : List Value) (S1 : fw_S), as_in ad sm wd_fl2 xs S kh_mStorm.2.2.2.2.2.1 α kh_mStorm_a39.2.2.1 lv st S1 → (S1.1 806 = S.1 806 ∧ nv α 3 = cnS (mrw S) 4) → 900 < k → hd_WR R_mStorm wd_fl2 kh_mStorm kh_mStorm_y l D tc ad kd N sm xs S p e s m args below meth c sz 39 lv st S1 0) ∧ (∀ (α : List av_X) (lv : List (Nat × Value)) (st : List Value) (S1 : fw_S), as_in ad sm wd_fl2 xs S kh_mStorm.2.2.2.2.2.1 α kh_mStorm_a57.2.2.1 lv st S1 → ((S1.1 806 = S.1 806 ∧ thM S1 = 0 ∧ 0 ≤ frS (mrw S))) → 800 < k → hd_WR R_mStorm wd_fl2 kh_mStorm kh_mStorm_y l D tc ad kd N sm xs S p e s m args below meth c sz 57 lv st S1 0) ∧ (∀ (α : List av_X) (lv : List (Nat × Value)) (st : List Value) (S1 : fw_S), as_in ad sm wd_fl2 xs S kh_mStorm.2.2.2.2.2.1 α kh_mStorm_a59.2.2.1 lv st S1 → ((S1.1 806 = S.1 806 ∧ thM S1 = 0 ∧ 0 ≤ frS (mrw S)) ∧ (∀ k : Nat, (k : Int) < nv α 3 → mrw S k ≠ -1) ∧ (0 ≤ nv α 3 ∧ nv α 3 ≤ 3)) → (4 - nv α 3).toNat * 10 + 9 < k → hd_WR R_mStorm wd_fl2 kh_mStorm kh_mStorm_y l D tc ad kd N sm xs S p e s m args below meth c sz 59 lv st S1 0) ∧ (∀ (α : List av_X) (lv : List (Nat × Value)) (st : List Value) (S1 : fw_S), as_in ad sm wd_fl2 xs S kh_mStorm.2.2.2.2.2.1 α kh_mStorm_a61.2.2.1 lv st S1 → ((S1.1 806 = S.1 806 ∧ thM S1 = 0 ∧ 0 ≤ frS (mrw S)) ∧ (∀ k : Nat, (k : Int) < nv α 3 → mrw S k ≠ -1) ∧ (0 ≤ nv α 3 ∧ nv α 3 ≤ 3) ∧ nv α 4 = nv α 3) → (4 - nv α 3).toNat * 10 + 8 < k → hd_WR R_mStorm wd_fl2 kh_mStorm kh_mStorm_y l D tc ad kd N sm xs S p e s m args below meth c sz 61 lv st S1 0) ∧ (∀ (α : List av_X) (lv : List (Nat × Value)) (st : List Value) (S1 : fw_S), as_in ad sm wd_fl2 xs S kh_mStorm.2.2.2.2.2.1 α kh_mStorm_a64.2.2.1 lv st S1 → ((S1.1 806 = S.1 806 ∧ thM S1 = 0 ∧ 0 ≤ frS (mrw S)) ∧ (∀ k : Nat, (k : Int) < nv α 3 → mrw S k ≠ -1) ∧ (0 ≤ nv α 3 ∧ nv α 3 ≤ 3) ∧ nv α 4 = b2i (¬ mrw S (nv α 3).toNat = -1)) → (4 - nv α 3).toNat * 10 + 7 < k → hd_WR R_mStorm wd_fl2 kh_mStorm kh_mStorm_y l D tc ad kd N sm xs S p e s m args below meth c sz 64 lv st S1 0) ∧ (∀ (α : List av_X) (lv : List (Nat × Value)) (st : List Value) (S1 : fw_S), as_in ad sm wd_fl2 xs S kh_mStorm.2.2.2.2.2.1 α kh_mStorm_a73.2.2.1 lv st S1 → ((S1.1 806 = S.1 806 ∧ thM S1 = 0 ∧ 0 ≤ frS (mrw S)) ∧ nv α 3 = frS (mrw S) ∧ (0 ≤ nv α 3 ∧ nv α 3 ≤ 3)) → 1 < k → hd_WR R_mStorm wd_fl2 kh_mStorm kh_mStorm_y l D tc ad kd N sm xs S p e s m args below meth c sz 73 lv st S1 0) ∧ True
set_option maxHeartbeats 16000000 in
set_option maxRecDepth 8000 in
theorem kh_mStorm_h36 {l : Launch} {D : va_G} {tc : Nat → ClassId} {ad : Nat → Nat} {kd : Nat → Nat × Nat} {N : Nat} {sm : Nat → Nat} {xs : List av_X} {S : fw_S} {p : Program} {e : Env} {s : State} {m : MethodId} {args : Array Value} {below : List Frame} {meth : Method} {c : Code} {sz : Nat} {lvE : List (Nat × Value)} (G : hd_C wd_ff2 wd_fl2 kh_mStorm [kh_in4, kh_592, kh_in5, kh_588, kh_storms, kh_591, kh_590, kh_mIsStorm] kh_mStorm_y l D tc ad kd N sm xs p s m args meth c sz) (H0 : as_in ad sm wd_fl2 xs S kh_mStorm.2.2.2.2.2.1 xs (hd_0 kh_mStorm) lvE [] S) {k : Nat} (ih : kh_mStorm_I l D tc ad kd N sm xs S p e s m args below meth c sz k) : (∀ (α : List av_X) (lv : List (Nat × Value)) (st : List Value) (S1 : fw_S), as_in ad sm wd_fl2 xs S kh_mStorm.2.2.2.2.2.1 α kh_mStorm_a36.2.2.1 lv st S1 → (S1.1 806 = S.1 806) → 1000 < k + 1 → hd_WR R_mStorm wd_fl2 kh_mStorm kh_mStorm_y l D tc ad kd N sm xs S p e s m args below meth c sz 36 lv st S1 0) := by
  have hx : xs.length = 3 := by rw [H0.2.1.1]; rfl
  intro α lv st S1 H hp hk
  obtain ⟨α1, hle, Hr⟩ := as_recM (pl := []) [] (by decide +kernel) H
  have hf := H.2.2.2.2.2.2.2.2.2.2.1
  have hl1 : α1.length = 3 := by rw [Hr.2.1.1]; rfl
  have hl0 : α.length = 3 := by rw [H.2.1.1]; rfl
  have hxa : al_le xs α1 := H.1.trans hle
  obtain ⟨g1, -, g3, g4, -⟩ := as_fx Hr
  have g0 : (805 ≤ nv α1 0 ∧ nv α1 0 ≤ 805) ∧ (0 ≤ nv α1 1 ∧ nv α1 1 ≤ 2) ∧ (1 ≤ nv α1 2 ∧ nv α1 2 ≤ 9) ∧ True := by
    refine ⟨by have h := (en_nv (i := 0) Hr.2.1 rfl).2; exact h, by have h := (en_nv (i := 1) Hr.2.1 rfl).2; exact h, by have h := (en_nv (i := 2) Hr.2.1 rfl).2; exact h, trivial⟩
  have r0 : nv α1 0 = nv α 0 := nv_le hle (by omega)
  have r1 : nv α1 1 = nv α 1 := nv_le hle (by omega)
  have r2 : nv α1 2 = nv α 2 := nv_le hle (by omega)
  refine hd_callRR (Rr := R_storms) (Rs := [kh_storms]) (idx := 952) G (List.forall_mem_cons.mpr ⟨kh_storms_okR, List.forall_mem_nil _⟩) (na := 3) (Bs := [kh_mStorm_b36_0]) (by decide +kernel) (by decide +kernel) hl1 Hr ?_
  intro q hq β lv' st' S' H1 hRx
  simp only [List.mem_cons, List.not_mem_nil, or_false] at hq
  rcases hq with rfl
  · obtain ⟨f1, f2, f3, f4, f5⟩ := as_fx H1
    simp only [kh_mStorm_b36_0, Nat.reduceEqDiff, if_false, fx_env, fx_c, fx_ne, fx_hf, wl_S, Nat.zero_add, Nat.reduceAdd, Nat.reduceDiv, Nat.reduceMod, List.getElem?_cons_zero, List.getElem?_cons_succ, if_true, and_true, true_and] at f1 f2 f3 f4 f5
    have fe0 : nv β 0 = 805 := by omega
    try simp only [fe0, Int.reduceToNat] at f2 f3 f4 f5
    have s0 : nv β 0 = nv α1 0 := nv_le H1.1 (by omega)
    have s1 : nv β 1 = nv α1 1 := nv_le H1.1 (by omega)
    have s2 : nv β 2 = nv α1 2 := nv_le H1.1 (by omega)
    obtain ⟨α', Ha, hm⟩ := hd_gpM (q := kh_mStorm_a39) (n := 0) (by decide +kernel) hx H1 (by decide +kernel) hxa hf
    have hfr := H1.2.2.2.2.2.2.2.2.2.2.1
    have m0 : nv α' 0 = nv β 0 := hm 0 0 rfl
    have m1 : nv α' 1 = nv β 1 := hm 1 1 rfl
    have m2 : nv α' 2 = nv β 2 := hm 2 2 rfl
    have m3 : nv α' 3 = nv β 3 := hm 3 3 rfl
    obtain ⟨Cc, hCc, ys, rr, hnm, hR, rest, hre⟩ := hRx
    rcases List.mem_singleton.mp hCc with rfl
    obtain ⟨v, v1, v2⟩ := hR
    have hv := hd_rv H1 (i := 3) rfl rfl rfl hre (Sum.inl.inj v1)
    rw [hv, mrw_row hp] at v2
    refine ih.2.1 _ _ _ _ Ha ?_ ?_
    · rw [m3, show S' = S1 from f5]
      exact ⟨hp, v2⟩
    · omega
set_option maxHeartbeats 16000000 in
set_option maxRecDepth 8000 in
theorem kh_mStorm_h39 {l : Launch} {D : va_G} {tc : Nat → ClassId} {ad : Nat → Nat} {kd : Nat → Nat × Nat} {N : Nat} {sm : Nat → Nat} {xs : List av_X} {S : fw_S} {p : Program} {e : Env} {s : State} {m : MethodId} {args : Array Value} {below : List Frame} {meth : Method} {c : Code} {sz : Nat} {lvE : List (Nat × Value)} (G : hd_C wd_ff2 wd_fl2 kh_mStorm [kh_in4, kh_592, kh_in5, kh_588, kh_storms, kh_591, kh_590, kh_mIsStorm] kh_mStorm_y l D tc ad kd N sm xs p s m args meth c sz) (H0 : as_in ad sm wd_fl2 xs S kh_mStorm.2.2.2.2.2.1 xs (hd_0 kh_mStorm) lvE [] S) {k : Nat} (ih : kh_mStorm_I l D tc ad kd N sm xs S p e s m args below meth c sz k) : (∀ (α : List av_X) (lv : List (Nat × Value)) (st : List Value) (S1 : fw_S), as_in ad sm wd_fl2 xs S kh_mStorm.2.2.2.2.2.1 α kh_mStorm_a39.2.2.1 lv st S1 → (S1.1 806 = S.1 806 ∧ nv α 3 = cnS (mrw S) 4) → 900 < k + 1 → hd_WR R_mStorm wd_fl2 kh_mStorm kh_mStorm_y l D tc ad kd N sm xs S p e s m args below meth c sz 39 lv st S1 0) := by
  have hx : xs.length = 3 := by rw [H0.2.1.1]; rfl
  intro α lv st S1 H hp hk
  obtain ⟨α1, hle, Hr⟩ := as_recM (pl := []) [((805, 805), (8, 8, 0))] (by decide +kernel) H
  have hf := H.2.2.2.2.2.2.2.2.2.2.1
  have hl1 : α1.length = 4 := by rw [Hr.2.1.1]; rfl
  have hl0 : α.length = 4 := by rw [H.2.1.1]; rfl
  have hxa : al_le xs α1 := H.1.trans hle
  obtain ⟨g1, -, g3, g4, -⟩ := as_fx Hr
  have g0 : (805 ≤ nv α1 0 ∧ nv α1 0 ≤ 805) ∧ (0 ≤ nv α1 1 ∧ nv α1 1 ≤ 2) ∧ (1 ≤ nv α1 2 ∧ nv α1 2 ≤ 9) ∧ (0 ≤ nv α1 3 ∧ nv α1 3 ≤ 4) ∧ True := by
    refine ⟨by have h := (en_nv (i := 0) Hr.2.1 rfl).2; exact h, by have h := (en_nv (i := 1) Hr.2.1 rfl).2; exact h, by have h := (en_nv (i := 2) Hr.2.1 rfl).2; exact h, by have h := (en_nv (i := 3) Hr.2.1 rfl).2; exact h, trivial⟩
  have r0 : nv α1 0 = nv α 0 := nv_le hle (by omega)
  have r1 : nv α1 1 = nv α 1 := nv_le hle (by omega)
  have r2 : nv α1 2 = nv α 2 := nv_le hle (by omega)
  have r3 : nv α1 3 = nv α 3 := nv_le hle (by omega)
  refine hd_segMR G (na := 4) (fuel := 600) (first := true) (Bs := [kh_mStorm_b39_0, kh_mStorm_b39_1]) (by decide +kernel) hl1 Hr ?_
  intro q hq β lv' st' S' H1
  simp only [List.mem_cons, List.not_mem_nil, or_false] at hq
  rcases hq with rfl | rfl
  · obtain ⟨f1, f2, f3, f4, f5⟩ := as_fx H1
    simp only [kh_mStorm_b39_0, Nat.reduceEqDiff, if_false, fx_env, fx_c, fx_ne, fx_hf, wl_S, Nat.zero_add, Nat.reduceAdd, Nat.reduceDiv, Nat.reduceMod, List.getElem?_cons_zero, List.getElem?_cons_succ, if_true, and_true, true_and] at f1 f2 f3 f4 f5
    have fe0 : nv β 0 = 805 := by omega
    have fe3 : nv β 3 = 4 := by omega
    have fe4 : nv β 4 = 4 := by omega
    have fe5 : nv β 5 = 0 := by omega
    have fe6 : nv β 6 = 2 := by omega
    have fe7 : nv β 7 = 1 := by omega
    have fe8 : nv β 8 = 0 := by omega
    try simp only [fe0, fe3, fe4, fe5, fe6, fe7, fe8, Int.reduceToNat] at f2 f3 f4 f5
    have s0 : nv β 0 = nv α1 0 := nv_le H1.1 (by omega)
    have s1 : nv β 1 = nv α1 1 := nv_le H1.1 (by omega)
    have s2 : nv β 2 = nv α1 2 := nv_le H1.1 (by omega)
    have s3 : nv β 3 = nv α1 3 := nv_le H1.1 (by omega)
    have c0 := f2
    have hth : thM S' = 2 := by
      have hq := q_rg_in (q := ((805, 805), (8, 8, 0), (0, 2, 2, 0))) (by decide +kernel) H1 805 8 (Nat.le_refl _) (Nat.le_refl _) pg_one
      have a1 := hq.2.2.1
      have a2 := hq.2.2.2.1
      dsimp only at a1 a2
      unfold thM
      omega
    have hfr := H1.2.2.2.2.2.2.2.2.2.2.1
    obtain ⟨p1, p2⟩ := hp
    have er : S'.1 806 = S.1 806 := (fr_row hfr 806 (by decide +kernel)).trans p1
    have hc := (cn_fr (r := mrw S)).2
    exact hd_retIR G (v := 8) (by decide +kernel) (as_backM H1 (by decide +kernel) hxa hf) _ List.mem_cons_self rfl (by decide +kernel) (by decide) (fun w hw => by cases hw) (fun y hy => Or.inr ⟨hc (by omega), hth, skM_row er⟩)
  · obtain ⟨f1, f2, f3, f4, f5⟩ := as_fx H1
    simp only [kh_mStorm_b39_1, Nat.reduceEqDiff, if_false, fx_env, fx_c, fx_ne, fx_hf, wl_S, Nat.zero_add, Nat.reduceAdd, Nat.reduceDiv, Nat.reduceMod, List.getElem?_cons_zero, List.getElem?_cons_succ, if_true, and_true, true_and] at f1 f2 f3 f4 f5
    have fe0 : nv β 0 = 805 := by omega
    have fe4 : nv β 4 = 4 := by omega
    have fe5 : nv β 5 = 1 := by omega
    have fe6 : nv β 6 = 2 := by omega
    have fe7 : nv β 7 = 0 := by omega
    try simp only [fe0, fe4, fe5, fe6, fe7, Int.reduceToNat] at f2 f3 f4 f5
    have s0 : nv β 0 = nv α1 0 := nv_le H1.1 (by omega)
    have s1 : nv β 1 = nv α1 1 := nv_le H1.1 (by omega)
    have s2 : nv β 2 = nv α1 2 := nv_le H1.1 (by omega)
    have s3 : nv β 3 = nv α1 3 := nv_le H1.1 (by omega)
    have c0 := f2
    obtain ⟨α', Ha, hm⟩ := hd_gpM (q := kh_mStorm_a57) (n := 0) (by decide +kernel) hx H1 (by decide +kernel) hxa hf
    have hfr := H1.2.2.2.2.2.2.2.2.2.2.1
    have m0 : nv α' 0 = nv β 0 := hm 0 0 rfl
    have m1 : nv α' 1 = nv β 1 := hm 1 1 rfl
    have m2 : nv α' 2 = nv β 2 := hm 2 2 rfl
    have hth : thM S' = 0 := by
      have hq := q_rg_in (q := ((805, 805), (8, 8, 0), (0, 0, 0, 0))) (by decide +kernel) H1 805 8 (Nat.le_refl _) (Nat.le_refl _) pg_one
      have a1 := hq.2.2.1
      have a2 := hq.2.2.2.1
      dsimp only at a1 a2
      unfold thM
      omega
    obtain ⟨p1, p2⟩ := hp
    have hc := (cn_fr (r := mrw S)).1
    refine ih.2.2.1 _ _ _ _ Ha ?_ ?_
    · exact ⟨(fr_row hfr 806 (by decide +kernel)).trans p1, hth, hc (by omega)⟩
    · omega
set_option maxHeartbeats 16000000 in
set_option maxRecDepth 8000 in
theorem kh_mStorm_h57 {l : Launch} {D : va_G} {tc : Nat → ClassId} {ad : Nat → Nat} {kd : Nat → Nat × Nat} {N : Nat} {sm : Nat → Nat} {xs : List av_X} {S : fw_S} {p : Program} {e : Env} {s : State} {m : MethodId} {args : Array Value} {below : List Frame} {meth : Method} {c : Code} {sz : Nat} {lvE : List (Nat × Value)} (G : hd_C wd_ff2 wd_fl2 kh_mStorm [kh_in4, kh_592, kh_in5, kh_588, kh_storms, kh_591, kh_590, kh_mIsStorm] kh_mStorm_y l D tc ad kd N sm xs p s m args meth c sz) (H0 : as_in ad sm wd_fl2 xs S kh_mStorm.2.2.2.2.2.1 xs (hd_0 kh_mStorm) lvE [] S) {k : Nat} (ih : kh_mStorm_I l D tc ad kd N sm xs S p e s m args below meth c sz k) : (∀ (α : List av_X) (lv : List (Nat × Value)) (st : List Value) (S1 : fw_S), as_in ad sm wd_fl2 xs S kh_mStorm.2.2.2.2.2.1 α kh_mStorm_a57.2.2.1 lv st S1 → ((S1.1 806 = S.1 806 ∧ thM S1 = 0 ∧ 0 ≤ frS (mrw S))) → 800 < k + 1 → hd_WR R_mStorm wd_fl2 kh_mStorm kh_mStorm_y l D tc ad kd N sm xs S p e s m args below meth c sz 57 lv st S1 0) := by
  have hx : xs.length = 3 := by rw [H0.2.1.1]; rfl
  intro α lv st S1 H hp hk
  obtain ⟨α1, hle, Hr⟩ := as_recM (pl := []) [] (by decide +kernel) H
  have hf := H.2.2.2.2.2.2.2.2.2.2.1
  have hl1 : α1.length = 3 := by rw [Hr.2.1.1]; rfl
  have hl0 : α.length = 3 := by rw [H.2.1.1]; rfl
  have hxa : al_le xs α1 := H.1.trans hle
  obtain ⟨g1, -, g3, g4, -⟩ := as_fx Hr
  have g0 : (805 ≤ nv α1 0 ∧ nv α1 0 ≤ 805) ∧ (0 ≤ nv α1 1 ∧ nv α1 1 ≤ 2) ∧ (1 ≤ nv α1 2 ∧ nv α1 2 ≤ 9) ∧ True := by
    refine ⟨by have h := (en_nv (i := 0) Hr.2.1 rfl).2; exact h, by have h := (en_nv (i := 1) Hr.2.1 rfl).2; exact h, by have h := (en_nv (i := 2) Hr.2.1 rfl).2; exact h, trivial⟩
  have r0 : nv α1 0 = nv α 0 := nv_le hle (by omega)
  have r1 : nv α1 1 = nv α 1 := nv_le hle (by omega)
  have r2 : nv α1 2 = nv α 2 := nv_le hle (by omega)
  refine hd_segMR G (na := 3) (fuel := 600) (first := true) (Bs := [kh_mStorm_b57_0]) (by decide +kernel) hl1 Hr ?_
  intro q hq β lv' st' S' H1
  simp only [List.mem_cons, List.not_mem_nil, or_false] at hq
  rcases hq with rfl
  · obtain ⟨f1, f2, f3, f4, f5⟩ := as_fx H1
    simp only [kh_mStorm_b57_0, Nat.reduceEqDiff, if_false, fx_env, fx_c, fx_ne, fx_hf, wl_S, Nat.zero_add, Nat.reduceAdd, Nat.reduceDiv, Nat.reduceMod, List.getElem?_cons_zero, List.getElem?_cons_succ, if_true, and_true, true_and] at f1 f2 f3 f4 f5
    have fe0 : nv β 0 = 805 := by omega
    have fe3 : nv β 3 = 0 := by omega
    try simp only [fe0, fe3, Int.reduceToNat] at f2 f3 f4 f5
    have s0 : nv β 0 = nv α1 0 := nv_le H1.1 (by omega)
    have s1 : nv β 1 = nv α1 1 := nv_le H1.1 (by omega)
    have s2 : nv β 2 = nv α1 2 := nv_le H1.1 (by omega)
    obtain ⟨α', Ha, hm⟩ := hd_gpM (q := kh_mStorm_a59) (n := 0) (by decide +kernel) hx H1 (by decide +kernel) hxa hf
    have hfr := H1.2.2.2.2.2.2.2.2.2.2.1
    have m0 : nv α' 0 = nv β 0 := hm 0 0 rfl
    have m1 : nv α' 1 = nv β 1 := hm 1 1 rfl
    have m2 : nv α' 2 = nv β 2 := hm 2 2 rfl
    have m3 : nv α' 3 = nv β 3 := hm 3 3 rfl
    have e5 : S' = S1 := f5
    obtain ⟨p1, p2, p3⟩ := hp
    refine ih.2.2.2.1 _ _ _ _ Ha ?_ ?_
    · rw [e5, m3]
      exact ⟨⟨p1, p2, p3⟩, fun k hk => by omega, by omega, by omega⟩
    · omega
set_option maxHeartbeats 16000000 in
set_option maxRecDepth 8000 in
theorem kh_mStorm_h59 {l : Launch} {D : va_G} {tc : Nat → ClassId} {ad : Nat → Nat} {kd : Nat → Nat × Nat} {N : Nat} {sm : Nat → Nat} {xs : List av_X} {S : fw_S} {p : Program} {e : Env} {s : State} {m : MethodId} {args : Array Value} {below : List Frame} {meth : Method} {c : Code} {sz : Nat} {lvE : List (Nat × Value)} (G : hd_C wd_ff2 wd_fl2 kh_mStorm [kh_in4, kh_592, kh_in5, kh_588, kh_storms, kh_591, kh_590, kh_mIsStorm] kh_mStorm_y l D tc ad kd N sm xs p s m args meth c sz) (H0 : as_in ad sm wd_fl2 xs S kh_mStorm.2.2.2.2.2.1 xs (hd_0 kh_mStorm) lvE [] S) {k : Nat} (ih : kh_mStorm_I l D tc ad kd N sm xs S p e s m args below meth c sz k) : (∀ (α : List av_X) (lv : List (Nat × Value)) (st : List Value) (S1 : fw_S), as_in ad sm wd_fl2 xs S kh_mStorm.2.2.2.2.2.1 α kh_mStorm_a59.2.2.1 lv st S1 → ((S1.1 806 = S.1 806 ∧ thM S1 = 0 ∧ 0 ≤ frS (mrw S)) ∧ (∀ k : Nat, (k : Int) < nv α 3 → mrw S k ≠ -1) ∧ (0 ≤ nv α 3 ∧ nv α 3 ≤ 3)) → (4 - nv α 3).toNat * 10 + 9 < k + 1 → hd_WR R_mStorm wd_fl2 kh_mStorm kh_mStorm_y l D tc ad kd N sm xs S p e s m args below meth c sz 59 lv st S1 0) := by
  have hx : xs.length = 3 := by rw [H0.2.1.1]; rfl
  intro α lv st S1 H hp hk
  have bp := (en_nv (i := 3) H.2.1 rfl).2
  change 0 ≤ nv α 3 ∧ nv α 3 ≤ 4 at bp
  replace H := as_clamp (i := 3) (lo := 0) (hi := 3) H rfl rfl (by exact hp.2.2.1) (by exact hp.2.2.2) (by decide)
  obtain ⟨α1, hle, Hr⟩ := as_recM (pl := []) [] (by decide +kernel) H
  have hf := H.2.2.2.2.2.2.2.2.2.2.1
  have hl1 : α1.length = 4 := by rw [Hr.2.1.1]; rfl
  have hl0 : α.length = 4 := by rw [H.2.1.1]; rfl
  have hxa : al_le xs α1 := H.1.trans hle
  obtain ⟨g1, -, g3, g4, -⟩ := as_fx Hr
  have g0 : (805 ≤ nv α1 0 ∧ nv α1 0 ≤ 805) ∧ (0 ≤ nv α1 1 ∧ nv α1 1 ≤ 2) ∧ (1 ≤ nv α1 2 ∧ nv α1 2 ≤ 9) ∧ (0 ≤ nv α1 3 ∧ nv α1 3 ≤ 3) ∧ True := by
    refine ⟨by have h := (en_nv (i := 0) Hr.2.1 rfl).2; exact h, by have h := (en_nv (i := 1) Hr.2.1 rfl).2; exact h, by have h := (en_nv (i := 2) Hr.2.1 rfl).2; exact h, by have h := (en_nv (i := 3) Hr.2.1 rfl).2; exact h, trivial⟩
  have r0 : nv α1 0 = nv α 0 := nv_le hle (by omega)
  have r1 : nv α1 1 = nv α 1 := nv_le hle (by omega)
  have r2 : nv α1 2 = nv α 2 := nv_le hle (by omega)
  have r3 : nv α1 3 = nv α 3 := nv_le hle (by omega)
  refine hd_segMR G (na := 4) (fuel := 600) (first := true) (Bs := [kh_mStorm_b59_0]) (by decide +kernel) hl1 Hr ?_
  intro q hq β lv' st' S' H1
  simp only [List.mem_cons, List.not_mem_nil, or_false] at hq
  rcases hq with rfl
  · obtain ⟨f1, f2, f3, f4, f5⟩ := as_fx H1
    simp only [kh_mStorm_b59_0, Nat.reduceEqDiff, if_false, fx_env, fx_c, fx_ne, fx_hf, wl_S, Nat.zero_add, Nat.reduceAdd, Nat.reduceDiv, Nat.reduceMod, List.getElem?_cons_zero, List.getElem?_cons_succ, if_true, and_true, true_and] at f1 f2 f3 f4 f5
    have fe0 : nv β 0 = 805 := by omega
    try simp only [fe0, Int.reduceToNat] at f2 f3 f4 f5
    have s0 : nv β 0 = nv α1 0 := nv_le H1.1 (by omega)
    have s1 : nv β 1 = nv α1 1 := nv_le H1.1 (by omega)
    have s2 : nv β 2 = nv α1 2 := nv_le H1.1 (by omega)
    have s3 : nv β 3 = nv α1 3 := nv_le H1.1 (by omega)
    obtain ⟨α', Ha, hm⟩ := hd_gpM (q := kh_mStorm_a61) (n := 0) (by decide +kernel) hx H1 (by decide +kernel) hxa hf
    have hfr := H1.2.2.2.2.2.2.2.2.2.2.1
    have m0 : nv α' 0 = nv β 0 := hm 0 0 rfl
    have m1 : nv α' 1 = nv β 1 := hm 1 1 rfl
    have m2 : nv α' 2 = nv β 2 := hm 2 2 rfl
    have m3 : nv α' 3 = nv β 3 := hm 3 3 rfl
    have m4 : nv α' 4 = nv β 3 := hm 4 3 rfl
    have e5 : S' = S1 := f5
    obtain ⟨p1, p2, p3⟩ := hp
    refine ih.2.2.2.2.1 _ _ _ _ Ha ?_ ?_
    · rw [e5, m3, m4]
      exact ⟨p1, fun k hk => p2 k (by omega), by omega, by omega⟩
    · omega
set_option maxHeartbeats 16000000 in
set_option maxRecDepth 8000 in
theorem kh_mStorm_h61 {l : Launch} {D : va_G} {tc : Nat → ClassId} {ad : Nat → Nat} {kd : Nat → Nat × Nat} {N : Nat} {sm : Nat → Nat} {xs : List av_X} {S : fw_S} {p : Program} {e : Env} {s : State} {m : MethodId} {args : Array Value} {below : List Frame} {meth : Method} {c : Code} {sz : Nat} {lvE : List (Nat × Value)} (G : hd_C wd_ff2 wd_fl2 kh_mStorm [kh_in4, kh_592, kh_in5, kh_588, kh_storms, kh_591, kh_590, kh_mIsStorm] kh_mStorm_y l D tc ad kd N sm xs p s m args meth c sz) (H0 : as_in ad sm wd_fl2 xs S kh_mStorm.2.2.2.2.2.1 xs (hd_0 kh_mStorm) lvE [] S) {k : Nat} (ih : kh_mStorm_I l D tc ad kd N sm xs S p e s m args below meth c sz k) : (∀ (α : List av_X) (lv : List (Nat × Value)) (st : List Value) (S1 : fw_S), as_in ad sm wd_fl2 xs S kh_mStorm.2.2.2.2.2.1 α kh_mStorm_a61.2.2.1 lv st S1 → ((S1.1 806 = S.1 806 ∧ thM S1 = 0 ∧ 0 ≤ frS (mrw S)) ∧ (∀ k : Nat, (k : Int) < nv α 3 → mrw S k ≠ -1) ∧ (0 ≤ nv α 3 ∧ nv α 3 ≤ 3) ∧ nv α 4 = nv α 3) → (4 - nv α 3).toNat * 10 + 8 < k + 1 → hd_WR R_mStorm wd_fl2 kh_mStorm kh_mStorm_y l D tc ad kd N sm xs S p e s m args below meth c sz 61 lv st S1 0) := by
  have hx : xs.length = 3 := by rw [H0.2.1.1]; rfl
  intro α lv st S1 H hp hk
  have bp := (en_nv (i := 3) H.2.1 rfl).2
  change 0 ≤ nv α 3 ∧ nv α 3 ≤ 3 at bp
  replace H := as_clamp (i := 3) (lo := 0) (hi := 3) H rfl rfl (by exact hp.2.2.1.1) (by exact hp.2.2.1.2) (by decide)
  obtain ⟨α1, hle, Hr⟩ := as_recM (pl := []) [] (by decide +kernel) H
  have hf := H.2.2.2.2.2.2.2.2.2.2.1
  have hl1 : α1.length = 5 := by rw [Hr.2.1.1]; rfl
  have hl0 : α.length = 5 := by rw [H.2.1.1]; rfl
  have hxa : al_le xs α1 := H.1.trans hle
  obtain ⟨g1, -, g3, g4, -⟩ := as_fx Hr
  have g0 : (805 ≤ nv α1 0 ∧ nv α1 0 ≤ 805) ∧ (0 ≤ nv α1 1 ∧ nv α1 1 ≤ 2) ∧ (1 ≤ nv α1 2 ∧ nv α1 2 ≤ 9) ∧ (0 ≤ nv α1 3 ∧ nv α1 3 ≤ 3) ∧ (0 ≤ nv α1 4 ∧ nv α1 4 ≤ 3) ∧ True := by
    refine ⟨by have h := (en_nv (i := 0) Hr.2.1 rfl).2; exact h, by have h := (en_nv (i := 1) Hr.2.1 rfl).2; exact h, by have h := (en_nv (i := 2) Hr.2.1 rfl).2; exact h, by have h := (en_nv (i := 3) Hr.2.1 rfl).2; exact h, by have h := (en_nv (i := 4) Hr.2.1 rfl).2; exact h, trivial⟩
  have r0 : nv α1 0 = nv α 0 := nv_le hle (by omega)
  have r1 : nv α1 1 = nv α 1 := nv_le hle (by omega)
  have r2 : nv α1 2 = nv α 2 := nv_le hle (by omega)
  have r3 : nv α1 3 = nv α 3 := nv_le hle (by omega)
  have r4 : nv α1 4 = nv α 4 := nv_le hle (by omega)
  refine hd_callRR (Rr := R_mIsStorm) (Rs := [kh_mIsStorm]) (idx := 926) G (List.forall_mem_cons.mpr ⟨kh_mIsStorm_okR, List.forall_mem_nil _⟩) (na := 5) (Bs := [kh_mStorm_b61_0]) (by decide +kernel) (by decide +kernel) hl1 Hr ?_
  intro q hq β lv' st' S' H1 hRx
  simp only [List.mem_cons, List.not_mem_nil, or_false] at hq
  rcases hq with rfl
  · obtain ⟨f1, f2, f3, f4, f5⟩ := as_fx H1
    simp only [kh_mStorm_b61_0, Nat.reduceEqDiff, if_false, fx_env, fx_c, fx_ne, fx_hf, wl_S, Nat.zero_add, Nat.reduceAdd, Nat.reduceDiv, Nat.reduceMod, List.getElem?_cons_zero, List.getElem?_cons_succ, if_true, and_true, true_and] at f1 f2 f3 f4 f5
    have fe0 : nv β 0 = 805 := by omega
    try simp only [fe0, Int.reduceToNat] at f2 f3 f4 f5
    have s0 : nv β 0 = nv α1 0 := nv_le H1.1 (by omega)
    have s1 : nv β 1 = nv α1 1 := nv_le H1.1 (by omega)
    have s2 : nv β 2 = nv α1 2 := nv_le H1.1 (by omega)
    have s3 : nv β 3 = nv α1 3 := nv_le H1.1 (by omega)
    have s4 : nv β 4 = nv α1 4 := nv_le H1.1 (by omega)
    obtain ⟨α', Ha, hm⟩ := hd_gpM (q := kh_mStorm_a64) (n := 0) (by decide +kernel) hx H1 (by decide +kernel) hxa hf
    have hfr := H1.2.2.2.2.2.2.2.2.2.2.1
    have m0 : nv α' 0 = nv β 0 := hm 0 0 rfl
    have m1 : nv α' 1 = nv β 1 := hm 1 1 rfl
    have m2 : nv α' 2 = nv β 2 := hm 2 2 rfl
    have m3 : nv α' 3 = nv β 3 := hm 3 3 rfl
    have m4 : nv α' 4 = nv β 5 := hm 4 5 rfl
    obtain ⟨Cc, hCc, ys, rr, hnm, hR, rest, hre⟩ := hRx
    rcases List.mem_singleton.mp hCc with rfl
    have y1 : nv ys 1 = nv α1 4 := nm_nv hnm (i := 1) (v := 4) rfl
    have e5 : S' = S1 := f5
    obtain ⟨v, v1, v2⟩ := hR
    have hv := hd_rv H1 (i := 5) rfl rfl rfl hre (Sum.inl.inj v1)
    obtain ⟨p1, p2, p3, p4⟩ := hp
    rw [hv, y1, r4, p4, mrw_row p1.1] at v2
    refine ih.2.2.2.2.2.1 _ _ _ _ Ha ?_ ?_
    · rw [e5, m3, m4, s3, r3]
      exact ⟨p1, p2, p3, v2⟩
    · omega
set_option maxHeartbeats 16000000 in
set_option maxRecDepth 8000 in
theorem kh_mStorm_h64 {l : Launch} {D : va_G} {tc : Nat → ClassId} {ad : Nat → Nat} {kd : Nat → Nat × Nat} {N : Nat} {sm : Nat → Nat} {xs : List av_X} {S : fw_S} {p : Program} {e : Env} {s : State} {m : MethodId} {args : Array Value} {below : List Frame} {meth : Method} {c : Code} {sz : Nat} {lvE : List (Nat × Value)} (G : hd_C wd_ff2 wd_fl2 kh_mStorm [kh_in4, kh_592, kh_in5, kh_588, kh_storms, kh_591, kh_590, kh_mIsStorm] kh_mStorm_y l D tc ad kd N sm xs p s m args meth c sz) (H0 : as_in ad sm wd_fl2 xs S kh_mStorm.2.2.2.2.2.1 xs (hd_0 kh_mStorm) lvE [] S) {k : Nat} (ih : kh_mStorm_I l D tc ad kd N sm xs S p e s m args below meth c sz k) : (∀ (α : List av_X) (lv : List (Nat × Value)) (st : List Value) (S1 : fw_S), as_in ad sm wd_fl2 xs S kh_mStorm.2.2.2.2.2.1 α kh_mStorm_a64.2.2.1 lv st S1 → ((S1.1 806 = S.1 806 ∧ thM S1 = 0 ∧ 0 ≤ frS (mrw S)) ∧ (∀ k : Nat, (k : Int) < nv α 3 → mrw S k ≠ -1) ∧ (0 ≤ nv α 3 ∧ nv α 3 ≤ 3) ∧ nv α 4 = b2i (¬ mrw S (nv α 3).toNat = -1)) → (4 - nv α 3).toNat * 10 + 7 < k + 1 → hd_WR R_mStorm wd_fl2 kh_mStorm kh_mStorm_y l D tc ad kd N sm xs S p e s m args below meth c sz 64 lv st S1 0) := by
  have hx : xs.length = 3 := by rw [H0.2.1.1]; rfl
  intro α lv st S1 H hp hk
  have bp := (en_nv (i := 3) H.2.1 rfl).2
  change 0 ≤ nv α 3 ∧ nv α 3 ≤ 3 at bp
  replace H := as_clamp (i := 3) (lo := 0) (hi := 3) H rfl rfl (by exact hp.2.2.1.1) (by exact hp.2.2.1.2) (by decide)
  obtain ⟨α1, hle, Hr⟩ := as_recM (pl := []) [] (by decide +kernel) H
  have hf := H.2.2.2.2.2.2.2.2.2.2.1
  have hl1 : α1.length = 5 := by rw [Hr.2.1.1]; rfl
  have hl0 : α.length = 5 := by rw [H.2.1.1]; rfl
  have hxa : al_le xs α1 := H.1.trans hle
  obtain ⟨g1, -, g3, g4, -⟩ := as_fx Hr
  have g0 : (805 ≤ nv α1 0 ∧ nv α1 0 ≤ 805) ∧ (0 ≤ nv α1 1 ∧ nv α1 1 ≤ 2) ∧ (1 ≤ nv α1 2 ∧ nv α1 2 ≤ 9) ∧ (0 ≤ nv α1 3 ∧ nv α1 3 ≤ 3) ∧ (0 ≤ nv α1 4 ∧ nv α1 4 ≤ 1) ∧ True := by
    refine ⟨by have h := (en_nv (i := 0) Hr.2.1 rfl).2; exact h, by have h := (en_nv (i := 1) Hr.2.1 rfl).2; exact h, by have h := (en_nv (i := 2) Hr.2.1 rfl).2; exact h, by have h := (en_nv (i := 3) Hr.2.1 rfl).2; exact h, by have h := (en_nv (i := 4) Hr.2.1 rfl).2; exact h, trivial⟩
  have r0 : nv α1 0 = nv α 0 := nv_le hle (by omega)
  have r1 : nv α1 1 = nv α 1 := nv_le hle (by omega)
  have r2 : nv α1 2 = nv α 2 := nv_le hle (by omega)
  have r3 : nv α1 3 = nv α 3 := nv_le hle (by omega)
  have r4 : nv α1 4 = nv α 4 := nv_le hle (by omega)
  refine hd_segMR G (na := 5) (fuel := 600) (first := true) (Bs := [kh_mStorm_b64_0, kh_mStorm_b64_1]) (by decide +kernel) hl1 Hr ?_
  intro q hq β lv' st' S' H1
  simp only [List.mem_cons, List.not_mem_nil, or_false] at hq
  rcases hq with rfl | rfl
  · obtain ⟨f1, f2, f3, f4, f5⟩ := as_fx H1
    simp only [kh_mStorm_b64_0, Nat.reduceEqDiff, if_false, fx_env, fx_c, fx_ne, fx_hf, wl_S, Nat.zero_add, Nat.reduceAdd, Nat.reduceDiv, Nat.reduceMod, List.getElem?_cons_zero, List.getElem?_cons_succ, if_true, and_true, true_and] at f1 f2 f3 f4 f5
    have fe0 : nv β 0 = 805 := by omega
    have fe4 : nv β 4 = 0 := by omega
    try simp only [fe0, fe4, Int.reduceToNat] at f2 f3 f4 f5
    have s0 : nv β 0 = nv α1 0 := nv_le H1.1 (by omega)
    have s1 : nv β 1 = nv α1 1 := nv_le H1.1 (by omega)
    have s2 : nv β 2 = nv α1 2 := nv_le H1.1 (by omega)
    have s3 : nv β 3 = nv α1 3 := nv_le H1.1 (by omega)
    have s4 : nv β 4 = nv α1 4 := nv_le H1.1 (by omega)
    obtain ⟨α', Ha, hm⟩ := hd_gpM (q := kh_mStorm_a73) (n := 0) (by decide +kernel) hx H1 (by decide +kernel) hxa hf
    have hfr := H1.2.2.2.2.2.2.2.2.2.2.1
    have m0 : nv α' 0 = nv β 0 := hm 0 0 rfl
    have m1 : nv α' 1 = nv β 1 := hm 1 1 rfl
    have m2 : nv α' 2 = nv β 2 := hm 2 2 rfl
    have m3 : nv α' 3 = nv β 3 := hm 3 3 rfl
    have e5 : S' = S1 := f5
    obtain ⟨p1, p2, p3, p4⟩ := hp
    unfold b2i at p4
    have g : mrw S (nv α 3).toNat = -1 := by
      by_cases g : mrw S (nv α 3).toNat = -1
      · exact g
      · rw [if_pos g] at p4; exfalso; omega
    have w := frS_lo (n := (nv α 3).toNat) (fun k hk => p2 k (by omega)) (by omega) g
    refine ih.2.2.2.2.2.2.1 _ _ _ _ Ha ?_ ?_
    · rw [e5, m3]
      exact ⟨p1, by omega, by omega, by omega⟩
    · omega
  · obtain ⟨f1, f2, f3, f4, f5⟩ := as_fx H1
    simp only [kh_mStorm_b64_1, Nat.reduceEqDiff, if_false, fx_env, fx_c, fx_ne, fx_hf, wl_S, Nat.zero_add, Nat.reduceAdd, Nat.reduceDiv, Nat.reduceMod, List.getElem?_cons_zero, List.getElem?_cons_succ, if_true, and_true, true_and] at f1 f2 f3 f4 f5
    have fe0 : nv β 0 = 805 := by omega
    have fe4 : nv β 4 = 1 := by omega
    try simp only [fe0, fe4, Int.reduceToNat] at f2 f3 f4 f5
    have s0 : nv β 0 = nv α1 0 := nv_le H1.1 (by omega)
    have s1 : nv β 1 = nv α1 1 := nv_le H1.1 (by omega)
    have s2 : nv β 2 = nv α1 2 := nv_le H1.1 (by omega)
    have s3 : nv β 3 = nv α1 3 := nv_le H1.1 (by omega)
    have s4 : nv β 4 = nv α1 4 := nv_le H1.1 (by omega)
    obtain ⟨α', Ha, hm⟩ := hd_gpM (q := kh_mStorm_a59) (n := 0) (by decide +kernel) hx H1 (by decide +kernel) hxa hf
    have hfr := H1.2.2.2.2.2.2.2.2.2.2.1
    have m0 : nv α' 0 = nv β 0 := hm 0 0 rfl
    have m1 : nv α' 1 = nv β 1 := hm 1 1 rfl
    have m2 : nv α' 2 = nv β 2 := hm 2 2 rfl
    have m3 : nv α' 3 = nv β 5 := hm 3 5 rfl
    have e5 : S' = S1 := f5
    obtain ⟨p1, p2, p3, p4⟩ := hp
    unfold b2i at p4
    have g : ¬ mrw S (nv α 3).toNat = -1 := fun g => by rw [if_neg (fun w => w g)] at p4; omega
    have p5 : ∀ k : Nat, (k : Int) < nv α 3 + 1 → mrw S k ≠ -1 := fun k hk => by
      by_cases e : (k : Int) = nv α 3
      · rw [show k = (nv α 3).toNat by omega]; exact g
      · exact p2 k (by omega)
    have p6 : nv α 3 + 1 ≤ 3 := by
      by_cases e : nv α 3 = 3
      · have := frS_no (r := mrw S) (fun k hk => p5 k (by omega))
        have := p1.2.2
        omega
      · omega
    refine ih.2.2.2.1 _ _ _ _ Ha ?_ ?_
    · rw [e5, m3]
      exact ⟨p1, fun k hk => p5 k (by omega), by omega, by omega⟩
    · omega
set_option maxHeartbeats 16000000 in
set_option maxRecDepth 8000 in
theorem kh_mStorm_h73 {l : Launch} {D : va_G} {tc : Nat → ClassId} {ad : Nat → Nat} {kd : Nat → Nat × Nat} {N : Nat} {sm : Nat → Nat} {xs : List av_X} {S : fw_S} {p : Program} {e : Env} {s : State} {m : MethodId} {args : Array Value} {below : List Frame} {meth : Method} {c : Code} {sz : Nat} {lvE : List (Nat × Value)} (G : hd_C wd_ff2 wd_fl2 kh_mStorm [kh_in4, kh_592, kh_in5, kh_588, kh_storms, kh_591, kh_590, kh_mIsStorm] kh_mStorm_y l D tc ad kd N sm xs p s m args meth c sz) (H0 : as_in ad sm wd_fl2 xs S kh_mStorm.2.2.2.2.2.1 xs (hd_0 kh_mStorm) lvE [] S) {k : Nat} (ih : kh_mStorm_I l D tc ad kd N sm xs S p e s m args below meth c sz k) : (∀ (α : List av_X) (lv : List (Nat × Value)) (st : List Value) (S1 : fw_S), as_in ad sm wd_fl2 xs S kh_mStorm.2.2.2.2.2.1 α kh_mStorm_a73.2.2.1 lv st S1 → ((S1.1 806 = S.1 806 ∧ thM S1 = 0 ∧ 0 ≤ frS (mrw S)) ∧ nv α 3 = frS (mrw S) ∧ (0 ≤ nv α 3 ∧ nv α 3 ≤ 3)) → 1 < k + 1 → hd_WR R_mStorm wd_fl2 kh_mStorm kh_mStorm_y l D tc ad kd N sm xs S p e s m args below meth c sz 73 lv st S1 0) := by
  have hx : xs.length = 3 := by rw [H0.2.1.1]; rfl
  intro α lv st S1 H hp hk
  have bp := (en_nv (i := 3) H.2.1 rfl).2
  change 0 ≤ nv α 3 ∧ nv α 3 ≤ 3 at bp
  replace H := as_clamp (i := 3) (lo := 0) (hi := 3) H rfl rfl (by exact hp.2.2.1) (by exact hp.2.2.2) (by decide)
  obtain ⟨α1, hle, Hr⟩ := as_recM (pl := []) [((806, 806), (500, 512, 4)), ((806, 806), (501, 513, 4)), ((806, 806), (502, 514, 4)), ((806, 806), (503, 515, 4))] (by decide +kernel) H
  have hf := H.2.2.2.2.2.2.2.2.2.2.1
  have hl1 : α1.length = 4 := by rw [Hr.2.1.1]; rfl
  have hl0 : α.length = 4 := by rw [H.2.1.1]; rfl
  have hxa : al_le xs α1 := H.1.trans hle
  obtain ⟨g1, -, g3, g4, -⟩ := as_fx Hr
  have g0 : (805 ≤ nv α1 0 ∧ nv α1 0 ≤ 805) ∧ (0 ≤ nv α1 1 ∧ nv α1 1 ≤ 2) ∧ (1 ≤ nv α1 2 ∧ nv α1 2 ≤ 9) ∧ (0 ≤ nv α1 3 ∧ nv α1 3 ≤ 3) ∧ True := by
    refine ⟨by have h := (en_nv (i := 0) Hr.2.1 rfl).2; exact h, by have h := (en_nv (i := 1) Hr.2.1 rfl).2; exact h, by have h := (en_nv (i := 2) Hr.2.1 rfl).2; exact h, by have h := (en_nv (i := 3) Hr.2.1 rfl).2; exact h, trivial⟩
  have r0 : nv α1 0 = nv α 0 := nv_le hle (by omega)
  have r1 : nv α1 1 = nv α 1 := nv_le hle (by omega)
  have r2 : nv α1 2 = nv α 2 := nv_le hle (by omega)
  have r3 : nv α1 3 = nv α 3 := nv_le hle (by omega)
  refine hd_segMR G (na := 4) (fuel := 600) (first := true) (Bs := [kh_mStorm_b73_0]) (by decide +kernel) hl1 Hr ?_
  intro q hq β lv' st' S' H1
  simp only [List.mem_cons, List.not_mem_nil, or_false] at hq
  rcases hq with rfl
  · obtain ⟨f1, f2, f3, f4, f5⟩ := as_fx H1
    simp only [kh_mStorm_b73_0, Nat.reduceEqDiff, if_false, fx_env, fx_c, fx_ne, fx_hf, wl_S, Nat.zero_add, Nat.reduceAdd, Nat.reduceDiv, Nat.reduceMod, List.getElem?_cons_zero, List.getElem?_cons_succ, if_true, and_true, true_and] at f1 f2 f3 f4 f5
    have fe0 : nv β 0 = 805 := by omega
    have fe4 : nv β 4 = 806 := by omega
    have fe5 : nv β 5 = 500 := by omega
    have fe6 : nv β 6 = 4 := by omega
    have fe9 : nv β 9 = 806 := by omega
    have fe10 : nv β 10 = 500 := by omega
    have fe11 : nv β 11 = 4 := by omega
    have fe14 : nv β 14 = 1 := by omega
    have fe16 : nv β 16 = 806 := by omega
    have fe17 : nv β 17 = 500 := by omega
    have fe18 : nv β 18 = 4 := by omega
    have fe21 : nv β 21 = 2 := by omega
    have fe23 : nv β 23 = (-1) := by omega
    have fe24 : nv β 24 = 806 := by omega
    have fe25 : nv β 25 = 500 := by omega
    have fe26 : nv β 26 = 4 := by omega
    have fe29 : nv β 29 = 3 := by omega
    have fe31 : nv β 31 = 0 := by omega
    try simp only [fe0, fe4, fe5, fe6, fe9, fe10, fe11, fe14, fe16, fe17, fe18, fe21, fe23, fe24, fe25, fe26, fe29, fe31, Int.reduceToNat] at f2 f3 f4 f5
    have s0 : nv β 0 = nv α1 0 := nv_le H1.1 (by omega)
    have s1 : nv β 1 = nv α1 1 := nv_le H1.1 (by omega)
    have s2 : nv β 2 = nv α1 2 := nv_le H1.1 (by omega)
    have s3 : nv β 3 = nv α1 3 := nv_le H1.1 (by omega)
    obtain ⟨c0, c1, c2, c3, c4, c5, c6, c7, c8, c9, c10⟩ := f2
    have z1 : nv α 1 = nv xs 1 := nv_le H.1 (by omega)
    have wA : ∀ a b : Nat, S'.1 a b = (if a = 806 ∧ b = (nv β 30).toNat then Int32.ofInt (0) else (if a = 806 ∧ b = (nv β 22).toNat then Int32.ofInt ((-1)) else (if a = 806 ∧ b = (nv β 15).toNat then Int32.ofInt (nv β 2) else (if a = 806 ∧ b = (nv β 8).toNat then Int32.ofInt (nv β 1) else (S1.1 a b))))) := fun a b => by rw [f5]; rfl
    obtain ⟨⟨p1, p2, p3⟩, p4, p5⟩ := hp
    have eM := mrw_row p1
    have hth : thM S' = 0 := by
      rw [← p2]
      unfold thM
      rw [wA, if_neg (by omega), if_neg (by omega), if_neg (by omega), if_neg (by omega)]
    exact hd_retIR G (v := 3) (by decide +kernel) (as_backM H1 (by decide +kernel) hxa hf) _ List.mem_cons_self rfl (by decide +kernel) (by decide) (fun w hw => by cases hw) (fun y hy => Or.inl ⟨p3, ⟨y, rfl, by omega⟩, hth, by
      refine skM_ext (by (try dsimp only); rw [wA]; (repeat' split) <;> first | (exfalso; omega) | rfl | (unfold skS skM; rw [p1]) | (rw [i32_of (by omega) (by omega)] <;> omega) | (unfold skS skM; rw [p1]) | omega) (by (try dsimp only); rw [wA]; (repeat' split) <;> first | (exfalso; omega) | rfl | (unfold skS skM; rw [p1]) | (rw [i32_of (by omega) (by omega)] <;> omega) | (unfold skS skM; rw [p1]) | omega) (by (try dsimp only); rw [wA]; (repeat' split) <;> first | (exfalso; omega) | rfl | (unfold skS skM; rw [p1]) | (rw [i32_of (by omega) (by omega)] <;> omega) | (unfold skS skM; rw [p1]) | omega) (fun k => ?_) (fun k => ?_)
      · show _ = if (k : Int) = frS (mrw S) then nv xs 1 else (if k < 4 then mrw S k else 0)
        rw [← p4, ← eM]
        unfold mrw
        rw [wA]
        (repeat' split) <;> first | (exfalso; omega) | rfl | (rw [i32_of (by omega) (by omega)] <;> omega) | (rw [p1]; rfl) | omega
      · show _ = if (k : Int) = frS (mrw S) then -1 else (if k < 4 then mcl S k else 0)
        have eC : mcl S k = mcl S1 k := by unfold mcl; rw [p1]
        rw [← p4, eC]
        unfold mcl
        rw [wA]
        (repeat' split) <;> first | (exfalso; omega) | rfl | (rw [i32_of (by omega) (by omega)] <;> omega) | (rw [p1]; rfl) | omega⟩)
set_option maxHeartbeats 16000000 in
set_option maxRecDepth 8000 in
theorem kh_mStorm_okR : ct_okR wd_fl2 kh_mStorm R_mStorm := ct_handR (R := R_mStorm) (ff := wd_ff2) (y := kh_mStorm_y) (Cs := [kh_in4, kh_592, kh_in5, kh_588, kh_storms, kh_591, kh_590, kh_mIsStorm]) wd_fl2_ok rfl (List.forall_mem_cons.mpr ⟨kh_in4_ok, (List.forall_mem_cons.mpr ⟨kh_592_ok, (List.forall_mem_cons.mpr ⟨kh_in5_ok, (List.forall_mem_cons.mpr ⟨kh_588_ok, (List.forall_mem_cons.mpr ⟨kh_storms_ok, (List.forall_mem_cons.mpr ⟨kh_591_ok, (List.forall_mem_cons.mpr ⟨kh_590_ok, (List.forall_mem_cons.mpr ⟨kh_mIsStorm_ok, (List.forall_mem_nil _)⟩)⟩)⟩)⟩)⟩)⟩)⟩)⟩) (by decide +kernel) (fun l D tc ad kd N sm xs S p e s m args below meth c sz lv G H0 => by
  have hx : xs.length = 3 := by rw [H0.2.1.1]; rfl
  have hP : ∀ (k : Nat), kh_mStorm_I l D tc ad kd N sm xs S p e s m args below meth c sz k := by
    intro k
    induction k with
    | zero => exact ⟨fun _ _ _ _ _ _ h => absurd h (Nat.not_lt_zero _), fun _ _ _ _ _ _ h => absurd h (Nat.not_lt_zero _), fun _ _ _ _ _ _ h => absurd h (Nat.not_lt_zero _), fun _ _ _ _ _ _ h => absurd h (Nat.not_lt_zero _), fun _ _ _ _ _ _ h => absurd h (Nat.not_lt_zero _), fun _ _ _ _ _ _ h => absurd h (Nat.not_lt_zero _), fun _ _ _ _ _ _ h => absurd h (Nat.not_lt_zero _), trivial⟩
    | succ k ih => exact ⟨kh_mStorm_h36 G H0 ih, kh_mStorm_h39 G H0 ih, kh_mStorm_h57 G H0 ih, kh_mStorm_h59 G H0 ih, kh_mStorm_h61 G H0 ih, kh_mStorm_h64 G H0 ih, kh_mStorm_h73 G H0 ih, trivial⟩
  obtain ⟨α1, hle, Hr⟩ := as_recM (pl := []) [((805, 805), (8, 8, 0))] (by decide +kernel) H0
  have hf := H0.2.2.2.2.2.2.2.2.2.2.1
  have hl1 : α1.length = 3 := by rw [Hr.2.1.1]; rfl
  have hl0 : xs.length = 3 := by rw [H0.2.1.1]; rfl
  have hxa : al_le xs α1 := H0.1.trans hle
  obtain ⟨g1, -, g3, g4, -⟩ := as_fx Hr
  have g0 : (805 ≤ nv α1 0 ∧ nv α1 0 ≤ 805) ∧ (0 ≤ nv α1 1 ∧ nv α1 1 ≤ 2) ∧ (1 ≤ nv α1 2 ∧ nv α1 2 ≤ 9) ∧ True := by
    refine ⟨by have h := (en_nv (i := 0) Hr.2.1 rfl).2; exact h, by have h := (en_nv (i := 1) Hr.2.1 rfl).2; exact h, by have h := (en_nv (i := 2) Hr.2.1 rfl).2; exact h, trivial⟩
  have r0 : nv α1 0 = nv xs 0 := nv_le hle (by omega)
  have r1 : nv α1 1 = nv xs 1 := nv_le hle (by omega)
  have r2 : nv α1 2 = nv xs 2 := nv_le hle (by omega)
  refine hd_segMR G (na := 3) (fuel := 600) (first := true) (Bs := [kh_mStorm_b0_0, kh_mStorm_b0_1, kh_mStorm_b0_2]) (by decide +kernel) hl1 Hr ?_
  intro q hq β lv' st' S' H1
  simp only [List.mem_cons, List.not_mem_nil, or_false] at hq
  rcases hq with rfl | rfl | rfl
  · obtain ⟨f1, f2, f3, f4, f5⟩ := as_fx H1
    simp only [kh_mStorm_b0_0, Nat.reduceEqDiff, if_false, fx_env, fx_c, fx_ne, fx_hf, wl_S, Nat.zero_add, Nat.reduceAdd, Nat.reduceDiv, Nat.reduceMod, List.getElem?_cons_zero, List.getElem?_cons_succ, if_true, and_true, true_and] at f1 f2 f3 f4 f5
    have fe0 : nv β 0 = 805 := by omega
    have fe3 : nv β 3 = 0 := by omega
    have fe4 : nv β 4 = 2 := by omega
    have fe5 : nv β 5 = 0 := by omega
    have fe6 : nv β 6 = 0 := by omega
    have fe7 : nv β 7 = 1 := by omega
    have fe8 : nv β 8 = 1 := by omega
    have fe9 : nv β 9 = 0 := by omega
    try simp only [fe0, fe3, fe4, fe5, fe6, fe7, fe8, fe9, Int.reduceToNat] at f2 f3 f4 f5
    have s0 : nv β 0 = nv α1 0 := nv_le H1.1 (by omega)
    have s1 : nv β 1 = nv α1 1 := nv_le H1.1 (by omega)
    have s2 : nv β 2 = nv α1 2 := nv_le H1.1 (by omega)
    have c0 := f2
    have d0 := c0
    simp only [wd_fl2, if_neg (show ¬ (wd_base1 44 = true) by decide)] at d0
    exfalso
    unfold b2i at d0
    rw [if_pos ⟨by omega, by omega⟩] at d0
    omega
  · obtain ⟨f1, f2, f3, f4, f5⟩ := as_fx H1
    simp only [kh_mStorm_b0_1, Nat.reduceEqDiff, if_false, fx_env, fx_c, fx_ne, fx_hf, wl_S, Nat.zero_add, Nat.reduceAdd, Nat.reduceDiv, Nat.reduceMod, List.getElem?_cons_zero, List.getElem?_cons_succ, if_true, and_true, true_and] at f1 f2 f3 f4 f5
    have fe0 : nv β 0 = 805 := by omega
    have fe3 : nv β 3 = 0 := by omega
    have fe4 : nv β 4 = 2 := by omega
    have fe5 : nv β 5 = 1 := by omega
    have fe6 : nv β 6 = 1 := by omega
    have fe7 : nv β 7 = 9 := by omega
    have fe8 : nv β 8 = 0 := by omega
    have fe9 : nv β 9 = 0 := by omega
    have fe10 : nv β 10 = 1 := by omega
    have fe11 : nv β 11 = 1 := by omega
    have fe12 : nv β 12 = 0 := by omega
    try simp only [fe0, fe3, fe4, fe5, fe6, fe7, fe8, fe9, fe10, fe11, fe12, Int.reduceToNat] at f2 f3 f4 f5
    have s0 : nv β 0 = nv α1 0 := nv_le H1.1 (by omega)
    have s1 : nv β 1 = nv α1 1 := nv_le H1.1 (by omega)
    have s2 : nv β 2 = nv α1 2 := nv_le H1.1 (by omega)
    obtain ⟨c0, c1⟩ := f2
    have d0 := c0
    simp only [wd_fl2, if_neg (show ¬ (wd_base1 45 = true) by decide)] at d0
    have d1 := c1
    simp only [wd_fl2, if_neg (show ¬ (wd_base1 44 = true) by decide)] at d1
    exfalso
    unfold b2i at d0
    rw [if_pos ⟨by omega, by omega⟩] at d0
    unfold b2i at d1
    rw [if_pos ⟨by omega, by omega⟩] at d1
    omega
  · obtain ⟨f1, f2, f3, f4, f5⟩ := as_fx H1
    simp only [kh_mStorm_b0_2, Nat.reduceEqDiff, if_false, fx_env, fx_c, fx_ne, fx_hf, wl_S, Nat.zero_add, Nat.reduceAdd, Nat.reduceDiv, Nat.reduceMod, List.getElem?_cons_zero, List.getElem?_cons_succ, if_true, and_true, true_and] at f1 f2 f3 f4 f5
    have fe0 : nv β 0 = 805 := by omega
    have fe3 : nv β 3 = 0 := by omega
    have fe4 : nv β 4 = 2 := by omega
    have fe5 : nv β 5 = 1 := by omega
    have fe6 : nv β 6 = 1 := by omega
    have fe7 : nv β 7 = 9 := by omega
    have fe8 : nv β 8 = 1 := by omega
    have fe9 : nv β 9 = 1 := by omega
    have fe10 : nv β 10 = 1 := by omega
    have fe11 : nv β 11 = 0 := by omega
    try simp only [fe0, fe3, fe4, fe5, fe6, fe7, fe8, fe9, fe10, fe11, Int.reduceToNat] at f2 f3 f4 f5
    have s0 : nv β 0 = nv α1 0 := nv_le H1.1 (by omega)
    have s1 : nv β 1 = nv α1 1 := nv_le H1.1 (by omega)
    have s2 : nv β 2 = nv α1 2 := nv_le H1.1 (by omega)
    obtain ⟨c0, c1⟩ := f2
    obtain ⟨α', Ha, hm⟩ := hd_gpM (q := kh_mStorm_a36) (n := 0) (by decide +kernel) hx H1 (by decide +kernel) hxa hf
    have hfr := H1.2.2.2.2.2.2.2.2.2.2.1
    have m0 : nv α' 0 = nv β 0 := hm 0 0 rfl
    have m1 : nv α' 1 = nv β 1 := hm 1 1 rfl
    have m2 : nv α' 2 = nv β 2 := hm 2 2 rfl

    refine (hP _).1 _ _ _ _ Ha ?_ (Nat.lt_succ_self _)
    · exact fr_row hfr 806 (by decide +kernel))
theorem kh_mStorm_ok : ct_ok wd_fl2 kh_mStorm := ct_okR_ok kh_mStorm_okR
