/-! ===== keep, bring ===== -/
def R_keep : List av_X → fw_S → fw_O → fw_S → Prop := fun xs S _ S' => ∀ w : Nat, w < 2 →
  ((nv xs 1 = w → (∀ j : Nat, j < 4500 → S'.1 810 (4500 * w + j) = S.1 806 j) ∧ (S'.1 812 w).toInt = 1) ∧
   (nv xs 1 ≠ w → (∀ j : Nat, j < 4500 → S'.1 810 (4500 * w + j) = S.1 810 (4500 * w + j)) ∧ S'.1 812 w = S.1 812 w))
def R_bring : List av_X → fw_S → fw_O → fw_S → Prop := fun xs S _ S' =>
  (∀ w : Nat, w < 2 → nv xs 1 = w → (S.1 812 w).toInt ≠ 0 → ∀ j : Nat, j < 4500 → S'.1 806 j = S.1 810 (4500 * w + j)) ∧
  ((∀ w : Nat, w < 2 → nv xs 1 = w → (S.1 812 w).toInt = 0) → S'.1 806 = S.1 806)
abbrev kh_keep_y : mt_T := (⟨"UtilityWorksModel", "keep", "(I)I"⟩, prog_14_method_40_code, 3, some .int, 12, 1, 1, 35181, 35179, 35180, 21014)
def kh_keep : ct_T := (531, [(2, 805, 805, 0), (0, (-2147483648), 2147483647, 1)], [], [510, 513, 514, 515], [(1, (0, 0, 999, 1), [(2, 805, 805, 0), (0, (-2147483648), 2147483647, 1)], [], ([510, 513, 514, 515], []))], [((805, 805), (8, 8, 0)), ((810, 810), (0, 8999, 1)), ((811, 811), (0, 7199, 1)), ((812, 812), (0, 1, 1))], 1, 22, 0)
def kh_keep_a18 : an_T := (18, 0, ([((2, 805, 805, 0), none), ((0, 0, 1, 1), none), ((0, 0, 9999, 1), none)], [(0, 0), (1, 1), (2, 2)], [], [], [], [], [], [510, 513, 515], none), [])
def kh_keep_a51 : an_T := (51, 0, ([((2, 805, 805, 0), none), ((0, 0, 1, 1), none), ((0, 0, 9999, 1), none)], [(0, 0), (1, 1), (2, 2)], [], [], [], [], [], [510, 513, 515], none), [])
def kh_keep_a82 : an_T := (82, 0, ([((2, 805, 805, 0), none), ((0, 0, 1, 1), none), ((0, 3600, 9999, 1), none)], [(0, 0), (1, 1), (2, 2)], [], [], [], [], [], [510, 513, 515], none), [])
def kh_keep_b0_0 : sg_T := (15, 0, ([((2, 805, 805, 0), none), ((0, (-2147483648), 2147483647, 1), none), ((0, 0, 0, 0), none), ((0, 1, 1, 0), none), ((0, 0, 0, 0), none), ((0, 1, 1, 0), none), ((0, 1, 1, 0), none), ((0, 0, 0, 0), none)], [(0, 0), (1, 1)], [7], [], [(6, 0)], [(4000004, 1, 1)], [], [510, 513, 514, 515], none))
def kh_keep_b0_1 : sg_T := (18, 0, ([((2, 805, 805, 0), none), ((0, 0, 1, 1), none), ((0, 0, 0, 0), none), ((0, 1, 1, 0), none), ((0, 1, 1, 0), none), ((0, 1, 1, 0), none), ((0, 0, 0, 0), none), ((0, 0, 0, 0), none)], [(2, 7), (0, 0), (1, 1)], [], [], [], [(4000004, 1, 1)], [], [510, 513, 514, 515], none))
def kh_keep_b18_0 : sg_T := (51, 0, ([((2, 805, 805, 0), none), ((0, 0, 1, 1), none), ((0, 4500, 9999, 1), none), ((0, 4500, 4500, 0), none), ((0, 0, 0, 0), none)], [(2, 4), (0, 0), (1, 1)], [], [], [], [(200000, 3, 2)], [], [510, 513, 515], some []))
def kh_keep_b18_1 : sg_T := (18, 0, ([((2, 805, 805, 0), none), ((0, 0, 1, 1), none), ((0, 0, 4499, 1), none), ((0, 4500, 4500, 0), none), ((2, 810, 810, 1), none), ((0, 4500, 4500, 0), none), ((0, 0, 4500, 4500), none), ((0, 0, 8999, 1), none), ((2, 806, 806, 1), none), ((0, (-2147483648), 2147483647, 1), none), ((0, 1, 4500, 1), some (2, 1))], [(2, 10), (0, 0), (1, 1)], [], [(4, 7, 9), (8, 2, 9)], [], [(800009, 8, 2), (500007, 6, 2), (700006, 5, 1), (100000, 2, 3)], [], [510, 513, 515], some [(4, 7, 9)]))
def kh_keep_b51_0 : sg_T := (82, 0, ([((2, 805, 805, 0), none), ((0, 0, 1, 1), none), ((0, 3600, 9999, 1), none), ((0, 3600, 3600, 0), none)], [(0, 0), (1, 1), (2, 2)], [], [], [], [(200000, 3, 2)], [], [510, 513, 515], some []))
def kh_keep_b51_1 : sg_T := (51, 0, ([((2, 805, 805, 0), none), ((0, 0, 1, 1), none), ((0, 0, 3599, 1), none), ((0, 3600, 3600, 0), none), ((2, 811, 811, 1), none), ((0, 3600, 3600, 0), none), ((0, 0, 3600, 3600), none), ((0, 0, 7199, 1), none), ((2, 807, 807, 1), none), ((1, (-9223372036854775808), 9223372036854775807, 1), none), ((0, 1, 3600, 1), some (2, 1))], [(2, 10), (0, 0), (1, 1)], [], [], [], [(800009, 8, 2), (500007, 6, 2), (700006, 5, 1), (100000, 2, 3)], [], [510, 513, 515], none))
def kh_keep_b82_0 : sg_T := (93, 0, ([((2, 805, 805, 0), none), ((0, 0, 1, 1), none), ((0, 3600, 9999, 1), none), ((2, 812, 812, 1), none), ((0, 1, 1, 0), none), ((0, 0, 999, 1), none)], [(0, 0), (1, 1), (2, 2)], [5], [(3, 1, 4)], [], [], [], [510, 513, 515], some [(3, 1, 4)]))
def kh_keep_I (l : Launch) (D : va_G) (tc : Nat → ClassId) (ad : Nat → Nat) (kd : Nat → Nat × Nat) (N : Nat) (sm : Nat → Nat) (xs : List av_X) (S : fw_S) (p : Program) (e : Env) (s : State) (m : MethodId) (args : Array Value) (below : List Frame) (meth : Method) (c : Code) (sz : Nat) (k : Nat) : Prop := (∀ (α : List av_X) (lv : List (Nat × Value)) (st : List Value) (S1 : fw_S), as_in ad sm wd_fl2 xs S kh_keep.2.2.2.2.2.1 α kh_keep_a18.2.2.1 lv st S1 → ((∀ j : Nat, (j : Int) < nv α 2 → S1.1 810 (4500 * (nv xs 1).toNat + j) = S.1 806 j) ∧ (∀ i : Nat, i < 4500 * (nv xs 1).toNat ∨ 4500 * (nv xs 1).toNat + 4500 ≤ i → S1.1 810 i = S.1 810 i) ∧ 0 ≤ nv xs 1 ∧ nv xs 1 ≤ 1 ∧ S1.1 812 = S.1 812) → 100000 + (4500 - nv α 2).toNat < k → hd_WR R_keep wd_fl2 kh_keep kh_keep_y l D tc ad kd N sm xs S p e s m args below meth c sz 18 lv st S1 0) ∧ (∀ (α : List av_X) (lv : List (Nat × Value)) (st : List Value) (S1 : fw_S), as_in ad sm wd_fl2 xs S kh_keep.2.2.2.2.2.1 α kh_keep_a51.2.2.1 lv st S1 → ((∀ j : Nat, (j : Int) < 4500 → S1.1 810 (4500 * (nv xs 1).toNat + j) = S.1 806 j) ∧ (∀ i : Nat, i < 4500 * (nv xs 1).toNat ∨ 4500 * (nv xs 1).toNat + 4500 ≤ i → S1.1 810 i = S.1 810 i) ∧ 0 ≤ nv xs 1 ∧ nv xs 1 ≤ 1 ∧ S1.1 812 = S.1 812) → 1 + (3600 - nv α 2).toNat < k → hd_WR R_keep wd_fl2 kh_keep kh_keep_y l D tc ad kd N sm xs S p e s m args below meth c sz 51 lv st S1 0) ∧ (∀ (α : List av_X) (lv : List (Nat × Value)) (st : List Value) (S1 : fw_S), as_in ad sm wd_fl2 xs S kh_keep.2.2.2.2.2.1 α kh_keep_a82.2.2.1 lv st S1 → ((∀ j : Nat, (j : Int) < 4500 → S1.1 810 (4500 * (nv xs 1).toNat + j) = S.1 806 j) ∧ (∀ i : Nat, i < 4500 * (nv xs 1).toNat ∨ 4500 * (nv xs 1).toNat + 4500 ≤ i → S1.1 810 i = S.1 810 i) ∧ 0 ≤ nv xs 1 ∧ nv xs 1 ≤ 1 ∧ S1.1 812 = S.1 812) → 0 < k → hd_WR R_keep wd_fl2 kh_keep kh_keep_y l D tc ad kd N sm xs S p e s m args below meth c sz 82 lv st S1 0) ∧ True
set_option maxHeartbeats 16000000 in
set_option maxRecDepth 8000 in
theorem kh_keep_h18 {l : Launch} {D : va_G} {tc : Nat → ClassId} {ad : Nat → Nat} {kd : Nat → Nat × Nat} {N : Nat} {sm : Nat → Nat} {xs : List av_X} {S : fw_S} {p : Program} {e : Env} {s : State} {m : MethodId} {args : Array Value} {below : List Frame} {meth : Method} {c : Code} {sz : Nat} {lvE : List (Nat × Value)} (G : hd_C wd_ff2 wd_fl2 kh_keep [kh_in0, kh_592, kh_588, kh_405] kh_keep_y l D tc ad kd N sm xs p s m args meth c sz) (H0 : as_in ad sm wd_fl2 xs S kh_keep.2.2.2.2.2.1 xs (hd_0 kh_keep) lvE [] S) {k : Nat} (ih : kh_keep_I l D tc ad kd N sm xs S p e s m args below meth c sz k) : (∀ (α : List av_X) (lv : List (Nat × Value)) (st : List Value) (S1 : fw_S), as_in ad sm wd_fl2 xs S kh_keep.2.2.2.2.2.1 α kh_keep_a18.2.2.1 lv st S1 → ((∀ j : Nat, (j : Int) < nv α 2 → S1.1 810 (4500 * (nv xs 1).toNat + j) = S.1 806 j) ∧ (∀ i : Nat, i < 4500 * (nv xs 1).toNat ∨ 4500 * (nv xs 1).toNat + 4500 ≤ i → S1.1 810 i = S.1 810 i) ∧ 0 ≤ nv xs 1 ∧ nv xs 1 ≤ 1 ∧ S1.1 812 = S.1 812) → 100000 + (4500 - nv α 2).toNat < k + 1 → hd_WR R_keep wd_fl2 kh_keep kh_keep_y l D tc ad kd N sm xs S p e s m args below meth c sz 18 lv st S1 0) := by
  have hx : xs.length = 2 := by rw [H0.2.1.1]; rfl
  have q510 : crewF (S.1 806) := by
    have h := H0.2.2.2.2.2.2.2.2.1 510 (by decide +kernel)
    rw [wd_fl2, if_neg (by decide)] at h
    exact h
  have q513 : stF (S.1 806) := by
    have h := H0.2.2.2.2.2.2.2.2.1 513 (by decide +kernel)
    rw [wd_fl2, if_neg (by decide)] at h
    exact h
  have q514 : imgF S := by
    have h := H0.2.2.2.2.2.2.2.2.1 514 (by decide +kernel)
    rw [wd_fl2, if_neg (by decide)] at h
    exact h
  have q515 : blF (S.1 806) 0 := by
    have h := H0.2.2.2.2.2.2.2.2.1 515 (by decide +kernel)
    rw [wd_fl2, if_neg (by decide)] at h
    exact h
  intro α lv st S1 H hp hk
  obtain ⟨α1, hle, Hr⟩ := as_recM (pl := []) [((810, 810), (0, 8999, 1))] (by decide +kernel) H
  have hf := H.2.2.2.2.2.2.2.2.2.2.1
  have hl1 : α1.length = 3 := by rw [Hr.2.1.1]; rfl
  have hl0 : α.length = 3 := by rw [H.2.1.1]; rfl
  have hxa : al_le xs α1 := H.1.trans hle
  obtain ⟨g1, -, g3, g4, -⟩ := as_fx Hr
  have g0 : (805 ≤ nv α1 0 ∧ nv α1 0 ≤ 805) ∧ (0 ≤ nv α1 1 ∧ nv α1 1 ≤ 1) ∧ (0 ≤ nv α1 2 ∧ nv α1 2 ≤ 9999) ∧ True := by
    refine ⟨by have h := (en_nv (i := 0) Hr.2.1 rfl).2; exact h, by have h := (en_nv (i := 1) Hr.2.1 rfl).2; exact h, by have h := (en_nv (i := 2) Hr.2.1 rfl).2; exact h, trivial⟩
  have r0 : nv α1 0 = nv α 0 := nv_le hle (by omega)
  have r1 : nv α1 1 = nv α 1 := nv_le hle (by omega)
  have r2 : nv α1 2 = nv α 2 := nv_le hle (by omega)
  refine hd_segMR G (na := 3) (fuel := 600) (first := true) (Bs := [kh_keep_b18_0, kh_keep_b18_1]) (by decide +kernel) hl1 Hr ?_
  intro q hq β lv' st' S' H1
  simp only [List.mem_cons, List.not_mem_nil, or_false] at hq
  rcases hq with rfl | rfl
  · obtain ⟨f1, f2, f3, f4, f5⟩ := as_fx H1
    simp only [kh_keep_b18_0, fx_env, fx_c, fx_ne, fx_hf, wl_S, Nat.zero_add, Nat.reduceAdd, Nat.reduceDiv, Nat.reduceMod, List.getElem?_cons_zero, List.getElem?_cons_succ, if_true, and_true, true_and] at f1 f2 f3 f4 f5
    have fe0 : nv β 0 = 805 := by omega
    have fe3 : nv β 3 = 4500 := by omega
    have fe4 : nv β 4 = 0 := by omega
    try simp only [fe0, fe3, fe4, Int.reduceToNat] at f2 f3 f4 f5
    have s0 : nv β 0 = nv α1 0 := nv_le H1.1 (by omega)
    have s1 : nv β 1 = nv α1 1 := nv_le H1.1 (by omega)
    have s2 : nv β 2 = nv α1 2 := nv_le H1.1 (by omega)
    have c0 := f2
    obtain ⟨α', Ha, hm⟩ := hd_gpM (q := kh_keep_a51) (n := 0) (by decide +kernel) hx H1 (by decide +kernel) hxa hf
    have hfr := H1.2.2.2.2.2.2.2.2.2.2.1
    have m0 : nv α' 0 = nv β 0 := hm 0 0 rfl
    have m1 : nv α' 1 = nv β 1 := hm 1 1 rfl
    have m2 : nv α' 2 = nv β 4 := hm 2 4 rfl
    subst S'
    refine ih.2.1 _ _ _ _ Ha ?_ ?_
    · exact ⟨fun j hj => hp.1 j (by omega), hp.2⟩
    · omega
  · obtain ⟨f1, f2, f3, f4, f5⟩ := as_fx H1
    simp only [kh_keep_b18_1, fx_env, fx_c, fx_ne, fx_hf, wl_S, Nat.zero_add, Nat.reduceAdd, Nat.reduceDiv, Nat.reduceMod, List.getElem?_cons_zero, List.getElem?_cons_succ, if_true, and_true, true_and] at f1 f2 f3 f4 f5
    have fe0 : nv β 0 = 805 := by omega
    have fe3 : nv β 3 = 4500 := by omega
    have fe4 : nv β 4 = 810 := by omega
    have fe5 : nv β 5 = 4500 := by omega
    have fe8 : nv β 8 = 806 := by omega
    try simp only [fe0, fe3, fe4, fe5, fe8, Int.reduceToNat] at f2 f3 f4 f5
    have s0 : nv β 0 = nv α1 0 := nv_le H1.1 (by omega)
    have s1 : nv β 1 = nv α1 1 := nv_le H1.1 (by omega)
    have s2 : nv β 2 = nv α1 2 := nv_le H1.1 (by omega)
    obtain ⟨c0, c1, c2, c3⟩ := f2
    obtain ⟨α', Ha, hm⟩ := hd_gpM (q := kh_keep_a18) (n := 0) (by decide +kernel) hx H1 (by decide +kernel) hxa hf
    have hfr := H1.2.2.2.2.2.2.2.2.2.2.1
    have m0 : nv α' 0 = nv β 0 := hm 0 0 rfl
    have m1 : nv α' 1 = nv β 1 := hm 1 1 rfl
    have m2 : nv α' 2 = nv β 10 := hm 2 10 rfl
    subst S'
    have o0 := old_0 c0 rfl
    have z1 : nv α 1 = nv xs 1 := nv_le H.1 (by omega)
    have e6 : S1.1 806 = S.1 806 := fr_row hf 806 (by decide +kernel)
    have hv : Int32.ofInt (nv β 9) = S1.1 806 (nv β 2).toNat := by rw [← o0, Int32.ofInt_toInt]
    have hi7 : (nv β 7).toNat = 4500 * (nv xs 1).toNat + (nv β 2).toNat := by omega
    refine ih.1 _ _ _ _ Ha ?_ ?_
    · refine ⟨fun j hj => ?_, fun i hi => ?_, hp.2.2.1, hp.2.2.2.1, (fw_i_ne (by decide)).trans hp.2.2.2.2⟩
      · rw [m2] at hj
        rw [fw_i_row]
        by_cases e : j = (nv β 2).toNat
        · rw [if_pos (by omega), hv, e6, e]
        · rw [if_neg (by omega)]; exact hp.1 j (by omega)
      · rw [fw_i_row, if_neg (by omega)]
        exact hp.2.1 i hi
    · omega
set_option maxHeartbeats 16000000 in
set_option maxRecDepth 8000 in
theorem kh_keep_h51 {l : Launch} {D : va_G} {tc : Nat → ClassId} {ad : Nat → Nat} {kd : Nat → Nat × Nat} {N : Nat} {sm : Nat → Nat} {xs : List av_X} {S : fw_S} {p : Program} {e : Env} {s : State} {m : MethodId} {args : Array Value} {below : List Frame} {meth : Method} {c : Code} {sz : Nat} {lvE : List (Nat × Value)} (G : hd_C wd_ff2 wd_fl2 kh_keep [kh_in0, kh_592, kh_588, kh_405] kh_keep_y l D tc ad kd N sm xs p s m args meth c sz) (H0 : as_in ad sm wd_fl2 xs S kh_keep.2.2.2.2.2.1 xs (hd_0 kh_keep) lvE [] S) {k : Nat} (ih : kh_keep_I l D tc ad kd N sm xs S p e s m args below meth c sz k) : (∀ (α : List av_X) (lv : List (Nat × Value)) (st : List Value) (S1 : fw_S), as_in ad sm wd_fl2 xs S kh_keep.2.2.2.2.2.1 α kh_keep_a51.2.2.1 lv st S1 → ((∀ j : Nat, (j : Int) < 4500 → S1.1 810 (4500 * (nv xs 1).toNat + j) = S.1 806 j) ∧ (∀ i : Nat, i < 4500 * (nv xs 1).toNat ∨ 4500 * (nv xs 1).toNat + 4500 ≤ i → S1.1 810 i = S.1 810 i) ∧ 0 ≤ nv xs 1 ∧ nv xs 1 ≤ 1 ∧ S1.1 812 = S.1 812) → 1 + (3600 - nv α 2).toNat < k + 1 → hd_WR R_keep wd_fl2 kh_keep kh_keep_y l D tc ad kd N sm xs S p e s m args below meth c sz 51 lv st S1 0) := by
  have hx : xs.length = 2 := by rw [H0.2.1.1]; rfl
  have q510 : crewF (S.1 806) := by
    have h := H0.2.2.2.2.2.2.2.2.1 510 (by decide +kernel)
    rw [wd_fl2, if_neg (by decide)] at h
    exact h
  have q513 : stF (S.1 806) := by
    have h := H0.2.2.2.2.2.2.2.2.1 513 (by decide +kernel)
    rw [wd_fl2, if_neg (by decide)] at h
    exact h
  have q514 : imgF S := by
    have h := H0.2.2.2.2.2.2.2.2.1 514 (by decide +kernel)
    rw [wd_fl2, if_neg (by decide)] at h
    exact h
  have q515 : blF (S.1 806) 0 := by
    have h := H0.2.2.2.2.2.2.2.2.1 515 (by decide +kernel)
    rw [wd_fl2, if_neg (by decide)] at h
    exact h
  intro α lv st S1 H hp hk
  obtain ⟨α1, hle, Hr⟩ := as_recM (pl := []) [((811, 811), (0, 7199, 1))] (by decide +kernel) H
  have hf := H.2.2.2.2.2.2.2.2.2.2.1
  have hl1 : α1.length = 3 := by rw [Hr.2.1.1]; rfl
  have hl0 : α.length = 3 := by rw [H.2.1.1]; rfl
  have hxa : al_le xs α1 := H.1.trans hle
  obtain ⟨g1, -, g3, g4, -⟩ := as_fx Hr
  have g0 : (805 ≤ nv α1 0 ∧ nv α1 0 ≤ 805) ∧ (0 ≤ nv α1 1 ∧ nv α1 1 ≤ 1) ∧ (0 ≤ nv α1 2 ∧ nv α1 2 ≤ 9999) ∧ True := by
    refine ⟨by have h := (en_nv (i := 0) Hr.2.1 rfl).2; exact h, by have h := (en_nv (i := 1) Hr.2.1 rfl).2; exact h, by have h := (en_nv (i := 2) Hr.2.1 rfl).2; exact h, trivial⟩
  have r0 : nv α1 0 = nv α 0 := nv_le hle (by omega)
  have r1 : nv α1 1 = nv α 1 := nv_le hle (by omega)
  have r2 : nv α1 2 = nv α 2 := nv_le hle (by omega)
  refine hd_segMR G (na := 3) (fuel := 600) (first := true) (Bs := [kh_keep_b51_0, kh_keep_b51_1]) (by decide +kernel) hl1 Hr ?_
  intro q hq β lv' st' S' H1
  simp only [List.mem_cons, List.not_mem_nil, or_false] at hq
  rcases hq with rfl | rfl
  · obtain ⟨f1, f2, f3, f4, f5⟩ := as_fx H1
    simp only [kh_keep_b51_0, fx_env, fx_c, fx_ne, fx_hf, wl_S, Nat.zero_add, Nat.reduceAdd, Nat.reduceDiv, Nat.reduceMod, List.getElem?_cons_zero, List.getElem?_cons_succ, if_true, and_true, true_and] at f1 f2 f3 f4 f5
    have fe0 : nv β 0 = 805 := by omega
    have fe3 : nv β 3 = 3600 := by omega
    try simp only [fe0, fe3, Int.reduceToNat] at f2 f3 f4 f5
    have s0 : nv β 0 = nv α1 0 := nv_le H1.1 (by omega)
    have s1 : nv β 1 = nv α1 1 := nv_le H1.1 (by omega)
    have s2 : nv β 2 = nv α1 2 := nv_le H1.1 (by omega)
    have c0 := f2
    obtain ⟨α', Ha, hm⟩ := hd_gpM (q := kh_keep_a82) (n := 0) (by decide +kernel) hx H1 (by decide +kernel) hxa hf
    have hfr := H1.2.2.2.2.2.2.2.2.2.2.1
    have m0 : nv α' 0 = nv β 0 := hm 0 0 rfl
    have m1 : nv α' 1 = nv β 1 := hm 1 1 rfl
    have m2 : nv α' 2 = nv β 2 := hm 2 2 rfl
    subst S'
    refine ih.2.2.1 _ _ _ _ Ha ?_ ?_
    · exact hp
    · omega
  · obtain ⟨f1, f2, f3, f4, f5⟩ := as_fx H1
    simp only [kh_keep_b51_1, fx_env, fx_c, fx_ne, fx_hf, wl_S, Nat.zero_add, Nat.reduceAdd, Nat.reduceDiv, Nat.reduceMod, List.getElem?_cons_zero, List.getElem?_cons_succ, if_true, and_true, true_and] at f1 f2 f3 f4 f5
    have fe0 : nv β 0 = 805 := by omega
    have fe3 : nv β 3 = 3600 := by omega
    have fe4 : nv β 4 = 811 := by omega
    have fe5 : nv β 5 = 3600 := by omega
    have fe8 : nv β 8 = 807 := by omega
    try simp only [fe0, fe3, fe4, fe5, fe8, Int.reduceToNat] at f2 f3 f4 f5
    have s0 : nv β 0 = nv α1 0 := nv_le H1.1 (by omega)
    have s1 : nv β 1 = nv α1 1 := nv_le H1.1 (by omega)
    have s2 : nv β 2 = nv α1 2 := nv_le H1.1 (by omega)
    obtain ⟨c0, c1, c2, c3⟩ := f2
    obtain ⟨α', Ha, hm⟩ := hd_gpM (q := kh_keep_a51) (n := 0) (by decide +kernel) hx H1 (by decide +kernel) hxa hf
    have hfr := H1.2.2.2.2.2.2.2.2.2.2.1
    have m0 : nv α' 0 = nv β 0 := hm 0 0 rfl
    have m1 : nv α' 1 = nv β 1 := hm 1 1 rfl
    have m2 : nv α' 2 = nv β 10 := hm 2 10 rfl
    have e12' := fr_row hfr 812 (by decide +kernel)
    have e10 := fr_row hfr 810 (by decide +kernel)
    refine ih.2.1 _ _ _ _ Ha ?_ ?_
    · rw [e10, e12']; exact hp
    · omega
set_option maxHeartbeats 16000000 in
set_option maxRecDepth 8000 in
theorem kh_keep_h82 {l : Launch} {D : va_G} {tc : Nat → ClassId} {ad : Nat → Nat} {kd : Nat → Nat × Nat} {N : Nat} {sm : Nat → Nat} {xs : List av_X} {S : fw_S} {p : Program} {e : Env} {s : State} {m : MethodId} {args : Array Value} {below : List Frame} {meth : Method} {c : Code} {sz : Nat} {lvE : List (Nat × Value)} (G : hd_C wd_ff2 wd_fl2 kh_keep [kh_in0, kh_592, kh_588, kh_405] kh_keep_y l D tc ad kd N sm xs p s m args meth c sz) (H0 : as_in ad sm wd_fl2 xs S kh_keep.2.2.2.2.2.1 xs (hd_0 kh_keep) lvE [] S) {k : Nat} (ih : kh_keep_I l D tc ad kd N sm xs S p e s m args below meth c sz k) : (∀ (α : List av_X) (lv : List (Nat × Value)) (st : List Value) (S1 : fw_S), as_in ad sm wd_fl2 xs S kh_keep.2.2.2.2.2.1 α kh_keep_a82.2.2.1 lv st S1 → ((∀ j : Nat, (j : Int) < 4500 → S1.1 810 (4500 * (nv xs 1).toNat + j) = S.1 806 j) ∧ (∀ i : Nat, i < 4500 * (nv xs 1).toNat ∨ 4500 * (nv xs 1).toNat + 4500 ≤ i → S1.1 810 i = S.1 810 i) ∧ 0 ≤ nv xs 1 ∧ nv xs 1 ≤ 1 ∧ S1.1 812 = S.1 812) → 0 < k + 1 → hd_WR R_keep wd_fl2 kh_keep kh_keep_y l D tc ad kd N sm xs S p e s m args below meth c sz 82 lv st S1 0) := by
  have hx : xs.length = 2 := by rw [H0.2.1.1]; rfl
  have q510 : crewF (S.1 806) := by
    have h := H0.2.2.2.2.2.2.2.2.1 510 (by decide +kernel)
    rw [wd_fl2, if_neg (by decide)] at h
    exact h
  have q513 : stF (S.1 806) := by
    have h := H0.2.2.2.2.2.2.2.2.1 513 (by decide +kernel)
    rw [wd_fl2, if_neg (by decide)] at h
    exact h
  have q514 : imgF S := by
    have h := H0.2.2.2.2.2.2.2.2.1 514 (by decide +kernel)
    rw [wd_fl2, if_neg (by decide)] at h
    exact h
  have q515 : blF (S.1 806) 0 := by
    have h := H0.2.2.2.2.2.2.2.2.1 515 (by decide +kernel)
    rw [wd_fl2, if_neg (by decide)] at h
    exact h
  intro α lv st S1 H hp hk
  obtain ⟨α1, hle, Hr⟩ := as_recM (pl := []) [((812, 812), (0, 1, 1))] (by decide +kernel) H
  have hf := H.2.2.2.2.2.2.2.2.2.2.1
  have hl1 : α1.length = 3 := by rw [Hr.2.1.1]; rfl
  have hl0 : α.length = 3 := by rw [H.2.1.1]; rfl
  have hxa : al_le xs α1 := H.1.trans hle
  obtain ⟨g1, -, g3, g4, -⟩ := as_fx Hr
  have g0 : (805 ≤ nv α1 0 ∧ nv α1 0 ≤ 805) ∧ (0 ≤ nv α1 1 ∧ nv α1 1 ≤ 1) ∧ (3600 ≤ nv α1 2 ∧ nv α1 2 ≤ 9999) ∧ True := by
    refine ⟨by have h := (en_nv (i := 0) Hr.2.1 rfl).2; exact h, by have h := (en_nv (i := 1) Hr.2.1 rfl).2; exact h, by have h := (en_nv (i := 2) Hr.2.1 rfl).2; exact h, trivial⟩
  have r0 : nv α1 0 = nv α 0 := nv_le hle (by omega)
  have r1 : nv α1 1 = nv α 1 := nv_le hle (by omega)
  have r2 : nv α1 2 = nv α 2 := nv_le hle (by omega)
  refine hd_segMR G (na := 3) (fuel := 600) (first := true) (Bs := [kh_keep_b82_0]) (by decide +kernel) hl1 Hr ?_
  intro q hq β lv' st' S' H1
  simp only [List.mem_cons, List.not_mem_nil, or_false] at hq
  rcases hq with rfl
  · obtain ⟨f1, f2, f3, f4, f5⟩ := as_fx H1
    simp only [kh_keep_b82_0, fx_env, fx_c, fx_ne, fx_hf, wl_S, Nat.zero_add, Nat.reduceAdd, Nat.reduceDiv, Nat.reduceMod, List.getElem?_cons_zero, List.getElem?_cons_succ, if_true, and_true, true_and] at f1 f2 f3 f4 f5
    have fe0 : nv β 0 = 805 := by omega
    have fe3 : nv β 3 = 812 := by omega
    have fe4 : nv β 4 = 1 := by omega
    try simp only [fe0, fe3, fe4, Int.reduceToNat] at f2 f3 f4 f5
    have s0 : nv β 0 = nv α1 0 := nv_le H1.1 (by omega)
    have s1 : nv β 1 = nv α1 1 := nv_le H1.1 (by omega)
    have s2 : nv β 2 = nv α1 2 := nv_le H1.1 (by omega)
    have z1 : nv α 1 = nv xs 1 := nv_le H.1 (by omega)
    have e6 : S1.1 806 = S.1 806 := fr_row hf 806 (by decide +kernel)
    obtain ⟨p1, p2, p3, p4, e12⟩ := hp
    have hi : (nv β 1).toNat = (nv xs 1).toNat := by omega
    have e10 : S'.1 810 = S1.1 810 := by rw [f5]; exact fw_i_ne (by decide)
    have g0 := gi_gd H0.2.2.2.2.2.2.2.2.2.1 q510 q513 q515
    have kw : ∀ w : Nat, (S'.1 812 w) = if w = (nv xs 1).toNat then Int32.ofInt 1 else S.1 812 w := fun w => by rw [f5, fw_i_row, hi, e12]
    have hR : R_keep xs S (.inl none) S' := by
      intro w hw
      refine ⟨fun e => ⟨fun j hj => ?_, ?_⟩, fun e => ⟨fun j hj => ?_, ?_⟩⟩
      · rw [e10, show w = (nv xs 1).toNat by omega]; exact p1 j (by omega)
      · rw [kw, if_pos (by omega)]; decide
      · rw [e10]; exact p2 _ (by omega)
      · rw [kw, if_neg (by omega)]
    have hI : imgF S' := by
      intro w hw hk1
      obtain ⟨r1, r2⟩ := hR w hw
      by_cases e : nv xs 1 = w
      · exact gdF_eq (fun j hj => (r1 e).1 j hj) g0
      · rw [(r2 e).2] at hk1
        exact gdF_eq (fun j hj => (r2 e).1 j hj) (q514 w hw hk1)
    exact hd_retIR G (v := 5) (by decide +kernel) (as_fl_in (f := [514]) (as_backM H1 (by decide +kernel) hxa hf) (fun g hg => by
      rcases List.mem_singleton.mp hg with rfl
      rw [wd_fl2, if_neg (by decide)]; exact hI)) _ List.mem_cons_self rfl (by decide +kernel) (by decide) (fun w hw => by cases hw) (fun x hx => hR)
set_option maxHeartbeats 16000000 in
set_option maxRecDepth 8000 in
theorem kh_keep_okR : ct_okR wd_fl2 kh_keep R_keep := ct_handR (R := R_keep) (ff := wd_ff2) (y := kh_keep_y) (Cs := [kh_in0, kh_592, kh_588, kh_405]) wd_fl2_ok rfl (List.forall_mem_cons.mpr ⟨kh_in0_ok, (List.forall_mem_cons.mpr ⟨kh_592_ok, (List.forall_mem_cons.mpr ⟨kh_588_ok, (List.forall_mem_cons.mpr ⟨kh_405_l2, (List.forall_mem_nil _)⟩)⟩)⟩)⟩) (by decide +kernel) (fun l D tc ad kd N sm xs S p e s m args below meth c sz lv G H0 => by
  have hx : xs.length = 2 := by rw [H0.2.1.1]; rfl
  have q510 : crewF (S.1 806) := by
    have h := H0.2.2.2.2.2.2.2.2.1 510 (by decide +kernel)
    rw [wd_fl2, if_neg (by decide)] at h
    exact h
  have q513 : stF (S.1 806) := by
    have h := H0.2.2.2.2.2.2.2.2.1 513 (by decide +kernel)
    rw [wd_fl2, if_neg (by decide)] at h
    exact h
  have q514 : imgF S := by
    have h := H0.2.2.2.2.2.2.2.2.1 514 (by decide +kernel)
    rw [wd_fl2, if_neg (by decide)] at h
    exact h
  have q515 : blF (S.1 806) 0 := by
    have h := H0.2.2.2.2.2.2.2.2.1 515 (by decide +kernel)
    rw [wd_fl2, if_neg (by decide)] at h
    exact h
  have hP : ∀ (k : Nat), kh_keep_I l D tc ad kd N sm xs S p e s m args below meth c sz k := by
    intro k
    induction k with
    | zero => exact ⟨fun _ _ _ _ _ _ h => absurd h (Nat.not_lt_zero _), fun _ _ _ _ _ _ h => absurd h (Nat.not_lt_zero _), fun _ _ _ _ _ _ h => absurd h (Nat.not_lt_zero _), trivial⟩
    | succ k ih => exact ⟨kh_keep_h18 G H0 ih, kh_keep_h51 G H0 ih, kh_keep_h82 G H0 ih, trivial⟩
  obtain ⟨α1, hle, Hr⟩ := as_recM (pl := []) [((805, 805), (8, 8, 0))] (by decide +kernel) H0
  have hf := H0.2.2.2.2.2.2.2.2.2.2.1
  have hl1 : α1.length = 2 := by rw [Hr.2.1.1]; rfl
  have hl0 : xs.length = 2 := by rw [H0.2.1.1]; rfl
  have hxa : al_le xs α1 := H0.1.trans hle
  obtain ⟨g1, -, g3, g4, -⟩ := as_fx Hr
  have g0 : (805 ≤ nv α1 0 ∧ nv α1 0 ≤ 805) ∧ ((-2147483648) ≤ nv α1 1 ∧ nv α1 1 ≤ 2147483647) ∧ True := by
    refine ⟨by have h := (en_nv (i := 0) Hr.2.1 rfl).2; exact h, by have h := (en_nv (i := 1) Hr.2.1 rfl).2; exact h, trivial⟩
  have r0 : nv α1 0 = nv xs 0 := nv_le hle (by omega)
  have r1 : nv α1 1 = nv xs 1 := nv_le hle (by omega)
  refine hd_segMR G (na := 2) (fuel := 600) (first := true) (Bs := [kh_keep_b0_0, kh_keep_b0_1]) (by decide +kernel) hl1 Hr ?_
  intro q hq β lv' st' S' H1
  simp only [List.mem_cons, List.not_mem_nil, or_false] at hq
  rcases hq with rfl | rfl
  · obtain ⟨f1, f2, f3, f4, f5⟩ := as_fx H1
    simp only [kh_keep_b0_0, fx_env, fx_c, fx_ne, fx_hf, wl_S, Nat.zero_add, Nat.reduceAdd, Nat.reduceDiv, Nat.reduceMod, List.getElem?_cons_zero, List.getElem?_cons_succ, if_true, and_true, true_and] at f1 f2 f3 f4 f5
    have fe0 : nv β 0 = 805 := by omega
    have fe2 : nv β 2 = 0 := by omega
    have fe3 : nv β 3 = 1 := by omega
    have fe4 : nv β 4 = 0 := by omega
    have fe5 : nv β 5 = 1 := by omega
    have fe6 : nv β 6 = 1 := by omega
    have fe7 : nv β 7 = 0 := by omega
    try simp only [fe0, fe2, fe3, fe4, fe5, fe6, fe7, Int.reduceToNat] at f2 f3 f4 f5
    have s0 : nv β 0 = nv α1 0 := nv_le H1.1 (by omega)
    have s1 : nv β 1 = nv α1 1 := nv_le H1.1 (by omega)
    have c0 := f2
    have d0 := c0
    simp only [wd_fl2, if_neg (show ¬ (wd_base1 40 = true) by decide)] at d0
    have e10 : S'.1 810 = S.1 810 := fr_row H1.2.2.2.2.2.2.2.2.2.2.1 810 (by decide +kernel)
    have e12 : S'.1 812 = S.1 812 := fr_row H1.2.2.2.2.2.2.2.2.2.2.1 812 (by decide +kernel)
    exact hd_retIR G (v := 7) (by decide +kernel) (as_backM H1 (by decide +kernel) hxa hf) _ List.mem_cons_self rfl (by decide +kernel) (by decide) (fun w hw => by cases hw) (fun x hx w hw => ⟨fun hn => by exfalso; unfold b2i at d0; split at d0 <;> omega, fun _ => by rw [e10, e12]; exact ⟨fun j _ => rfl, rfl⟩⟩)
  · obtain ⟨f1, f2, f3, f4, f5⟩ := as_fx H1
    simp only [kh_keep_b0_1, fx_env, fx_c, fx_ne, fx_hf, wl_S, Nat.zero_add, Nat.reduceAdd, Nat.reduceDiv, Nat.reduceMod, List.getElem?_cons_zero, List.getElem?_cons_succ, if_true, and_true, true_and] at f1 f2 f3 f4 f5
    have fe0 : nv β 0 = 805 := by omega
    have fe2 : nv β 2 = 0 := by omega
    have fe3 : nv β 3 = 1 := by omega
    have fe4 : nv β 4 = 1 := by omega
    have fe5 : nv β 5 = 1 := by omega
    have fe6 : nv β 6 = 0 := by omega
    have fe7 : nv β 7 = 0 := by omega
    try simp only [fe0, fe2, fe3, fe4, fe5, fe6, fe7, Int.reduceToNat] at f2 f3 f4 f5
    have s0 : nv β 0 = nv α1 0 := nv_le H1.1 (by omega)
    have s1 : nv β 1 = nv α1 1 := nv_le H1.1 (by omega)
    have c0 := f2
    obtain ⟨α', Ha, hm⟩ := hd_gpM (q := kh_keep_a18) (n := 0) (by decide +kernel) hx H1 (by decide +kernel) hxa hf
    have hfr := H1.2.2.2.2.2.2.2.2.2.2.1
    have m0 : nv α' 0 = nv β 0 := hm 0 0 rfl
    have m1 : nv α' 1 = nv β 1 := hm 1 1 rfl
    have m2 : nv α' 2 = nv β 7 := hm 2 7 rfl
    have e10 : S'.1 810 = S.1 810 := fr_row hfr 810 (by decide +kernel)
    have e12 : S'.1 812 = S.1 812 := fr_row hfr 812 (by decide +kernel)
    refine (hP _).1 _ _ _ _ Ha ?_ (Nat.lt_succ_self _)
    · exact ⟨fun j hj => by rw [m2] at hj; omega, fun i hi => by rw [e10], by omega, by omega, e12⟩)
theorem kh_keep_ok : ct_ok wd_fl2 kh_keep := ct_okR_ok kh_keep_okR
def R_fails : List av_X → fw_S → fw_O → fw_S → Prop := fun xs _ oc _ => ∃ v : Int32, oc = .inl (some (.int v)) ∧ (v.toInt = 0 → nv xs 1 ≠ 0) ∧ (v.toInt ≠ 0 → nv xs 1 = 0)
abbrev kh_failsK_y : mt_T := (⟨"UtilityWorksModel", "fails", "(ZI)Z"⟩, prog_14_method_3_code, 3, some .boolean, 12, 1, 2, 32199, 32198, 5003, 21014)
def kh_failsK : ct_T := (355, [(2, 805, 805, 0), (0, (-2147483648), 2147483647, 1), (0, 2, 2, 0)], [], [], [(1, (0, 0, 1, 1), [(2, 805, 805, 0), (0, (-2147483648), 2147483647, 1), (0, 2, 2, 0)], [], ([], []))], [((805, 805), (8, 8, 0))], 0, 0, 0)
def kh_failsK_b0_0 : sg_T := (22, 0, ([((2, 805, 805, 0), none), ((0, 0, 0, 1), none), ((0, 2, 2, 0), none), ((0, 8, 8, 0), none), ((0, 1, 1, 0), none)], [(0, 0), (1, 1), (2, 2)], [4], [(0, 3, 2)], [], [], [], [], some [(0, 3, 2)]))
def kh_failsK_b0_1 : sg_T := (22, 0, ([((2, 805, 805, 0), none), ((0, (-2147483648), 2147483647, 1), none), ((0, 2, 2, 0), none), ((0, 0, 0, 0), none), ((0, 8, 8, 0), none), ((0, 0, 0, 0), none)], [(0, 0), (1, 1), (2, 2)], [5], [(0, 4, 3)], [(1, 0)], [], [], [], some [(0, 4, 3)]))
set_option maxHeartbeats 16000000 in
set_option maxRecDepth 8000 in
theorem kh_failsK_okR : ct_okR wd_fl2 kh_failsK R_fails := ct_handR (R := R_fails) (ff := wd_ff2) (y := kh_failsK_y) (Cs := []) wd_fl2_ok rfl (List.forall_mem_nil _) (by decide +kernel) (fun l D tc ad kd N sm xs S p e s m args below meth c sz lv G H0 => by
  have hx : xs.length = 3 := by rw [H0.2.1.1]; rfl
  obtain ⟨α1, hle, Hr⟩ := as_recM (pl := []) [((805, 805), (8, 8, 0))] (by decide +kernel) H0
  have hf := H0.2.2.2.2.2.2.2.2.2.2.1
  have hl1 : α1.length = 3 := by rw [Hr.2.1.1]; rfl
  have hl0 : xs.length = 3 := by rw [H0.2.1.1]; rfl
  have hxa : al_le xs α1 := H0.1.trans hle
  obtain ⟨g1, -, g3, g4, -⟩ := as_fx Hr
  have g0 : (805 ≤ nv α1 0 ∧ nv α1 0 ≤ 805) ∧ ((-2147483648) ≤ nv α1 1 ∧ nv α1 1 ≤ 2147483647) ∧ (2 ≤ nv α1 2 ∧ nv α1 2 ≤ 2) ∧ True := by
    refine ⟨by have h := (en_nv (i := 0) Hr.2.1 rfl).2; exact h, by have h := (en_nv (i := 1) Hr.2.1 rfl).2; exact h, by have h := (en_nv (i := 2) Hr.2.1 rfl).2; exact h, trivial⟩
  have r0 : nv α1 0 = nv xs 0 := nv_le hle (by omega)
  have r1 : nv α1 1 = nv xs 1 := nv_le hle (by omega)
  have r2 : nv α1 2 = nv xs 2 := nv_le hle (by omega)
  refine hd_segMR G (na := 3) (fuel := 600) (first := true) (Bs := [kh_failsK_b0_0, kh_failsK_b0_1]) (by decide +kernel) hl1 Hr ?_
  intro q hq β lv' st' S' H1
  simp only [List.mem_cons, List.not_mem_nil, or_false] at hq
  rcases hq with rfl | rfl
  · obtain ⟨f1, f2, f3, f4, f5⟩ := as_fx H1
    simp only [kh_failsK_b0_0, fx_env, fx_c, fx_ne, fx_hf, wl_S, Nat.zero_add, Nat.reduceAdd, Nat.reduceDiv, Nat.reduceMod, List.getElem?_cons_zero, List.getElem?_cons_succ, if_true, and_true, true_and] at f1 f2 f3 f4 f5
    have fe0 : nv β 0 = 805 := by omega
    have fe1 : nv β 1 = 0 := by omega
    have fe2 : nv β 2 = 2 := by omega
    have fe3 : nv β 3 = 8 := by omega
    have fe4 : nv β 4 = 1 := by omega
    try simp only [fe0, fe1, fe2, fe3, fe4, Int.reduceToNat] at f2 f3 f4 f5
    have s0 : nv β 0 = nv α1 0 := nv_le H1.1 (by omega)
    have s1 : nv β 1 = nv α1 1 := nv_le H1.1 (by omega)
    have s2 : nv β 2 = nv α1 2 := nv_le H1.1 (by omega)
    exact hd_retIR G (v := 4) (by decide +kernel) (as_backM H1 (by decide +kernel) hxa hf) _ List.mem_cons_self rfl (by decide +kernel) (by decide) (fun w hw => by cases hw) (fun x hx => ⟨x, rfl, fun h0 => by omega, fun h0 => by omega⟩)
  · obtain ⟨f1, f2, f3, f4, f5⟩ := as_fx H1
    simp only [kh_failsK_b0_1, fx_env, fx_c, fx_ne, fx_hf, wl_S, Nat.zero_add, Nat.reduceAdd, Nat.reduceDiv, Nat.reduceMod, List.getElem?_cons_zero, List.getElem?_cons_succ, if_true, and_true, true_and] at f1 f2 f3 f4 f5
    have fe0 : nv β 0 = 805 := by omega
    have fe2 : nv β 2 = 2 := by omega
    have fe3 : nv β 3 = 0 := by omega
    have fe4 : nv β 4 = 8 := by omega
    have fe5 : nv β 5 = 0 := by omega
    try simp only [fe0, fe2, fe3, fe4, fe5, Int.reduceToNat] at f2 f3 f4 f5
    have s0 : nv β 0 = nv α1 0 := nv_le H1.1 (by omega)
    have s1 : nv β 1 = nv α1 1 := nv_le H1.1 (by omega)
    have s2 : nv β 2 = nv α1 2 := nv_le H1.1 (by omega)
    exact hd_retIR G (v := 5) (by decide +kernel) (as_backM H1 (by decide +kernel) hxa hf) _ List.mem_cons_self rfl (by decide +kernel) (by decide) (fun w hw => by cases hw) (fun x hx => ⟨x, rfl, fun h0 => by omega, fun h0 => by omega⟩))
theorem kh_failsK_ok : ct_ok wd_fl2 kh_failsK := ct_okR_ok kh_failsK_okR
abbrev kh_bring_y : mt_T := (⟨"UtilityWorksModel", "bring", "(I)I"⟩, prog_14_method_41_code, 3, some .int, 12, 1, 1, 35185, 35183, 35184, 21014)
def kh_bring : ct_T := (532, [(2, 805, 805, 0), (0, (-2147483648), 2147483647, 1)], [], [510, 513, 514, 515], [(1, (0, 0, 999, 1), [(2, 805, 805, 0), (0, (-2147483648), 2147483647, 1)], [], ([510, 513, 514, 515], []))], [((805, 805), (8, 8, 0)), ((806, 806), (0, 4499, 1)), ((807, 807), (0, 3599, 1))], 1, 22, 0)
def kh_bring_a16 : an_T := (16, 0, ([((2, 805, 805, 0), none), ((0, 0, 1, 1), none)], [(0, 0), (1, 1)], [], [], [], [], [], [510, 513, 514, 515], none), [])
def kh_bring_a24 : an_T := (24, 0, ([((2, 805, 805, 0), none), ((0, 0, 1, 1), none), ((0, 2, 2, 0), none), ((0, (-2147483648), 2147483647, 1), none)], [(0, 0), (1, 1)], [2, 3, 0], [], [], [], [], [510, 513, 514, 515], none), [])
def kh_bring_a27 : an_T := (27, 0, ([((2, 805, 805, 0), none), ((0, 0, 1, 1), none), ((0, 0, 1, 1), none)], [(0, 0), (1, 1)], [2], [], [], [], [], [510, 513, 514, 515], none), [])
def kh_bring_a34 : an_T := (34, 0, ([((2, 805, 805, 0), none), ((0, 0, 1, 1), none), ((0, 0, 9999, 1), none)], [(0, 0), (1, 1), (2, 2)], [], [], [], [], [], [], none), [])
def kh_bring_a58 : an_T := (58, 0, ([((2, 805, 805, 0), none), ((0, 0, 1, 1), none), ((0, 0, 4499, 1), none), ((0, (-2147483648), 2147483647, 1), none), ((0, 0, 4499, 1), none), ((2, 806, 806, 1), none)], [(0, 0), (1, 1), (2, 2)], [3, 4, 5], [], [], [], [], [], none), [])
def kh_bring_a59 : an_T := (59, 0, ([((2, 805, 805, 0), none), ((0, 0, 1, 1), none), ((0, 0, 4499, 1), none)], [(0, 0), (1, 1), (2, 2)], [], [], [], [], [], [], none), [])
def kh_bring_a67 : an_T := (67, 0, ([((2, 805, 805, 0), none), ((0, 0, 1, 1), none), ((0, 0, 9999, 1), none)], [(0, 0), (1, 1), (2, 2)], [], [], [], [], [], [], none), [])
def kh_bring_b0_0 : sg_T := (15, 0, ([((2, 805, 805, 0), none), ((0, (-2147483648), 2147483647, 1), none), ((0, 0, 0, 0), none), ((0, 1, 1, 0), none), ((0, 0, 0, 0), none), ((0, 1, 1, 0), none), ((0, 1, 1, 0), none), ((0, 0, 0, 0), none)], [(0, 0), (1, 1)], [7], [], [(6, 0)], [(4000004, 1, 1)], [], [510, 513, 514, 515], none))
def kh_bring_b0_1 : sg_T := (16, 0, ([((2, 805, 805, 0), none), ((0, 0, 1, 1), none), ((0, 0, 0, 0), none), ((0, 1, 1, 0), none), ((0, 1, 1, 0), none), ((0, 1, 1, 0), none), ((0, 0, 0, 0), none)], [(0, 0), (1, 1)], [], [], [], [(4000004, 1, 1)], [], [510, 513, 514, 515], none))
def kh_bring_b16_0 : sg_T := (24, 0, ([((2, 805, 805, 0), none), ((0, 0, 1, 1), none), ((2, 812, 812, 1), none), ((0, (-2147483648), 2147483647, 1), none), ((0, 2, 2, 0), none)], [(0, 0), (1, 1)], [4, 3, 0], [(2, 1, 3)], [], [(800003, 2, 1)], [], [510, 513, 514, 515], some []))
def kh_bring_b24_0 : sg_T := (27, 0, ([((2, 805, 805, 0), none), ((0, 0, 1, 1), none), ((0, 2, 2, 0), none), ((0, (-2147483648), 2147483647, 1), none), ((0, 0, 1, 1), none)], [(0, 0), (1, 1)], [4], [], [], [], [], [510, 513, 514, 515], none))
def kh_bring_b27_0 : sg_T := (34, 0, ([((2, 805, 805, 0), none), ((0, 0, 1, 1), none), ((0, 0, 0, 1), none), ((0, 0, 0, 0), none)], [(2, 3), (0, 0), (1, 1)], [], [], [], [], [], [510, 513, 514, 515], some []))
def kh_bring_b27_1 : sg_T := (31, 0, ([((2, 805, 805, 0), none), ((0, 0, 1, 1), none), ((0, 1, 1, 1), none), ((0, 0, 0, 0), none)], [(0, 0), (1, 1)], [3], [], [(2, 0)], [], [], [510, 513, 514, 515], some []))
def kh_bring_b34_0 : sg_T := (67, 0, ([((2, 805, 805, 0), none), ((0, 0, 1, 1), none), ((0, 4500, 9999, 1), none), ((0, 4500, 4500, 0), none), ((0, 0, 0, 0), none)], [(2, 4), (0, 0), (1, 1)], [], [], [], [(200000, 3, 2)], [], [], some []))
def kh_bring_b34_1 : sg_T := (58, 0, ([((2, 805, 805, 0), none), ((0, 0, 1, 1), none), ((0, 0, 4499, 1), none), ((0, 4500, 4500, 0), none), ((2, 806, 806, 1), none), ((2, 810, 810, 1), none), ((0, 4500, 4500, 0), none), ((0, 0, 4500, 4500), none), ((0, 0, 8999, 1), none), ((0, (-2147483648), 2147483647, 1), none)], [(0, 0), (1, 1), (2, 2)], [9, 2, 4], [(5, 8, 9)], [], [(800009, 5, 8), (500008, 7, 2), (700007, 6, 1), (100000, 2, 3)], [], [], some []))
def kh_bring_b59_0 : sg_T := (34, 0, ([((2, 805, 805, 0), none), ((0, 0, 1, 1), none), ((0, 0, 4499, 1), none), ((0, 1, 4500, 1), some (2, 1))], [(2, 3), (0, 0), (1, 1)], [], [], [], [], [], [], some []))
def kh_bring_b67_0 : sg_T := (102, 0, ([((2, 805, 805, 0), none), ((0, 0, 1, 1), none), ((0, 3600, 9999, 1), none), ((0, 3600, 3600, 0), none), ((0, 0, 999, 1), none)], [(0, 0), (1, 1), (2, 2)], [4], [], [], [(200000, 3, 2)], [], [], some []))
def kh_bring_b67_1 : sg_T := (67, 0, ([((2, 805, 805, 0), none), ((0, 0, 1, 1), none), ((0, 0, 3599, 1), none), ((0, 3600, 3600, 0), none), ((2, 807, 807, 1), none), ((2, 811, 811, 1), none), ((0, 3600, 3600, 0), none), ((0, 0, 3600, 3600), none), ((0, 0, 7199, 1), none), ((1, (-9223372036854775808), 9223372036854775807, 1), none), ((0, 1, 3600, 1), some (2, 1))], [(2, 10), (0, 0), (1, 1)], [], [], [], [(800009, 5, 8), (500008, 7, 2), (700007, 6, 1), (100000, 2, 3)], [], [], none))
def kh_bring_I (l : Launch) (D : va_G) (tc : Nat → ClassId) (ad : Nat → Nat) (kd : Nat → Nat × Nat) (N : Nat) (sm : Nat → Nat) (xs : List av_X) (S : fw_S) (p : Program) (e : Env) (s : State) (m : MethodId) (args : Array Value) (below : List Frame) (meth : Method) (c : Code) (sz : Nat) (k : Nat) : Prop := (∀ (α : List av_X) (lv : List (Nat × Value)) (st : List Value) (S1 : fw_S), as_in ad sm wd_fl2 xs S kh_bring.2.2.2.2.2.1 α kh_bring_a16.2.2.1 lv st S1 → (S1.1 806 = S.1 806) → 1000000 < k → hd_WR R_bring wd_fl2 kh_bring kh_bring_y l D tc ad kd N sm xs S p e s m args below meth c sz 16 lv st S1 0) ∧ (∀ (α : List av_X) (lv : List (Nat × Value)) (st : List Value) (S1 : fw_S), as_in ad sm wd_fl2 xs S kh_bring.2.2.2.2.2.1 α kh_bring_a24.2.2.1 lv st S1 → (S1.1 806 = S.1 806 ∧ nv α 3 = (S.1 812 (nv xs 1).toNat).toInt) → 900000 < k → hd_WR R_bring wd_fl2 kh_bring kh_bring_y l D tc ad kd N sm xs S p e s m args below meth c sz 24 lv st S1 0) ∧ (∀ (α : List av_X) (lv : List (Nat × Value)) (st : List Value) (S1 : fw_S), as_in ad sm wd_fl2 xs S kh_bring.2.2.2.2.2.1 α kh_bring_a27.2.2.1 lv st S1 → (S1.1 806 = S.1 806 ∧ (nv α 2 = 0 → (S.1 812 (nv xs 1).toNat).toInt ≠ 0) ∧ (nv α 2 ≠ 0 → (S.1 812 (nv xs 1).toNat).toInt = 0)) → 800000 < k → hd_WR R_bring wd_fl2 kh_bring kh_bring_y l D tc ad kd N sm xs S p e s m args below meth c sz 27 lv st S1 0) ∧ (∀ (α : List av_X) (lv : List (Nat × Value)) (st : List Value) (S1 : fw_S), as_in ad sm wd_fl2 xs S kh_bring.2.2.2.2.2.1 α kh_bring_a34.2.2.1 lv st S1 → ((∀ j : Nat, (j : Int) < nv α 2 → S1.1 806 j = S.1 810 (4500 * (nv xs 1).toNat + j)) ∧ 0 ≤ nv xs 1 ∧ nv xs 1 ≤ 1 ∧ (S.1 812 (nv xs 1).toNat).toInt ≠ 0) → 100000 + (4500 - nv α 2).toNat * 3 + 2 < k → hd_WR R_bring wd_fl2 kh_bring kh_bring_y l D tc ad kd N sm xs S p e s m args below meth c sz 34 lv st S1 0) ∧ (∀ (α : List av_X) (lv : List (Nat × Value)) (st : List Value) (S1 : fw_S), as_in ad sm wd_fl2 xs S kh_bring.2.2.2.2.2.1 α kh_bring_a58.2.2.1 lv st S1 → (((∀ j : Nat, (j : Int) < nv α 2 → S1.1 806 j = S.1 810 (4500 * (nv xs 1).toNat + j)) ∧ 0 ≤ nv xs 1 ∧ nv xs 1 ≤ 1 ∧ (S.1 812 (nv xs 1).toNat).toInt ≠ 0) ∧ nv α 3 = (S.1 810 (4500 * (nv xs 1).toNat + (nv α 2).toNat)).toInt ∧ nv α 4 = nv α 2) → 100000 + (4500 - nv α 2).toNat * 3 + 1 < k → hd_WR R_bring wd_fl2 kh_bring kh_bring_y l D tc ad kd N sm xs S p e s m args below meth c sz 58 lv st S1 0) ∧ (∀ (α : List av_X) (lv : List (Nat × Value)) (st : List Value) (S1 : fw_S), as_in ad sm wd_fl2 xs S kh_bring.2.2.2.2.2.1 α kh_bring_a59.2.2.1 lv st S1 → ((∀ j : Nat, (j : Int) < nv α 2 + 1 → S1.1 806 j = S.1 810 (4500 * (nv xs 1).toNat + j)) ∧ 0 ≤ nv xs 1 ∧ nv xs 1 ≤ 1 ∧ (S.1 812 (nv xs 1).toNat).toInt ≠ 0) → 100000 + (4500 - nv α 2).toNat * 3 < k → hd_WR R_bring wd_fl2 kh_bring kh_bring_y l D tc ad kd N sm xs S p e s m args below meth c sz 59 lv st S1 0) ∧ (∀ (α : List av_X) (lv : List (Nat × Value)) (st : List Value) (S1 : fw_S), as_in ad sm wd_fl2 xs S kh_bring.2.2.2.2.2.1 α kh_bring_a67.2.2.1 lv st S1 → ((∀ j : Nat, (j : Int) < 4500 → S1.1 806 j = S.1 810 (4500 * (nv xs 1).toNat + j)) ∧ 0 ≤ nv xs 1 ∧ nv xs 1 ≤ 1 ∧ (S.1 812 (nv xs 1).toNat).toInt ≠ 0) → (3600 - nv α 2).toNat < k → hd_WR R_bring wd_fl2 kh_bring kh_bring_y l D tc ad kd N sm xs S p e s m args below meth c sz 67 lv st S1 0) ∧ True
set_option maxHeartbeats 16000000 in
set_option maxRecDepth 8000 in
theorem kh_bring_h16 {l : Launch} {D : va_G} {tc : Nat → ClassId} {ad : Nat → Nat} {kd : Nat → Nat × Nat} {N : Nat} {sm : Nat → Nat} {xs : List av_X} {S : fw_S} {p : Program} {e : Env} {s : State} {m : MethodId} {args : Array Value} {below : List Frame} {meth : Method} {c : Code} {sz : Nat} {lvE : List (Nat × Value)} (G : hd_C wd_ff2 wd_fl2 kh_bring [kh_in0, kh_592, kh_588, kh_failsK, kh_405] kh_bring_y l D tc ad kd N sm xs p s m args meth c sz) (H0 : as_in ad sm wd_fl2 xs S kh_bring.2.2.2.2.2.1 xs (hd_0 kh_bring) lvE [] S) {k : Nat} (ih : kh_bring_I l D tc ad kd N sm xs S p e s m args below meth c sz k) : (∀ (α : List av_X) (lv : List (Nat × Value)) (st : List Value) (S1 : fw_S), as_in ad sm wd_fl2 xs S kh_bring.2.2.2.2.2.1 α kh_bring_a16.2.2.1 lv st S1 → (S1.1 806 = S.1 806) → 1000000 < k + 1 → hd_WR R_bring wd_fl2 kh_bring kh_bring_y l D tc ad kd N sm xs S p e s m args below meth c sz 16 lv st S1 0) := by
  have hx : xs.length = 2 := by rw [H0.2.1.1]; rfl
  have q510 : crewF (S.1 806) := by
    have h := H0.2.2.2.2.2.2.2.2.1 510 (by decide +kernel)
    rw [wd_fl2, if_neg (by decide)] at h
    exact h
  have q513 : stF (S.1 806) := by
    have h := H0.2.2.2.2.2.2.2.2.1 513 (by decide +kernel)
    rw [wd_fl2, if_neg (by decide)] at h
    exact h
  have q514 : imgF S := by
    have h := H0.2.2.2.2.2.2.2.2.1 514 (by decide +kernel)
    rw [wd_fl2, if_neg (by decide)] at h
    exact h
  have q515 : blF (S.1 806) 0 := by
    have h := H0.2.2.2.2.2.2.2.2.1 515 (by decide +kernel)
    rw [wd_fl2, if_neg (by decide)] at h
    exact h
  intro α lv st S1 H hp hk
  obtain ⟨α1, hle, Hr⟩ := as_recM (pl := []) [] (by decide +kernel) H
  have hf := H.2.2.2.2.2.2.2.2.2.2.1
  have hl1 : α1.length = 2 := by rw [Hr.2.1.1]; rfl
  have hl0 : α.length = 2 := by rw [H.2.1.1]; rfl
  have hxa : al_le xs α1 := H.1.trans hle
  obtain ⟨g1, -, g3, g4, -⟩ := as_fx Hr
  have g0 : (805 ≤ nv α1 0 ∧ nv α1 0 ≤ 805) ∧ (0 ≤ nv α1 1 ∧ nv α1 1 ≤ 1) ∧ True := by
    refine ⟨by have h := (en_nv (i := 0) Hr.2.1 rfl).2; exact h, by have h := (en_nv (i := 1) Hr.2.1 rfl).2; exact h, trivial⟩
  have r0 : nv α1 0 = nv α 0 := nv_le hle (by omega)
  have r1 : nv α1 1 = nv α 1 := nv_le hle (by omega)
  refine hd_segMR G (na := 2) (fuel := 600) (first := true) (Bs := [kh_bring_b16_0]) (by decide +kernel) hl1 Hr ?_
  intro q hq β lv' st' S' H1
  simp only [List.mem_cons, List.not_mem_nil, or_false] at hq
  rcases hq with rfl
  · obtain ⟨f1, f2, f3, f4, f5⟩ := as_fx H1
    simp only [kh_bring_b16_0, fx_env, fx_c, fx_ne, fx_hf, wl_S, Nat.zero_add, Nat.reduceAdd, Nat.reduceDiv, Nat.reduceMod, List.getElem?_cons_zero, List.getElem?_cons_succ, if_true, and_true, true_and] at f1 f2 f3 f4 f5
    have fe0 : nv β 0 = 805 := by omega
    have fe2 : nv β 2 = 812 := by omega
    have fe4 : nv β 4 = 2 := by omega
    try simp only [fe0, fe2, fe4, Int.reduceToNat] at f2 f3 f4 f5
    have s0 : nv β 0 = nv α1 0 := nv_le H1.1 (by omega)
    have s1 : nv β 1 = nv α1 1 := nv_le H1.1 (by omega)
    have c0 := f2
    obtain ⟨α', Ha, hm⟩ := hd_gpM (q := kh_bring_a24) (n := 0) (by decide +kernel) hx H1 (by decide +kernel) hxa hf
    have hfr := H1.2.2.2.2.2.2.2.2.2.2.1
    have m0 : nv α' 0 = nv β 0 := hm 0 0 rfl
    have m1 : nv α' 1 = nv β 1 := hm 1 1 rfl
    have m2 : nv α' 2 = nv β 4 := hm 2 4 rfl
    have m3 : nv α' 3 = nv β 3 := hm 3 3 rfl
    subst S'
    have o0 := old_0 c0 rfl
    have z1 : nv α 1 = nv xs 1 := nv_le H.1 (by omega)
    have e12 : S1.1 812 = S.1 812 := fr_row hf 812 (by decide +kernel)
    rw [e12, show (nv β 1).toNat = (nv xs 1).toNat by omega] at o0
    refine ih.2.1 _ _ _ _ Ha ?_ ?_
    · rw [m3]; exact ⟨hp, o0.symm⟩
    · omega
set_option maxHeartbeats 16000000 in
set_option maxRecDepth 8000 in
theorem kh_bring_h24 {l : Launch} {D : va_G} {tc : Nat → ClassId} {ad : Nat → Nat} {kd : Nat → Nat × Nat} {N : Nat} {sm : Nat → Nat} {xs : List av_X} {S : fw_S} {p : Program} {e : Env} {s : State} {m : MethodId} {args : Array Value} {below : List Frame} {meth : Method} {c : Code} {sz : Nat} {lvE : List (Nat × Value)} (G : hd_C wd_ff2 wd_fl2 kh_bring [kh_in0, kh_592, kh_588, kh_failsK, kh_405] kh_bring_y l D tc ad kd N sm xs p s m args meth c sz) (H0 : as_in ad sm wd_fl2 xs S kh_bring.2.2.2.2.2.1 xs (hd_0 kh_bring) lvE [] S) {k : Nat} (ih : kh_bring_I l D tc ad kd N sm xs S p e s m args below meth c sz k) : (∀ (α : List av_X) (lv : List (Nat × Value)) (st : List Value) (S1 : fw_S), as_in ad sm wd_fl2 xs S kh_bring.2.2.2.2.2.1 α kh_bring_a24.2.2.1 lv st S1 → (S1.1 806 = S.1 806 ∧ nv α 3 = (S.1 812 (nv xs 1).toNat).toInt) → 900000 < k + 1 → hd_WR R_bring wd_fl2 kh_bring kh_bring_y l D tc ad kd N sm xs S p e s m args below meth c sz 24 lv st S1 0) := by
  have hx : xs.length = 2 := by rw [H0.2.1.1]; rfl
  have q510 : crewF (S.1 806) := by
    have h := H0.2.2.2.2.2.2.2.2.1 510 (by decide +kernel)
    rw [wd_fl2, if_neg (by decide)] at h
    exact h
  have q513 : stF (S.1 806) := by
    have h := H0.2.2.2.2.2.2.2.2.1 513 (by decide +kernel)
    rw [wd_fl2, if_neg (by decide)] at h
    exact h
  have q514 : imgF S := by
    have h := H0.2.2.2.2.2.2.2.2.1 514 (by decide +kernel)
    rw [wd_fl2, if_neg (by decide)] at h
    exact h
  have q515 : blF (S.1 806) 0 := by
    have h := H0.2.2.2.2.2.2.2.2.1 515 (by decide +kernel)
    rw [wd_fl2, if_neg (by decide)] at h
    exact h
  intro α lv st S1 H hp hk
  obtain ⟨α1, hle, Hr⟩ := as_recM (pl := []) [((805, 805), (8, 8, 0))] (by decide +kernel) H
  have hf := H.2.2.2.2.2.2.2.2.2.2.1
  have hl1 : α1.length = 4 := by rw [Hr.2.1.1]; rfl
  have hl0 : α.length = 4 := by rw [H.2.1.1]; rfl
  have hxa : al_le xs α1 := H.1.trans hle
  obtain ⟨g1, -, g3, g4, -⟩ := as_fx Hr
  have g0 : (805 ≤ nv α1 0 ∧ nv α1 0 ≤ 805) ∧ (0 ≤ nv α1 1 ∧ nv α1 1 ≤ 1) ∧ (2 ≤ nv α1 2 ∧ nv α1 2 ≤ 2) ∧ ((-2147483648) ≤ nv α1 3 ∧ nv α1 3 ≤ 2147483647) ∧ True := by
    refine ⟨by have h := (en_nv (i := 0) Hr.2.1 rfl).2; exact h, by have h := (en_nv (i := 1) Hr.2.1 rfl).2; exact h, by have h := (en_nv (i := 2) Hr.2.1 rfl).2; exact h, by have h := (en_nv (i := 3) Hr.2.1 rfl).2; exact h, trivial⟩
  have r0 : nv α1 0 = nv α 0 := nv_le hle (by omega)
  have r1 : nv α1 1 = nv α 1 := nv_le hle (by omega)
  have r2 : nv α1 2 = nv α 2 := nv_le hle (by omega)
  have r3 : nv α1 3 = nv α 3 := nv_le hle (by omega)
  refine hd_callRR (Rr := R_fails) (Rs := [kh_failsK]) (idx := 263) G (List.forall_mem_cons.mpr ⟨kh_failsK_okR, List.forall_mem_nil _⟩) (na := 4) (Bs := [kh_bring_b24_0]) (by decide +kernel) (by decide +kernel) hl1 Hr ?_
  intro q hq β lv' st' S' H1 hRx
  simp only [List.mem_cons, List.not_mem_nil, or_false] at hq
  rcases hq with rfl
  · obtain ⟨f1, f2, f3, f4, f5⟩ := as_fx H1
    simp only [kh_bring_b24_0, fx_env, fx_c, fx_ne, fx_hf, wl_S, Nat.zero_add, Nat.reduceAdd, Nat.reduceDiv, Nat.reduceMod, List.getElem?_cons_zero, List.getElem?_cons_succ, if_true, and_true, true_and] at f1 f2 f3 f4 f5
    have fe0 : nv β 0 = 805 := by omega
    have fe2 : nv β 2 = 2 := by omega
    try simp only [fe0, fe2, Int.reduceToNat] at f2 f3 f4 f5
    have s0 : nv β 0 = nv α1 0 := nv_le H1.1 (by omega)
    have s1 : nv β 1 = nv α1 1 := nv_le H1.1 (by omega)
    have s2 : nv β 2 = nv α1 2 := nv_le H1.1 (by omega)
    have s3 : nv β 3 = nv α1 3 := nv_le H1.1 (by omega)
    obtain ⟨α', Ha, hm⟩ := hd_gpM (q := kh_bring_a27) (n := 0) (by decide +kernel) hx H1 (by decide +kernel) hxa hf
    have hfr := H1.2.2.2.2.2.2.2.2.2.2.1
    have m0 : nv α' 0 = nv β 0 := hm 0 0 rfl
    have m1 : nv α' 1 = nv β 1 := hm 1 1 rfl
    have m2 : nv α' 2 = nv β 4 := hm 2 4 rfl
    obtain ⟨Cc, hCc, ys, rr, hnm, hR, rest, hre⟩ := hRx
    rcases List.mem_singleton.mp hCc with rfl
    have y1 : nv ys 1 = nv α1 3 := nm_nv hnm (i := 1) (v := 3) rfl
    obtain ⟨v, v1, v2⟩ := hR
    have hv := hd_rv H1 (i := 4) rfl rfl rfl hre (Sum.inl.inj v1)
    rw [hv, y1, r3, hp.2] at v2
    have e6 : S'.1 806 = S1.1 806 := fr_row hfr 806 (by decide +kernel)
    refine ih.2.2.1 _ _ _ _ Ha ?_ ?_
    · rw [m2]; exact ⟨e6.trans hp.1, v2⟩
    · omega
set_option maxHeartbeats 16000000 in
set_option maxRecDepth 8000 in
theorem kh_bring_h27 {l : Launch} {D : va_G} {tc : Nat → ClassId} {ad : Nat → Nat} {kd : Nat → Nat × Nat} {N : Nat} {sm : Nat → Nat} {xs : List av_X} {S : fw_S} {p : Program} {e : Env} {s : State} {m : MethodId} {args : Array Value} {below : List Frame} {meth : Method} {c : Code} {sz : Nat} {lvE : List (Nat × Value)} (G : hd_C wd_ff2 wd_fl2 kh_bring [kh_in0, kh_592, kh_588, kh_failsK, kh_405] kh_bring_y l D tc ad kd N sm xs p s m args meth c sz) (H0 : as_in ad sm wd_fl2 xs S kh_bring.2.2.2.2.2.1 xs (hd_0 kh_bring) lvE [] S) {k : Nat} (ih : kh_bring_I l D tc ad kd N sm xs S p e s m args below meth c sz k) : (∀ (α : List av_X) (lv : List (Nat × Value)) (st : List Value) (S1 : fw_S), as_in ad sm wd_fl2 xs S kh_bring.2.2.2.2.2.1 α kh_bring_a27.2.2.1 lv st S1 → (S1.1 806 = S.1 806 ∧ (nv α 2 = 0 → (S.1 812 (nv xs 1).toNat).toInt ≠ 0) ∧ (nv α 2 ≠ 0 → (S.1 812 (nv xs 1).toNat).toInt = 0)) → 800000 < k + 1 → hd_WR R_bring wd_fl2 kh_bring kh_bring_y l D tc ad kd N sm xs S p e s m args below meth c sz 27 lv st S1 0) := by
  have hx : xs.length = 2 := by rw [H0.2.1.1]; rfl
  have q510 : crewF (S.1 806) := by
    have h := H0.2.2.2.2.2.2.2.2.1 510 (by decide +kernel)
    rw [wd_fl2, if_neg (by decide)] at h
    exact h
  have q513 : stF (S.1 806) := by
    have h := H0.2.2.2.2.2.2.2.2.1 513 (by decide +kernel)
    rw [wd_fl2, if_neg (by decide)] at h
    exact h
  have q514 : imgF S := by
    have h := H0.2.2.2.2.2.2.2.2.1 514 (by decide +kernel)
    rw [wd_fl2, if_neg (by decide)] at h
    exact h
  have q515 : blF (S.1 806) 0 := by
    have h := H0.2.2.2.2.2.2.2.2.1 515 (by decide +kernel)
    rw [wd_fl2, if_neg (by decide)] at h
    exact h
  intro α lv st S1 H hp hk
  obtain ⟨α1, hle, Hr⟩ := as_recM (pl := []) [] (by decide +kernel) H
  have hf := H.2.2.2.2.2.2.2.2.2.2.1
  have hl1 : α1.length = 3 := by rw [Hr.2.1.1]; rfl
  have hl0 : α.length = 3 := by rw [H.2.1.1]; rfl
  have hxa : al_le xs α1 := H.1.trans hle
  obtain ⟨g1, -, g3, g4, -⟩ := as_fx Hr
  have g0 : (805 ≤ nv α1 0 ∧ nv α1 0 ≤ 805) ∧ (0 ≤ nv α1 1 ∧ nv α1 1 ≤ 1) ∧ (0 ≤ nv α1 2 ∧ nv α1 2 ≤ 1) ∧ True := by
    refine ⟨by have h := (en_nv (i := 0) Hr.2.1 rfl).2; exact h, by have h := (en_nv (i := 1) Hr.2.1 rfl).2; exact h, by have h := (en_nv (i := 2) Hr.2.1 rfl).2; exact h, trivial⟩
  have r0 : nv α1 0 = nv α 0 := nv_le hle (by omega)
  have r1 : nv α1 1 = nv α 1 := nv_le hle (by omega)
  have r2 : nv α1 2 = nv α 2 := nv_le hle (by omega)
  refine hd_segMR G (na := 3) (fuel := 600) (first := true) (Bs := [kh_bring_b27_0, kh_bring_b27_1]) (by decide +kernel) hl1 Hr ?_
  intro q hq β lv' st' S' H1
  simp only [List.mem_cons, List.not_mem_nil, or_false] at hq
  rcases hq with rfl | rfl
  · obtain ⟨f1, f2, f3, f4, f5⟩ := as_fx H1
    simp only [kh_bring_b27_0, fx_env, fx_c, fx_ne, fx_hf, wl_S, Nat.zero_add, Nat.reduceAdd, Nat.reduceDiv, Nat.reduceMod, List.getElem?_cons_zero, List.getElem?_cons_succ, if_true, and_true, true_and] at f1 f2 f3 f4 f5
    have fe0 : nv β 0 = 805 := by omega
    have fe2 : nv β 2 = 0 := by omega
    have fe3 : nv β 3 = 0 := by omega
    try simp only [fe0, fe2, fe3, Int.reduceToNat] at f2 f3 f4 f5
    have s0 : nv β 0 = nv α1 0 := nv_le H1.1 (by omega)
    have s1 : nv β 1 = nv α1 1 := nv_le H1.1 (by omega)
    have s2 : nv β 2 = nv α1 2 := nv_le H1.1 (by omega)
    obtain ⟨α', Ha, hm⟩ := hd_gpM (q := kh_bring_a34) (n := 0) (by decide +kernel) hx H1 (by decide +kernel) hxa hf
    have hfr := H1.2.2.2.2.2.2.2.2.2.2.1
    have m0 : nv α' 0 = nv β 0 := hm 0 0 rfl
    have m1 : nv α' 1 = nv β 1 := hm 1 1 rfl
    have m2 : nv α' 2 = nv β 3 := hm 2 3 rfl
    subst S'
    have z1 : nv α 1 = nv xs 1 := nv_le H.1 (by omega)
    refine ih.2.2.2.1 _ _ _ _ Ha ?_ ?_
    · exact ⟨fun j hj => by rw [m2] at hj; omega, by omega, by omega, hp.2.1 (by omega)⟩
    · omega
  · obtain ⟨f1, f2, f3, f4, f5⟩ := as_fx H1
    simp only [kh_bring_b27_1, fx_env, fx_c, fx_ne, fx_hf, wl_S, Nat.zero_add, Nat.reduceAdd, Nat.reduceDiv, Nat.reduceMod, List.getElem?_cons_zero, List.getElem?_cons_succ, if_true, and_true, true_and] at f1 f2 f3 f4 f5
    have fe0 : nv β 0 = 805 := by omega
    have fe2 : nv β 2 = 1 := by omega
    have fe3 : nv β 3 = 0 := by omega
    try simp only [fe0, fe2, fe3, Int.reduceToNat] at f2 f3 f4 f5
    have s0 : nv β 0 = nv α1 0 := nv_le H1.1 (by omega)
    have s1 : nv β 1 = nv α1 1 := nv_le H1.1 (by omega)
    have s2 : nv β 2 = nv α1 2 := nv_le H1.1 (by omega)
    have z1 : nv α 1 = nv xs 1 := nv_le H.1 (by omega)
    exact hd_retIR G (v := 3) (by decide +kernel) (as_backM H1 (by decide +kernel) hxa hf) _ List.mem_cons_self rfl (by decide +kernel) (by decide) (fun w hw => by cases hw) (fun x hx => ⟨fun w hw e h1 => absurd (by rw [show w = (nv xs 1).toNat by omega]; exact hp.2.2 (by omega)) h1, fun _ => by rw [f5]; exact hp.1⟩)
set_option maxHeartbeats 16000000 in
set_option maxRecDepth 8000 in
theorem kh_bring_h34 {l : Launch} {D : va_G} {tc : Nat → ClassId} {ad : Nat → Nat} {kd : Nat → Nat × Nat} {N : Nat} {sm : Nat → Nat} {xs : List av_X} {S : fw_S} {p : Program} {e : Env} {s : State} {m : MethodId} {args : Array Value} {below : List Frame} {meth : Method} {c : Code} {sz : Nat} {lvE : List (Nat × Value)} (G : hd_C wd_ff2 wd_fl2 kh_bring [kh_in0, kh_592, kh_588, kh_failsK, kh_405] kh_bring_y l D tc ad kd N sm xs p s m args meth c sz) (H0 : as_in ad sm wd_fl2 xs S kh_bring.2.2.2.2.2.1 xs (hd_0 kh_bring) lvE [] S) {k : Nat} (ih : kh_bring_I l D tc ad kd N sm xs S p e s m args below meth c sz k) : (∀ (α : List av_X) (lv : List (Nat × Value)) (st : List Value) (S1 : fw_S), as_in ad sm wd_fl2 xs S kh_bring.2.2.2.2.2.1 α kh_bring_a34.2.2.1 lv st S1 → ((∀ j : Nat, (j : Int) < nv α 2 → S1.1 806 j = S.1 810 (4500 * (nv xs 1).toNat + j)) ∧ 0 ≤ nv xs 1 ∧ nv xs 1 ≤ 1 ∧ (S.1 812 (nv xs 1).toNat).toInt ≠ 0) → 100000 + (4500 - nv α 2).toNat * 3 + 2 < k + 1 → hd_WR R_bring wd_fl2 kh_bring kh_bring_y l D tc ad kd N sm xs S p e s m args below meth c sz 34 lv st S1 0) := by
  have hx : xs.length = 2 := by rw [H0.2.1.1]; rfl
  have q510 : crewF (S.1 806) := by
    have h := H0.2.2.2.2.2.2.2.2.1 510 (by decide +kernel)
    rw [wd_fl2, if_neg (by decide)] at h
    exact h
  have q513 : stF (S.1 806) := by
    have h := H0.2.2.2.2.2.2.2.2.1 513 (by decide +kernel)
    rw [wd_fl2, if_neg (by decide)] at h
    exact h
  have q514 : imgF S := by
    have h := H0.2.2.2.2.2.2.2.2.1 514 (by decide +kernel)
    rw [wd_fl2, if_neg (by decide)] at h
    exact h
  have q515 : blF (S.1 806) 0 := by
    have h := H0.2.2.2.2.2.2.2.2.1 515 (by decide +kernel)
    rw [wd_fl2, if_neg (by decide)] at h
    exact h
  intro α lv st S1 H hp hk
  obtain ⟨α1, hle, Hr⟩ := as_recM (pl := []) [] (by decide +kernel) H
  have hf := H.2.2.2.2.2.2.2.2.2.2.1
  have hl1 : α1.length = 3 := by rw [Hr.2.1.1]; rfl
  have hl0 : α.length = 3 := by rw [H.2.1.1]; rfl
  have hxa : al_le xs α1 := H.1.trans hle
  obtain ⟨g1, -, g3, g4, -⟩ := as_fx Hr
  have g0 : (805 ≤ nv α1 0 ∧ nv α1 0 ≤ 805) ∧ (0 ≤ nv α1 1 ∧ nv α1 1 ≤ 1) ∧ (0 ≤ nv α1 2 ∧ nv α1 2 ≤ 9999) ∧ True := by
    refine ⟨by have h := (en_nv (i := 0) Hr.2.1 rfl).2; exact h, by have h := (en_nv (i := 1) Hr.2.1 rfl).2; exact h, by have h := (en_nv (i := 2) Hr.2.1 rfl).2; exact h, trivial⟩
  have r0 : nv α1 0 = nv α 0 := nv_le hle (by omega)
  have r1 : nv α1 1 = nv α 1 := nv_le hle (by omega)
  have r2 : nv α1 2 = nv α 2 := nv_le hle (by omega)
  refine hd_segMR G (na := 3) (fuel := 600) (first := true) (Bs := [kh_bring_b34_0, kh_bring_b34_1]) (by decide +kernel) hl1 Hr ?_
  intro q hq β lv' st' S' H1
  simp only [List.mem_cons, List.not_mem_nil, or_false] at hq
  rcases hq with rfl | rfl
  · obtain ⟨f1, f2, f3, f4, f5⟩ := as_fx H1
    simp only [kh_bring_b34_0, fx_env, fx_c, fx_ne, fx_hf, wl_S, Nat.zero_add, Nat.reduceAdd, Nat.reduceDiv, Nat.reduceMod, List.getElem?_cons_zero, List.getElem?_cons_succ, if_true, and_true, true_and] at f1 f2 f3 f4 f5
    have fe0 : nv β 0 = 805 := by omega
    have fe3 : nv β 3 = 4500 := by omega
    have fe4 : nv β 4 = 0 := by omega
    try simp only [fe0, fe3, fe4, Int.reduceToNat] at f2 f3 f4 f5
    have s0 : nv β 0 = nv α1 0 := nv_le H1.1 (by omega)
    have s1 : nv β 1 = nv α1 1 := nv_le H1.1 (by omega)
    have s2 : nv β 2 = nv α1 2 := nv_le H1.1 (by omega)
    have c0 := f2
    obtain ⟨α', Ha, hm⟩ := hd_gpM (q := kh_bring_a67) (n := 0) (by decide +kernel) hx H1 (by decide +kernel) hxa hf
    have hfr := H1.2.2.2.2.2.2.2.2.2.2.1
    have m0 : nv α' 0 = nv β 0 := hm 0 0 rfl
    have m1 : nv α' 1 = nv β 1 := hm 1 1 rfl
    have m2 : nv α' 2 = nv β 4 := hm 2 4 rfl
    subst S'
    refine ih.2.2.2.2.2.2.1 _ _ _ _ Ha ?_ ?_
    · exact ⟨fun j hj => hp.1 j (by omega), hp.2⟩
    · omega
  · obtain ⟨f1, f2, f3, f4, f5⟩ := as_fx H1
    simp only [kh_bring_b34_1, fx_env, fx_c, fx_ne, fx_hf, wl_S, Nat.zero_add, Nat.reduceAdd, Nat.reduceDiv, Nat.reduceMod, List.getElem?_cons_zero, List.getElem?_cons_succ, if_true, and_true, true_and] at f1 f2 f3 f4 f5
    have fe0 : nv β 0 = 805 := by omega
    have fe3 : nv β 3 = 4500 := by omega
    have fe4 : nv β 4 = 806 := by omega
    have fe5 : nv β 5 = 810 := by omega
    have fe6 : nv β 6 = 4500 := by omega
    try simp only [fe0, fe3, fe4, fe5, fe6, Int.reduceToNat] at f2 f3 f4 f5
    have s0 : nv β 0 = nv α1 0 := nv_le H1.1 (by omega)
    have s1 : nv β 1 = nv α1 1 := nv_le H1.1 (by omega)
    have s2 : nv β 2 = nv α1 2 := nv_le H1.1 (by omega)
    obtain ⟨c0, c1, c2, c3⟩ := f2
    obtain ⟨α', Ha, hm⟩ := hd_gpM (q := kh_bring_a58) (n := 0) (by decide +kernel) hx H1 (by decide +kernel) hxa hf
    have hfr := H1.2.2.2.2.2.2.2.2.2.2.1
    have m0 : nv α' 0 = nv β 0 := hm 0 0 rfl
    have m1 : nv α' 1 = nv β 1 := hm 1 1 rfl
    have m2 : nv α' 2 = nv β 2 := hm 2 2 rfl
    have m3 : nv α' 3 = nv β 9 := hm 3 9 rfl
    have m4 : nv α' 4 = nv β 2 := hm 4 2 rfl
    have m5 : nv α' 5 = nv β 4 := hm 5 4 rfl
    subst S'
    have o0 := old_0 c0 rfl
    have z1 : nv α 1 = nv xs 1 := nv_le H.1 (by omega)
    have e10 : S1.1 810 = S.1 810 := fr_row hf 810 (by decide +kernel)
    rw [e10, show (nv β 8).toNat = 4500 * (nv xs 1).toNat + (nv β 2).toNat by omega] at o0
    refine ih.2.2.2.2.1 _ _ _ _ Ha ?_ ?_
    · rw [m2, m3, m4, s2, r2]
      rw [s2, r2] at o0
      exact ⟨hp, o0.symm, rfl⟩
    · omega
set_option maxHeartbeats 16000000 in
set_option maxRecDepth 8000 in
theorem kh_bring_h58 {l : Launch} {D : va_G} {tc : Nat → ClassId} {ad : Nat → Nat} {kd : Nat → Nat × Nat} {N : Nat} {sm : Nat → Nat} {xs : List av_X} {S : fw_S} {p : Program} {e : Env} {s : State} {m : MethodId} {args : Array Value} {below : List Frame} {meth : Method} {c : Code} {sz : Nat} {lvE : List (Nat × Value)} (G : hd_C wd_ff2 wd_fl2 kh_bring [kh_in0, kh_592, kh_588, kh_failsK, kh_405] kh_bring_y l D tc ad kd N sm xs p s m args meth c sz) (H0 : as_in ad sm wd_fl2 xs S kh_bring.2.2.2.2.2.1 xs (hd_0 kh_bring) lvE [] S) {k : Nat} (ih : kh_bring_I l D tc ad kd N sm xs S p e s m args below meth c sz k) : (∀ (α : List av_X) (lv : List (Nat × Value)) (st : List Value) (S1 : fw_S), as_in ad sm wd_fl2 xs S kh_bring.2.2.2.2.2.1 α kh_bring_a58.2.2.1 lv st S1 → (((∀ j : Nat, (j : Int) < nv α 2 → S1.1 806 j = S.1 810 (4500 * (nv xs 1).toNat + j)) ∧ 0 ≤ nv xs 1 ∧ nv xs 1 ≤ 1 ∧ (S.1 812 (nv xs 1).toNat).toInt ≠ 0) ∧ nv α 3 = (S.1 810 (4500 * (nv xs 1).toNat + (nv α 2).toNat)).toInt ∧ nv α 4 = nv α 2) → 100000 + (4500 - nv α 2).toNat * 3 + 1 < k + 1 → hd_WR R_bring wd_fl2 kh_bring kh_bring_y l D tc ad kd N sm xs S p e s m args below meth c sz 58 lv st S1 0) := by
  have hx : xs.length = 2 := by rw [H0.2.1.1]; rfl
  have q510 : crewF (S.1 806) := by
    have h := H0.2.2.2.2.2.2.2.2.1 510 (by decide +kernel)
    rw [wd_fl2, if_neg (by decide)] at h
    exact h
  have q513 : stF (S.1 806) := by
    have h := H0.2.2.2.2.2.2.2.2.1 513 (by decide +kernel)
    rw [wd_fl2, if_neg (by decide)] at h
    exact h
  have q514 : imgF S := by
    have h := H0.2.2.2.2.2.2.2.2.1 514 (by decide +kernel)
    rw [wd_fl2, if_neg (by decide)] at h
    exact h
  have q515 : blF (S.1 806) 0 := by
    have h := H0.2.2.2.2.2.2.2.2.1 515 (by decide +kernel)
    rw [wd_fl2, if_neg (by decide)] at h
    exact h
  intro α lv st S1 H hp hk
  have hf := H.2.2.2.2.2.2.2.2.2.2.1
  have g0 : (805 ≤ nv α 0 ∧ nv α 0 ≤ 805) ∧ (0 ≤ nv α 1 ∧ nv α 1 ≤ 1) ∧ (0 ≤ nv α 2 ∧ nv α 2 ≤ 4499) ∧ ((-2147483648) ≤ nv α 3 ∧ nv α 3 ≤ 2147483647) ∧ (0 ≤ nv α 4 ∧ nv α 4 ≤ 4499) ∧ (806 ≤ nv α 5 ∧ nv α 5 ≤ 806) ∧ True := by
    refine ⟨by have h := (en_nv (i := 0) H.2.1 rfl).2; exact h, by have h := (en_nv (i := 1) H.2.1 rfl).2; exact h, by have h := (en_nv (i := 2) H.2.1 rfl).2; exact h, by have h := (en_nv (i := 3) H.2.1 rfl).2; exact h, by have h := (en_nv (i := 4) H.2.1 rfl).2; exact h, by have h := (en_nv (i := 5) H.2.1 rfl).2; exact h, trivial⟩
  obtain ⟨⟨p1, p2, p3, p4⟩, p5, p6⟩ := hp
  have hw2 : (nv xs 1).toNat < 2 := by omega
  have hv : Int32.ofInt (nv α 3) = S.1 810 (4500 * (nv xs 1).toNat + (nv α 4).toNat) := by rw [p5, Int32.ofInt_toInt, p6]
  refine hd_store G (by decide +kernel) (xv := 3) (iv := 4) (rv := 5) (cc := 806) rfl (by rfl) (by rfl) (by rfl) H (gi_put H.2.2.2.2.2.2.2.2.2.1 (fun q hq hc hj => by rw [hv]; exact (q514 _ hw2 p4).1 q hq hc _ hj) wd_gt_c) (fr_put hf (Or.inl (md_at_p (lo := 0) (hi := 4499) (st := 1) (by decide) (by omega) (by omega) (Nat.one_dvd _)))) (fun st' H1 => ?_)
  obtain ⟨α', Ha, hm⟩ := hd_gpS (q := kh_bring_a59) (n := 0) (by decide +kernel) hx H1
  have m0 : nv α' 0 = nv α 0 := hm 0 0 rfl
  have m1 : nv α' 1 = nv α 1 := hm 1 1 rfl
  have m2 : nv α' 2 = nv α 2 := hm 2 2 rfl
  refine ih.2.2.2.2.2.1 _ _ _ _ Ha ?_ ?_
  · refine ⟨fun j hj => ?_, p2, p3, p4⟩
    rw [m2] at hj
    rw [fw_i_row]
    by_cases e : j = (nv α 4).toNat
    · rw [if_pos e, hv, e]
    · rw [if_neg e]; exact p1 j (by omega)
  · rw [m2]; omega
set_option maxHeartbeats 16000000 in
set_option maxRecDepth 8000 in
theorem kh_bring_h59 {l : Launch} {D : va_G} {tc : Nat → ClassId} {ad : Nat → Nat} {kd : Nat → Nat × Nat} {N : Nat} {sm : Nat → Nat} {xs : List av_X} {S : fw_S} {p : Program} {e : Env} {s : State} {m : MethodId} {args : Array Value} {below : List Frame} {meth : Method} {c : Code} {sz : Nat} {lvE : List (Nat × Value)} (G : hd_C wd_ff2 wd_fl2 kh_bring [kh_in0, kh_592, kh_588, kh_failsK, kh_405] kh_bring_y l D tc ad kd N sm xs p s m args meth c sz) (H0 : as_in ad sm wd_fl2 xs S kh_bring.2.2.2.2.2.1 xs (hd_0 kh_bring) lvE [] S) {k : Nat} (ih : kh_bring_I l D tc ad kd N sm xs S p e s m args below meth c sz k) : (∀ (α : List av_X) (lv : List (Nat × Value)) (st : List Value) (S1 : fw_S), as_in ad sm wd_fl2 xs S kh_bring.2.2.2.2.2.1 α kh_bring_a59.2.2.1 lv st S1 → ((∀ j : Nat, (j : Int) < nv α 2 + 1 → S1.1 806 j = S.1 810 (4500 * (nv xs 1).toNat + j)) ∧ 0 ≤ nv xs 1 ∧ nv xs 1 ≤ 1 ∧ (S.1 812 (nv xs 1).toNat).toInt ≠ 0) → 100000 + (4500 - nv α 2).toNat * 3 < k + 1 → hd_WR R_bring wd_fl2 kh_bring kh_bring_y l D tc ad kd N sm xs S p e s m args below meth c sz 59 lv st S1 0) := by
  have hx : xs.length = 2 := by rw [H0.2.1.1]; rfl
  have q510 : crewF (S.1 806) := by
    have h := H0.2.2.2.2.2.2.2.2.1 510 (by decide +kernel)
    rw [wd_fl2, if_neg (by decide)] at h
    exact h
  have q513 : stF (S.1 806) := by
    have h := H0.2.2.2.2.2.2.2.2.1 513 (by decide +kernel)
    rw [wd_fl2, if_neg (by decide)] at h
    exact h
  have q514 : imgF S := by
    have h := H0.2.2.2.2.2.2.2.2.1 514 (by decide +kernel)
    rw [wd_fl2, if_neg (by decide)] at h
    exact h
  have q515 : blF (S.1 806) 0 := by
    have h := H0.2.2.2.2.2.2.2.2.1 515 (by decide +kernel)
    rw [wd_fl2, if_neg (by decide)] at h
    exact h
  intro α lv st S1 H hp hk
  obtain ⟨α1, hle, Hr⟩ := as_recM (pl := []) [] (by decide +kernel) H
  have hf := H.2.2.2.2.2.2.2.2.2.2.1
  have hl1 : α1.length = 3 := by rw [Hr.2.1.1]; rfl
  have hl0 : α.length = 3 := by rw [H.2.1.1]; rfl
  have hxa : al_le xs α1 := H.1.trans hle
  obtain ⟨g1, -, g3, g4, -⟩ := as_fx Hr
  have g0 : (805 ≤ nv α1 0 ∧ nv α1 0 ≤ 805) ∧ (0 ≤ nv α1 1 ∧ nv α1 1 ≤ 1) ∧ (0 ≤ nv α1 2 ∧ nv α1 2 ≤ 4499) ∧ True := by
    refine ⟨by have h := (en_nv (i := 0) Hr.2.1 rfl).2; exact h, by have h := (en_nv (i := 1) Hr.2.1 rfl).2; exact h, by have h := (en_nv (i := 2) Hr.2.1 rfl).2; exact h, trivial⟩
  have r0 : nv α1 0 = nv α 0 := nv_le hle (by omega)
  have r1 : nv α1 1 = nv α 1 := nv_le hle (by omega)
  have r2 : nv α1 2 = nv α 2 := nv_le hle (by omega)
  refine hd_segMR G (na := 3) (fuel := 600) (first := true) (Bs := [kh_bring_b59_0]) (by decide +kernel) hl1 Hr ?_
  intro q hq β lv' st' S' H1
  simp only [List.mem_cons, List.not_mem_nil, or_false] at hq
  rcases hq with rfl
  · obtain ⟨f1, f2, f3, f4, f5⟩ := as_fx H1
    simp only [kh_bring_b59_0, fx_env, fx_c, fx_ne, fx_hf, wl_S, Nat.zero_add, Nat.reduceAdd, Nat.reduceDiv, Nat.reduceMod, List.getElem?_cons_zero, List.getElem?_cons_succ, if_true, and_true, true_and] at f1 f2 f3 f4 f5
    have fe0 : nv β 0 = 805 := by omega
    try simp only [fe0, Int.reduceToNat] at f2 f3 f4 f5
    have s0 : nv β 0 = nv α1 0 := nv_le H1.1 (by omega)
    have s1 : nv β 1 = nv α1 1 := nv_le H1.1 (by omega)
    have s2 : nv β 2 = nv α1 2 := nv_le H1.1 (by omega)
    obtain ⟨α', Ha, hm⟩ := hd_gpM (q := kh_bring_a34) (n := 0) (by decide +kernel) hx H1 (by decide +kernel) hxa hf
    have hfr := H1.2.2.2.2.2.2.2.2.2.2.1
    have m0 : nv α' 0 = nv β 0 := hm 0 0 rfl
    have m1 : nv α' 1 = nv β 1 := hm 1 1 rfl
    have m2 : nv α' 2 = nv β 3 := hm 2 3 rfl
    subst S'
    refine ih.2.2.2.1 _ _ _ _ Ha ?_ ?_
    · exact ⟨fun j hj => by rw [m2] at hj; exact hp.1 j (by omega), hp.2⟩
    · omega
set_option maxHeartbeats 16000000 in
set_option maxRecDepth 8000 in
theorem kh_bring_h67 {l : Launch} {D : va_G} {tc : Nat → ClassId} {ad : Nat → Nat} {kd : Nat → Nat × Nat} {N : Nat} {sm : Nat → Nat} {xs : List av_X} {S : fw_S} {p : Program} {e : Env} {s : State} {m : MethodId} {args : Array Value} {below : List Frame} {meth : Method} {c : Code} {sz : Nat} {lvE : List (Nat × Value)} (G : hd_C wd_ff2 wd_fl2 kh_bring [kh_in0, kh_592, kh_588, kh_failsK, kh_405] kh_bring_y l D tc ad kd N sm xs p s m args meth c sz) (H0 : as_in ad sm wd_fl2 xs S kh_bring.2.2.2.2.2.1 xs (hd_0 kh_bring) lvE [] S) {k : Nat} (ih : kh_bring_I l D tc ad kd N sm xs S p e s m args below meth c sz k) : (∀ (α : List av_X) (lv : List (Nat × Value)) (st : List Value) (S1 : fw_S), as_in ad sm wd_fl2 xs S kh_bring.2.2.2.2.2.1 α kh_bring_a67.2.2.1 lv st S1 → ((∀ j : Nat, (j : Int) < 4500 → S1.1 806 j = S.1 810 (4500 * (nv xs 1).toNat + j)) ∧ 0 ≤ nv xs 1 ∧ nv xs 1 ≤ 1 ∧ (S.1 812 (nv xs 1).toNat).toInt ≠ 0) → (3600 - nv α 2).toNat < k + 1 → hd_WR R_bring wd_fl2 kh_bring kh_bring_y l D tc ad kd N sm xs S p e s m args below meth c sz 67 lv st S1 0) := by
  have hx : xs.length = 2 := by rw [H0.2.1.1]; rfl
  have q510 : crewF (S.1 806) := by
    have h := H0.2.2.2.2.2.2.2.2.1 510 (by decide +kernel)
    rw [wd_fl2, if_neg (by decide)] at h
    exact h
  have q513 : stF (S.1 806) := by
    have h := H0.2.2.2.2.2.2.2.2.1 513 (by decide +kernel)
    rw [wd_fl2, if_neg (by decide)] at h
    exact h
  have q514 : imgF S := by
    have h := H0.2.2.2.2.2.2.2.2.1 514 (by decide +kernel)
    rw [wd_fl2, if_neg (by decide)] at h
    exact h
  have q515 : blF (S.1 806) 0 := by
    have h := H0.2.2.2.2.2.2.2.2.1 515 (by decide +kernel)
    rw [wd_fl2, if_neg (by decide)] at h
    exact h
  intro α lv st S1 H hp hk
  obtain ⟨α1, hle, Hr⟩ := as_recM (pl := []) [((807, 807), (0, 3599, 1))] (by decide +kernel) H
  have hf := H.2.2.2.2.2.2.2.2.2.2.1
  have hl1 : α1.length = 3 := by rw [Hr.2.1.1]; rfl
  have hl0 : α.length = 3 := by rw [H.2.1.1]; rfl
  have hxa : al_le xs α1 := H.1.trans hle
  obtain ⟨g1, -, g3, g4, -⟩ := as_fx Hr
  have g0 : (805 ≤ nv α1 0 ∧ nv α1 0 ≤ 805) ∧ (0 ≤ nv α1 1 ∧ nv α1 1 ≤ 1) ∧ (0 ≤ nv α1 2 ∧ nv α1 2 ≤ 9999) ∧ True := by
    refine ⟨by have h := (en_nv (i := 0) Hr.2.1 rfl).2; exact h, by have h := (en_nv (i := 1) Hr.2.1 rfl).2; exact h, by have h := (en_nv (i := 2) Hr.2.1 rfl).2; exact h, trivial⟩
  have r0 : nv α1 0 = nv α 0 := nv_le hle (by omega)
  have r1 : nv α1 1 = nv α 1 := nv_le hle (by omega)
  have r2 : nv α1 2 = nv α 2 := nv_le hle (by omega)
  refine hd_segMR G (na := 3) (fuel := 600) (first := true) (Bs := [kh_bring_b67_0, kh_bring_b67_1]) (by decide +kernel) hl1 Hr ?_
  intro q hq β lv' st' S' H1
  simp only [List.mem_cons, List.not_mem_nil, or_false] at hq
  rcases hq with rfl | rfl
  · obtain ⟨f1, f2, f3, f4, f5⟩ := as_fx H1
    simp only [kh_bring_b67_0, fx_env, fx_c, fx_ne, fx_hf, wl_S, Nat.zero_add, Nat.reduceAdd, Nat.reduceDiv, Nat.reduceMod, List.getElem?_cons_zero, List.getElem?_cons_succ, if_true, and_true, true_and] at f1 f2 f3 f4 f5
    have fe0 : nv β 0 = 805 := by omega
    have fe3 : nv β 3 = 3600 := by omega
    try simp only [fe0, fe3, Int.reduceToNat] at f2 f3 f4 f5
    have s0 : nv β 0 = nv α1 0 := nv_le H1.1 (by omega)
    have s1 : nv β 1 = nv α1 1 := nv_le H1.1 (by omega)
    have s2 : nv β 2 = nv α1 2 := nv_le H1.1 (by omega)
    have c0 := f2
    have z1 : nv α 1 = nv xs 1 := nv_le H.1 (by omega)
    obtain ⟨p1, p2, p3, p4⟩ := hp
    have hw2 : (nv xs 1).toNat < 2 := by omega
    have hall : ∀ j : Nat, j < 4500 → S'.1 806 j = S.1 810 (4500 * (nv xs 1).toNat + j) := fun j hj => by rw [f5]; exact p1 j (by omega)
    have hg : gdF (S'.1 806) := gdF_eq hall (q514 _ hw2 p4)
    have hR : R_bring xs S (.inl none) S' := ⟨fun w hw e _ j hj => by rw [show w = (nv xs 1).toNat by omega]; exact hall j hj, fun hn => by exfalso; exact p4 (hn (nv xs 1).toNat hw2 (by omega))⟩
    have e10 : S'.1 810 = S.1 810 := by rw [f5]; exact fr_row hf 810 (by decide +kernel)
    have e12 : S'.1 812 = S.1 812 := by rw [f5]; exact fr_row hf 812 (by decide +kernel)
    have hI : imgF S' := fun w hw h1 => by
      rw [e12] at h1
      rw [e10]
      exact q514 w hw h1
    exact hd_retIR G (v := 4) (by decide +kernel) (as_fl_in (f := [510, 513, 514, 515]) (as_backM H1 (by decide +kernel) hxa hf) (fun g hg' => by
      rcases List.mem_cons.mp hg' with rfl | hg'
      · rw [wd_fl2, if_neg (by decide)]; exact hg.2.1
      rcases List.mem_cons.mp hg' with rfl | hg'
      · rw [wd_fl2, if_neg (by decide)]; exact hg.2.2.1
      rcases List.mem_cons.mp hg' with rfl | hg'
      · rw [wd_fl2, if_neg (by decide)]; exact hI
      rcases List.mem_singleton.mp hg' with rfl
      rw [wd_fl2, if_neg (by decide)]; exact hg.2.2.2)) _ List.mem_cons_self rfl (by decide +kernel) (by decide) (fun w hw => by cases hw) (fun x hx => hR)
  · obtain ⟨f1, f2, f3, f4, f5⟩ := as_fx H1
    simp only [kh_bring_b67_1, fx_env, fx_c, fx_ne, fx_hf, wl_S, Nat.zero_add, Nat.reduceAdd, Nat.reduceDiv, Nat.reduceMod, List.getElem?_cons_zero, List.getElem?_cons_succ, if_true, and_true, true_and] at f1 f2 f3 f4 f5
    have fe0 : nv β 0 = 805 := by omega
    have fe3 : nv β 3 = 3600 := by omega
    have fe4 : nv β 4 = 807 := by omega
    have fe5 : nv β 5 = 811 := by omega
    have fe6 : nv β 6 = 3600 := by omega
    try simp only [fe0, fe3, fe4, fe5, fe6, Int.reduceToNat] at f2 f3 f4 f5
    have s0 : nv β 0 = nv α1 0 := nv_le H1.1 (by omega)
    have s1 : nv β 1 = nv α1 1 := nv_le H1.1 (by omega)
    have s2 : nv β 2 = nv α1 2 := nv_le H1.1 (by omega)
    obtain ⟨c0, c1, c2, c3⟩ := f2
    obtain ⟨α', Ha, hm⟩ := hd_gpM (q := kh_bring_a67) (n := 0) (by decide +kernel) hx H1 (by decide +kernel) hxa hf
    have hfr := H1.2.2.2.2.2.2.2.2.2.2.1
    have m0 : nv α' 0 = nv β 0 := hm 0 0 rfl
    have m1 : nv α' 1 = nv β 1 := hm 1 1 rfl
    have m2 : nv α' 2 = nv β 10 := hm 2 10 rfl
    have e6 := fr_row hfr 806 (by decide +kernel)
    refine ih.2.2.2.2.2.2.1 _ _ _ _ Ha ?_ ?_
    · rw [e6]; exact hp
    · omega
set_option maxHeartbeats 16000000 in
set_option maxRecDepth 8000 in
theorem kh_bring_okR : ct_okR wd_fl2 kh_bring R_bring := ct_handR (R := R_bring) (ff := wd_ff2) (y := kh_bring_y) (Cs := [kh_in0, kh_592, kh_588, kh_failsK, kh_405]) wd_fl2_ok rfl (List.forall_mem_cons.mpr ⟨kh_in0_ok, (List.forall_mem_cons.mpr ⟨kh_592_ok, (List.forall_mem_cons.mpr ⟨kh_588_ok, (List.forall_mem_cons.mpr ⟨kh_failsK_ok, (List.forall_mem_cons.mpr ⟨kh_405_l2, (List.forall_mem_nil _)⟩)⟩)⟩)⟩)⟩) (by decide +kernel) (fun l D tc ad kd N sm xs S p e s m args below meth c sz lv G H0 => by
  have hx : xs.length = 2 := by rw [H0.2.1.1]; rfl
  have q510 : crewF (S.1 806) := by
    have h := H0.2.2.2.2.2.2.2.2.1 510 (by decide +kernel)
    rw [wd_fl2, if_neg (by decide)] at h
    exact h
  have q513 : stF (S.1 806) := by
    have h := H0.2.2.2.2.2.2.2.2.1 513 (by decide +kernel)
    rw [wd_fl2, if_neg (by decide)] at h
    exact h
  have q514 : imgF S := by
    have h := H0.2.2.2.2.2.2.2.2.1 514 (by decide +kernel)
    rw [wd_fl2, if_neg (by decide)] at h
    exact h
  have q515 : blF (S.1 806) 0 := by
    have h := H0.2.2.2.2.2.2.2.2.1 515 (by decide +kernel)
    rw [wd_fl2, if_neg (by decide)] at h
    exact h
  have hP : ∀ (k : Nat), kh_bring_I l D tc ad kd N sm xs S p e s m args below meth c sz k := by
    intro k
    induction k with
    | zero => exact ⟨fun _ _ _ _ _ _ h => absurd h (Nat.not_lt_zero _), fun _ _ _ _ _ _ h => absurd h (Nat.not_lt_zero _), fun _ _ _ _ _ _ h => absurd h (Nat.not_lt_zero _), fun _ _ _ _ _ _ h => absurd h (Nat.not_lt_zero _), fun _ _ _ _ _ _ h => absurd h (Nat.not_lt_zero _), fun _ _ _ _ _ _ h => absurd h (Nat.not_lt_zero _), fun _ _ _ _ _ _ h => absurd h (Nat.not_lt_zero _), trivial⟩
    | succ k ih => exact ⟨kh_bring_h16 G H0 ih, kh_bring_h24 G H0 ih, kh_bring_h27 G H0 ih, kh_bring_h34 G H0 ih, kh_bring_h58 G H0 ih, kh_bring_h59 G H0 ih, kh_bring_h67 G H0 ih, trivial⟩
  obtain ⟨α1, hle, Hr⟩ := as_recM (pl := []) [((805, 805), (8, 8, 0))] (by decide +kernel) H0
  have hf := H0.2.2.2.2.2.2.2.2.2.2.1
  have hl1 : α1.length = 2 := by rw [Hr.2.1.1]; rfl
  have hl0 : xs.length = 2 := by rw [H0.2.1.1]; rfl
  have hxa : al_le xs α1 := H0.1.trans hle
  obtain ⟨g1, -, g3, g4, -⟩ := as_fx Hr
  have g0 : (805 ≤ nv α1 0 ∧ nv α1 0 ≤ 805) ∧ ((-2147483648) ≤ nv α1 1 ∧ nv α1 1 ≤ 2147483647) ∧ True := by
    refine ⟨by have h := (en_nv (i := 0) Hr.2.1 rfl).2; exact h, by have h := (en_nv (i := 1) Hr.2.1 rfl).2; exact h, trivial⟩
  have r0 : nv α1 0 = nv xs 0 := nv_le hle (by omega)
  have r1 : nv α1 1 = nv xs 1 := nv_le hle (by omega)
  refine hd_segMR G (na := 2) (fuel := 600) (first := true) (Bs := [kh_bring_b0_0, kh_bring_b0_1]) (by decide +kernel) hl1 Hr ?_
  intro q hq β lv' st' S' H1
  simp only [List.mem_cons, List.not_mem_nil, or_false] at hq
  rcases hq with rfl | rfl
  · obtain ⟨f1, f2, f3, f4, f5⟩ := as_fx H1
    simp only [kh_bring_b0_0, fx_env, fx_c, fx_ne, fx_hf, wl_S, Nat.zero_add, Nat.reduceAdd, Nat.reduceDiv, Nat.reduceMod, List.getElem?_cons_zero, List.getElem?_cons_succ, if_true, and_true, true_and] at f1 f2 f3 f4 f5
    have fe0 : nv β 0 = 805 := by omega
    have fe2 : nv β 2 = 0 := by omega
    have fe3 : nv β 3 = 1 := by omega
    have fe4 : nv β 4 = 0 := by omega
    have fe5 : nv β 5 = 1 := by omega
    have fe6 : nv β 6 = 1 := by omega
    have fe7 : nv β 7 = 0 := by omega
    try simp only [fe0, fe2, fe3, fe4, fe5, fe6, fe7, Int.reduceToNat] at f2 f3 f4 f5
    have s0 : nv β 0 = nv α1 0 := nv_le H1.1 (by omega)
    have s1 : nv β 1 = nv α1 1 := nv_le H1.1 (by omega)
    have c0 := f2
    have d0 := c0
    simp only [wd_fl2, if_neg (show ¬ (wd_base1 40 = true) by decide)] at d0
    have e6 : S'.1 806 = S.1 806 := fr_row H1.2.2.2.2.2.2.2.2.2.2.1 806 (by decide +kernel)
    have hR : R_bring xs S (.inl none) S' := ⟨fun w hw e => by (exfalso; unfold b2i at d0; split at d0 <;> omega), fun _ => e6⟩
    exact hd_retIR G (v := 7) (by decide +kernel) (as_backM H1 (by decide +kernel) hxa hf) _ List.mem_cons_self rfl (by decide +kernel) (by decide) (fun w hw => by cases hw) (fun x hx => hR)
  · obtain ⟨f1, f2, f3, f4, f5⟩ := as_fx H1
    simp only [kh_bring_b0_1, fx_env, fx_c, fx_ne, fx_hf, wl_S, Nat.zero_add, Nat.reduceAdd, Nat.reduceDiv, Nat.reduceMod, List.getElem?_cons_zero, List.getElem?_cons_succ, if_true, and_true, true_and] at f1 f2 f3 f4 f5
    have fe0 : nv β 0 = 805 := by omega
    have fe2 : nv β 2 = 0 := by omega
    have fe3 : nv β 3 = 1 := by omega
    have fe4 : nv β 4 = 1 := by omega
    have fe5 : nv β 5 = 1 := by omega
    have fe6 : nv β 6 = 0 := by omega
    try simp only [fe0, fe2, fe3, fe4, fe5, fe6, Int.reduceToNat] at f2 f3 f4 f5
    have s0 : nv β 0 = nv α1 0 := nv_le H1.1 (by omega)
    have s1 : nv β 1 = nv α1 1 := nv_le H1.1 (by omega)
    have c0 := f2
    obtain ⟨α', Ha, hm⟩ := hd_gpM (q := kh_bring_a16) (n := 0) (by decide +kernel) hx H1 (by decide +kernel) hxa hf
    have hfr := H1.2.2.2.2.2.2.2.2.2.2.1
    have m0 : nv α' 0 = nv β 0 := hm 0 0 rfl
    have m1 : nv α' 1 = nv β 1 := hm 1 1 rfl
    have e6 : S'.1 806 = S.1 806 := fr_row hfr 806 (by decide +kernel)
    refine (hP _).1 _ _ _ _ Ha ?_ (Nat.lt_succ_self _)
    · exact e6)
theorem kh_bring_ok : ct_ok wd_fl2 kh_bring := ct_okR_ok kh_bring_okR
