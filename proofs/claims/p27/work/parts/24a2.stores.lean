/-! ===== the class: stores ===== -/
theorem stE_v {S : fw_S} {q : Nat} (hq : q < 4) : stE (vF S) q = (S.1 (781 + q) 0).toInt - (stFirst q + (S.1 (781 + q) 5).toInt - (S.1 (781 + q) 6).toInt - (S.1 (781 + q) 4).toInt) := by
  unfold stE
  rw [vF_s0 hq, vF_s5 hq, vF_s6 hq, vF_s4 hq]
abbrev kh_stTake_y : mt_T := (⟨"UtilityWorks$Stores", "take", "(II)V"⟩, prog_9_method_4_code, 3, none, 7, 1, 2, 26172, 26170, 26171, 21012)
def kh_stTake : ct_T := (139, [(2, 779, 779, 1), (0, 0, 3, 1), (0, (-2147483648), 2147483647, 1)], [], [522], [(0, (0, 0, 0, 0), [(2, 779, 779, 1), (0, 0, 3, 1), (0, (-2147483648), 2147483647, 1)], [], ([522], []))], [((781, 784), (0, 0, 0)), ((781, 784), (4, 4, 0))], 0, 0, 0)
def kh_stTake_a12 : an_T := (12, 0, ([((2, 779, 779, 1), none), ((0, 0, 3, 1), none), ((0, (-2147483648), 2147483647, 1), none)], [(0, 0), (1, 1), (2, 2)], [], [], [], [], [], [], none), [])
def kh_stTake_b0_0 : sg_T := (12, 0, ([((2, 779, 779, 1), none), ((0, 0, 3, 1), none), ((0, (-2147483648), 2147483647, 1), none), ((2, 780, 780, 1), none), ((2, 781, 784, 1), none), ((0, 0, 0, 0), none), ((0, (-2147483648), 2147483647, 1), none), ((0, (-2147483648), 2147483647, 1), none)], [(0, 0), (1, 1), (2, 2)], [], [(4, 5, 7), (3, 1, 4)], [], [(900100007, 6, 2), (800006, 4, 5)], [], [], some [(4, 5, 7)]))
def kh_stTake_b12_0 : sg_T := (24, 0, ([((2, 779, 779, 1), none), ((0, 0, 3, 1), none), ((0, (-2147483648), 2147483647, 1), none), ((2, 780, 780, 1), none), ((2, 781, 784, 1), none), ((0, 4, 4, 0), none), ((0, (-2147483648), 2147483647, 1), none), ((0, (-2147483648), 2147483647, 1), none)], [(0, 0), (1, 1), (2, 2)], [], [(4, 5, 7), (3, 1, 4)], [], [(900000007, 6, 2), (800006, 4, 5)], [], [], some [(4, 5, 7)]))
def kh_stTake_I (l : Launch) (D : va_G) (tc : Nat → ClassId) (ad : Nat → Nat) (kd : Nat → Nat × Nat) (N : Nat) (sm : Nat → Nat) (xs : List av_X) (S : fw_S) (p : Program) (e : Env) (s : State) (m : MethodId) (args : Array Value) (below : List Frame) (meth : Method) (c : Code) (sz : Nat) (k : Nat) : Prop := (∀ (α : List av_X) (lv : List (Nat × Value)) (st : List Value) (S1 : fw_S), as_in ad sm wd_fl2 xs S kh_stTake.2.2.2.2.2.1 α kh_stTake_a12.2.2.1 lv st S1 → ((∀ q : Nat, q < 4 → (stE (vF S1) q + (if (q : Int) = nv xs 1 then nv xs 2 else 0)) % 4294967296 = 0)) → 0 < k → hd_W wd_fl2 kh_stTake kh_stTake_y l D tc ad kd N sm xs S p e s m args below meth c sz 12 lv st S1 0) ∧ True
set_option maxHeartbeats 16000000 in
set_option maxRecDepth 8000 in
theorem kh_stTake_h12 {l : Launch} {D : va_G} {tc : Nat → ClassId} {ad : Nat → Nat} {kd : Nat → Nat × Nat} {N : Nat} {sm : Nat → Nat} {xs : List av_X} {S : fw_S} {p : Program} {e : Env} {s : State} {m : MethodId} {args : Array Value} {below : List Frame} {meth : Method} {c : Code} {sz : Nat} {lvE : List (Nat × Value)} (G : hd_C wd_ff2 wd_fl2 kh_stTake [] kh_stTake_y l D tc ad kd N sm xs p s m args meth c sz) (H0 : as_in ad sm wd_fl2 xs S kh_stTake.2.2.2.2.2.1 xs (hd_0 kh_stTake) lvE [] S) {k : Nat} (ih : kh_stTake_I l D tc ad kd N sm xs S p e s m args below meth c sz k) : (∀ (α : List av_X) (lv : List (Nat × Value)) (st : List Value) (S1 : fw_S), as_in ad sm wd_fl2 xs S kh_stTake.2.2.2.2.2.1 α kh_stTake_a12.2.2.1 lv st S1 → ((∀ q : Nat, q < 4 → (stE (vF S1) q + (if (q : Int) = nv xs 1 then nv xs 2 else 0)) % 4294967296 = 0)) → 0 < k + 1 → hd_W wd_fl2 kh_stTake kh_stTake_y l D tc ad kd N sm xs S p e s m args below meth c sz 12 lv st S1 0) := by
  have hx : xs.length = 3 := by rw [H0.2.1.1]; rfl
  have q522 : stF (vF S) := by
    have h := H0.2.2.2.2.2.2.2.2.1 522 (by decide +kernel)
    rw [wd_fl2, if_neg (by decide)] at h
    exact h
  have x1 := (en_nv (i := 1) H0.2.1 rfl).2
  change 0 ≤ nv xs 1 ∧ nv xs 1 ≤ 3 at x1
  intro α lv st S1 H hp hk
  obtain ⟨α1, hle, Hr⟩ := as_recM (pl := []) [((781, 784), (4, 4, 0))] (by decide +kernel) H
  have hf := H.2.2.2.2.2.2.2.2.2.2.1
  have hl1 : α1.length = 3 := by rw [Hr.2.1.1]; rfl
  have hl0 : α.length = 3 := by rw [H.2.1.1]; rfl
  have hxa : al_le xs α1 := H.1.trans hle
  obtain ⟨g1, -, g3, g4, -⟩ := as_fx Hr
  have g0 : (779 ≤ nv α1 0 ∧ nv α1 0 ≤ 779) ∧ (0 ≤ nv α1 1 ∧ nv α1 1 ≤ 3) ∧ ((-2147483648) ≤ nv α1 2 ∧ nv α1 2 ≤ 2147483647) ∧ True := by
    refine ⟨by have h := (en_nv (i := 0) Hr.2.1 rfl).2; exact h, by have h := (en_nv (i := 1) Hr.2.1 rfl).2; exact h, by have h := (en_nv (i := 2) Hr.2.1 rfl).2; exact h, trivial⟩
  have r0 : nv α1 0 = nv α 0 := nv_le hle (by omega)
  have r1 : nv α1 1 = nv α 1 := nv_le hle (by omega)
  have r2 : nv α1 2 = nv α 2 := nv_le hle (by omega)
  refine hd_segM G (na := 3) (fuel := 600) (first := true) (Bs := [kh_stTake_b12_0]) (by decide +kernel) hl1 Hr ?_
  intro q hq β lv' st' S' H1
  simp only [List.mem_cons, List.not_mem_nil, or_false] at hq
  rcases hq with rfl
  · obtain ⟨f1, f2, f3, f4, f5⟩ := as_fx H1
    simp only [kh_stTake_b12_0, Nat.reduceEqDiff, if_false, fx_env, fx_c, fx_ne, fx_hf, wl_S, Nat.zero_add, Nat.reduceAdd, Nat.reduceDiv, Nat.reduceMod, List.getElem?_cons_zero, List.getElem?_cons_succ, if_true, and_true, true_and] at f1 f2 f3 f4 f5
    have fe0 : nv β 0 = 779 := by omega
    have fe3 : nv β 3 = 780 := by omega
    have fe5 : nv β 5 = 4 := by omega
    try simp only [fe0, fe3, fe5, Int.reduceToNat] at f2 f3 f4 f5
    have s0 : nv β 0 = nv α1 0 := nv_le H1.1 (by omega)
    have s1 : nv β 1 = nv α1 1 := nv_le H1.1 (by omega)
    have s2 : nv β 2 = nv α1 2 := nv_le H1.1 (by omega)
    obtain ⟨c0, c1⟩ := f2
    have z1 : nv α 1 = nv xs 1 := nv_le H.1 (by omega)
    have z2 : nv α 2 = nv xs 2 := nv_le H.1 (by omega)
    have rt4 := hf_rt (c := 780) (lo := 0) (hi := 3) (base := 781) (rv := 3) (iv := 1) (n := 4) (by decide +kernel) (by decide +kernel) H1 (by decide +kernel) (by omega) (by omega) (by omega)
    have o1 := old_i c1 (en_nv (i := 6) H1.2.1 rfl).1
    have wA : ∀ a b : Nat, S'.1 a b = (if a = (nv β 4).toNat ∧ b = 4 then Int32.ofInt (nv β 7) else (S1.1 a b)) := fun a b => by rw [f5]; rfl
    have hst : ∀ q : Nat, q < 4 → stE (vF S') q = stE (vF S1) q + (if (q : Int) = nv xs 1 then nv β 7 - nv β 6 else 0) := by
      intro q hq
      rw [stE_v hq, stE_v hq]
      by_cases e : (q : Int) = nv xs 1
      · rw [if_pos e]
        have e0 : S'.1 (781 + q) 0 = S1.1 (781 + q) 0 := by rw [wA, if_neg (by omega)]
        have e5 : S'.1 (781 + q) 5 = S1.1 (781 + q) 5 := by rw [wA, if_neg (by omega)]
        have e6 : S'.1 (781 + q) 6 = S1.1 (781 + q) 6 := by rw [wA, if_neg (by omega)]
        have eW : (S'.1 (781 + q) 4).toInt = nv β 7 := by rw [wA, if_pos ⟨by omega, rfl⟩, i32_of (by omega) (by omega)]
        have eO : (S1.1 (781 + q) 4).toInt = nv β 6 := by rw [show 781 + q = (nv β 4).toNat by omega]; exact o1
        rw [e0, e5, e6, eW, eO]
        omega
      · rw [if_neg e, wA, if_neg (by omega), wA, if_neg (by omega), wA, if_neg (by omega), wA, if_neg (by omega)]
        omega
    have hg : stF (vF S') := by
      intro q hq
      have h1 := hst q hq
      have h2 := hp q hq
      show stE (vF S') q % 4294967296 = 0
      rw [h1]
      by_cases e : (q : Int) = nv xs 1
      · rw [if_pos e] at h2 ⊢
        omega
      · rw [if_neg e] at h2 ⊢; omega
    exact hd_run G (ss := []) (fuel := 20) (by decide +kernel) (as_fl_in (f := [522]) (as_backM H1 (by decide +kernel) hxa hf) (fun g hg0 => by
      rcases List.mem_singleton.mp hg0 with rfl
      rw [wd_fl2, if_neg (by decide)]; exact hg))
set_option maxHeartbeats 16000000 in
set_option maxRecDepth 8000 in
theorem kh_stTake_ok : ct_ok wd_fl2 kh_stTake := ct_hand (ff := wd_ff2) (y := kh_stTake_y) (Cs := []) wd_fl2_ok rfl (List.forall_mem_nil _) (by decide +kernel) (fun l D tc ad kd N sm xs S p e s m args below meth c sz lv G H0 => by
  have hx : xs.length = 3 := by rw [H0.2.1.1]; rfl
  have q522 : stF (vF S) := by
    have h := H0.2.2.2.2.2.2.2.2.1 522 (by decide +kernel)
    rw [wd_fl2, if_neg (by decide)] at h
    exact h
  have x1 := (en_nv (i := 1) H0.2.1 rfl).2
  change 0 ≤ nv xs 1 ∧ nv xs 1 ≤ 3 at x1
  have hP : ∀ (k : Nat), kh_stTake_I l D tc ad kd N sm xs S p e s m args below meth c sz k := by
    intro k
    induction k with
    | zero => exact ⟨fun _ _ _ _ _ _ h => absurd h (Nat.not_lt_zero _), trivial⟩
    | succ k ih => exact ⟨kh_stTake_h12 G H0 ih, trivial⟩
  obtain ⟨α1, hle, Hr⟩ := as_recM (pl := []) [((781, 784), (0, 0, 0))] (by decide +kernel) H0
  have hf := H0.2.2.2.2.2.2.2.2.2.2.1
  have hl1 : α1.length = 3 := by rw [Hr.2.1.1]; rfl
  have hl0 : xs.length = 3 := by rw [H0.2.1.1]; rfl
  have hxa : al_le xs α1 := H0.1.trans hle
  obtain ⟨g1, -, g3, g4, -⟩ := as_fx Hr
  have g0 : (779 ≤ nv α1 0 ∧ nv α1 0 ≤ 779) ∧ (0 ≤ nv α1 1 ∧ nv α1 1 ≤ 3) ∧ ((-2147483648) ≤ nv α1 2 ∧ nv α1 2 ≤ 2147483647) ∧ True := by
    refine ⟨by have h := (en_nv (i := 0) Hr.2.1 rfl).2; exact h, by have h := (en_nv (i := 1) Hr.2.1 rfl).2; exact h, by have h := (en_nv (i := 2) Hr.2.1 rfl).2; exact h, trivial⟩
  have r0 : nv α1 0 = nv xs 0 := nv_le hle (by omega)
  have r1 : nv α1 1 = nv xs 1 := nv_le hle (by omega)
  have r2 : nv α1 2 = nv xs 2 := nv_le hle (by omega)
  refine hd_segM G (na := 3) (fuel := 600) (first := true) (Bs := [kh_stTake_b0_0]) (by decide +kernel) hl1 Hr ?_
  intro q hq β lv' st' S' H1
  simp only [List.mem_cons, List.not_mem_nil, or_false] at hq
  rcases hq with rfl
  · obtain ⟨f1, f2, f3, f4, f5⟩ := as_fx H1
    simp only [kh_stTake_b0_0, Nat.reduceEqDiff, if_false, fx_env, fx_c, fx_ne, fx_hf, wl_S, Nat.zero_add, Nat.reduceAdd, Nat.reduceDiv, Nat.reduceMod, List.getElem?_cons_zero, List.getElem?_cons_succ, if_true, and_true, true_and] at f1 f2 f3 f4 f5
    have fe0 : nv β 0 = 779 := by omega
    have fe3 : nv β 3 = 780 := by omega
    have fe5 : nv β 5 = 0 := by omega
    try simp only [fe0, fe3, fe5, Int.reduceToNat] at f2 f3 f4 f5
    have s0 : nv β 0 = nv α1 0 := nv_le H1.1 (by omega)
    have s1 : nv β 1 = nv α1 1 := nv_le H1.1 (by omega)
    have s2 : nv β 2 = nv α1 2 := nv_le H1.1 (by omega)
    obtain ⟨c0, c1⟩ := f2
    obtain ⟨α', Ha, hm⟩ := hd_gpM (q := kh_stTake_a12) (n := 0) (by decide +kernel) hx H1 (by decide +kernel) hxa hf
    have hfr := H1.2.2.2.2.2.2.2.2.2.2.1
    have m0 : nv α' 0 = nv β 0 := hm 0 0 rfl
    have m1 : nv α' 1 = nv β 1 := hm 1 1 rfl
    have m2 : nv α' 2 = nv β 2 := hm 2 2 rfl
    have rt4 := hf_rt (c := 780) (lo := 0) (hi := 3) (base := 781) (rv := 3) (iv := 1) (n := 4) (by decide +kernel) (by decide +kernel) H1 (by decide +kernel) (by omega) (by omega) (by omega)
    have o1 := old_i c1 (en_nv (i := 6) H1.2.1 rfl).1
    have wA : ∀ a b : Nat, S'.1 a b = (if a = (nv β 4).toNat ∧ b = 0 then Int32.ofInt (nv β 7) else (S.1 a b)) := fun a b => by rw [f5]; rfl
    have hst : ∀ q : Nat, q < 4 → stE (vF S') q = stE (vF S) q + (if (q : Int) = nv xs 1 then nv β 7 - nv β 6 else 0) := by
      intro q hq
      rw [stE_v hq, stE_v hq]
      by_cases e : (q : Int) = nv xs 1
      · rw [if_pos e]
        have e4 : S'.1 (781 + q) 4 = S.1 (781 + q) 4 := by rw [wA, if_neg (by omega)]
        have e5 : S'.1 (781 + q) 5 = S.1 (781 + q) 5 := by rw [wA, if_neg (by omega)]
        have e6 : S'.1 (781 + q) 6 = S.1 (781 + q) 6 := by rw [wA, if_neg (by omega)]
        have eW : (S'.1 (781 + q) 0).toInt = nv β 7 := by rw [wA, if_pos ⟨by omega, rfl⟩, i32_of (by omega) (by omega)]
        have eO : (S.1 (781 + q) 0).toInt = nv β 6 := by rw [show 781 + q = (nv β 4).toNat by omega]; exact o1
        rw [e4, e5, e6, eW, eO]
        omega
      · rw [if_neg e, wA, if_neg (by omega), wA, if_neg (by omega), wA, if_neg (by omega), wA, if_neg (by omega)]
        omega
    refine (hP _).1 _ _ _ _ Ha ?_ (Nat.lt_succ_self _)
    · intro q hq
      have h1 := hst q hq
      have h2 := q522 q hq
      change stE (vF S) q % 4294967296 = 0 at h2
      rw [h1]
      by_cases e : (q : Int) = nv xs 1
      · rw [if_pos e, if_pos e]; omega
      · rw [if_neg e, if_neg e]; omega)
abbrev kh_stStore_y : mt_T := (⟨"UtilityWorks$Stores", "store", "(II)V"⟩, prog_9_method_10_code, 5, none, 7, 1, 2, 27125, 27124, 3009, 21012)
def kh_stStore : ct_T := (179, [(2, 779, 779, 1), (0, 0, 3, 1), (0, (-2147483648), 2147483647, 1)], [], [522], [(0, (0, 0, 0, 0), [(2, 779, 779, 1), (0, 0, 3, 1), (0, (-2147483648), 2147483647, 1)], [], ([522], []))], [((781, 784), (0, 0, 0)), ((781, 784), (5, 5, 0)), ((781, 784), (6, 6, 0))], 1, 40, 0)
def kh_stStore_a28 : an_T := (28, 0, ([((2, 779, 779, 1), none), ((0, 0, 3, 1), none), ((0, (-2147483648), 2147483647, 1), none), ((2, 781, 784, 1), none), ((0, (-2147483648), 2147483647, 1), none)], [(0, 0), (1, 1), (2, 2), (3, 3), (4, 4)], [], [], [], [], [], [], none), [])
def kh_stStore_a35 : an_T := (35, 0, ([((2, 779, 779, 1), none), ((0, 0, 3, 1), none), ((0, (-2147483648), 2147483647, 1), none), ((2, 781, 784, 1), none), ((0, (-2147483648), 2147483647, 1), none)], [(0, 0), (1, 1), (2, 2), (3, 3), (4, 4)], [], [], [], [], [], [], none), [])
def kh_stStore_b0_0 : sg_T := (28, 0, ([((2, 779, 779, 1), none), ((0, 0, 3, 1), none), ((0, (-2147483648), 2147483647, 1), none), ((2, 780, 780, 1), none), ((2, 781, 784, 1), none), ((0, 999, 999, 0), none), ((0, 0, 0, 0), none), ((0, (-2147483648), 2147483647, 1), none), ((0, (-2147483648), 2147483647, 1), none), ((0, (-2147483648), 2147483647, 1), none), ((0, 0, 0, 0), none), ((0, (-2147483648), 2147483647, 1), none)], [(4, 9), (3, 4), (0, 0), (1, 1), (2, 2)], [], [(4, 10, 11), (3, 1, 4)], [], [(900000011, 7, 9), (900100008, 5, 7), (800007, 4, 6)], [], [], some [(4, 10, 11)]))
def kh_stStore_b28_0 : sg_T := (35, 0, ([((2, 779, 779, 1), none), ((0, 0, 3, 1), none), ((0, (-2147483648), 2147483647, 1), none), ((2, 781, 784, 1), none), ((0, (-2147483648), 2147483647, 1), none), ((0, 5, 5, 0), none), ((0, (-2147483648), 2147483647, 1), none), ((0, (-2147483648), 2147483647, 1), none)], [(0, 0), (1, 1), (2, 2), (3, 3), (4, 4)], [], [(3, 5, 7)], [], [(900000007, 6, 2), (800006, 3, 5)], [], [], some [(3, 5, 7)]))
def kh_stStore_b35_0 : sg_T := (46, 0, ([((2, 779, 779, 1), none), ((0, 0, 3, 1), none), ((0, (-2147483648), 2147483647, 1), none), ((2, 781, 784, 1), none), ((0, (-2147483648), 2147483647, 1), none), ((0, 6, 6, 0), none), ((0, (-2147483648), 2147483647, 1), none), ((0, (-2147483648), 2147483647, 1), none), ((0, (-2147483648), 2147483647, 1), none)], [(0, 0), (1, 1), (2, 2), (3, 3), (4, 4)], [], [(3, 5, 8)], [], [(900000008, 6, 7), (900100007, 2, 4), (800006, 3, 5)], [], [], some [(3, 5, 8)]))
def kh_stStore_I (l : Launch) (D : va_G) (tc : Nat → ClassId) (ad : Nat → Nat) (kd : Nat → Nat × Nat) (N : Nat) (sm : Nat → Nat) (xs : List av_X) (S : fw_S) (p : Program) (e : Env) (s : State) (m : MethodId) (args : Array Value) (below : List Frame) (meth : Method) (c : Code) (sz : Nat) (k : Nat) : Prop := (∀ (α : List av_X) (lv : List (Nat × Value)) (st : List Value) (S1 : fw_S), as_in ad sm wd_fl2 xs S kh_stStore.2.2.2.2.2.1 α kh_stStore_a28.2.2.1 lv st S1 → (nv α 3 = 781 + nv xs 1 ∧ (∀ q : Nat, q < 4 → (stE (vF S1) q + (if (q : Int) = nv xs 1 then - nv α 4 else 0)) % 4294967296 = 0)) → 5 < k → hd_W wd_fl2 kh_stStore kh_stStore_y l D tc ad kd N sm xs S p e s m args below meth c sz 28 lv st S1 0) ∧ (∀ (α : List av_X) (lv : List (Nat × Value)) (st : List Value) (S1 : fw_S), as_in ad sm wd_fl2 xs S kh_stStore.2.2.2.2.2.1 α kh_stStore_a35.2.2.1 lv st S1 → (nv α 3 = 781 + nv xs 1 ∧ (∀ q : Nat, q < 4 → (stE (vF S1) q + (if (q : Int) = nv xs 1 then nv xs 2 - nv α 4 else 0)) % 4294967296 = 0)) → 0 < k → hd_W wd_fl2 kh_stStore kh_stStore_y l D tc ad kd N sm xs S p e s m args below meth c sz 35 lv st S1 0) ∧ True
set_option maxHeartbeats 16000000 in
set_option maxRecDepth 8000 in
theorem kh_stStore_h28 {l : Launch} {D : va_G} {tc : Nat → ClassId} {ad : Nat → Nat} {kd : Nat → Nat × Nat} {N : Nat} {sm : Nat → Nat} {xs : List av_X} {S : fw_S} {p : Program} {e : Env} {s : State} {m : MethodId} {args : Array Value} {below : List Frame} {meth : Method} {c : Code} {sz : Nat} {lvE : List (Nat × Value)} (G : hd_C wd_ff2 wd_fl2 kh_stStore [] kh_stStore_y l D tc ad kd N sm xs p s m args meth c sz) (H0 : as_in ad sm wd_fl2 xs S kh_stStore.2.2.2.2.2.1 xs (hd_0 kh_stStore) lvE [] S) {k : Nat} (ih : kh_stStore_I l D tc ad kd N sm xs S p e s m args below meth c sz k) : (∀ (α : List av_X) (lv : List (Nat × Value)) (st : List Value) (S1 : fw_S), as_in ad sm wd_fl2 xs S kh_stStore.2.2.2.2.2.1 α kh_stStore_a28.2.2.1 lv st S1 → (nv α 3 = 781 + nv xs 1 ∧ (∀ q : Nat, q < 4 → (stE (vF S1) q + (if (q : Int) = nv xs 1 then - nv α 4 else 0)) % 4294967296 = 0)) → 5 < k + 1 → hd_W wd_fl2 kh_stStore kh_stStore_y l D tc ad kd N sm xs S p e s m args below meth c sz 28 lv st S1 0) := by
  have hx : xs.length = 3 := by rw [H0.2.1.1]; rfl
  have q522 : stF (vF S) := by
    have h := H0.2.2.2.2.2.2.2.2.1 522 (by decide +kernel)
    rw [wd_fl2, if_neg (by decide)] at h
    exact h
  have x1 := (en_nv (i := 1) H0.2.1 rfl).2
  change 0 ≤ nv xs 1 ∧ nv xs 1 ≤ 3 at x1
  intro α lv st S1 H hp hk
  obtain ⟨α1, hle, Hr⟩ := as_recM (pl := []) [((781, 784), (5, 5, 0))] (by decide +kernel) H
  have hf := H.2.2.2.2.2.2.2.2.2.2.1
  have hl1 : α1.length = 5 := by rw [Hr.2.1.1]; rfl
  have hl0 : α.length = 5 := by rw [H.2.1.1]; rfl
  have hxa : al_le xs α1 := H.1.trans hle
  obtain ⟨g1, -, g3, g4, -⟩ := as_fx Hr
  have g0 : (779 ≤ nv α1 0 ∧ nv α1 0 ≤ 779) ∧ (0 ≤ nv α1 1 ∧ nv α1 1 ≤ 3) ∧ ((-2147483648) ≤ nv α1 2 ∧ nv α1 2 ≤ 2147483647) ∧ (781 ≤ nv α1 3 ∧ nv α1 3 ≤ 784) ∧ ((-2147483648) ≤ nv α1 4 ∧ nv α1 4 ≤ 2147483647) ∧ True := by
    refine ⟨by have h := (en_nv (i := 0) Hr.2.1 rfl).2; exact h, by have h := (en_nv (i := 1) Hr.2.1 rfl).2; exact h, by have h := (en_nv (i := 2) Hr.2.1 rfl).2; exact h, by have h := (en_nv (i := 3) Hr.2.1 rfl).2; exact h, by have h := (en_nv (i := 4) Hr.2.1 rfl).2; exact h, trivial⟩
  have r0 : nv α1 0 = nv α 0 := nv_le hle (by omega)
  have r1 : nv α1 1 = nv α 1 := nv_le hle (by omega)
  have r2 : nv α1 2 = nv α 2 := nv_le hle (by omega)
  have r3 : nv α1 3 = nv α 3 := nv_le hle (by omega)
  have r4 : nv α1 4 = nv α 4 := nv_le hle (by omega)
  refine hd_segM G (na := 5) (fuel := 600) (first := true) (Bs := [kh_stStore_b28_0]) (by decide +kernel) hl1 Hr ?_
  intro q hq β lv' st' S' H1
  simp only [List.mem_cons, List.not_mem_nil, or_false] at hq
  rcases hq with rfl
  · obtain ⟨f1, f2, f3, f4, f5⟩ := as_fx H1
    simp only [kh_stStore_b28_0, Nat.reduceEqDiff, if_false, fx_env, fx_c, fx_ne, fx_hf, wl_S, Nat.zero_add, Nat.reduceAdd, Nat.reduceDiv, Nat.reduceMod, List.getElem?_cons_zero, List.getElem?_cons_succ, if_true, and_true, true_and] at f1 f2 f3 f4 f5
    have fe0 : nv β 0 = 779 := by omega
    have fe5 : nv β 5 = 5 := by omega
    try simp only [fe0, fe5, Int.reduceToNat] at f2 f3 f4 f5
    have s0 : nv β 0 = nv α1 0 := nv_le H1.1 (by omega)
    have s1 : nv β 1 = nv α1 1 := nv_le H1.1 (by omega)
    have s2 : nv β 2 = nv α1 2 := nv_le H1.1 (by omega)
    have s3 : nv β 3 = nv α1 3 := nv_le H1.1 (by omega)
    have s4 : nv β 4 = nv α1 4 := nv_le H1.1 (by omega)
    obtain ⟨c0, c1⟩ := f2
    obtain ⟨α', Ha, hm⟩ := hd_gpM (q := kh_stStore_a35) (n := 0) (by decide +kernel) hx H1 (by decide +kernel) hxa hf
    have hfr := H1.2.2.2.2.2.2.2.2.2.2.1
    have m0 : nv α' 0 = nv β 0 := hm 0 0 rfl
    have m1 : nv α' 1 = nv β 1 := hm 1 1 rfl
    have m2 : nv α' 2 = nv β 2 := hm 2 2 rfl
    have m3 : nv α' 3 = nv β 3 := hm 3 3 rfl
    have m4 : nv α' 4 = nv β 4 := hm 4 4 rfl
    have z1 : nv α 1 = nv xs 1 := nv_le H.1 (by omega)
    have z2 : nv α 2 = nv xs 2 := nv_le H.1 (by omega)
    obtain ⟨p1, p2⟩ := hp
    have o1 := old_i c1 (en_nv (i := 6) H1.2.1 rfl).1
    have wA : ∀ a b : Nat, S'.1 a b = (if a = (nv β 3).toNat ∧ b = 5 then Int32.ofInt (nv β 7) else (S1.1 a b)) := fun a b => by rw [f5]; rfl
    have hst : ∀ q : Nat, q < 4 → stE (vF S') q = stE (vF S1) q + (if (q : Int) = nv xs 1 then nv β 6 - nv β 7 else 0) := by
      intro q hq
      rw [stE_v hq, stE_v hq]
      by_cases e : (q : Int) = nv xs 1
      · rw [if_pos e]
        have e0 : S'.1 (781 + q) 0 = S1.1 (781 + q) 0 := by rw [wA, if_neg (by omega)]
        have e4 : S'.1 (781 + q) 4 = S1.1 (781 + q) 4 := by rw [wA, if_neg (by omega)]
        have e6 : S'.1 (781 + q) 6 = S1.1 (781 + q) 6 := by rw [wA, if_neg (by omega)]
        have eW : (S'.1 (781 + q) 5).toInt = nv β 7 := by rw [wA, if_pos ⟨by omega, rfl⟩, i32_of (by omega) (by omega)]
        have eO : (S1.1 (781 + q) 5).toInt = nv β 6 := by rw [show 781 + q = (nv β 3).toNat by omega]; exact o1
        rw [e0, e4, e6, eW, eO]
        omega
      · rw [if_neg e, wA, if_neg (by omega), wA, if_neg (by omega), wA, if_neg (by omega), wA, if_neg (by omega)]
        omega
    refine ih.2.1 _ _ _ _ Ha ?_ ?_
    · refine ⟨by rw [m3]; omega, fun q hq => ?_⟩
      have h1 := hst q hq
      have h2 := p2 q hq
      rw [h1, m4]
      by_cases e : (q : Int) = nv xs 1
      · rw [if_pos e] at h2 ⊢
        rw [if_pos e]; omega
      · rw [if_neg e] at h2 ⊢
        rw [if_neg e]; omega
    · omega
set_option maxHeartbeats 16000000 in
set_option maxRecDepth 8000 in
theorem kh_stStore_h35 {l : Launch} {D : va_G} {tc : Nat → ClassId} {ad : Nat → Nat} {kd : Nat → Nat × Nat} {N : Nat} {sm : Nat → Nat} {xs : List av_X} {S : fw_S} {p : Program} {e : Env} {s : State} {m : MethodId} {args : Array Value} {below : List Frame} {meth : Method} {c : Code} {sz : Nat} {lvE : List (Nat × Value)} (G : hd_C wd_ff2 wd_fl2 kh_stStore [] kh_stStore_y l D tc ad kd N sm xs p s m args meth c sz) (H0 : as_in ad sm wd_fl2 xs S kh_stStore.2.2.2.2.2.1 xs (hd_0 kh_stStore) lvE [] S) {k : Nat} (ih : kh_stStore_I l D tc ad kd N sm xs S p e s m args below meth c sz k) : (∀ (α : List av_X) (lv : List (Nat × Value)) (st : List Value) (S1 : fw_S), as_in ad sm wd_fl2 xs S kh_stStore.2.2.2.2.2.1 α kh_stStore_a35.2.2.1 lv st S1 → (nv α 3 = 781 + nv xs 1 ∧ (∀ q : Nat, q < 4 → (stE (vF S1) q + (if (q : Int) = nv xs 1 then nv xs 2 - nv α 4 else 0)) % 4294967296 = 0)) → 0 < k + 1 → hd_W wd_fl2 kh_stStore kh_stStore_y l D tc ad kd N sm xs S p e s m args below meth c sz 35 lv st S1 0) := by
  have hx : xs.length = 3 := by rw [H0.2.1.1]; rfl
  have q522 : stF (vF S) := by
    have h := H0.2.2.2.2.2.2.2.2.1 522 (by decide +kernel)
    rw [wd_fl2, if_neg (by decide)] at h
    exact h
  have x1 := (en_nv (i := 1) H0.2.1 rfl).2
  change 0 ≤ nv xs 1 ∧ nv xs 1 ≤ 3 at x1
  intro α lv st S1 H hp hk
  obtain ⟨α1, hle, Hr⟩ := as_recM (pl := []) [((781, 784), (6, 6, 0))] (by decide +kernel) H
  have hf := H.2.2.2.2.2.2.2.2.2.2.1
  have hl1 : α1.length = 5 := by rw [Hr.2.1.1]; rfl
  have hl0 : α.length = 5 := by rw [H.2.1.1]; rfl
  have hxa : al_le xs α1 := H.1.trans hle
  obtain ⟨g1, -, g3, g4, -⟩ := as_fx Hr
  have g0 : (779 ≤ nv α1 0 ∧ nv α1 0 ≤ 779) ∧ (0 ≤ nv α1 1 ∧ nv α1 1 ≤ 3) ∧ ((-2147483648) ≤ nv α1 2 ∧ nv α1 2 ≤ 2147483647) ∧ (781 ≤ nv α1 3 ∧ nv α1 3 ≤ 784) ∧ ((-2147483648) ≤ nv α1 4 ∧ nv α1 4 ≤ 2147483647) ∧ True := by
    refine ⟨by have h := (en_nv (i := 0) Hr.2.1 rfl).2; exact h, by have h := (en_nv (i := 1) Hr.2.1 rfl).2; exact h, by have h := (en_nv (i := 2) Hr.2.1 rfl).2; exact h, by have h := (en_nv (i := 3) Hr.2.1 rfl).2; exact h, by have h := (en_nv (i := 4) Hr.2.1 rfl).2; exact h, trivial⟩
  have r0 : nv α1 0 = nv α 0 := nv_le hle (by omega)
  have r1 : nv α1 1 = nv α 1 := nv_le hle (by omega)
  have r2 : nv α1 2 = nv α 2 := nv_le hle (by omega)
  have r3 : nv α1 3 = nv α 3 := nv_le hle (by omega)
  have r4 : nv α1 4 = nv α 4 := nv_le hle (by omega)
  refine hd_segM G (na := 5) (fuel := 600) (first := true) (Bs := [kh_stStore_b35_0]) (by decide +kernel) hl1 Hr ?_
  intro q hq β lv' st' S' H1
  simp only [List.mem_cons, List.not_mem_nil, or_false] at hq
  rcases hq with rfl
  · obtain ⟨f1, f2, f3, f4, f5⟩ := as_fx H1
    simp only [kh_stStore_b35_0, Nat.reduceEqDiff, if_false, fx_env, fx_c, fx_ne, fx_hf, wl_S, Nat.zero_add, Nat.reduceAdd, Nat.reduceDiv, Nat.reduceMod, List.getElem?_cons_zero, List.getElem?_cons_succ, if_true, and_true, true_and] at f1 f2 f3 f4 f5
    have fe0 : nv β 0 = 779 := by omega
    have fe5 : nv β 5 = 6 := by omega
    try simp only [fe0, fe5, Int.reduceToNat] at f2 f3 f4 f5
    have s0 : nv β 0 = nv α1 0 := nv_le H1.1 (by omega)
    have s1 : nv β 1 = nv α1 1 := nv_le H1.1 (by omega)
    have s2 : nv β 2 = nv α1 2 := nv_le H1.1 (by omega)
    have s3 : nv β 3 = nv α1 3 := nv_le H1.1 (by omega)
    have s4 : nv β 4 = nv α1 4 := nv_le H1.1 (by omega)
    obtain ⟨c0, c1, c2⟩ := f2
    have z1 : nv α 1 = nv xs 1 := nv_le H.1 (by omega)
    have z2 : nv α 2 = nv xs 2 := nv_le H.1 (by omega)
    obtain ⟨p1, p2⟩ := hp
    have o2 := old_i c2 (en_nv (i := 6) H1.2.1 rfl).1
    have wA : ∀ a b : Nat, S'.1 a b = (if a = (nv β 3).toNat ∧ b = 6 then Int32.ofInt (nv β 8) else (S1.1 a b)) := fun a b => by rw [f5]; rfl
    have hst : ∀ q : Nat, q < 4 → stE (vF S') q = stE (vF S1) q + (if (q : Int) = nv xs 1 then nv β 8 - nv β 6 else 0) := by
      intro q hq
      rw [stE_v hq, stE_v hq]
      by_cases e : (q : Int) = nv xs 1
      · rw [if_pos e]
        have e0 : S'.1 (781 + q) 0 = S1.1 (781 + q) 0 := by rw [wA, if_neg (by omega)]
        have e4 : S'.1 (781 + q) 4 = S1.1 (781 + q) 4 := by rw [wA, if_neg (by omega)]
        have e5 : S'.1 (781 + q) 5 = S1.1 (781 + q) 5 := by rw [wA, if_neg (by omega)]
        have eW : (S'.1 (781 + q) 6).toInt = nv β 8 := by rw [wA, if_pos ⟨by omega, rfl⟩, i32_of (by omega) (by omega)]
        have eO : (S1.1 (781 + q) 6).toInt = nv β 6 := by rw [show 781 + q = (nv β 3).toNat by omega]; exact o2
        rw [e0, e4, e5, eW, eO]
        omega
      · rw [if_neg e, wA, if_neg (by omega), wA, if_neg (by omega), wA, if_neg (by omega), wA, if_neg (by omega)]
        omega
    have hg : stF (vF S') := by
      intro q hq
      have h1 := hst q hq
      have h2 := p2 q hq
      show stE (vF S') q % 4294967296 = 0
      rw [h1]
      by_cases e : (q : Int) = nv xs 1
      · rw [if_pos e] at h2 ⊢
        omega
      · rw [if_neg e] at h2 ⊢; omega
    exact hd_run G (ss := []) (fuel := 20) (by decide +kernel) (as_fl_in (f := [522]) (as_backM H1 (by decide +kernel) hxa hf) (fun g hg0 => by
      rcases List.mem_singleton.mp hg0 with rfl
      rw [wd_fl2, if_neg (by decide)]; exact hg))
set_option maxHeartbeats 16000000 in
set_option maxRecDepth 8000 in
theorem kh_stStore_ok : ct_ok wd_fl2 kh_stStore := ct_hand (ff := wd_ff2) (y := kh_stStore_y) (Cs := []) wd_fl2_ok rfl (List.forall_mem_nil _) (by decide +kernel) (fun l D tc ad kd N sm xs S p e s m args below meth c sz lv G H0 => by
  have hx : xs.length = 3 := by rw [H0.2.1.1]; rfl
  have q522 : stF (vF S) := by
    have h := H0.2.2.2.2.2.2.2.2.1 522 (by decide +kernel)
    rw [wd_fl2, if_neg (by decide)] at h
    exact h
  have x1 := (en_nv (i := 1) H0.2.1 rfl).2
  change 0 ≤ nv xs 1 ∧ nv xs 1 ≤ 3 at x1
  have hP : ∀ (k : Nat), kh_stStore_I l D tc ad kd N sm xs S p e s m args below meth c sz k := by
    intro k
    induction k with
    | zero => exact ⟨fun _ _ _ _ _ _ h => absurd h (Nat.not_lt_zero _), fun _ _ _ _ _ _ h => absurd h (Nat.not_lt_zero _), trivial⟩
    | succ k ih => exact ⟨kh_stStore_h28 G H0 ih, kh_stStore_h35 G H0 ih, trivial⟩
  obtain ⟨α1, hle, Hr⟩ := as_recM (pl := []) [((781, 784), (0, 0, 0))] (by decide +kernel) H0
  have hf := H0.2.2.2.2.2.2.2.2.2.2.1
  have hl1 : α1.length = 3 := by rw [Hr.2.1.1]; rfl
  have hl0 : xs.length = 3 := by rw [H0.2.1.1]; rfl
  have hxa : al_le xs α1 := H0.1.trans hle
  obtain ⟨g1, -, g3, g4, -⟩ := as_fx Hr
  have g0 : (779 ≤ nv α1 0 ∧ nv α1 0 ≤ 779) ∧ (0 ≤ nv α1 1 ∧ nv α1 1 ≤ 3) ∧ ((-2147483648) ≤ nv α1 2 ∧ nv α1 2 ≤ 2147483647) ∧ True := by
    refine ⟨by have h := (en_nv (i := 0) Hr.2.1 rfl).2; exact h, by have h := (en_nv (i := 1) Hr.2.1 rfl).2; exact h, by have h := (en_nv (i := 2) Hr.2.1 rfl).2; exact h, trivial⟩
  have r0 : nv α1 0 = nv xs 0 := nv_le hle (by omega)
  have r1 : nv α1 1 = nv xs 1 := nv_le hle (by omega)
  have r2 : nv α1 2 = nv xs 2 := nv_le hle (by omega)
  refine hd_segM G (na := 3) (fuel := 600) (first := true) (Bs := [kh_stStore_b0_0]) (by decide +kernel) hl1 Hr ?_
  intro q hq β lv' st' S' H1
  simp only [List.mem_cons, List.not_mem_nil, or_false] at hq
  rcases hq with rfl
  · obtain ⟨f1, f2, f3, f4, f5⟩ := as_fx H1
    simp only [kh_stStore_b0_0, Nat.reduceEqDiff, if_false, fx_env, fx_c, fx_ne, fx_hf, wl_S, Nat.zero_add, Nat.reduceAdd, Nat.reduceDiv, Nat.reduceMod, List.getElem?_cons_zero, List.getElem?_cons_succ, if_true, and_true, true_and] at f1 f2 f3 f4 f5
    have fe0 : nv β 0 = 779 := by omega
    have fe3 : nv β 3 = 780 := by omega
    have fe5 : nv β 5 = 999 := by omega
    have fe6 : nv β 6 = 0 := by omega
    have fe10 : nv β 10 = 0 := by omega
    try simp only [fe0, fe3, fe5, fe6, fe10, Int.reduceToNat] at f2 f3 f4 f5
    have s0 : nv β 0 = nv α1 0 := nv_le H1.1 (by omega)
    have s1 : nv β 1 = nv α1 1 := nv_le H1.1 (by omega)
    have s2 : nv β 2 = nv α1 2 := nv_le H1.1 (by omega)
    obtain ⟨c0, c1, c2⟩ := f2
    obtain ⟨α', Ha, hm⟩ := hd_gpM (q := kh_stStore_a28) (n := 0) (by decide +kernel) hx H1 (by decide +kernel) hxa hf
    have hfr := H1.2.2.2.2.2.2.2.2.2.2.1
    have m0 : nv α' 0 = nv β 0 := hm 0 0 rfl
    have m1 : nv α' 1 = nv β 1 := hm 1 1 rfl
    have m2 : nv α' 2 = nv β 2 := hm 2 2 rfl
    have m3 : nv α' 3 = nv β 4 := hm 3 4 rfl
    have m4 : nv α' 4 = nv β 9 := hm 4 9 rfl
    have rt4 := hf_rt (c := 780) (lo := 0) (hi := 3) (base := 781) (rv := 3) (iv := 1) (n := 4) (by decide +kernel) (by decide +kernel) H1 (by decide +kernel) (by omega) (by omega) (by omega)
    have o2 := old_i c2 (en_nv (i := 7) H1.2.1 rfl).1
    have wA : ∀ a b : Nat, S'.1 a b = (if a = (nv β 4).toNat ∧ b = 0 then Int32.ofInt (nv β 11) else (S.1 a b)) := fun a b => by rw [f5]; rfl
    have hst : ∀ q : Nat, q < 4 → stE (vF S') q = stE (vF S) q + (if (q : Int) = nv xs 1 then nv β 11 - nv β 7 else 0) := by
      intro q hq
      rw [stE_v hq, stE_v hq]
      by_cases e : (q : Int) = nv xs 1
      · rw [if_pos e]
        have e4 : S'.1 (781 + q) 4 = S.1 (781 + q) 4 := by rw [wA, if_neg (by omega)]
        have e5 : S'.1 (781 + q) 5 = S.1 (781 + q) 5 := by rw [wA, if_neg (by omega)]
        have e6 : S'.1 (781 + q) 6 = S.1 (781 + q) 6 := by rw [wA, if_neg (by omega)]
        have eW : (S'.1 (781 + q) 0).toInt = nv β 11 := by rw [wA, if_pos ⟨by omega, rfl⟩, i32_of (by omega) (by omega)]
        have eO : (S.1 (781 + q) 0).toInt = nv β 7 := by rw [show 781 + q = (nv β 4).toNat by omega]; exact o2
        rw [e4, e5, e6, eW, eO]
        omega
      · rw [if_neg e, wA, if_neg (by omega), wA, if_neg (by omega), wA, if_neg (by omega), wA, if_neg (by omega)]
        omega
    refine (hP _).1 _ _ _ _ Ha ?_ (Nat.lt_succ_self _)
    · refine ⟨by rw [m3]; omega, fun q hq => ?_⟩
      have h1 := hst q hq
      have h2 := q522 q hq
      change stE (vF S) q % 4294967296 = 0 at h2
      rw [h1, m4]
      by_cases e : (q : Int) = nv xs 1
      · rw [if_pos e, if_pos e]; omega
      · rw [if_neg e, if_neg e]; omega)
theorem tb_first {i z : Int} (h : tb_at 9 i z) (h0 : 0 ≤ i) (h3 : i ≤ 3) : z = stFirst i.toNat := by
  have e := tb_val (t := 9) rfl h
  have : i = 0 ∨ i = 1 ∨ i = 2 ∨ i = 3 := by omega
  rcases this with rfl | rfl | rfl | rfl <;> exact e
abbrev kh_storesIsWell_y : mt_T := (⟨"UtilityWorks$Stores", "isWell", "()Z"⟩, prog_9_method_11_code, 3, some .boolean, 7, 1, 0, 25037, 25035, 25036, 21012)
def kh_storesIsWell : ct_T := (82, [(2, 779, 779, 1)], [], [522], [(1, (0, 1, 1, 0), [(2, 779, 779, 1)], [], ([522], []))], [], 0, 0, 0)
def kh_storesIsWell_a2 : an_T := (2, 0, ([((2, 779, 779, 1), none), ((0, 0, 4, 1), none)], [(0, 0), (1, 1)], [], [], [], [], [], [522], none), [])
def kh_storesIsWell_b0_0 : sg_T := (2, 0, ([((2, 779, 779, 1), none), ((0, 0, 0, 0), none)], [(1, 1), (0, 0)], [], [], [], [], [], [522], some []))
def kh_storesIsWell_b2_0 : sg_T := (47, 0, ([((2, 779, 779, 1), none), ((0, 4, 4, 1), none), ((0, 4, 4, 0), none), ((0, 1, 1, 0), none)], [(0, 0), (1, 1)], [3], [], [], [(200000, 2, 1)], [], [522], some []))
def kh_storesIsWell_b2_1 : sg_T := (2, 0, ([((2, 779, 779, 1), none), ((0, 0, 3, 1), none), ((0, 4, 4, 0), none), ((2, 780, 780, 1), none), ((2, 781, 784, 1), none), ((0, 0, 0, 0), none), ((0, (-2147483648), 2147483647, 1), none), ((3, 9, 9, 0), none), ((0, 2, 200, 1), none), ((0, 5, 5, 0), none), ((0, (-2147483648), 2147483647, 1), none), ((0, (-2147483648), 2147483647, 1), none), ((0, 6, 6, 0), none), ((0, (-2147483648), 2147483647, 1), none), ((0, (-2147483648), 2147483647, 1), none), ((0, 4, 4, 0), none), ((0, (-2147483648), 2147483647, 1), none), ((0, (-2147483648), 2147483647, 1), none), ((0, 1, 4, 1), some (1, 1))], [(1, 18), (2, 4), (0, 0)], [], [(4, 15, 16), (4, 12, 13), (4, 9, 10), (4, 5, 6), (3, 1, 4)], [], [(300000, 6, 17), (900100017, 14, 16), (800016, 4, 15), (900100014, 11, 13), (800013, 4, 12), (900000011, 8, 10), (800010, 4, 9), (901900008, 1, 1), (800006, 4, 5), (100000, 1, 2)], [], [522], some []))
def kh_storesIsWell_b2_2 : sg_T := (39, 0, ([((2, 779, 779, 1), none), ((0, 0, 3, 1), none), ((0, 4, 4, 0), none), ((2, 780, 780, 1), none), ((2, 781, 784, 1), none), ((0, 0, 0, 0), none), ((0, (-2147483648), 2147483647, 1), none), ((3, 9, 9, 0), none), ((0, 2, 200, 1), none), ((0, 5, 5, 0), none), ((0, (-2147483648), 2147483647, 1), none), ((0, (-2147483648), 2147483647, 1), none), ((0, 6, 6, 0), none), ((0, (-2147483648), 2147483647, 1), none), ((0, (-2147483648), 2147483647, 1), none), ((0, 4, 4, 0), none), ((0, (-2147483648), 2147483647, 1), none), ((0, (-2147483648), 2147483647, 1), none), ((0, 0, 0, 0), none)], [(2, 4), (0, 0), (1, 1)], [18], [(4, 15, 16), (4, 12, 13), (4, 9, 10), (4, 5, 6), (3, 1, 4)], [], [(400000, 6, 17), (900100017, 14, 16), (800016, 4, 15), (900100014, 11, 13), (800013, 4, 12), (900000011, 8, 10), (800010, 4, 9), (901900008, 1, 1), (800006, 4, 5), (100000, 1, 2)], [], [522], some []))
def kh_storesIsWell_I (l : Launch) (D : va_G) (tc : Nat → ClassId) (ad : Nat → Nat) (kd : Nat → Nat × Nat) (N : Nat) (sm : Nat → Nat) (xs : List av_X) (S : fw_S) (p : Program) (e : Env) (s : State) (m : MethodId) (args : Array Value) (below : List Frame) (meth : Method) (c : Code) (sz : Nat) (k : Nat) : Prop := (∀ (α : List av_X) (lv : List (Nat × Value)) (st : List Value) (S1 : fw_S), as_in ad sm wd_fl2 xs S kh_storesIsWell.2.2.2.2.2.1 α kh_storesIsWell_a2.2.2.1 lv st S1 → (True) → (5 - nv α 1).toNat < k → hd_W wd_fl2 kh_storesIsWell kh_storesIsWell_y l D tc ad kd N sm xs S p e s m args below meth c sz 2 lv st S1 0) ∧ True
set_option maxHeartbeats 16000000 in
set_option maxRecDepth 8000 in
theorem kh_storesIsWell_h2 {l : Launch} {D : va_G} {tc : Nat → ClassId} {ad : Nat → Nat} {kd : Nat → Nat × Nat} {N : Nat} {sm : Nat → Nat} {xs : List av_X} {S : fw_S} {p : Program} {e : Env} {s : State} {m : MethodId} {args : Array Value} {below : List Frame} {meth : Method} {c : Code} {sz : Nat} {lvE : List (Nat × Value)} (G : hd_C wd_ff2 wd_fl2 kh_storesIsWell [] kh_storesIsWell_y l D tc ad kd N sm xs p s m args meth c sz) (H0 : as_in ad sm wd_fl2 xs S kh_storesIsWell.2.2.2.2.2.1 xs (hd_0 kh_storesIsWell) lvE [] S) {k : Nat} (ih : kh_storesIsWell_I l D tc ad kd N sm xs S p e s m args below meth c sz k) : (∀ (α : List av_X) (lv : List (Nat × Value)) (st : List Value) (S1 : fw_S), as_in ad sm wd_fl2 xs S kh_storesIsWell.2.2.2.2.2.1 α kh_storesIsWell_a2.2.2.1 lv st S1 → (True) → (5 - nv α 1).toNat < k + 1 → hd_W wd_fl2 kh_storesIsWell kh_storesIsWell_y l D tc ad kd N sm xs S p e s m args below meth c sz 2 lv st S1 0) := by
  have hx : xs.length = 1 := by rw [H0.2.1.1]; rfl
  have q522 : stF (vF S) := by
    have h := H0.2.2.2.2.2.2.2.2.1 522 (by decide +kernel)
    rw [wd_fl2, if_neg (by decide)] at h
    exact h
  intro α lv st S1 H hp hk
  obtain ⟨α1, hle, Hr⟩ := as_recM (pl := []) [] (by decide +kernel) H
  have hf := H.2.2.2.2.2.2.2.2.2.2.1
  have hl1 : α1.length = 2 := by rw [Hr.2.1.1]; rfl
  have hl0 : α.length = 2 := by rw [H.2.1.1]; rfl
  have hxa : al_le xs α1 := H.1.trans hle
  obtain ⟨g1, -, g3, g4, -⟩ := as_fx Hr
  have g0 : (779 ≤ nv α1 0 ∧ nv α1 0 ≤ 779) ∧ (0 ≤ nv α1 1 ∧ nv α1 1 ≤ 4) ∧ True := by
    refine ⟨by have h := (en_nv (i := 0) Hr.2.1 rfl).2; exact h, by have h := (en_nv (i := 1) Hr.2.1 rfl).2; exact h, trivial⟩
  have r0 : nv α1 0 = nv α 0 := nv_le hle (by omega)
  have r1 : nv α1 1 = nv α 1 := nv_le hle (by omega)
  refine hd_segM G (na := 2) (fuel := 600) (first := true) (Bs := [kh_storesIsWell_b2_0, kh_storesIsWell_b2_1, kh_storesIsWell_b2_2]) (by decide +kernel) hl1 Hr ?_
  intro q hq β lv' st' S' H1
  simp only [List.mem_cons, List.not_mem_nil, or_false] at hq
  rcases hq with rfl | rfl | rfl
  · obtain ⟨f1, f2, f3, f4, f5⟩ := as_fx H1
    simp only [kh_storesIsWell_b2_0, Nat.reduceEqDiff, if_false, fx_env, fx_c, fx_ne, fx_hf, wl_S, Nat.zero_add, Nat.reduceAdd, Nat.reduceDiv, Nat.reduceMod, List.getElem?_cons_zero, List.getElem?_cons_succ, if_true, and_true, true_and] at f1 f2 f3 f4 f5
    have fe0 : nv β 0 = 779 := by omega
    have fe1 : nv β 1 = 4 := by omega
    have fe2 : nv β 2 = 4 := by omega
    have fe3 : nv β 3 = 1 := by omega
    try simp only [fe0, fe1, fe2, fe3, Int.reduceToNat] at f2 f3 f4 f5
    have s0 : nv β 0 = nv α1 0 := nv_le H1.1 (by omega)
    have s1 : nv β 1 = nv α1 1 := nv_le H1.1 (by omega)
    have c0 := f2
    exact hd_run G (ss := []) (fuel := 20) (by decide +kernel) (as_backM H1 (by decide +kernel) hxa hf)
  · obtain ⟨f1, f2, f3, f4, f5⟩ := as_fx H1
    simp only [kh_storesIsWell_b2_1, Nat.reduceEqDiff, if_false, fx_env, fx_c, fx_ne, fx_hf, wl_S, Nat.zero_add, Nat.reduceAdd, Nat.reduceDiv, Nat.reduceMod, List.getElem?_cons_zero, List.getElem?_cons_succ, if_true, and_true, true_and] at f1 f2 f3 f4 f5
    have fe0 : nv β 0 = 779 := by omega
    have fe2 : nv β 2 = 4 := by omega
    have fe3 : nv β 3 = 780 := by omega
    have fe5 : nv β 5 = 0 := by omega
    have fe9 : nv β 9 = 5 := by omega
    have fe12 : nv β 12 = 6 := by omega
    have fe15 : nv β 15 = 4 := by omega
    try simp only [fe0, fe2, fe3, fe5, fe9, fe12, fe15, Int.reduceToNat] at f2 f3 f4 f5
    have s0 : nv β 0 = nv α1 0 := nv_le H1.1 (by omega)
    have s1 : nv β 1 = nv α1 1 := nv_le H1.1 (by omega)
    obtain ⟨c0, c1, c2, c3, c4, c5, c6, c7, c8, c9⟩ := f2
    obtain ⟨α', Ha, hm⟩ := hd_gpM (q := kh_storesIsWell_a2) (n := 0) (by decide +kernel) hx H1 (by decide +kernel) hxa hf
    have hfr := H1.2.2.2.2.2.2.2.2.2.2.1
    have m0 : nv α' 0 = nv β 0 := hm 0 0 rfl
    have m1 : nv α' 1 = nv β 18 := hm 1 18 rfl
    subst S'
    refine ih.1 _ _ _ _ Ha ?_ ?_
    · trivial
    · omega
  · obtain ⟨f1, f2, f3, f4, f5⟩ := as_fx H1
    simp only [kh_storesIsWell_b2_2, Nat.reduceEqDiff, if_false, fx_env, fx_c, fx_ne, fx_hf, wl_S, Nat.zero_add, Nat.reduceAdd, Nat.reduceDiv, Nat.reduceMod, List.getElem?_cons_zero, List.getElem?_cons_succ, if_true, and_true, true_and] at f1 f2 f3 f4 f5
    have fe0 : nv β 0 = 779 := by omega
    have fe2 : nv β 2 = 4 := by omega
    have fe3 : nv β 3 = 780 := by omega
    have fe5 : nv β 5 = 0 := by omega
    have fe9 : nv β 9 = 5 := by omega
    have fe12 : nv β 12 = 6 := by omega
    have fe15 : nv β 15 = 4 := by omega
    have fe18 : nv β 18 = 0 := by omega
    try simp only [fe0, fe2, fe3, fe5, fe9, fe12, fe15, fe18, Int.reduceToNat] at f2 f3 f4 f5
    have s0 : nv β 0 = nv α1 0 := nv_le H1.1 (by omega)
    have s1 : nv β 1 = nv α1 1 := nv_le H1.1 (by omega)
    obtain ⟨c0, c1, c2, c3, c4, c5, c6, c7, c8, c9⟩ := f2
    have eS : S1 = S := fr_same (show fr_in [] S S1 from hf)
    have rt4 := hf_rt (c := 780) (lo := 0) (hi := 3) (base := 781) (rv := 3) (iv := 1) (n := 4) (by decide +kernel) (by decide +kernel) H1 (by decide +kernel) (by omega) (by omega) (by omega)
    have o2 := old_i c2 (en_nv (i := 16) H1.2.1 rfl).1
    have o4 := old_i c4 (en_nv (i := 13) H1.2.1 rfl).1
    have o6 := old_i c6 (en_nv (i := 10) H1.2.1 rfl).1
    have o8 := old_i c8 (en_nv (i := 6) H1.2.1 rfl).1
    exfalso
    have t0 := tb_first c7
    have hq := q522 (nv β 1).toNat (by omega)
    change stE (vF S) (nv β 1).toNat % 4294967296 = 0 at hq
    rw [stE_v (by omega), show 781 + (nv β 1).toNat = (nv β 4).toNat by omega, ← eS, o8, o6, o4, o2, ← t0 (by omega) (by omega)] at hq
    omega
set_option maxHeartbeats 16000000 in
set_option maxRecDepth 8000 in
theorem kh_storesIsWell_ok : ct_ok wd_fl2 kh_storesIsWell := ct_hand (ff := wd_ff2) (y := kh_storesIsWell_y) (Cs := []) wd_fl2_ok rfl (List.forall_mem_nil _) (by decide +kernel) (fun l D tc ad kd N sm xs S p e s m args below meth c sz lv G H0 => by
  have hx : xs.length = 1 := by rw [H0.2.1.1]; rfl
  have q522 : stF (vF S) := by
    have h := H0.2.2.2.2.2.2.2.2.1 522 (by decide +kernel)
    rw [wd_fl2, if_neg (by decide)] at h
    exact h
  have hP : ∀ (k : Nat), kh_storesIsWell_I l D tc ad kd N sm xs S p e s m args below meth c sz k := by
    intro k
    induction k with
    | zero => exact ⟨fun _ _ _ _ _ _ h => absurd h (Nat.not_lt_zero _), trivial⟩
    | succ k ih => exact ⟨kh_storesIsWell_h2 G H0 ih, trivial⟩
  obtain ⟨α1, hle, Hr⟩ := as_recM (pl := []) [] (by decide +kernel) H0
  have hf := H0.2.2.2.2.2.2.2.2.2.2.1
  have hl1 : α1.length = 1 := by rw [Hr.2.1.1]; rfl
  have hl0 : xs.length = 1 := by rw [H0.2.1.1]; rfl
  have hxa : al_le xs α1 := H0.1.trans hle
  obtain ⟨g1, -, g3, g4, -⟩ := as_fx Hr
  have g0 : (779 ≤ nv α1 0 ∧ nv α1 0 ≤ 779) ∧ True := by
    refine ⟨by have h := (en_nv (i := 0) Hr.2.1 rfl).2; exact h, trivial⟩
  have r0 : nv α1 0 = nv xs 0 := nv_le hle (by omega)
  refine hd_segM G (na := 1) (fuel := 600) (first := true) (Bs := [kh_storesIsWell_b0_0]) (by decide +kernel) hl1 Hr ?_
  intro q hq β lv' st' S' H1
  simp only [List.mem_cons, List.not_mem_nil, or_false] at hq
  rcases hq with rfl
  · obtain ⟨f1, f2, f3, f4, f5⟩ := as_fx H1
    simp only [kh_storesIsWell_b0_0, Nat.reduceEqDiff, if_false, fx_env, fx_c, fx_ne, fx_hf, wl_S, Nat.zero_add, Nat.reduceAdd, Nat.reduceDiv, Nat.reduceMod, List.getElem?_cons_zero, List.getElem?_cons_succ, if_true, and_true, true_and] at f1 f2 f3 f4 f5
    have fe0 : nv β 0 = 779 := by omega
    have fe1 : nv β 1 = 0 := by omega
    try simp only [fe0, fe1, Int.reduceToNat] at f2 f3 f4 f5
    have s0 : nv β 0 = nv α1 0 := nv_le H1.1 (by omega)
    obtain ⟨α', Ha, hm⟩ := hd_gpM (q := kh_storesIsWell_a2) (n := 0) (by decide +kernel) hx H1 (by decide +kernel) hxa hf
    have hfr := H1.2.2.2.2.2.2.2.2.2.2.1
    have m0 : nv α' 0 = nv β 0 := hm 0 0 rfl
    have m1 : nv α' 1 = nv β 1 := hm 1 1 rfl
    subst S'
    refine (hP _).1 _ _ _ _ Ha ?_ (Nat.lt_succ_self _)
    · trivial)
