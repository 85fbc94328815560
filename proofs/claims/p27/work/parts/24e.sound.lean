/-! ===== the class: crews and stores are sound ===== -/
def tkS (f : Nat → Int32) : Nat → Int
  | 0 => 0
  | n + 1 => tkS f n + (if mjk f n 4 = 1 then 1 else 0)
def bsS (f : Nat → Int32) : Nat → Int
  | 0 => 0
  | n + 1 => bsS f n + (if mck f n 3 = -1 then 0 else 1)
def tkK (f : Nat → Int32) (k : Int) : Nat → Int
  | 0 => 0
  | n + 1 => tkK f k n + (if mjk f n 4 = 1 ∧ mjk f n 5 = k then 1 else 0)
theorem tkS_bd {f : Nat → Int32} : ∀ {n : Nat}, 0 ≤ tkS f n ∧ tkS f n ≤ n
  | 0 => by simp [tkS]
  | n + 1 => by
    have ih := tkS_bd (f := f) (n := n)
    rw [tkS]
    split <;> omega
theorem bsS_bd {f : Nat → Int32} : ∀ {n : Nat}, 0 ≤ bsS f n ∧ bsS f n ≤ n
  | 0 => by simp [bsS]
  | n + 1 => by
    have ih := bsS_bd (f := f) (n := n)
    rw [bsS]
    split <;> omega
theorem tkS_sum {f : Nat → Int32} (h : ∀ j : Nat, j < 200 → mjk f j 4 = 1 → 0 ≤ mjk f j 5 ∧ mjk f j 5 ≤ 3) : ∀ {n : Nat}, n ≤ 200 → tkS f n = tkK f 0 n + tkK f 1 n + tkK f 2 n + tkK f 3 n
  | 0, _ => rfl
  | n + 1, hn => by
    have ih := tkS_sum h (n := n) (by omega)
    have q := h n (by omega)
    simp only [tkS, tkK, ih]
    by_cases e : mjk f n 4 = 1
    · obtain ⟨q1, q2⟩ := q e
      simp only [e, true_and, if_true]
      (repeat' split) <;> omega
    · simp only [e, false_and, if_false]
      omega
theorem tkK_one {f : Nat → Int32} {k j0 : Int} (h1 : ∀ j : Nat, j < 200 → (mjk f j 4 = 1 ∧ mjk f j 5 = k ↔ (j : Int) = j0)) (h0 : 0 ≤ j0) : ∀ {n : Nat}, n ≤ 200 → tkK f k n = if j0 < n then 1 else 0
  | 0, _ => by rw [tkK, if_neg (by omega)]
  | n + 1, hn => by
    rw [tkK, tkK_one h1 h0 (n := n) (by omega)]
    have q := h1 n (by omega)
    by_cases e : (n : Int) = j0
    · rw [if_pos (q.mpr e), if_neg (by omega), if_pos (by omega)]; rfl
    · rw [if_neg (fun w => e (q.mp w))]
      by_cases e2 : j0 < n
      · rw [if_pos e2, if_pos (by omega)]; rfl
      · rw [if_neg e2, if_neg (by omega)]; rfl
theorem tkK_no {f : Nat → Int32} {k : Int} (h1 : ∀ j : Nat, j < 200 → ¬ (mjk f j 4 = 1 ∧ mjk f j 5 = k)) : ∀ {n : Nat}, n ≤ 200 → tkK f k n = 0
  | 0, _ => rfl
  | n + 1, hn => by rw [tkK, tkK_no h1 (n := n) (by omega), if_neg (h1 n (by omega))]; rfl
/-- as many jobs are taken as crews have one -/
theorem tk_bs {f : Nat → Int32} (hf : crewF f) (hc : 0 ≤ (f 2400).toInt ∧ (f 2400).toInt ≤ 4) : tkS f (f 2440).toInt.toNat = bsS f (f 2400).toInt.toNat := by
  obtain ⟨a1, a2, -, ⟨a3, a4⟩, -⟩ := hf
  unfold jobsN at a1 a2
  have one : ∀ (k : Nat) (k0 : Int), k0 = k → k < 4 → tkK f k0 (f 2440).toInt.toNat = if k0 < (f 2400).toInt ∧ mck f k 3 ≠ -1 then 1 else 0 := by
    intro k k0 e0 hk
    by_cases e : k0 < (f 2400).toInt ∧ mck f k 3 ≠ -1
    · rw [if_pos e]
      obtain ⟨q1, q2, q3, q4⟩ := (a3 k hk (by omega)).resolve_left e.2
      rw [tkK_one (j0 := mck f k 3) (fun j hj => ⟨fun w => ?_, fun w => ?_⟩) q1 (by omega), if_pos (by omega)]
      · obtain ⟨-, -, -, -, r5⟩ := a4 j hj w.1
        rw [w.2, e0, show ((k : Int)).toNat = k by omega] at r5
        exact r5.symm
      · rw [show (mck f k 3).toNat = j by omega] at q3 q4
        exact ⟨q3, q4.trans e0.symm⟩
    · rw [if_neg e]
      refine tkK_no (fun j hj w => e ?_) (by omega)
      obtain ⟨-, r2, -, -, r5⟩ := a4 j hj w.1
      rw [w.2] at r2 r5
      rw [e0, show ((k : Int)).toNat = k by omega] at r5
      exact ⟨r2, by omega⟩
  rw [tkS_sum (fun j hj w => ⟨(a4 j hj w).1, (a4 j hj w).2.2.1⟩) (by omega), one 0 0 rfl (by decide), one 1 1 rfl (by decide), one 2 2 rfl (by decide), one 3 3 rfl (by decide)]
  have hn : (f 2400).toInt = 0 ∨ (f 2400).toInt = 1 ∨ (f 2400).toInt = 2 ∨ (f 2400).toInt = 3 ∨ (f 2400).toInt = 4 := by omega
  rcases hn with e | e | e | e | e
  · rw [e]; show _ = bsS f 0; simp [bsS]
  · rw [e]; show _ = bsS f 1; by_cases m0 : mck f 0 3 = -1 <;> simp [bsS, m0]
  · rw [e]; show _ = bsS f 2; by_cases m0 : mck f 0 3 = -1 <;> by_cases m1 : mck f 1 3 = -1 <;> simp [bsS, m0, m1]
  · rw [e]; show _ = bsS f 3; by_cases m0 : mck f 0 3 = -1 <;> by_cases m1 : mck f 1 3 = -1 <;> by_cases m2 : mck f 2 3 = -1 <;> simp [bsS, m0, m1, m2]
  · rw [e]; show _ = bsS f 4; by_cases m0 : mck f 0 3 = -1 <;> by_cases m1 : mck f 1 3 = -1 <;> by_cases m2 : mck f 2 3 = -1 <;> by_cases m3 : mck f 3 3 = -1 <;> simp [bsS, m0, m1, m2, m3]
abbrev kh_crewsIsWell_y : mt_T := (⟨"UtilityWorks$Crews", "isWell", "()Z"⟩, prog_3_method_20_code, 5, some .boolean, 1, 1, 0, 25024, 25022, 25023, 21011)
def kh_crewsIsWell : ct_T := (79, [(2, 572, 572, 1)], [], [521], [(1, (0, 1, 1, 0), [(2, 572, 572, 1)], [], ([521], []))], [], 2, 43, 0)
def kh_crewsIsWell_a4 : an_T := (4, 0, ([((2, 572, 572, 1), none), ((0, 0, 201, 1), none), ((0, 0, 200, 1), none)], [(0, 0), (1, 1), (2, 2)], [], [], [], [], [], [521], none), [])
def kh_crewsIsWell_a45 : an_T := (45, 0, ([((2, 572, 572, 1), none), ((0, 0, 200, 1), none), ((0, 0, 5, 1), none), ((0, 0, 4, 1), none)], [(0, 0), (1, 1), (2, 2), (3, 3)], [], [], [], [], [], [521], none), [])
def kh_crewsIsWell_b0_0 : sg_T := (4, 0, ([((2, 572, 572, 1), none), ((0, 0, 0, 0), none), ((0, 0, 0, 0), none)], [(2, 2), (1, 1), (0, 0)], [], [], [], [], [], [521], some []))
def kh_crewsIsWell_b4_0 : sg_T := (45, 0, ([((2, 572, 572, 1), none), ((0, 0, 200, 1), none), ((0, 0, 200, 1), none), ((0, 2, 2, 0), none), ((0, 0, 200, 1), none), ((0, 0, 0, 0), none), ((0, 0, 0, 0), none)], [(3, 6), (2, 5), (0, 0), (1, 1)], [], [(0, 3, 4)], [], [(200000, 4, 2), (800004, 0, 3)], [], [521], some []))
def kh_crewsIsWell_b4_1 : sg_T := (4, 0, ([((2, 572, 572, 1), none), ((0, 0, 200, 1), none), ((0, 0, 199, 1), none), ((0, 2, 2, 0), none), ((0, 1, 200, 1), none), ((2, 578, 578, 1), none), ((2, 579, 778, 1), none), ((0, 4, 4, 0), none), ((0, 0, 3, 1), none), ((0, 1, 1, 0), none), ((0, 0, 0, 0), none), ((0, 0, 0, 0), none), ((0, 0, 200, 1), some (1, 0)), ((0, 1, 200, 1), some (2, 1))], [(2, 13), (1, 12), (0, 0)], [], [(6, 7, 8), (5, 2, 6), (0, 3, 4)], [(8, 1)], [(500012, 1, 11), (400000, 8, 9), (800008, 6, 7), (100000, 2, 4), (800004, 0, 3)], [], [521], some []))
def kh_crewsIsWell_b4_2 : sg_T := (4, 0, ([((2, 572, 572, 1), none), ((0, 0, 200, 1), none), ((0, 0, 199, 1), none), ((0, 2, 2, 0), none), ((0, 1, 200, 1), none), ((2, 578, 578, 1), none), ((2, 579, 778, 1), none), ((0, 4, 4, 0), none), ((0, 1, 1, 1), none), ((0, 1, 1, 0), none), ((0, 1, 1, 0), none), ((0, 1, 1, 0), none), ((0, 1, 201, 1), some (1, 1)), ((0, 1, 200, 1), some (2, 1))], [(2, 13), (1, 12), (0, 0)], [], [(6, 7, 8), (5, 2, 6), (0, 3, 4)], [], [(500012, 1, 11), (300000, 8, 9), (800008, 6, 7), (100000, 2, 4), (800004, 0, 3)], [], [521], some []))
def kh_crewsIsWell_b45_0 : sg_T := (139, 0, ([((2, 572, 572, 1), none), ((0, 0, 200, 1), none), ((0, 0, 4, 1), none), ((0, 2, 4, 1), none), ((0, 0, 0, 0), none), ((0, 2, 4, 1), none), ((0, 0, 0, 0), none)], [(0, 0), (1, 1), (2, 2), (3, 3)], [6], [(0, 4, 5)], [], [(400000, 1, 2), (200000, 5, 3), (800005, 0, 4)], [], [521], some []))
def kh_crewsIsWell_b45_1 : sg_T := (139, 0, ([((2, 572, 572, 1), none), ((0, 0, 4, 1), none), ((0, 0, 4, 1), none), ((0, 2, 4, 1), none), ((0, 0, 0, 0), none), ((0, 2, 4, 1), none), ((0, 17, 200, 1), none), ((0, 16, 16, 0), none), ((0, 0, 0, 0), none)], [(0, 0), (1, 1), (2, 2), (3, 3)], [8], [(0, 4, 5)], [], [(100000, 7, 6), (104200006, 0, 0), (300000, 1, 2), (200000, 5, 3), (800005, 0, 4)], [], [521], some []))
def kh_crewsIsWell_b45_2 : sg_T := (139, 0, ([((2, 572, 572, 1), none), ((0, 0, 4, 1), none), ((0, 0, 4, 1), none), ((0, 2, 4, 1), none), ((0, 0, 0, 0), none), ((0, 2, 4, 1), none), ((0, 0, 16, 1), none), ((0, 16, 16, 0), none), ((0, 1, 1, 0), none)], [(0, 0), (1, 1), (2, 2), (3, 3)], [8], [(0, 4, 5)], [], [(200000, 6, 7), (104200006, 0, 0), (300000, 1, 2), (200000, 5, 3), (800005, 0, 4)], [], [521], some []))
def kh_crewsIsWell_b45_3 : sg_T := (45, 0, ([((2, 572, 572, 1), none), ((0, 0, 200, 1), none), ((0, 0, 4, 1), none), ((0, 0, 3, 1), none), ((0, 0, 0, 0), none), ((0, 2, 4, 1), none), ((2, 573, 573, 1), none), ((2, 574, 577, 1), none), ((0, 3, 3, 0), none), ((0, (-1), (-1), 1), none), ((0, (-1), (-1), 0), none), ((0, (-1), (-1), 0), none), ((0, 0, 0, 0), none), ((0, 0, 0, 0), none), ((0, 0, 4, 1), some (2, 0)), ((0, 1, 4, 1), some (3, 1))], [(3, 15), (2, 14), (4, 9), (0, 0), (1, 1)], [], [(7, 8, 9), (6, 3, 7), (0, 4, 5)], [], [(500014, 2, 13), (300000, 9, 11), (300000, 9, 10), (800009, 7, 8), (100000, 3, 5), (800005, 0, 4)], [], [521], some []))
def kh_crewsIsWell_b45_4 : sg_T := (96, 0, ([((2, 572, 572, 1), none), ((0, 0, 200, 1), none), ((0, 0, 4, 1), none), ((0, 0, 3, 1), none), ((0, 0, 0, 0), none), ((0, 2, 4, 1), none), ((2, 573, 573, 1), none), ((2, 574, 577, 1), none), ((0, 3, 3, 0), none), ((0, 0, 199, 1), none), ((0, (-1), (-1), 0), none), ((2, 578, 578, 1), none), ((2, 579, 778, 1), none), ((0, 4, 4, 0), none), ((0, 0, 3, 1), none), ((0, 1, 1, 0), none), ((0, 0, 0, 0), none)], [(4, 9), (0, 0), (1, 1), (2, 2), (3, 3)], [16], [(12, 13, 14), (11, 9, 12), (7, 8, 9), (6, 3, 7), (0, 4, 5)], [(14, 1), (9, (-1))], [(400000, 14, 15), (800014, 12, 13), (400000, 9, 10), (800009, 7, 8), (100000, 3, 5), (800005, 0, 4)], [], [521], some []))
def kh_crewsIsWell_b45_5 : sg_T := (45, 0, ([((2, 572, 572, 1), none), ((0, 0, 200, 1), none), ((0, 0, 4, 1), none), ((0, 0, 3, 1), none), ((0, 0, 0, 0), none), ((0, 2, 4, 1), none), ((2, 573, 573, 1), none), ((2, 574, 577, 1), none), ((0, 3, 3, 0), none), ((0, 0, 199, 1), none), ((0, (-1), (-1), 0), none), ((2, 578, 578, 1), none), ((2, 579, 778, 1), none), ((0, 4, 4, 0), none), ((0, 1, 1, 1), none), ((0, 1, 1, 0), none), ((2, 578, 578, 1), none), ((0, 5, 5, 0), none), ((0, 0, 3, 1), none), ((0, (-1), (-1), 0), none), ((0, 1, 1, 0), none), ((0, 1, 1, 0), none), ((0, 1, 5, 1), some (2, 1)), ((0, 1, 4, 1), some (3, 1))], [(3, 23), (2, 22), (4, 9), (0, 0), (1, 1)], [], [(12, 17, 18), (12, 13, 14), (11, 9, 12), (7, 8, 9), (6, 3, 7), (0, 4, 5)], [(9, (-1))], [(500022, 2, 21), (400000, 9, 19), (300000, 18, 3), (800018, 12, 17), (300000, 14, 15), (800014, 12, 13), (400000, 9, 10), (800009, 7, 8), (100000, 3, 5), (800005, 0, 4)], [], [521], some []))
def kh_crewsIsWell_b45_6 : sg_T := (96, 0, ([((2, 572, 572, 1), none), ((0, 0, 200, 1), none), ((0, 0, 4, 1), none), ((0, 0, 3, 1), none), ((0, 0, 0, 0), none), ((0, 2, 4, 1), none), ((2, 573, 573, 1), none), ((2, 574, 577, 1), none), ((0, 3, 3, 0), none), ((0, 0, 199, 1), none), ((0, (-1), (-1), 0), none), ((2, 578, 578, 1), none), ((2, 579, 778, 1), none), ((0, 4, 4, 0), none), ((0, 1, 1, 1), none), ((0, 1, 1, 0), none), ((2, 578, 578, 1), none), ((0, 5, 5, 0), none), ((0, (-1), 3, 1), none), ((0, 0, 0, 0), none)], [(4, 9), (0, 0), (1, 1), (2, 2), (3, 3)], [19], [(12, 17, 18), (12, 13, 14), (11, 9, 12), (7, 8, 9), (6, 3, 7), (0, 4, 5)], [(9, (-1))], [(400000, 18, 3), (800018, 12, 17), (300000, 14, 15), (800014, 12, 13), (400000, 9, 10), (800009, 7, 8), (100000, 3, 5), (800005, 0, 4)], [], [521], some []))
def kh_crewsIsWell_I (l : Launch) (D : va_G) (tc : Nat → ClassId) (ad : Nat → Nat) (kd : Nat → Nat × Nat) (N : Nat) (sm : Nat → Nat) (xs : List av_X) (S : fw_S) (p : Program) (e : Env) (s : State) (m : MethodId) (args : Array Value) (below : List Frame) (meth : Method) (c : Code) (sz : Nat) (k : Nat) : Prop := (∀ (α : List av_X) (lv : List (Nat × Value)) (st : List Value) (S1 : fw_S), as_in ad sm wd_fl2 xs S kh_crewsIsWell.2.2.2.2.2.1 α kh_crewsIsWell_a4.2.2.1 lv st S1 → (nv α 2 ≤ (S.1 572 2).toInt ∧ nv α 1 = tkS (vF S) (nv α 2).toNat) → 1000 + (200 - nv α 2).toNat < k → hd_W wd_fl2 kh_crewsIsWell kh_crewsIsWell_y l D tc ad kd N sm xs S p e s m args below meth c sz 4 lv st S1 0) ∧ (∀ (α : List av_X) (lv : List (Nat × Value)) (st : List Value) (S1 : fw_S), as_in ad sm wd_fl2 xs S kh_crewsIsWell.2.2.2.2.2.1 α kh_crewsIsWell_a45.2.2.1 lv st S1 → (nv α 1 = tkS (vF S) (S.1 572 2).toInt.toNat ∧ nv α 3 ≤ (S.1 572 0).toInt ∧ nv α 2 = bsS (vF S) (nv α 3).toNat) → (4 - nv α 3).toNat < k → hd_W wd_fl2 kh_crewsIsWell kh_crewsIsWell_y l D tc ad kd N sm xs S p e s m args below meth c sz 45 lv st S1 0) ∧ True
set_option maxHeartbeats 16000000 in
set_option maxRecDepth 8000 in
theorem kh_crewsIsWell_h4 {l : Launch} {D : va_G} {tc : Nat → ClassId} {ad : Nat → Nat} {kd : Nat → Nat × Nat} {N : Nat} {sm : Nat → Nat} {xs : List av_X} {S : fw_S} {p : Program} {e : Env} {s : State} {m : MethodId} {args : Array Value} {below : List Frame} {meth : Method} {c : Code} {sz : Nat} {lvE : List (Nat × Value)} (G : hd_C wd_ff2 wd_fl2 kh_crewsIsWell [kh_926, kh_959, kh_notOver] kh_crewsIsWell_y l D tc ad kd N sm xs p s m args meth c sz) (H0 : as_in ad sm wd_fl2 xs S kh_crewsIsWell.2.2.2.2.2.1 xs (hd_0 kh_crewsIsWell) lvE [] S) {k : Nat} (ih : kh_crewsIsWell_I l D tc ad kd N sm xs S p e s m args below meth c sz k) : (∀ (α : List av_X) (lv : List (Nat × Value)) (st : List Value) (S1 : fw_S), as_in ad sm wd_fl2 xs S kh_crewsIsWell.2.2.2.2.2.1 α kh_crewsIsWell_a4.2.2.1 lv st S1 → (nv α 2 ≤ (S.1 572 2).toInt ∧ nv α 1 = tkS (vF S) (nv α 2).toNat) → 1000 + (200 - nv α 2).toNat < k + 1 → hd_W wd_fl2 kh_crewsIsWell kh_crewsIsWell_y l D tc ad kd N sm xs S p e s m args below meth c sz 4 lv st S1 0) := by
  have hx : xs.length = 1 := by rw [H0.2.1.1]; rfl
  have q521 : crewF (vF S) := by
    have h := H0.2.2.2.2.2.2.2.2.1 521 (by decide +kernel)
    rw [wd_fl2, if_neg (by decide)] at h
    exact h
  intro α lv st S1 H hp hk
  have bp := (en_nv (i := 1) H.2.1 rfl).2
  change 0 ≤ nv α 1 ∧ nv α 1 ≤ 201 at bp
  replace H := as_clamp (i := 1) (lo := 0) (hi := 200) H rfl rfl (by have hb := tkS_bd (f := vF S) (n := (nv α 2).toNat); have b2 := (en_nv (i := 2) H.2.1 rfl).2; change 0 ≤ nv α 2 ∧ nv α 2 ≤ 200 at b2; have := hp.2; omega) (by have hb := tkS_bd (f := vF S) (n := (nv α 2).toNat); have b2 := (en_nv (i := 2) H.2.1 rfl).2; change 0 ≤ nv α 2 ∧ nv α 2 ≤ 200 at b2; have := hp.2; omega) (by decide)
  obtain ⟨α1, hle, Hr⟩ := as_recM (pl := []) [] (by decide +kernel) H
  have hf := H.2.2.2.2.2.2.2.2.2.2.1
  have hl1 : α1.length = 3 := by rw [Hr.2.1.1]; rfl
  have hl0 : α.length = 3 := by rw [H.2.1.1]; rfl
  have hxa : al_le xs α1 := H.1.trans hle
  obtain ⟨g1, -, g3, g4, -⟩ := as_fx Hr
  have g0 : (572 ≤ nv α1 0 ∧ nv α1 0 ≤ 572) ∧ (0 ≤ nv α1 1 ∧ nv α1 1 ≤ 200) ∧ (0 ≤ nv α1 2 ∧ nv α1 2 ≤ 200) ∧ True := by
    refine ⟨by have h := (en_nv (i := 0) Hr.2.1 rfl).2; exact h, by have h := (en_nv (i := 1) Hr.2.1 rfl).2; exact h, by have h := (en_nv (i := 2) Hr.2.1 rfl).2; exact h, trivial⟩
  have r0 : nv α1 0 = nv α 0 := nv_le hle (by omega)
  have r1 : nv α1 1 = nv α 1 := nv_le hle (by omega)
  have r2 : nv α1 2 = nv α 2 := nv_le hle (by omega)
  refine hd_segM G (na := 3) (fuel := 600) (first := true) (Bs := [kh_crewsIsWell_b4_0, kh_crewsIsWell_b4_1, kh_crewsIsWell_b4_2]) (by decide +kernel) hl1 Hr ?_
  intro q hq β lv' st' S' H1
  simp only [List.mem_cons, List.not_mem_nil, or_false] at hq
  rcases hq with rfl | rfl | rfl
  · obtain ⟨f1, f2, f3, f4, f5⟩ := as_fx H1
    simp only [kh_crewsIsWell_b4_0, Nat.reduceEqDiff, if_false, fx_env, fx_c, fx_ne, fx_hf, wl_S, Nat.zero_add, Nat.reduceAdd, Nat.reduceDiv, Nat.reduceMod, List.getElem?_cons_zero, List.getElem?_cons_succ, if_true, and_true, true_and] at f1 f2 f3 f4 f5
    have fe0 : nv β 0 = 572 := by omega
    have fe3 : nv β 3 = 2 := by omega
    have fe5 : nv β 5 = 0 := by omega
    have fe6 : nv β 6 = 0 := by omega
    try simp only [fe0, fe3, fe5, fe6, Int.reduceToNat] at f2 f3 f4 f5
    have s0 : nv β 0 = nv α1 0 := nv_le H1.1 (by omega)
    have s1 : nv β 1 = nv α1 1 := nv_le H1.1 (by omega)
    have s2 : nv β 2 = nv α1 2 := nv_le H1.1 (by omega)
    obtain ⟨c0, c1⟩ := f2
    obtain ⟨α', Ha, hm⟩ := hd_gpM (q := kh_crewsIsWell_a45) (n := 0) (by decide +kernel) hx H1 (by decide +kernel) hxa hf
    have hfr := H1.2.2.2.2.2.2.2.2.2.2.1
    have m0 : nv α' 0 = nv β 0 := hm 0 0 rfl
    have m1 : nv α' 1 = nv β 1 := hm 1 1 rfl
    have m2 : nv α' 2 = nv β 5 := hm 2 5 rfl
    have m3 : nv α' 3 = nv β 6 := hm 3 6 rfl
    subst S'
    have eS : S1 = S := fr_same (show fr_in [] S S1 from hf)
    have o1 := old_i c1 (en_nv (i := 4) H1.2.1 rfl).1
    have hc4 := rg_bd1 (q_rg_in (q := ((572, 572), (0, 0, 0), (0, 2, 4, 1))) (by decide +kernel) H0)
    rw [← eS] at hc4
    refine ih.2.1 _ _ _ _ Ha ?_ ?_
    · rw [m1, m2, m3, ← eS, o1, s1, r1]
      refine ⟨?_, by omega, ?_⟩
      · rw [hp.2, show (nv α 2).toNat = (nv β 4).toNat by have := hp.1; rw [← eS, o1] at this; omega, eS]
      · rw [show (nv β 6).toNat = 0 by omega]
        show nv β 5 = 0
        omega
    · omega
  · obtain ⟨f1, f2, f3, f4, f5⟩ := as_fx H1
    simp only [kh_crewsIsWell_b4_1, Nat.reduceEqDiff, if_false, fx_env, fx_c, fx_ne, fx_hf, wl_S, Nat.zero_add, Nat.reduceAdd, Nat.reduceDiv, Nat.reduceMod, List.getElem?_cons_zero, List.getElem?_cons_succ, if_true, and_true, true_and] at f1 f2 f3 f4 f5
    have fe0 : nv β 0 = 572 := by omega
    have fe3 : nv β 3 = 2 := by omega
    have fe5 : nv β 5 = 578 := by omega
    have fe7 : nv β 7 = 4 := by omega
    have fe9 : nv β 9 = 1 := by omega
    have fe10 : nv β 10 = 0 := by omega
    have fe11 : nv β 11 = 0 := by omega
    try simp only [fe0, fe3, fe5, fe7, fe9, fe10, fe11, Int.reduceToNat] at f2 f3 f4 f5
    have s0 : nv β 0 = nv α1 0 := nv_le H1.1 (by omega)
    have s1 : nv β 1 = nv α1 1 := nv_le H1.1 (by omega)
    have s2 : nv β 2 = nv α1 2 := nv_le H1.1 (by omega)
    obtain ⟨c0, c1, c2, c3, c4⟩ := f2
    obtain ⟨α', Ha, hm⟩ := hd_gpM (q := kh_crewsIsWell_a4) (n := 0) (by decide +kernel) hx H1 (by decide +kernel) hxa hf
    have hfr := H1.2.2.2.2.2.2.2.2.2.2.1
    have m0 : nv α' 0 = nv β 0 := hm 0 0 rfl
    have m1 : nv α' 1 = nv β 12 := hm 1 12 rfl
    have m2 : nv α' 2 = nv β 13 := hm 2 13 rfl
    subst S'
    have eS : S1 = S := fr_same (show fr_in [] S S1 from hf)
    have rt6 := hf_rt (c := 578) (lo := 0) (hi := 199) (base := 579) (rv := 5) (iv := 2) (n := 6) (by decide +kernel) (by decide +kernel) H1 (by decide +kernel) (by omega) (by omega) (by omega)
    have o2 := old_i c2 (en_nv (i := 8) H1.2.1 rfl).1
    have o4 := old_i c4 (en_nv (i := 4) H1.2.1 rfl).1
    have hs : mjk (vF S) (nv β 2).toNat 4 = nv β 8 := by rw [mjk_v (by omega) (by decide), show 579 + (nv β 2).toNat = (nv β 6).toNat by omega, ← eS]; exact o2.trans (by omega)
    have h2 := hp.2
    rw [← r1, ← s1, ← r2, ← s2] at h2
    refine ih.1 _ _ _ _ Ha ?_ ?_
    · rw [m1, m2]
      refine ⟨by rw [← eS, o4]; omega, ?_⟩
      rw [show (nv β 13).toNat = (nv β 2).toNat + 1 by omega, tkS, hs]
      split <;> omega
    · omega
  · obtain ⟨f1, f2, f3, f4, f5⟩ := as_fx H1
    simp only [kh_crewsIsWell_b4_2, Nat.reduceEqDiff, if_false, fx_env, fx_c, fx_ne, fx_hf, wl_S, Nat.zero_add, Nat.reduceAdd, Nat.reduceDiv, Nat.reduceMod, List.getElem?_cons_zero, List.getElem?_cons_succ, if_true, and_true, true_and] at f1 f2 f3 f4 f5
    have fe0 : nv β 0 = 572 := by omega
    have fe3 : nv β 3 = 2 := by omega
    have fe5 : nv β 5 = 578 := by omega
    have fe7 : nv β 7 = 4 := by omega
    have fe8 : nv β 8 = 1 := by omega
    have fe9 : nv β 9 = 1 := by omega
    have fe10 : nv β 10 = 1 := by omega
    have fe11 : nv β 11 = 1 := by omega
    try simp only [fe0, fe3, fe5, fe7, fe8, fe9, fe10, fe11, Int.reduceToNat] at f2 f3 f4 f5
    have s0 : nv β 0 = nv α1 0 := nv_le H1.1 (by omega)
    have s1 : nv β 1 = nv α1 1 := nv_le H1.1 (by omega)
    have s2 : nv β 2 = nv α1 2 := nv_le H1.1 (by omega)
    obtain ⟨c0, c1, c2, c3, c4⟩ := f2
    obtain ⟨α', Ha, hm⟩ := hd_gpM (q := kh_crewsIsWell_a4) (n := 0) (by decide +kernel) hx H1 (by decide +kernel) hxa hf
    have hfr := H1.2.2.2.2.2.2.2.2.2.2.1
    have m0 : nv α' 0 = nv β 0 := hm 0 0 rfl
    have m1 : nv α' 1 = nv β 12 := hm 1 12 rfl
    have m2 : nv α' 2 = nv β 13 := hm 2 13 rfl
    subst S'
    have eS : S1 = S := fr_same (show fr_in [] S S1 from hf)
    have rt6 := hf_rt (c := 578) (lo := 0) (hi := 199) (base := 579) (rv := 5) (iv := 2) (n := 6) (by decide +kernel) (by decide +kernel) H1 (by decide +kernel) (by omega) (by omega) (by omega)
    have o2 := old_i c2 (by have h := (en_nv (i := 8) H1.2.1 rfl).1; rw [fe8] at h; exact h)
    have o4 := old_i c4 (en_nv (i := 4) H1.2.1 rfl).1
    have hs : mjk (vF S) (nv β 2).toNat 4 = nv β 8 := by rw [mjk_v (by omega) (by decide), show 579 + (nv β 2).toNat = (nv β 6).toNat by omega, ← eS]; exact o2.trans (by omega)
    have h2 := hp.2
    rw [← r1, ← s1, ← r2, ← s2] at h2
    refine ih.1 _ _ _ _ Ha ?_ ?_
    · rw [m1, m2]
      refine ⟨by rw [← eS, o4]; omega, ?_⟩
      rw [show (nv β 13).toNat = (nv β 2).toNat + 1 by omega, tkS, hs]
      split <;> omega
    · omega
set_option maxHeartbeats 16000000 in
set_option maxRecDepth 8000 in
theorem kh_crewsIsWell_h45 {l : Launch} {D : va_G} {tc : Nat → ClassId} {ad : Nat → Nat} {kd : Nat → Nat × Nat} {N : Nat} {sm : Nat → Nat} {xs : List av_X} {S : fw_S} {p : Program} {e : Env} {s : State} {m : MethodId} {args : Array Value} {below : List Frame} {meth : Method} {c : Code} {sz : Nat} {lvE : List (Nat × Value)} (G : hd_C wd_ff2 wd_fl2 kh_crewsIsWell [kh_926, kh_959, kh_notOver] kh_crewsIsWell_y l D tc ad kd N sm xs p s m args meth c sz) (H0 : as_in ad sm wd_fl2 xs S kh_crewsIsWell.2.2.2.2.2.1 xs (hd_0 kh_crewsIsWell) lvE [] S) {k : Nat} (ih : kh_crewsIsWell_I l D tc ad kd N sm xs S p e s m args below meth c sz k) : (∀ (α : List av_X) (lv : List (Nat × Value)) (st : List Value) (S1 : fw_S), as_in ad sm wd_fl2 xs S kh_crewsIsWell.2.2.2.2.2.1 α kh_crewsIsWell_a45.2.2.1 lv st S1 → (nv α 1 = tkS (vF S) (S.1 572 2).toInt.toNat ∧ nv α 3 ≤ (S.1 572 0).toInt ∧ nv α 2 = bsS (vF S) (nv α 3).toNat) → (4 - nv α 3).toNat < k + 1 → hd_W wd_fl2 kh_crewsIsWell kh_crewsIsWell_y l D tc ad kd N sm xs S p e s m args below meth c sz 45 lv st S1 0) := by
  have hx : xs.length = 1 := by rw [H0.2.1.1]; rfl
  have q521 : crewF (vF S) := by
    have h := H0.2.2.2.2.2.2.2.2.1 521 (by decide +kernel)
    rw [wd_fl2, if_neg (by decide)] at h
    exact h
  intro α lv st S1 H hp hk
  have bp := (en_nv (i := 2) H.2.1 rfl).2
  change 0 ≤ nv α 2 ∧ nv α 2 ≤ 5 at bp
  replace H := as_clamp (i := 2) (lo := 0) (hi := 4) H rfl rfl (by have hb := bsS_bd (f := vF S) (n := (nv α 3).toNat); have b3 := (en_nv (i := 3) H.2.1 rfl).2; change 0 ≤ nv α 3 ∧ nv α 3 ≤ 4 at b3; have := hp.2.2; omega) (by have hb := bsS_bd (f := vF S) (n := (nv α 3).toNat); have b3 := (en_nv (i := 3) H.2.1 rfl).2; change 0 ≤ nv α 3 ∧ nv α 3 ≤ 4 at b3; have := hp.2.2; omega) (by decide)
  obtain ⟨α1, hle, Hr⟩ := as_recM (pl := []) [] (by decide +kernel) H
  have hf := H.2.2.2.2.2.2.2.2.2.2.1
  have hl1 : α1.length = 4 := by rw [Hr.2.1.1]; rfl
  have hl0 : α.length = 4 := by rw [H.2.1.1]; rfl
  have hxa : al_le xs α1 := H.1.trans hle
  obtain ⟨g1, -, g3, g4, -⟩ := as_fx Hr
  have g0 : (572 ≤ nv α1 0 ∧ nv α1 0 ≤ 572) ∧ (0 ≤ nv α1 1 ∧ nv α1 1 ≤ 200) ∧ (0 ≤ nv α1 2 ∧ nv α1 2 ≤ 4) ∧ (0 ≤ nv α1 3 ∧ nv α1 3 ≤ 4) ∧ True := by
    refine ⟨by have h := (en_nv (i := 0) Hr.2.1 rfl).2; exact h, by have h := (en_nv (i := 1) Hr.2.1 rfl).2; exact h, by have h := (en_nv (i := 2) Hr.2.1 rfl).2; exact h, by have h := (en_nv (i := 3) Hr.2.1 rfl).2; exact h, trivial⟩
  have r0 : nv α1 0 = nv α 0 := nv_le hle (by omega)
  have r1 : nv α1 1 = nv α 1 := nv_le hle (by omega)
  have r2 : nv α1 2 = nv α 2 := nv_le hle (by omega)
  have r3 : nv α1 3 = nv α 3 := nv_le hle (by omega)
  refine hd_segM G (na := 4) (fuel := 600) (first := true) (Bs := [kh_crewsIsWell_b45_0, kh_crewsIsWell_b45_1, kh_crewsIsWell_b45_2, kh_crewsIsWell_b45_3, kh_crewsIsWell_b45_4, kh_crewsIsWell_b45_5, kh_crewsIsWell_b45_6]) (by decide +kernel) hl1 Hr ?_
  intro q hq β lv' st' S' H1
  simp only [List.mem_cons, List.not_mem_nil, or_false] at hq
  rcases hq with rfl | rfl | rfl | rfl | rfl | rfl | rfl
  · obtain ⟨f1, f2, f3, f4, f5⟩ := as_fx H1
    simp only [kh_crewsIsWell_b45_0, Nat.reduceEqDiff, if_false, fx_env, fx_c, fx_ne, fx_hf, wl_S, Nat.zero_add, Nat.reduceAdd, Nat.reduceDiv, Nat.reduceMod, List.getElem?_cons_zero, List.getElem?_cons_succ, if_true, and_true, true_and] at f1 f2 f3 f4 f5
    have fe0 : nv β 0 = 572 := by omega
    have fe4 : nv β 4 = 0 := by omega
    have fe6 : nv β 6 = 0 := by omega
    try simp only [fe0, fe4, fe6, Int.reduceToNat] at f2 f3 f4 f5
    have s0 : nv β 0 = nv α1 0 := nv_le H1.1 (by omega)
    have s1 : nv β 1 = nv α1 1 := nv_le H1.1 (by omega)
    have s2 : nv β 2 = nv α1 2 := nv_le H1.1 (by omega)
    have s3 : nv β 3 = nv α1 3 := nv_le H1.1 (by omega)
    obtain ⟨c0, c1, c2⟩ := f2
    have eS : S1 = S := fr_same (show fr_in [] S S1 from hf)
    have o2 := old_i c2 (en_nv (i := 5) H1.2.1 rfl).1
    exfalso
    obtain ⟨p1, p2, p3⟩ := hp
    have ht := tk_bs q521 (by rw [vF_c, ← eS, o2]; omega)
    rw [vF_c, vF_j] at ht
    have e9 : (S.1 572 0).toInt = nv α 3 := by
      have h9 := o2
      rw [eS] at h9
      omega
    rw [e9, ← p3, ← p1] at ht
    omega
  · obtain ⟨f1, f2, f3, f4, f5⟩ := as_fx H1
    simp only [kh_crewsIsWell_b45_1, Nat.reduceEqDiff, if_false, fx_env, fx_c, fx_ne, fx_hf, wl_S, Nat.zero_add, Nat.reduceAdd, Nat.reduceDiv, Nat.reduceMod, List.getElem?_cons_zero, List.getElem?_cons_succ, if_true, and_true, true_and] at f1 f2 f3 f4 f5
    have fe0 : nv β 0 = 572 := by omega
    have fe4 : nv β 4 = 0 := by omega
    have fe7 : nv β 7 = 16 := by omega
    have fe8 : nv β 8 = 0 := by omega
    try simp only [fe0, fe4, fe7, fe8, Int.reduceToNat] at f2 f3 f4 f5
    have s0 : nv β 0 = nv α1 0 := nv_le H1.1 (by omega)
    have s1 : nv β 1 = nv α1 1 := nv_le H1.1 (by omega)
    have s2 : nv β 2 = nv α1 2 := nv_le H1.1 (by omega)
    have s3 : nv β 3 = nv α1 3 := nv_le H1.1 (by omega)
    obtain ⟨c0, c1, c2, c3, c4⟩ := f2
    have eS : S1 = S := fr_same (show fr_in [] S S1 from hf)
    have o4 := old_i c4 (en_nv (i := 5) H1.2.1 rfl).1
    have d1 := c1
    simp only [wd_fl2, if_neg (show ¬ (wd_base1 1042 = true) by decide)] at d1
    exfalso
    have hb := q521.2.2.2.2
    unfold opF at hb
    rw [vF_j] at hb
    rw [eS] at d1
    rw [← d1] at hb
    omega
  · obtain ⟨f1, f2, f3, f4, f5⟩ := as_fx H1
    simp only [kh_crewsIsWell_b45_2, Nat.reduceEqDiff, if_false, fx_env, fx_c, fx_ne, fx_hf, wl_S, Nat.zero_add, Nat.reduceAdd, Nat.reduceDiv, Nat.reduceMod, List.getElem?_cons_zero, List.getElem?_cons_succ, if_true, and_true, true_and] at f1 f2 f3 f4 f5
    have fe0 : nv β 0 = 572 := by omega
    have fe4 : nv β 4 = 0 := by omega
    have fe7 : nv β 7 = 16 := by omega
    have fe8 : nv β 8 = 1 := by omega
    try simp only [fe0, fe4, fe7, fe8, Int.reduceToNat] at f2 f3 f4 f5
    have s0 : nv β 0 = nv α1 0 := nv_le H1.1 (by omega)
    have s1 : nv β 1 = nv α1 1 := nv_le H1.1 (by omega)
    have s2 : nv β 2 = nv α1 2 := nv_le H1.1 (by omega)
    have s3 : nv β 3 = nv α1 3 := nv_le H1.1 (by omega)
    obtain ⟨c0, c1, c2, c3, c4⟩ := f2
    exact hd_run G (ss := []) (fuel := 20) (by decide +kernel) (as_backM H1 (by decide +kernel) hxa hf)
  · obtain ⟨f1, f2, f3, f4, f5⟩ := as_fx H1
    simp only [kh_crewsIsWell_b45_3, Nat.reduceEqDiff, if_false, fx_env, fx_c, fx_ne, fx_hf, wl_S, Nat.zero_add, Nat.reduceAdd, Nat.reduceDiv, Nat.reduceMod, List.getElem?_cons_zero, List.getElem?_cons_succ, if_true, and_true, true_and] at f1 f2 f3 f4 f5
    have fe0 : nv β 0 = 572 := by omega
    have fe4 : nv β 4 = 0 := by omega
    have fe6 : nv β 6 = 573 := by omega
    have fe8 : nv β 8 = 3 := by omega
    have fe9 : nv β 9 = (-1) := by omega
    have fe10 : nv β 10 = (-1) := by omega
    have fe11 : nv β 11 = (-1) := by omega
    have fe12 : nv β 12 = 0 := by omega
    have fe13 : nv β 13 = 0 := by omega
    try simp only [fe0, fe4, fe6, fe8, fe9, fe10, fe11, fe12, fe13, Int.reduceToNat] at f2 f3 f4 f5
    have s0 : nv β 0 = nv α1 0 := nv_le H1.1 (by omega)
    have s1 : nv β 1 = nv α1 1 := nv_le H1.1 (by omega)
    have s2 : nv β 2 = nv α1 2 := nv_le H1.1 (by omega)
    have s3 : nv β 3 = nv α1 3 := nv_le H1.1 (by omega)
    obtain ⟨c0, c1, c2, c3, c4, c5⟩ := f2
    obtain ⟨α', Ha, hm⟩ := hd_gpM (q := kh_crewsIsWell_a45) (n := 0) (by decide +kernel) hx H1 (by decide +kernel) hxa hf
    have hfr := H1.2.2.2.2.2.2.2.2.2.2.1
    have m0 : nv α' 0 = nv β 0 := hm 0 0 rfl
    have m1 : nv α' 1 = nv β 1 := hm 1 1 rfl
    have m2 : nv α' 2 = nv β 14 := hm 2 14 rfl
    have m3 : nv α' 3 = nv β 15 := hm 3 15 rfl
    subst S'
    have eS : S1 = S := fr_same (show fr_in [] S S1 from hf)
    have rt7 := hf_rt (c := 573) (lo := 0) (hi := 3) (base := 574) (rv := 6) (iv := 3) (n := 7) (by decide +kernel) (by decide +kernel) H1 (by decide +kernel) (by omega) (by omega) (by omega)
    have o3 := old_i c3 (by have h := (en_nv (i := 9) H1.2.1 rfl).1; rw [fe9] at h; exact h)
    have o5 := old_i c5 (en_nv (i := 5) H1.2.1 rfl).1
    have hm : mck (vF S) (nv β 3).toNat 3 = nv β 9 := by rw [mck_v (by omega) (by decide), show 574 + (nv β 3).toNat = (nv β 7).toNat by omega, ← eS]; exact o3.trans (by omega)
    obtain ⟨p1, p2, p3⟩ := hp
    rw [← r2, ← s2, ← r3, ← s3] at p3
    refine ih.2.1 _ _ _ _ Ha ?_ ?_
    · rw [m1, m2, m3, s1, r1]
      refine ⟨p1, by rw [← eS, o5]; omega, ?_⟩
      rw [show (nv β 15).toNat = (nv β 3).toNat + 1 by omega, bsS, hm]
      split <;> omega
    · omega
  · obtain ⟨f1, f2, f3, f4, f5⟩ := as_fx H1
    simp only [kh_crewsIsWell_b45_4, Nat.reduceEqDiff, if_false, fx_env, fx_c, fx_ne, fx_hf, wl_S, Nat.zero_add, Nat.reduceAdd, Nat.reduceDiv, Nat.reduceMod, List.getElem?_cons_zero, List.getElem?_cons_succ, if_true, and_true, true_and] at f1 f2 f3 f4 f5
    have fe0 : nv β 0 = 572 := by omega
    have fe4 : nv β 4 = 0 := by omega
    have fe6 : nv β 6 = 573 := by omega
    have fe8 : nv β 8 = 3 := by omega
    have fe10 : nv β 10 = (-1) := by omega
    have fe11 : nv β 11 = 578 := by omega
    have fe13 : nv β 13 = 4 := by omega
    have fe15 : nv β 15 = 1 := by omega
    have fe16 : nv β 16 = 0 := by omega
    try simp only [fe0, fe4, fe6, fe8, fe10, fe11, fe13, fe15, fe16, Int.reduceToNat] at f2 f3 f4 f5
    have s0 : nv β 0 = nv α1 0 := nv_le H1.1 (by omega)
    have s1 : nv β 1 = nv α1 1 := nv_le H1.1 (by omega)
    have s2 : nv β 2 = nv α1 2 := nv_le H1.1 (by omega)
    have s3 : nv β 3 = nv α1 3 := nv_le H1.1 (by omega)
    obtain ⟨c0, c1, c2, c3, c4, c5⟩ := f2
    have eS : S1 = S := fr_same (show fr_in [] S S1 from hf)
    have rt12 := hf_rt (c := 578) (lo := 0) (hi := 199) (base := 579) (rv := 11) (iv := 9) (n := 12) (by decide +kernel) (by decide +kernel) H1 (by decide +kernel) (by omega) (by omega) (by omega)
    have rt7 := hf_rt (c := 573) (lo := 0) (hi := 3) (base := 574) (rv := 6) (iv := 3) (n := 7) (by decide +kernel) (by decide +kernel) H1 (by decide +kernel) (by omega) (by omega) (by omega)
    have o1 := old_i c1 (en_nv (i := 14) H1.2.1 rfl).1
    have o3 := old_i c3 (en_nv (i := 9) H1.2.1 rfl).1
    have o5 := old_i c5 (en_nv (i := 5) H1.2.1 rfl).1
    exfalso
    have hm : mck (vF S) (nv β 3).toNat 3 = nv β 9 := by rw [mck_v (by omega) (by decide), show 574 + (nv β 3).toNat = (nv β 7).toNat by omega, ← eS]; exact o3.trans (by omega)
    have hcr := q521.2.2.2.1.1 (nv β 3).toNat (by omega) (by rw [vF_c, ← eS, o5]; omega)
    rw [hm] at hcr
    rcases hcr with e | ⟨e1, e2, e3, e4⟩
    · omega
    · rw [mjk_v (by omega) (by decide), show 579 + (nv β 9).toNat = (nv β 12).toNat by omega, ← eS, o1] at e3
      omega
  · obtain ⟨f1, f2, f3, f4, f5⟩ := as_fx H1
    simp only [kh_crewsIsWell_b45_5, Nat.reduceEqDiff, if_false, fx_env, fx_c, fx_ne, fx_hf, wl_S, Nat.zero_add, Nat.reduceAdd, Nat.reduceDiv, Nat.reduceMod, List.getElem?_cons_zero, List.getElem?_cons_succ, if_true, and_true, true_and] at f1 f2 f3 f4 f5
    have fe0 : nv β 0 = 572 := by omega
    have fe4 : nv β 4 = 0 := by omega
    have fe6 : nv β 6 = 573 := by omega
    have fe8 : nv β 8 = 3 := by omega
    have fe10 : nv β 10 = (-1) := by omega
    have fe11 : nv β 11 = 578 := by omega
    have fe13 : nv β 13 = 4 := by omega
    have fe14 : nv β 14 = 1 := by omega
    have fe15 : nv β 15 = 1 := by omega
    have fe16 : nv β 16 = 578 := by omega
    have fe17 : nv β 17 = 5 := by omega
    have fe19 : nv β 19 = (-1) := by omega
    have fe20 : nv β 20 = 1 := by omega
    have fe21 : nv β 21 = 1 := by omega
    try simp only [fe0, fe4, fe6, fe8, fe10, fe11, fe13, fe14, fe15, fe16, fe17, fe19, fe20, fe21, Int.reduceToNat] at f2 f3 f4 f5
    have s0 : nv β 0 = nv α1 0 := nv_le H1.1 (by omega)
    have s1 : nv β 1 = nv α1 1 := nv_le H1.1 (by omega)
    have s2 : nv β 2 = nv α1 2 := nv_le H1.1 (by omega)
    have s3 : nv β 3 = nv α1 3 := nv_le H1.1 (by omega)
    obtain ⟨c0, c1, c2, c3, c4, c5, c6, c7, c8, c9⟩ := f2
    obtain ⟨α', Ha, hm⟩ := hd_gpM (q := kh_crewsIsWell_a45) (n := 0) (by decide +kernel) hx H1 (by decide +kernel) hxa hf
    have hfr := H1.2.2.2.2.2.2.2.2.2.2.1
    have m0 : nv α' 0 = nv β 0 := hm 0 0 rfl
    have m1 : nv α' 1 = nv β 1 := hm 1 1 rfl
    have m2 : nv α' 2 = nv β 22 := hm 2 22 rfl
    have m3 : nv α' 3 = nv β 23 := hm 3 23 rfl
    subst S'
    have eS : S1 = S := fr_same (show fr_in [] S S1 from hf)
    have rt12 := hf_rt (c := 578) (lo := 0) (hi := 199) (base := 579) (rv := 11) (iv := 9) (n := 12) (by decide +kernel) (by decide +kernel) H1 (by decide +kernel) (by omega) (by omega) (by omega)
    have rt7 := hf_rt (c := 573) (lo := 0) (hi := 3) (base := 574) (rv := 6) (iv := 3) (n := 7) (by decide +kernel) (by decide +kernel) H1 (by decide +kernel) (by omega) (by omega) (by omega)
    have o3 := old_i c3 (en_nv (i := 18) H1.2.1 rfl).1
    have o5 := old_i c5 (by have h := (en_nv (i := 14) H1.2.1 rfl).1; rw [fe14] at h; exact h)
    have o7 := old_i c7 (en_nv (i := 9) H1.2.1 rfl).1
    have o9 := old_i c9 (en_nv (i := 5) H1.2.1 rfl).1
    have hm : mck (vF S) (nv β 3).toNat 3 = nv β 9 := by rw [mck_v (by omega) (by decide), show 574 + (nv β 3).toNat = (nv β 7).toNat by omega, ← eS]; exact o7.trans (by omega)
    obtain ⟨p1, p2, p3⟩ := hp
    rw [← r2, ← s2, ← r3, ← s3] at p3
    refine ih.2.1 _ _ _ _ Ha ?_ ?_
    · rw [m1, m2, m3, s1, r1]
      refine ⟨p1, by rw [← eS, o9]; omega, ?_⟩
      rw [show (nv β 23).toNat = (nv β 3).toNat + 1 by omega, bsS, hm]
      split <;> omega
    · omega
  · obtain ⟨f1, f2, f3, f4, f5⟩ := as_fx H1
    simp only [kh_crewsIsWell_b45_6, Nat.reduceEqDiff, if_false, fx_env, fx_c, fx_ne, fx_hf, wl_S, Nat.zero_add, Nat.reduceAdd, Nat.reduceDiv, Nat.reduceMod, List.getElem?_cons_zero, List.getElem?_cons_succ, if_true, and_true, true_and] at f1 f2 f3 f4 f5
    have fe0 : nv β 0 = 572 := by omega
    have fe4 : nv β 4 = 0 := by omega
    have fe6 : nv β 6 = 573 := by omega
    have fe8 : nv β 8 = 3 := by omega
    have fe10 : nv β 10 = (-1) := by omega
    have fe11 : nv β 11 = 578 := by omega
    have fe13 : nv β 13 = 4 := by omega
    have fe14 : nv β 14 = 1 := by omega
    have fe15 : nv β 15 = 1 := by omega
    have fe16 : nv β 16 = 578 := by omega
    have fe17 : nv β 17 = 5 := by omega
    have fe19 : nv β 19 = 0 := by omega
    try simp only [fe0, fe4, fe6, fe8, fe10, fe11, fe13, fe14, fe15, fe16, fe17, fe19, Int.reduceToNat] at f2 f3 f4 f5
    have s0 : nv β 0 = nv α1 0 := nv_le H1.1 (by omega)
    have s1 : nv β 1 = nv α1 1 := nv_le H1.1 (by omega)
    have s2 : nv β 2 = nv α1 2 := nv_le H1.1 (by omega)
    have s3 : nv β 3 = nv α1 3 := nv_le H1.1 (by omega)
    obtain ⟨c0, c1, c2, c3, c4, c5, c6, c7⟩ := f2
    have eS : S1 = S := fr_same (show fr_in [] S S1 from hf)
    have rt12 := hf_rt (c := 578) (lo := 0) (hi := 199) (base := 579) (rv := 11) (iv := 9) (n := 12) (by decide +kernel) (by decide +kernel) H1 (by decide +kernel) (by omega) (by omega) (by omega)
    have rt7 := hf_rt (c := 573) (lo := 0) (hi := 3) (base := 574) (rv := 6) (iv := 3) (n := 7) (by decide +kernel) (by decide +kernel) H1 (by decide +kernel) (by omega) (by omega) (by omega)
    have o1 := old_i c1 (en_nv (i := 18) H1.2.1 rfl).1
    have o3 := old_i c3 (by have h := (en_nv (i := 14) H1.2.1 rfl).1; rw [fe14] at h; exact h)
    have o5 := old_i c5 (en_nv (i := 9) H1.2.1 rfl).1
    have o7 := old_i c7 (en_nv (i := 5) H1.2.1 rfl).1
    exfalso
    have hm : mck (vF S) (nv β 3).toNat 3 = nv β 9 := by rw [mck_v (by omega) (by decide), show 574 + (nv β 3).toNat = (nv β 7).toNat by omega, ← eS]; exact o5.trans (by omega)
    have hcr := q521.2.2.2.1.1 (nv β 3).toNat (by omega) (by rw [vF_c, ← eS, o7]; omega)
    rw [hm] at hcr
    rcases hcr with e | ⟨e1, e2, e3, e4⟩
    · omega
    · rw [mjk_v (by omega) (by decide), show 579 + (nv β 9).toNat = (nv β 12).toNat by omega, ← eS, o1] at e4
      omega
set_option maxHeartbeats 16000000 in
set_option maxRecDepth 8000 in
theorem kh_crewsIsWell_ok : ct_ok wd_fl2 kh_crewsIsWell := ct_hand (ff := wd_ff2) (y := kh_crewsIsWell_y) (Cs := [kh_926, kh_959, kh_notOver]) wd_fl2_ok rfl (List.forall_mem_cons.mpr ⟨kh_926_ok, (List.forall_mem_cons.mpr ⟨kh_959_ok, (List.forall_mem_cons.mpr ⟨kh_notOver_ok, (List.forall_mem_nil _)⟩)⟩)⟩) (by decide +kernel) (fun l D tc ad kd N sm xs S p e s m args below meth c sz lv G H0 => by
  have hx : xs.length = 1 := by rw [H0.2.1.1]; rfl
  have q521 : crewF (vF S) := by
    have h := H0.2.2.2.2.2.2.2.2.1 521 (by decide +kernel)
    rw [wd_fl2, if_neg (by decide)] at h
    exact h
  have hP : ∀ (k : Nat), kh_crewsIsWell_I l D tc ad kd N sm xs S p e s m args below meth c sz k := by
    intro k
    induction k with
    | zero => exact ⟨fun _ _ _ _ _ _ h => absurd h (Nat.not_lt_zero _), fun _ _ _ _ _ _ h => absurd h (Nat.not_lt_zero _), trivial⟩
    | succ k ih => exact ⟨kh_crewsIsWell_h4 G H0 ih, kh_crewsIsWell_h45 G H0 ih, trivial⟩
  obtain ⟨α1, hle, Hr⟩ := as_recM (pl := []) [] (by decide +kernel) H0
  have hf := H0.2.2.2.2.2.2.2.2.2.2.1
  have hl1 : α1.length = 1 := by rw [Hr.2.1.1]; rfl
  have hl0 : xs.length = 1 := by rw [H0.2.1.1]; rfl
  have hxa : al_le xs α1 := H0.1.trans hle
  obtain ⟨g1, -, g3, g4, -⟩ := as_fx Hr
  have g0 : (572 ≤ nv α1 0 ∧ nv α1 0 ≤ 572) ∧ True := by
    refine ⟨by have h := (en_nv (i := 0) Hr.2.1 rfl).2; exact h, trivial⟩
  have r0 : nv α1 0 = nv xs 0 := nv_le hle (by omega)
  refine hd_segM G (na := 1) (fuel := 600) (first := true) (Bs := [kh_crewsIsWell_b0_0]) (by decide +kernel) hl1 Hr ?_
  intro q hq β lv' st' S' H1
  simp only [List.mem_cons, List.not_mem_nil, or_false] at hq
  rcases hq with rfl
  · obtain ⟨f1, f2, f3, f4, f5⟩ := as_fx H1
    simp only [kh_crewsIsWell_b0_0, Nat.reduceEqDiff, if_false, fx_env, fx_c, fx_ne, fx_hf, wl_S, Nat.zero_add, Nat.reduceAdd, Nat.reduceDiv, Nat.reduceMod, List.getElem?_cons_zero, List.getElem?_cons_succ, if_true, and_true, true_and] at f1 f2 f3 f4 f5
    have fe0 : nv β 0 = 572 := by omega
    have fe1 : nv β 1 = 0 := by omega
    have fe2 : nv β 2 = 0 := by omega
    try simp only [fe0, fe1, fe2, Int.reduceToNat] at f2 f3 f4 f5
    have s0 : nv β 0 = nv α1 0 := nv_le H1.1 (by omega)
    obtain ⟨α', Ha, hm⟩ := hd_gpM (q := kh_crewsIsWell_a4) (n := 0) (by decide +kernel) hx H1 (by decide +kernel) hxa hf
    have hfr := H1.2.2.2.2.2.2.2.2.2.2.1
    have m0 : nv α' 0 = nv β 0 := hm 0 0 rfl
    have m1 : nv α' 1 = nv β 1 := hm 1 1 rfl
    have m2 : nv α' 2 = nv β 2 := hm 2 2 rfl
    subst S'

    refine (hP _).1 _ _ _ _ Ha ?_ (Nat.lt_succ_self _)
    · rw [m1, m2]
      have hb := rg_bd1 (q_rg_in (q := ((572, 572), (2, 2, 0), (0, 0, 200, 1))) (by decide +kernel) Ha)
      refine ⟨by omega, ?_⟩
      rw [show (nv β 2).toNat = 0 by omega]
      show nv β 1 = 0
      omega)
