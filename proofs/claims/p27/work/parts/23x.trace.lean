/-! ===== the way back, as streets ===== -/
/-- the way noted so far, from the end at on: T holds the streets of it from k + 1 on -/
def trI (F T : Int → Int) (n k at' : Int) : Prop := ∃ p : Int → Int, p (k + 1) = at' ∧ (∀ j : Int, k + 1 ≤ j → j ≤ n → 0 ≤ p j ∧ p j ≤ 11 ∧ F (p j) = j) ∧ ∀ j : Int, k + 1 ≤ j → j < n → othT (T j) (p j) = p (j + 1)
theorem tr_step {F V T T' : Int → Int} {n k a b : Int} (h : trI F T n k a) (hF : 1 ≤ F a → 0 ≤ othT (V a) a ∧ othT (V a) a ≤ 11 ∧ F (othT (V a) a) = F a - 1) (hk : 0 ≤ k) (hf : F a = k + 1) (hn : n ≤ 11)
    (hT : ∀ j : Int, 0 ≤ j → j ≤ 11 → T' j = if j = k then V a else T j) (hb : b = othT (V a) a) : trI F T' n (k - 1) b ∧ 0 ≤ b ∧ b ≤ 11 ∧ F b = k := by
  obtain ⟨p, p1, p2, p3⟩ := h
  obtain ⟨q1, q2, q3⟩ := hF (by omega)
  rw [← hb] at q1 q2 q3
  have back : othT (V a) b = a := by unfold othT at hb ⊢; omega
  refine ⟨⟨fun j => if j = k then b else p j, ?_, fun j h1 h2 => ?_, fun j h1 h2 => ?_⟩, q1, q2, by omega⟩
  · show (if k - 1 + 1 = k then b else p (k - 1 + 1)) = b
    rw [if_pos (by omega)]
  · show 0 ≤ (if j = k then b else p j) ∧ (if j = k then b else p j) ≤ 11 ∧ F (if j = k then b else p j) = j
    by_cases e : j = k
    · rw [if_pos e]; exact ⟨q1, q2, by omega⟩
    · rw [if_neg e]; exact p2 j (by omega) h2
  · show othT (T' j) (if j = k then b else p j) = (if j + 1 = k then b else p (j + 1))
    rw [hT j (by omega) (by omega), if_neg (show ¬ j + 1 = k by omega)]
    by_cases e : j = k
    · rw [if_pos e, if_pos e, back, e, p1]
    · rw [if_neg e, if_neg e]; exact p3 j (by omega) h2
def yT (S : fw_S) (c : Int) : Int := (S.1 7 c.toNat).toInt
def R_trace : List av_X → fw_S → fw_O → fw_S → Prop := fun xs S oc S' => ∃ v : Int32, oc = .inl (some (.int v)) ∧ v.toInt = yF S (nv xs 1) ∧ (0 ≤ v.toInt → ∃ a : Int, trI (yF S) (yT S') v.toInt (-1) a)
abbrev kh_trace_y : mt_T := (⟨"UtilityWorks$Ways", "trace", "(I)I"⟩, prog_12_method_3_code, 4, some .int, 10, 1, 1, 24131, 24129, 24130, 21003)
def kh_trace : ct_T := (50, [(2, 2, 2, 1), (0, 0, 11, 1)], [], [601], [(1, (0, (-1), 11, 1), [(2, 2, 2, 1), (0, 0, 11, 1)], [], ([601], []))], [((7, 7), (0, 10, 1))], 0, 0, 0)
def kh_trace_a11 : an_T := (11, 0, ([((2, 2, 2, 1), none), ((0, 0, 11, 1), none), ((0, (-10), 21, 1), none), ((0, (-2), 10, 1), none)], [(0, 0), (1, 1), (2, 2), (3, 3)], [], [], [], [], [], [601], none), [])
def kh_trace_b0_0 : sg_T := (11, 0, ([((2, 2, 2, 1), none), ((0, 0, 11, 1), none), ((2, 4, 4, 1), none), ((0, (-1), 11, 1), none), ((0, 1, 1, 0), none), ((0, (-2), 10, 1), some (3, (-1)))], [(3, 5), (2, 1), (0, 0), (1, 1)], [], [(2, 1, 3)], [], [(600005, 3, 4), (800003, 2, 1)], [], [601], some []))
def kh_trace_b11_0 : sg_T := (63, 0, ([((2, 2, 2, 1), none), ((0, 0, 11, 1), none), ((0, 0, 11, 1), none), ((0, (-2), (-1), 1), none), ((2, 4, 4, 1), none), ((0, (-1), 11, 1), none)], [(0, 0), (1, 1), (2, 2), (3, 3)], [5], [(4, 1, 5)], [], [(800005, 4, 1)], [], [601], some []))
def kh_trace_b11_1 : sg_T := (11, 0, ([((2, 2, 2, 1), none), ((0, 0, 11, 1), none), ((0, 0, 11, 1), none), ((0, 0, 10, 1), none), ((2, 7, 7, 1), none), ((2, 5, 5, 1), none), ((0, 0, 16, 1), none), ((3, 0, 0, 0), none), ((2, 7, 7, 1), none), ((0, 0, 10, 1), none), ((3, 1, 1, 0), none), ((2, 7, 7, 1), none), ((0, 1, 11, 1), none), ((0, 1, 21, 1), none), ((0, (-10), 21, 1), none), ((0, (-1), 9, 1), some (3, (-1)))], [(3, 15), (2, 14), (0, 0), (1, 1)], [], [(4, 3, 6), (5, 2, 6)], [], [(600014, 13, 2), (500013, 9, 12), (901100012, 6, 6), (901000009, 6, 6), (800006, 5, 2)], [], [601], some [(4, 3, 6)]))
def kh_trace_I (l : Launch) (D : va_G) (tc : Nat → ClassId) (ad : Nat → Nat) (kd : Nat → Nat × Nat) (N : Nat) (sm : Nat → Nat) (xs : List av_X) (S : fw_S) (p : Program) (e : Env) (s : State) (m : MethodId) (args : Array Value) (below : List Frame) (meth : Method) (c : Code) (sz : Nat) (k : Nat) : Prop := (∀ (α : List av_X) (lv : List (Nat × Value)) (st : List Value) (S1 : fw_S), as_in ad sm wd_fl2 xs S kh_trace.2.2.2.2.2.1 α kh_trace_a11.2.2.1 lv st S1 → ((0 ≤ nv α 2 ∧ nv α 2 ≤ 11) ∧ yF S (nv α 2) = nv α 3 + 1 ∧ (0 ≤ yF S (nv xs 1) → -1 ≤ nv α 3) ∧ trI (yF S) (yT S1) (yF S (nv xs 1)) (nv α 3) (nv α 2)) → (nv α 3 + 3).toNat < k → hd_WR R_trace wd_fl2 kh_trace kh_trace_y l D tc ad kd N sm xs S p e s m args below meth c sz 11 lv st S1 0) ∧ True
set_option maxHeartbeats 16000000 in
set_option maxRecDepth 8000 in
theorem kh_trace_h11 {l : Launch} {D : va_G} {tc : Nat → ClassId} {ad : Nat → Nat} {kd : Nat → Nat × Nat} {N : Nat} {sm : Nat → Nat} {xs : List av_X} {S : fw_S} {p : Program} {e : Env} {s : State} {m : MethodId} {args : Array Value} {below : List Frame} {meth : Method} {c : Code} {sz : Nat} {lvE : List (Nat × Value)} (G : hd_C wd_ff2 wd_fl2 kh_trace [] kh_trace_y l D tc ad kd N sm xs p s m args meth c sz) (H0 : as_in ad sm wd_fl2 xs S kh_trace.2.2.2.2.2.1 xs (hd_0 kh_trace) lvE [] S) {k : Nat} (ih : kh_trace_I l D tc ad kd N sm xs S p e s m args below meth c sz k) : (∀ (α : List av_X) (lv : List (Nat × Value)) (st : List Value) (S1 : fw_S), as_in ad sm wd_fl2 xs S kh_trace.2.2.2.2.2.1 α kh_trace_a11.2.2.1 lv st S1 → ((0 ≤ nv α 2 ∧ nv α 2 ≤ 11) ∧ yF S (nv α 2) = nv α 3 + 1 ∧ (0 ≤ yF S (nv xs 1) → -1 ≤ nv α 3) ∧ trI (yF S) (yT S1) (yF S (nv xs 1)) (nv α 3) (nv α 2)) → (nv α 3 + 3).toNat < k + 1 → hd_WR R_trace wd_fl2 kh_trace kh_trace_y l D tc ad kd N sm xs S p e s m args below meth c sz 11 lv st S1 0) := by
  have hx : xs.length = 2 := by rw [H0.2.1.1]; rfl
  intro α lv st S1 H hp hk
  have bp := (en_nv (i := 2) H.2.1 rfl).2
  change (-10) ≤ nv α 2 ∧ nv α 2 ≤ 21 at bp
  replace H := as_clamp (i := 2) (lo := 0) (hi := 11) H rfl rfl (by exact hp.1.1) (by exact hp.1.2) (by decide)
  obtain ⟨α1, hle, Hr⟩ := as_recM (pl := []) [((7, 7), (0, 10, 1))] (by decide +kernel) H
  have hf := H.2.2.2.2.2.2.2.2.2.2.1
  have hl1 : α1.length = 4 := by rw [Hr.2.1.1]; rfl
  have hl0 : α.length = 4 := by rw [H.2.1.1]; rfl
  have hxa : al_le xs α1 := H.1.trans hle
  obtain ⟨g1, -, g3, g4, -⟩ := as_fx Hr
  have g0 : (2 ≤ nv α1 0 ∧ nv α1 0 ≤ 2) ∧ (0 ≤ nv α1 1 ∧ nv α1 1 ≤ 11) ∧ (0 ≤ nv α1 2 ∧ nv α1 2 ≤ 11) ∧ ((-2) ≤ nv α1 3 ∧ nv α1 3 ≤ 10) ∧ True := by
    refine ⟨by have h := (en_nv (i := 0) Hr.2.1 rfl).2; exact h, by have h := (en_nv (i := 1) Hr.2.1 rfl).2; exact h, by have h := (en_nv (i := 2) Hr.2.1 rfl).2; exact h, by have h := (en_nv (i := 3) Hr.2.1 rfl).2; exact h, trivial⟩
  have r0 : nv α1 0 = nv α 0 := nv_le hle (by omega)
  have r1 : nv α1 1 = nv α 1 := nv_le hle (by omega)
  have r2 : nv α1 2 = nv α 2 := nv_le hle (by omega)
  have r3 : nv α1 3 = nv α 3 := nv_le hle (by omega)
  refine hd_segMR G (na := 4) (fuel := 600) (first := true) (Bs := [kh_trace_b11_0, kh_trace_b11_1]) (by decide +kernel) hl1 Hr ?_
  intro q hq β lv' st' S' H1
  simp only [List.mem_cons, List.not_mem_nil, or_false] at hq
  rcases hq with rfl | rfl
  · obtain ⟨f1, f2, f3, f4, f5⟩ := as_fx H1
    simp only [kh_trace_b11_0, fx_env, fx_c, fx_ne, fx_hf, wl_S, Nat.zero_add, Nat.reduceAdd, Nat.reduceDiv, Nat.reduceMod, List.getElem?_cons_zero, List.getElem?_cons_succ, if_true, and_true, true_and] at f1 f2 f3 f4 f5
    have fe0 : nv β 0 = 2 := by omega
    have fe4 : nv β 4 = 4 := by omega
    try simp only [fe0, fe4, Int.reduceToNat] at f2 f3 f4 f5
    have s0 : nv β 0 = nv α1 0 := nv_le H1.1 (by omega)
    have s1 : nv β 1 = nv α1 1 := nv_le H1.1 (by omega)
    have s2 : nv β 2 = nv α1 2 := nv_le H1.1 (by omega)
    have s3 : nv β 3 = nv α1 3 := nv_le H1.1 (by omega)
    have c0 := f2
    obtain ⟨p1, p2, p3, p4⟩ := hp
    have e5 : S' = S1 := f5
    have r4 : S1.1 4 = S.1 4 := fr_row hf 4 (by decide +kernel)
    have z1 : nv α 1 = nv xs 1 := nv_le H.1 (by omega)
    have o0 := old_0 c0 rfl
    have u1 : yF S (nv xs 1) = nv β 5 := by show (S.1 4 (nv xs 1).toNat).toInt = _; rw [← r4, show nv xs 1 = nv β 1 by omega]; exact o0
    exact hd_retIR G (v := 5) (by decide +kernel) (as_backM H1 (by decide +kernel) hxa hf) _ List.mem_cons_self rfl (by decide +kernel) (by decide) (fun w hw => by cases hw) (fun v hv => ⟨v, rfl, by omega, fun h0 => ⟨nv α 2, by
      have hk : nv α 3 = -1 := by omega
      rw [hk] at p4
      rw [e5, show v.toInt = yF S (nv xs 1) by omega]
      exact p4⟩⟩)
  · obtain ⟨f1, f2, f3, f4, f5⟩ := as_fx H1
    simp only [kh_trace_b11_1, fx_env, fx_c, fx_ne, fx_hf, wl_S, Nat.zero_add, Nat.reduceAdd, Nat.reduceDiv, Nat.reduceMod, List.getElem?_cons_zero, List.getElem?_cons_succ, if_true, and_true, true_and] at f1 f2 f3 f4 f5
    have fe0 : nv β 0 = 2 := by omega
    have fe4 : nv β 4 = 7 := by omega
    have fe5 : nv β 5 = 5 := by omega
    have fe8 : nv β 8 = 7 := by omega
    have fe11 : nv β 11 = 7 := by omega
    try simp only [fe0, fe4, fe5, fe8, fe11, Int.reduceToNat] at f2 f3 f4 f5
    have s0 : nv β 0 = nv α1 0 := nv_le H1.1 (by omega)
    have s1 : nv β 1 = nv α1 1 := nv_le H1.1 (by omega)
    have s2 : nv β 2 = nv α1 2 := nv_le H1.1 (by omega)
    have s3 : nv β 3 = nv α1 3 := nv_le H1.1 (by omega)
    obtain ⟨c0, c1, c2, c3, c4⟩ := f2
    obtain ⟨α', Ha, hm⟩ := hd_gpM (q := kh_trace_a11) (n := 0) (by decide +kernel) hx H1 (by decide +kernel) hxa hf
    have hfr := H1.2.2.2.2.2.2.2.2.2.2.1
    have m0 : nv α' 0 = nv β 0 := hm 0 0 rfl
    have m1 : nv α' 1 = nv β 1 := hm 1 1 rfl
    have m2 : nv α' 2 = nv β 14 := hm 2 14 rfl
    have m3 : nv α' 3 = nv β 15 := hm 3 15 rfl
    have i1 := (en_nv (i := 1) H0.2.1 rfl).2
    change 0 ≤ nv xs 1 ∧ nv xs 1 ≤ 11 at i1
    have o4 := old_0 c4 rfl
    have w7 : ∀ b : Nat, S'.1 7 b = (if b = (nv β 3).toNat then Int32.ofInt (nv β 6) else S1.1 7 b) := fun b => by rw [f5]; simp [fw_i]
    obtain ⟨p1, p2, p3, p4⟩ := hp
    have q601 : wyF S := by
      have h := H0.2.2.2.2.2.2.2.2.1 601 (by decide +kernel)
      rw [wd_fl2, if_neg (by decide)] at h
      exact h
    have r4 : S1.1 4 = S.1 4 := fr_row hf 4 (by decide +kernel)
    have r5 : S1.1 5 = S.1 5 := fr_row hf 5 (by decide +kernel)
    obtain ⟨st, w1, w2, w3⟩ := q601
    have w4 := (w3 (nv α 2) p1.1 p1.2).2.2
    have t0 := tb_low c3
    have t1 := tb_high c2
    have u1 : yV S (nv α 2) = nv β 6 := by show (S.1 5 (nv α 2).toNat).toInt = _; rw [← r5, show nv α 2 = nv β 2 by omega]; exact o4
    have u2 : nv β 14 = othT (yV S (nv α 2)) (nv α 2) := by rw [u1]; unfold othT; rw [← t0, ← t1]; omega
    have n11 : yF S (nv xs 1) ≤ 11 := by
      have := rg_bd (q_rg_in (q := ((4, 4), (0, 11, 1), (0, -1, 11, 1))) (by decide +kernel) H0) (j := (nv xs 1).toNat) (by omega)
      unfold yF
      omega
    have hA := tr_step (V := yV S) (T' := yT S') (b := nv β 14) p4 w4 (by omega) p2 n11 (fun j h1 h2 => by
      show (S'.1 7 j.toNat).toInt = _
      rw [w7]
      by_cases e : j = nv α 3
      · rw [if_pos (by omega), if_pos e, i32_of (by omega) (by omega)]; omega
      · rw [if_neg (by omega), if_neg e]; rfl) u2
    obtain ⟨a1, a2, a3, a4⟩ := hA
    refine ih.1 _ _ _ _ Ha ?_ ?_
    · rw [m3, m2]
      refine ⟨⟨a2, a3⟩, by omega, fun _ => by omega, ?_⟩
      rw [show nv β 15 = nv α 3 - 1 by omega]
      exact a1
    · omega
set_option maxHeartbeats 16000000 in
set_option maxRecDepth 8000 in
theorem kh_trace_okR : ct_okR wd_fl2 kh_trace R_trace := ct_handR (R := R_trace) (ff := wd_ff2) (y := kh_trace_y) (Cs := []) wd_fl2_ok rfl (List.forall_mem_nil _) (by decide +kernel) (fun l D tc ad kd N sm xs S p e s m args below meth c sz lv G H0 => by
  have hx : xs.length = 2 := by rw [H0.2.1.1]; rfl
  have hP : ∀ (k : Nat), kh_trace_I l D tc ad kd N sm xs S p e s m args below meth c sz k := by
    intro k
    induction k with
    | zero => exact ⟨fun _ _ _ _ _ _ h => absurd h (Nat.not_lt_zero _), trivial⟩
    | succ k ih => exact ⟨kh_trace_h11 G H0 ih, trivial⟩
  obtain ⟨α1, hle, Hr⟩ := as_recM (pl := []) [] (by decide +kernel) H0
  have hf := H0.2.2.2.2.2.2.2.2.2.2.1
  have hl1 : α1.length = 2 := by rw [Hr.2.1.1]; rfl
  have hl0 : xs.length = 2 := by rw [H0.2.1.1]; rfl
  have hxa : al_le xs α1 := H0.1.trans hle
  obtain ⟨g1, -, g3, g4, -⟩ := as_fx Hr
  have g0 : (2 ≤ nv α1 0 ∧ nv α1 0 ≤ 2) ∧ (0 ≤ nv α1 1 ∧ nv α1 1 ≤ 11) ∧ True := by
    refine ⟨by have h := (en_nv (i := 0) Hr.2.1 rfl).2; exact h, by have h := (en_nv (i := 1) Hr.2.1 rfl).2; exact h, trivial⟩
  have r0 : nv α1 0 = nv xs 0 := nv_le hle (by omega)
  have r1 : nv α1 1 = nv xs 1 := nv_le hle (by omega)
  refine hd_segMR G (na := 2) (fuel := 600) (first := true) (Bs := [kh_trace_b0_0]) (by decide +kernel) hl1 Hr ?_
  intro q hq β lv' st' S' H1
  simp only [List.mem_cons, List.not_mem_nil, or_false] at hq
  rcases hq with rfl
  · obtain ⟨f1, f2, f3, f4, f5⟩ := as_fx H1
    simp only [kh_trace_b0_0, fx_env, fx_c, fx_ne, fx_hf, wl_S, Nat.zero_add, Nat.reduceAdd, Nat.reduceDiv, Nat.reduceMod, List.getElem?_cons_zero, List.getElem?_cons_succ, if_true, and_true, true_and] at f1 f2 f3 f4 f5
    have fe0 : nv β 0 = 2 := by omega
    have fe2 : nv β 2 = 4 := by omega
    have fe4 : nv β 4 = 1 := by omega
    try simp only [fe0, fe2, fe4, Int.reduceToNat] at f2 f3 f4 f5
    have s0 : nv β 0 = nv α1 0 := nv_le H1.1 (by omega)
    have s1 : nv β 1 = nv α1 1 := nv_le H1.1 (by omega)
    obtain ⟨c0, c1⟩ := f2
    obtain ⟨α', Ha, hm⟩ := hd_gpM (q := kh_trace_a11) (n := 0) (by decide +kernel) hx H1 (by decide +kernel) hxa hf
    have hfr := H1.2.2.2.2.2.2.2.2.2.2.1
    have m0 : nv α' 0 = nv β 0 := hm 0 0 rfl
    have m1 : nv α' 1 = nv β 1 := hm 1 1 rfl
    have m2 : nv α' 2 = nv β 1 := hm 2 1 rfl
    have m3 : nv α' 3 = nv β 5 := hm 3 5 rfl
    have i1 := (en_nv (i := 1) H0.2.1 rfl).2
    change 0 ≤ nv xs 1 ∧ nv xs 1 ≤ 11 at i1
    have o1 := old_0 c1 rfl
    have e5 : S' = S := f5
    have u1 : yF S (nv xs 1) = nv β 3 := by show (S.1 4 (nv xs 1).toNat).toInt = _; rw [show nv xs 1 = nv β 1 by omega]; exact o1
    refine (hP _).1 _ _ _ _ Ha ?_ (Nat.lt_succ_self _)
    · rw [m3, m2, e5]
      refine ⟨by omega, ?_, fun _ => by omega, fun _ => nv xs 1, ?_, fun j h1 h2 => ⟨i1.1, i1.2, by show yF S (nv xs 1) = j; omega⟩, fun j h1 h2 => by omega⟩
      · rw [show nv β 1 = nv xs 1 by omega, u1]; omega
      · show nv xs 1 = nv β 1
        omega)
theorem kh_trace_ok : ct_ok wd_fl2 kh_trace := ct_okR_ok kh_trace_okR
