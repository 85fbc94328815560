/-! ===== ranks: each customer once ===== -/
def kS (g : Nat → Int) (r c : Int) : Nat → Int
  | 0 => 0
  | n + 1 => kS g r c n + (if g n < r ∨ g n = r ∧ (n : Int) < c then 1 else 0)
theorem kS_le {g : Nat → Int} {r c : Int} : ∀ {n : Nat}, 0 ≤ kS g r c n ∧ kS g r c n ≤ n
  | 0 => by simp [kS]
  | n + 1 => by
    have := kS_le (g := g) (r := r) (c := c) (n := n)
    rw [kS]
    split <;> omega
theorem kS_off {g : Nat → Int} {r c d : Int} : ∀ {n : Nat}, (n : Int) ≤ c → (n : Int) ≤ d → kS g r c n = kS g r d n
  | 0, _, _ => rfl
  | n + 1, h1, h2 => by
    have e1 : (if g n < r ∨ g n = r ∧ (n : Int) < c then (1 : Int) else 0) = if g n < r ∨ g n = r ∧ (n : Int) < d then 1 else 0 := by
      by_cases h : g n < r ∨ g n = r
      · rw [if_pos (by omega), if_pos (by omega)]
      · rw [if_neg (by omega), if_neg (by omega)]
    rw [kS, kS, kS_off (d := d) (n := n) (by omega) (by omega), e1]
theorem kS_step {g : Nat → Int} {r : Int} {c : Nat} : ∀ {n : Nat}, c < n → kS g r ((c : Int) + 1) n = kS g r c n + (if g c = r then 1 else 0)
  | 0, h => by omega
  | n + 1, h => by
    rw [kS, kS]
    by_cases e : c = n
    · subst e
      rw [kS_off (d := (c : Int)) (by omega) (by omega)]
      by_cases h1 : g c < r
      · rw [if_pos (Or.inl h1), if_pos (Or.inl h1), if_neg (by omega)]; omega
      · by_cases h2 : g c = r
        · rw [if_pos (by omega), if_neg (by omega), if_pos h2]; omega
        · rw [if_neg (by omega), if_neg (by omega), if_neg h2]; omega
    · have e1 : (if g n < r ∨ g n = r ∧ (n : Int) < (c : Int) + 1 then (1 : Int) else 0) = if g n < r ∨ g n = r ∧ (n : Int) < (c : Int) then 1 else 0 := by
        by_cases h1 : g n < r
        · rw [if_pos (Or.inl h1), if_pos (Or.inl h1)]
        · rw [if_neg (by omega), if_neg (by omega)]
      rw [kS_step (n := n) (by omega), e1]
      omega
theorem kS_end {g : Nat → Int} {r : Int} {m : Nat} : ∀ {n : Nat}, n ≤ m → kS g r m n = kS g (r + 1) 0 n
  | 0, _ => rfl
  | n + 1, h => by
    have e1 : (if g n < r ∨ g n = r ∧ (n : Int) < (m : Int) then (1 : Int) else 0) = if g n < r + 1 ∨ g n = r + 1 ∧ (n : Int) < 0 then 1 else 0 := by
      by_cases h : g n < r ∨ g n = r
      · rw [if_pos (by omega), if_pos (by omega)]
      · rw [if_neg (by omega), if_neg (by omega)]
    rw [kS, kS, kS_end (n := n) (by omega), e1]
/-- a customer's rank; how many there are -/
def rk (S : fw_S) (j : Nat) : Int := (S.1 806 (1302 + 16 * (j : Int)).toNat).toInt
def mmany (S : fw_S) : Int := (S.1 806 1300).toInt
abbrev kh_rankOf_y : mt_T := (⟨"UtilityWorksModel", "rankOf", "(I)I"⟩, prog_14_method_201_code, 2, some .int, 12, 1, 1, 34034, 34033, 9007, 21014)
def kh_rankOf : ct_T := (435, [(2, 805, 805, 0), (0, 0, 9, 1)], [], [], [(1, (0, (-2147483648), 2147483647, 1), [(2, 805, 805, 0), (0, 0, 9, 1)], [], ([], [(1001, 1, 1)]))], [], 1, 21, 0)
def kh_rankOf_b0_0 : sg_T := (10, 0, ([((2, 805, 805, 0), none), ((0, 0, 9, 1), none), ((2, 806, 806, 1), none), ((0, 1, 1, 0), none), ((0, 1301, 1460, 1), none), ((0, (-2147483648), 2147483647, 1), none)], [(0, 0), (1, 1)], [5], [(2, 4, 5)], [], [(800005, 2, 4), (1400004, 1, 3)], [], [], some []))
theorem kh_rankOf_ok : ct_ok wd_fl kh_rankOf := ct_hand (ff := wd_ff) (y := kh_rankOf_y) (Cs := [kh_mC]) wd_fl_ok rfl (List.forall_mem_cons.mpr ⟨kh_mC_ok, (List.forall_mem_nil _)⟩) (by decide +kernel) (fun l D tc ad kd N sm xs S p e s m args below meth c sz lv G H0 => by
  have hx : xs.length = 2 := by rw [H0.2.1.1]; rfl
  obtain ⟨α1, hle, Hr⟩ := as_recM (pl := []) [] (by decide +kernel) H0
  have hf := H0.2.2.2.2.2.2.2.2.2.2.1
  have hl1 : α1.length = 2 := by rw [Hr.2.1.1]; rfl
  have hl0 : xs.length = 2 := by rw [H0.2.1.1]; rfl
  have hxa : al_le xs α1 := H0.1.trans hle
  obtain ⟨g1, -, g3, g4, -⟩ := as_fx Hr
  have g0 : (805 ≤ nv α1 0 ∧ nv α1 0 ≤ 805) ∧ (0 ≤ nv α1 1 ∧ nv α1 1 ≤ 9) ∧ True := by
    refine ⟨by have h := (en_nv (i := 0) Hr.2.1 rfl).2; exact h, by have h := (en_nv (i := 1) Hr.2.1 rfl).2; exact h, trivial⟩
  have r0 : nv α1 0 = nv xs 0 := nv_le hle (by omega)
  have r1 : nv α1 1 = nv xs 1 := nv_le hle (by omega)
  refine hd_segM G (na := 2) (fuel := 600) (first := true) (Bs := [kh_rankOf_b0_0]) (by decide +kernel) hl1 Hr ?_
  intro q hq β lv' st' S' H1
  simp only [List.mem_cons, List.not_mem_nil, or_false] at hq
  rcases hq with rfl
  · obtain ⟨f1, f2, f3, f4, f5⟩ := as_fx H1
    simp only [kh_rankOf_b0_0, fx_env, fx_c, fx_ne, fx_hf, wl_S, Nat.zero_add, Nat.reduceAdd, Nat.reduceDiv, Nat.reduceMod, List.getElem?_cons_zero, List.getElem?_cons_succ, if_true, and_true, true_and] at f1 f2 f3 f4 f5
    have fe0 : nv β 0 = 805 := by omega
    have fe2 : nv β 2 = 806 := by omega
    have fe3 : nv β 3 = 1 := by omega
    try simp only [fe0, fe2, fe3, Int.reduceToNat] at f2 f3 f4 f5
    have s0 : nv β 0 = nv α1 0 := nv_le H1.1 (by omega)
    have s1 : nv β 1 = nv α1 1 := nv_le H1.1 (by omega)
    obtain ⟨c0, c1⟩ := f2
    have eS : S' = S := by subst S'; rfl
    have d := c1
    simp only [wd_fl] at d
    have o := old_0 c0 rfl
    refine hd_retI G (v := 5) (by decide +kernel) (as_backM H1 (by decide +kernel) hxa hf) _ List.mem_cons_self rfl (by decide +kernel) (by decide) (fun w hw => ?_)
    rcases List.mem_singleton.mp hw with rfl
    have g0 := (en_nv (i := 1) H0.2.1 rfl).1
    refine ⟨_, _, g0, g0, ?_⟩
    show nv β 5 = (S.1 806 (1302 + 16 * nv xs 1).toNat).toInt
    rw [← o, show nv β 4 = 1302 + 16 * nv xs 1 by omega])
theorem rg_bd1 {S : fw_S} {c j : Nat} {lo hi : Int} {st : Nat} (h : rg_in S ((c, c), (j, j, 0), (0, lo, hi, st))) : lo ≤ (S.1 c j).toInt ∧ (S.1 c j).toInt ≤ hi := by
  have := h c j (Nat.le_refl _) (Nat.le_refl _) pg_one
  exact ⟨this.2.2.1, this.2.2.2.1⟩
abbrev kh_ranks_y : mt_T := (⟨"UtilityWorksModel", "ranks", "()V"⟩, prog_14_method_204_code, 4, none, 12, 1, 0, 34030, 34029, 9006, 21014)
def kh_ranks : ct_T := (434, [(2, 805, 805, 0)], [], [], [(0, (0, 0, 0, 0), [(2, 805, 805, 0)], [], ([], []))], [((858, 858), (0, 9, 1))], 2, 42, 0)
def kh_ranks_a4 : an_T := (4, 0, ([((2, 805, 805, 0), none), ((0, 0, 10, 1), none), ((0, 0, 10, 1), none)], [(0, 0), (1, 1), (2, 2)], [], [], [], [], [], [], none), [])
def kh_ranks_a12 : an_T := (12, 0, ([((2, 805, 805, 0), none), ((0, 0, 10, 1), none), ((0, 0, 9, 1), none), ((0, 0, 10, 1), none)], [(0, 0), (1, 1), (2, 2), (3, 3)], [], [], [], [], [], [], none), [])
def kh_ranks_a33 : an_T := (33, 0, ([((2, 805, 805, 0), none), ((0, 0, 10, 1), none), ((0, 0, 9, 1), none), ((0, 0, 9, 1), none)], [(0, 0), (1, 1), (2, 2), (3, 3)], [], [], [], [], [], [], none), [])
def kh_ranks_b0_0 : sg_T := (4, 0, ([((2, 805, 805, 0), none), ((0, 0, 0, 0), none), ((0, 0, 0, 0), none)], [(2, 2), (1, 1), (0, 0)], [], [], [], [], [], [], some []))
def kh_ranks_b4_0 : sg_T := (55, 0, ([((2, 805, 805, 0), none), ((0, 0, 10, 1), none), ((0, 10, 10, 1), none), ((0, 10, 10, 0), none)], [(0, 0), (1, 1), (2, 2)], [], [], [], [(200000, 3, 2)], [], [], some []))
def kh_ranks_b4_1 : sg_T := (12, 0, ([((2, 805, 805, 0), none), ((0, 0, 10, 1), none), ((0, 0, 9, 1), none), ((0, 10, 10, 0), none), ((0, 0, 0, 0), none)], [(3, 4), (0, 0), (1, 1), (2, 2)], [], [], [], [(100000, 2, 3)], [], [], some []))
def kh_ranks_b12_0 : sg_T := (4, 0, ([((2, 805, 805, 0), none), ((0, 0, 10, 1), none), ((0, 0, 9, 1), none), ((0, 6, 10, 1), none), ((2, 806, 806, 1), none), ((0, 1300, 1300, 0), none), ((0, 6, 10, 1), none), ((0, 1, 10, 1), some (2, 1))], [(2, 7), (0, 0), (1, 1), (3, 3)], [], [(4, 5, 6)], [], [(200000, 6, 3), (800006, 4, 5)], [], [], some []))
def kh_ranks_b12_1 : sg_T := (12, 0, ([((2, 805, 805, 0), none), ((0, 0, 10, 1), none), ((0, 0, 9, 1), none), ((0, 0, 9, 1), none), ((2, 806, 806, 1), none), ((0, 1300, 1300, 0), none), ((0, 6, 10, 1), none), ((0, (-2147483648), 2147483647, 1), none), ((0, 1, 10, 1), some (3, 1))], [(3, 8), (0, 0), (1, 1), (2, 2)], [], [(4, 5, 6)], [], [(400000, 7, 2), (100100007, 3, 3), (100000, 3, 6), (800006, 4, 5)], [], [], some []))
def kh_ranks_b12_2 : sg_T := (33, 0, ([((2, 805, 805, 0), none), ((0, 0, 10, 1), none), ((0, 0, 9, 1), none), ((0, 0, 9, 1), none), ((2, 806, 806, 1), none), ((0, 1300, 1300, 0), none), ((0, 6, 10, 1), none), ((0, 0, 9, 1), none)], [(0, 0), (1, 1), (2, 2), (3, 3)], [], [(4, 5, 6)], [], [(300000, 7, 2), (100100007, 3, 3), (100000, 3, 6), (800006, 4, 5)], [], [], some []))
def kh_ranks_b33_0 : sg_T := (12, 0, ([((2, 805, 805, 0), none), ((0, 0, 9, 1), none), ((0, 0, 9, 1), none), ((0, 0, 9, 1), none), ((2, 858, 858, 1), none), ((0, 1, 10, 1), some (1, 1)), ((0, 1, 10, 1), some (3, 1))], [(3, 6), (1, 5), (0, 0), (2, 2)], [], [(4, 1, 3)], [], [], [], [], some [(4, 1, 3)]))
theorem kh_ranks_ok : ct_ok wd_fl kh_ranks := ct_hand (ff := wd_ff) (y := kh_ranks_y) (Cs := [kh_rankOf]) wd_fl_ok rfl (List.forall_mem_cons.mpr ⟨kh_rankOf_ok, (List.forall_mem_nil _)⟩) (by decide +kernel) (fun l D tc ad kd N sm xs S p e s m args below meth c sz lv G H0 => by
  have hx : xs.length = 1 := by rw [H0.2.1.1]; rfl
  have hP : ∀ (k : Nat), (∀ (α : List av_X) (lv : List (Nat × Value)) (S1 : fw_S), as_in ad sm wd_fl xs S kh_ranks.2.2.2.2.2.1 α kh_ranks_a4.2.2.1 lv [] S1 → (nv α 1 ≤ kS (rk S) (nv α 2) 0 (mmany S).toNat) → (10 - nv α 2).toNat * 100 + 60 < k → hd_W wd_fl kh_ranks kh_ranks_y l D tc ad kd N sm xs S p e s m args below meth c sz 4 lv [] S1 0) ∧ (∀ (α : List av_X) (lv : List (Nat × Value)) (S1 : fw_S), as_in ad sm wd_fl xs S kh_ranks.2.2.2.2.2.1 α kh_ranks_a12.2.2.1 lv [] S1 → (nv α 1 ≤ kS (rk S) (nv α 2) (nv α 3) (mmany S).toNat ∧ nv α 3 ≤ mmany S) → (10 - nv α 2).toNat * 100 + (10 - nv α 3).toNat * 3 + 2 < k → hd_W wd_fl kh_ranks kh_ranks_y l D tc ad kd N sm xs S p e s m args below meth c sz 12 lv [] S1 0) ∧ (∀ (α : List av_X) (lv : List (Nat × Value)) (S1 : fw_S), as_in ad sm wd_fl xs S kh_ranks.2.2.2.2.2.1 α kh_ranks_a33.2.2.1 lv [] S1 → (nv α 1 + 1 ≤ kS (rk S) (nv α 2) (nv α 3 + 1) (mmany S).toNat ∧ nv α 1 ≤ 9 ∧ nv α 3 + 1 ≤ mmany S) → (10 - nv α 2).toNat * 100 + (10 - nv α 3).toNat * 3 + 1 < k → hd_W wd_fl kh_ranks kh_ranks_y l D tc ad kd N sm xs S p e s m args below meth c sz 33 lv [] S1 0) ∧ True := by
    intro k
    induction k with
    | zero => exact ⟨fun _ _ _ _ _ h => absurd h (Nat.not_lt_zero _), fun _ _ _ _ _ h => absurd h (Nat.not_lt_zero _), fun _ _ _ _ _ h => absurd h (Nat.not_lt_zero _), trivial⟩
    | succ k ih =>
    refine ⟨?_, ?_, ?_, trivial⟩
    · intro α lv S1 H hp hk
      obtain ⟨α1, hle, Hr⟩ := as_recM (pl := []) [] (by decide +kernel) H
      have hf := H.2.2.2.2.2.2.2.2.2.2.1
      have hl1 : α1.length = 3 := by rw [Hr.2.1.1]; rfl
      have hl0 : α.length = 3 := by rw [H.2.1.1]; rfl
      have hxa : al_le xs α1 := H.1.trans hle
      obtain ⟨g1, -, g3, g4, -⟩ := as_fx Hr
      have g0 : (805 ≤ nv α1 0 ∧ nv α1 0 ≤ 805) ∧ (0 ≤ nv α1 1 ∧ nv α1 1 ≤ 10) ∧ (0 ≤ nv α1 2 ∧ nv α1 2 ≤ 10) ∧ True := by
        refine ⟨by have h := (en_nv (i := 0) Hr.2.1 rfl).2; exact h, by have h := (en_nv (i := 1) Hr.2.1 rfl).2; exact h, by have h := (en_nv (i := 2) Hr.2.1 rfl).2; exact h, trivial⟩
      have r0 : nv α1 0 = nv α 0 := nv_le hle (by omega)
      have r1 : nv α1 1 = nv α 1 := nv_le hle (by omega)
      have r2 : nv α1 2 = nv α 2 := nv_le hle (by omega)
      refine hd_segM G (na := 3) (fuel := 600) (first := true) (Bs := [kh_ranks_b4_0, kh_ranks_b4_1]) (by decide +kernel) hl1 Hr ?_
      intro q hq β lv' st' S' H1
      simp only [List.mem_cons, List.not_mem_nil, or_false] at hq
      rcases hq with rfl | rfl
      · obtain ⟨f1, f2, f3, f4, f5⟩ := as_fx H1
        simp only [kh_ranks_b4_0, fx_env, fx_c, fx_ne, fx_hf, wl_S, Nat.zero_add, Nat.reduceAdd, Nat.reduceDiv, Nat.reduceMod, List.getElem?_cons_zero, List.getElem?_cons_succ, if_true, and_true, true_and] at f1 f2 f3 f4 f5
        have fe0 : nv β 0 = 805 := by omega
        have fe2 : nv β 2 = 10 := by omega
        have fe3 : nv β 3 = 10 := by omega
        try simp only [fe0, fe2, fe3, Int.reduceToNat] at f2 f3 f4 f5
        have s0 : nv β 0 = nv α1 0 := nv_le H1.1 (by omega)
        have s1 : nv β 1 = nv α1 1 := nv_le H1.1 (by omega)
        have s2 : nv β 2 = nv α1 2 := nv_le H1.1 (by omega)
        have c0 := f2
        exact hd_run G (ss := []) (fuel := 20) (by decide +kernel) (as_backM H1 (by decide +kernel) hxa hf)
      · have hst := st_nil H1 rfl
        subst hst
        obtain ⟨f1, f2, f3, f4, f5⟩ := as_fx H1
        simp only [kh_ranks_b4_1, fx_env, fx_c, fx_ne, fx_hf, wl_S, Nat.zero_add, Nat.reduceAdd, Nat.reduceDiv, Nat.reduceMod, List.getElem?_cons_zero, List.getElem?_cons_succ, if_true, and_true, true_and] at f1 f2 f3 f4 f5
        have fe0 : nv β 0 = 805 := by omega
        have fe3 : nv β 3 = 10 := by omega
        have fe4 : nv β 4 = 0 := by omega
        try simp only [fe0, fe3, fe4, Int.reduceToNat] at f2 f3 f4 f5
        have s0 : nv β 0 = nv α1 0 := nv_le H1.1 (by omega)
        have s1 : nv β 1 = nv α1 1 := nv_le H1.1 (by omega)
        have s2 : nv β 2 = nv α1 2 := nv_le H1.1 (by omega)
        have c0 := f2
        obtain ⟨α', Ha, hm⟩ := hd_gpM (q := kh_ranks_a12) (n := 0) (by decide +kernel) hx H1 (by decide +kernel) hxa hf
        have hfr := H1.2.2.2.2.2.2.2.2.2.2.1
        have m0 : nv α' 0 = nv β 0 := hm 0 0 rfl
        have m1 : nv α' 1 = nv β 1 := hm 1 1 rfl
        have m2 : nv α' 2 = nv β 2 := hm 2 2 rfl
        have m3 : nv α' 3 = nv β 4 := hm 3 4 rfl
        subst S'
        have e6 : S1.1 806 = S.1 806 := fr_row hf 806 (by decide +kernel)
        have hm6 := rg_bd1 (q_rg_in (q := ((806, 806), (1300, 1300, 0), (0, 6, 10, 1))) (by decide +kernel) H)
        refine ih.2.1 _ _ _ Ha ?_ ?_
        · rw [m1, m2, m3, s1, r1, s2, r2, fe4]
          refine ⟨hp, ?_⟩
          unfold mmany
          rw [← e6]
          omega
        · omega
    · intro α lv S1 H hp hk
      obtain ⟨α1, hle, Hr⟩ := as_recM (pl := []) [] (by decide +kernel) H
      have hf := H.2.2.2.2.2.2.2.2.2.2.1
      have hl1 : α1.length = 4 := by rw [Hr.2.1.1]; rfl
      have hl0 : α.length = 4 := by rw [H.2.1.1]; rfl
      have hxa : al_le xs α1 := H.1.trans hle
      obtain ⟨g1, -, g3, g4, -⟩ := as_fx Hr
      have g0 : (805 ≤ nv α1 0 ∧ nv α1 0 ≤ 805) ∧ (0 ≤ nv α1 1 ∧ nv α1 1 ≤ 10) ∧ (0 ≤ nv α1 2 ∧ nv α1 2 ≤ 9) ∧ (0 ≤ nv α1 3 ∧ nv α1 3 ≤ 10) ∧ True := by
        refine ⟨by have h := (en_nv (i := 0) Hr.2.1 rfl).2; exact h, by have h := (en_nv (i := 1) Hr.2.1 rfl).2; exact h, by have h := (en_nv (i := 2) Hr.2.1 rfl).2; exact h, by have h := (en_nv (i := 3) Hr.2.1 rfl).2; exact h, trivial⟩
      have r0 : nv α1 0 = nv α 0 := nv_le hle (by omega)
      have r1 : nv α1 1 = nv α 1 := nv_le hle (by omega)
      have r2 : nv α1 2 = nv α 2 := nv_le hle (by omega)
      have r3 : nv α1 3 = nv α 3 := nv_le hle (by omega)
      refine hd_segM G (na := 4) (fuel := 600) (first := true) (Bs := [kh_ranks_b12_0, kh_ranks_b12_1, kh_ranks_b12_2]) (by decide +kernel) hl1 Hr ?_
      intro q hq β lv' st' S' H1
      simp only [List.mem_cons, List.not_mem_nil, or_false] at hq
      rcases hq with rfl | rfl | rfl
      · have hst := st_nil H1 rfl
        subst hst
        obtain ⟨f1, f2, f3, f4, f5⟩ := as_fx H1
        simp only [kh_ranks_b12_0, fx_env, fx_c, fx_ne, fx_hf, wl_S, Nat.zero_add, Nat.reduceAdd, Nat.reduceDiv, Nat.reduceMod, List.getElem?_cons_zero, List.getElem?_cons_succ, if_true, and_true, true_and] at f1 f2 f3 f4 f5
        have fe0 : nv β 0 = 805 := by omega
        have fe4 : nv β 4 = 806 := by omega
        have fe5 : nv β 5 = 1300 := by omega
        try simp only [fe0, fe4, fe5, Int.reduceToNat] at f2 f3 f4 f5
        have s0 : nv β 0 = nv α1 0 := nv_le H1.1 (by omega)
        have s1 : nv β 1 = nv α1 1 := nv_le H1.1 (by omega)
        have s2 : nv β 2 = nv α1 2 := nv_le H1.1 (by omega)
        have s3 : nv β 3 = nv α1 3 := nv_le H1.1 (by omega)
        obtain ⟨c0, c1⟩ := f2
        obtain ⟨α', Ha, hm⟩ := hd_gpM (q := kh_ranks_a4) (n := 0) (by decide +kernel) hx H1 (by decide +kernel) hxa hf
        have hfr := H1.2.2.2.2.2.2.2.2.2.2.1
        have m0 : nv α' 0 = nv β 0 := hm 0 0 rfl
        have m1 : nv α' 1 = nv β 1 := hm 1 1 rfl
        have m2 : nv α' 2 = nv β 7 := hm 2 7 rfl
        subst S'
        have e6 : S1.1 806 = S.1 806 := fr_row hf 806 (by decide +kernel)
        have o := old_0 c1 rfl
        rw [e6] at o
        have om : mmany S = nv β 6 := o
        have he := kS_end (g := rk S) (r := nv α 2) (m := (mmany S).toNat) (n := (mmany S).toNat) (Nat.le_refl _)
        have h3 : nv α 3 = (((mmany S).toNat : Nat) : Int) := by have := hp.2; omega
        have h1 := hp.1
        rw [h3, he] at h1
        refine ih.1 _ _ _ Ha ?_ ?_
        · rw [m1, m2, show nv β 7 = nv α 2 + 1 by omega, s1, r1]; exact h1
        · omega
      · have hst := st_nil H1 rfl
        subst hst
        obtain ⟨f1, f2, f3, f4, f5⟩ := as_fx H1
        simp only [kh_ranks_b12_1, fx_env, fx_c, fx_ne, fx_hf, wl_S, Nat.zero_add, Nat.reduceAdd, Nat.reduceDiv, Nat.reduceMod, List.getElem?_cons_zero, List.getElem?_cons_succ, if_true, and_true, true_and] at f1 f2 f3 f4 f5
        have fe0 : nv β 0 = 805 := by omega
        have fe4 : nv β 4 = 806 := by omega
        have fe5 : nv β 5 = 1300 := by omega
        try simp only [fe0, fe4, fe5, Int.reduceToNat] at f2 f3 f4 f5
        have s0 : nv β 0 = nv α1 0 := nv_le H1.1 (by omega)
        have s1 : nv β 1 = nv α1 1 := nv_le H1.1 (by omega)
        have s2 : nv β 2 = nv α1 2 := nv_le H1.1 (by omega)
        have s3 : nv β 3 = nv α1 3 := nv_le H1.1 (by omega)
        obtain ⟨c0, c1, c2, c3⟩ := f2
        obtain ⟨α', Ha, hm⟩ := hd_gpM (q := kh_ranks_a12) (n := 0) (by decide +kernel) hx H1 (by decide +kernel) hxa hf
        have hfr := H1.2.2.2.2.2.2.2.2.2.2.1
        have m0 : nv α' 0 = nv β 0 := hm 0 0 rfl
        have m1 : nv α' 1 = nv β 1 := hm 1 1 rfl
        have m2 : nv α' 2 = nv β 2 := hm 2 2 rfl
        have m3 : nv α' 3 = nv β 8 := hm 3 8 rfl
        subst S'
        have e6 : S1.1 806 = S.1 806 := fr_row hf 806 (by decide +kernel)
        have o := old_0 c3 rfl
        rw [e6] at o
        have om : mmany S = nv β 6 := o
        have d := c1
        simp only [wd_fl] at d
        rw [e6] at d
        have hc3 : (((nv α 3).toNat : Nat) : Int) = nv α 3 := Int.toNat_of_nonneg (by omega)
        have hrk : rk S (nv α 3).toNat = nv β 7 := by
          unfold rk
          rw [hc3, d, s3, r3]
        have hs := kS_step (g := rk S) (r := nv α 2) (c := (nv α 3).toNat) (n := (mmany S).toNat) (by omega)
        rw [hc3, hrk] at hs
        have hle2 := kS_le (g := rk S) (r := nv α 2) (c := nv α 3 + 1) (n := (mmany S).toNat)
        rw [if_neg (by omega)] at hs
        refine ih.2.1 _ _ _ Ha ?_ ?_
        · rw [m1, m2, m3, show nv β 8 = nv α 3 + 1 by omega, s1, r1, s2, r2]
          have := hp.1
          exact ⟨by omega, by omega⟩
        · omega
      · have hst := st_nil H1 rfl
        subst hst
        obtain ⟨f1, f2, f3, f4, f5⟩ := as_fx H1
        simp only [kh_ranks_b12_2, fx_env, fx_c, fx_ne, fx_hf, wl_S, Nat.zero_add, Nat.reduceAdd, Nat.reduceDiv, Nat.reduceMod, List.getElem?_cons_zero, List.getElem?_cons_succ, if_true, and_true, true_and] at f1 f2 f3 f4 f5
        have fe0 : nv β 0 = 805 := by omega
        have fe4 : nv β 4 = 806 := by omega
        have fe5 : nv β 5 = 1300 := by omega
        try simp only [fe0, fe4, fe5, Int.reduceToNat] at f2 f3 f4 f5
        have s0 : nv β 0 = nv α1 0 := nv_le H1.1 (by omega)
        have s1 : nv β 1 = nv α1 1 := nv_le H1.1 (by omega)
        have s2 : nv β 2 = nv α1 2 := nv_le H1.1 (by omega)
        have s3 : nv β 3 = nv α1 3 := nv_le H1.1 (by omega)
        obtain ⟨c0, c1, c2, c3⟩ := f2
        obtain ⟨α', Ha, hm⟩ := hd_gpM (q := kh_ranks_a33) (n := 0) (by decide +kernel) hx H1 (by decide +kernel) hxa hf
        have hfr := H1.2.2.2.2.2.2.2.2.2.2.1
        have m0 : nv α' 0 = nv β 0 := hm 0 0 rfl
        have m1 : nv α' 1 = nv β 1 := hm 1 1 rfl
        have m2 : nv α' 2 = nv β 2 := hm 2 2 rfl
        have m3 : nv α' 3 = nv β 3 := hm 3 3 rfl
        subst S'
        have e6 : S1.1 806 = S.1 806 := fr_row hf 806 (by decide +kernel)
        have o := old_0 c3 rfl
        rw [e6] at o
        have om : mmany S = nv β 6 := o
        have d := c1
        simp only [wd_fl] at d
        rw [e6] at d
        have hc3 : (((nv α 3).toNat : Nat) : Int) = nv α 3 := Int.toNat_of_nonneg (by omega)
        have hrk : rk S (nv α 3).toNat = nv β 7 := by
          unfold rk
          rw [hc3, d, s3, r3]
        have hs := kS_step (g := rk S) (r := nv α 2) (c := (nv α 3).toNat) (n := (mmany S).toNat) (by omega)
        rw [hc3, hrk] at hs
        have hle2 := kS_le (g := rk S) (r := nv α 2) (c := nv α 3 + 1) (n := (mmany S).toNat)
        rw [if_pos (by omega)] at hs
        have := hp.1
        refine ih.2.2.1 _ _ _ Ha ?_ ?_
        · rw [m1, m2, m3, s1, r1, s2, r2, s3, r3]
          exact ⟨by omega, by omega, by omega⟩
        · omega
    · intro α lv S1 H hp hk
      have bp := (en_nv (i := 1) H.2.1 rfl).2
      change 0 ≤ nv α 1 ∧ nv α 1 ≤ 10 at bp
      replace H := as_clamp (i := 1) (lo := 0) (hi := 9) H rfl rfl (by omega) (by omega) (by decide)
      obtain ⟨α1, hle, Hr⟩ := as_recM (pl := []) [((858, 858), (0, 9, 1))] (by decide +kernel) H
      have hf := H.2.2.2.2.2.2.2.2.2.2.1
      have hl1 : α1.length = 4 := by rw [Hr.2.1.1]; rfl
      have hl0 : α.length = 4 := by rw [H.2.1.1]; rfl
      have hxa : al_le xs α1 := H.1.trans hle
      obtain ⟨g1, -, g3, g4, -⟩ := as_fx Hr
      have g0 : (805 ≤ nv α1 0 ∧ nv α1 0 ≤ 805) ∧ (0 ≤ nv α1 1 ∧ nv α1 1 ≤ 9) ∧ (0 ≤ nv α1 2 ∧ nv α1 2 ≤ 9) ∧ (0 ≤ nv α1 3 ∧ nv α1 3 ≤ 9) ∧ True := by
        refine ⟨by have h := (en_nv (i := 0) Hr.2.1 rfl).2; exact h, by have h := (en_nv (i := 1) Hr.2.1 rfl).2; exact h, by have h := (en_nv (i := 2) Hr.2.1 rfl).2; exact h, by have h := (en_nv (i := 3) Hr.2.1 rfl).2; exact h, trivial⟩
      have r0 : nv α1 0 = nv α 0 := nv_le hle (by omega)
      have r1 : nv α1 1 = nv α 1 := nv_le hle (by omega)
      have r2 : nv α1 2 = nv α 2 := nv_le hle (by omega)
      have r3 : nv α1 3 = nv α 3 := nv_le hle (by omega)
      refine hd_segM G (na := 4) (fuel := 600) (first := true) (Bs := [kh_ranks_b33_0]) (by decide +kernel) hl1 Hr ?_
      intro q hq β lv' st' S' H1
      simp only [List.mem_cons, List.not_mem_nil, or_false] at hq
      rcases hq with rfl
      · have hst := st_nil H1 rfl
        subst hst
        obtain ⟨f1, f2, f3, f4, f5⟩ := as_fx H1
        simp only [kh_ranks_b33_0, fx_env, fx_c, fx_ne, fx_hf, wl_S, Nat.zero_add, Nat.reduceAdd, Nat.reduceDiv, Nat.reduceMod, List.getElem?_cons_zero, List.getElem?_cons_succ, if_true, and_true, true_and] at f1 f2 f3 f4 f5
        have fe0 : nv β 0 = 805 := by omega
        have fe4 : nv β 4 = 858 := by omega
        try simp only [fe0, fe4, Int.reduceToNat] at f2 f3 f4 f5
        have s0 : nv β 0 = nv α1 0 := nv_le H1.1 (by omega)
        have s1 : nv β 1 = nv α1 1 := nv_le H1.1 (by omega)
        have s2 : nv β 2 = nv α1 2 := nv_le H1.1 (by omega)
        have s3 : nv β 3 = nv α1 3 := nv_le H1.1 (by omega)
        obtain ⟨α', Ha, hm⟩ := hd_gpM (q := kh_ranks_a12) (n := 0) (by decide +kernel) hx H1 (by decide +kernel) hxa hf
        have hfr := H1.2.2.2.2.2.2.2.2.2.2.1
        have m0 : nv α' 0 = nv β 0 := hm 0 0 rfl
        have m1 : nv α' 1 = nv β 5 := hm 1 5 rfl
        have m2 : nv α' 2 = nv β 2 := hm 2 2 rfl
        have m3 : nv α' 3 = nv β 6 := hm 3 6 rfl
        subst S'
        refine ih.2.1 _ _ _ Ha ?_ ?_
        · rw [m1, m2, m3]
          refine ⟨?_, ?_⟩
          · rw [show nv β 5 = nv α 1 + 1 by omega, show nv β 6 = nv α 3 + 1 by omega, show nv β 2 = nv α 2 by omega]; exact hp.1
          · omega
        · omega
  obtain ⟨α1, hle, Hr⟩ := as_recM (pl := []) [] (by decide +kernel) H0
  have hf := H0.2.2.2.2.2.2.2.2.2.2.1
  have hl1 : α1.length = 1 := by rw [Hr.2.1.1]; rfl
  have hl0 : xs.length = 1 := by rw [H0.2.1.1]; rfl
  have hxa : al_le xs α1 := H0.1.trans hle
  obtain ⟨g1, -, g3, g4, -⟩ := as_fx Hr
  have g0 : (805 ≤ nv α1 0 ∧ nv α1 0 ≤ 805) ∧ True := by
    refine ⟨by have h := (en_nv (i := 0) Hr.2.1 rfl).2; exact h, trivial⟩
  have r0 : nv α1 0 = nv xs 0 := nv_le hle (by omega)
  refine hd_segM G (na := 1) (fuel := 600) (first := true) (Bs := [kh_ranks_b0_0]) (by decide +kernel) hl1 Hr ?_
  intro q hq β lv' st' S' H1
  simp only [List.mem_cons, List.not_mem_nil, or_false] at hq
  rcases hq with rfl
  · have hst := st_nil H1 rfl
    subst hst
    obtain ⟨f1, f2, f3, f4, f5⟩ := as_fx H1
    simp only [kh_ranks_b0_0, fx_env, fx_c, fx_ne, fx_hf, wl_S, Nat.zero_add, Nat.reduceAdd, Nat.reduceDiv, Nat.reduceMod, List.getElem?_cons_zero, List.getElem?_cons_succ, if_true, and_true, true_and] at f1 f2 f3 f4 f5
    have fe0 : nv β 0 = 805 := by omega
    have fe1 : nv β 1 = 0 := by omega
    have fe2 : nv β 2 = 0 := by omega
    try simp only [fe0, fe1, fe2, Int.reduceToNat] at f2 f3 f4 f5
    have s0 : nv β 0 = nv α1 0 := nv_le H1.1 (by omega)
    obtain ⟨α', Ha, hm⟩ := hd_gpM (q := kh_ranks_a4) (n := 0) (by decide +kernel) hx H1 (by decide +kernel) hxa hf
    have hfr := H1.2.2.2.2.2.2.2.2.2.2.1
    have m0 : nv α' 0 = nv β 0 := hm 0 0 rfl
    have m1 : nv α' 1 = nv β 1 := hm 1 1 rfl
    have m2 : nv α' 2 = nv β 2 := hm 2 2 rfl
    subst S'
    refine (hP _).1 _ _ _ Ha ?_ (Nat.lt_succ_self _)
    · rw [m1, fe1]; exact kS_le.1)
