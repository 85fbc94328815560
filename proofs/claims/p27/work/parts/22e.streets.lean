/-! ===== streetBetween, hNextFrom ===== -/
theorem jn_inj : ∀ t t' : Fin 17, lowI (t.val : Nat) = lowI (t'.val : Nat) → highI (t.val : Nat) = highI (t'.val : Nat) → t = t' := by decide +kernel
theorem jn_uniq {t t' : Nat} {x y : Int} (h1 : t ≤ 16) (h2 : t' ≤ 16) (h3 : jn t x y) (h4 : jn t' x y) : t = t' := by
  have b1 := lh_bd t h1
  have b2 := lh_bd t' h2
  have e : lowI t = lowI t' ∧ highI t = highI t' := by
    rcases h3 with ⟨a, b⟩ | ⟨a, b⟩ <;> rcases h4 with ⟨c, d⟩ | ⟨c, d⟩ <;> omega
  exact congrArg Fin.val (jn_inj ⟨t, by omega⟩ ⟨t', by omega⟩ e.1 e.2)
/-- a neighbour that is nearer by one -/
def gdh (S : fw_S) (x : Int) (y : Nat) : Prop := ∃ t : Nat, t ≤ 16 ∧ leadsP S 2 t ∧ jn t x y ∧ (S.1 854 y).toInt + 1 = (S.1 854 x.toNat).toInt
abbrev kh_streetBetween_y : mt_T := (⟨"UtilityWorksModel", "streetBetween", "(II)I"⟩, prog_14_method_15_code, 4, some .int, 12, 0, 2, 33171, 33170, 0, 21014)
def kh_streetBetween : ct_T := (409, [(0, 0, 11, 1), (0, 0, 11, 1)], [], [], [(1, (0, (-1), 16, 1), [(0, 0, 11, 1), (0, 0, 11, 1)], [], ([], [(17, 0, 1)]))], [], 2, 40, 0)
def kh_streetBetween_a4 : an_T := (4, 0, ([((0, 0, 11, 1), none), ((0, 0, 11, 1), none), ((0, (-1), 16, 1), none), ((0, 0, 17, 1), none)], [(0, 0), (1, 1), (2, 2), (3, 3)], [], [], [], [], [], [], none), [])
def kh_streetBetween_b0_0 : sg_T := (4, 0, ([((0, 0, 11, 1), none), ((0, 0, 11, 1), none), ((0, (-1), (-1), 0), none), ((0, 0, 0, 0), none)], [(3, 3), (2, 2), (0, 0), (1, 1)], [], [], [], [], [], [], some []))
def kh_streetBetween_b4_0 : sg_T := (55, 0, ([((0, 0, 11, 1), none), ((0, 0, 11, 1), none), ((0, (-1), 16, 1), none), ((0, 17, 17, 1), none), ((0, 17, 17, 0), none)], [(0, 0), (1, 1), (2, 2), (3, 3)], [2], [], [], [(200000, 4, 3)], [], [], some []))
def kh_streetBetween_b4_1 : sg_T := (4, 0, ([((0, 0, 11, 1), none), ((0, 0, 11, 1), none), ((0, (-1), 16, 1), none), ((0, 0, 16, 1), none), ((0, 17, 17, 0), none), ((0, 0, 10, 1), none), ((0, 0, 10, 1), none), ((0, 1, 17, 1), some (3, 1))], [(3, 7), (2, 2), (0, 0), (1, 1)], [], [], [], [(400000, 6, 1), (1000006, 3, 3), (400000, 5, 0), (1000005, 3, 3), (100000, 3, 4)], [], [], some []))
def kh_streetBetween_b4_2 : sg_T := (4, 0, ([((0, 0, 11, 1), none), ((0, 0, 10, 1), none), ((0, (-1), 16, 1), none), ((0, 0, 16, 1), none), ((0, 17, 17, 0), none), ((0, 0, 10, 1), none), ((0, 0, 10, 1), none), ((0, 1, 11, 1), none), ((0, 1, 17, 1), some (3, 1))], [(3, 8), (2, 2), (0, 0), (1, 1)], [], [], [], [(400000, 7, 0), (1100007, 3, 3), (300000, 6, 1), (1000006, 3, 3), (400000, 5, 0), (1000005, 3, 3), (100000, 3, 4)], [], [], some []))
def kh_streetBetween_b4_3 : sg_T := (4, 0, ([((0, 1, 11, 1), none), ((0, 0, 10, 1), none), ((0, (-1), 16, 1), none), ((0, 0, 16, 1), none), ((0, 17, 17, 0), none), ((0, 0, 10, 1), none), ((0, 0, 10, 1), none), ((0, 1, 11, 1), none), ((0, 1, 17, 1), some (3, 1))], [(3, 8), (2, 3), (0, 0), (1, 1)], [], [], [], [(300000, 7, 0), (1100007, 3, 3), (300000, 6, 1), (1000006, 3, 3), (400000, 5, 0), (1000005, 3, 3), (100000, 3, 4)], [], [], some []))
def kh_streetBetween_b4_4 : sg_T := (4, 0, ([((0, 0, 10, 1), none), ((0, 1, 11, 1), none), ((0, (-1), 16, 1), none), ((0, 0, 16, 1), none), ((0, 17, 17, 0), none), ((0, 0, 10, 1), none), ((0, 1, 11, 1), none), ((0, 1, 17, 1), some (3, 1))], [(3, 7), (2, 3), (0, 0), (1, 1)], [], [], [], [(300000, 6, 1), (1100006, 3, 3), (300000, 5, 0), (1000005, 3, 3), (100000, 3, 4)], [], [], some []))
def kh_streetBetween_b4_5 : sg_T := (4, 0, ([((0, 0, 10, 1), none), ((0, 0, 11, 1), none), ((0, (-1), 16, 1), none), ((0, 0, 16, 1), none), ((0, 17, 17, 0), none), ((0, 0, 10, 1), none), ((0, 1, 11, 1), none), ((0, 0, 10, 1), none), ((0, 1, 17, 1), some (3, 1))], [(3, 8), (2, 2), (0, 0), (1, 1)], [], [], [], [(400000, 7, 1), (1000007, 3, 3), (400000, 6, 1), (1100006, 3, 3), (300000, 5, 0), (1000005, 3, 3), (100000, 3, 4)], [], [], some []))
def kh_streetBetween_b4_6 : sg_T := (4, 0, ([((0, 0, 10, 1), none), ((0, 0, 10, 1), none), ((0, (-1), 16, 1), none), ((0, 0, 16, 1), none), ((0, 17, 17, 0), none), ((0, 0, 10, 1), none), ((0, 1, 11, 1), none), ((0, 0, 10, 1), none), ((0, 1, 11, 1), none), ((0, 1, 17, 1), some (3, 1))], [(3, 9), (2, 2), (0, 0), (1, 1)], [], [], [], [(400000, 8, 0), (1100008, 3, 3), (300000, 7, 1), (1000007, 3, 3), (400000, 6, 1), (1100006, 3, 3), (300000, 5, 0), (1000005, 3, 3), (100000, 3, 4)], [], [], some []))
def kh_streetBetween_b4_7 : sg_T := (4, 0, ([((0, 1, 10, 1), none), ((0, 0, 10, 1), none), ((0, (-1), 16, 1), none), ((0, 0, 16, 1), none), ((0, 17, 17, 0), none), ((0, 0, 10, 1), none), ((0, 1, 11, 1), none), ((0, 0, 10, 1), none), ((0, 1, 10, 1), none), ((0, 1, 17, 1), some (3, 1))], [(3, 9), (2, 3), (0, 0), (1, 1)], [], [], [], [(300000, 8, 0), (1100008, 3, 3), (300000, 7, 1), (1000007, 3, 3), (400000, 6, 1), (1100006, 3, 3), (300000, 5, 0), (1000005, 3, 3), (100000, 3, 4)], [], [], some []))
theorem kh_streetBetween_ok : ct_ok wd_fl1 kh_streetBetween := ct_hand (ff := wd_ff1) (y := kh_streetBetween_y) (Cs := [kh_low, kh_high]) wd_fl1_ok rfl (List.forall_mem_cons.mpr ⟨kh_low_l, (List.forall_mem_cons.mpr ⟨kh_high_l, (List.forall_mem_nil _)⟩)⟩) (by decide +kernel) (fun l D tc ad kd N sm xs S p e s m args below meth c sz lv G H0 => by
  have hx : xs.length = 2 := by rw [H0.2.1.1]; rfl
  have hP : ∀ (k : Nat), (∀ (α : List av_X) (lv : List (Nat × Value)) (S1 : fw_S), as_in ad sm wd_fl1 xs S kh_streetBetween.2.2.2.2.2.1 α kh_streetBetween_a4.2.2.1 lv [] S1 → ((nv α 2 = -1 ∧ ∀ t : Nat, (t : Int) < nv α 3 → ¬ jn t (nv α 0) (nv α 1)) ∨ (0 ≤ nv α 2 ∧ nv α 2 ≤ 16 ∧ jn (nv α 2).toNat (nv α 0) (nv α 1))) → (17 - nv α 3).toNat < k → hd_W wd_fl1 kh_streetBetween kh_streetBetween_y l D tc ad kd N sm xs S p e s m args below meth c sz 4 lv [] S1 0) ∧ True := by
    intro k
    induction k with
    | zero => exact ⟨fun _ _ _ _ _ h => absurd h (Nat.not_lt_zero _), trivial⟩
    | succ k ih =>
    refine ⟨?_, trivial⟩
    · intro α lv S1 H hp hk
      obtain ⟨α1, hle, Hr⟩ := as_recM (pl := []) [] (by decide +kernel) H
      have hf := H.2.2.2.2.2.2.2.2.2.2.1
      have hl1 : α1.length = 4 := by rw [Hr.2.1.1]; rfl
      have hl0 : α.length = 4 := by rw [H.2.1.1]; rfl
      have hxa : al_le xs α1 := H.1.trans hle
      obtain ⟨g1, -, g3, g4, -⟩ := as_fx Hr
      have g0 : (0 ≤ nv α1 0 ∧ nv α1 0 ≤ 11) ∧ (0 ≤ nv α1 1 ∧ nv α1 1 ≤ 11) ∧ ((-1) ≤ nv α1 2 ∧ nv α1 2 ≤ 16) ∧ (0 ≤ nv α1 3 ∧ nv α1 3 ≤ 17) ∧ True := by
        refine ⟨by have h := (en_nv (i := 0) Hr.2.1 rfl).2; exact h, by have h := (en_nv (i := 1) Hr.2.1 rfl).2; exact h, by have h := (en_nv (i := 2) Hr.2.1 rfl).2; exact h, by have h := (en_nv (i := 3) Hr.2.1 rfl).2; exact h, trivial⟩
      have r0 : nv α1 0 = nv α 0 := nv_le hle (by omega)
      have r1 : nv α1 1 = nv α 1 := nv_le hle (by omega)
      have r2 : nv α1 2 = nv α 2 := nv_le hle (by omega)
      have r3 : nv α1 3 = nv α 3 := nv_le hle (by omega)
      refine hd_segM G (na := 4) (fuel := 600) (first := true) (Bs := [kh_streetBetween_b4_0, kh_streetBetween_b4_1, kh_streetBetween_b4_2, kh_streetBetween_b4_3, kh_streetBetween_b4_4, kh_streetBetween_b4_5, kh_streetBetween_b4_6, kh_streetBetween_b4_7]) (by decide +kernel) hl1 Hr ?_
      intro q hq β lv' st' S' H1
      simp only [List.mem_cons, List.not_mem_nil, or_false] at hq
      rcases hq with rfl | rfl | rfl | rfl | rfl | rfl | rfl | rfl
      · obtain ⟨f1, f2, f3, f4, f5⟩ := as_fx H1
        simp only [kh_streetBetween_b4_0, fx_env, fx_c, fx_ne, fx_hf, wl_S, Nat.zero_add, Nat.reduceAdd, Nat.reduceDiv, Nat.reduceMod, List.getElem?_cons_zero, List.getElem?_cons_succ, if_true, and_true, true_and] at f1 f2 f3 f4 f5
        have fe3 : nv β 3 = 17 := by omega
        have fe4 : nv β 4 = 17 := by omega
        try simp only [fe3, fe4, Int.reduceToNat] at f2 f3 f4 f5
        have s0 : nv β 0 = nv α1 0 := nv_le H1.1 (by omega)
        have s1 : nv β 1 = nv α1 1 := nv_le H1.1 (by omega)
        have s2 : nv β 2 = nv α1 2 := nv_le H1.1 (by omega)
        have s3 : nv β 3 = nv α1 3 := nv_le H1.1 (by omega)
        have c0 := f2
        refine hd_retI G (v := 2) (by decide +kernel) (as_backM H1 (by decide +kernel) hxa hf) _ List.mem_cons_self rfl (by decide +kernel) (by decide) (fun w hw => ?_)
        rcases List.mem_singleton.mp hw with rfl
        have g0' := (en_nv (i := 0) H0.2.1 rfl).1
        have g1' := (en_nv (i := 1) H0.2.1 rfl).1
        refine ⟨_, _, g0', g1', ?_⟩
        rw [wd_fl1, if_neg (by decide)]
        show sbP (nv β 2) (nv xs 0) (nv xs 1)
        have z0 : nv α 0 = nv xs 0 := nv_le H.1 (by omega)
        have z1 : nv α 1 = nv xs 1 := nv_le H.1 (by omega)
        rw [s2, r2, ← z0, ← z1]
        rcases hp with ⟨h1, h2⟩ | h1
        · exact Or.inl ⟨h1, fun t ht => h2 t (by omega)⟩
        · exact Or.inr h1
      · have hst := st_nil H1 rfl
        subst hst
        obtain ⟨f1, f2, f3, f4, f5⟩ := as_fx H1
        simp only [kh_streetBetween_b4_1, fx_env, fx_c, fx_ne, fx_hf, wl_S, Nat.zero_add, Nat.reduceAdd, Nat.reduceDiv, Nat.reduceMod, List.getElem?_cons_zero, List.getElem?_cons_succ, if_true, and_true, true_and] at f1 f2 f3 f4 f5
        have fe4 : nv β 4 = 17 := by omega
        try simp only [fe4, Int.reduceToNat] at f2 f3 f4 f5
        have s0 : nv β 0 = nv α1 0 := nv_le H1.1 (by omega)
        have s1 : nv β 1 = nv α1 1 := nv_le H1.1 (by omega)
        have s2 : nv β 2 = nv α1 2 := nv_le H1.1 (by omega)
        have s3 : nv β 3 = nv α1 3 := nv_le H1.1 (by omega)
        obtain ⟨c0, c1, c2, c3, c4⟩ := f2
        obtain ⟨α', Ha, hm⟩ := hd_gpM (q := kh_streetBetween_a4) (n := 0) (by decide +kernel) hx H1 (by decide +kernel) hxa hf
        have hfr := H1.2.2.2.2.2.2.2.2.2.2.1
        have m0 : nv α' 0 = nv β 0 := hm 0 0 rfl
        have m1 : nv α' 1 = nv β 1 := hm 1 1 rfl
        have m2 : nv α' 2 = nv β 2 := hm 2 2 rfl
        have m3 : nv α' 3 = nv β 7 := hm 3 7 rfl
        subst S'
        have ht : (((nv β 3).toNat : Nat) : Int) = nv β 3 := Int.toNat_of_nonneg (by omega)
        have d1 := fl1_b (by decide) c1
        simp only [wd_fl] at d1
        have d3 := fl1_b (by decide) c3
        simp only [wd_fl] at d3
        refine ih.1 _ _ _ Ha ?_ ?_
        · rw [m0, m1, m2, m3]
          rcases hp with ⟨h1, h2⟩ | h1
          · refine Or.inl ⟨by omega, fun t hlt hj => ?_⟩
            by_cases e : (t : Int) < nv α 3
            · exact h2 t e (by rw [← r0, ← r1, ← s0, ← s1]; exact hj)
            · have et : (t : Int) = nv β 3 := by omega
              unfold jn at hj
              rw [et] at hj
              omega
          · rw [s2, r2, s0, r0, s1, r1]
            exact Or.inr h1
        · omega
      · have hst := st_nil H1 rfl
        subst hst
        obtain ⟨f1, f2, f3, f4, f5⟩ := as_fx H1
        simp only [kh_streetBetween_b4_2, fx_env, fx_c, fx_ne, fx_hf, wl_S, Nat.zero_add, Nat.reduceAdd, Nat.reduceDiv, Nat.reduceMod, List.getElem?_cons_zero, List.getElem?_cons_succ, if_true, and_true, true_and] at f1 f2 f3 f4 f5
        have fe4 : nv β 4 = 17 := by omega
        try simp only [fe4, Int.reduceToNat] at f2 f3 f4 f5
        have s0 : nv β 0 = nv α1 0 := nv_le H1.1 (by omega)
        have s1 : nv β 1 = nv α1 1 := nv_le H1.1 (by omega)
        have s2 : nv β 2 = nv α1 2 := nv_le H1.1 (by omega)
        have s3 : nv β 3 = nv α1 3 := nv_le H1.1 (by omega)
        obtain ⟨c0, c1, c2, c3, c4, c5, c6⟩ := f2
        obtain ⟨α', Ha, hm⟩ := hd_gpM (q := kh_streetBetween_a4) (n := 0) (by decide +kernel) hx H1 (by decide +kernel) hxa hf
        have hfr := H1.2.2.2.2.2.2.2.2.2.2.1
        have m0 : nv α' 0 = nv β 0 := hm 0 0 rfl
        have m1 : nv α' 1 = nv β 1 := hm 1 1 rfl
        have m2 : nv α' 2 = nv β 2 := hm 2 2 rfl
        have m3 : nv α' 3 = nv β 8 := hm 3 8 rfl
        subst S'
        have ht : (((nv β 3).toNat : Nat) : Int) = nv β 3 := Int.toNat_of_nonneg (by omega)
        have d1 := fl1_b (by decide) c1
        simp only [wd_fl] at d1
        have d3 := fl1_b (by decide) c3
        simp only [wd_fl] at d3
        have d5 := fl1_b (by decide) c5
        simp only [wd_fl] at d5
        refine ih.1 _ _ _ Ha ?_ ?_
        · rw [m0, m1, m2, m3]
          rcases hp with ⟨h1, h2⟩ | h1
          · refine Or.inl ⟨by omega, fun t hlt hj => ?_⟩
            by_cases e : (t : Int) < nv α 3
            · exact h2 t e (by rw [← r0, ← r1, ← s0, ← s1]; exact hj)
            · have et : (t : Int) = nv β 3 := by omega
              unfold jn at hj
              rw [et] at hj
              omega
          · rw [s2, r2, s0, r0, s1, r1]
            exact Or.inr h1
        · omega
      · have hst := st_nil H1 rfl
        subst hst
        obtain ⟨f1, f2, f3, f4, f5⟩ := as_fx H1
        simp only [kh_streetBetween_b4_3, fx_env, fx_c, fx_ne, fx_hf, wl_S, Nat.zero_add, Nat.reduceAdd, Nat.reduceDiv, Nat.reduceMod, List.getElem?_cons_zero, List.getElem?_cons_succ, if_true, and_true, true_and] at f1 f2 f3 f4 f5
        have fe4 : nv β 4 = 17 := by omega
        try simp only [fe4, Int.reduceToNat] at f2 f3 f4 f5
        have s0 : nv β 0 = nv α1 0 := nv_le H1.1 (by omega)
        have s1 : nv β 1 = nv α1 1 := nv_le H1.1 (by omega)
        have s2 : nv β 2 = nv α1 2 := nv_le H1.1 (by omega)
        have s3 : nv β 3 = nv α1 3 := nv_le H1.1 (by omega)
        obtain ⟨c0, c1, c2, c3, c4, c5, c6⟩ := f2
        obtain ⟨α', Ha, hm⟩ := hd_gpM (q := kh_streetBetween_a4) (n := 0) (by decide +kernel) hx H1 (by decide +kernel) hxa hf
        have hfr := H1.2.2.2.2.2.2.2.2.2.2.1
        have m0 : nv α' 0 = nv β 0 := hm 0 0 rfl
        have m1 : nv α' 1 = nv β 1 := hm 1 1 rfl
        have m2 : nv α' 2 = nv β 3 := hm 2 3 rfl
        have m3 : nv α' 3 = nv β 8 := hm 3 8 rfl
        subst S'
        have ht : (((nv β 3).toNat : Nat) : Int) = nv β 3 := Int.toNat_of_nonneg (by omega)
        have d1 := fl1_b (by decide) c1
        simp only [wd_fl] at d1
        have d3 := fl1_b (by decide) c3
        simp only [wd_fl] at d3
        have d5 := fl1_b (by decide) c5
        simp only [wd_fl] at d5
        refine ih.1 _ _ _ Ha ?_ ?_
        · rw [m0, m1, m2, m3]
          refine Or.inr ⟨by omega, by omega, ?_⟩
          unfold jn
          rw [ht]
          omega
        · omega
      · have hst := st_nil H1 rfl
        subst hst
        obtain ⟨f1, f2, f3, f4, f5⟩ := as_fx H1
        simp only [kh_streetBetween_b4_4, fx_env, fx_c, fx_ne, fx_hf, wl_S, Nat.zero_add, Nat.reduceAdd, Nat.reduceDiv, Nat.reduceMod, List.getElem?_cons_zero, List.getElem?_cons_succ, if_true, and_true, true_and] at f1 f2 f3 f4 f5
        have fe4 : nv β 4 = 17 := by omega
        try simp only [fe4, Int.reduceToNat] at f2 f3 f4 f5
        have s0 : nv β 0 = nv α1 0 := nv_le H1.1 (by omega)
        have s1 : nv β 1 = nv α1 1 := nv_le H1.1 (by omega)
        have s2 : nv β 2 = nv α1 2 := nv_le H1.1 (by omega)
        have s3 : nv β 3 = nv α1 3 := nv_le H1.1 (by omega)
        obtain ⟨c0, c1, c2, c3, c4⟩ := f2
        obtain ⟨α', Ha, hm⟩ := hd_gpM (q := kh_streetBetween_a4) (n := 0) (by decide +kernel) hx H1 (by decide +kernel) hxa hf
        have hfr := H1.2.2.2.2.2.2.2.2.2.2.1
        have m0 : nv α' 0 = nv β 0 := hm 0 0 rfl
        have m1 : nv α' 1 = nv β 1 := hm 1 1 rfl
        have m2 : nv α' 2 = nv β 3 := hm 2 3 rfl
        have m3 : nv α' 3 = nv β 7 := hm 3 7 rfl
        subst S'
        have ht : (((nv β 3).toNat : Nat) : Int) = nv β 3 := Int.toNat_of_nonneg (by omega)
        have d1 := fl1_b (by decide) c1
        simp only [wd_fl] at d1
        have d3 := fl1_b (by decide) c3
        simp only [wd_fl] at d3
        refine ih.1 _ _ _ Ha ?_ ?_
        · rw [m0, m1, m2, m3]
          refine Or.inr ⟨by omega, by omega, ?_⟩
          unfold jn
          rw [ht]
          omega
        · omega
      · have hst := st_nil H1 rfl
        subst hst
        obtain ⟨f1, f2, f3, f4, f5⟩ := as_fx H1
        simp only [kh_streetBetween_b4_5, fx_env, fx_c, fx_ne, fx_hf, wl_S, Nat.zero_add, Nat.reduceAdd, Nat.reduceDiv, Nat.reduceMod, List.getElem?_cons_zero, List.getElem?_cons_succ, if_true, and_true, true_and] at f1 f2 f3 f4 f5
        have fe4 : nv β 4 = 17 := by omega
        try simp only [fe4, Int.reduceToNat] at f2 f3 f4 f5
        have s0 : nv β 0 = nv α1 0 := nv_le H1.1 (by omega)
        have s1 : nv β 1 = nv α1 1 := nv_le H1.1 (by omega)
        have s2 : nv β 2 = nv α1 2 := nv_le H1.1 (by omega)
        have s3 : nv β 3 = nv α1 3 := nv_le H1.1 (by omega)
        obtain ⟨c0, c1, c2, c3, c4, c5, c6⟩ := f2
        obtain ⟨α', Ha, hm⟩ := hd_gpM (q := kh_streetBetween_a4) (n := 0) (by decide +kernel) hx H1 (by decide +kernel) hxa hf
        have hfr := H1.2.2.2.2.2.2.2.2.2.2.1
        have m0 : nv α' 0 = nv β 0 := hm 0 0 rfl
        have m1 : nv α' 1 = nv β 1 := hm 1 1 rfl
        have m2 : nv α' 2 = nv β 2 := hm 2 2 rfl
        have m3 : nv α' 3 = nv β 8 := hm 3 8 rfl
        subst S'
        have ht : (((nv β 3).toNat : Nat) : Int) = nv β 3 := Int.toNat_of_nonneg (by omega)
        have d1 := fl1_b (by decide) c1
        simp only [wd_fl] at d1
        have d3 := fl1_b (by decide) c3
        simp only [wd_fl] at d3
        have d5 := fl1_b (by decide) c5
        simp only [wd_fl] at d5
        refine ih.1 _ _ _ Ha ?_ ?_
        · rw [m0, m1, m2, m3]
          rcases hp with ⟨h1, h2⟩ | h1
          · refine Or.inl ⟨by omega, fun t hlt hj => ?_⟩
            by_cases e : (t : Int) < nv α 3
            · exact h2 t e (by rw [← r0, ← r1, ← s0, ← s1]; exact hj)
            · have et : (t : Int) = nv β 3 := by omega
              unfold jn at hj
              rw [et] at hj
              omega
          · rw [s2, r2, s0, r0, s1, r1]
            exact Or.inr h1
        · omega
      · have hst := st_nil H1 rfl
        subst hst
        obtain ⟨f1, f2, f3, f4, f5⟩ := as_fx H1
        simp only [kh_streetBetween_b4_6, fx_env, fx_c, fx_ne, fx_hf, wl_S, Nat.zero_add, Nat.reduceAdd, Nat.reduceDiv, Nat.reduceMod, List.getElem?_cons_zero, List.getElem?_cons_succ, if_true, and_true, true_and] at f1 f2 f3 f4 f5
        have fe4 : nv β 4 = 17 := by omega
        try simp only [fe4, Int.reduceToNat] at f2 f3 f4 f5
        have s0 : nv β 0 = nv α1 0 := nv_le H1.1 (by omega)
        have s1 : nv β 1 = nv α1 1 := nv_le H1.1 (by omega)
        have s2 : nv β 2 = nv α1 2 := nv_le H1.1 (by omega)
        have s3 : nv β 3 = nv α1 3 := nv_le H1.1 (by omega)
        obtain ⟨c0, c1, c2, c3, c4, c5, c6, c7, c8⟩ := f2
        obtain ⟨α', Ha, hm⟩ := hd_gpM (q := kh_streetBetween_a4) (n := 0) (by decide +kernel) hx H1 (by decide +kernel) hxa hf
        have hfr := H1.2.2.2.2.2.2.2.2.2.2.1
        have m0 : nv α' 0 = nv β 0 := hm 0 0 rfl
        have m1 : nv α' 1 = nv β 1 := hm 1 1 rfl
        have m2 : nv α' 2 = nv β 2 := hm 2 2 rfl
        have m3 : nv α' 3 = nv β 9 := hm 3 9 rfl
        subst S'
        have ht : (((nv β 3).toNat : Nat) : Int) = nv β 3 := Int.toNat_of_nonneg (by omega)
        have d1 := fl1_b (by decide) c1
        simp only [wd_fl] at d1
        have d3 := fl1_b (by decide) c3
        simp only [wd_fl] at d3
        have d5 := fl1_b (by decide) c5
        simp only [wd_fl] at d5
        have d7 := fl1_b (by decide) c7
        simp only [wd_fl] at d7
        refine ih.1 _ _ _ Ha ?_ ?_
        · rw [m0, m1, m2, m3]
          rcases hp with ⟨h1, h2⟩ | h1
          · refine Or.inl ⟨by omega, fun t hlt hj => ?_⟩
            by_cases e : (t : Int) < nv α 3
            · exact h2 t e (by rw [← r0, ← r1, ← s0, ← s1]; exact hj)
            · have et : (t : Int) = nv β 3 := by omega
              unfold jn at hj
              rw [et] at hj
              omega
          · rw [s2, r2, s0, r0, s1, r1]
            exact Or.inr h1
        · omega
      · have hst := st_nil H1 rfl
        subst hst
        obtain ⟨f1, f2, f3, f4, f5⟩ := as_fx H1
        simp only [kh_streetBetween_b4_7, fx_env, fx_c, fx_ne, fx_hf, wl_S, Nat.zero_add, Nat.reduceAdd, Nat.reduceDiv, Nat.reduceMod, List.getElem?_cons_zero, List.getElem?_cons_succ, if_true, and_true, true_and] at f1 f2 f3 f4 f5
        have fe4 : nv β 4 = 17 := by omega
        try simp only [fe4, Int.reduceToNat] at f2 f3 f4 f5
        have s0 : nv β 0 = nv α1 0 := nv_le H1.1 (by omega)
        have s1 : nv β 1 = nv α1 1 := nv_le H1.1 (by omega)
        have s2 : nv β 2 = nv α1 2 := nv_le H1.1 (by omega)
        have s3 : nv β 3 = nv α1 3 := nv_le H1.1 (by omega)
        obtain ⟨c0, c1, c2, c3, c4, c5, c6, c7, c8⟩ := f2
        obtain ⟨α', Ha, hm⟩ := hd_gpM (q := kh_streetBetween_a4) (n := 0) (by decide +kernel) hx H1 (by decide +kernel) hxa hf
        have hfr := H1.2.2.2.2.2.2.2.2.2.2.1
        have m0 : nv α' 0 = nv β 0 := hm 0 0 rfl
        have m1 : nv α' 1 = nv β 1 := hm 1 1 rfl
        have m2 : nv α' 2 = nv β 3 := hm 2 3 rfl
        have m3 : nv α' 3 = nv β 9 := hm 3 9 rfl
        subst S'
        have ht : (((nv β 3).toNat : Nat) : Int) = nv β 3 := Int.toNat_of_nonneg (by omega)
        have d1 := fl1_b (by decide) c1
        simp only [wd_fl] at d1
        have d3 := fl1_b (by decide) c3
        simp only [wd_fl] at d3
        have d5 := fl1_b (by decide) c5
        simp only [wd_fl] at d5
        have d7 := fl1_b (by decide) c7
        simp only [wd_fl] at d7
        refine ih.1 _ _ _ Ha ?_ ?_
        · rw [m0, m1, m2, m3]
          refine Or.inr ⟨by omega, by omega, ?_⟩
          unfold jn
          rw [ht]
          omega
        · omega
  obtain ⟨α1, hle, Hr⟩ := as_recM (pl := []) [] (by decide +kernel) H0
  have hf := H0.2.2.2.2.2.2.2.2.2.2.1
  have hl1 : α1.length = 2 := by rw [Hr.2.1.1]; rfl
  have hl0 : xs.length = 2 := by rw [H0.2.1.1]; rfl
  have hxa : al_le xs α1 := H0.1.trans hle
  obtain ⟨g1, -, g3, g4, -⟩ := as_fx Hr
  have g0 : (0 ≤ nv α1 0 ∧ nv α1 0 ≤ 11) ∧ (0 ≤ nv α1 1 ∧ nv α1 1 ≤ 11) ∧ True := by
    refine ⟨by have h := (en_nv (i := 0) Hr.2.1 rfl).2; exact h, by have h := (en_nv (i := 1) Hr.2.1 rfl).2; exact h, trivial⟩
  have r0 : nv α1 0 = nv xs 0 := nv_le hle (by omega)
  have r1 : nv α1 1 = nv xs 1 := nv_le hle (by omega)
  refine hd_segM G (na := 2) (fuel := 600) (first := true) (Bs := [kh_streetBetween_b0_0]) (by decide +kernel) hl1 Hr ?_
  intro q hq β lv' st' S' H1
  simp only [List.mem_cons, List.not_mem_nil, or_false] at hq
  rcases hq with rfl
  · have hst := st_nil H1 rfl
    subst hst
    obtain ⟨f1, f2, f3, f4, f5⟩ := as_fx H1
    simp only [kh_streetBetween_b0_0, fx_env, fx_c, fx_ne, fx_hf, wl_S, Nat.zero_add, Nat.reduceAdd, Nat.reduceDiv, Nat.reduceMod, List.getElem?_cons_zero, List.getElem?_cons_succ, if_true, and_true, true_and] at f1 f2 f3 f4 f5
    have fe2 : nv β 2 = (-1) := by omega
    have fe3 : nv β 3 = 0 := by omega
    try simp only [fe2, fe3, Int.reduceToNat] at f2 f3 f4 f5
    have s0 : nv β 0 = nv α1 0 := nv_le H1.1 (by omega)
    have s1 : nv β 1 = nv α1 1 := nv_le H1.1 (by omega)
    obtain ⟨α', Ha, hm⟩ := hd_gpM (q := kh_streetBetween_a4) (n := 0) (by decide +kernel) hx H1 (by decide +kernel) hxa hf
    have hfr := H1.2.2.2.2.2.2.2.2.2.2.1
    have m0 : nv α' 0 = nv β 0 := hm 0 0 rfl
    have m1 : nv α' 1 = nv β 1 := hm 1 1 rfl
    have m2 : nv α' 2 = nv β 2 := hm 2 2 rfl
    have m3 : nv α' 3 = nv β 3 := hm 3 3 rfl
    subst S'
    refine (hP _).1 _ _ _ Ha ?_ (Nat.lt_succ_self _)
    · exact Or.inl ⟨by omega, fun t ht _ => by rw [m3] at ht; omega⟩)
abbrev kh_hNextFrom_y : mt_T := (⟨"UtilityWorksModel", "hNextFrom", "(I)I"⟩, prog_14_method_166_code, 5, some .int, 12, 1, 1, 35009, 35008, 12012, 21014)
def kh_hNextFrom : ct_T := (489, [(2, 805, 805, 0), (0, 0, 11, 1)], [], [], [(1, (0, (-1), 16, 1), [(2, 805, 805, 0), (0, 0, 11, 1)], [], ([], [(1014, 1, 1)]))], [], 4, 88, 0)
def kh_hNextFrom_a5 : an_T := (5, 0, ([((2, 805, 805, 0), none), ((0, 0, 11, 1), none), ((0, (-1), 16, 1), none), ((0, (-1), 11, 1), none)], [(0, 0), (1, 1), (2, 2), (3, 3)], [], [], [], [], [], [], none), [])
def kh_hNextFrom_b0_0 : sg_T := (5, 0, ([((2, 805, 805, 0), none), ((0, 0, 11, 1), none), ((0, (-1), (-1), 0), none), ((0, 11, 11, 0), none)], [(3, 3), (2, 2), (0, 0), (1, 1)], [], [], [], [], [], [], some []))
def kh_hNextFrom_b5_0 : sg_T := (63, 0, ([((2, 805, 805, 0), none), ((0, 0, 11, 1), none), ((0, (-1), 16, 1), none), ((0, (-1), (-1), 1), none)], [(0, 0), (1, 1), (2, 2), (3, 3)], [2], [], [], [], [], [], some []))
def kh_hNextFrom_b5_1 : sg_T := (5, 0, ([((2, 805, 805, 0), none), ((0, 0, 11, 1), none), ((0, (-1), 16, 1), none), ((0, 0, 11, 1), none), ((0, (-1), (-1), 1), none), ((0, (-1), (-1), 0), none), ((0, (-1), 10, 1), some (3, (-1)))], [(3, 6), (2, 2), (4, 4), (0, 0), (1, 1)], [], [], [], [(300000, 4, 5), (1700004, 1, 3)], [], [], some []))
def kh_hNextFrom_b5_2 : sg_T := (5, 0, ([((2, 805, 805, 0), none), ((0, 0, 11, 1), none), ((0, (-1), 16, 1), none), ((0, 0, 11, 1), none), ((0, 0, 16, 1), none), ((0, (-1), (-1), 0), none), ((0, 2, 2, 0), none), ((0, 0, 0, 1), none), ((0, (-1), 10, 1), some (3, (-1)))], [(3, 8), (2, 2), (4, 4), (0, 0), (1, 1)], [], [], [(4, (-1))], [(101300007, 6, 4), (400000, 4, 5), (1700004, 1, 3)], [], [], some []))
def kh_hNextFrom_b5_3 : sg_T := (5, 0, ([((2, 805, 805, 0), none), ((0, 0, 11, 1), none), ((0, (-1), 16, 1), none), ((0, 0, 11, 1), none), ((0, 0, 16, 1), none), ((0, (-1), (-1), 0), none), ((0, 2, 2, 0), none), ((0, 1, 1, 1), none), ((2, 854, 854, 1), none), ((0, 0, 99, 1), none), ((2, 854, 854, 1), none), ((0, 0, 99, 1), none), ((0, 1, 1, 0), none), ((0, (-1), 98, 1), some (11, (-1))), ((0, (-1), 10, 1), some (3, (-1)))], [(3, 14), (2, 2), (4, 4), (0, 0), (1, 1)], [], [(10, 1, 11), (8, 3, 9)], [(7, 0), (4, (-1))], [(400000, 9, 13), (600013, 11, 12), (800011, 10, 1), (800009, 8, 3), (101300007, 6, 4), (400000, 4, 5), (1700004, 1, 3)], [], [], some []))
def kh_hNextFrom_b5_4 : sg_T := (5, 0, ([((2, 805, 805, 0), none), ((0, 0, 11, 1), none), ((0, (-1), 16, 1), none), ((0, 0, 11, 1), none), ((0, 0, 16, 1), none), ((0, (-1), (-1), 0), none), ((0, 2, 2, 0), none), ((0, 1, 1, 1), none), ((2, 854, 854, 1), none), ((0, 0, 98, 1), none), ((2, 854, 854, 1), none), ((0, 1, 99, 1), none), ((0, 1, 1, 0), none), ((0, 0, 98, 1), some (11, (-1))), ((0, (-1), 10, 1), some (3, (-1)))], [(3, 14), (2, 4), (4, 4), (0, 0), (1, 1)], [], [(10, 1, 11), (8, 3, 9)], [(7, 0), (4, (-1))], [(300000, 9, 13), (600013, 11, 12), (800011, 10, 1), (800009, 8, 3), (101300007, 6, 4), (400000, 4, 5), (1700004, 1, 3)], [], [], some []))
theorem kh_hNextFrom_ok : ct_ok wd_fl1 kh_hNextFrom := ct_hand (ff := wd_ff1) (y := kh_hNextFrom_y) (Cs := [kh_streetBetween, kh_leads]) wd_fl1_ok rfl (List.forall_mem_cons.mpr ⟨kh_streetBetween_ok, (List.forall_mem_cons.mpr ⟨kh_leads_ok, (List.forall_mem_nil _)⟩)⟩) (by decide +kernel) (fun l D tc ad kd N sm xs S p e s m args below meth c sz lv G H0 => by
  have hx : xs.length = 2 := by rw [H0.2.1.1]; rfl
  have hP : ∀ (k : Nat), (∀ (α : List av_X) (lv : List (Nat × Value)) (S1 : fw_S), as_in ad sm wd_fl1 xs S kh_hNextFrom.2.2.2.2.2.1 α kh_hNextFrom_a5.2.2.1 lv [] S1 → ((nv α 2 = -1 ∧ ∀ y : Nat, nv α 3 < (y : Int) → y < 12 → ¬ gdh S1 (nv α 1) y) ∨ (0 ≤ nv α 2 ∧ nv α 2 ≤ 16 ∧ nxh S1 (nv α 2) (nv α 1))) → (nv α 3 + 1).toNat < k → hd_W wd_fl1 kh_hNextFrom kh_hNextFrom_y l D tc ad kd N sm xs S p e s m args below meth c sz 5 lv [] S1 0) ∧ True := by
    intro k
    induction k with
    | zero => exact ⟨fun _ _ _ _ _ h => absurd h (Nat.not_lt_zero _), trivial⟩
    | succ k ih =>
    refine ⟨?_, trivial⟩
    · intro α lv S1 H hp hk
      obtain ⟨α1, hle, Hr⟩ := as_recM (pl := []) [] (by decide +kernel) H
      have hf := H.2.2.2.2.2.2.2.2.2.2.1
      have hl1 : α1.length = 4 := by rw [Hr.2.1.1]; rfl
      have hl0 : α.length = 4 := by rw [H.2.1.1]; rfl
      have hxa : al_le xs α1 := H.1.trans hle
      obtain ⟨g1, -, g3, g4, -⟩ := as_fx Hr
      have g0 : (805 ≤ nv α1 0 ∧ nv α1 0 ≤ 805) ∧ (0 ≤ nv α1 1 ∧ nv α1 1 ≤ 11) ∧ ((-1) ≤ nv α1 2 ∧ nv α1 2 ≤ 16) ∧ ((-1) ≤ nv α1 3 ∧ nv α1 3 ≤ 11) ∧ True := by
        refine ⟨by have h := (en_nv (i := 0) Hr.2.1 rfl).2; exact h, by have h := (en_nv (i := 1) Hr.2.1 rfl).2; exact h, by have h := (en_nv (i := 2) Hr.2.1 rfl).2; exact h, by have h := (en_nv (i := 3) Hr.2.1 rfl).2; exact h, trivial⟩
      have r0 : nv α1 0 = nv α 0 := nv_le hle (by omega)
      have r1 : nv α1 1 = nv α 1 := nv_le hle (by omega)
      have r2 : nv α1 2 = nv α 2 := nv_le hle (by omega)
      have r3 : nv α1 3 = nv α 3 := nv_le hle (by omega)
      refine hd_segM G (na := 4) (fuel := 600) (first := true) (Bs := [kh_hNextFrom_b5_0, kh_hNextFrom_b5_1, kh_hNextFrom_b5_2, kh_hNextFrom_b5_3, kh_hNextFrom_b5_4]) (by decide +kernel) hl1 Hr ?_
      intro q hq β lv' st' S' H1
      simp only [List.mem_cons, List.not_mem_nil, or_false] at hq
      rcases hq with rfl | rfl | rfl | rfl | rfl
      · obtain ⟨f1, f2, f3, f4, f5⟩ := as_fx H1
        simp only [kh_hNextFrom_b5_0, fx_env, fx_c, fx_ne, fx_hf, wl_S, Nat.zero_add, Nat.reduceAdd, Nat.reduceDiv, Nat.reduceMod, List.getElem?_cons_zero, List.getElem?_cons_succ, if_true, and_true, true_and] at f1 f2 f3 f4 f5
        have fe0 : nv β 0 = 805 := by omega
        have fe3 : nv β 3 = (-1) := by omega
        try simp only [fe0, fe3, Int.reduceToNat] at f2 f3 f4 f5
        have s0 : nv β 0 = nv α1 0 := nv_le H1.1 (by omega)
        have s1 : nv β 1 = nv α1 1 := nv_le H1.1 (by omega)
        have s2 : nv β 2 = nv α1 2 := nv_le H1.1 (by omega)
        have s3 : nv β 3 = nv α1 3 := nv_le H1.1 (by omega)
        have eS : S1 = S := fr_same (show fr_in [] S S1 from hf)
        refine hd_retI G (v := 2) (by decide +kernel) (as_backM H1 (by decide +kernel) hxa hf) _ List.mem_cons_self rfl (by decide +kernel) (by decide) (fun w hw => ?_)
        rcases List.mem_singleton.mp hw with rfl
        have g1' := (en_nv (i := 1) H0.2.1 rfl).1
        refine ⟨_, _, g1', g1', ?_⟩
        rw [wd_fl1, if_neg (by decide)]
        show hWit S (nv xs 1).toNat (S.1 854 (nv xs 1).toNat).toInt 1 → 0 ≤ nv β 2 ∧ nv β 2 ≤ 16 ∧ nxh S (nv β 2) (nv xs 1)
        have z1 : nv α 1 = nv xs 1 := nv_le H.1 (by omega)
        rw [s2, r2, ← z1, ← eS]
        intro hw
        rcases hp with ⟨h1, h2⟩ | h1
        · exfalso
          obtain ⟨t, t1, t2, t3⟩ := hw
          have b := lh_bd t t1
          have hc1 : (((nv α 1).toNat : Nat) : Int) = nv α 1 := Int.toNat_of_nonneg (by omega)
          rcases t3 with ⟨a, e⟩ | ⟨a, e⟩
          · exact h2 (highI t).toNat (by omega) (by omega) ⟨t, t1, t2, Or.inl ⟨by omega, by omega⟩, e⟩
          · exact h2 (lowI t).toNat (by omega) (by omega) ⟨t, t1, t2, Or.inr ⟨by omega, by omega⟩, e⟩
        · exact h1
      · have hst := st_nil H1 rfl
        subst hst
        obtain ⟨f1, f2, f3, f4, f5⟩ := as_fx H1
        simp only [kh_hNextFrom_b5_1, fx_env, fx_c, fx_ne, fx_hf, wl_S, Nat.zero_add, Nat.reduceAdd, Nat.reduceDiv, Nat.reduceMod, List.getElem?_cons_zero, List.getElem?_cons_succ, if_true, and_true, true_and] at f1 f2 f3 f4 f5
        have fe0 : nv β 0 = 805 := by omega
        have fe4 : nv β 4 = (-1) := by omega
        have fe5 : nv β 5 = (-1) := by omega
        try simp only [fe0, fe4, fe5, Int.reduceToNat] at f2 f3 f4 f5
        have s0 : nv β 0 = nv α1 0 := nv_le H1.1 (by omega)
        have s1 : nv β 1 = nv α1 1 := nv_le H1.1 (by omega)
        have s2 : nv β 2 = nv α1 2 := nv_le H1.1 (by omega)
        have s3 : nv β 3 = nv α1 3 := nv_le H1.1 (by omega)
        obtain ⟨c0, c1⟩ := f2
        obtain ⟨α', Ha, hm⟩ := hd_gpM (q := kh_hNextFrom_a5) (n := 0) (by decide +kernel) hx H1 (by decide +kernel) hxa hf
        have hfr := H1.2.2.2.2.2.2.2.2.2.2.1
        have m0 : nv α' 0 = nv β 0 := hm 0 0 rfl
        have m1 : nv α' 1 = nv β 1 := hm 1 1 rfl
        have m2 : nv α' 2 = nv β 2 := hm 2 2 rfl
        have m3 : nv α' 3 = nv β 6 := hm 3 6 rfl
        subst S'
        have eS : S1 = S := fr_same (show fr_in [] S S1 from hf)
        have ht : (((nv β 3).toNat : Nat) : Int) = nv β 3 := Int.toNat_of_nonneg (by omega)
        have d1 := c1
        simp only [wd_fl1, if_neg (show ¬ (wd_base 17 = true) by decide)] at d1
        have q1 : nv β 1 = nv α 1 := by omega
        have hno : ¬ gdh S1 (nv β 1) (nv β 3).toNat := by
          rintro ⟨t, t1, t2, t3, t4⟩
          rcases d1 with ⟨h1, h2⟩ | ⟨h1, h2, h3⟩
          · exact h2 t t1 (by rw [← ht]; exact t3)
          · omega
        refine ih.1 _ _ _ Ha ?_ ?_
        · rw [m1, m2, m3]
          rcases hp with ⟨h1, h2⟩ | h1
          · refine Or.inl ⟨by omega, fun y hy hy2 hg => ?_⟩
            by_cases e : nv α 3 < (y : Int)
            · exact h2 y e hy2 (by rw [← q1]; exact hg)
            · have ey : y = (nv β 3).toNat := by omega
              subst ey
              exact hno hg
          · rw [s2, r2, s1, r1]
            exact Or.inr h1
        · omega
      · have hst := st_nil H1 rfl
        subst hst
        obtain ⟨f1, f2, f3, f4, f5⟩ := as_fx H1
        simp only [kh_hNextFrom_b5_2, fx_env, fx_c, fx_ne, fx_hf, wl_S, Nat.zero_add, Nat.reduceAdd, Nat.reduceDiv, Nat.reduceMod, List.getElem?_cons_zero, List.getElem?_cons_succ, if_true, and_true, true_and] at f1 f2 f3 f4 f5
        have fe0 : nv β 0 = 805 := by omega
        have fe5 : nv β 5 = (-1) := by omega
        have fe6 : nv β 6 = 2 := by omega
        have fe7 : nv β 7 = 0 := by omega
        try simp only [fe0, fe5, fe6, fe7, Int.reduceToNat] at f2 f3 f4 f5
        have s0 : nv β 0 = nv α1 0 := nv_le H1.1 (by omega)
        have s1 : nv β 1 = nv α1 1 := nv_le H1.1 (by omega)
        have s2 : nv β 2 = nv α1 2 := nv_le H1.1 (by omega)
        have s3 : nv β 3 = nv α1 3 := nv_le H1.1 (by omega)
        obtain ⟨c0, c1, c2⟩ := f2
        obtain ⟨α', Ha, hm⟩ := hd_gpM (q := kh_hNextFrom_a5) (n := 0) (by decide +kernel) hx H1 (by decide +kernel) hxa hf
        have hfr := H1.2.2.2.2.2.2.2.2.2.2.1
        have m0 : nv α' 0 = nv β 0 := hm 0 0 rfl
        have m1 : nv α' 1 = nv β 1 := hm 1 1 rfl
        have m2 : nv α' 2 = nv β 2 := hm 2 2 rfl
        have m3 : nv α' 3 = nv β 8 := hm 3 8 rfl
        subst S'
        have eS : S1 = S := fr_same (show fr_in [] S S1 from hf)
        have ht : (((nv β 3).toNat : Nat) : Int) = nv β 3 := Int.toNat_of_nonneg (by omega)
        have d0 := c0
        simp only [wd_fl1, if_neg (show ¬ (wd_base 1013 = true) by decide)] at d0
        have d2 := c2
        simp only [wd_fl1, if_neg (show ¬ (wd_base 17 = true) by decide)] at d2
        have q1 : nv β 1 = nv α 1 := by omega
        have hno : ¬ gdh S1 (nv β 1) (nv β 3).toNat := by
          rintro ⟨t, t1, t2, t3, t4⟩
          rcases d2 with ⟨h1, h2⟩ | ⟨h1, h2, h3⟩
          · exact h2 t t1 (by rw [← ht]; exact t3)
          · have e := jn_uniq t1 (by omega) (by rw [ht] at t3; exact t3) h3
            subst e
            have hv : (((nv β 4).toNat : Nat) : Int) = nv β 4 := Int.toNat_of_nonneg (by omega)
            rw [hv] at t2
            exact b2i_0 (d0.symm.trans (by omega)) t2
        refine ih.1 _ _ _ Ha ?_ ?_
        · rw [m1, m2, m3]
          rcases hp with ⟨h1, h2⟩ | h1
          · refine Or.inl ⟨by omega, fun y hy hy2 hg => ?_⟩
            by_cases e : nv α 3 < (y : Int)
            · exact h2 y e hy2 (by rw [← q1]; exact hg)
            · have ey : y = (nv β 3).toNat := by omega
              subst ey
              exact hno hg
          · rw [s2, r2, s1, r1]
            exact Or.inr h1
        · omega
      · have hst := st_nil H1 rfl
        subst hst
        obtain ⟨f1, f2, f3, f4, f5⟩ := as_fx H1
        simp only [kh_hNextFrom_b5_3, fx_env, fx_c, fx_ne, fx_hf, wl_S, Nat.zero_add, Nat.reduceAdd, Nat.reduceDiv, Nat.reduceMod, List.getElem?_cons_zero, List.getElem?_cons_succ, if_true, and_true, true_and] at f1 f2 f3 f4 f5
        have fe0 : nv β 0 = 805 := by omega
        have fe5 : nv β 5 = (-1) := by omega
        have fe6 : nv β 6 = 2 := by omega
        have fe7 : nv β 7 = 1 := by omega
        have fe8 : nv β 8 = 854 := by omega
        have fe10 : nv β 10 = 854 := by omega
        have fe12 : nv β 12 = 1 := by omega
        try simp only [fe0, fe5, fe6, fe7, fe8, fe10, fe12, Int.reduceToNat] at f2 f3 f4 f5
        have s0 : nv β 0 = nv α1 0 := nv_le H1.1 (by omega)
        have s1 : nv β 1 = nv α1 1 := nv_le H1.1 (by omega)
        have s2 : nv β 2 = nv α1 2 := nv_le H1.1 (by omega)
        have s3 : nv β 3 = nv α1 3 := nv_le H1.1 (by omega)
        obtain ⟨c0, c1, c2, c3, c4, c5, c6⟩ := f2
        obtain ⟨α', Ha, hm⟩ := hd_gpM (q := kh_hNextFrom_a5) (n := 0) (by decide +kernel) hx H1 (by decide +kernel) hxa hf
        have hfr := H1.2.2.2.2.2.2.2.2.2.2.1
        have m0 : nv α' 0 = nv β 0 := hm 0 0 rfl
        have m1 : nv α' 1 = nv β 1 := hm 1 1 rfl
        have m2 : nv α' 2 = nv β 2 := hm 2 2 rfl
        have m3 : nv α' 3 = nv β 14 := hm 3 14 rfl
        subst S'
        have eS : S1 = S := fr_same (show fr_in [] S S1 from hf)
        have ht : (((nv β 3).toNat : Nat) : Int) = nv β 3 := Int.toNat_of_nonneg (by omega)
        have o2 := old_0 c2 rfl
        have o3 := old_0 c3 rfl
        have d4 := c4
        simp only [wd_fl1, if_neg (show ¬ (wd_base 1013 = true) by decide)] at d4
        have d6 := c6
        simp only [wd_fl1, if_neg (show ¬ (wd_base 17 = true) by decide)] at d6
        have q1 : nv β 1 = nv α 1 := by omega
        have hno : ¬ gdh S1 (nv β 1) (nv β 3).toNat := by
          rintro ⟨t, t1, t2, t3, t4⟩
          rcases d6 with ⟨h1, h2⟩ | ⟨h1, h2, h3⟩
          · exact h2 t t1 (by rw [← ht]; exact t3)
          · have e := jn_uniq t1 (by omega) (by rw [ht] at t3; exact t3) h3
            subst e
            have hv : (((nv β 4).toNat : Nat) : Int) = nv β 4 := Int.toNat_of_nonneg (by omega)
            omega
        refine ih.1 _ _ _ Ha ?_ ?_
        · rw [m1, m2, m3]
          rcases hp with ⟨h1, h2⟩ | h1
          · refine Or.inl ⟨by omega, fun y hy hy2 hg => ?_⟩
            by_cases e : nv α 3 < (y : Int)
            · exact h2 y e hy2 (by rw [← q1]; exact hg)
            · have ey : y = (nv β 3).toNat := by omega
              subst ey
              exact hno hg
          · rw [s2, r2, s1, r1]
            exact Or.inr h1
        · omega
      · have hst := st_nil H1 rfl
        subst hst
        obtain ⟨f1, f2, f3, f4, f5⟩ := as_fx H1
        simp only [kh_hNextFrom_b5_4, fx_env, fx_c, fx_ne, fx_hf, wl_S, Nat.zero_add, Nat.reduceAdd, Nat.reduceDiv, Nat.reduceMod, List.getElem?_cons_zero, List.getElem?_cons_succ, if_true, and_true, true_and] at f1 f2 f3 f4 f5
        have fe0 : nv β 0 = 805 := by omega
        have fe5 : nv β 5 = (-1) := by omega
        have fe6 : nv β 6 = 2 := by omega
        have fe7 : nv β 7 = 1 := by omega
        have fe8 : nv β 8 = 854 := by omega
        have fe10 : nv β 10 = 854 := by omega
        have fe12 : nv β 12 = 1 := by omega
        try simp only [fe0, fe5, fe6, fe7, fe8, fe10, fe12, Int.reduceToNat] at f2 f3 f4 f5
        have s0 : nv β 0 = nv α1 0 := nv_le H1.1 (by omega)
        have s1 : nv β 1 = nv α1 1 := nv_le H1.1 (by omega)
        have s2 : nv β 2 = nv α1 2 := nv_le H1.1 (by omega)
        have s3 : nv β 3 = nv α1 3 := nv_le H1.1 (by omega)
        obtain ⟨c0, c1, c2, c3, c4, c5, c6⟩ := f2
        obtain ⟨α', Ha, hm⟩ := hd_gpM (q := kh_hNextFrom_a5) (n := 0) (by decide +kernel) hx H1 (by decide +kernel) hxa hf
        have hfr := H1.2.2.2.2.2.2.2.2.2.2.1
        have m0 : nv α' 0 = nv β 0 := hm 0 0 rfl
        have m1 : nv α' 1 = nv β 1 := hm 1 1 rfl
        have m2 : nv α' 2 = nv β 4 := hm 2 4 rfl
        have m3 : nv α' 3 = nv β 14 := hm 3 14 rfl
        subst S'
        have eS : S1 = S := fr_same (show fr_in [] S S1 from hf)
        have ht : (((nv β 3).toNat : Nat) : Int) = nv β 3 := Int.toNat_of_nonneg (by omega)
        have o2 := old_0 c2 rfl
        have o3 := old_0 c3 rfl
        have d4 := c4
        simp only [wd_fl1, if_neg (show ¬ (wd_base 1013 = true) by decide)] at d4
        have d6 := c6
        simp only [wd_fl1, if_neg (show ¬ (wd_base 17 = true) by decide)] at d6
        have q1 : nv β 1 = nv α 1 := by omega
        have hl := b2i_1 (d4.symm.trans (by omega))
        have hj : jn (nv β 4).toNat (nv β 1) (nv β 3) := by
          rcases d6 with ⟨h1, -⟩ | ⟨h1, h2, h3⟩
          · omega
          · exact h3
        have hv : (((nv β 4).toNat : Nat) : Int) = nv β 4 := Int.toNat_of_nonneg (by omega)
        unfold jn at hj
        rw [hv] at hj
        refine ih.1 _ _ _ Ha ?_ ?_
        · rw [m1, m2, m3]
          refine Or.inr ⟨by omega, by omega, hl, ?_⟩
          rcases hj with ⟨a, b⟩ | ⟨a, b⟩
          · exact Or.inl ⟨a, by rw [b]; omega⟩
          · exact Or.inr ⟨b, by rw [a]; omega⟩
        · omega
  obtain ⟨α1, hle, Hr⟩ := as_recM (pl := []) [] (by decide +kernel) H0
  have hf := H0.2.2.2.2.2.2.2.2.2.2.1
  have hl1 : α1.length = 2 := by rw [Hr.2.1.1]; rfl
  have hl0 : xs.length = 2 := by rw [H0.2.1.1]; rfl
  have hxa : al_le xs α1 := H0.1.trans hle
  obtain ⟨g1, -, g3, g4, -⟩ := as_fx Hr
  have g0 : (805 ≤ nv α1 0 ∧ nv α1 0 ≤ 805) ∧ (0 ≤ nv α1 1 ∧ nv α1 1 ≤ 11) ∧ True := by
    refine ⟨by have h := (en_nv (i := 0) Hr.2.1 rfl).2; exact h, by have h := (en_nv (i := 1) Hr.2.1 rfl).2; exact h, trivial⟩
  have r0 : nv α1 0 = nv xs 0 := nv_le hle (by omega)
  have r1 : nv α1 1 = nv xs 1 := nv_le hle (by omega)
  refine hd_segM G (na := 2) (fuel := 600) (first := true) (Bs := [kh_hNextFrom_b0_0]) (by decide +kernel) hl1 Hr ?_
  intro q hq β lv' st' S' H1
  simp only [List.mem_cons, List.not_mem_nil, or_false] at hq
  rcases hq with rfl
  · have hst := st_nil H1 rfl
    subst hst
    obtain ⟨f1, f2, f3, f4, f5⟩ := as_fx H1
    simp only [kh_hNextFrom_b0_0, fx_env, fx_c, fx_ne, fx_hf, wl_S, Nat.zero_add, Nat.reduceAdd, Nat.reduceDiv, Nat.reduceMod, List.getElem?_cons_zero, List.getElem?_cons_succ, if_true, and_true, true_and] at f1 f2 f3 f4 f5
    have fe0 : nv β 0 = 805 := by omega
    have fe2 : nv β 2 = (-1) := by omega
    have fe3 : nv β 3 = 11 := by omega
    try simp only [fe0, fe2, fe3, Int.reduceToNat] at f2 f3 f4 f5
    have s0 : nv β 0 = nv α1 0 := nv_le H1.1 (by omega)
    have s1 : nv β 1 = nv α1 1 := nv_le H1.1 (by omega)
    obtain ⟨α', Ha, hm⟩ := hd_gpM (q := kh_hNextFrom_a5) (n := 0) (by decide +kernel) hx H1 (by decide +kernel) hxa hf
    have hfr := H1.2.2.2.2.2.2.2.2.2.2.1
    have m0 : nv α' 0 = nv β 0 := hm 0 0 rfl
    have m1 : nv α' 1 = nv β 1 := hm 1 1 rfl
    have m2 : nv α' 2 = nv β 2 := hm 2 2 rfl
    have m3 : nv α' 3 = nv β 3 := hm 3 3 rfl
    subst S'
    refine (hP _).1 _ _ _ Ha ?_ (Nat.lt_succ_self _)
    · exact Or.inl ⟨by omega, fun y hy hy2 => by rw [m3] at hy; omega⟩)
