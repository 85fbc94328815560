/-! ===== ways: nextTo, wayLength, wayStep ===== -/
def fInv (S : fw_S) (f : Nat → Int) : Prop := ∀ x : Nat, x < 12 → f x = -1 ∨ f x = 0 ∨ (1 ≤ f x ∧ ∃ t y : Nat, t ≤ 16 ∧ y < 12 ∧ ¬ clP S t ∧ jn t x y ∧ f y + 1 = f x ∧ f y ≠ -1)
theorem fst1_inv {S : fw_S} {f : Nat → Int} {r : Int} {a b t : Nat} (h : fInv S f) (hr : 0 ≤ r) (hb : b < 12) (ht : t ≤ 16) (hc : ¬ clP S t) (hj : jn t a b) : fInv S (fst1 r a b f) := by
  have keep : ∀ y, f y ≠ -1 → fst1 r a b f y = f y := by
    intro y hy
    unfold fst1
    by_cases e : y = a
    · subst e
      rw [if_pos rfl, if_neg (fun g => hy g.2)]
    · rw [if_neg e]
  intro x hx
  by_cases e : x = a ∧ f b = r ∧ f a = -1
  · obtain ⟨e1, e2, e3⟩ := e
    subst e1
    have hv : fst1 r x b f x = r + 1 := by unfold fst1; rw [if_pos rfl, if_pos ⟨e2, e3⟩]
    rw [hv]
    refine Or.inr (Or.inr ⟨by omega, t, b, ht, hb, hc, hj, ?_, ?_⟩)
    · rw [keep b (by omega), e2]
    · rw [keep b (by omega)]; omega
  · have hv : fst1 r a b f x = f x := by
      unfold fst1
      by_cases e1 : x = a
      · rw [if_pos e1, if_neg (fun g => e ⟨e1, g.1, g.2⟩), e1]
      · rw [if_neg e1]
    rw [hv]
    rcases h x hx with g | g | ⟨g0, t', y, g1, g2, g3, g4, g5, g6⟩
    · exact Or.inl g
    · exact Or.inr (Or.inl g)
    · exact Or.inr (Or.inr ⟨g0, t', y, g1, g2, g3, g4, by rw [keep y g6]; exact g5, by rw [keep y g6]; exact g6⟩)
theorem fI_inv {S : fw_S} {to : Int} : ∀ n : Nat, fInv S (fI S to n)
  | 0 => fun x _ => by
    show (if (x : Int) = to then (0 : Int) else -1) = -1 ∨ (if (x : Int) = to then (0 : Int) else -1) = 0 ∨ _
    by_cases e : (x : Int) = to
    · rw [if_pos e]; exact Or.inr (Or.inl rfl)
    · rw [if_neg e]; exact Or.inl rfl
  | n + 1 => by
    have ih := fI_inv (S := S) (to := to) n
    show fInv S (fstep S ((n / 17 : Nat) : Int) (n % 17) (fI S to n))
    unfold fstep
    have b := lh_bd (n % 17) (by omega)
    have el : (((lowI ((n % 17 : Nat) : Int)).toNat : Nat) : Int) = lowI ((n % 17 : Nat) : Int) := Int.toNat_of_nonneg b.1
    have eh : (((highI ((n % 17 : Nat) : Int)).toNat : Nat) : Int) = highI ((n % 17 : Nat) : Int) := Int.toNat_of_nonneg (by omega)
    split
    · exact ih
    · rename_i hc
      exact fst1_inv (t := n % 17) (fst1_inv (t := n % 17) ih (by omega) (by omega) (by omega) hc (Or.inl ⟨el.symm, eh.symm⟩)) (by omega) (by omega) (by omega) hc (Or.inr ⟨el.symm, eh.symm⟩)
def R_wayLength : List av_X → fw_S → fw_O → fw_S → Prop := fun xs S oc S' => (∃ v : Int32, oc = .inl (some (.int v)) ∧ v.toInt = fI S (nv xs 2) 204 (nv xs 1).toNat) ∧ S'.1 806 = S.1 806
def R_wayStep : List av_X → fw_S → fw_O → fw_S → Prop := fun xs S oc _ => ∃ v : Int32, oc = .inl (some (.int v)) ∧ (fI S (nv xs 2) 204 (nv xs 1).toNat ≠ -1 ∧ nv xs 3 ≤ fI S (nv xs 2) 204 (nv xs 1).toNat → 0 ≤ v.toInt ∧ v.toInt ≤ 11)
abbrev kh_nextTo_y : mt_T := (⟨"UtilityWorksModel", "nextTo", "(I)I"⟩, prog_14_method_71_code, 5, some .int, 12, 1, 1, 33168, 33167, 7014, 21014)
def kh_nextTo : ct_T := (408, [(2, 805, 805, 0), (0, 0, 11, 1)], [], [], [(1, (0, (-1), 11, 1), [(2, 805, 805, 0), (0, 0, 11, 1)], [], ([], [(1024, 1, 1)]))], [], 3, 63, 0)
def kh_nextTo_a5 : an_T := (5, 0, ([((2, 805, 805, 0), none), ((0, 0, 11, 1), none), ((0, (-1), 11, 1), none), ((0, (-1), 11, 1), none)], [(0, 0), (1, 1), (2, 2), (3, 3)], [], [], [], [], [], [], none), [])
def kh_nextTo_b0_0 : sg_T := (5, 0, ([((2, 805, 805, 0), none), ((0, 0, 11, 1), none), ((0, (-1), (-1), 0), none), ((0, 11, 11, 0), none)], [(3, 3), (2, 2), (0, 0), (1, 1)], [], [], [], [], [], [], some []))
def kh_nextTo_b5_0 : sg_T := (71, 0, ([((2, 805, 805, 0), none), ((0, 0, 11, 1), none), ((0, (-1), 11, 1), none), ((0, (-1), (-1), 1), none)], [(0, 0), (1, 1), (2, 2), (3, 3)], [2], [], [], [], [], [], some []))
def kh_nextTo_b5_1 : sg_T := (5, 0, ([((2, 805, 805, 0), none), ((0, 0, 11, 1), none), ((0, (-1), 11, 1), none), ((0, 0, 11, 1), none), ((0, (-1), (-1), 1), none), ((0, (-1), (-1), 0), none), ((0, (-1), 10, 1), some (3, (-1)))], [(3, 6), (2, 2), (4, 4), (0, 0), (1, 1)], [], [], [], [(300000, 4, 5), (1700004, 1, 3)], [], [], some []))
def kh_nextTo_b5_2 : sg_T := (5, 0, ([((2, 805, 805, 0), none), ((0, 0, 11, 1), none), ((0, (-1), 11, 1), none), ((0, 0, 11, 1), none), ((0, 0, 16, 1), none), ((0, (-1), (-1), 0), none), ((0, 1, 1, 1), none), ((0, (-1), 10, 1), some (3, (-1)))], [(3, 7), (2, 2), (4, 4), (0, 0), (1, 1)], [], [], [(6, 0), (4, (-1))], [(101500006, 4, 4), (400000, 4, 5), (1700004, 1, 3)], [], [], some []))
def kh_nextTo_b5_3 : sg_T := (5, 0, ([((2, 805, 805, 0), none), ((0, 0, 11, 1), none), ((0, (-1), 11, 1), none), ((0, 0, 11, 1), none), ((0, 0, 16, 1), none), ((0, (-1), (-1), 0), none), ((0, 0, 0, 1), none), ((2, 814, 814, 1), none), ((0, (-1), 12, 1), none), ((2, 814, 814, 1), none), ((0, (-1), 12, 1), none), ((0, 1, 1, 0), none), ((0, (-2), 11, 1), some (10, (-1))), ((0, (-1), 10, 1), some (3, (-1)))], [(3, 13), (2, 2), (4, 4), (0, 0), (1, 1)], [], [(9, 1, 10), (7, 3, 8)], [(4, (-1))], [(400000, 8, 12), (600012, 10, 11), (800010, 9, 1), (800008, 7, 3), (101500006, 4, 4), (400000, 4, 5), (1700004, 1, 3)], [], [], some []))
def kh_nextTo_b5_4 : sg_T := (5, 0, ([((2, 805, 805, 0), none), ((0, 0, 11, 1), none), ((0, (-1), 11, 1), none), ((0, 0, 11, 1), none), ((0, 0, 16, 1), none), ((0, (-1), (-1), 0), none), ((0, 0, 0, 1), none), ((2, 814, 814, 1), none), ((0, (-1), (-1), 1), none), ((2, 814, 814, 1), none), ((0, 0, 12, 1), none), ((0, 1, 1, 0), none), ((0, (-1), 11, 1), some (10, (-1))), ((2, 814, 814, 1), none), ((0, (-1), (-1), 0), none), ((0, (-1), 10, 1), some (3, (-1)))], [(3, 15), (2, 2), (4, 4), (0, 0), (1, 1)], [], [(9, 1, 10), (7, 3, 8)], [(4, (-1))], [(300000, 8, 14), (300000, 8, 12), (600012, 10, 11), (800010, 9, 1), (800008, 7, 3), (101500006, 4, 4), (400000, 4, 5), (1700004, 1, 3)], [], [], some []))
def kh_nextTo_b5_5 : sg_T := (5, 0, ([((2, 805, 805, 0), none), ((0, 0, 11, 1), none), ((0, (-1), 11, 1), none), ((0, 0, 11, 1), none), ((0, 0, 16, 1), none), ((0, (-1), (-1), 0), none), ((0, 0, 0, 1), none), ((2, 814, 814, 1), none), ((0, 0, 11, 1), none), ((2, 814, 814, 1), none), ((0, 0, 12, 1), none), ((0, 1, 1, 0), none), ((0, (-1), 11, 1), some (10, (-1))), ((2, 814, 814, 1), none), ((0, (-1), (-1), 0), none), ((0, (-1), 10, 1), some (3, (-1)))], [(3, 15), (2, 3), (4, 4), (0, 0), (1, 1)], [], [(9, 1, 10), (7, 3, 8)], [(8, (-1)), (4, (-1))], [(400000, 8, 14), (300000, 8, 12), (600012, 10, 11), (800010, 9, 1), (800008, 7, 3), (101500006, 4, 4), (400000, 4, 5), (1700004, 1, 3)], [], [], some []))
def kh_nextTo_I (l : Launch) (D : va_G) (tc : Nat → ClassId) (ad : Nat → Nat) (kd : Nat → Nat × Nat) (N : Nat) (sm : Nat → Nat) (xs : List av_X) (S : fw_S) (p : Program) (e : Env) (s : State) (m : MethodId) (args : Array Value) (below : List Frame) (meth : Method) (c : Code) (sz : Nat) (k : Nat) : Prop := (∀ (α : List av_X) (lv : List (Nat × Value)) (S1 : fw_S), as_in ad sm wd_fl2 xs S kh_nextTo.2.2.2.2.2.1 α kh_nextTo_a5.2.2.1 lv [] S1 → ((nv α 2 = -1 ∧ ∀ y : Nat, nv α 3 < (y : Int) → y < 12 → ¬ ngh S1 (nv α 1) y) ∨ (0 ≤ nv α 2 ∧ nv α 2 ≤ 11 ∧ (S1.1 814 (nv α 2).toNat).toInt + 1 = (S1.1 814 (nv α 1).toNat).toInt)) → (nv α 3 + 1).toNat < k → hd_W wd_fl2 kh_nextTo kh_nextTo_y l D tc ad kd N sm xs S p e s m args below meth c sz 5 lv [] S1 0) ∧ True
set_option maxHeartbeats 16000000 in
set_option maxRecDepth 8000 in
theorem kh_nextTo_h5 {l : Launch} {D : va_G} {tc : Nat → ClassId} {ad : Nat → Nat} {kd : Nat → Nat × Nat} {N : Nat} {sm : Nat → Nat} {xs : List av_X} {S : fw_S} {p : Program} {e : Env} {s : State} {m : MethodId} {args : Array Value} {below : List Frame} {meth : Method} {c : Code} {sz : Nat} {lvE : List (Nat × Value)} (G : hd_C wd_ff2 wd_fl2 kh_nextTo [kh_streetBetween, kh_isClosed] kh_nextTo_y l D tc ad kd N sm xs p s m args meth c sz) (H0 : as_in ad sm wd_fl2 xs S kh_nextTo.2.2.2.2.2.1 xs (hd_0 kh_nextTo) lvE [] S) {k : Nat} (ih : kh_nextTo_I l D tc ad kd N sm xs S p e s m args below meth c sz k) : (∀ (α : List av_X) (lv : List (Nat × Value)) (S1 : fw_S), as_in ad sm wd_fl2 xs S kh_nextTo.2.2.2.2.2.1 α kh_nextTo_a5.2.2.1 lv [] S1 → ((nv α 2 = -1 ∧ ∀ y : Nat, nv α 3 < (y : Int) → y < 12 → ¬ ngh S1 (nv α 1) y) ∨ (0 ≤ nv α 2 ∧ nv α 2 ≤ 11 ∧ (S1.1 814 (nv α 2).toNat).toInt + 1 = (S1.1 814 (nv α 1).toNat).toInt)) → (nv α 3 + 1).toNat < k + 1 → hd_W wd_fl2 kh_nextTo kh_nextTo_y l D tc ad kd N sm xs S p e s m args below meth c sz 5 lv [] S1 0) := by
  have hx : xs.length = 2 := by rw [H0.2.1.1]; rfl
  intro α lv S1 H hp hk
  obtain ⟨α1, hle, Hr⟩ := as_recM (pl := []) [] (by decide +kernel) H
  have hf := H.2.2.2.2.2.2.2.2.2.2.1
  have hl1 : α1.length = 4 := by rw [Hr.2.1.1]; rfl
  have hl0 : α.length = 4 := by rw [H.2.1.1]; rfl
  have hxa : al_le xs α1 := H.1.trans hle
  obtain ⟨g1, -, g3, g4, -⟩ := as_fx Hr
  have g0 : (805 ≤ nv α1 0 ∧ nv α1 0 ≤ 805) ∧ (0 ≤ nv α1 1 ∧ nv α1 1 ≤ 11) ∧ ((-1) ≤ nv α1 2 ∧ nv α1 2 ≤ 11) ∧ ((-1) ≤ nv α1 3 ∧ nv α1 3 ≤ 11) ∧ True := by
    refine ⟨by have h := (en_nv (i := 0) Hr.2.1 rfl).2; exact h, by have h := (en_nv (i := 1) Hr.2.1 rfl).2; exact h, by have h := (en_nv (i := 2) Hr.2.1 rfl).2; exact h, by have h := (en_nv (i := 3) Hr.2.1 rfl).2; exact h, trivial⟩
  have r0 : nv α1 0 = nv α 0 := nv_le hle (by omega)
  have r1 : nv α1 1 = nv α 1 := nv_le hle (by omega)
  have r2 : nv α1 2 = nv α 2 := nv_le hle (by omega)
  have r3 : nv α1 3 = nv α 3 := nv_le hle (by omega)
  refine hd_segM G (na := 4) (fuel := 600) (first := true) (Bs := [kh_nextTo_b5_0, kh_nextTo_b5_1, kh_nextTo_b5_2, kh_nextTo_b5_3, kh_nextTo_b5_4, kh_nextTo_b5_5]) (by decide +kernel) hl1 Hr ?_
  intro q hq β lv' st' S' H1
  simp only [List.mem_cons, List.not_mem_nil, or_false] at hq
  rcases hq with rfl | rfl | rfl | rfl | rfl | rfl
  · obtain ⟨f1, f2, f3, f4, f5⟩ := as_fx H1
    simp only [kh_nextTo_b5_0, fx_env, fx_c, fx_ne, fx_hf, wl_S, Nat.zero_add, Nat.reduceAdd, Nat.reduceDiv, Nat.reduceMod, List.getElem?_cons_zero, List.getElem?_cons_succ, if_true, and_true, true_and] at f1 f2 f3 f4 f5
    have fe0 : nv β 0 = 805 := by omega
    have fe3 : nv β 3 = (-1) := by omega
    try simp only [fe0, fe3, Int.reduceToNat] at f2 f3 f4 f5
    have s0 : nv β 0 = nv α1 0 := nv_le H1.1 (by omega)
    have s1 : nv β 1 = nv α1 1 := nv_le H1.1 (by omega)
    have s2 : nv β 2 = nv α1 2 := nv_le H1.1 (by omega)
    have s3 : nv β 3 = nv α1 3 := nv_le H1.1 (by omega)
    have eS : S1 = S := fr_same (show fr_in [] S S1 from hf)
    refine hd_retI G (v := 2) (by decide +kernel) (as_backM H1 (by decide +kernel) hxa hf) _ List.mem_cons_self rfl (by decide +kernel) (by decide) (fun w hw => ?_)
    rcases List.mem_singleton.mp hw with rfl
    have g1' := (en_nv (i := 1) H0.2.1 rfl).1
    refine ⟨_, _, g1', g1', ?_⟩
    rw [wd_fl2, if_neg (by decide)]
    show (∃ y : Nat, y < 12 ∧ ngh S (nv xs 1) y) → 0 ≤ nv β 2 ∧ nv β 2 ≤ 11 ∧ (S.1 814 (nv β 2).toNat).toInt + 1 = (S.1 814 (nv xs 1).toNat).toInt
    have z1 : nv α 1 = nv xs 1 := nv_le H.1 (by omega)
    rw [s2, r2, ← z1, ← eS]
    rintro ⟨y, y1, y2⟩
    rcases hp with ⟨h1, h2⟩ | h1
    · exact absurd y2 (h2 y (by omega) y1)
    · exact h1
  · have hst := st_nil H1 rfl
    subst hst
    obtain ⟨f1, f2, f3, f4, f5⟩ := as_fx H1
    simp only [kh_nextTo_b5_1, fx_env, fx_c, fx_ne, fx_hf, wl_S, Nat.zero_add, Nat.reduceAdd, Nat.reduceDiv, Nat.reduceMod, List.getElem?_cons_zero, List.getElem?_cons_succ, if_true, and_true, true_and] at f1 f2 f3 f4 f5
    have fe0 : nv β 0 = 805 := by omega
    have fe4 : nv β 4 = (-1) := by omega
    have fe5 : nv β 5 = (-1) := by omega
    try simp only [fe0, fe4, fe5, Int.reduceToNat] at f2 f3 f4 f5
    have s0 : nv β 0 = nv α1 0 := nv_le H1.1 (by omega)
    have s1 : nv β 1 = nv α1 1 := nv_le H1.1 (by omega)
    have s2 : nv β 2 = nv α1 2 := nv_le H1.1 (by omega)
    have s3 : nv β 3 = nv α1 3 := nv_le H1.1 (by omega)
    obtain ⟨c0, c1⟩ := f2
    obtain ⟨α', Ha, hm⟩ := hd_gpM (q := kh_nextTo_a5) (n := 0) (by decide +kernel) hx H1 (by decide +kernel) hxa hf
    have hfr := H1.2.2.2.2.2.2.2.2.2.2.1
    have m0 : nv α' 0 = nv β 0 := hm 0 0 rfl
    have m1 : nv α' 1 = nv β 1 := hm 1 1 rfl
    have m2 : nv α' 2 = nv β 2 := hm 2 2 rfl
    have m3 : nv α' 3 = nv β 6 := hm 3 6 rfl
    subst S'
    have d1 := fl2_b (by decide) c1
    simp only [wd_fl1, if_neg (show ¬ (wd_base 17 = true) by decide)] at d1
    have hno : ¬ ngh S1 (nv β 1) (nv β 3).toNat := by
      rintro ⟨t, t1, t2, t3, t4, t5⟩
      rcases d1 with ⟨-, g⟩ | ⟨g, -⟩
      · exact g t t1 (by rw [show (((nv β 3).toNat : Nat) : Int) = nv β 3 by omega] at t3; exact t3)
      · omega
    refine ih.1 _ _ _ Ha ?_ ?_
    · rw [m1, m2, m3, s2, r2]
      rw [← r1, ← s1] at hp
      rcases hp with ⟨g1, g2⟩ | g
      · refine Or.inl ⟨g1, fun y hy hy2 => ?_⟩
        by_cases e : y = (nv β 3).toNat
        · rw [e]; exact hno
        · exact g2 y (by omega) hy2
      · exact Or.inr g
    · omega
  · have hst := st_nil H1 rfl
    subst hst
    obtain ⟨f1, f2, f3, f4, f5⟩ := as_fx H1
    simp only [kh_nextTo_b5_2, fx_env, fx_c, fx_ne, fx_hf, wl_S, Nat.zero_add, Nat.reduceAdd, Nat.reduceDiv, Nat.reduceMod, List.getElem?_cons_zero, List.getElem?_cons_succ, if_true, and_true, true_and] at f1 f2 f3 f4 f5
    have fe0 : nv β 0 = 805 := by omega
    have fe5 : nv β 5 = (-1) := by omega
    have fe6 : nv β 6 = 1 := by omega
    try simp only [fe0, fe5, fe6, Int.reduceToNat] at f2 f3 f4 f5
    have s0 : nv β 0 = nv α1 0 := nv_le H1.1 (by omega)
    have s1 : nv β 1 = nv α1 1 := nv_le H1.1 (by omega)
    have s2 : nv β 2 = nv α1 2 := nv_le H1.1 (by omega)
    have s3 : nv β 3 = nv α1 3 := nv_le H1.1 (by omega)
    obtain ⟨c0, c1, c2⟩ := f2
    obtain ⟨α', Ha, hm⟩ := hd_gpM (q := kh_nextTo_a5) (n := 0) (by decide +kernel) hx H1 (by decide +kernel) hxa hf
    have hfr := H1.2.2.2.2.2.2.2.2.2.2.1
    have m0 : nv α' 0 = nv β 0 := hm 0 0 rfl
    have m1 : nv α' 1 = nv β 1 := hm 1 1 rfl
    have m2 : nv α' 2 = nv β 2 := hm 2 2 rfl
    have m3 : nv α' 3 = nv β 7 := hm 3 7 rfl
    subst S'
    have d0 := fl2_b (by decide) c0
    simp only [wd_fl1, if_neg (show ¬ (wd_base 1015 = true) by decide)] at d0
    have d2 := fl2_b (by decide) c2
    simp only [wd_fl1, if_neg (show ¬ (wd_base 17 = true) by decide)] at d2
    have hno : ¬ ngh S1 (nv β 1) (nv β 3).toNat := by
      rintro ⟨t, t1, t2, t3, t4, t5⟩
      rcases d2 with ⟨g, -⟩ | ⟨g1, g2, g3⟩
      · omega
      rw [show (((nv β 3).toNat : Nat) : Int) = nv β 3 by omega] at t3
      have et := jn_uniq t1 (by omega) t3 g3
      exact t2 (by rw [et, Int.toNat_of_nonneg g1]; exact b2i_1 (d0.symm.trans (by omega)))
    refine ih.1 _ _ _ Ha ?_ ?_
    · rw [m1, m2, m3, s2, r2]
      rw [← r1, ← s1] at hp
      rcases hp with ⟨g1, g2⟩ | g
      · refine Or.inl ⟨g1, fun y hy hy2 => ?_⟩
        by_cases e : y = (nv β 3).toNat
        · rw [e]; exact hno
        · exact g2 y (by omega) hy2
      · exact Or.inr g
    · omega
  · have hst := st_nil H1 rfl
    subst hst
    obtain ⟨f1, f2, f3, f4, f5⟩ := as_fx H1
    simp only [kh_nextTo_b5_3, fx_env, fx_c, fx_ne, fx_hf, wl_S, Nat.zero_add, Nat.reduceAdd, Nat.reduceDiv, Nat.reduceMod, List.getElem?_cons_zero, List.getElem?_cons_succ, if_true, and_true, true_and] at f1 f2 f3 f4 f5
    have fe0 : nv β 0 = 805 := by omega
    have fe5 : nv β 5 = (-1) := by omega
    have fe6 : nv β 6 = 0 := by omega
    have fe7 : nv β 7 = 814 := by omega
    have fe9 : nv β 9 = 814 := by omega
    have fe11 : nv β 11 = 1 := by omega
    try simp only [fe0, fe5, fe6, fe7, fe9, fe11, Int.reduceToNat] at f2 f3 f4 f5
    have s0 : nv β 0 = nv α1 0 := nv_le H1.1 (by omega)
    have s1 : nv β 1 = nv α1 1 := nv_le H1.1 (by omega)
    have s2 : nv β 2 = nv α1 2 := nv_le H1.1 (by omega)
    have s3 : nv β 3 = nv α1 3 := nv_le H1.1 (by omega)
    obtain ⟨c0, c1, c2, c3, c4, c5, c6⟩ := f2
    obtain ⟨α', Ha, hm⟩ := hd_gpM (q := kh_nextTo_a5) (n := 0) (by decide +kernel) hx H1 (by decide +kernel) hxa hf
    have hfr := H1.2.2.2.2.2.2.2.2.2.2.1
    have m0 : nv α' 0 = nv β 0 := hm 0 0 rfl
    have m1 : nv α' 1 = nv β 1 := hm 1 1 rfl
    have m2 : nv α' 2 = nv β 2 := hm 2 2 rfl
    have m3 : nv α' 3 = nv β 13 := hm 3 13 rfl
    subst S'
    have o2 := old_0 c2 rfl
    have o3 := old_0 c3 rfl
    have d4 := fl2_b (by decide) c4
    simp only [wd_fl1, if_neg (show ¬ (wd_base 1015 = true) by decide)] at d4
    have d6 := fl2_b (by decide) c6
    simp only [wd_fl1, if_neg (show ¬ (wd_base 17 = true) by decide)] at d6
    have hno : ¬ ngh S1 (nv β 1) (nv β 3).toNat := by
      rintro ⟨t, t1, t2, t3, t4, t5⟩
      rcases d6 with ⟨g, -⟩ | ⟨g1, g2, g3⟩
      · omega
      rw [show (((nv β 3).toNat : Nat) : Int) = nv β 3 by omega] at t3
      have et := jn_uniq t1 (by omega) t3 g3
      omega
    refine ih.1 _ _ _ Ha ?_ ?_
    · rw [m1, m2, m3, s2, r2]
      rw [← r1, ← s1] at hp
      rcases hp with ⟨g1, g2⟩ | g
      · refine Or.inl ⟨g1, fun y hy hy2 => ?_⟩
        by_cases e : y = (nv β 3).toNat
        · rw [e]; exact hno
        · exact g2 y (by omega) hy2
      · exact Or.inr g
    · omega
  · have hst := st_nil H1 rfl
    subst hst
    obtain ⟨f1, f2, f3, f4, f5⟩ := as_fx H1
    simp only [kh_nextTo_b5_4, fx_env, fx_c, fx_ne, fx_hf, wl_S, Nat.zero_add, Nat.reduceAdd, Nat.reduceDiv, Nat.reduceMod, List.getElem?_cons_zero, List.getElem?_cons_succ, if_true, and_true, true_and] at f1 f2 f3 f4 f5
    have fe0 : nv β 0 = 805 := by omega
    have fe5 : nv β 5 = (-1) := by omega
    have fe6 : nv β 6 = 0 := by omega
    have fe7 : nv β 7 = 814 := by omega
    have fe8 : nv β 8 = (-1) := by omega
    have fe9 : nv β 9 = 814 := by omega
    have fe11 : nv β 11 = 1 := by omega
    have fe13 : nv β 13 = 814 := by omega
    have fe14 : nv β 14 = (-1) := by omega
    try simp only [fe0, fe5, fe6, fe7, fe8, fe9, fe11, fe13, fe14, Int.reduceToNat] at f2 f3 f4 f5
    have s0 : nv β 0 = nv α1 0 := nv_le H1.1 (by omega)
    have s1 : nv β 1 = nv α1 1 := nv_le H1.1 (by omega)
    have s2 : nv β 2 = nv α1 2 := nv_le H1.1 (by omega)
    have s3 : nv β 3 = nv α1 3 := nv_le H1.1 (by omega)
    obtain ⟨c0, c1, c2, c3, c4, c5, c6, c7⟩ := f2
    obtain ⟨α', Ha, hm⟩ := hd_gpM (q := kh_nextTo_a5) (n := 0) (by decide +kernel) hx H1 (by decide +kernel) hxa hf
    have hfr := H1.2.2.2.2.2.2.2.2.2.2.1
    have m0 : nv α' 0 = nv β 0 := hm 0 0 rfl
    have m1 : nv α' 1 = nv β 1 := hm 1 1 rfl
    have m2 : nv α' 2 = nv β 2 := hm 2 2 rfl
    have m3 : nv α' 3 = nv β 15 := hm 3 15 rfl
    subst S'
    have o3 := old_0 c3 rfl
    have o4 := old_0 c4 rfl
    have d5 := fl2_b (by decide) c5
    simp only [wd_fl1, if_neg (show ¬ (wd_base 1015 = true) by decide)] at d5
    have d7 := fl2_b (by decide) c7
    simp only [wd_fl1, if_neg (show ¬ (wd_base 17 = true) by decide)] at d7
    have hno : ¬ ngh S1 (nv β 1) (nv β 3).toNat := by
      rintro ⟨t, t1, t2, t3, t4, t5⟩
      rcases d7 with ⟨g, -⟩ | ⟨g1, g2, g3⟩
      · omega
      rw [show (((nv β 3).toNat : Nat) : Int) = nv β 3 by omega] at t3
      have et := jn_uniq t1 (by omega) t3 g3
      omega
    refine ih.1 _ _ _ Ha ?_ ?_
    · rw [m1, m2, m3, s2, r2]
      rw [← r1, ← s1] at hp
      rcases hp with ⟨g1, g2⟩ | g
      · refine Or.inl ⟨g1, fun y hy hy2 => ?_⟩
        by_cases e : y = (nv β 3).toNat
        · rw [e]; exact hno
        · exact g2 y (by omega) hy2
      · exact Or.inr g
    · omega
  · have hst := st_nil H1 rfl
    subst hst
    obtain ⟨f1, f2, f3, f4, f5⟩ := as_fx H1
    simp only [kh_nextTo_b5_5, fx_env, fx_c, fx_ne, fx_hf, wl_S, Nat.zero_add, Nat.reduceAdd, Nat.reduceDiv, Nat.reduceMod, List.getElem?_cons_zero, List.getElem?_cons_succ, if_true, and_true, true_and] at f1 f2 f3 f4 f5
    have fe0 : nv β 0 = 805 := by omega
    have fe5 : nv β 5 = (-1) := by omega
    have fe6 : nv β 6 = 0 := by omega
    have fe7 : nv β 7 = 814 := by omega
    have fe9 : nv β 9 = 814 := by omega
    have fe11 : nv β 11 = 1 := by omega
    have fe13 : nv β 13 = 814 := by omega
    have fe14 : nv β 14 = (-1) := by omega
    try simp only [fe0, fe5, fe6, fe7, fe9, fe11, fe13, fe14, Int.reduceToNat] at f2 f3 f4 f5
    have s0 : nv β 0 = nv α1 0 := nv_le H1.1 (by omega)
    have s1 : nv β 1 = nv α1 1 := nv_le H1.1 (by omega)
    have s2 : nv β 2 = nv α1 2 := nv_le H1.1 (by omega)
    have s3 : nv β 3 = nv α1 3 := nv_le H1.1 (by omega)
    obtain ⟨c0, c1, c2, c3, c4, c5, c6, c7⟩ := f2
    obtain ⟨α', Ha, hm⟩ := hd_gpM (q := kh_nextTo_a5) (n := 0) (by decide +kernel) hx H1 (by decide +kernel) hxa hf
    have hfr := H1.2.2.2.2.2.2.2.2.2.2.1
    have m0 : nv α' 0 = nv β 0 := hm 0 0 rfl
    have m1 : nv α' 1 = nv β 1 := hm 1 1 rfl
    have m2 : nv α' 2 = nv β 3 := hm 2 3 rfl
    have m3 : nv α' 3 = nv β 15 := hm 3 15 rfl
    subst S'
    have o3 := old_0 c3 rfl
    have o4 := old_0 c4 rfl
    have d5 := fl2_b (by decide) c5
    simp only [wd_fl1, if_neg (show ¬ (wd_base 1015 = true) by decide)] at d5
    have d7 := fl2_b (by decide) c7
    simp only [wd_fl1, if_neg (show ¬ (wd_base 17 = true) by decide)] at d7
    refine ih.1 _ _ _ Ha ?_ ?_
    · rw [m1, m2, m3]
      exact Or.inr ⟨by omega, by omega, by omega⟩
    · omega
set_option maxHeartbeats 16000000 in
set_option maxRecDepth 8000 in
theorem kh_nextTo_ok : ct_ok wd_fl2 kh_nextTo := ct_hand (ff := wd_ff2) (y := kh_nextTo_y) (Cs := [kh_streetBetween, kh_isClosed]) wd_fl2_ok rfl (List.forall_mem_cons.mpr ⟨kh_streetBetween_l2, (List.forall_mem_cons.mpr ⟨kh_isClosed_l2, (List.forall_mem_nil _)⟩)⟩) (by decide +kernel) (fun l D tc ad kd N sm xs S p e s m args below meth c sz lv G H0 => by
  have hx : xs.length = 2 := by rw [H0.2.1.1]; rfl
  have hP : ∀ (k : Nat), kh_nextTo_I l D tc ad kd N sm xs S p e s m args below meth c sz k := by
    intro k
    induction k with
    | zero => exact ⟨fun _ _ _ _ _ h => absurd h (Nat.not_lt_zero _), trivial⟩
    | succ k ih => exact ⟨kh_nextTo_h5 G H0 ih, trivial⟩
  obtain ⟨α1, hle, Hr⟩ := as_recM (pl := []) [] (by decide +kernel) H0
  have hf := H0.2.2.2.2.2.2.2.2.2.2.1
  have hl1 : α1.length = 2 := by rw [Hr.2.1.1]; rfl
  have hl0 : xs.length = 2 := by rw [H0.2.1.1]; rfl
  have hxa : al_le xs α1 := H0.1.trans hle
  obtain ⟨g1, -, g3, g4, -⟩ := as_fx Hr
  have g0 : (805 ≤ nv α1 0 ∧ nv α1 0 ≤ 805) ∧ (0 ≤ nv α1 1 ∧ nv α1 1 ≤ 11) ∧ True := by
    refine ⟨by have h := (en_nv (i := 0) Hr.2.1 rfl).2; exact h, by have h := (en_nv (i := 1) Hr.2.1 rfl).2; exact h, trivial⟩
  have r0 : nv α1 0 = nv xs 0 := nv_le hle (by omega)
  have r1 : nv α1 1 = nv xs 1 := nv_le hle (by omega)
  refine hd_segM G (na := 2) (fuel := 600) (first := true) (Bs := [kh_nextTo_b0_0]) (by decide +kernel) hl1 Hr ?_
  intro q hq β lv' st' S' H1
  simp only [List.mem_cons, List.not_mem_nil, or_false] at hq
  rcases hq with rfl
  · have hst := st_nil H1 rfl
    subst hst
    obtain ⟨f1, f2, f3, f4, f5⟩ := as_fx H1
    simp only [kh_nextTo_b0_0, fx_env, fx_c, fx_ne, fx_hf, wl_S, Nat.zero_add, Nat.reduceAdd, Nat.reduceDiv, Nat.reduceMod, List.getElem?_cons_zero, List.getElem?_cons_succ, if_true, and_true, true_and] at f1 f2 f3 f4 f5
    have fe0 : nv β 0 = 805 := by omega
    have fe2 : nv β 2 = (-1) := by omega
    have fe3 : nv β 3 = 11 := by omega
    try simp only [fe0, fe2, fe3, Int.reduceToNat] at f2 f3 f4 f5
    have s0 : nv β 0 = nv α1 0 := nv_le H1.1 (by omega)
    have s1 : nv β 1 = nv α1 1 := nv_le H1.1 (by omega)
    obtain ⟨α', Ha, hm⟩ := hd_gpM (q := kh_nextTo_a5) (n := 0) (by decide +kernel) hx H1 (by decide +kernel) hxa hf
    have hfr := H1.2.2.2.2.2.2.2.2.2.2.1
    have m0 : nv α' 0 = nv β 0 := hm 0 0 rfl
    have m1 : nv α' 1 = nv β 1 := hm 1 1 rfl
    have m2 : nv α' 2 = nv β 2 := hm 2 2 rfl
    have m3 : nv α' 3 = nv β 3 := hm 3 3 rfl
    subst S'
    refine (hP _).1 _ _ _ Ha ?_ (Nat.lt_succ_self _)
    · exact Or.inl ⟨by omega, fun y hy hy2 => by rw [m3] at hy; omega⟩)
abbrev kh_wayLength_y : mt_T := (⟨"UtilityWorksModel", "wayLength", "(II)I"⟩, prog_14_method_70_code, 3, some .int, 12, 1, 2, 33148, 33147, 7009, 21014)
def kh_wayLength : ct_T := (403, [(2, 805, 805, 0), (0, 0, 11, 1), (0, 0, 11, 1)], [], [], [(1, (0, (-1), 12, 1), [(2, 805, 805, 0), (0, 0, 11, 1), (0, 0, 11, 1)], [], ([], []))], [((814, 814), (0, 11, 1))], 3, 67, 0)
def kh_wayLength_a2 : an_T := (2, 0, ([((2, 805, 805, 0), none), ((0, 0, 11, 1), none), ((0, 0, 11, 1), none)], [(0, 0), (1, 1), (2, 2)], [2, 0], [], [], [], [], [], none), [])
def kh_wayLength_a5 : an_T := (5, 0, ([((2, 805, 805, 0), none), ((0, 0, 11, 1), none), ((0, 0, 11, 1), none)], [(0, 0), (1, 1), (2, 2)], [], [], [], [], [], [], none), [])
def kh_wayLength_b0_0 : sg_T := (2, 0, ([((2, 805, 805, 0), none), ((0, 0, 11, 1), none), ((0, 0, 11, 1), none)], [(0, 0), (1, 1), (2, 2)], [2, 0], [], [], [], [], [], some []))
def kh_wayLength_b2_0 : sg_T := (5, 0, ([((2, 805, 805, 0), none), ((0, 0, 11, 1), none), ((0, 0, 11, 1), none)], [(0, 0), (1, 1), (2, 2)], [], [], [], [], [], [], none))
def kh_wayLength_b5_0 : sg_T := (11, 0, ([((2, 805, 805, 0), none), ((0, 0, 11, 1), none), ((0, 0, 11, 1), none), ((2, 814, 814, 1), none), ((0, (-1), 12, 1), none)], [(0, 0), (1, 1), (2, 2)], [4], [(3, 1, 4)], [], [(800004, 3, 1)], [], [], some []))
def kh_wayLength_I (l : Launch) (D : va_G) (tc : Nat → ClassId) (ad : Nat → Nat) (kd : Nat → Nat × Nat) (N : Nat) (sm : Nat → Nat) (xs : List av_X) (S : fw_S) (p : Program) (e : Env) (s : State) (m : MethodId) (args : Array Value) (below : List Frame) (meth : Method) (c : Code) (sz : Nat) (k : Nat) : Prop := (∀ (α : List av_X) (lv : List (Nat × Value)) (st : List Value) (S1 : fw_S), as_in ad sm wd_fl2 xs S kh_wayLength.2.2.2.2.2.1 α kh_wayLength_a2.2.2.1 lv st S1 → (S1 = S) → 10 < k → hd_WR R_wayLength wd_fl2 kh_wayLength kh_wayLength_y l D tc ad kd N sm xs S p e s m args below meth c sz 2 lv st S1 0) ∧ (∀ (α : List av_X) (lv : List (Nat × Value)) (st : List Value) (S1 : fw_S), as_in ad sm wd_fl2 xs S kh_wayLength.2.2.2.2.2.1 α kh_wayLength_a5.2.2.1 lv st S1 → ((∀ x : Nat, x < 12 → (S1.1 814 x).toInt = fI S (nv xs 2) 204 x)) → 5 < k → hd_WR R_wayLength wd_fl2 kh_wayLength kh_wayLength_y l D tc ad kd N sm xs S p e s m args below meth c sz 5 lv st S1 0) ∧ True
set_option maxHeartbeats 16000000 in
set_option maxRecDepth 8000 in
theorem kh_wayLength_h2 {l : Launch} {D : va_G} {tc : Nat → ClassId} {ad : Nat → Nat} {kd : Nat → Nat × Nat} {N : Nat} {sm : Nat → Nat} {xs : List av_X} {S : fw_S} {p : Program} {e : Env} {s : State} {m : MethodId} {args : Array Value} {below : List Frame} {meth : Method} {c : Code} {sz : Nat} {lvE : List (Nat × Value)} (G : hd_C wd_ff2 wd_fl2 kh_wayLength [kh_farFrom] kh_wayLength_y l D tc ad kd N sm xs p s m args meth c sz) (H0 : as_in ad sm wd_fl2 xs S kh_wayLength.2.2.2.2.2.1 xs (hd_0 kh_wayLength) lvE [] S) {k : Nat} (ih : kh_wayLength_I l D tc ad kd N sm xs S p e s m args below meth c sz k) : (∀ (α : List av_X) (lv : List (Nat × Value)) (st : List Value) (S1 : fw_S), as_in ad sm wd_fl2 xs S kh_wayLength.2.2.2.2.2.1 α kh_wayLength_a2.2.2.1 lv st S1 → (S1 = S) → 10 < k + 1 → hd_WR R_wayLength wd_fl2 kh_wayLength kh_wayLength_y l D tc ad kd N sm xs S p e s m args below meth c sz 2 lv st S1 0) := by
  have hx : xs.length = 3 := by rw [H0.2.1.1]; rfl
  intro α lv st S1 H hp hk
  obtain ⟨α1, hle, Hr⟩ := as_recM (pl := []) [((814, 814), (0, 11, 1))] (by decide +kernel) H
  have hf := H.2.2.2.2.2.2.2.2.2.2.1
  have hl1 : α1.length = 3 := by rw [Hr.2.1.1]; rfl
  have hl0 : α.length = 3 := by rw [H.2.1.1]; rfl
  have hxa : al_le xs α1 := H.1.trans hle
  obtain ⟨g1, -, g3, g4, -⟩ := as_fx Hr
  have g0 : (805 ≤ nv α1 0 ∧ nv α1 0 ≤ 805) ∧ (0 ≤ nv α1 1 ∧ nv α1 1 ≤ 11) ∧ (0 ≤ nv α1 2 ∧ nv α1 2 ≤ 11) ∧ True := by
    refine ⟨by have h := (en_nv (i := 0) Hr.2.1 rfl).2; exact h, by have h := (en_nv (i := 1) Hr.2.1 rfl).2; exact h, by have h := (en_nv (i := 2) Hr.2.1 rfl).2; exact h, trivial⟩
  have r0 : nv α1 0 = nv α 0 := nv_le hle (by omega)
  have r1 : nv α1 1 = nv α 1 := nv_le hle (by omega)
  have r2 : nv α1 2 = nv α 2 := nv_le hle (by omega)
  refine hd_callRR (Rr := R_farFrom) (Rs := [kh_farFrom]) (idx := 392) G (List.forall_mem_cons.mpr ⟨kh_farFrom_lR, List.forall_mem_nil _⟩) (na := 3) (Bs := [kh_wayLength_b2_0]) (by decide +kernel) (by decide +kernel) hl1 Hr ?_
  intro q hq β lv' st' S' H1 hRx
  simp only [List.mem_cons, List.not_mem_nil, or_false] at hq
  rcases hq with rfl
  · obtain ⟨f1, f2, f3, f4, f5⟩ := as_fx H1
    simp only [kh_wayLength_b2_0, fx_env, fx_c, fx_ne, fx_hf, wl_S, Nat.zero_add, Nat.reduceAdd, Nat.reduceDiv, Nat.reduceMod, List.getElem?_cons_zero, List.getElem?_cons_succ, if_true, and_true, true_and] at f1 f2 f3 f4 f5
    have fe0 : nv β 0 = 805 := by omega
    try simp only [fe0, Int.reduceToNat] at f2 f3 f4 f5
    have s0 : nv β 0 = nv α1 0 := nv_le H1.1 (by omega)
    have s1 : nv β 1 = nv α1 1 := nv_le H1.1 (by omega)
    have s2 : nv β 2 = nv α1 2 := nv_le H1.1 (by omega)
    obtain ⟨α', Ha, hm⟩ := hd_gpM (q := kh_wayLength_a5) (n := 0) (by decide +kernel) hx H1 (by decide +kernel) hxa hf
    have hfr := H1.2.2.2.2.2.2.2.2.2.2.1
    have m0 : nv α' 0 = nv β 0 := hm 0 0 rfl
    have m1 : nv α' 1 = nv β 1 := hm 1 1 rfl
    have m2 : nv α' 2 = nv β 2 := hm 2 2 rfl
    obtain ⟨Cc, hCc, ys, rr, hnm, hR, -⟩ := hRx
    rcases List.mem_singleton.mp hCc with rfl
    have y1 : nv ys 1 = nv α1 2 := nm_nv hnm (i := 1) (v := 2) rfl
    have z2 : nv α 2 = nv xs 2 := nv_le H.1 (by omega)
    have e6 : S1 = S := hp
    obtain ⟨R1, R2⟩ := hR
    rw [y1, r2, z2, e6] at R1
    refine ih.2.1 _ _ _ _ Ha ?_ ?_
    · exact R1
    · omega
set_option maxHeartbeats 16000000 in
set_option maxRecDepth 8000 in
theorem kh_wayLength_h5 {l : Launch} {D : va_G} {tc : Nat → ClassId} {ad : Nat → Nat} {kd : Nat → Nat × Nat} {N : Nat} {sm : Nat → Nat} {xs : List av_X} {S : fw_S} {p : Program} {e : Env} {s : State} {m : MethodId} {args : Array Value} {below : List Frame} {meth : Method} {c : Code} {sz : Nat} {lvE : List (Nat × Value)} (G : hd_C wd_ff2 wd_fl2 kh_wayLength [kh_farFrom] kh_wayLength_y l D tc ad kd N sm xs p s m args meth c sz) (H0 : as_in ad sm wd_fl2 xs S kh_wayLength.2.2.2.2.2.1 xs (hd_0 kh_wayLength) lvE [] S) {k : Nat} (ih : kh_wayLength_I l D tc ad kd N sm xs S p e s m args below meth c sz k) : (∀ (α : List av_X) (lv : List (Nat × Value)) (st : List Value) (S1 : fw_S), as_in ad sm wd_fl2 xs S kh_wayLength.2.2.2.2.2.1 α kh_wayLength_a5.2.2.1 lv st S1 → ((∀ x : Nat, x < 12 → (S1.1 814 x).toInt = fI S (nv xs 2) 204 x)) → 5 < k + 1 → hd_WR R_wayLength wd_fl2 kh_wayLength kh_wayLength_y l D tc ad kd N sm xs S p e s m args below meth c sz 5 lv st S1 0) := by
  have hx : xs.length = 3 := by rw [H0.2.1.1]; rfl
  intro α lv st S1 H hp hk
  obtain ⟨α1, hle, Hr⟩ := as_recM (pl := []) [] (by decide +kernel) H
  have hf := H.2.2.2.2.2.2.2.2.2.2.1
  have hl1 : α1.length = 3 := by rw [Hr.2.1.1]; rfl
  have hl0 : α.length = 3 := by rw [H.2.1.1]; rfl
  have hxa : al_le xs α1 := H.1.trans hle
  obtain ⟨g1, -, g3, g4, -⟩ := as_fx Hr
  have g0 : (805 ≤ nv α1 0 ∧ nv α1 0 ≤ 805) ∧ (0 ≤ nv α1 1 ∧ nv α1 1 ≤ 11) ∧ (0 ≤ nv α1 2 ∧ nv α1 2 ≤ 11) ∧ True := by
    refine ⟨by have h := (en_nv (i := 0) Hr.2.1 rfl).2; exact h, by have h := (en_nv (i := 1) Hr.2.1 rfl).2; exact h, by have h := (en_nv (i := 2) Hr.2.1 rfl).2; exact h, trivial⟩
  have r0 : nv α1 0 = nv α 0 := nv_le hle (by omega)
  have r1 : nv α1 1 = nv α 1 := nv_le hle (by omega)
  have r2 : nv α1 2 = nv α 2 := nv_le hle (by omega)
  refine hd_segMR G (na := 3) (fuel := 600) (first := true) (Bs := [kh_wayLength_b5_0]) (by decide +kernel) hl1 Hr ?_
  intro q hq β lv' st' S' H1
  simp only [List.mem_cons, List.not_mem_nil, or_false] at hq
  rcases hq with rfl
  · obtain ⟨f1, f2, f3, f4, f5⟩ := as_fx H1
    simp only [kh_wayLength_b5_0, fx_env, fx_c, fx_ne, fx_hf, wl_S, Nat.zero_add, Nat.reduceAdd, Nat.reduceDiv, Nat.reduceMod, List.getElem?_cons_zero, List.getElem?_cons_succ, if_true, and_true, true_and] at f1 f2 f3 f4 f5
    have fe0 : nv β 0 = 805 := by omega
    have fe3 : nv β 3 = 814 := by omega
    try simp only [fe0, fe3, Int.reduceToNat] at f2 f3 f4 f5
    have s0 : nv β 0 = nv α1 0 := nv_le H1.1 (by omega)
    have s1 : nv β 1 = nv α1 1 := nv_le H1.1 (by omega)
    have s2 : nv β 2 = nv α1 2 := nv_le H1.1 (by omega)
    have c0 := f2
    have o0 := old_0 c0 rfl
    have z1 : nv α 1 = nv xs 1 := nv_le H.1 (by omega)
    have h5 := hp (nv β 1).toNat (by omega)
    rw [o0, show nv β 1 = nv xs 1 by omega] at h5
    exact hd_retIR G (v := 4) (by decide +kernel) (as_backM H1 (by decide +kernel) hxa hf) _ List.mem_cons_self rfl (by decide +kernel) (by decide) (fun w hw => by cases hw) (fun x hx => ⟨⟨x, rfl, hx.trans h5⟩, by rw [f5]; exact fr_row hf 806 (by decide +kernel)⟩)
set_option maxHeartbeats 16000000 in
set_option maxRecDepth 8000 in
theorem kh_wayLength_okR : ct_okR wd_fl2 kh_wayLength R_wayLength := ct_handR (R := R_wayLength) (ff := wd_ff2) (y := kh_wayLength_y) (Cs := [kh_farFrom]) wd_fl2_ok rfl (List.forall_mem_cons.mpr ⟨kh_farFrom_l2, (List.forall_mem_nil _)⟩) (by decide +kernel) (fun l D tc ad kd N sm xs S p e s m args below meth c sz lv G H0 => by
  have hx : xs.length = 3 := by rw [H0.2.1.1]; rfl
  have hP : ∀ (k : Nat), kh_wayLength_I l D tc ad kd N sm xs S p e s m args below meth c sz k := by
    intro k
    induction k with
    | zero => exact ⟨fun _ _ _ _ _ _ h => absurd h (Nat.not_lt_zero _), fun _ _ _ _ _ _ h => absurd h (Nat.not_lt_zero _), trivial⟩
    | succ k ih => exact ⟨kh_wayLength_h2 G H0 ih, kh_wayLength_h5 G H0 ih, trivial⟩
  obtain ⟨α1, hle, Hr⟩ := as_recM (pl := []) [] (by decide +kernel) H0
  have hf := H0.2.2.2.2.2.2.2.2.2.2.1
  have hl1 : α1.length = 3 := by rw [Hr.2.1.1]; rfl
  have hl0 : xs.length = 3 := by rw [H0.2.1.1]; rfl
  have hxa : al_le xs α1 := H0.1.trans hle
  obtain ⟨g1, -, g3, g4, -⟩ := as_fx Hr
  have g0 : (805 ≤ nv α1 0 ∧ nv α1 0 ≤ 805) ∧ (0 ≤ nv α1 1 ∧ nv α1 1 ≤ 11) ∧ (0 ≤ nv α1 2 ∧ nv α1 2 ≤ 11) ∧ True := by
    refine ⟨by have h := (en_nv (i := 0) Hr.2.1 rfl).2; exact h, by have h := (en_nv (i := 1) Hr.2.1 rfl).2; exact h, by have h := (en_nv (i := 2) Hr.2.1 rfl).2; exact h, trivial⟩
  have r0 : nv α1 0 = nv xs 0 := nv_le hle (by omega)
  have r1 : nv α1 1 = nv xs 1 := nv_le hle (by omega)
  have r2 : nv α1 2 = nv xs 2 := nv_le hle (by omega)
  refine hd_segMR G (na := 3) (fuel := 600) (first := true) (Bs := [kh_wayLength_b0_0]) (by decide +kernel) hl1 Hr ?_
  intro q hq β lv' st' S' H1
  simp only [List.mem_cons, List.not_mem_nil, or_false] at hq
  rcases hq with rfl
  · obtain ⟨f1, f2, f3, f4, f5⟩ := as_fx H1
    simp only [kh_wayLength_b0_0, fx_env, fx_c, fx_ne, fx_hf, wl_S, Nat.zero_add, Nat.reduceAdd, Nat.reduceDiv, Nat.reduceMod, List.getElem?_cons_zero, List.getElem?_cons_succ, if_true, and_true, true_and] at f1 f2 f3 f4 f5
    have fe0 : nv β 0 = 805 := by omega
    try simp only [fe0, Int.reduceToNat] at f2 f3 f4 f5
    have s0 : nv β 0 = nv α1 0 := nv_le H1.1 (by omega)
    have s1 : nv β 1 = nv α1 1 := nv_le H1.1 (by omega)
    have s2 : nv β 2 = nv α1 2 := nv_le H1.1 (by omega)
    obtain ⟨α', Ha, hm⟩ := hd_gpM (q := kh_wayLength_a2) (n := 0) (by decide +kernel) hx H1 (by decide +kernel) hxa hf
    have hfr := H1.2.2.2.2.2.2.2.2.2.2.1
    have m0 : nv α' 0 = nv β 0 := hm 0 0 rfl
    have m1 : nv α' 1 = nv β 1 := hm 1 1 rfl
    have m2 : nv α' 2 = nv β 2 := hm 2 2 rfl
    subst S'
    refine (hP _).1 _ _ _ _ Ha ?_ (Nat.lt_succ_self _)
    · rfl)
theorem kh_wayLength_ok : ct_ok wd_fl2 kh_wayLength := ct_okR_ok kh_wayLength_okR
abbrev kh_wayStep_y : mt_T := (⟨"UtilityWorksModel", "wayStep", "(III)I"⟩, prog_14_method_72_code, 6, some .int, 12, 1, 3, 33164, 33163, 7013, 21014)
def kh_wayStep : ct_T := (407, [(2, 805, 805, 0), (0, 0, 11, 1), (0, 0, 11, 1), (0, (-2147483648), 2147483647, 1)], [], [], [(1, (0, (-1), 11, 1), [(2, 805, 805, 0), (0, 0, 11, 1), (0, 0, 11, 1), (0, (-2147483648), 2147483647, 1)], [], ([], []))], [((814, 814), (0, 11, 1))], 4, 87, 0)
def kh_wayStep_a2 : an_T := (2, 0, ([((2, 805, 805, 0), none), ((0, 0, 11, 1), none), ((0, 0, 11, 1), none), ((0, (-2147483648), 2147483647, 1), none)], [(0, 0), (1, 1), (2, 2), (3, 3)], [2, 0], [], [], [], [], [], none), [])
def kh_wayStep_a5 : an_T := (5, 0, ([((2, 805, 805, 0), none), ((0, 0, 11, 1), none), ((0, 0, 11, 1), none), ((0, (-2147483648), 2147483647, 1), none)], [(0, 0), (1, 1), (2, 2), (3, 3)], [], [], [], [], [], [], none), [])
def kh_wayStep_a33 : an_T := (33, 0, ([((2, 805, 805, 0), none), ((0, 0, 11, 1), none), ((0, 0, 11, 1), none), ((0, (-2147483648), 12, 1), none), ((0, (-1), 11, 1), none), ((0, 0, 12, 1), none)], [(0, 0), (1, 1), (2, 2), (3, 3), (4, 4), (5, 5)], [], [], [], [], [], [], none), [])
def kh_wayStep_b0_0 : sg_T := (2, 0, ([((2, 805, 805, 0), none), ((0, 0, 11, 1), none), ((0, 0, 11, 1), none), ((0, (-2147483648), 2147483647, 1), none)], [(0, 0), (1, 1), (2, 2), (3, 3)], [2, 0], [], [], [], [], [], some []))
def kh_wayStep_b2_0 : sg_T := (5, 0, ([((2, 805, 805, 0), none), ((0, 0, 11, 1), none), ((0, 0, 11, 1), none), ((0, (-2147483648), 2147483647, 1), none)], [(0, 0), (1, 1), (2, 2), (3, 3)], [], [], [], [], [], [], none))
def kh_wayStep_b5_0 : sg_T := (26, 0, ([((2, 805, 805, 0), none), ((0, 0, 11, 1), none), ((0, 0, 11, 1), none), ((0, (-2147483648), 2147483647, 1), none), ((2, 814, 814, 1), none), ((0, (-1), (-1), 1), none), ((0, (-1), (-1), 0), none), ((0, (-1), (-1), 0), none)], [(0, 0), (1, 1), (2, 2), (3, 3)], [7], [(4, 1, 5)], [], [(300000, 5, 6), (800005, 4, 1)], [], [], some []))
def kh_wayStep_b5_1 : sg_T := (33, 0, ([((2, 805, 805, 0), none), ((0, 0, 11, 1), none), ((0, 0, 11, 1), none), ((0, (-2147483648), 12, 1), none), ((2, 814, 814, 1), none), ((0, 0, 12, 1), none), ((0, (-1), (-1), 0), none), ((2, 814, 814, 1), none), ((0, 0, 0, 0), none)], [(5, 8), (4, 1), (0, 0), (1, 1), (2, 2), (3, 3)], [], [(4, 1, 5)], [(5, (-1))], [(200000, 3, 5), (400000, 5, 6), (800005, 4, 1)], [], [], some []))
def kh_wayStep_b5_2 : sg_T := (26, 0, ([((2, 805, 805, 0), none), ((0, 0, 11, 1), none), ((0, 0, 11, 1), none), ((0, 1, 2147483647, 1), none), ((2, 814, 814, 1), none), ((0, 0, 12, 1), none), ((0, (-1), (-1), 0), none), ((2, 814, 814, 1), none), ((0, (-1), (-1), 0), none)], [(0, 0), (1, 1), (2, 2), (3, 3)], [8], [(4, 1, 5)], [(5, (-1))], [(100000, 5, 3), (400000, 5, 6), (800005, 4, 1)], [], [], some []))
def kh_wayStep_b33_0 : sg_T := (55, 0, ([((2, 805, 805, 0), none), ((0, 0, 11, 1), none), ((0, 0, 11, 1), none), ((0, (-2147483648), 12, 1), none), ((0, 0, 11, 1), none), ((0, 0, 12, 1), none)], [(0, 0), (1, 1), (2, 2), (3, 3), (4, 4), (5, 5)], [4], [], [], [(200000, 3, 5)], [], [], some []))
def kh_wayStep_b33_1 : sg_T := (33, 0, ([((2, 805, 805, 0), none), ((0, 0, 11, 1), none), ((0, 0, 11, 1), none), ((0, 1, 12, 1), none), ((0, 0, 11, 1), none), ((0, 0, 11, 1), none), ((0, (-1), 11, 1), none), ((0, 1, 12, 1), some (5, 1))], [(5, 7), (4, 6), (0, 0), (1, 1), (2, 2), (3, 3)], [], [], [], [(102400006, 4, 4), (100000, 5, 3)], [], [], some []))
def kh_wayStep_I (l : Launch) (D : va_G) (tc : Nat → ClassId) (ad : Nat → Nat) (kd : Nat → Nat × Nat) (N : Nat) (sm : Nat → Nat) (xs : List av_X) (S : fw_S) (p : Program) (e : Env) (s : State) (m : MethodId) (args : Array Value) (below : List Frame) (meth : Method) (c : Code) (sz : Nat) (k : Nat) : Prop := (∀ (α : List av_X) (lv : List (Nat × Value)) (st : List Value) (S1 : fw_S), as_in ad sm wd_fl2 xs S kh_wayStep.2.2.2.2.2.1 α kh_wayStep_a2.2.2.1 lv st S1 → (S1 = S) → 10000000000 < k → hd_WR R_wayStep wd_fl2 kh_wayStep kh_wayStep_y l D tc ad kd N sm xs S p e s m args below meth c sz 2 lv st S1 0) ∧ (∀ (α : List av_X) (lv : List (Nat × Value)) (st : List Value) (S1 : fw_S), as_in ad sm wd_fl2 xs S kh_wayStep.2.2.2.2.2.1 α kh_wayStep_a5.2.2.1 lv st S1 → ((∀ x : Nat, x < 12 → (S1.1 814 x).toInt = fI S (nv xs 2) 204 x)) → 9000000000 < k → hd_WR R_wayStep wd_fl2 kh_wayStep kh_wayStep_y l D tc ad kd N sm xs S p e s m args below meth c sz 5 lv st S1 0) ∧ (∀ (α : List av_X) (lv : List (Nat × Value)) (st : List Value) (S1 : fw_S), as_in ad sm wd_fl2 xs S kh_wayStep.2.2.2.2.2.1 α kh_wayStep_a33.2.2.1 lv st S1 → ((∀ x : Nat, x < 12 → (S1.1 814 x).toInt = fI S (nv xs 2) 204 x) ∧ nv xs 3 ≤ fI S (nv xs 2) 204 (nv xs 1).toNat ∧ 0 ≤ nv α 4 ∧ nv α 4 ≤ 11 ∧ 0 ≤ nv α 5 ∧ fI S (nv xs 2) 204 (nv α 4).toNat + nv α 5 = fI S (nv xs 2) 204 (nv xs 1).toNat) → (nv α 3 - nv α 5).toNat < k → hd_WR R_wayStep wd_fl2 kh_wayStep kh_wayStep_y l D tc ad kd N sm xs S p e s m args below meth c sz 33 lv st S1 0) ∧ True
set_option maxHeartbeats 16000000 in
set_option maxRecDepth 8000 in
theorem kh_wayStep_h2 {l : Launch} {D : va_G} {tc : Nat → ClassId} {ad : Nat → Nat} {kd : Nat → Nat × Nat} {N : Nat} {sm : Nat → Nat} {xs : List av_X} {S : fw_S} {p : Program} {e : Env} {s : State} {m : MethodId} {args : Array Value} {below : List Frame} {meth : Method} {c : Code} {sz : Nat} {lvE : List (Nat × Value)} (G : hd_C wd_ff2 wd_fl2 kh_wayStep [kh_farFrom, kh_nextTo] kh_wayStep_y l D tc ad kd N sm xs p s m args meth c sz) (H0 : as_in ad sm wd_fl2 xs S kh_wayStep.2.2.2.2.2.1 xs (hd_0 kh_wayStep) lvE [] S) {k : Nat} (ih : kh_wayStep_I l D tc ad kd N sm xs S p e s m args below meth c sz k) : (∀ (α : List av_X) (lv : List (Nat × Value)) (st : List Value) (S1 : fw_S), as_in ad sm wd_fl2 xs S kh_wayStep.2.2.2.2.2.1 α kh_wayStep_a2.2.2.1 lv st S1 → (S1 = S) → 10000000000 < k + 1 → hd_WR R_wayStep wd_fl2 kh_wayStep kh_wayStep_y l D tc ad kd N sm xs S p e s m args below meth c sz 2 lv st S1 0) := by
  have hx : xs.length = 4 := by rw [H0.2.1.1]; rfl
  intro α lv st S1 H hp hk
  obtain ⟨α1, hle, Hr⟩ := as_recM (pl := []) [((814, 814), (0, 11, 1))] (by decide +kernel) H
  have hf := H.2.2.2.2.2.2.2.2.2.2.1
  have hl1 : α1.length = 4 := by rw [Hr.2.1.1]; rfl
  have hl0 : α.length = 4 := by rw [H.2.1.1]; rfl
  have hxa : al_le xs α1 := H.1.trans hle
  obtain ⟨g1, -, g3, g4, -⟩ := as_fx Hr
  have g0 : (805 ≤ nv α1 0 ∧ nv α1 0 ≤ 805) ∧ (0 ≤ nv α1 1 ∧ nv α1 1 ≤ 11) ∧ (0 ≤ nv α1 2 ∧ nv α1 2 ≤ 11) ∧ ((-2147483648) ≤ nv α1 3 ∧ nv α1 3 ≤ 2147483647) ∧ True := by
    refine ⟨by have h := (en_nv (i := 0) Hr.2.1 rfl).2; exact h, by have h := (en_nv (i := 1) Hr.2.1 rfl).2; exact h, by have h := (en_nv (i := 2) Hr.2.1 rfl).2; exact h, by have h := (en_nv (i := 3) Hr.2.1 rfl).2; exact h, trivial⟩
  have r0 : nv α1 0 = nv α 0 := nv_le hle (by omega)
  have r1 : nv α1 1 = nv α 1 := nv_le hle (by omega)
  have r2 : nv α1 2 = nv α 2 := nv_le hle (by omega)
  have r3 : nv α1 3 = nv α 3 := nv_le hle (by omega)
  refine hd_callRR (Rr := R_farFrom) (Rs := [kh_farFrom]) (idx := 392) G (List.forall_mem_cons.mpr ⟨kh_farFrom_lR, List.forall_mem_nil _⟩) (na := 4) (Bs := [kh_wayStep_b2_0]) (by decide +kernel) (by decide +kernel) hl1 Hr ?_
  intro q hq β lv' st' S' H1 hRx
  simp only [List.mem_cons, List.not_mem_nil, or_false] at hq
  rcases hq with rfl
  · obtain ⟨f1, f2, f3, f4, f5⟩ := as_fx H1
    simp only [kh_wayStep_b2_0, fx_env, fx_c, fx_ne, fx_hf, wl_S, Nat.zero_add, Nat.reduceAdd, Nat.reduceDiv, Nat.reduceMod, List.getElem?_cons_zero, List.getElem?_cons_succ, if_true, and_true, true_and] at f1 f2 f3 f4 f5
    have fe0 : nv β 0 = 805 := by omega
    try simp only [fe0, Int.reduceToNat] at f2 f3 f4 f5
    have s0 : nv β 0 = nv α1 0 := nv_le H1.1 (by omega)
    have s1 : nv β 1 = nv α1 1 := nv_le H1.1 (by omega)
    have s2 : nv β 2 = nv α1 2 := nv_le H1.1 (by omega)
    have s3 : nv β 3 = nv α1 3 := nv_le H1.1 (by omega)
    obtain ⟨α', Ha, hm⟩ := hd_gpM (q := kh_wayStep_a5) (n := 0) (by decide +kernel) hx H1 (by decide +kernel) hxa hf
    have hfr := H1.2.2.2.2.2.2.2.2.2.2.1
    have m0 : nv α' 0 = nv β 0 := hm 0 0 rfl
    have m1 : nv α' 1 = nv β 1 := hm 1 1 rfl
    have m2 : nv α' 2 = nv β 2 := hm 2 2 rfl
    have m3 : nv α' 3 = nv β 3 := hm 3 3 rfl
    obtain ⟨Cc, hCc, ys, rr, hnm, hR, -⟩ := hRx
    rcases List.mem_singleton.mp hCc with rfl
    have y1 : nv ys 1 = nv α1 2 := nm_nv hnm (i := 1) (v := 2) rfl
    have z2 : nv α 2 = nv xs 2 := nv_le H.1 (by omega)
    have e6 : S1 = S := hp
    obtain ⟨R1, R2⟩ := hR
    rw [y1, r2, z2, e6] at R1
    refine ih.2.1 _ _ _ _ Ha ?_ ?_
    · exact R1
    · omega
set_option maxHeartbeats 16000000 in
set_option maxRecDepth 8000 in
theorem kh_wayStep_h5 {l : Launch} {D : va_G} {tc : Nat → ClassId} {ad : Nat → Nat} {kd : Nat → Nat × Nat} {N : Nat} {sm : Nat → Nat} {xs : List av_X} {S : fw_S} {p : Program} {e : Env} {s : State} {m : MethodId} {args : Array Value} {below : List Frame} {meth : Method} {c : Code} {sz : Nat} {lvE : List (Nat × Value)} (G : hd_C wd_ff2 wd_fl2 kh_wayStep [kh_farFrom, kh_nextTo] kh_wayStep_y l D tc ad kd N sm xs p s m args meth c sz) (H0 : as_in ad sm wd_fl2 xs S kh_wayStep.2.2.2.2.2.1 xs (hd_0 kh_wayStep) lvE [] S) {k : Nat} (ih : kh_wayStep_I l D tc ad kd N sm xs S p e s m args below meth c sz k) : (∀ (α : List av_X) (lv : List (Nat × Value)) (st : List Value) (S1 : fw_S), as_in ad sm wd_fl2 xs S kh_wayStep.2.2.2.2.2.1 α kh_wayStep_a5.2.2.1 lv st S1 → ((∀ x : Nat, x < 12 → (S1.1 814 x).toInt = fI S (nv xs 2) 204 x)) → 9000000000 < k + 1 → hd_WR R_wayStep wd_fl2 kh_wayStep kh_wayStep_y l D tc ad kd N sm xs S p e s m args below meth c sz 5 lv st S1 0) := by
  have hx : xs.length = 4 := by rw [H0.2.1.1]; rfl
  intro α lv st S1 H hp hk
  obtain ⟨α1, hle, Hr⟩ := as_recM (pl := []) [] (by decide +kernel) H
  have hf := H.2.2.2.2.2.2.2.2.2.2.1
  have hl1 : α1.length = 4 := by rw [Hr.2.1.1]; rfl
  have hl0 : α.length = 4 := by rw [H.2.1.1]; rfl
  have hxa : al_le xs α1 := H.1.trans hle
  obtain ⟨g1, -, g3, g4, -⟩ := as_fx Hr
  have g0 : (805 ≤ nv α1 0 ∧ nv α1 0 ≤ 805) ∧ (0 ≤ nv α1 1 ∧ nv α1 1 ≤ 11) ∧ (0 ≤ nv α1 2 ∧ nv α1 2 ≤ 11) ∧ ((-2147483648) ≤ nv α1 3 ∧ nv α1 3 ≤ 2147483647) ∧ True := by
    refine ⟨by have h := (en_nv (i := 0) Hr.2.1 rfl).2; exact h, by have h := (en_nv (i := 1) Hr.2.1 rfl).2; exact h, by have h := (en_nv (i := 2) Hr.2.1 rfl).2; exact h, by have h := (en_nv (i := 3) Hr.2.1 rfl).2; exact h, trivial⟩
  have r0 : nv α1 0 = nv α 0 := nv_le hle (by omega)
  have r1 : nv α1 1 = nv α 1 := nv_le hle (by omega)
  have r2 : nv α1 2 = nv α 2 := nv_le hle (by omega)
  have r3 : nv α1 3 = nv α 3 := nv_le hle (by omega)
  refine hd_segMR G (na := 4) (fuel := 600) (first := true) (Bs := [kh_wayStep_b5_0, kh_wayStep_b5_1, kh_wayStep_b5_2]) (by decide +kernel) hl1 Hr ?_
  intro q hq β lv' st' S' H1
  simp only [List.mem_cons, List.not_mem_nil, or_false] at hq
  rcases hq with rfl | rfl | rfl
  · obtain ⟨f1, f2, f3, f4, f5⟩ := as_fx H1
    simp only [kh_wayStep_b5_0, fx_env, fx_c, fx_ne, fx_hf, wl_S, Nat.zero_add, Nat.reduceAdd, Nat.reduceDiv, Nat.reduceMod, List.getElem?_cons_zero, List.getElem?_cons_succ, if_true, and_true, true_and] at f1 f2 f3 f4 f5
    have fe0 : nv β 0 = 805 := by omega
    have fe4 : nv β 4 = 814 := by omega
    have fe5 : nv β 5 = (-1) := by omega
    have fe6 : nv β 6 = (-1) := by omega
    have fe7 : nv β 7 = (-1) := by omega
    try simp only [fe0, fe4, fe5, fe6, fe7, Int.reduceToNat] at f2 f3 f4 f5
    have s0 : nv β 0 = nv α1 0 := nv_le H1.1 (by omega)
    have s1 : nv β 1 = nv α1 1 := nv_le H1.1 (by omega)
    have s2 : nv β 2 = nv α1 2 := nv_le H1.1 (by omega)
    have s3 : nv β 3 = nv α1 3 := nv_le H1.1 (by omega)
    obtain ⟨c0, c1⟩ := f2
    have o1 := old_0 c1 rfl
    have z1 : nv α 1 = nv xs 1 := nv_le H.1 (by omega)
    have z3 : nv α 3 = nv xs 3 := nv_le H.1 (by omega)
    have h5 := hp (nv β 1).toNat (by omega)
    rw [o1] at h5
    have e1 : (nv β 1).toNat = (nv xs 1).toNat := by rw [s1, r1, z1]
    rw [e1] at h5
    exact hd_retIR G (v := 7) (by decide +kernel) (as_backM H1 (by decide +kernel) hxa hf) _ List.mem_cons_self rfl (by decide +kernel) (by decide) (fun w hw => by cases hw) (fun x hx => ⟨x, rfl, fun hc => by exfalso; omega⟩)
  · obtain ⟨f1, f2, f3, f4, f5⟩ := as_fx H1
    simp only [kh_wayStep_b5_1, fx_env, fx_c, fx_ne, fx_hf, wl_S, Nat.zero_add, Nat.reduceAdd, Nat.reduceDiv, Nat.reduceMod, List.getElem?_cons_zero, List.getElem?_cons_succ, if_true, and_true, true_and] at f1 f2 f3 f4 f5
    have fe0 : nv β 0 = 805 := by omega
    have fe4 : nv β 4 = 814 := by omega
    have fe6 : nv β 6 = (-1) := by omega
    have fe7 : nv β 7 = 814 := by omega
    have fe8 : nv β 8 = 0 := by omega
    try simp only [fe0, fe4, fe6, fe7, fe8, Int.reduceToNat] at f2 f3 f4 f5
    have s0 : nv β 0 = nv α1 0 := nv_le H1.1 (by omega)
    have s1 : nv β 1 = nv α1 1 := nv_le H1.1 (by omega)
    have s2 : nv β 2 = nv α1 2 := nv_le H1.1 (by omega)
    have s3 : nv β 3 = nv α1 3 := nv_le H1.1 (by omega)
    obtain ⟨c0, c1, c2⟩ := f2
    obtain ⟨α', Ha, hm⟩ := hd_gpM (q := kh_wayStep_a33) (n := 0) (by decide +kernel) hx H1 (by decide +kernel) hxa hf
    have hfr := H1.2.2.2.2.2.2.2.2.2.2.1
    have m0 : nv α' 0 = nv β 0 := hm 0 0 rfl
    have m1 : nv α' 1 = nv β 1 := hm 1 1 rfl
    have m2 : nv α' 2 = nv β 2 := hm 2 2 rfl
    have m3 : nv α' 3 = nv β 3 := hm 3 3 rfl
    have m4 : nv α' 4 = nv β 1 := hm 4 1 rfl
    have m5 : nv α' 5 = nv β 8 := hm 5 8 rfl
    subst S'
    have o2 := old_0 c2 rfl
    have z1 : nv α 1 = nv xs 1 := nv_le H.1 (by omega)
    have z3 : nv α 3 = nv xs 3 := nv_le H.1 (by omega)
    have h5 := hp (nv β 1).toNat (by omega)
    rw [o2] at h5
    have e1 : (nv β 1).toNat = (nv xs 1).toNat := by rw [s1, r1, z1]
    rw [e1] at h5
    refine ih.2.2.1 _ _ _ _ Ha ?_ ?_
    · rw [m4, m5]
      refine ⟨hp, by omega, by omega, by omega, by omega, ?_⟩
      rw [e1]
      omega
    · omega
  · obtain ⟨f1, f2, f3, f4, f5⟩ := as_fx H1
    simp only [kh_wayStep_b5_2, fx_env, fx_c, fx_ne, fx_hf, wl_S, Nat.zero_add, Nat.reduceAdd, Nat.reduceDiv, Nat.reduceMod, List.getElem?_cons_zero, List.getElem?_cons_succ, if_true, and_true, true_and] at f1 f2 f3 f4 f5
    have fe0 : nv β 0 = 805 := by omega
    have fe4 : nv β 4 = 814 := by omega
    have fe6 : nv β 6 = (-1) := by omega
    have fe7 : nv β 7 = 814 := by omega
    have fe8 : nv β 8 = (-1) := by omega
    try simp only [fe0, fe4, fe6, fe7, fe8, Int.reduceToNat] at f2 f3 f4 f5
    have s0 : nv β 0 = nv α1 0 := nv_le H1.1 (by omega)
    have s1 : nv β 1 = nv α1 1 := nv_le H1.1 (by omega)
    have s2 : nv β 2 = nv α1 2 := nv_le H1.1 (by omega)
    have s3 : nv β 3 = nv α1 3 := nv_le H1.1 (by omega)
    obtain ⟨c0, c1, c2⟩ := f2
    have o2 := old_0 c2 rfl
    have z1 : nv α 1 = nv xs 1 := nv_le H.1 (by omega)
    have z3 : nv α 3 = nv xs 3 := nv_le H.1 (by omega)
    have h5 := hp (nv β 1).toNat (by omega)
    rw [o2] at h5
    have e1 : (nv β 1).toNat = (nv xs 1).toNat := by rw [s1, r1, z1]
    rw [e1] at h5
    exact hd_retIR G (v := 8) (by decide +kernel) (as_backM H1 (by decide +kernel) hxa hf) _ List.mem_cons_self rfl (by decide +kernel) (by decide) (fun w hw => by cases hw) (fun x hx => ⟨x, rfl, fun hc => by exfalso; omega⟩)
set_option maxHeartbeats 16000000 in
set_option maxRecDepth 8000 in
theorem kh_wayStep_h33 {l : Launch} {D : va_G} {tc : Nat → ClassId} {ad : Nat → Nat} {kd : Nat → Nat × Nat} {N : Nat} {sm : Nat → Nat} {xs : List av_X} {S : fw_S} {p : Program} {e : Env} {s : State} {m : MethodId} {args : Array Value} {below : List Frame} {meth : Method} {c : Code} {sz : Nat} {lvE : List (Nat × Value)} (G : hd_C wd_ff2 wd_fl2 kh_wayStep [kh_farFrom, kh_nextTo] kh_wayStep_y l D tc ad kd N sm xs p s m args meth c sz) (H0 : as_in ad sm wd_fl2 xs S kh_wayStep.2.2.2.2.2.1 xs (hd_0 kh_wayStep) lvE [] S) {k : Nat} (ih : kh_wayStep_I l D tc ad kd N sm xs S p e s m args below meth c sz k) : (∀ (α : List av_X) (lv : List (Nat × Value)) (st : List Value) (S1 : fw_S), as_in ad sm wd_fl2 xs S kh_wayStep.2.2.2.2.2.1 α kh_wayStep_a33.2.2.1 lv st S1 → ((∀ x : Nat, x < 12 → (S1.1 814 x).toInt = fI S (nv xs 2) 204 x) ∧ nv xs 3 ≤ fI S (nv xs 2) 204 (nv xs 1).toNat ∧ 0 ≤ nv α 4 ∧ nv α 4 ≤ 11 ∧ 0 ≤ nv α 5 ∧ fI S (nv xs 2) 204 (nv α 4).toNat + nv α 5 = fI S (nv xs 2) 204 (nv xs 1).toNat) → (nv α 3 - nv α 5).toNat < k + 1 → hd_WR R_wayStep wd_fl2 kh_wayStep kh_wayStep_y l D tc ad kd N sm xs S p e s m args below meth c sz 33 lv st S1 0) := by
  have hx : xs.length = 4 := by rw [H0.2.1.1]; rfl
  intro α lv st S1 H hp hk
  have bp := (en_nv (i := 4) H.2.1 rfl).2
  change (-1) ≤ nv α 4 ∧ nv α 4 ≤ 11 at bp
  replace H := as_clamp (i := 4) (lo := 0) (hi := 11) H rfl rfl (by exact hp.2.2.1) (by exact hp.2.2.2.1) (by decide)
  obtain ⟨α1, hle, Hr⟩ := as_recM (pl := []) [] (by decide +kernel) H
  have hf := H.2.2.2.2.2.2.2.2.2.2.1
  have hl1 : α1.length = 6 := by rw [Hr.2.1.1]; rfl
  have hl0 : α.length = 6 := by rw [H.2.1.1]; rfl
  have hxa : al_le xs α1 := H.1.trans hle
  obtain ⟨g1, -, g3, g4, -⟩ := as_fx Hr
  have g0 : (805 ≤ nv α1 0 ∧ nv α1 0 ≤ 805) ∧ (0 ≤ nv α1 1 ∧ nv α1 1 ≤ 11) ∧ (0 ≤ nv α1 2 ∧ nv α1 2 ≤ 11) ∧ ((-2147483648) ≤ nv α1 3 ∧ nv α1 3 ≤ 12) ∧ (0 ≤ nv α1 4 ∧ nv α1 4 ≤ 11) ∧ (0 ≤ nv α1 5 ∧ nv α1 5 ≤ 12) ∧ True := by
    refine ⟨by have h := (en_nv (i := 0) Hr.2.1 rfl).2; exact h, by have h := (en_nv (i := 1) Hr.2.1 rfl).2; exact h, by have h := (en_nv (i := 2) Hr.2.1 rfl).2; exact h, by have h := (en_nv (i := 3) Hr.2.1 rfl).2; exact h, by have h := (en_nv (i := 4) Hr.2.1 rfl).2; exact h, by have h := (en_nv (i := 5) Hr.2.1 rfl).2; exact h, trivial⟩
  have r0 : nv α1 0 = nv α 0 := nv_le hle (by omega)
  have r1 : nv α1 1 = nv α 1 := nv_le hle (by omega)
  have r2 : nv α1 2 = nv α 2 := nv_le hle (by omega)
  have r3 : nv α1 3 = nv α 3 := nv_le hle (by omega)
  have r4 : nv α1 4 = nv α 4 := nv_le hle (by omega)
  have r5 : nv α1 5 = nv α 5 := nv_le hle (by omega)
  refine hd_segMR G (na := 6) (fuel := 600) (first := true) (Bs := [kh_wayStep_b33_0, kh_wayStep_b33_1]) (by decide +kernel) hl1 Hr ?_
  intro q hq β lv' st' S' H1
  simp only [List.mem_cons, List.not_mem_nil, or_false] at hq
  rcases hq with rfl | rfl
  · obtain ⟨f1, f2, f3, f4, f5⟩ := as_fx H1
    simp only [kh_wayStep_b33_0, fx_env, fx_c, fx_ne, fx_hf, wl_S, Nat.zero_add, Nat.reduceAdd, Nat.reduceDiv, Nat.reduceMod, List.getElem?_cons_zero, List.getElem?_cons_succ, if_true, and_true, true_and] at f1 f2 f3 f4 f5
    have fe0 : nv β 0 = 805 := by omega
    try simp only [fe0, Int.reduceToNat] at f2 f3 f4 f5
    have s0 : nv β 0 = nv α1 0 := nv_le H1.1 (by omega)
    have s1 : nv β 1 = nv α1 1 := nv_le H1.1 (by omega)
    have s2 : nv β 2 = nv α1 2 := nv_le H1.1 (by omega)
    have s3 : nv β 3 = nv α1 3 := nv_le H1.1 (by omega)
    have s4 : nv β 4 = nv α1 4 := nv_le H1.1 (by omega)
    have s5 : nv β 5 = nv α1 5 := nv_le H1.1 (by omega)
    have c0 := f2
    have hl : 0 ≤ nv β 4 ∧ nv β 4 ≤ 11 := by omega
    exact hd_retIR G (v := 4) (by decide +kernel) (as_backM H1 (by decide +kernel) hxa hf) _ List.mem_cons_self rfl (by decide +kernel) (by decide) (fun w hw => by cases hw) (fun x hx => ⟨x, rfl, fun _ => by omega⟩)
  · obtain ⟨f1, f2, f3, f4, f5⟩ := as_fx H1
    simp only [kh_wayStep_b33_1, fx_env, fx_c, fx_ne, fx_hf, wl_S, Nat.zero_add, Nat.reduceAdd, Nat.reduceDiv, Nat.reduceMod, List.getElem?_cons_zero, List.getElem?_cons_succ, if_true, and_true, true_and] at f1 f2 f3 f4 f5
    have fe0 : nv β 0 = 805 := by omega
    try simp only [fe0, Int.reduceToNat] at f2 f3 f4 f5
    have s0 : nv β 0 = nv α1 0 := nv_le H1.1 (by omega)
    have s1 : nv β 1 = nv α1 1 := nv_le H1.1 (by omega)
    have s2 : nv β 2 = nv α1 2 := nv_le H1.1 (by omega)
    have s3 : nv β 3 = nv α1 3 := nv_le H1.1 (by omega)
    have s4 : nv β 4 = nv α1 4 := nv_le H1.1 (by omega)
    have s5 : nv β 5 = nv α1 5 := nv_le H1.1 (by omega)
    obtain ⟨c0, c1⟩ := f2
    obtain ⟨α', Ha, hm⟩ := hd_gpM (q := kh_wayStep_a33) (n := 0) (by decide +kernel) hx H1 (by decide +kernel) hxa hf
    have hfr := H1.2.2.2.2.2.2.2.2.2.2.1
    have m0 : nv α' 0 = nv β 0 := hm 0 0 rfl
    have m1 : nv α' 1 = nv β 1 := hm 1 1 rfl
    have m2 : nv α' 2 = nv β 2 := hm 2 2 rfl
    have m3 : nv α' 3 = nv β 3 := hm 3 3 rfl
    have m4 : nv α' 4 = nv β 6 := hm 4 6 rfl
    have m5 : nv α' 5 = nv β 7 := hm 5 7 rfl
    subst S'
    have d0 := c0
    simp only [wd_fl2, if_neg (show ¬ (wd_base1 1024 = true) by decide)] at d0
    have z3 : nv α 3 = nv xs 3 := nv_le H.1 (by omega)
    have e6 : S1.1 806 = S.1 806 := fr_row hf 806 (by decide +kernel)
    obtain ⟨p1, p2, p3, p4, p5, p6⟩ := hp
    have hfa := p1 (nv α 4).toNat (by omega)
    have hnr : ∃ y : Nat, y < 12 ∧ ngh S1 (nv β 4) y := by
      rcases fI_inv (S := S) (to := nv xs 2) 204 (nv α 4).toNat (by omega) with g | g | ⟨g0, t, y, g1, g2, g3, g4, g5, g6⟩
      · exfalso; omega
      · exfalso; omega
      · refine ⟨y, g2, t, g1, fun hc => g3 ((clP_e e6).mp hc), ?_, ?_, ?_⟩
        · rw [Int.toNat_of_nonneg p3] at g4
          rw [s4, r4]
          exact g4
        · rw [p1 y g2, s4, r4, hfa]; exact g5
        · rw [p1 y g2]; exact g6
    obtain ⟨d1, d2, d3⟩ := d0 hnr
    have hfr' := p1 (nv β 6).toNat (by omega)
    rw [s4, r4] at d3
    refine ih.2.2.1 _ _ _ _ Ha ?_ ?_
    · rw [m4, m5]
      refine ⟨p1, p2, by omega, by omega, by omega, ?_⟩
      omega
    · rw [m3, m5]; omega
set_option maxHeartbeats 16000000 in
set_option maxRecDepth 8000 in
theorem kh_wayStep_okR : ct_okR wd_fl2 kh_wayStep R_wayStep := ct_handR (R := R_wayStep) (ff := wd_ff2) (y := kh_wayStep_y) (Cs := [kh_farFrom, kh_nextTo]) wd_fl2_ok rfl (List.forall_mem_cons.mpr ⟨kh_farFrom_l2, (List.forall_mem_cons.mpr ⟨kh_nextTo_ok, (List.forall_mem_nil _)⟩)⟩) (by decide +kernel) (fun l D tc ad kd N sm xs S p e s m args below meth c sz lv G H0 => by
  have hx : xs.length = 4 := by rw [H0.2.1.1]; rfl
  have hP : ∀ (k : Nat), kh_wayStep_I l D tc ad kd N sm xs S p e s m args below meth c sz k := by
    intro k
    induction k with
    | zero => exact ⟨fun _ _ _ _ _ _ h => absurd h (Nat.not_lt_zero _), fun _ _ _ _ _ _ h => absurd h (Nat.not_lt_zero _), fun _ _ _ _ _ _ h => absurd h (Nat.not_lt_zero _), trivial⟩
    | succ k ih => exact ⟨kh_wayStep_h2 G H0 ih, kh_wayStep_h5 G H0 ih, kh_wayStep_h33 G H0 ih, trivial⟩
  obtain ⟨α1, hle, Hr⟩ := as_recM (pl := []) [] (by decide +kernel) H0
  have hf := H0.2.2.2.2.2.2.2.2.2.2.1
  have hl1 : α1.length = 4 := by rw [Hr.2.1.1]; rfl
  have hl0 : xs.length = 4 := by rw [H0.2.1.1]; rfl
  have hxa : al_le xs α1 := H0.1.trans hle
  obtain ⟨g1, -, g3, g4, -⟩ := as_fx Hr
  have g0 : (805 ≤ nv α1 0 ∧ nv α1 0 ≤ 805) ∧ (0 ≤ nv α1 1 ∧ nv α1 1 ≤ 11) ∧ (0 ≤ nv α1 2 ∧ nv α1 2 ≤ 11) ∧ ((-2147483648) ≤ nv α1 3 ∧ nv α1 3 ≤ 2147483647) ∧ True := by
    refine ⟨by have h := (en_nv (i := 0) Hr.2.1 rfl).2; exact h, by have h := (en_nv (i := 1) Hr.2.1 rfl).2; exact h, by have h := (en_nv (i := 2) Hr.2.1 rfl).2; exact h, by have h := (en_nv (i := 3) Hr.2.1 rfl).2; exact h, trivial⟩
  have r0 : nv α1 0 = nv xs 0 := nv_le hle (by omega)
  have r1 : nv α1 1 = nv xs 1 := nv_le hle (by omega)
  have r2 : nv α1 2 = nv xs 2 := nv_le hle (by omega)
  have r3 : nv α1 3 = nv xs 3 := nv_le hle (by omega)
  refine hd_segMR G (na := 4) (fuel := 600) (first := true) (Bs := [kh_wayStep_b0_0]) (by decide +kernel) hl1 Hr ?_
  intro q hq β lv' st' S' H1
  simp only [List.mem_cons, List.not_mem_nil, or_false] at hq
  rcases hq with rfl
  · obtain ⟨f1, f2, f3, f4, f5⟩ := as_fx H1
    simp only [kh_wayStep_b0_0, fx_env, fx_c, fx_ne, fx_hf, wl_S, Nat.zero_add, Nat.reduceAdd, Nat.reduceDiv, Nat.reduceMod, List.getElem?_cons_zero, List.getElem?_cons_succ, if_true, and_true, true_and] at f1 f2 f3 f4 f5
    have fe0 : nv β 0 = 805 := by omega
    try simp only [fe0, Int.reduceToNat] at f2 f3 f4 f5
    have s0 : nv β 0 = nv α1 0 := nv_le H1.1 (by omega)
    have s1 : nv β 1 = nv α1 1 := nv_le H1.1 (by omega)
    have s2 : nv β 2 = nv α1 2 := nv_le H1.1 (by omega)
    have s3 : nv β 3 = nv α1 3 := nv_le H1.1 (by omega)
    obtain ⟨α', Ha, hm⟩ := hd_gpM (q := kh_wayStep_a2) (n := 0) (by decide +kernel) hx H1 (by decide +kernel) hxa hf
    have hfr := H1.2.2.2.2.2.2.2.2.2.2.1
    have m0 : nv α' 0 = nv β 0 := hm 0 0 rfl
    have m1 : nv α' 1 = nv β 1 := hm 1 1 rfl
    have m2 : nv α' 2 = nv β 2 := hm 2 2 rfl
    have m3 : nv α' 3 = nv β 3 := hm 3 3 rfl
    subst S'
    refine (hP _).1 _ _ _ _ Ha ?_ (Nat.lt_succ_self _)
    · rfl)
theorem kh_wayStep_ok : ct_ok wd_fl2 kh_wayStep := ct_okR_ok kh_wayStep_okR
