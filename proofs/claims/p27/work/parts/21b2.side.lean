/-! sideOf -/
abbrev kh_sideOf_y : mt_T := (⟨"UtilityWorksModel", "sideOf", "(I)V"⟩, prog_14_method_86_code, 4, none, 12, 1, 1, 34110, 34109, 10010, 21014)
def kh_sideOf : ct_T := (454, [(2, 805, 805, 0), (0, 0, 16, 1)], [], [], [(0, (0, 0, 0, 0), [(2, 805, 805, 0), (0, 0, 16, 1)], [], ([], []))], [((825, 825), (0, 11, 1))], 2, 40, 0)
def kh_sideOf_a35 : an_T := (35, 0, ([((2, 805, 805, 0), none), ((0, 0, 16, 1), none), ((0, 0, 1, 1), none)], [(0, 0), (1, 1), (2, 2)], [], [], [], [], [], [], none), [])
def kh_sideOf_a43 : an_T := (43, 0, ([((2, 805, 805, 0), none), ((0, 0, 16, 1), none), ((0, 0, 1, 1), none), ((0, 0, 17, 1), none)], [(0, 0), (1, 1), (2, 2), (3, 3)], [], [], [], [], [], [], none), [])
def kh_sideOf_a2 : an_T := (2, 0, ([((2, 805, 805, 0), none), ((0, 0, 16, 1), none), ((0, 0, 12, 1), none)], [(0, 0), (1, 1), (2, 2)], [], [], [], [], [], [], none), [(1, 2, 13)])
def kh_sideOf_b43_0 : sg_T := (35, 0, ([((2, 805, 805, 0), none), ((0, 0, 16, 1), none), ((0, 0, 1, 1), none), ((0, 17, 17, 1), none), ((0, 17, 17, 0), none)], [(0, 0), (1, 1), (2, 2), (3, 3)], [], [], [], [(200000, 4, 3)], [], [], some []))
def kh_sideOf_b43_1 : sg_T := (43, 0, ([((2, 805, 805, 0), none), ((0, 0, 16, 1), none), ((0, 0, 1, 1), none), ((0, 0, 16, 1), none), ((0, 17, 17, 0), none), ((0, 1, 17, 1), some (3, 1))], [(3, 5), (0, 0), (1, 1), (2, 2)], [], [], [], [(300000, 3, 1), (100000, 3, 4)], [], [], some []))
def kh_sideOf_b43_2 : sg_T := (43, 0, ([((2, 805, 805, 0), none), ((0, 0, 16, 1), none), ((0, 0, 1, 1), none), ((0, 0, 16, 1), none), ((0, 17, 17, 0), none), ((2, 815, 815, 1), none), ((0, 0, 0, 1), none), ((0, 1, 17, 1), some (3, 1))], [(3, 7), (0, 0), (1, 1), (2, 2)], [], [(5, 3, 6)], [], [(800006, 5, 3), (400000, 3, 1), (100000, 3, 4)], [], [], some []))
def kh_sideOf_b43_3 : sg_T := (43, 0, ([((2, 805, 805, 0), none), ((0, 0, 16, 1), none), ((0, 0, 1, 1), none), ((0, 0, 16, 1), none), ((0, 17, 17, 0), none), ((2, 815, 815, 1), none), ((0, 1, 1, 1), none), ((2, 825, 825, 1), none), ((0, 0, 10, 1), none), ((0, 0, 1, 1), none), ((2, 825, 825, 1), none), ((0, 1, 11, 1), none), ((0, 0, 1, 1), none), ((0, 1, 17, 1), some (3, 1))], [(3, 13), (0, 0), (1, 1), (2, 2)], [], [(10, 11, 12), (7, 8, 9), (5, 3, 6)], [(6, 0)], [(300000, 9, 12), (800012, 10, 11), (1100011, 3, 3), (800009, 7, 8), (1000008, 3, 3), (800006, 5, 3), (400000, 3, 1), (100000, 3, 4)], [], [], some []))
def kh_sideOf_b43_4 : sg_T := (43, 0, ([((2, 805, 805, 0), none), ((0, 0, 16, 1), none), ((0, 0, 1, 1), none), ((0, 0, 16, 1), none), ((0, 17, 17, 0), none), ((2, 815, 815, 1), none), ((0, 1, 1, 1), none), ((2, 825, 825, 1), none), ((0, 0, 10, 1), none), ((0, 0, 1, 1), none), ((2, 825, 825, 1), none), ((0, 1, 11, 1), none), ((0, 0, 1, 1), none), ((2, 825, 825, 1), none), ((0, 0, 10, 1), none), ((0, 1, 1, 0), none), ((2, 825, 825, 1), none), ((0, 1, 11, 1), none), ((0, 1, 1, 0), none), ((0, 1, 1, 0), none), ((0, 1, 17, 1), some (3, 1))], [(3, 20), (2, 19), (0, 0), (1, 1)], [], [(16, 17, 18), (5, 3, 6)], [(6, 0)], [(1100017, 3, 3), (1000014, 3, 3), (400000, 9, 12), (800012, 10, 11), (1100011, 3, 3), (800009, 7, 8), (1000008, 3, 3), (800006, 5, 3), (400000, 3, 1), (100000, 3, 4)], [], [], some [(16, 17, 18), (13, 14, 15)]))
def kh_sideOf_e0 : sg_T := (35, 0, ([((2, 805, 805, 0), none), ((0, 0, 16, 1), none), ((0, 12, 12, 1), none), ((0, 12, 12, 0), none), ((0, 1, 1, 0), none)], [(2, 4), (0, 0), (1, 1)], [], [], [], [], [], [], none))
def kh_sideOf_b35_0 : sg_T := (115, 0, ([((2, 805, 805, 0), none), ((0, 0, 16, 1), none), ((0, 0, 0, 1), none)], [(0, 0), (1, 1), (2, 2)], [], [], [], [], [], [], some []))
def kh_sideOf_b35_1 : sg_T := (43, 0, ([((2, 805, 805, 0), none), ((0, 0, 16, 1), none), ((0, 1, 1, 1), none), ((0, 0, 0, 0), none), ((0, 0, 0, 0), none)], [(3, 4), (2, 3), (0, 0), (1, 1)], [], [], [(2, 0)], [], [], [], some []))
theorem kh_sideOf_ok : ct_ok wd_fl kh_sideOf := ct_hand (ff := wd_ff) (y := kh_sideOf_y) (Cs := [kh_low, kh_high]) wd_fl_ok rfl (List.forall_mem_cons.mpr ⟨kh_low_ok, (List.forall_mem_cons.mpr ⟨kh_high_ok, (List.forall_mem_nil _)⟩)⟩) (by decide +kernel) (fun l D tc ad kd N sm xs S p e s m args below meth c sz lv G H0 => by
  have hx : xs.length = 2 := by rw [H0.2.1.1]; rfl
  have hbd : ∀ (α : List av_X) (A : as_T) (lv : List (Nat × Value)) (st : List Value) (S1 : fw_S), as_in ad sm wd_fl xs S kh_sideOf.2.2.2.2.2.1 α A lv st S1 → q_rg A ((825, 825), (0, 11, 1), (0, 0, 1, 1)) = true → 0 ≤ sm_S (S1.1 825) 12 ∧ sm_S (S1.1 825) 12 ≤ 12 := by
    intro α A lv st S1 H hq
    have h1 := q_rg_in hq H
    have := sm_bd (f := S1.1 825) (lo := 0) (hi := 1) (n := 12) (fun j hj => rg_bd h1 (by omega))
    omega
  have hX : ∀ (α : List av_X) (lv : List (Nat × Value)) (S1 : fw_S), as_in ad sm wd_fl xs S kh_sideOf.2.2.2.2.2.1 α kh_sideOf_a35.2.2.1 lv [] S1 → nv α 2 = 0 → hd_W wd_fl kh_sideOf kh_sideOf_y l D tc ad kd N sm xs S p e s m args below meth c sz 35 lv [] S1 0 := by
    intro α lv S1 H h0
    have hg := (en_nv (i := 2) H.2.1 rfl).1
    rw [h0] at hg
    exact hd_run G (ss := []) (A := ([((2, 805, 805, 0), none), ((0, 0, 16, 1), none), ((0, 0, 0, 0), none)], [(0, 0), (1, 1), (2, 2)], [], [], [], [], [], [], none)) (fuel := 20) (by decide +kernel) (as_set (i := 2) (q := ((0, 0, 1, 1), none)) (a := (0, 0, 0, 0)) H hg rfl ⟨rfl, ⟨by decide, by decide⟩, Int.le_refl _, Int.le_refl _, Int.dvd_refl _⟩)
  have hW : ∀ (k : Nat) (α : List av_X) (lv : List (Nat × Value)) (S1 : fw_S), as_in ad sm wd_fl xs S kh_sideOf.2.2.2.2.2.1 α kh_sideOf_a35.2.2.1 lv [] S1 → (12 - sm_S (S1.1 825) 12).toNat < k → hd_W wd_fl kh_sideOf kh_sideOf_y l D tc ad kd N sm xs S p e s m args below meth c sz 35 lv [] S1 0 := by
    intro k
    induction k with
    | zero => intro α lv S1 _ h; omega
    | succ k ih =>
    intro α lv S1 H hk
    have hI : ∀ (j : Nat) (α : List av_X) (lv : List (Nat × Value)) (S2 : fw_S), as_in ad sm wd_fl xs S kh_sideOf.2.2.2.2.2.1 α kh_sideOf_a43.2.2.1 lv [] S2 → sm_S (S1.1 825) 12 ≤ sm_S (S2.1 825) 12 → (nv α 2 = 0 ∨ sm_S (S1.1 825) 12 < sm_S (S2.1 825) 12) → (17 - nv α 3).toNat < j → hd_W wd_fl kh_sideOf kh_sideOf_y l D tc ad kd N sm xs S p e s m args below meth c sz 43 lv [] S2 0 := by
      intro j
      induction j with
      | zero => intro α lv S2 _ _ _ h; omega
      | succ j ihj =>
      intro α lv S2 H2 hR hg hj
      obtain ⟨α1, hle, Hr⟩ := as_rec_in (pl := []) rfl H2
      have hf := H2.2.2.2.2.2.2.2.2.2.2.1
      have hl1 : α1.length = 4 := by rw [Hr.2.1.1]; rfl
      have hl0 : α.length = 4 := by rw [H2.2.1.1]; rfl
      have hxa : al_le xs α1 := H2.1.trans hle
      refine hd_seg G (na := 4) (fuel := 400) (first := true) (Bs := [kh_sideOf_b43_0, kh_sideOf_b43_1, kh_sideOf_b43_2, kh_sideOf_b43_3, kh_sideOf_b43_4]) (by decide +kernel) hl1 Hr ?_
      intro q hq β lv' st' S' H1
      simp only [List.mem_cons, List.not_mem_nil, or_false] at hq
      rcases hq with rfl | rfl | rfl | rfl | rfl
      · have Ha := hd_go (q := kh_sideOf_a35) (n := 0) (by decide +kernel) hx H1 hxa hf
        have hst : st' = [] := by
          have := H1.2.2.2.1
          match st', this with
          | [], _ => rfl
          | _ :: _, z => exact z.elim
        subst hst
        have eg : nv α1 2 = nv α 2 := nv_le hle (by omega)
        have et : nv α1 3 = nv α 3 := nv_le hle (by omega)
        have eg1 : nv β 2 = nv α1 2 := nv_le H1.1 (by omega)
        have et1 : nv β 3 = nv α1 3 := nv_le H1.1 (by omega)
        have hb := hbd _ _ _ _ _ H2 (by decide +kernel)
        obtain ⟨f1, f2, f3, f4, f5⟩ := as_fx H1
        simp only [kh_sideOf_b43_0, fx_env, fx_c, fx_ne, fx_hf, wl_S, Nat.zero_add, Nat.reduceAdd, Nat.reduceDiv, Nat.reduceMod, List.getElem?_cons_zero, List.getElem?_cons_succ, if_true, and_true, true_and] at f1 f2 f3 f4 f5
        have fe0 : nv β 0 = 805 := by omega
        have fe3 : nv β 3 = 17 := by omega
        have fe4 : nv β 4 = 17 := by omega
        try simp only [fe0, fe3, fe4, Int.reduceToNat] at f2 f3 f4 f5
        rw [f5] at Ha ⊢
        rcases hg with hg | hg
        · exact hX _ _ _ Ha (by rw [nv_mu (v := 2) rfl]; omega)
        · exact ih _ _ _ Ha (by omega)
      · have Ha := hd_go (q := kh_sideOf_a43) (n := 0) (by decide +kernel) hx H1 hxa hf
        have hst : st' = [] := by
          have := H1.2.2.2.1
          match st', this with
          | [], _ => rfl
          | _ :: _, z => exact z.elim
        subst hst
        have eg : nv α1 2 = nv α 2 := nv_le hle (by omega)
        have et : nv α1 3 = nv α 3 := nv_le hle (by omega)
        have eg1 : nv β 2 = nv α1 2 := nv_le H1.1 (by omega)
        have et1 : nv β 3 = nv α1 3 := nv_le H1.1 (by omega)
        have hb := hbd _ _ _ _ _ H2 (by decide +kernel)
        obtain ⟨f1, f2, f3, f4, f5⟩ := as_fx H1
        simp only [kh_sideOf_b43_1, fx_env, fx_c, fx_ne, fx_hf, wl_S, Nat.zero_add, Nat.reduceAdd, Nat.reduceDiv, Nat.reduceMod, List.getElem?_cons_zero, List.getElem?_cons_succ, if_true, and_true, true_and] at f1 f2 f3 f4 f5
        have fe0 : nv β 0 = 805 := by omega
        have fe4 : nv β 4 = 17 := by omega
        try simp only [fe0, fe4, Int.reduceToNat] at f2 f3 f4 f5
        rw [f5] at Ha ⊢
        refine ihj _ _ _ Ha (by omega) (by rw [nv_mu (v := 2) rfl]; omega) (by rw [nv_mu (v := 5) rfl]; omega)
      · have Ha := hd_go (q := kh_sideOf_a43) (n := 0) (by decide +kernel) hx H1 hxa hf
        have hst : st' = [] := by
          have := H1.2.2.2.1
          match st', this with
          | [], _ => rfl
          | _ :: _, z => exact z.elim
        subst hst
        have eg : nv α1 2 = nv α 2 := nv_le hle (by omega)
        have et : nv α1 3 = nv α 3 := nv_le hle (by omega)
        have eg1 : nv β 2 = nv α1 2 := nv_le H1.1 (by omega)
        have et1 : nv β 3 = nv α1 3 := nv_le H1.1 (by omega)
        have hb := hbd _ _ _ _ _ H2 (by decide +kernel)
        obtain ⟨f1, f2, f3, f4, f5⟩ := as_fx H1
        simp only [kh_sideOf_b43_2, fx_env, fx_c, fx_ne, fx_hf, wl_S, Nat.zero_add, Nat.reduceAdd, Nat.reduceDiv, Nat.reduceMod, List.getElem?_cons_zero, List.getElem?_cons_succ, if_true, and_true, true_and] at f1 f2 f3 f4 f5
        have fe0 : nv β 0 = 805 := by omega
        have fe4 : nv β 4 = 17 := by omega
        have fe5 : nv β 5 = 815 := by omega
        have fe6 : nv β 6 = 0 := by omega
        try simp only [fe0, fe4, fe5, fe6, Int.reduceToNat] at f2 f3 f4 f5
        rw [f5] at Ha ⊢
        refine ihj _ _ _ Ha (by omega) (by rw [nv_mu (v := 2) rfl]; omega) (by rw [nv_mu (v := 7) rfl]; omega)
      · have Ha := hd_go (q := kh_sideOf_a43) (n := 0) (by decide +kernel) hx H1 hxa hf
        have hst : st' = [] := by
          have := H1.2.2.2.1
          match st', this with
          | [], _ => rfl
          | _ :: _, z => exact z.elim
        subst hst
        have eg : nv α1 2 = nv α 2 := nv_le hle (by omega)
        have et : nv α1 3 = nv α 3 := nv_le hle (by omega)
        have eg1 : nv β 2 = nv α1 2 := nv_le H1.1 (by omega)
        have et1 : nv β 3 = nv α1 3 := nv_le H1.1 (by omega)
        have hb := hbd _ _ _ _ _ H2 (by decide +kernel)
        obtain ⟨f1, f2, f3, f4, f5⟩ := as_fx H1
        simp only [kh_sideOf_b43_3, fx_env, fx_c, fx_ne, fx_hf, wl_S, Nat.zero_add, Nat.reduceAdd, Nat.reduceDiv, Nat.reduceMod, List.getElem?_cons_zero, List.getElem?_cons_succ, if_true, and_true, true_and] at f1 f2 f3 f4 f5
        have fe0 : nv β 0 = 805 := by omega
        have fe4 : nv β 4 = 17 := by omega
        have fe5 : nv β 5 = 815 := by omega
        have fe6 : nv β 6 = 1 := by omega
        have fe7 : nv β 7 = 825 := by omega
        have fe10 : nv β 10 = 825 := by omega
        try simp only [fe0, fe4, fe5, fe6, fe7, fe10, Int.reduceToNat] at f2 f3 f4 f5
        rw [f5] at Ha ⊢
        refine ihj _ _ _ Ha (by omega) (by rw [nv_mu (v := 2) rfl]; omega) (by rw [nv_mu (v := 13) rfl]; omega)
      · have Ha := hd_go (q := kh_sideOf_a43) (n := 0) (by decide +kernel) hx H1 hxa hf
        have hst : st' = [] := by
          have := H1.2.2.2.1
          match st', this with
          | [], _ => rfl
          | _ :: _, z => exact z.elim
        subst hst
        have eg : nv α1 2 = nv α 2 := nv_le hle (by omega)
        have et : nv α1 3 = nv α 3 := nv_le hle (by omega)
        have eg1 : nv β 2 = nv α1 2 := nv_le H1.1 (by omega)
        have et1 : nv β 3 = nv α1 3 := nv_le H1.1 (by omega)
        have hb := hbd _ _ _ _ _ H2 (by decide +kernel)
        obtain ⟨f1, f2, f3, f4, f5⟩ := as_fx H1
        simp only [kh_sideOf_b43_4, fx_env, fx_c, fx_ne, fx_hf, wl_S, Nat.zero_add, Nat.reduceAdd, Nat.reduceDiv, Nat.reduceMod, List.getElem?_cons_zero, List.getElem?_cons_succ, if_true, and_true, true_and] at f1 f2 f3 f4 f5
        have fe0 : nv β 0 = 805 := by omega
        have fe4 : nv β 4 = 17 := by omega
        have fe5 : nv β 5 = 815 := by omega
        have fe6 : nv β 6 = 1 := by omega
        have fe7 : nv β 7 = 825 := by omega
        have fe10 : nv β 10 = 825 := by omega
        have fe13 : nv β 13 = 825 := by omega
        have fe15 : nv β 15 = 1 := by omega
        have fe16 : nv β 16 = 825 := by omega
        have fe18 : nv β 18 = 1 := by omega
        have fe19 : nv β 19 = 1 := by omega
        try simp only [fe0, fe4, fe5, fe6, fe7, fe10, fe13, fe15, fe16, fe18, fe19, Int.reduceToNat] at f2 f3 f4 f5
        obtain ⟨c0, c1, c2, c3, c4, c5, c6, c7, c8, c9⟩ := f2
        have oL := old_0 c5 rfl
        have oH := old_0 c3 rfl
        have d1 := c1
        simp only [wd_fl] at d1
        have d6 := c6
        simp only [wd_fl] at d6
        have d0 := c0
        simp only [wd_fl] at d0
        have d4 := c4
        simp only [wd_fl] at d4
        have hlh : lowI (nv β 3) < highI (nv β 3) := by
          have : nv β 3 / 3 ≤ 5 := by omega
          unfold highI lowI; (repeat' split) <;> omega
        have hR2 : sm_S (S2.1 825) 12 < sm_S (S'.1 825) 12 := by
          rw [f5, sm_i (by omega), sm_i (by omega), fw_i_row, if_neg (by omega), i32_of (by omega) (by omega)]
          have u1 : nv β 14 = nv β 8 := by omega
          have u2 : nv β 17 = nv β 11 := by omega
          rw [u1, u2, oL, oH]
          omega
        refine ihj _ _ _ Ha (by omega) (Or.inr (by omega)) (by rw [nv_mu (v := 20) rfl]; omega)
    obtain ⟨α1, hle, Hr⟩ := as_rec_in (pl := []) rfl H
    have hf := H.2.2.2.2.2.2.2.2.2.2.1
    have hl1 : α1.length = 3 := by rw [Hr.2.1.1]; rfl
    have hxa : al_le xs α1 := H.1.trans hle
    refine hd_seg G (na := 3) (fuel := 400) (first := true) (Bs := [kh_sideOf_b35_0, kh_sideOf_b35_1]) (by decide +kernel) hl1 Hr ?_
    intro q hq β lv' st' S' H1
    simp only [List.mem_cons, List.not_mem_nil, or_false] at hq
    rcases hq with rfl | rfl
    · exact hd_run G (ss := []) (fuel := 10) (by decide +kernel) (as_back H1 hxa hf)
    · have Ha := hd_go (q := kh_sideOf_a43) (n := 0) (by decide +kernel) hx H1 hxa hf
      have hst : st' = [] := by
        have := H1.2.2.2.1
        match st', this with
        | [], _ => rfl
        | _ :: _, z => exact z.elim
      subst hst
      obtain ⟨f1, f2, f3, f4, f5⟩ := as_fx H1
      simp only [kh_sideOf_b35_1, fx_env, fx_c, fx_ne, fx_hf, wl_S, Nat.zero_add, Nat.reduceAdd, Nat.reduceDiv, Nat.reduceMod, List.getElem?_cons_zero, List.getElem?_cons_succ, if_true, and_true, true_and] at f1 f2 f3 f4 f5
      have fe0 : nv β 0 = 805 := by omega
      have fe2 : nv β 2 = 1 := by omega
      have fe3 : nv β 3 = 0 := by omega
      have fe4 : nv β 4 = 0 := by omega
      try simp only [fe0, fe2, fe3, fe4, Int.reduceToNat] at f2 f3 f4 f5
      rw [f5] at Ha ⊢
      exact hI _ _ _ _ Ha (Int.le_refl _) (Or.inl (by rw [nv_mu (v := 3) rfl]; omega)) (Nat.lt_succ_self _)
  refine hd_segA G (na := 2) (K := 1) (fuel := 400) (an := [kh_sideOf_a2]) (ss := []) (Bs := [kh_sideOf_e0]) (by decide +kernel) hx H0 ?_
  intro q hq β lv' st' S' H1
  simp only [List.mem_cons, List.not_mem_nil, or_false] at hq
  rcases hq with rfl
  · have hst : st' = [] := by
      have := H1.2.2.2.1
      match st', this with
      | [], _ => rfl
      | _ :: _, z => exact z.elim
    subst hst
    exact hW _ _ _ _ (hd_go (q := kh_sideOf_a35) (n := 0) (by decide +kernel) hx H1 al_le.refl H0.2.2.2.2.2.2.2.2.2.2.1) (Nat.lt_succ_self _))
