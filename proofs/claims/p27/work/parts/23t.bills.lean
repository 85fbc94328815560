/-! ===== the bill, the books' day, the day ===== -/
def P_bBill : List av_X → fw_S → Prop := fun xs S => (S.1 806 (1820 + 20 * nv xs 1).toNat).toInt ≤ 32
def R_bBill : List av_X → fw_S → fw_O → fw_S → Prop := fun xs S _ S' => (S'.1 806 (1820 + 20 * nv xs 1).toNat).toInt = (S.1 806 (1820 + 20 * nv xs 1).toNat).toInt + 1 ∧ (∀ c' : Nat, c' < 10 → (c' : Int) ≠ nv xs 1 → S'.1 806 (1820 + 20 * c') = S.1 806 (1820 + 20 * c')) ∧ S'.1 806 0 = S.1 806 0
theorem ct_eachPR {fl : fl_T} {mi fr lo mc : Nat} {th : av_T} {mod : List md_T} {P : List av_X → fw_S → Prop} {R : List av_X → fw_S → fw_O → fw_S → Prop} (K : Nat → ct_T) (hK : ∀ v, v < 10 → ct_okPR fl (K v) P R)
    (hKe : ∀ v, v < 10 → ∃ md : List md_T, K v = (mi, [th, (0, (v : Int), (v : Int), 0)], [], [], [(0, (0, 0, 0, 0), [th, (0, (v : Int), (v : Int), 0)], [], ([], []))], md, fr, lo, mc) ∧ md.all (fun d => md_ok mod d.1.1 d.1.2 d.2) = true) :
    ct_okPR fl (mi, [th, (0, 0, 9, 1)], [], [], [(0, (0, 0, 0, 0), [th, (0, 0, 9, 1)], [], ([], []))], mod, fr, lo, mc) P R := by
  intro y hy l D tc ad kd N sm xs S hKd h1 h2 h3 h4 hp0
  obtain ⟨x1, x2, x3⟩ := en_nv (i := 1) h1 (q := ((0, 0, 9, 1), none)) rfl
  dsimp only at x1 x2 x3
  have hv : (((nv xs 1).toNat : Nat) : Int) = nv xs 1 := Int.toNat_of_nonneg x2
  have h5 := hK (nv xs 1).toNat (by omega)
  obtain ⟨md, e1, e2⟩ := hKe (nv xs 1).toNat (by omega)
  rw [hv] at e1
  rw [e1] at h5
  have hin : en_in xs (en_of [th, (0, nv xs 1, nv xs 1, 0)]) := by
    refine ⟨h1.1, fun i q hq => ?_⟩
    match i, hq with
    | 0, hq =>
      cases hq
      exact h1.2 0 (th, none) rfl
    | 1, hq =>
      cases hq
      obtain ⟨x0, y1, y2, -⟩ := h1.2 1 ((0, 0, 9, 1), none) rfl
      cases y1.symm.trans x1
      refine ⟨_, x1, ⟨rfl, y2.2.1, Int.le_refl _, Int.le_refl _, by dsimp only; rw [Int.sub_self]; exact Int.dvd_zero _⟩, fun _ _ z => by cases z⟩
  have h6 := h5 y hy l D tc ad kd N sm xs S hKd hin (fun _ z => by cases z) (fun _ z => by cases z) h4 hp0
  refine fw_Met_mono h6 (fun oc S' hp => ⟨?_, hp.2⟩)
  obtain ⟨q, q1, q2, q3, q4, q5, q6, q7, q8⟩ := hp.1
  rcases List.mem_singleton.mp q1 with rfl
  exact ⟨_, List.mem_singleton.mpr rfl, q2, h1, fun _ z => (by cases z), fun _ z => (by cases z), fun _ z => (by cases z), q7, fr_comp ⟨fun _ _ _ => ⟨rfl, rfl⟩, rfl⟩ q8 e2⟩
abbrev kh_bC0_y : mt_T := (⟨"UtilityWorksModel", "bC", "(II)I"⟩, prog_14_method_227_code, 2, some .int, 12, 0, 2, 33186, 33185, 0, 21014)
def kh_bC0 : ct_T := (413, [(0, 0, 9, 1), (0, 0, 0, 0)], [], [], [(1, (0, 1820, 2000, 20), [(0, 0, 9, 1), (0, 0, 0, 0)], [], ([], [(15, 0, 1)]))], [], 0, 0, 0)
def kh_bC0_b0_0 : sg_T := (10, 0, ([((0, 0, 9, 1), none), ((0, 0, 0, 0), none), ((0, 1820, 1820, 0), none), ((0, 20, 20, 0), none), ((0, 0, 180, 20), none), ((0, 1820, 2000, 20), none), ((0, 1820, 2000, 20), some (5, 0))], [(0, 0), (1, 1)], [6], [], [], [(500006, 5, 1), (500005, 2, 4), (700004, 3, 0)], [], [], some []))
set_option maxHeartbeats 16000000 in
set_option maxRecDepth 8000 in
theorem kh_bC0_ok : ct_ok wd_fl2 kh_bC0 := ct_hand (ff := wd_ff2) (y := kh_bC0_y) (Cs := []) wd_fl2_ok rfl (List.forall_mem_nil _) (by decide +kernel) (fun l D tc ad kd N sm xs S p e s m args below meth c sz lv G H0 => by
  have hx : xs.length = 2 := by rw [H0.2.1.1]; rfl
  obtain ⟨α1, hle, Hr⟩ := as_recM (pl := []) [] (by decide +kernel) H0
  have hf := H0.2.2.2.2.2.2.2.2.2.2.1
  have hl1 : α1.length = 2 := by rw [Hr.2.1.1]; rfl
  have hl0 : xs.length = 2 := by rw [H0.2.1.1]; rfl
  have hxa : al_le xs α1 := H0.1.trans hle
  obtain ⟨g1, -, g3, g4, -⟩ := as_fx Hr
  have g0 : (0 ≤ nv α1 0 ∧ nv α1 0 ≤ 9) ∧ (0 ≤ nv α1 1 ∧ nv α1 1 ≤ 0) ∧ True := by
    refine ⟨by have h := (en_nv (i := 0) Hr.2.1 rfl).2; exact h, by have h := (en_nv (i := 1) Hr.2.1 rfl).2; exact h, trivial⟩
  have r0 : nv α1 0 = nv xs 0 := nv_le hle (by omega)
  have r1 : nv α1 1 = nv xs 1 := nv_le hle (by omega)
  refine hd_segM G (na := 2) (fuel := 600) (first := true) (Bs := [kh_bC0_b0_0]) (by decide +kernel) hl1 Hr ?_
  intro q hq β lv' st' S' H1
  simp only [List.mem_cons, List.not_mem_nil, or_false] at hq
  rcases hq with rfl
  · obtain ⟨f1, f2, f3, f4, f5⟩ := as_fx H1
    simp only [kh_bC0_b0_0, fx_env, fx_c, fx_ne, fx_hf, wl_S, Nat.zero_add, Nat.reduceAdd, Nat.reduceDiv, Nat.reduceMod, List.getElem?_cons_zero, List.getElem?_cons_succ, if_true, and_true, true_and] at f1 f2 f3 f4 f5
    have fe1 : nv β 1 = 0 := by omega
    have fe2 : nv β 2 = 1820 := by omega
    have fe3 : nv β 3 = 20 := by omega
    try simp only [fe1, fe2, fe3, Int.reduceToNat] at f2 f3 f4 f5
    have s0 : nv β 0 = nv α1 0 := nv_le H1.1 (by omega)
    have s1 : nv β 1 = nv α1 1 := nv_le H1.1 (by omega)
    obtain ⟨c0, c1, c2⟩ := f2
    refine hd_retI G (v := 6) (by decide +kernel) (as_backM H1 (by decide +kernel) hxa hf) _ List.mem_cons_self rfl (by decide +kernel) (by decide) (fun w hw => ?_)
    rcases List.mem_singleton.mp hw with rfl
    have g0' := (en_nv (i := 0) H0.2.1 rfl).1
    have g1' := (en_nv (i := 1) H0.2.1 rfl).1
    refine ⟨_, _, g0', g1', ?_⟩
    refine fl2_o (by decide) (fl1_o (by decide) ?_)
    show nv β 6 = 1820 + 20 * nv xs 0 + nv xs 1
    omega)
theorem bl_fr {mod : List md_T} {S S' : fw_S} (h : fr_in mod S S') (h1 : mod.all (fun d => md_off d 806 806 (1820, 2000, 20)) = true) (c : Nat) (hc : c < 10) : S'.1 806 (1820 + 20 * c) = S.1 806 (1820 + 20 * c) := fr_pg h 806 _ h1 (pg_mk (by omega) (by omega) (by omega))
def bl_free (j : Nat) : Bool := wd_gt.all (fun q => !(q.1 == (806, 806)) || decide (j < q.2.1.1) || decide (q.2.1.2.1 < j) || decide ((j - q.2.1.1) % q.2.1.2.2 ≠ 0))
theorem bl_free_ok : ∀ c : Fin 10, ∀ w : Fin 15, 6 ≤ w.val → bl_free (1820 + 20 * c.val + w.val) = true := by decide +kernel
theorem bl_free_in {j : Nat} (h : bl_free j = true) {q : rg_T} (hq : q ∈ wd_gt) (hc : q.1 = (806, 806)) (hj : pg_in q.2.1 j) : False := by
  have hb := List.all_eq_true.mp h q hq
  obtain ⟨h1, h2, h3⟩ := hj
  rw [hc] at hb
  simp only [beq_self_eq_true, Bool.not_true, Bool.false_or, Bool.or_eq_true, decide_eq_true_eq] at hb
  rcases hb with (g | g) | g
  · omega
  · omega
  · exact g (Nat.mod_eq_zero_of_dvd h3)
theorem bl_put {S1 : fw_S} {c w : Nat} {x : Int32} (h : gi_in S1) (hc : c < 10) (h1 : 6 ≤ w) (h2 : w < 15) : gi_in (fw_i S1 806 (1820 + 20 * c + w) x) :=
  gi_put h (fun q hq hc' hj => (bl_free_in (bl_free_ok ⟨c, hc⟩ ⟨w, h2⟩ h1) hq hc' hj).elim) wd_gt_c
/- UtilityWorksModel mM -/
def kh_646 : ct_T := (340, [(0, 0, 9, 1), (0, 0, 2, 1), (0, 3, 3, 0)], [], [], [(1, (0, 1464, 1783, 11), [(0, 0, 9, 1), (0, 0, 2, 1), (0, 3, 3, 0)], [], ([], []))], [], 0, 0, 0)
theorem kh_646_ok : ct_ok wd_fl2 kh_646 := ct_of (ff := wd_ff2) (y := (⟨"UtilityWorksModel", "mM", "(III)I"⟩, prog_14_method_193_code, 3, some .int, 12, 0, 3, 31175, 31174, 0, 21014)) (Cs := []) (an := []) (ss := []) (K := 1) (fuel := 4000) wd_fl2_ok rfl (List.forall_mem_nil _) (by decide +kernel)
/- UtilityWorksModel bC -/
def kh_647 : ct_T := (413, [(0, 0, 9, 1), (0, 9, 11, 1)], [], [], [(1, (0, 1829, 2011, 1), [(0, 0, 9, 1), (0, 9, 11, 1)], [], ([], []))], [], 0, 0, 0)
theorem kh_647_ok : ct_ok wd_fl2 kh_647 := ct_of (ff := wd_ff2) (y := (⟨"UtilityWorksModel", "bC", "(II)I"⟩, prog_14_method_227_code, 2, some .int, 12, 0, 2, 33186, 33185, 0, 21014)) (Cs := []) (an := []) (ss := []) (K := 1) (fuel := 4000) wd_fl2_ok rfl (List.forall_mem_nil _) (by decide +kernel)
/- UtilityWorksModel isConnected -/
def kh_648 : ct_T := (451, [(2, 805, 805, 0), (0, 0, 9, 1), (0, 0, 2, 1)], [], [], [(1, (0, 0, 0, 0), [(2, 805, 805, 0), (0, 0, 9, 1), (0, 0, 2, 1)], [], ([], [])), (1, (0, 1, 1, 0), [(2, 805, 805, 0), (0, 0, 9, 1), (0, 0, 2, 1)], [], ([], []))], [], 1, 21, 0)
theorem kh_648_ok : ct_ok wd_fl2 kh_648 := ct_of (ff := wd_ff2) (y := (⟨"UtilityWorksModel", "isConnected", "(II)Z"⟩, prog_14_method_203_code, 3, some .boolean, 12, 1, 2, 34098, 34097, 10007, 21014)) (Cs := [kh_396]) (an := []) (ss := []) (K := 1) (fuel := 4000) wd_fl2_ok rfl (List.forall_mem_cons.mpr ⟨kh_396_l2, (List.forall_mem_nil _)⟩) (by decide +kernel)
/- UtilityWorksModel bGuesses -/
def kh_649 : ct_T := (510, [(2, 805, 805, 0), (0, 0, 9, 1), (0, 0, 2, 1)], [], [], [(1, (0, 1, 1, 0), [(2, 805, 805, 0), (0, 0, 9, 1), (0, 0, 2, 1)], [], ([], [])), (1, (0, 0, 0, 0), [(2, 805, 805, 0), (0, 0, 9, 1), (0, 0, 2, 1)], [], ([], []))], [], 2, 43, 0)
theorem kh_649_ok : ct_ok wd_fl2 kh_649 := ct_of (ff := wd_ff2) (y := (⟨"UtilityWorksModel", "bGuesses", "(II)Z"⟩, prog_14_method_245_code, 3, some .boolean, 12, 1, 2, 35093, 35092, 14000, 21014)) (Cs := [kh_647, kh_648]) (an := [(29, 0, ([((2, 805, 805, 0), none), ((0, 0, 9, 1), none), ((0, 0, 2, 1), none)], [(0, 0), (1, 1), (2, 2)], [], [], [], [], [], [], none), [(0, 0, 99971)])]) (ss := []) (K := 1) (fuel := 4000) wd_fl2_ok rfl (List.forall_mem_cons.mpr ⟨kh_647_ok, (List.forall_mem_cons.mpr ⟨kh_648_ok, (List.forall_mem_nil _)⟩)⟩) (by decide +kernel)
/- UtilityWorksModel mM -/
def kh_650 : ct_T := (340, [(0, 0, 9, 1), (0, 0, 2, 1), (0, 4, 4, 0)], [], [], [(1, (0, 1465, 1784, 11), [(0, 0, 9, 1), (0, 0, 2, 1), (0, 4, 4, 0)], [], ([], []))], [], 0, 0, 0)
theorem kh_650_ok : ct_ok wd_fl2 kh_650 := ct_of (ff := wd_ff2) (y := (⟨"UtilityWorksModel", "mM", "(III)I"⟩, prog_14_method_193_code, 3, some .int, 12, 0, 3, 31175, 31174, 0, 21014)) (Cs := []) (an := []) (ss := []) (K := 1) (fuel := 4000) wd_fl2_ok rfl (List.forall_mem_nil _) (by decide +kernel)
/- UtilityWorksModel mM -/
def kh_651 : ct_T := (340, [(0, 0, 9, 1), (0, 0, 2, 1), (0, 9, 9, 0)], [], [], [(1, (0, 1470, 1789, 11), [(0, 0, 9, 1), (0, 0, 2, 1), (0, 9, 9, 0)], [], ([], []))], [], 0, 0, 0)
theorem kh_651_ok : ct_ok wd_fl2 kh_651 := ct_of (ff := wd_ff2) (y := (⟨"UtilityWorksModel", "mM", "(III)I"⟩, prog_14_method_193_code, 3, some .int, 12, 0, 3, 31175, 31174, 0, 21014)) (Cs := []) (an := []) (ss := []) (K := 1) (fuel := 4000) wd_fl2_ok rfl (List.forall_mem_nil _) (by decide +kernel)
/- UtilityWorksModel mM -/
def kh_652 : ct_T := (340, [(0, 0, 9, 1), (0, 0, 2, 1), (0, 6, 6, 0)], [], [], [(1, (0, 1467, 1786, 11), [(0, 0, 9, 1), (0, 0, 2, 1), (0, 6, 6, 0)], [], ([], []))], [], 0, 0, 0)
theorem kh_652_ok : ct_ok wd_fl2 kh_652 := ct_of (ff := wd_ff2) (y := (⟨"UtilityWorksModel", "mM", "(III)I"⟩, prog_14_method_193_code, 3, some .int, 12, 0, 3, 31175, 31174, 0, 21014)) (Cs := []) (an := []) (ss := []) (K := 1) (fuel := 4000) wd_fl2_ok rfl (List.forall_mem_nil _) (by decide +kernel)
/- UtilityWorksModel mM -/
def kh_653 : ct_T := (340, [(0, 0, 9, 1), (0, 0, 2, 1), (0, 8, 8, 0)], [], [], [(1, (0, 1469, 1788, 11), [(0, 0, 9, 1), (0, 0, 2, 1), (0, 8, 8, 0)], [], ([], []))], [], 0, 0, 0)
theorem kh_653_ok : ct_ok wd_fl2 kh_653 := ct_of (ff := wd_ff2) (y := (⟨"UtilityWorksModel", "mM", "(III)I"⟩, prog_14_method_193_code, 3, some .int, 12, 0, 3, 31175, 31174, 0, 21014)) (Cs := []) (an := []) (ss := []) (K := 1) (fuel := 4000) wd_fl2_ok rfl (List.forall_mem_nil _) (by decide +kernel)
/- UtilityWorksModel mC -/
def kh_654 : ct_T := (338, [(0, 0, 9, 1), (0, 3, 5, 1)], [], [], [(1, (0, 1304, 1450, 1), [(0, 0, 9, 1), (0, 3, 5, 1)], [], ([], []))], [], 0, 0, 0)
theorem kh_654_ok : ct_ok wd_fl2 kh_654 := ct_of (ff := wd_ff2) (y := (⟨"UtilityWorksModel", "mC", "(II)I"⟩, prog_14_method_192_code, 2, some .int, 12, 0, 2, 31168, 31167, 0, 21014)) (Cs := []) (an := []) (ss := []) (K := 1) (fuel := 4000) wd_fl2_ok rfl (List.forall_mem_nil _) (by decide +kernel)
/- UtilityWorksModel needOf -/
def kh_655 : ct_T := (452, [(2, 805, 805, 0), (0, 0, 9, 1), (0, 0, 2, 1)], [], [], [(1, (0, (-2147483648), 2147483647, 1), [(2, 805, 805, 0), (0, 0, 9, 1), (0, 0, 2, 1)], [], ([], []))], [], 1, 21, 0)
theorem kh_655_ok : ct_ok wd_fl2 kh_655 := ct_of (ff := wd_ff2) (y := (⟨"UtilityWorksModel", "needOf", "(II)I"⟩, prog_14_method_202_code, 3, some .int, 12, 1, 2, 34102, 34101, 10008, 21014)) (Cs := [kh_654]) (an := []) (ss := []) (K := 1) (fuel := 4000) wd_fl2_ok rfl (List.forall_mem_cons.mpr ⟨kh_654_ok, (List.forall_mem_nil _)⟩) (by decide +kernel)
/- UtilityWorksModel mRate -/
def kh_656 : ct_T := (512, [(2, 805, 805, 0), (0, 0, 9, 1), (0, 0, 2, 1)], [], [], [(1, (0, (-2147483648), 2147483647, 1), [(2, 805, 805, 0), (0, 0, 9, 1), (0, 0, 2, 1)], [], ([], []))], [], 2, 43, 0)
theorem kh_656_ok : ct_ok wd_fl2 kh_656 := ct_of (ff := wd_ff2) (y := (⟨"UtilityWorksModel", "mRate", "(II)I"⟩, prog_14_method_208_code, 4, some .int, 12, 1, 2, 35101, 35100, 14002, 21014)) (Cs := [kh_651, kh_652, kh_653, kh_655]) (an := [(32, 0, ([((2, 805, 805, 0), none), ((0, 0, 9, 1), none), ((0, 0, 2, 1), none), ((0, (-2147483648), 2147483647, 1), none)], [(0, 0), (1, 1), (2, 2), (3, 3)], [], [], [], [], [], [], none), [(0, 0, 99968)])]) (ss := []) (K := 1) (fuel := 4000) wd_fl2_ok rfl (List.forall_mem_cons.mpr ⟨kh_651_ok, (List.forall_mem_cons.mpr ⟨kh_652_ok, (List.forall_mem_cons.mpr ⟨kh_653_ok, (List.forall_mem_cons.mpr ⟨kh_655_ok, (List.forall_mem_nil _)⟩)⟩)⟩)⟩) (by decide +kernel)
/- UtilityWorksModel mGuess -/
def kh_657 : ct_T := (511, [(2, 805, 805, 0), (0, 0, 9, 1), (0, 0, 2, 1)], [], [], [(1, (0, (-2147483648), 2147483647, 1), [(2, 805, 805, 0), (0, 0, 9, 1), (0, 0, 2, 1)], [], ([], []))], [], 3, 66, 0)
theorem kh_657_ok : ct_ok wd_fl2 kh_657 := ct_of (ff := wd_ff2) (y := (⟨"UtilityWorksModel", "mGuess", "(II)I"⟩, prog_14_method_210_code, 4, some .int, 12, 1, 2, 35097, 35096, 14001, 21014)) (Cs := [kh_650, kh_656, kh_405, kh_605]) (an := []) (ss := []) (K := 1) (fuel := 4000) wd_fl2_ok rfl (List.forall_mem_cons.mpr ⟨kh_650_ok, (List.forall_mem_cons.mpr ⟨kh_656_ok, (List.forall_mem_cons.mpr ⟨kh_405_l2, (List.forall_mem_cons.mpr ⟨kh_605_ok, (List.forall_mem_nil _)⟩)⟩)⟩)⟩) (by decide +kernel)
/- UtilityWorksModel bC -/
def kh_658 : ct_T := (413, [(0, 0, 9, 1), (0, 6, 8, 1)], [], [], [(1, (0, 1826, 2008, 1), [(0, 0, 9, 1), (0, 6, 8, 1)], [], ([], []))], [], 0, 0, 0)
theorem kh_658_ok : ct_ok wd_fl2 kh_658 := ct_of (ff := wd_ff2) (y := (⟨"UtilityWorksModel", "bC", "(II)I"⟩, prog_14_method_227_code, 2, some .int, 12, 0, 2, 33186, 33185, 0, 21014)) (Cs := []) (an := []) (ss := []) (K := 1) (fuel := 4000) wd_fl2_ok rfl (List.forall_mem_nil _) (by decide +kernel)
/- UtilityWorksModel mC -/
def kh_659 : ct_T := (338, [(0, 0, 9, 1), (0, 9, 11, 1)], [], [], [(1, (0, 1310, 1456, 1), [(0, 0, 9, 1), (0, 9, 11, 1)], [], ([], []))], [], 0, 0, 0)
theorem kh_659_ok : ct_ok wd_fl2 kh_659 := ct_of (ff := wd_ff2) (y := (⟨"UtilityWorksModel", "mC", "(II)I"⟩, prog_14_method_192_code, 2, some .int, 12, 0, 2, 31168, 31167, 0, 21014)) (Cs := []) (an := []) (ss := []) (K := 1) (fuel := 4000) wd_fl2_ok rfl (List.forall_mem_nil _) (by decide +kernel)
/- UtilityWorksModel bC -/
def kh_660 : ct_T := (413, [(0, 0, 9, 1), (0, 12, 14, 1)], [], [], [(1, (0, 1832, 2014, 1), [(0, 0, 9, 1), (0, 12, 14, 1)], [], ([], []))], [], 0, 0, 0)
theorem kh_660_ok : ct_ok wd_fl2 kh_660 := ct_of (ff := wd_ff2) (y := (⟨"UtilityWorksModel", "bC", "(II)I"⟩, prog_14_method_227_code, 2, some .int, 12, 0, 2, 33186, 33185, 0, 21014)) (Cs := []) (an := []) (ss := []) (K := 1) (fuel := 4000) wd_fl2_ok rfl (List.forall_mem_nil _) (by decide +kernel)
/- UtilityWorksModel bReckon -/
def kh_661 : ct_T := (509, [(2, 805, 805, 0), (0, 0, 9, 1)], [], [], [(1, (1, (-9223372036854775808), 9223372036854775807, 1), [(2, 805, 805, 0), (0, 0, 9, 1)], [], ([], []))], [((805, 805), (65, 65, 0)), ((859, 859), (0, 2, 1))], 4, 89, 0)
theorem kh_661_ok : ct_ok wd_fl2 kh_661 := ct_of (ff := wd_ff2) (y := (⟨"UtilityWorksModel", "bReckon", "(I)J"⟩, prog_14_method_246_code, 11, some .long, 12, 1, 1, 35089, 35088, 13015, 21014)) (Cs := [kh_646, kh_649, kh_657, kh_658, kh_648, kh_659, kh_660]) (an := [(8, 0, ([((2, 805, 805, 0), none), ((0, 0, 9, 1), none), ((1, (-9223372036854775808), 9223372036854775807, 1), none), ((0, (-2147483648), 2147483647, 1), none), ((0, 0, 3, 1), none)], [(0, 0), (1, 1), (2, 2), (4, 3), (5, 4)], [], [], [], [], [], [], none), [(0, 0, 99992), (1, 4, 3), (0, 0, 99992)])]) (ss := []) (K := 3) (fuel := 4000) wd_fl2_ok rfl (List.forall_mem_cons.mpr ⟨kh_646_ok, (List.forall_mem_cons.mpr ⟨kh_649_ok, (List.forall_mem_cons.mpr ⟨kh_657_ok, (List.forall_mem_cons.mpr ⟨kh_658_ok, (List.forall_mem_cons.mpr ⟨kh_648_ok, (List.forall_mem_cons.mpr ⟨kh_659_ok, (List.forall_mem_cons.mpr ⟨kh_660_ok, (List.forall_mem_nil _)⟩)⟩)⟩)⟩)⟩)⟩)⟩) (by decide +kernel)
/- UtilityWorksModel bC -/
def kh_662 : ct_T := (413, [(0, 0, 9, 1), (0, 9, 9, 0)], [], [], [(1, (0, 1829, 2009, 20), [(0, 0, 9, 1), (0, 9, 9, 0)], [], ([], []))], [], 0, 0, 0)
theorem kh_662_ok : ct_ok wd_fl2 kh_662 := ct_of (ff := wd_ff2) (y := (⟨"UtilityWorksModel", "bC", "(II)I"⟩, prog_14_method_227_code, 2, some .int, 12, 0, 2, 33186, 33185, 0, 21014)) (Cs := []) (an := []) (ss := []) (K := 1) (fuel := 4000) wd_fl2_ok rfl (List.forall_mem_nil _) (by decide +kernel)
/- UtilityWorksModel bGuesses -/
def kh_663 : ct_T := (510, [(2, 805, 805, 0), (0, 0, 9, 1), (0, 0, 0, 0)], [], [], [(1, (0, 1, 1, 0), [(2, 805, 805, 0), (0, 0, 9, 1), (0, 0, 0, 0)], [], ([], [])), (1, (0, 0, 0, 0), [(2, 805, 805, 0), (0, 0, 9, 1), (0, 0, 0, 0)], [], ([], []))], [], 2, 43, 0)
theorem kh_663_ok : ct_ok wd_fl2 kh_663 := ct_of (ff := wd_ff2) (y := (⟨"UtilityWorksModel", "bGuesses", "(II)Z"⟩, prog_14_method_245_code, 3, some .boolean, 12, 1, 2, 35093, 35092, 14000, 21014)) (Cs := [kh_662, kh_397]) (an := [(29, 0, ([((2, 805, 805, 0), none), ((0, 0, 9, 1), none), ((0, 0, 0, 0), none)], [(0, 0), (1, 1), (2, 2)], [], [], [], [], [], [], none), [(0, 0, 99971)])]) (ss := []) (K := 1) (fuel := 4000) wd_fl2_ok rfl (List.forall_mem_cons.mpr ⟨kh_662_ok, (List.forall_mem_cons.mpr ⟨kh_397_l2, (List.forall_mem_nil _)⟩)⟩) (by decide +kernel)
/- UtilityWorksModel mM -/
def kh_664 : ct_T := (340, [(0, 0, 9, 1), (0, 0, 0, 0), (0, 4, 4, 0)], [], [], [(1, (0, 1465, 1762, 33), [(0, 0, 9, 1), (0, 0, 0, 0), (0, 4, 4, 0)], [], ([], []))], [], 0, 0, 0)
theorem kh_664_ok : ct_ok wd_fl2 kh_664 := ct_of (ff := wd_ff2) (y := (⟨"UtilityWorksModel", "mM", "(III)I"⟩, prog_14_method_193_code, 3, some .int, 12, 0, 3, 31175, 31174, 0, 21014)) (Cs := []) (an := []) (ss := []) (K := 1) (fuel := 4000) wd_fl2_ok rfl (List.forall_mem_nil _) (by decide +kernel)
/- UtilityWorksModel mM -/
def kh_665 : ct_T := (340, [(0, 0, 9, 1), (0, 0, 0, 0), (0, 9, 9, 0)], [], [], [(1, (0, 1470, 1767, 33), [(0, 0, 9, 1), (0, 0, 0, 0), (0, 9, 9, 0)], [], ([], []))], [], 0, 0, 0)
theorem kh_665_ok : ct_ok wd_fl2 kh_665 := ct_of (ff := wd_ff2) (y := (⟨"UtilityWorksModel", "mM", "(III)I"⟩, prog_14_method_193_code, 3, some .int, 12, 0, 3, 31175, 31174, 0, 21014)) (Cs := []) (an := []) (ss := []) (K := 1) (fuel := 4000) wd_fl2_ok rfl (List.forall_mem_nil _) (by decide +kernel)
/- UtilityWorksModel mM -/
def kh_666 : ct_T := (340, [(0, 0, 9, 1), (0, 0, 0, 0), (0, 6, 6, 0)], [], [], [(1, (0, 1467, 1764, 33), [(0, 0, 9, 1), (0, 0, 0, 0), (0, 6, 6, 0)], [], ([], []))], [], 0, 0, 0)
theorem kh_666_ok : ct_ok wd_fl2 kh_666 := ct_of (ff := wd_ff2) (y := (⟨"UtilityWorksModel", "mM", "(III)I"⟩, prog_14_method_193_code, 3, some .int, 12, 0, 3, 31175, 31174, 0, 21014)) (Cs := []) (an := []) (ss := []) (K := 1) (fuel := 4000) wd_fl2_ok rfl (List.forall_mem_nil _) (by decide +kernel)
/- UtilityWorksModel mM -/
def kh_667 : ct_T := (340, [(0, 0, 9, 1), (0, 0, 0, 0), (0, 8, 8, 0)], [], [], [(1, (0, 1469, 1766, 33), [(0, 0, 9, 1), (0, 0, 0, 0), (0, 8, 8, 0)], [], ([], []))], [], 0, 0, 0)
theorem kh_667_ok : ct_ok wd_fl2 kh_667 := ct_of (ff := wd_ff2) (y := (⟨"UtilityWorksModel", "mM", "(III)I"⟩, prog_14_method_193_code, 3, some .int, 12, 0, 3, 31175, 31174, 0, 21014)) (Cs := []) (an := []) (ss := []) (K := 1) (fuel := 4000) wd_fl2_ok rfl (List.forall_mem_nil _) (by decide +kernel)
/- UtilityWorksModel mRate -/
def kh_668 : ct_T := (512, [(2, 805, 805, 0), (0, 0, 9, 1), (0, 0, 0, 0)], [], [], [(1, (0, (-2147483648), 2147483647, 1), [(2, 805, 805, 0), (0, 0, 9, 1), (0, 0, 0, 0)], [], ([], []))], [], 2, 43, 0)
theorem kh_668_ok : ct_ok wd_fl2 kh_668 := ct_of (ff := wd_ff2) (y := (⟨"UtilityWorksModel", "mRate", "(II)I"⟩, prog_14_method_208_code, 4, some .int, 12, 1, 2, 35101, 35100, 14002, 21014)) (Cs := [kh_665, kh_666, kh_667, kh_399]) (an := [(32, 0, ([((2, 805, 805, 0), none), ((0, 0, 9, 1), none), ((0, 0, 0, 0), none), ((0, (-2147483648), 2147483647, 1), none)], [(0, 0), (1, 1), (2, 2), (3, 3)], [], [], [], [], [], [], none), [(0, 0, 99968)])]) (ss := []) (K := 1) (fuel := 4000) wd_fl2_ok rfl (List.forall_mem_cons.mpr ⟨kh_665_ok, (List.forall_mem_cons.mpr ⟨kh_666_ok, (List.forall_mem_cons.mpr ⟨kh_667_ok, (List.forall_mem_cons.mpr ⟨kh_399_l2, (List.forall_mem_nil _)⟩)⟩)⟩)⟩) (by decide +kernel)
/- UtilityWorksModel mGuess -/
def kh_669 : ct_T := (511, [(2, 805, 805, 0), (0, 0, 9, 1), (0, 0, 0, 0)], [], [], [(1, (0, (-2147483648), 2147483647, 1), [(2, 805, 805, 0), (0, 0, 9, 1), (0, 0, 0, 0)], [], ([], []))], [], 3, 66, 0)
theorem kh_669_ok : ct_ok wd_fl2 kh_669 := ct_of (ff := wd_ff2) (y := (⟨"UtilityWorksModel", "mGuess", "(II)I"⟩, prog_14_method_210_code, 4, some .int, 12, 1, 2, 35097, 35096, 14001, 21014)) (Cs := [kh_664, kh_668, kh_405, kh_605]) (an := []) (ss := []) (K := 1) (fuel := 4000) wd_fl2_ok rfl (List.forall_mem_cons.mpr ⟨kh_664_ok, (List.forall_mem_cons.mpr ⟨kh_668_ok, (List.forall_mem_cons.mpr ⟨kh_405_l2, (List.forall_mem_cons.mpr ⟨kh_605_ok, (List.forall_mem_nil _)⟩)⟩)⟩)⟩) (by decide +kernel)
/- UtilityWorksModel mM -/
def kh_670 : ct_T := (340, [(0, 0, 9, 1), (0, 0, 0, 0), (0, 3, 3, 0)], [], [], [(1, (0, 1464, 1761, 33), [(0, 0, 9, 1), (0, 0, 0, 0), (0, 3, 3, 0)], [], ([], []))], [], 0, 0, 0)
theorem kh_670_ok : ct_ok wd_fl2 kh_670 := ct_of (ff := wd_ff2) (y := (⟨"UtilityWorksModel", "mM", "(III)I"⟩, prog_14_method_193_code, 3, some .int, 12, 0, 3, 31175, 31174, 0, 21014)) (Cs := []) (an := []) (ss := []) (K := 1) (fuel := 4000) wd_fl2_ok rfl (List.forall_mem_nil _) (by decide +kernel)
/- UtilityWorksModel mM -/
def kh_671 : ct_T := (340, [(0, 0, 9, 1), (0, 0, 0, 0), (0, 5, 5, 0)], [], [], [(1, (0, 1466, 1763, 33), [(0, 0, 9, 1), (0, 0, 0, 0), (0, 5, 5, 0)], [], ([], []))], [], 0, 0, 0)
theorem kh_671_ok : ct_ok wd_fl2 kh_671 := ct_of (ff := wd_ff2) (y := (⟨"UtilityWorksModel", "mM", "(III)I"⟩, prog_14_method_193_code, 3, some .int, 12, 0, 3, 31175, 31174, 0, 21014)) (Cs := []) (an := []) (ss := []) (K := 1) (fuel := 4000) wd_fl2_ok rfl (List.forall_mem_nil _) (by decide +kernel)
/- UtilityWorksModel mEstimate -/
def kh_672 : ct_T := (513, [(2, 805, 805, 0), (0, 0, 9, 1), (0, 0, 0, 0)], [], [], [(1, (0, (-2147483648), 2147483647, 1), [(2, 805, 805, 0), (0, 0, 9, 1), (0, 0, 0, 0)], [], ([], []))], [((806, 806), (1464, 1761, 33)), ((806, 806), (1465, 1762, 33)), ((806, 806), (1466, 1763, 33))], 4, 89, 0)
theorem kh_672_ok : ct_ok wd_fl2 kh_672 := ct_of (ff := wd_ff2) (y := (⟨"UtilityWorksModel", "mEstimate", "(II)I"⟩, prog_14_method_211_code, 4, some .int, 12, 1, 2, 35106, 35105, 14003, 21014)) (Cs := [kh_669, kh_670, kh_664, kh_405, kh_671]) (an := []) (ss := []) (K := 1) (fuel := 4000) wd_fl2_ok rfl (List.forall_mem_cons.mpr ⟨kh_669_ok, (List.forall_mem_cons.mpr ⟨kh_670_ok, (List.forall_mem_cons.mpr ⟨kh_664_ok, (List.forall_mem_cons.mpr ⟨kh_405_l2, (List.forall_mem_cons.mpr ⟨kh_671_ok, (List.forall_mem_nil _)⟩)⟩)⟩)⟩)⟩) (by decide +kernel)
/- UtilityWorksModel bC -/
def kh_673 : ct_T := (413, [(0, 0, 9, 1), (0, 9, 10, 1)], [], [], [(1, (0, 1829, 2010, 1), [(0, 0, 9, 1), (0, 9, 10, 1)], [], ([], []))], [], 0, 0, 0)
theorem kh_673_ok : ct_ok wd_fl2 kh_673 := ct_of (ff := wd_ff2) (y := (⟨"UtilityWorksModel", "bC", "(II)I"⟩, prog_14_method_227_code, 2, some .int, 12, 0, 2, 33186, 33185, 0, 21014)) (Cs := []) (an := []) (ss := []) (K := 1) (fuel := 4000) wd_fl2_ok rfl (List.forall_mem_nil _) (by decide +kernel)
/- UtilityWorksModel isConnected -/
def kh_674 : ct_T := (451, [(2, 805, 805, 0), (0, 0, 9, 1), (0, 0, 1, 1)], [], [], [(1, (0, 0, 0, 0), [(2, 805, 805, 0), (0, 0, 9, 1), (0, 0, 1, 1)], [], ([], [])), (1, (0, 1, 1, 0), [(2, 805, 805, 0), (0, 0, 9, 1), (0, 0, 1, 1)], [], ([], []))], [], 1, 21, 0)
theorem kh_674_ok : ct_ok wd_fl2 kh_674 := ct_of (ff := wd_ff2) (y := (⟨"UtilityWorksModel", "isConnected", "(II)Z"⟩, prog_14_method_203_code, 3, some .boolean, 12, 1, 2, 34098, 34097, 10007, 21014)) (Cs := [kh_396]) (an := []) (ss := []) (K := 1) (fuel := 4000) wd_fl2_ok rfl (List.forall_mem_cons.mpr ⟨kh_396_l2, (List.forall_mem_nil _)⟩) (by decide +kernel)
/- UtilityWorksModel bGuesses -/
def kh_675 : ct_T := (510, [(2, 805, 805, 0), (0, 0, 9, 1), (0, 0, 1, 1)], [], [], [(1, (0, 1, 1, 0), [(2, 805, 805, 0), (0, 0, 9, 1), (0, 0, 1, 1)], [], ([], [])), (1, (0, 0, 0, 0), [(2, 805, 805, 0), (0, 0, 9, 1), (0, 0, 1, 1)], [], ([], []))], [], 2, 43, 0)
theorem kh_675_ok : ct_ok wd_fl2 kh_675 := ct_of (ff := wd_ff2) (y := (⟨"UtilityWorksModel", "bGuesses", "(II)Z"⟩, prog_14_method_245_code, 3, some .boolean, 12, 1, 2, 35093, 35092, 14000, 21014)) (Cs := [kh_673, kh_674]) (an := [(29, 0, ([((2, 805, 805, 0), none), ((0, 0, 9, 1), none), ((0, 0, 1, 1), none)], [(0, 0), (1, 1), (2, 2)], [], [], [], [], [], [], none), [(0, 0, 99971)])]) (ss := []) (K := 1) (fuel := 4000) wd_fl2_ok rfl (List.forall_mem_cons.mpr ⟨kh_673_ok, (List.forall_mem_cons.mpr ⟨kh_674_ok, (List.forall_mem_nil _)⟩)⟩) (by decide +kernel)
/- UtilityWorksModel mM -/
def kh_676 : ct_T := (340, [(0, 0, 9, 1), (0, 0, 1, 1), (0, 4, 4, 0)], [], [], [(1, (0, 1465, 1773, 11), [(0, 0, 9, 1), (0, 0, 1, 1), (0, 4, 4, 0)], [], ([], []))], [], 0, 0, 0)
theorem kh_676_ok : ct_ok wd_fl2 kh_676 := ct_of (ff := wd_ff2) (y := (⟨"UtilityWorksModel", "mM", "(III)I"⟩, prog_14_method_193_code, 3, some .int, 12, 0, 3, 31175, 31174, 0, 21014)) (Cs := []) (an := []) (ss := []) (K := 1) (fuel := 4000) wd_fl2_ok rfl (List.forall_mem_nil _) (by decide +kernel)
/- UtilityWorksModel mM -/
def kh_677 : ct_T := (340, [(0, 0, 9, 1), (0, 0, 1, 1), (0, 9, 9, 0)], [], [], [(1, (0, 1470, 1778, 11), [(0, 0, 9, 1), (0, 0, 1, 1), (0, 9, 9, 0)], [], ([], []))], [], 0, 0, 0)
theorem kh_677_ok : ct_ok wd_fl2 kh_677 := ct_of (ff := wd_ff2) (y := (⟨"UtilityWorksModel", "mM", "(III)I"⟩, prog_14_method_193_code, 3, some .int, 12, 0, 3, 31175, 31174, 0, 21014)) (Cs := []) (an := []) (ss := []) (K := 1) (fuel := 4000) wd_fl2_ok rfl (List.forall_mem_nil _) (by decide +kernel)
/- UtilityWorksModel mM -/
def kh_678 : ct_T := (340, [(0, 0, 9, 1), (0, 0, 1, 1), (0, 6, 6, 0)], [], [], [(1, (0, 1467, 1775, 11), [(0, 0, 9, 1), (0, 0, 1, 1), (0, 6, 6, 0)], [], ([], []))], [], 0, 0, 0)
theorem kh_678_ok : ct_ok wd_fl2 kh_678 := ct_of (ff := wd_ff2) (y := (⟨"UtilityWorksModel", "mM", "(III)I"⟩, prog_14_method_193_code, 3, some .int, 12, 0, 3, 31175, 31174, 0, 21014)) (Cs := []) (an := []) (ss := []) (K := 1) (fuel := 4000) wd_fl2_ok rfl (List.forall_mem_nil _) (by decide +kernel)
/- UtilityWorksModel mM -/
def kh_679 : ct_T := (340, [(0, 0, 9, 1), (0, 0, 1, 1), (0, 8, 8, 0)], [], [], [(1, (0, 1469, 1777, 11), [(0, 0, 9, 1), (0, 0, 1, 1), (0, 8, 8, 0)], [], ([], []))], [], 0, 0, 0)
theorem kh_679_ok : ct_ok wd_fl2 kh_679 := ct_of (ff := wd_ff2) (y := (⟨"UtilityWorksModel", "mM", "(III)I"⟩, prog_14_method_193_code, 3, some .int, 12, 0, 3, 31175, 31174, 0, 21014)) (Cs := []) (an := []) (ss := []) (K := 1) (fuel := 4000) wd_fl2_ok rfl (List.forall_mem_nil _) (by decide +kernel)
/- UtilityWorksModel mC -/
def kh_680 : ct_T := (338, [(0, 0, 9, 1), (0, 3, 4, 1)], [], [], [(1, (0, 1304, 1449, 1), [(0, 0, 9, 1), (0, 3, 4, 1)], [], ([], []))], [], 0, 0, 0)
theorem kh_680_ok : ct_ok wd_fl2 kh_680 := ct_of (ff := wd_ff2) (y := (⟨"UtilityWorksModel", "mC", "(II)I"⟩, prog_14_method_192_code, 2, some .int, 12, 0, 2, 31168, 31167, 0, 21014)) (Cs := []) (an := []) (ss := []) (K := 1) (fuel := 4000) wd_fl2_ok rfl (List.forall_mem_nil _) (by decide +kernel)
/- UtilityWorksModel needOf -/
def kh_681 : ct_T := (452, [(2, 805, 805, 0), (0, 0, 9, 1), (0, 0, 1, 1)], [], [], [(1, (0, (-2147483648), 2147483647, 1), [(2, 805, 805, 0), (0, 0, 9, 1), (0, 0, 1, 1)], [], ([], []))], [], 1, 21, 0)
theorem kh_681_ok : ct_ok wd_fl2 kh_681 := ct_of (ff := wd_ff2) (y := (⟨"UtilityWorksModel", "needOf", "(II)I"⟩, prog_14_method_202_code, 3, some .int, 12, 1, 2, 34102, 34101, 10008, 21014)) (Cs := [kh_680]) (an := []) (ss := []) (K := 1) (fuel := 4000) wd_fl2_ok rfl (List.forall_mem_cons.mpr ⟨kh_680_ok, (List.forall_mem_nil _)⟩) (by decide +kernel)
/- UtilityWorksModel mRate -/
def kh_682 : ct_T := (512, [(2, 805, 805, 0), (0, 0, 9, 1), (0, 0, 1, 1)], [], [], [(1, (0, (-2147483648), 2147483647, 1), [(2, 805, 805, 0), (0, 0, 9, 1), (0, 0, 1, 1)], [], ([], []))], [], 2, 43, 0)
theorem kh_682_ok : ct_ok wd_fl2 kh_682 := ct_of (ff := wd_ff2) (y := (⟨"UtilityWorksModel", "mRate", "(II)I"⟩, prog_14_method_208_code, 4, some .int, 12, 1, 2, 35101, 35100, 14002, 21014)) (Cs := [kh_677, kh_678, kh_679, kh_681]) (an := [(32, 0, ([((2, 805, 805, 0), none), ((0, 0, 9, 1), none), ((0, 0, 1, 1), none), ((0, (-2147483648), 2147483647, 1), none)], [(0, 0), (1, 1), (2, 2), (3, 3)], [], [], [], [], [], [], none), [(0, 0, 99968)])]) (ss := []) (K := 1) (fuel := 4000) wd_fl2_ok rfl (List.forall_mem_cons.mpr ⟨kh_677_ok, (List.forall_mem_cons.mpr ⟨kh_678_ok, (List.forall_mem_cons.mpr ⟨kh_679_ok, (List.forall_mem_cons.mpr ⟨kh_681_ok, (List.forall_mem_nil _)⟩)⟩)⟩)⟩) (by decide +kernel)
/- UtilityWorksModel mGuess -/
def kh_683 : ct_T := (511, [(2, 805, 805, 0), (0, 0, 9, 1), (0, 0, 1, 1)], [], [], [(1, (0, (-2147483648), 2147483647, 1), [(2, 805, 805, 0), (0, 0, 9, 1), (0, 0, 1, 1)], [], ([], []))], [], 3, 66, 0)
theorem kh_683_ok : ct_ok wd_fl2 kh_683 := ct_of (ff := wd_ff2) (y := (⟨"UtilityWorksModel", "mGuess", "(II)I"⟩, prog_14_method_210_code, 4, some .int, 12, 1, 2, 35097, 35096, 14001, 21014)) (Cs := [kh_676, kh_682, kh_405, kh_605]) (an := []) (ss := []) (K := 1) (fuel := 4000) wd_fl2_ok rfl (List.forall_mem_cons.mpr ⟨kh_676_ok, (List.forall_mem_cons.mpr ⟨kh_682_ok, (List.forall_mem_cons.mpr ⟨kh_405_l2, (List.forall_mem_cons.mpr ⟨kh_605_ok, (List.forall_mem_nil _)⟩)⟩)⟩)⟩) (by decide +kernel)
/- UtilityWorksModel mM -/
def kh_684 : ct_T := (340, [(0, 0, 9, 1), (0, 0, 1, 1), (0, 3, 3, 0)], [], [], [(1, (0, 1464, 1772, 11), [(0, 0, 9, 1), (0, 0, 1, 1), (0, 3, 3, 0)], [], ([], []))], [], 0, 0, 0)
theorem kh_684_ok : ct_ok wd_fl2 kh_684 := ct_of (ff := wd_ff2) (y := (⟨"UtilityWorksModel", "mM", "(III)I"⟩, prog_14_method_193_code, 3, some .int, 12, 0, 3, 31175, 31174, 0, 21014)) (Cs := []) (an := []) (ss := []) (K := 1) (fuel := 4000) wd_fl2_ok rfl (List.forall_mem_nil _) (by decide +kernel)
/- UtilityWorksModel mM -/
def kh_685 : ct_T := (340, [(0, 0, 9, 1), (0, 0, 1, 1), (0, 5, 5, 0)], [], [], [(1, (0, 1466, 1774, 11), [(0, 0, 9, 1), (0, 0, 1, 1), (0, 5, 5, 0)], [], ([], []))], [], 0, 0, 0)
theorem kh_685_ok : ct_ok wd_fl2 kh_685 := ct_of (ff := wd_ff2) (y := (⟨"UtilityWorksModel", "mM", "(III)I"⟩, prog_14_method_193_code, 3, some .int, 12, 0, 3, 31175, 31174, 0, 21014)) (Cs := []) (an := []) (ss := []) (K := 1) (fuel := 4000) wd_fl2_ok rfl (List.forall_mem_nil _) (by decide +kernel)
/- UtilityWorksModel mEstimate -/
def kh_686 : ct_T := (513, [(2, 805, 805, 0), (0, 0, 9, 1), (0, 0, 1, 1)], [], [], [(1, (0, (-2147483648), 2147483647, 1), [(2, 805, 805, 0), (0, 0, 9, 1), (0, 0, 1, 1)], [], ([], []))], [((806, 806), (1464, 1772, 11)), ((806, 806), (1465, 1773, 11)), ((806, 806), (1466, 1774, 11))], 4, 89, 0)
theorem kh_686_ok : ct_ok wd_fl2 kh_686 := ct_of (ff := wd_ff2) (y := (⟨"UtilityWorksModel", "mEstimate", "(II)I"⟩, prog_14_method_211_code, 4, some .int, 12, 1, 2, 35106, 35105, 14003, 21014)) (Cs := [kh_683, kh_684, kh_676, kh_405, kh_685]) (an := []) (ss := []) (K := 1) (fuel := 4000) wd_fl2_ok rfl (List.forall_mem_cons.mpr ⟨kh_683_ok, (List.forall_mem_cons.mpr ⟨kh_684_ok, (List.forall_mem_cons.mpr ⟨kh_676_ok, (List.forall_mem_cons.mpr ⟨kh_405_l2, (List.forall_mem_cons.mpr ⟨kh_685_ok, (List.forall_mem_nil _)⟩)⟩)⟩)⟩)⟩) (by decide +kernel)
/- UtilityWorksModel mM -/
def kh_687 : ct_T := (340, [(0, 0, 9, 1), (0, 0, 2, 1), (0, 5, 5, 0)], [], [], [(1, (0, 1466, 1785, 11), [(0, 0, 9, 1), (0, 0, 2, 1), (0, 5, 5, 0)], [], ([], []))], [], 0, 0, 0)
theorem kh_687_ok : ct_ok wd_fl2 kh_687 := ct_of (ff := wd_ff2) (y := (⟨"UtilityWorksModel", "mM", "(III)I"⟩, prog_14_method_193_code, 3, some .int, 12, 0, 3, 31175, 31174, 0, 21014)) (Cs := []) (an := []) (ss := []) (K := 1) (fuel := 4000) wd_fl2_ok rfl (List.forall_mem_nil _) (by decide +kernel)
/- UtilityWorksModel mEstimate -/
def kh_688 : ct_T := (513, [(2, 805, 805, 0), (0, 0, 9, 1), (0, 0, 2, 1)], [], [], [(1, (0, (-2147483648), 2147483647, 1), [(2, 805, 805, 0), (0, 0, 9, 1), (0, 0, 2, 1)], [], ([], []))], [((806, 806), (1464, 1783, 11)), ((806, 806), (1465, 1784, 11)), ((806, 806), (1466, 1785, 11))], 4, 89, 0)
theorem kh_688_ok : ct_ok wd_fl2 kh_688 := ct_of (ff := wd_ff2) (y := (⟨"UtilityWorksModel", "mEstimate", "(II)I"⟩, prog_14_method_211_code, 4, some .int, 12, 1, 2, 35106, 35105, 14003, 21014)) (Cs := [kh_657, kh_646, kh_650, kh_405, kh_687]) (an := []) (ss := []) (K := 1) (fuel := 4000) wd_fl2_ok rfl (List.forall_mem_cons.mpr ⟨kh_657_ok, (List.forall_mem_cons.mpr ⟨kh_646_ok, (List.forall_mem_cons.mpr ⟨kh_650_ok, (List.forall_mem_cons.mpr ⟨kh_405_l2, (List.forall_mem_cons.mpr ⟨kh_687_ok, (List.forall_mem_nil _)⟩)⟩)⟩)⟩)⟩) (by decide +kernel)
/- UtilityWorksModel bB -/
def kh_689 : ct_T := (507, [(0, 0, 9, 1), (0, 0, 33, 1), (0, 0, 0, 0)], [], [], [(1, (0, 100, 2812, 8), [(0, 0, 9, 1), (0, 0, 33, 1), (0, 0, 0, 0)], [], ([], []))], [], 0, 0, 0)
theorem kh_689_ok : ct_ok wd_fl2 kh_689 := ct_of (ff := wd_ff2) (y := (⟨"UtilityWorksModel", "bB", "(III)I"⟩, prog_14_method_228_code, 3, some .int, 12, 0, 3, 35080, 35079, 0, 21014)) (Cs := []) (an := []) (ss := []) (K := 1) (fuel := 4000) wd_fl2_ok rfl (List.forall_mem_nil _) (by decide +kernel)
/- UtilityWorksModel bB -/
def kh_690 : ct_T := (507, [(0, 0, 9, 1), (0, 0, 33, 1), (0, 1, 1, 0)], [], [], [(1, (0, 101, 2813, 8), [(0, 0, 9, 1), (0, 0, 33, 1), (0, 1, 1, 0)], [], ([], []))], [], 0, 0, 0)
theorem kh_690_ok : ct_ok wd_fl2 kh_690 := ct_of (ff := wd_ff2) (y := (⟨"UtilityWorksModel", "bB", "(III)I"⟩, prog_14_method_228_code, 3, some .int, 12, 0, 3, 35080, 35079, 0, 21014)) (Cs := []) (an := []) (ss := []) (K := 1) (fuel := 4000) wd_fl2_ok rfl (List.forall_mem_nil _) (by decide +kernel)
/- UtilityWorksModel bB -/
def kh_691 : ct_T := (507, [(0, 0, 9, 1), (0, 0, 33, 1), (0, 1, 2, 1)], [], [], [(1, (0, 101, 2814, 1), [(0, 0, 9, 1), (0, 0, 33, 1), (0, 1, 2, 1)], [], ([], []))], [], 0, 0, 0)
theorem kh_691_ok : ct_ok wd_fl2 kh_691 := ct_of (ff := wd_ff2) (y := (⟨"UtilityWorksModel", "bB", "(III)I"⟩, prog_14_method_228_code, 3, some .int, 12, 0, 3, 35080, 35079, 0, 21014)) (Cs := []) (an := []) (ss := []) (K := 1) (fuel := 4000) wd_fl2_ok rfl (List.forall_mem_nil _) (by decide +kernel)
/- UtilityWorksModel bB -/
def kh_692 : ct_T := (507, [(0, 0, 9, 1), (0, 0, 33, 1), (0, 1, 3, 1)], [], [], [(1, (0, 101, 2815, 1), [(0, 0, 9, 1), (0, 0, 33, 1), (0, 1, 3, 1)], [], ([], []))], [], 0, 0, 0)
theorem kh_692_ok : ct_ok wd_fl2 kh_692 := ct_of (ff := wd_ff2) (y := (⟨"UtilityWorksModel", "bB", "(III)I"⟩, prog_14_method_228_code, 3, some .int, 12, 0, 3, 35080, 35079, 0, 21014)) (Cs := []) (an := []) (ss := []) (K := 1) (fuel := 4000) wd_fl2_ok rfl (List.forall_mem_nil _) (by decide +kernel)
/- UtilityWorksModel bB -/
def kh_693 : ct_T := (507, [(0, 0, 9, 1), (0, 0, 33, 1), (0, 4, 4, 0)], [], [], [(1, (0, 104, 2816, 8), [(0, 0, 9, 1), (0, 0, 33, 1), (0, 4, 4, 0)], [], ([], []))], [], 0, 0, 0)
theorem kh_693_ok : ct_ok wd_fl2 kh_693 := ct_of (ff := wd_ff2) (y := (⟨"UtilityWorksModel", "bB", "(III)I"⟩, prog_14_method_228_code, 3, some .int, 12, 0, 3, 35080, 35079, 0, 21014)) (Cs := []) (an := []) (ss := []) (K := 1) (fuel := 4000) wd_fl2_ok rfl (List.forall_mem_nil _) (by decide +kernel)
/- UtilityWorksModel bB -/
def kh_694 : ct_T := (507, [(0, 0, 9, 1), (0, 0, 33, 1), (0, 5, 5, 0)], [], [], [(1, (0, 105, 2817, 8), [(0, 0, 9, 1), (0, 0, 33, 1), (0, 5, 5, 0)], [], ([], []))], [], 0, 0, 0)
theorem kh_694_ok : ct_ok wd_fl2 kh_694 := ct_of (ff := wd_ff2) (y := (⟨"UtilityWorksModel", "bB", "(III)I"⟩, prog_14_method_228_code, 3, some .int, 12, 0, 3, 35080, 35079, 0, 21014)) (Cs := []) (an := []) (ss := []) (K := 1) (fuel := 4000) wd_fl2_ok rfl (List.forall_mem_nil _) (by decide +kernel)
/- UtilityWorksModel bB -/
def kh_695 : ct_T := (507, [(0, 0, 9, 1), (0, 0, 33, 1), (0, 6, 6, 0)], [], [], [(1, (0, 106, 2818, 8), [(0, 0, 9, 1), (0, 0, 33, 1), (0, 6, 6, 0)], [], ([], []))], [], 0, 0, 0)
theorem kh_695_ok : ct_ok wd_fl2 kh_695 := ct_of (ff := wd_ff2) (y := (⟨"UtilityWorksModel", "bB", "(III)I"⟩, prog_14_method_228_code, 3, some .int, 12, 0, 3, 35080, 35079, 0, 21014)) (Cs := []) (an := []) (ss := []) (K := 1) (fuel := 4000) wd_fl2_ok rfl (List.forall_mem_nil _) (by decide +kernel)
/- UtilityWorksModel bB -/
def kh_696 : ct_T := (507, [(0, 0, 9, 1), (0, 0, 33, 1), (0, 7, 7, 0)], [], [], [(1, (0, 107, 2819, 8), [(0, 0, 9, 1), (0, 0, 33, 1), (0, 7, 7, 0)], [], ([], []))], [], 0, 0, 0)
theorem kh_696_ok : ct_ok wd_fl2 kh_696 := ct_of (ff := wd_ff2) (y := (⟨"UtilityWorksModel", "bB", "(III)I"⟩, prog_14_method_228_code, 3, some .int, 12, 0, 3, 35080, 35079, 0, 21014)) (Cs := []) (an := []) (ss := []) (K := 1) (fuel := 4000) wd_fl2_ok rfl (List.forall_mem_nil _) (by decide +kernel)
/- UtilityWorksModel bB -/
def kh_697 : ct_T := (507, [(0, 0, 9, 1), (0, 0, 32, 1), (0, 7, 7, 0)], [], [], [(1, (0, 107, 2811, 8), [(0, 0, 9, 1), (0, 0, 32, 1), (0, 7, 7, 0)], [], ([], []))], [], 0, 0, 0)
theorem kh_697_ok : ct_ok wd_fl2 kh_697 := ct_of (ff := wd_ff2) (y := (⟨"UtilityWorksModel", "bB", "(III)I"⟩, prog_14_method_228_code, 3, some .int, 12, 0, 3, 35080, 35079, 0, 21014)) (Cs := []) (an := []) (ss := []) (K := 1) (fuel := 4000) wd_fl2_ok rfl (List.forall_mem_nil _) (by decide +kernel)
/- UtilityWorksModel bPays -/
def kh_698 : ct_T := (514, [(2, 805, 805, 0), (0, 0, 9, 1), (1, (-9223372036854775808), 9223372036854775807, 1)], [], [], [(1, (1, (-9223372036854775808), 9223372036854775807, 1), [(2, 805, 805, 0), (0, 0, 9, 1), (1, (-9223372036854775808), 9223372036854775807, 1)], [], ([], []))], [((807, 807), (107, 2811, 8))], 1, 22, 0)
theorem kh_698_ok : ct_ok wd_fl2 kh_698 := ct_of (ff := wd_ff2) (y := (⟨"UtilityWorksModel", "bPays", "(IJ)J"⟩, prog_14_method_240_code, 11, some .long, 12, 1, 2, 35111, 35110, 14004, 21014)) (Cs := [kh_bC0, kh_697]) (an := [(6, 0, ([((2, 805, 805, 0), none), ((0, 0, 9, 1), none), ((1, (-9223372036854775808), 9223372036854775807, 1), none), ((1, (-9223372036854775808), 9223372036854775807, 1), none), ((0, 0, 33, 1), none)], [(0, 0), (1, 1), (2, 2), (4, 3), (6, 4)], [], [], [], [], [], [], none), [(0, 0, 99994), (1, 4, 33), (0, 0, 99994)])]) (ss := []) (K := 3) (fuel := 4000) wd_fl2_ok rfl (List.forall_mem_cons.mpr ⟨kh_bC0_ok, (List.forall_mem_cons.mpr ⟨kh_697_ok, (List.forall_mem_nil _)⟩)⟩) (by decide +kernel)
abbrev kh_bBill_y : mt_T := (⟨"UtilityWorksModel", "bBill", "(I)V"⟩, prog_14_method_247_code, 10, none, 12, 1, 1, 35085, 35084, 13014, 21014)
def kh_bBill : ct_T := (508, [(2, 805, 805, 0), (0, 0, 9, 1)], [], [], [(0, (0, 0, 0, 0), [(2, 805, 805, 0), (0, 0, 9, 1)], [], ([], []))], [((805, 805), (65, 65, 0)), ((806, 806), (1464, 1783, 11)), ((806, 806), (1465, 1784, 11)), ((806, 806), (1466, 1785, 11)), ((806, 806), (1820, 2000, 20)), ((806, 806), (1826, 2014, 1)), ((807, 807), (100, 2864, 1)), ((859, 859), (0, 2, 1))], 5, 119, 0)
def kh_bBill_a9 : an_T := (9, 0, ([((2, 805, 805, 0), none), ((0, 0, 9, 1), none), ((1, (-9223372036854775808), 9223372036854775807, 1), none), ((0, 0, 3, 1), none)], [(0, 0), (1, 1), (2, 2), (4, 3)], [], [], [], [], [], [], none), [])
def kh_bBill_a34 : an_T := (34, 0, ([((2, 805, 805, 0), none), ((0, 0, 9, 1), none), ((1, (-9223372036854775808), 9223372036854775807, 1), none), ((0, 0, 2, 1), none)], [(0, 0), (1, 1), (2, 2), (4, 3)], [], [], [], [], [], [], none), [])
def kh_bBill_a59 : an_T := (59, 0, ([((2, 805, 805, 0), none), ((0, 0, 9, 1), none), ((1, (-9223372036854775808), 9223372036854775807, 1), none), ((0, 0, 2, 1), none), ((0, (-2147483648), 2147483647, 1), none), ((0, 1820, 2019, 1), none), ((2, 806, 806, 1), none)], [(0, 0), (1, 1), (2, 2), (4, 3)], [4, 5, 6], [], [], [], [], [], none), [])
def kh_bBill_a60 : an_T := (60, 0, ([((2, 805, 805, 0), none), ((0, 0, 9, 1), none), ((1, (-9223372036854775808), 9223372036854775807, 1), none), ((0, 0, 2, 1), none)], [(0, 0), (1, 1), (2, 2), (4, 3)], [], [], [], [], [], [], none), [])
def kh_bBill_a74 : an_T := (74, 0, ([((2, 805, 805, 0), none), ((0, 0, 9, 1), none), ((1, (-9223372036854775808), 9223372036854775807, 1), none), ((0, 0, 2, 1), none), ((0, 0, 0, 0), none), ((0, 1820, 2019, 1), none), ((2, 806, 806, 1), none)], [(0, 0), (1, 1), (2, 2), (4, 3)], [4, 5, 6], [], [], [], [], [], none), [])
def kh_bBill_a75 : an_T := (75, 0, ([((2, 805, 805, 0), none), ((0, 0, 9, 1), none), ((1, (-9223372036854775808), 9223372036854775807, 1), none), ((0, 0, 2, 1), none)], [(0, 0), (1, 1), (2, 2), (4, 3)], [], [], [], [], [], [], none), [])
def kh_bBill_a102 : an_T := (102, 0, ([((2, 805, 805, 0), none), ((0, 0, 9, 1), none), ((1, (-9223372036854775808), 9223372036854775807, 1), none), ((0, 0, 2, 1), none), ((0, (-2147483648), 2147483647, 1), none), ((0, 1820, 2019, 1), none), ((2, 806, 806, 1), none)], [(0, 0), (1, 1), (2, 2), (4, 3)], [4, 5, 6], [], [], [], [], [], none), [])
def kh_bBill_a103 : an_T := (103, 0, ([((2, 805, 805, 0), none), ((0, 0, 9, 1), none), ((1, (-9223372036854775808), 9223372036854775807, 1), none), ((0, 0, 2, 1), none)], [(0, 0), (1, 1), (2, 2), (4, 3)], [], [], [], [], [], [], none), [])
def kh_bBill_a109 : an_T := (109, 0, ([((2, 805, 805, 0), none), ((0, 0, 9, 1), none), ((1, (-9223372036854775808), 9223372036854775807, 1), none), ((0, 3, 3, 1), none)], [(0, 0), (1, 1), (2, 2), (4, 3)], [], [], [], [], [], [], none), [])
def kh_bBill_a134 : an_T := (134, 0, ([((2, 805, 805, 0), none), ((0, 0, 9, 1), none), ((1, (-9223372036854775808), 9223372036854775807, 1), none), ((0, 0, 33, 1), none), ((0, 1, 34, 1), none), ((0, 1820, 2000, 20), none), ((2, 806, 806, 1), none)], [(0, 0), (1, 1), (2, 2), (4, 3)], [4, 5, 6], [], [], [], [], [], none), [])
def kh_bBill_a135 : an_T := (135, 0, ([((2, 805, 805, 0), none), ((0, 0, 9, 1), none), ((1, (-9223372036854775808), 9223372036854775807, 1), none), ((0, 0, 33, 1), none)], [(0, 0), (1, 1), (2, 2), (4, 3)], [], [], [], [], [], [], none), [])
def kh_bBill_a266 : an_T := (266, 0, ([((2, 805, 805, 0), none), ((0, 0, 9, 1), none), ((1, (-9223372036854775808), 9223372036854775807, 1), none), ((0, 0, 33, 1), none), ((1, (-9223372036854775808), 9223372036854775807, 1), none), ((1, (-9223372036854775808), 9223372036854775807, 1), none), ((0, 0, 3, 1), none)], [(0, 0), (1, 1), (2, 2), (4, 3), (5, 4), (7, 5), (9, 6)], [], [], [], [], [], [], none), [])
def kh_bBill_b0_0 : sg_T := (9, 0, ([((2, 805, 805, 0), none), ((0, 0, 9, 1), none), ((1, (-9223372036854775808), 9223372036854775807, 1), none), ((0, 0, 0, 0), none)], [(4, 3), (2, 2), (0, 0), (1, 1)], [], [], [], [], [], [], none))
def kh_bBill_b9_0 : sg_T := (109, 0, ([((2, 805, 805, 0), none), ((0, 0, 9, 1), none), ((1, (-9223372036854775808), 9223372036854775807, 1), none), ((0, 3, 3, 1), none), ((0, 3, 3, 0), none)], [(0, 0), (1, 1), (2, 2), (4, 3)], [], [], [], [(200000, 4, 3)], [], [], some []))
def kh_bBill_b9_1 : sg_T := (34, 0, ([((2, 805, 805, 0), none), ((0, 0, 9, 1), none), ((1, (-9223372036854775808), 9223372036854775807, 1), none), ((0, 0, 2, 1), none), ((0, 3, 3, 0), none), ((0, 1, 1, 0), none), ((0, (-2147483648), 2147483647, 1), none)], [(5, 6), (0, 0), (1, 1), (2, 2), (4, 3)], [], [], [(5, 0)], [(100000, 3, 4)], [], [], none))
def kh_bBill_b9_2 : sg_T := (34, 0, ([((2, 805, 805, 0), none), ((0, 0, 9, 1), none), ((1, (-9223372036854775808), 9223372036854775807, 1), none), ((0, 0, 2, 1), none), ((0, 3, 3, 0), none), ((0, 0, 0, 0), none)], [(0, 0), (1, 1), (2, 2), (4, 3)], [], [], [], [(100000, 3, 4)], [], [], some []))
def kh_bBill_b34_0 : sg_T := (59, 0, ([((2, 805, 805, 0), none), ((0, 0, 9, 1), none), ((1, (-9223372036854775808), 9223372036854775807, 1), none), ((0, 0, 2, 1), none), ((2, 806, 806, 1), none), ((0, 6, 6, 0), none), ((0, 6, 8, 1), none), ((0, 1820, 2019, 1), none), ((2, 806, 806, 1), none), ((0, 3, 3, 0), none), ((0, 1464, 1783, 11), none), ((0, (-2147483648), 2147483647, 1), none)], [(0, 0), (1, 1), (2, 2), (4, 3)], [11, 7, 4], [(8, 10, 11)], [], [(800011, 8, 10), (1500007, 1, 6), (500006, 5, 3)], [], [], some []))
def kh_bBill_b60_0 : sg_T := (74, 0, ([((2, 805, 805, 0), none), ((0, 0, 9, 1), none), ((1, (-9223372036854775808), 9223372036854775807, 1), none), ((0, 0, 2, 1), none), ((2, 806, 806, 1), none), ((0, 9, 9, 0), none), ((0, 9, 11, 1), none), ((0, 1820, 2019, 1), none), ((0, 0, 0, 0), none)], [(0, 0), (1, 1), (2, 2), (4, 3)], [8, 7, 4], [], [], [(1500007, 1, 6), (500006, 5, 3)], [], [], some []))
def kh_bBill_b75_0 : sg_T := (102, 0, ([((2, 805, 805, 0), none), ((0, 0, 9, 1), none), ((1, (-9223372036854775808), 9223372036854775807, 1), none), ((0, 0, 2, 1), none), ((2, 806, 806, 1), none), ((0, 12, 12, 0), none), ((0, 12, 14, 1), none), ((0, 1820, 2019, 1), none), ((2, 806, 806, 1), none), ((0, 9, 9, 0), none), ((0, 9, 11, 1), none), ((0, 1301, 1460, 1), none), ((0, (-2147483648), 2147483647, 1), none)], [(0, 0), (1, 1), (2, 2), (4, 3)], [12, 7, 4], [(8, 11, 12)], [], [(800012, 8, 11), (1400011, 1, 10), (500010, 9, 3), (1500007, 1, 6), (500006, 5, 3)], [], [], some []))
def kh_bBill_b103_0 : sg_T := (9, 0, ([((2, 805, 805, 0), none), ((0, 0, 9, 1), none), ((1, (-9223372036854775808), 9223372036854775807, 1), none), ((0, 0, 2, 1), none), ((0, 1, 3, 1), some (3, 1))], [(4, 4), (0, 0), (1, 1), (2, 2)], [], [], [], [], [], [], some []))
def kh_bBill_b109_0 : sg_T := (134, 0, ([((2, 805, 805, 0), none), ((0, 0, 9, 1), none), ((1, (-9223372036854775808), 9223372036854775807, 1), none), ((0, 3, 3, 1), none), ((2, 806, 806, 1), none), ((0, 0, 0, 0), none), ((0, 1820, 2000, 20), none), ((0, 0, 33, 1), none), ((2, 806, 806, 1), none), ((0, 0, 0, 0), none), ((0, 1820, 2000, 20), none), ((0, 0, 33, 1), none), ((0, 1, 1, 0), none), ((0, 1, 34, 1), some (11, 1))], [(4, 7), (0, 0), (1, 1), (2, 2)], [13, 10, 8], [(8, 10, 11), (4, 6, 7)], [], [(500013, 11, 12), (800011, 8, 10), (1500010, 1, 9), (800007, 4, 6), (1500006, 1, 5)], [], [], some []))
def kh_bBill_b134_0 : sg_T := (135, 0, ([((2, 805, 805, 0), none), ((0, 0, 9, 1), none), ((1, (-9223372036854775808), 9223372036854775807, 1), none), ((0, 0, 33, 1), none), ((0, 1, 33, 1), none), ((0, 1820, 2000, 20), none), ((2, 806, 806, 1), none)], [(0, 0), (1, 1), (2, 2), (4, 3)], [], [(6, 5, 4)], [], [], [], [], some [(6, 5, 4)]))
def kh_bBill_b135_0 : sg_T := (266, 0, ([((2, 805, 805, 0), none), ((0, 0, 9, 1), none), ((1, (-9223372036854775808), 0, 1), none), ((0, 0, 33, 1), none), ((1, 0, 0, 0), none), ((0, (-1), 0, 1), none), ((1, 0, 0, 0), none), ((2, 807, 807, 1), none), ((0, 2861, 2861, 0), none), ((1, (-9223372036854775808), 0, 1), none), ((0, 0, 1, 1), none), ((2, 807, 807, 1), none), ((0, 2861, 2861, 0), none), ((2, 807, 807, 1), none), ((0, 2861, 2861, 0), none), ((1, (-9223372036854775808), 9223372036854775807, 1), none), ((2, 807, 807, 1), none), ((0, 2860, 2860, 0), none), ((1, (-9223372036854775808), 9223372036854775807, 1), none), ((1, (-9223372036854775808), 9223372036854775807, 1), none), ((2, 807, 807, 1), none), ((0, 2864, 2864, 0), none), ((1, (-9223372036854775808), 9223372036854775807, 1), none), ((1, (-9223372036854775808), 9223372036854775807, 1), none), ((2, 807, 807, 1), none), ((0, 2862, 2862, 0), none), ((1, (-9223372036854775808), 9223372036854775807, 1), none), ((1, (-9223372036854775808), 9223372036854775807, 1), none), ((2, 807, 807, 1), none), ((0, 0, 0, 0), none), ((0, 100, 2812, 8), none), ((0, 0, 999, 1), none), ((1, 0, 999, 1), none), ((0, 0, 0, 0), none)], [(9, 33), (7, 9), (5, 6), (0, 0), (1, 1), (2, 2), (4, 3)], [], [], [], [(10, 6, 9), (800009, 7, 8), (5, 2, 4)], [], [], none))
def kh_bBill_b135_1 : sg_T := (266, 0, ([((2, 805, 805, 0), none), ((0, 0, 9, 1), none), ((1, (-9223372036854775808), 0, 1), none), ((0, 0, 33, 1), none), ((1, 0, 0, 0), none), ((0, (-1), 0, 1), none), ((1, 0, 0, 0), none), ((2, 807, 807, 1), none), ((0, 2861, 2861, 0), none), ((1, 1, 9223372036854775807, 1), none), ((0, (-1), (-1), 1), none), ((2, 807, 807, 1), none), ((0, 2861, 2861, 0), none), ((1, (-9223372036854775808), 9223372036854775807, 1), none), ((2, 807, 807, 1), none), ((0, 2860, 2860, 0), none), ((1, (-9223372036854775808), 9223372036854775807, 1), none), ((1, (-9223372036854775808), 9223372036854775807, 1), none), ((2, 807, 807, 1), none), ((0, 2864, 2864, 0), none), ((1, (-9223372036854775808), 9223372036854775807, 1), none), ((1, (-9223372036854775808), 9223372036854775807, 1), none), ((2, 807, 807, 1), none), ((0, 2862, 2862, 0), none), ((1, (-9223372036854775808), 9223372036854775807, 1), none), ((1, (-9223372036854775808), 9223372036854775807, 1), none), ((2, 807, 807, 1), none), ((0, 0, 0, 0), none), ((0, 100, 2812, 8), none), ((0, 0, 999, 1), none), ((1, 0, 999, 1), none), ((0, 0, 0, 0), none)], [(9, 31), (7, 6), (5, 6), (0, 0), (1, 1), (2, 2), (4, 3)], [], [], [], [(10, 6, 9), (800009, 7, 8), (5, 2, 4)], [], [], none))
def kh_bBill_b135_2 : sg_T := (266, 0, ([((2, 805, 805, 0), none), ((0, 0, 9, 1), none), ((1, 1, 9223372036854775807, 1), none), ((0, 0, 33, 1), none), ((1, 0, 0, 0), none), ((0, 1, 1, 1), none), ((2, 806, 806, 1), none), ((0, 4, 4, 0), none), ((0, 1820, 2019, 1), none), ((0, (-2147483648), 2147483647, 1), none), ((0, 1, 1, 0), none), ((1, 0, 0, 0), none), ((2, 807, 807, 1), none), ((0, 2861, 2861, 0), none), ((1, (-9223372036854775808), 0, 1), none), ((0, 0, 1, 1), none), ((2, 807, 807, 1), none), ((0, 2861, 2861, 0), none), ((2, 807, 807, 1), none), ((0, 2861, 2861, 0), none), ((1, (-9223372036854775808), 9223372036854775807, 1), none), ((2, 807, 807, 1), none), ((0, 2860, 2860, 0), none), ((1, (-9223372036854775808), 9223372036854775807, 1), none), ((1, (-9223372036854775808), 9223372036854775807, 1), none), ((2, 807, 807, 1), none), ((0, 2864, 2864, 0), none), ((1, (-9223372036854775808), 9223372036854775807, 1), none), ((1, (-9223372036854775808), 9223372036854775807, 1), none), ((2, 807, 807, 1), none), ((0, 2862, 2862, 0), none), ((1, (-9223372036854775808), 9223372036854775807, 1), none), ((1, (-9223372036854775808), 9223372036854775807, 1), none), ((2, 807, 807, 1), none), ((0, 0, 0, 0), none), ((0, 100, 2812, 8), none), ((0, 0, 999, 1), none), ((1, 0, 999, 1), none), ((0, 0, 0, 0), none)], [(9, 38), (7, 14), (5, 11), (0, 0), (1, 1), (2, 2), (4, 3)], [], [(6, 8, 9)], [(9, 1)], [(15, 11, 14), (800014, 12, 13), (400000, 9, 10), (800009, 6, 8), (1500008, 1, 7), (5, 2, 4)], [], [], none))
def kh_bBill_b135_3 : sg_T := (266, 0, ([((2, 805, 805, 0), none), ((0, 0, 9, 1), none), ((1, 1, 9223372036854775807, 1), none), ((0, 0, 33, 1), none), ((1, 0, 0, 0), none), ((0, 1, 1, 1), none), ((2, 806, 806, 1), none), ((0, 4, 4, 0), none), ((0, 1820, 2019, 1), none), ((0, (-2147483648), 2147483647, 1), none), ((0, 1, 1, 0), none), ((1, 0, 0, 0), none), ((2, 807, 807, 1), none), ((0, 2861, 2861, 0), none), ((1, 1, 9223372036854775807, 1), none), ((0, (-1), (-1), 1), none), ((2, 807, 807, 1), none), ((0, 2861, 2861, 0), none), ((1, (-9223372036854775808), 9223372036854775807, 1), none), ((2, 807, 807, 1), none), ((0, 2860, 2860, 0), none), ((1, (-9223372036854775808), 9223372036854775807, 1), none), ((1, (-9223372036854775808), 9223372036854775807, 1), none), ((2, 807, 807, 1), none), ((0, 2864, 2864, 0), none), ((1, (-9223372036854775808), 9223372036854775807, 1), none), ((1, (-9223372036854775808), 9223372036854775807, 1), none), ((2, 807, 807, 1), none), ((0, 2862, 2862, 0), none), ((1, (-9223372036854775808), 9223372036854775807, 1), none), ((1, (-9223372036854775808), 9223372036854775807, 1), none), ((2, 807, 807, 1), none), ((0, 0, 0, 0), none), ((0, 100, 2812, 8), none), ((0, 0, 999, 1), none), ((1, 0, 999, 1), none), ((0, 0, 0, 0), none)], [(9, 36), (7, 11), (5, 11), (0, 0), (1, 1), (2, 2), (4, 3)], [], [(6, 8, 9)], [(9, 1)], [(15, 11, 14), (800014, 12, 13), (400000, 9, 10), (800009, 6, 8), (1500008, 1, 7), (5, 2, 4)], [], [], none))
def kh_bBill_b135_4 : sg_T := (266, 0, ([((2, 805, 805, 0), none), ((0, 0, 9, 1), none), ((1, 1, 9223372036854775807, 1), none), ((0, 0, 33, 1), none), ((1, 0, 0, 0), none), ((0, 1, 1, 1), none), ((2, 806, 806, 1), none), ((0, 4, 4, 0), none), ((0, 1820, 2019, 1), none), ((0, 1, 1, 1), none), ((0, 1, 1, 0), none), ((1, 2, 2, 0), none), ((1, (-9223372036854775808), 9223372036854775807, 1), none), ((2, 807, 807, 1), none), ((0, 2861, 2861, 0), none), ((1, (-9223372036854775808), 9223372036854775807, 1), none), ((0, 0, 1, 1), none), ((2, 807, 807, 1), none), ((0, 2861, 2861, 0), none), ((2, 807, 807, 1), none), ((0, 2861, 2861, 0), none), ((1, (-9223372036854775808), 9223372036854775807, 1), none), ((2, 807, 807, 1), none), ((0, 2860, 2860, 0), none), ((1, (-9223372036854775808), 9223372036854775807, 1), none), ((1, (-9223372036854775808), 9223372036854775807, 1), none), ((2, 807, 807, 1), none), ((0, 2864, 2864, 0), none), ((1, (-9223372036854775808), 9223372036854775807, 1), none), ((1, (-9223372036854775808), 9223372036854775807, 1), none), ((2, 807, 807, 1), none), ((0, 2862, 2862, 0), none), ((1, (-9223372036854775808), 9223372036854775807, 1), none), ((1, (-9223372036854775808), 9223372036854775807, 1), none), ((2, 807, 807, 1), none), ((0, 0, 0, 0), none), ((0, 100, 2812, 8), none), ((0, 0, 999, 1), none), ((1, 0, 999, 1), none), ((0, 0, 0, 0), none)], [(9, 39), (7, 15), (5, 12), (0, 0), (1, 1), (2, 2), (4, 3)], [], [(6, 8, 9)], [], [(16, 12, 15), (800015, 13, 14), (300000, 9, 10), (800009, 6, 8), (1500008, 1, 7), (5, 2, 4)], [], [], none))
def kh_bBill_b135_5 : sg_T := (266, 0, ([((2, 805, 805, 0), none), ((0, 0, 9, 1), none), ((1, 1, 9223372036854775807, 1), none), ((0, 0, 33, 1), none), ((1, 0, 0, 0), none), ((0, 1, 1, 1), none), ((2, 806, 806, 1), none), ((0, 4, 4, 0), none), ((0, 1820, 2019, 1), none), ((0, 1, 1, 1), none), ((0, 1, 1, 0), none), ((1, 2, 2, 0), none), ((1, (-9223372036854775808), 9223372036854775806, 1), none), ((2, 807, 807, 1), none), ((0, 2861, 2861, 0), none), ((1, (-9223372036854775807), 9223372036854775807, 1), none), ((0, (-1), (-1), 1), none), ((2, 807, 807, 1), none), ((0, 2861, 2861, 0), none), ((1, (-9223372036854775808), 9223372036854775807, 1), none), ((2, 807, 807, 1), none), ((0, 2860, 2860, 0), none), ((1, (-9223372036854775808), 9223372036854775807, 1), none), ((1, (-9223372036854775808), 9223372036854775807, 1), none), ((2, 807, 807, 1), none), ((0, 2864, 2864, 0), none), ((1, (-9223372036854775808), 9223372036854775807, 1), none), ((1, (-9223372036854775808), 9223372036854775807, 1), none), ((2, 807, 807, 1), none), ((0, 2862, 2862, 0), none), ((1, (-9223372036854775808), 9223372036854775807, 1), none), ((1, (-9223372036854775808), 9223372036854775807, 1), none), ((2, 807, 807, 1), none), ((0, 0, 0, 0), none), ((0, 100, 2812, 8), none), ((0, 0, 999, 1), none), ((1, 0, 999, 1), none), ((0, 0, 0, 0), none)], [(9, 37), (7, 12), (5, 12), (0, 0), (1, 1), (2, 2), (4, 3)], [], [(6, 8, 9)], [], [(16, 12, 15), (800015, 13, 14), (300000, 9, 10), (800009, 6, 8), (1500008, 1, 7), (5, 2, 4)], [], [], none))
def kh_bBill_b266_0 : sg_T := (421, 0, ([((2, 805, 805, 0), none), ((0, 0, 9, 1), none), ((1, 0, 0, 1), none), ((0, 0, 33, 1), none), ((1, (-9223372036854775808), 9223372036854775807, 1), none), ((1, (-9223372036854775808), 9223372036854775807, 1), none), ((0, 3, 3, 1), none), ((0, 3, 3, 0), none), ((2, 807, 807, 1), none), ((0, 4, 4, 0), none), ((0, 104, 2816, 8), none), ((0, 65, 65, 0), none), ((1, (-9223372036854775808), 9223372036854775807, 1), none), ((2, 807, 807, 1), none), ((0, 5, 5, 0), none), ((0, 105, 2817, 8), none), ((2, 807, 807, 1), none), ((0, 6, 6, 0), none), ((0, 106, 2818, 8), none), ((2, 807, 807, 1), none), ((0, 7, 7, 0), none), ((0, 107, 2819, 8), none), ((1, 0, 0, 0), none), ((0, (-1), 0, 1), none), ((1, 0, 0, 0), none), ((2, 807, 807, 1), none), ((0, 2820, 2820, 0), none), ((0, 2820, 2829, 1), none), ((1, (-9223372036854775808), 9223372036854775807, 1), none), ((1, 0, 0, 0), none), ((0, 0, 1, 1), none), ((1, 0, 0, 0), none), ((1, (-9223372036854775808), 9223372036854775807, 1), none), ((2, 807, 807, 1), none), ((0, 2820, 2820, 0), none), ((0, 2820, 2829, 1), none), ((2, 807, 807, 1), none), ((0, 2820, 2820, 0), none), ((0, 2820, 2829, 1), none), ((1, (-9223372036854775808), 9223372036854775807, 1), none), ((1, (-9223372036854775808), 9223372036854775807, 1), none)], [(0, 0), (1, 1), (2, 2), (4, 3), (5, 4), (7, 5), (9, 6)], [], [], [], [(30, 2, 29), (23, 2, 22), (800012, 0, 11), (200000, 7, 6)], [], [], none))
def kh_bBill_b266_1 : sg_T := (421, 0, ([((2, 805, 805, 0), none), ((0, 0, 9, 1), none), ((1, (-9223372036854775808), (-1), 1), none), ((0, 0, 33, 1), none), ((1, (-9223372036854775808), 9223372036854775807, 1), none), ((1, (-9223372036854775808), 9223372036854775807, 1), none), ((0, 3, 3, 1), none), ((0, 3, 3, 0), none), ((2, 807, 807, 1), none), ((0, 4, 4, 0), none), ((0, 104, 2816, 8), none), ((0, 65, 65, 0), none), ((1, (-9223372036854775808), 9223372036854775807, 1), none), ((2, 807, 807, 1), none), ((0, 5, 5, 0), none), ((0, 105, 2817, 8), none), ((2, 807, 807, 1), none), ((0, 6, 6, 0), none), ((0, 106, 2818, 8), none), ((2, 807, 807, 1), none), ((0, 7, 7, 0), none), ((0, 107, 2819, 8), none), ((1, 0, 0, 0), none), ((0, (-1), 0, 1), none), ((1, 0, 0, 0), none), ((2, 807, 807, 1), none), ((0, 2820, 2820, 0), none), ((0, 2820, 2829, 1), none), ((1, (-9223372036854775808), 9223372036854775807, 1), none), ((1, 0, 0, 0), none), ((0, (-1), (-1), 1), none), ((1, (-9223372036854775808), 9223372036854775807, 1), none), ((1, (-9223372036854775808), 9223372036854775807, 1), none), ((2, 807, 807, 1), none), ((0, 2820, 2820, 0), none), ((0, 2820, 2829, 1), none), ((2, 807, 807, 1), none), ((0, 2820, 2820, 0), none), ((0, 2820, 2829, 1), none), ((1, (-9223372036854775808), 9223372036854775807, 1), none), ((1, (-9223372036854775808), 9223372036854775807, 1), none)], [(0, 0), (1, 1), (2, 2), (4, 3), (5, 4), (7, 5), (9, 6)], [], [], [], [(30, 2, 29), (23, 2, 22), (800012, 0, 11), (200000, 7, 6)], [], [], none))
def kh_bBill_b266_2 : sg_T := (421, 0, ([((2, 805, 805, 0), none), ((0, 0, 9, 1), none), ((1, 1, 9223372036854775807, 1), none), ((0, 0, 33, 1), none), ((1, (-9223372036854775808), 9223372036854775807, 1), none), ((1, (-9223372036854775808), 9223372036854775807, 1), none), ((0, 3, 3, 1), none), ((0, 3, 3, 0), none), ((2, 807, 807, 1), none), ((0, 4, 4, 0), none), ((0, 104, 2816, 8), none), ((0, 65, 65, 0), none), ((1, (-9223372036854775808), 9223372036854775807, 1), none), ((2, 807, 807, 1), none), ((0, 5, 5, 0), none), ((0, 105, 2817, 8), none), ((2, 807, 807, 1), none), ((0, 6, 6, 0), none), ((0, 106, 2818, 8), none), ((2, 807, 807, 1), none), ((0, 7, 7, 0), none), ((0, 107, 2819, 8), none), ((1, 0, 0, 0), none), ((0, 1, 1, 1), none), ((1, (-9223372036854775808), 9223372036854775807, 1), none), ((2, 807, 807, 1), none), ((0, 2820, 2820, 0), none), ((0, 2820, 2829, 1), none), ((1, (-9223372036854775808), 9223372036854775807, 1), none), ((1, 0, 0, 0), none), ((0, 0, 1, 1), none), ((1, 0, 0, 0), none), ((1, (-9223372036854775808), 9223372036854775807, 1), none), ((2, 807, 807, 1), none), ((0, 2820, 2820, 0), none), ((0, 2820, 2829, 1), none), ((2, 807, 807, 1), none), ((0, 2820, 2820, 0), none), ((0, 2820, 2829, 1), none), ((1, (-9223372036854775808), 9223372036854775807, 1), none), ((1, (-9223372036854775808), 9223372036854775807, 1), none)], [(0, 0), (1, 1), (2, 2), (4, 3), (5, 4), (7, 5), (9, 6)], [], [], [], [(30, 2, 29), (23, 2, 22), (800012, 0, 11), (200000, 7, 6)], [], [], none))
def kh_bBill_b266_3 : sg_T := (266, 0, ([((2, 805, 805, 0), none), ((0, 0, 9, 1), none), ((1, (-9223372036854775808), 9223372036854775807, 1), none), ((0, 0, 33, 1), none), ((1, (-9223372036854775808), 9223372036854775807, 1), none), ((1, (-9223372036854775808), 9223372036854775807, 1), none), ((0, 0, 2, 1), none), ((0, 3, 3, 0), none), ((2, 807, 807, 1), none), ((0, 1, 1, 0), none), ((0, 1, 3, 1), none), ((0, 101, 2815, 1), none), ((2, 859, 859, 1), none), ((1, (-9223372036854775808), 9223372036854775807, 1), none), ((0, 1, 3, 1), some (6, 1))], [(9, 14), (0, 0), (1, 1), (2, 2), (4, 3), (5, 4), (7, 5)], [], [], [], [(800013, 12, 6), (500010, 9, 6), (100000, 6, 7)], [], [], none))
def kh_bBill_I (l : Launch) (D : va_G) (tc : Nat → ClassId) (ad : Nat → Nat) (kd : Nat → Nat × Nat) (N : Nat) (sm : Nat → Nat) (xs : List av_X) (S : fw_S) (p : Program) (e : Env) (s : State) (m : MethodId) (args : Array Value) (below : List Frame) (meth : Method) (c : Code) (sz : Nat) (k : Nat) : Prop := (∀ (α : List av_X) (lv : List (Nat × Value)) (st : List Value) (S1 : fw_S), as_in ad sm wd_fl2 xs S kh_bBill.2.2.2.2.2.1 α kh_bBill_a9.2.2.1 lv st S1 → (((∀ c' : Nat, c' < 10 → S1.1 806 (1820 + 20 * c') = S.1 806 (1820 + 20 * c')) ∧ S1.1 806 0 = S.1 806 0)) → 1000 + (3 - nv α 3).toNat * 20 + 14 < k → hd_WR R_bBill wd_fl2 kh_bBill kh_bBill_y l D tc ad kd N sm xs S p e s m args below meth c sz 9 lv st S1 0) ∧ (∀ (α : List av_X) (lv : List (Nat × Value)) (st : List Value) (S1 : fw_S), as_in ad sm wd_fl2 xs S kh_bBill.2.2.2.2.2.1 α kh_bBill_a34.2.2.1 lv st S1 → (((∀ c' : Nat, c' < 10 → S1.1 806 (1820 + 20 * c') = S.1 806 (1820 + 20 * c')) ∧ S1.1 806 0 = S.1 806 0)) → 1000 + (3 - nv α 3).toNat * 20 + 9 < k → hd_WR R_bBill wd_fl2 kh_bBill kh_bBill_y l D tc ad kd N sm xs S p e s m args below meth c sz 34 lv st S1 0) ∧ (∀ (α : List av_X) (lv : List (Nat × Value)) (st : List Value) (S1 : fw_S), as_in ad sm wd_fl2 xs S kh_bBill.2.2.2.2.2.1 α kh_bBill_a59.2.2.1 lv st S1 → (((∀ c' : Nat, c' < 10 → S1.1 806 (1820 + 20 * c') = S.1 806 (1820 + 20 * c')) ∧ S1.1 806 0 = S.1 806 0) ∧ nv α 5 = 1820 + 20 * nv α 1 + 6 + nv α 3) → 1000 + (3 - nv α 3).toNat * 20 + 8 < k → hd_WR R_bBill wd_fl2 kh_bBill kh_bBill_y l D tc ad kd N sm xs S p e s m args below meth c sz 59 lv st S1 0) ∧ (∀ (α : List av_X) (lv : List (Nat × Value)) (st : List Value) (S1 : fw_S), as_in ad sm wd_fl2 xs S kh_bBill.2.2.2.2.2.1 α kh_bBill_a60.2.2.1 lv st S1 → (((∀ c' : Nat, c' < 10 → S1.1 806 (1820 + 20 * c') = S.1 806 (1820 + 20 * c')) ∧ S1.1 806 0 = S.1 806 0)) → 1000 + (3 - nv α 3).toNat * 20 + 7 < k → hd_WR R_bBill wd_fl2 kh_bBill kh_bBill_y l D tc ad kd N sm xs S p e s m args below meth c sz 60 lv st S1 0) ∧ (∀ (α : List av_X) (lv : List (Nat × Value)) (st : List Value) (S1 : fw_S), as_in ad sm wd_fl2 xs S kh_bBill.2.2.2.2.2.1 α kh_bBill_a74.2.2.1 lv st S1 → (((∀ c' : Nat, c' < 10 → S1.1 806 (1820 + 20 * c') = S.1 806 (1820 + 20 * c')) ∧ S1.1 806 0 = S.1 806 0) ∧ nv α 5 = 1820 + 20 * nv α 1 + 9 + nv α 3) → 1000 + (3 - nv α 3).toNat * 20 + 6 < k → hd_WR R_bBill wd_fl2 kh_bBill kh_bBill_y l D tc ad kd N sm xs S p e s m args below meth c sz 74 lv st S1 0) ∧ (∀ (α : List av_X) (lv : List (Nat × Value)) (st : List Value) (S1 : fw_S), as_in ad sm wd_fl2 xs S kh_bBill.2.2.2.2.2.1 α kh_bBill_a75.2.2.1 lv st S1 → (((∀ c' : Nat, c' < 10 → S1.1 806 (1820 + 20 * c') = S.1 806 (1820 + 20 * c')) ∧ S1.1 806 0 = S.1 806 0)) → 1000 + (3 - nv α 3).toNat * 20 + 5 < k → hd_WR R_bBill wd_fl2 kh_bBill kh_bBill_y l D tc ad kd N sm xs S p e s m args below meth c sz 75 lv st S1 0) ∧ (∀ (α : List av_X) (lv : List (Nat × Value)) (st : List Value) (S1 : fw_S), as_in ad sm wd_fl2 xs S kh_bBill.2.2.2.2.2.1 α kh_bBill_a102.2.2.1 lv st S1 → (((∀ c' : Nat, c' < 10 → S1.1 806 (1820 + 20 * c') = S.1 806 (1820 + 20 * c')) ∧ S1.1 806 0 = S.1 806 0) ∧ nv α 5 = 1820 + 20 * nv α 1 + 12 + nv α 3) → 1000 + (3 - nv α 3).toNat * 20 + 4 < k → hd_WR R_bBill wd_fl2 kh_bBill kh_bBill_y l D tc ad kd N sm xs S p e s m args below meth c sz 102 lv st S1 0) ∧ (∀ (α : List av_X) (lv : List (Nat × Value)) (st : List Value) (S1 : fw_S), as_in ad sm wd_fl2 xs S kh_bBill.2.2.2.2.2.1 α kh_bBill_a103.2.2.1 lv st S1 → (((∀ c' : Nat, c' < 10 → S1.1 806 (1820 + 20 * c') = S.1 806 (1820 + 20 * c')) ∧ S1.1 806 0 = S.1 806 0)) → 1000 + (3 - nv α 3).toNat * 20 + 3 < k → hd_WR R_bBill wd_fl2 kh_bBill kh_bBill_y l D tc ad kd N sm xs S p e s m args below meth c sz 103 lv st S1 0) ∧ (∀ (α : List av_X) (lv : List (Nat × Value)) (st : List Value) (S1 : fw_S), as_in ad sm wd_fl2 xs S kh_bBill.2.2.2.2.2.1 α kh_bBill_a109.2.2.1 lv st S1 → (((∀ c' : Nat, c' < 10 → S1.1 806 (1820 + 20 * c') = S.1 806 (1820 + 20 * c')) ∧ S1.1 806 0 = S.1 806 0)) → 600 < k → hd_WR R_bBill wd_fl2 kh_bBill kh_bBill_y l D tc ad kd N sm xs S p e s m args below meth c sz 109 lv st S1 0) ∧ (∀ (α : List av_X) (lv : List (Nat × Value)) (st : List Value) (S1 : fw_S), as_in ad sm wd_fl2 xs S kh_bBill.2.2.2.2.2.1 α kh_bBill_a134.2.2.1 lv st S1 → (((∀ c' : Nat, c' < 10 → S1.1 806 (1820 + 20 * c') = S.1 806 (1820 + 20 * c')) ∧ S1.1 806 0 = S.1 806 0) ∧ nv α 4 = (S.1 806 (1820 + 20 * nv xs 1).toNat).toInt + 1 ∧ nv α 4 ≤ 33 ∧ nv α 5 = 1820 + 20 * nv xs 1) → 500 < k → hd_WR R_bBill wd_fl2 kh_bBill kh_bBill_y l D tc ad kd N sm xs S p e s m args below meth c sz 134 lv st S1 0) ∧ (∀ (α : List av_X) (lv : List (Nat × Value)) (st : List Value) (S1 : fw_S), as_in ad sm wd_fl2 xs S kh_bBill.2.2.2.2.2.1 α kh_bBill_a135.2.2.1 lv st S1 → (((S1.1 806 (1820 + 20 * nv xs 1).toNat).toInt = (S.1 806 (1820 + 20 * nv xs 1).toNat).toInt + 1 ∧ (∀ c' : Nat, c' < 10 → (c' : Int) ≠ nv xs 1 → S1.1 806 (1820 + 20 * c') = S.1 806 (1820 + 20 * c')) ∧ S1.1 806 0 = S.1 806 0)) → 400 < k → hd_WR R_bBill wd_fl2 kh_bBill kh_bBill_y l D tc ad kd N sm xs S p e s m args below meth c sz 135 lv st S1 0) ∧ (∀ (α : List av_X) (lv : List (Nat × Value)) (st : List Value) (S1 : fw_S), as_in ad sm wd_fl2 xs S kh_bBill.2.2.2.2.2.1 α kh_bBill_a266.2.2.1 lv st S1 → (((S1.1 806 (1820 + 20 * nv xs 1).toNat).toInt = (S.1 806 (1820 + 20 * nv xs 1).toNat).toInt + 1 ∧ (∀ c' : Nat, c' < 10 → (c' : Int) ≠ nv xs 1 → S1.1 806 (1820 + 20 * c') = S.1 806 (1820 + 20 * c')) ∧ S1.1 806 0 = S.1 806 0)) → (3 - nv α 6).toNat < k → hd_WR R_bBill wd_fl2 kh_bBill kh_bBill_y l D tc ad kd N sm xs S p e s m args below meth c sz 266 lv st S1 0) ∧ True
set_option maxHeartbeats 16000000 in
set_option maxRecDepth 8000 in
theorem kh_bBill_h9 {l : Launch} {D : va_G} {tc : Nat → ClassId} {ad : Nat → Nat} {kd : Nat → Nat × Nat} {N : Nat} {sm : Nat → Nat} {xs : List av_X} {S : fw_S} {p : Program} {e : Env} {s : State} {m : MethodId} {args : Array Value} {below : List Frame} {meth : Method} {c : Code} {sz : Nat} {lvE : List (Nat × Value)} (G : hd_C wd_ff2 wd_fl2 kh_bBill [kh_bC0, kh_661, kh_663, kh_672, kh_bC, kh_670, kh_mC, kh_675, kh_686, kh_684, kh_649, kh_688, kh_646, kh_689, kh_405, kh_690, kh_691, kh_692, kh_693, kh_694, kh_695, kh_696, kh_698] kh_bBill_y l D tc ad kd N sm xs p s m args meth c sz) (H0 : as_in ad sm wd_fl2 xs S kh_bBill.2.2.2.2.2.1 xs (hd_0 kh_bBill) lvE [] S) (hpre : P_bBill xs S) {k : Nat} (ih : kh_bBill_I l D tc ad kd N sm xs S p e s m args below meth c sz k) : (∀ (α : List av_X) (lv : List (Nat × Value)) (st : List Value) (S1 : fw_S), as_in ad sm wd_fl2 xs S kh_bBill.2.2.2.2.2.1 α kh_bBill_a9.2.2.1 lv st S1 → (((∀ c' : Nat, c' < 10 → S1.1 806 (1820 + 20 * c') = S.1 806 (1820 + 20 * c')) ∧ S1.1 806 0 = S.1 806 0)) → 1000 + (3 - nv α 3).toNat * 20 + 14 < k + 1 → hd_WR R_bBill wd_fl2 kh_bBill kh_bBill_y l D tc ad kd N sm xs S p e s m args below meth c sz 9 lv st S1 0) := by
  have hx : xs.length = 2 := by rw [H0.2.1.1]; rfl
  intro α lv st S1 H hp hk
  obtain ⟨α1, hle, Hr⟩ := as_recM (pl := []) [((806, 806), (1464, 1783, 11)), ((806, 806), (1465, 1784, 11)), ((806, 806), (1466, 1785, 11))] (by decide +kernel) H
  have hf := H.2.2.2.2.2.2.2.2.2.2.1
  have hl1 : α1.length = 4 := by rw [Hr.2.1.1]; rfl
  have hl0 : α.length = 4 := by rw [H.2.1.1]; rfl
  have hxa : al_le xs α1 := H.1.trans hle
  obtain ⟨g1, -, g3, g4, -⟩ := as_fx Hr
  have g0 : (805 ≤ nv α1 0 ∧ nv α1 0 ≤ 805) ∧ (0 ≤ nv α1 1 ∧ nv α1 1 ≤ 9) ∧ ((-9223372036854775808) ≤ nv α1 2 ∧ nv α1 2 ≤ 9223372036854775807) ∧ (0 ≤ nv α1 3 ∧ nv α1 3 ≤ 3) ∧ True := by
    refine ⟨by have h := (en_nv (i := 0) Hr.2.1 rfl).2; exact h, by have h := (en_nv (i := 1) Hr.2.1 rfl).2; exact h, by have h := (en_nv (i := 2) Hr.2.1 rfl).2; exact h, by have h := (en_nv (i := 3) Hr.2.1 rfl).2; exact h, trivial⟩
  have r0 : nv α1 0 = nv α 0 := nv_le hle (by omega)
  have r1 : nv α1 1 = nv α 1 := nv_le hle (by omega)
  have r2 : nv α1 2 = nv α 2 := nv_le hle (by omega)
  have r3 : nv α1 3 = nv α 3 := nv_le hle (by omega)
  refine hd_segMR G (na := 4) (fuel := 600) (first := true) (Bs := [kh_bBill_b9_0, kh_bBill_b9_1, kh_bBill_b9_2]) (by decide +kernel) hl1 Hr ?_
  intro q hq β lv' st' S' H1
  simp only [List.mem_cons, List.not_mem_nil, or_false] at hq
  rcases hq with rfl | rfl | rfl
  · obtain ⟨f1, f2, f3, f4, f5⟩ := as_fx H1
    simp only [kh_bBill_b9_0, fx_env, fx_c, fx_ne, fx_hf, wl_S, Nat.zero_add, Nat.reduceAdd, Nat.reduceDiv, Nat.reduceMod, List.getElem?_cons_zero, List.getElem?_cons_succ, if_true, and_true, true_and] at f1 f2 f3 f4 f5
    have fe0 : nv β 0 = 805 := by omega
    have fe3 : nv β 3 = 3 := by omega
    have fe4 : nv β 4 = 3 := by omega
    try simp only [fe0, fe3, fe4, Int.reduceToNat] at f2 f3 f4 f5
    have s0 : nv β 0 = nv α1 0 := nv_le H1.1 (by omega)
    have s1 : nv β 1 = nv α1 1 := nv_le H1.1 (by omega)
    have s2 : nv β 2 = nv α1 2 := nv_le H1.1 (by omega)
    have s3 : nv β 3 = nv α1 3 := nv_le H1.1 (by omega)
    have c0 := f2
    obtain ⟨α', Ha, hm⟩ := hd_gpM (q := kh_bBill_a109) (n := 0) (by decide +kernel) hx H1 (by decide +kernel) hxa hf
    have hfr := H1.2.2.2.2.2.2.2.2.2.2.1
    have m0 : nv α' 0 = nv β 0 := hm 0 0 rfl
    have m1 : nv α' 1 = nv β 1 := hm 1 1 rfl
    have m2 : nv α' 2 = nv β 2 := hm 2 2 rfl
    have m3 : nv α' 3 = nv β 3 := hm 3 3 rfl
    have eb : ∀ c : Nat, c < 10 → S'.1 806 (1820 + 20 * c) = S1.1 806 (1820 + 20 * c) := fun c _ => by rw [f5]
    have e0 : S'.1 806 0 = S1.1 806 0 := by rw [f5]
    refine ih.2.2.2.2.2.2.2.2.1 _ _ _ _ Ha ?_ ?_
    · exact ⟨fun c hc => (eb c hc).trans (hp.1 c hc), e0.trans hp.2⟩
    · omega
  · obtain ⟨f1, f2, f3, f4, f5⟩ := as_fx H1
    simp only [kh_bBill_b9_1, fx_env, fx_c, fx_ne, fx_hf, wl_S, Nat.zero_add, Nat.reduceAdd, Nat.reduceDiv, Nat.reduceMod, List.getElem?_cons_zero, List.getElem?_cons_succ, if_true, and_true, true_and] at f1 f2 f3 f4 f5
    have fe0 : nv β 0 = 805 := by omega
    have fe4 : nv β 4 = 3 := by omega
    have fe5 : nv β 5 = 1 := by omega
    try simp only [fe0, fe4, fe5, Int.reduceToNat] at f2 f3 f4 f5
    have s0 : nv β 0 = nv α1 0 := nv_le H1.1 (by omega)
    have s1 : nv β 1 = nv α1 1 := nv_le H1.1 (by omega)
    have s2 : nv β 2 = nv α1 2 := nv_le H1.1 (by omega)
    have s3 : nv β 3 = nv α1 3 := nv_le H1.1 (by omega)
    have c0 := f2
    obtain ⟨α', Ha, hm⟩ := hd_gpM (q := kh_bBill_a34) (n := 0) (by decide +kernel) hx H1 (by decide +kernel) hxa hf
    have hfr := H1.2.2.2.2.2.2.2.2.2.2.1
    have m0 : nv α' 0 = nv β 0 := hm 0 0 rfl
    have m1 : nv α' 1 = nv β 1 := hm 1 1 rfl
    have m2 : nv α' 2 = nv β 2 := hm 2 2 rfl
    have m3 : nv α' 3 = nv β 3 := hm 3 3 rfl
    have eb := fun c hc => bl_fr hfr (by decide +kernel) c hc
    have e0 := fr_pl hfr 806 0 (by decide +kernel)
    refine ih.2.1 _ _ _ _ Ha ?_ ?_
    · exact ⟨fun c hc => (eb c hc).trans (hp.1 c hc), e0.trans hp.2⟩
    · omega
  · obtain ⟨f1, f2, f3, f4, f5⟩ := as_fx H1
    simp only [kh_bBill_b9_2, fx_env, fx_c, fx_ne, fx_hf, wl_S, Nat.zero_add, Nat.reduceAdd, Nat.reduceDiv, Nat.reduceMod, List.getElem?_cons_zero, List.getElem?_cons_succ, if_true, and_true, true_and] at f1 f2 f3 f4 f5
    have fe0 : nv β 0 = 805 := by omega
    have fe4 : nv β 4 = 3 := by omega
    have fe5 : nv β 5 = 0 := by omega
    try simp only [fe0, fe4, fe5, Int.reduceToNat] at f2 f3 f4 f5
    have s0 : nv β 0 = nv α1 0 := nv_le H1.1 (by omega)
    have s1 : nv β 1 = nv α1 1 := nv_le H1.1 (by omega)
    have s2 : nv β 2 = nv α1 2 := nv_le H1.1 (by omega)
    have s3 : nv β 3 = nv α1 3 := nv_le H1.1 (by omega)
    have c0 := f2
    obtain ⟨α', Ha, hm⟩ := hd_gpM (q := kh_bBill_a34) (n := 0) (by decide +kernel) hx H1 (by decide +kernel) hxa hf
    have hfr := H1.2.2.2.2.2.2.2.2.2.2.1
    have m0 : nv α' 0 = nv β 0 := hm 0 0 rfl
    have m1 : nv α' 1 = nv β 1 := hm 1 1 rfl
    have m2 : nv α' 2 = nv β 2 := hm 2 2 rfl
    have m3 : nv α' 3 = nv β 3 := hm 3 3 rfl
    have eb : ∀ c : Nat, c < 10 → S'.1 806 (1820 + 20 * c) = S1.1 806 (1820 + 20 * c) := fun c _ => by rw [f5]
    have e0 : S'.1 806 0 = S1.1 806 0 := by rw [f5]
    refine ih.2.1 _ _ _ _ Ha ?_ ?_
    · exact ⟨fun c hc => (eb c hc).trans (hp.1 c hc), e0.trans hp.2⟩
    · omega
set_option maxHeartbeats 16000000 in
set_option maxRecDepth 8000 in
theorem kh_bBill_h34 {l : Launch} {D : va_G} {tc : Nat → ClassId} {ad : Nat → Nat} {kd : Nat → Nat × Nat} {N : Nat} {sm : Nat → Nat} {xs : List av_X} {S : fw_S} {p : Program} {e : Env} {s : State} {m : MethodId} {args : Array Value} {below : List Frame} {meth : Method} {c : Code} {sz : Nat} {lvE : List (Nat × Value)} (G : hd_C wd_ff2 wd_fl2 kh_bBill [kh_bC0, kh_661, kh_663, kh_672, kh_bC, kh_670, kh_mC, kh_675, kh_686, kh_684, kh_649, kh_688, kh_646, kh_689, kh_405, kh_690, kh_691, kh_692, kh_693, kh_694, kh_695, kh_696, kh_698] kh_bBill_y l D tc ad kd N sm xs p s m args meth c sz) (H0 : as_in ad sm wd_fl2 xs S kh_bBill.2.2.2.2.2.1 xs (hd_0 kh_bBill) lvE [] S) (hpre : P_bBill xs S) {k : Nat} (ih : kh_bBill_I l D tc ad kd N sm xs S p e s m args below meth c sz k) : (∀ (α : List av_X) (lv : List (Nat × Value)) (st : List Value) (S1 : fw_S), as_in ad sm wd_fl2 xs S kh_bBill.2.2.2.2.2.1 α kh_bBill_a34.2.2.1 lv st S1 → (((∀ c' : Nat, c' < 10 → S1.1 806 (1820 + 20 * c') = S.1 806 (1820 + 20 * c')) ∧ S1.1 806 0 = S.1 806 0)) → 1000 + (3 - nv α 3).toNat * 20 + 9 < k + 1 → hd_WR R_bBill wd_fl2 kh_bBill kh_bBill_y l D tc ad kd N sm xs S p e s m args below meth c sz 34 lv st S1 0) := by
  have hx : xs.length = 2 := by rw [H0.2.1.1]; rfl
  intro α lv st S1 H hp hk
  obtain ⟨α1, hle, Hr⟩ := as_recM (pl := []) [] (by decide +kernel) H
  have hf := H.2.2.2.2.2.2.2.2.2.2.1
  have hl1 : α1.length = 4 := by rw [Hr.2.1.1]; rfl
  have hl0 : α.length = 4 := by rw [H.2.1.1]; rfl
  have hxa : al_le xs α1 := H.1.trans hle
  obtain ⟨g1, -, g3, g4, -⟩ := as_fx Hr
  have g0 : (805 ≤ nv α1 0 ∧ nv α1 0 ≤ 805) ∧ (0 ≤ nv α1 1 ∧ nv α1 1 ≤ 9) ∧ ((-9223372036854775808) ≤ nv α1 2 ∧ nv α1 2 ≤ 9223372036854775807) ∧ (0 ≤ nv α1 3 ∧ nv α1 3 ≤ 2) ∧ True := by
    refine ⟨by have h := (en_nv (i := 0) Hr.2.1 rfl).2; exact h, by have h := (en_nv (i := 1) Hr.2.1 rfl).2; exact h, by have h := (en_nv (i := 2) Hr.2.1 rfl).2; exact h, by have h := (en_nv (i := 3) Hr.2.1 rfl).2; exact h, trivial⟩
  have r0 : nv α1 0 = nv α 0 := nv_le hle (by omega)
  have r1 : nv α1 1 = nv α 1 := nv_le hle (by omega)
  have r2 : nv α1 2 = nv α 2 := nv_le hle (by omega)
  have r3 : nv α1 3 = nv α 3 := nv_le hle (by omega)
  refine hd_segMR G (na := 4) (fuel := 600) (first := true) (Bs := [kh_bBill_b34_0]) (by decide +kernel) hl1 Hr ?_
  intro q hq β lv' st' S' H1
  simp only [List.mem_cons, List.not_mem_nil, or_false] at hq
  rcases hq with rfl
  · obtain ⟨f1, f2, f3, f4, f5⟩ := as_fx H1
    simp only [kh_bBill_b34_0, fx_env, fx_c, fx_ne, fx_hf, wl_S, Nat.zero_add, Nat.reduceAdd, Nat.reduceDiv, Nat.reduceMod, List.getElem?_cons_zero, List.getElem?_cons_succ, if_true, and_true, true_and] at f1 f2 f3 f4 f5
    have fe0 : nv β 0 = 805 := by omega
    have fe4 : nv β 4 = 806 := by omega
    have fe5 : nv β 5 = 6 := by omega
    have fe8 : nv β 8 = 806 := by omega
    have fe9 : nv β 9 = 3 := by omega
    try simp only [fe0, fe4, fe5, fe8, fe9, Int.reduceToNat] at f2 f3 f4 f5
    have s0 : nv β 0 = nv α1 0 := nv_le H1.1 (by omega)
    have s1 : nv β 1 = nv α1 1 := nv_le H1.1 (by omega)
    have s2 : nv β 2 = nv α1 2 := nv_le H1.1 (by omega)
    have s3 : nv β 3 = nv α1 3 := nv_le H1.1 (by omega)
    obtain ⟨c0, c1, c2⟩ := f2
    obtain ⟨α', Ha, hm⟩ := hd_gpM (q := kh_bBill_a59) (n := 0) (by decide +kernel) hx H1 (by decide +kernel) hxa hf
    have hfr := H1.2.2.2.2.2.2.2.2.2.2.1
    have m0 : nv α' 0 = nv β 0 := hm 0 0 rfl
    have m1 : nv α' 1 = nv β 1 := hm 1 1 rfl
    have m2 : nv α' 2 = nv β 2 := hm 2 2 rfl
    have m3 : nv α' 3 = nv β 3 := hm 3 3 rfl
    have m4 : nv α' 4 = nv β 11 := hm 4 11 rfl
    have m5 : nv α' 5 = nv β 7 := hm 5 7 rfl
    have m6 : nv α' 6 = nv β 4 := hm 6 4 rfl
    have z1 : nv α 1 = nv xs 1 := nv_le H.1 (by omega)
    have d1 := fl1_b (by decide) (fl2_b (by decide) c1)
    simp only [wd_fl] at d1
    have eb : ∀ c : Nat, c < 10 → S'.1 806 (1820 + 20 * c) = S1.1 806 (1820 + 20 * c) := fun c _ => by rw [f5]
    have e0 : S'.1 806 0 = S1.1 806 0 := by rw [f5]
    refine ih.2.2.1 _ _ _ _ Ha ?_ ?_
    · rw [m5, m3]
      exact ⟨⟨fun c hc => (eb c hc).trans (hp.1 c hc), e0.trans hp.2⟩, by omega⟩
    · omega
set_option maxHeartbeats 16000000 in
set_option maxRecDepth 8000 in
theorem kh_bBill_h59 {l : Launch} {D : va_G} {tc : Nat → ClassId} {ad : Nat → Nat} {kd : Nat → Nat × Nat} {N : Nat} {sm : Nat → Nat} {xs : List av_X} {S : fw_S} {p : Program} {e : Env} {s : State} {m : MethodId} {args : Array Value} {below : List Frame} {meth : Method} {c : Code} {sz : Nat} {lvE : List (Nat × Value)} (G : hd_C wd_ff2 wd_fl2 kh_bBill [kh_bC0, kh_661, kh_663, kh_672, kh_bC, kh_670, kh_mC, kh_675, kh_686, kh_684, kh_649, kh_688, kh_646, kh_689, kh_405, kh_690, kh_691, kh_692, kh_693, kh_694, kh_695, kh_696, kh_698] kh_bBill_y l D tc ad kd N sm xs p s m args meth c sz) (H0 : as_in ad sm wd_fl2 xs S kh_bBill.2.2.2.2.2.1 xs (hd_0 kh_bBill) lvE [] S) (hpre : P_bBill xs S) {k : Nat} (ih : kh_bBill_I l D tc ad kd N sm xs S p e s m args below meth c sz k) : (∀ (α : List av_X) (lv : List (Nat × Value)) (st : List Value) (S1 : fw_S), as_in ad sm wd_fl2 xs S kh_bBill.2.2.2.2.2.1 α kh_bBill_a59.2.2.1 lv st S1 → (((∀ c' : Nat, c' < 10 → S1.1 806 (1820 + 20 * c') = S.1 806 (1820 + 20 * c')) ∧ S1.1 806 0 = S.1 806 0) ∧ nv α 5 = 1820 + 20 * nv α 1 + 6 + nv α 3) → 1000 + (3 - nv α 3).toNat * 20 + 8 < k + 1 → hd_WR R_bBill wd_fl2 kh_bBill kh_bBill_y l D tc ad kd N sm xs S p e s m args below meth c sz 59 lv st S1 0) := by
  have hx : xs.length = 2 := by rw [H0.2.1.1]; rfl
  intro α lv st S1 H hp hk
  have hf := H.2.2.2.2.2.2.2.2.2.2.1
  have g0 : (805 ≤ nv α 0 ∧ nv α 0 ≤ 805) ∧ (0 ≤ nv α 1 ∧ nv α 1 ≤ 9) ∧ ((-9223372036854775808) ≤ nv α 2 ∧ nv α 2 ≤ 9223372036854775807) ∧ (0 ≤ nv α 3 ∧ nv α 3 ≤ 2) ∧ ((-2147483648) ≤ nv α 4 ∧ nv α 4 ≤ 2147483647) ∧ (1820 ≤ nv α 5 ∧ nv α 5 ≤ 2019) ∧ (806 ≤ nv α 6 ∧ nv α 6 ≤ 806) ∧ True := by
    refine ⟨by have h := (en_nv (i := 0) H.2.1 rfl).2; exact h, by have h := (en_nv (i := 1) H.2.1 rfl).2; exact h, by have h := (en_nv (i := 2) H.2.1 rfl).2; exact h, by have h := (en_nv (i := 3) H.2.1 rfl).2; exact h, by have h := (en_nv (i := 4) H.2.1 rfl).2; exact h, by have h := (en_nv (i := 5) H.2.1 rfl).2; exact h, by have h := (en_nv (i := 6) H.2.1 rfl).2; exact h, trivial⟩
  have z1 : nv α 1 = nv xs 1 := nv_le H.1 (by omega)
  obtain ⟨⟨p1, p2⟩, p3⟩ := hp
  have hi : (nv α 5).toNat = 1820 + 20 * (nv xs 1).toNat + (6 + nv α 3).toNat := by omega
  refine hd_store G (by decide +kernel) (xv := 4) (iv := 5) (rv := 6) (cc := 806) rfl (by rfl) (by rfl) (by rfl) H (by rw [hi]; exact bl_put H.2.2.2.2.2.2.2.2.2.1 (by omega) (by omega) (by omega)) (fr_put hf (Or.inl (md_at_p (lo := 1826) (hi := 2014) (st := 1) (by decide) (by omega) (by omega) (Nat.one_dvd _)))) (fun st' H1 => ?_)
  obtain ⟨α', Ha, hm⟩ := hd_gpS (q := kh_bBill_a60) (n := 0) (by decide +kernel) hx H1
  have m0 : nv α' 0 = nv α 0 := hm 0 0 rfl
  have m1 : nv α' 1 = nv α 1 := hm 1 1 rfl
  have m2 : nv α' 2 = nv α 2 := hm 2 2 rfl
  have m3 : nv α' 3 = nv α 3 := hm 3 3 rfl
  refine ih.2.2.2.1 _ _ _ _ Ha ?_ ?_
  · refine ⟨fun c' hc' => ?_, ?_⟩
    · rw [fw_i_row, if_neg (by omega)]; exact p1 c' hc'
    · rw [fw_i_row, if_neg (by omega)]; exact p2
  · rw [m3]; omega
set_option maxHeartbeats 16000000 in
set_option maxRecDepth 8000 in
theorem kh_bBill_h60 {l : Launch} {D : va_G} {tc : Nat → ClassId} {ad : Nat → Nat} {kd : Nat → Nat × Nat} {N : Nat} {sm : Nat → Nat} {xs : List av_X} {S : fw_S} {p : Program} {e : Env} {s : State} {m : MethodId} {args : Array Value} {below : List Frame} {meth : Method} {c : Code} {sz : Nat} {lvE : List (Nat × Value)} (G : hd_C wd_ff2 wd_fl2 kh_bBill [kh_bC0, kh_661, kh_663, kh_672, kh_bC, kh_670, kh_mC, kh_675, kh_686, kh_684, kh_649, kh_688, kh_646, kh_689, kh_405, kh_690, kh_691, kh_692, kh_693, kh_694, kh_695, kh_696, kh_698] kh_bBill_y l D tc ad kd N sm xs p s m args meth c sz) (H0 : as_in ad sm wd_fl2 xs S kh_bBill.2.2.2.2.2.1 xs (hd_0 kh_bBill) lvE [] S) (hpre : P_bBill xs S) {k : Nat} (ih : kh_bBill_I l D tc ad kd N sm xs S p e s m args below meth c sz k) : (∀ (α : List av_X) (lv : List (Nat × Value)) (st : List Value) (S1 : fw_S), as_in ad sm wd_fl2 xs S kh_bBill.2.2.2.2.2.1 α kh_bBill_a60.2.2.1 lv st S1 → (((∀ c' : Nat, c' < 10 → S1.1 806 (1820 + 20 * c') = S.1 806 (1820 + 20 * c')) ∧ S1.1 806 0 = S.1 806 0)) → 1000 + (3 - nv α 3).toNat * 20 + 7 < k + 1 → hd_WR R_bBill wd_fl2 kh_bBill kh_bBill_y l D tc ad kd N sm xs S p e s m args below meth c sz 60 lv st S1 0) := by
  have hx : xs.length = 2 := by rw [H0.2.1.1]; rfl
  intro α lv st S1 H hp hk
  obtain ⟨α1, hle, Hr⟩ := as_recM (pl := []) [] (by decide +kernel) H
  have hf := H.2.2.2.2.2.2.2.2.2.2.1
  have hl1 : α1.length = 4 := by rw [Hr.2.1.1]; rfl
  have hl0 : α.length = 4 := by rw [H.2.1.1]; rfl
  have hxa : al_le xs α1 := H.1.trans hle
  obtain ⟨g1, -, g3, g4, -⟩ := as_fx Hr
  have g0 : (805 ≤ nv α1 0 ∧ nv α1 0 ≤ 805) ∧ (0 ≤ nv α1 1 ∧ nv α1 1 ≤ 9) ∧ ((-9223372036854775808) ≤ nv α1 2 ∧ nv α1 2 ≤ 9223372036854775807) ∧ (0 ≤ nv α1 3 ∧ nv α1 3 ≤ 2) ∧ True := by
    refine ⟨by have h := (en_nv (i := 0) Hr.2.1 rfl).2; exact h, by have h := (en_nv (i := 1) Hr.2.1 rfl).2; exact h, by have h := (en_nv (i := 2) Hr.2.1 rfl).2; exact h, by have h := (en_nv (i := 3) Hr.2.1 rfl).2; exact h, trivial⟩
  have r0 : nv α1 0 = nv α 0 := nv_le hle (by omega)
  have r1 : nv α1 1 = nv α 1 := nv_le hle (by omega)
  have r2 : nv α1 2 = nv α 2 := nv_le hle (by omega)
  have r3 : nv α1 3 = nv α 3 := nv_le hle (by omega)
  refine hd_segMR G (na := 4) (fuel := 600) (first := true) (Bs := [kh_bBill_b60_0]) (by decide +kernel) hl1 Hr ?_
  intro q hq β lv' st' S' H1
  simp only [List.mem_cons, List.not_mem_nil, or_false] at hq
  rcases hq with rfl
  · obtain ⟨f1, f2, f3, f4, f5⟩ := as_fx H1
    simp only [kh_bBill_b60_0, fx_env, fx_c, fx_ne, fx_hf, wl_S, Nat.zero_add, Nat.reduceAdd, Nat.reduceDiv, Nat.reduceMod, List.getElem?_cons_zero, List.getElem?_cons_succ, if_true, and_true, true_and] at f1 f2 f3 f4 f5
    have fe0 : nv β 0 = 805 := by omega
    have fe4 : nv β 4 = 806 := by omega
    have fe5 : nv β 5 = 9 := by omega
    have fe8 : nv β 8 = 0 := by omega
    try simp only [fe0, fe4, fe5, fe8, Int.reduceToNat] at f2 f3 f4 f5
    have s0 : nv β 0 = nv α1 0 := nv_le H1.1 (by omega)
    have s1 : nv β 1 = nv α1 1 := nv_le H1.1 (by omega)
    have s2 : nv β 2 = nv α1 2 := nv_le H1.1 (by omega)
    have s3 : nv β 3 = nv α1 3 := nv_le H1.1 (by omega)
    obtain ⟨c0, c1⟩ := f2
    obtain ⟨α', Ha, hm⟩ := hd_gpM (q := kh_bBill_a74) (n := 0) (by decide +kernel) hx H1 (by decide +kernel) hxa hf
    have hfr := H1.2.2.2.2.2.2.2.2.2.2.1
    have m0 : nv α' 0 = nv β 0 := hm 0 0 rfl
    have m1 : nv α' 1 = nv β 1 := hm 1 1 rfl
    have m2 : nv α' 2 = nv β 2 := hm 2 2 rfl
    have m3 : nv α' 3 = nv β 3 := hm 3 3 rfl
    have m4 : nv α' 4 = nv β 8 := hm 4 8 rfl
    have m5 : nv α' 5 = nv β 7 := hm 5 7 rfl
    have m6 : nv α' 6 = nv β 4 := hm 6 4 rfl
    have z1 : nv α 1 = nv xs 1 := nv_le H.1 (by omega)
    have d0 := fl1_b (by decide) (fl2_b (by decide) c0)
    simp only [wd_fl] at d0
    have eb : ∀ c : Nat, c < 10 → S'.1 806 (1820 + 20 * c) = S1.1 806 (1820 + 20 * c) := fun c _ => by rw [f5]
    have e0 : S'.1 806 0 = S1.1 806 0 := by rw [f5]
    refine ih.2.2.2.2.1 _ _ _ _ Ha ?_ ?_
    · rw [m5, m3]
      exact ⟨⟨fun c hc => (eb c hc).trans (hp.1 c hc), e0.trans hp.2⟩, by omega⟩
    · omega
set_option maxHeartbeats 16000000 in
set_option maxRecDepth 8000 in
theorem kh_bBill_h74 {l : Launch} {D : va_G} {tc : Nat → ClassId} {ad : Nat → Nat} {kd : Nat → Nat × Nat} {N : Nat} {sm : Nat → Nat} {xs : List av_X} {S : fw_S} {p : Program} {e : Env} {s : State} {m : MethodId} {args : Array Value} {below : List Frame} {meth : Method} {c : Code} {sz : Nat} {lvE : List (Nat × Value)} (G : hd_C wd_ff2 wd_fl2 kh_bBill [kh_bC0, kh_661, kh_663, kh_672, kh_bC, kh_670, kh_mC, kh_675, kh_686, kh_684, kh_649, kh_688, kh_646, kh_689, kh_405, kh_690, kh_691, kh_692, kh_693, kh_694, kh_695, kh_696, kh_698] kh_bBill_y l D tc ad kd N sm xs p s m args meth c sz) (H0 : as_in ad sm wd_fl2 xs S kh_bBill.2.2.2.2.2.1 xs (hd_0 kh_bBill) lvE [] S) (hpre : P_bBill xs S) {k : Nat} (ih : kh_bBill_I l D tc ad kd N sm xs S p e s m args below meth c sz k) : (∀ (α : List av_X) (lv : List (Nat × Value)) (st : List Value) (S1 : fw_S), as_in ad sm wd_fl2 xs S kh_bBill.2.2.2.2.2.1 α kh_bBill_a74.2.2.1 lv st S1 → (((∀ c' : Nat, c' < 10 → S1.1 806 (1820 + 20 * c') = S.1 806 (1820 + 20 * c')) ∧ S1.1 806 0 = S.1 806 0) ∧ nv α 5 = 1820 + 20 * nv α 1 + 9 + nv α 3) → 1000 + (3 - nv α 3).toNat * 20 + 6 < k + 1 → hd_WR R_bBill wd_fl2 kh_bBill kh_bBill_y l D tc ad kd N sm xs S p e s m args below meth c sz 74 lv st S1 0) := by
  have hx : xs.length = 2 := by rw [H0.2.1.1]; rfl
  intro α lv st S1 H hp hk
  have hf := H.2.2.2.2.2.2.2.2.2.2.1
  have g0 : (805 ≤ nv α 0 ∧ nv α 0 ≤ 805) ∧ (0 ≤ nv α 1 ∧ nv α 1 ≤ 9) ∧ ((-9223372036854775808) ≤ nv α 2 ∧ nv α 2 ≤ 9223372036854775807) ∧ (0 ≤ nv α 3 ∧ nv α 3 ≤ 2) ∧ (0 ≤ nv α 4 ∧ nv α 4 ≤ 0) ∧ (1820 ≤ nv α 5 ∧ nv α 5 ≤ 2019) ∧ (806 ≤ nv α 6 ∧ nv α 6 ≤ 806) ∧ True := by
    refine ⟨by have h := (en_nv (i := 0) H.2.1 rfl).2; exact h, by have h := (en_nv (i := 1) H.2.1 rfl).2; exact h, by have h := (en_nv (i := 2) H.2.1 rfl).2; exact h, by have h := (en_nv (i := 3) H.2.1 rfl).2; exact h, by have h := (en_nv (i := 4) H.2.1 rfl).2; exact h, by have h := (en_nv (i := 5) H.2.1 rfl).2; exact h, by have h := (en_nv (i := 6) H.2.1 rfl).2; exact h, trivial⟩
  have z1 : nv α 1 = nv xs 1 := nv_le H.1 (by omega)
  obtain ⟨⟨p1, p2⟩, p3⟩ := hp
  have hi : (nv α 5).toNat = 1820 + 20 * (nv xs 1).toNat + (9 + nv α 3).toNat := by omega
  refine hd_store G (by decide +kernel) (xv := 4) (iv := 5) (rv := 6) (cc := 806) rfl (by rfl) (by rfl) (by rfl) H (by rw [hi]; exact bl_put H.2.2.2.2.2.2.2.2.2.1 (by omega) (by omega) (by omega)) (fr_put hf (Or.inl (md_at_p (lo := 1826) (hi := 2014) (st := 1) (by decide) (by omega) (by omega) (Nat.one_dvd _)))) (fun st' H1 => ?_)
  obtain ⟨α', Ha, hm⟩ := hd_gpS (q := kh_bBill_a75) (n := 0) (by decide +kernel) hx H1
  have m0 : nv α' 0 = nv α 0 := hm 0 0 rfl
  have m1 : nv α' 1 = nv α 1 := hm 1 1 rfl
  have m2 : nv α' 2 = nv α 2 := hm 2 2 rfl
  have m3 : nv α' 3 = nv α 3 := hm 3 3 rfl
  refine ih.2.2.2.2.2.1 _ _ _ _ Ha ?_ ?_
  · refine ⟨fun c' hc' => ?_, ?_⟩
    · rw [fw_i_row, if_neg (by omega)]; exact p1 c' hc'
    · rw [fw_i_row, if_neg (by omega)]; exact p2
  · rw [m3]; omega
set_option maxHeartbeats 16000000 in
set_option maxRecDepth 8000 in
theorem kh_bBill_h75 {l : Launch} {D : va_G} {tc : Nat → ClassId} {ad : Nat → Nat} {kd : Nat → Nat × Nat} {N : Nat} {sm : Nat → Nat} {xs : List av_X} {S : fw_S} {p : Program} {e : Env} {s : State} {m : MethodId} {args : Array Value} {below : List Frame} {meth : Method} {c : Code} {sz : Nat} {lvE : List (Nat × Value)} (G : hd_C wd_ff2 wd_fl2 kh_bBill [kh_bC0, kh_661, kh_663, kh_672, kh_bC, kh_670, kh_mC, kh_675, kh_686, kh_684, kh_649, kh_688, kh_646, kh_689, kh_405, kh_690, kh_691, kh_692, kh_693, kh_694, kh_695, kh_696, kh_698] kh_bBill_y l D tc ad kd N sm xs p s m args meth c sz) (H0 : as_in ad sm wd_fl2 xs S kh_bBill.2.2.2.2.2.1 xs (hd_0 kh_bBill) lvE [] S) (hpre : P_bBill xs S) {k : Nat} (ih : kh_bBill_I l D tc ad kd N sm xs S p e s m args below meth c sz k) : (∀ (α : List av_X) (lv : List (Nat × Value)) (st : List Value) (S1 : fw_S), as_in ad sm wd_fl2 xs S kh_bBill.2.2.2.2.2.1 α kh_bBill_a75.2.2.1 lv st S1 → (((∀ c' : Nat, c' < 10 → S1.1 806 (1820 + 20 * c') = S.1 806 (1820 + 20 * c')) ∧ S1.1 806 0 = S.1 806 0)) → 1000 + (3 - nv α 3).toNat * 20 + 5 < k + 1 → hd_WR R_bBill wd_fl2 kh_bBill kh_bBill_y l D tc ad kd N sm xs S p e s m args below meth c sz 75 lv st S1 0) := by
  have hx : xs.length = 2 := by rw [H0.2.1.1]; rfl
  intro α lv st S1 H hp hk
  obtain ⟨α1, hle, Hr⟩ := as_recM (pl := []) [] (by decide +kernel) H
  have hf := H.2.2.2.2.2.2.2.2.2.2.1
  have hl1 : α1.length = 4 := by rw [Hr.2.1.1]; rfl
  have hl0 : α.length = 4 := by rw [H.2.1.1]; rfl
  have hxa : al_le xs α1 := H.1.trans hle
  obtain ⟨g1, -, g3, g4, -⟩ := as_fx Hr
  have g0 : (805 ≤ nv α1 0 ∧ nv α1 0 ≤ 805) ∧ (0 ≤ nv α1 1 ∧ nv α1 1 ≤ 9) ∧ ((-9223372036854775808) ≤ nv α1 2 ∧ nv α1 2 ≤ 9223372036854775807) ∧ (0 ≤ nv α1 3 ∧ nv α1 3 ≤ 2) ∧ True := by
    refine ⟨by have h := (en_nv (i := 0) Hr.2.1 rfl).2; exact h, by have h := (en_nv (i := 1) Hr.2.1 rfl).2; exact h, by have h := (en_nv (i := 2) Hr.2.1 rfl).2; exact h, by have h := (en_nv (i := 3) Hr.2.1 rfl).2; exact h, trivial⟩
  have r0 : nv α1 0 = nv α 0 := nv_le hle (by omega)
  have r1 : nv α1 1 = nv α 1 := nv_le hle (by omega)
  have r2 : nv α1 2 = nv α 2 := nv_le hle (by omega)
  have r3 : nv α1 3 = nv α 3 := nv_le hle (by omega)
  refine hd_segMR G (na := 4) (fuel := 600) (first := true) (Bs := [kh_bBill_b75_0]) (by decide +kernel) hl1 Hr ?_
  intro q hq β lv' st' S' H1
  simp only [List.mem_cons, List.not_mem_nil, or_false] at hq
  rcases hq with rfl
  · obtain ⟨f1, f2, f3, f4, f5⟩ := as_fx H1
    simp only [kh_bBill_b75_0, fx_env, fx_c, fx_ne, fx_hf, wl_S, Nat.zero_add, Nat.reduceAdd, Nat.reduceDiv, Nat.reduceMod, List.getElem?_cons_zero, List.getElem?_cons_succ, if_true, and_true, true_and] at f1 f2 f3 f4 f5
    have fe0 : nv β 0 = 805 := by omega
    have fe4 : nv β 4 = 806 := by omega
    have fe5 : nv β 5 = 12 := by omega
    have fe8 : nv β 8 = 806 := by omega
    have fe9 : nv β 9 = 9 := by omega
    try simp only [fe0, fe4, fe5, fe8, fe9, Int.reduceToNat] at f2 f3 f4 f5
    have s0 : nv β 0 = nv α1 0 := nv_le H1.1 (by omega)
    have s1 : nv β 1 = nv α1 1 := nv_le H1.1 (by omega)
    have s2 : nv β 2 = nv α1 2 := nv_le H1.1 (by omega)
    have s3 : nv β 3 = nv α1 3 := nv_le H1.1 (by omega)
    obtain ⟨c0, c1, c2, c3, c4⟩ := f2
    obtain ⟨α', Ha, hm⟩ := hd_gpM (q := kh_bBill_a102) (n := 0) (by decide +kernel) hx H1 (by decide +kernel) hxa hf
    have hfr := H1.2.2.2.2.2.2.2.2.2.2.1
    have m0 : nv α' 0 = nv β 0 := hm 0 0 rfl
    have m1 : nv α' 1 = nv β 1 := hm 1 1 rfl
    have m2 : nv α' 2 = nv β 2 := hm 2 2 rfl
    have m3 : nv α' 3 = nv β 3 := hm 3 3 rfl
    have m4 : nv α' 4 = nv β 12 := hm 4 12 rfl
    have m5 : nv α' 5 = nv β 7 := hm 5 7 rfl
    have m6 : nv α' 6 = nv β 4 := hm 6 4 rfl
    have z1 : nv α 1 = nv xs 1 := nv_le H.1 (by omega)
    have d1 := fl1_b (by decide) (fl2_b (by decide) c1)
    simp only [wd_fl] at d1
    have d3 := fl1_b (by decide) (fl2_b (by decide) c3)
    simp only [wd_fl] at d3
    have eb : ∀ c : Nat, c < 10 → S'.1 806 (1820 + 20 * c) = S1.1 806 (1820 + 20 * c) := fun c _ => by rw [f5]
    have e0 : S'.1 806 0 = S1.1 806 0 := by rw [f5]
    refine ih.2.2.2.2.2.2.1 _ _ _ _ Ha ?_ ?_
    · rw [m5, m3]
      exact ⟨⟨fun c hc => (eb c hc).trans (hp.1 c hc), e0.trans hp.2⟩, by omega⟩
    · omega
set_option maxHeartbeats 16000000 in
set_option maxRecDepth 8000 in
theorem kh_bBill_h102 {l : Launch} {D : va_G} {tc : Nat → ClassId} {ad : Nat → Nat} {kd : Nat → Nat × Nat} {N : Nat} {sm : Nat → Nat} {xs : List av_X} {S : fw_S} {p : Program} {e : Env} {s : State} {m : MethodId} {args : Array Value} {below : List Frame} {meth : Method} {c : Code} {sz : Nat} {lvE : List (Nat × Value)} (G : hd_C wd_ff2 wd_fl2 kh_bBill [kh_bC0, kh_661, kh_663, kh_672, kh_bC, kh_670, kh_mC, kh_675, kh_686, kh_684, kh_649, kh_688, kh_646, kh_689, kh_405, kh_690, kh_691, kh_692, kh_693, kh_694, kh_695, kh_696, kh_698] kh_bBill_y l D tc ad kd N sm xs p s m args meth c sz) (H0 : as_in ad sm wd_fl2 xs S kh_bBill.2.2.2.2.2.1 xs (hd_0 kh_bBill) lvE [] S) (hpre : P_bBill xs S) {k : Nat} (ih : kh_bBill_I l D tc ad kd N sm xs S p e s m args below meth c sz k) : (∀ (α : List av_X) (lv : List (Nat × Value)) (st : List Value) (S1 : fw_S), as_in ad sm wd_fl2 xs S kh_bBill.2.2.2.2.2.1 α kh_bBill_a102.2.2.1 lv st S1 → (((∀ c' : Nat, c' < 10 → S1.1 806 (1820 + 20 * c') = S.1 806 (1820 + 20 * c')) ∧ S1.1 806 0 = S.1 806 0) ∧ nv α 5 = 1820 + 20 * nv α 1 + 12 + nv α 3) → 1000 + (3 - nv α 3).toNat * 20 + 4 < k + 1 → hd_WR R_bBill wd_fl2 kh_bBill kh_bBill_y l D tc ad kd N sm xs S p e s m args below meth c sz 102 lv st S1 0) := by
  have hx : xs.length = 2 := by rw [H0.2.1.1]; rfl
  intro α lv st S1 H hp hk
  have hf := H.2.2.2.2.2.2.2.2.2.2.1
  have g0 : (805 ≤ nv α 0 ∧ nv α 0 ≤ 805) ∧ (0 ≤ nv α 1 ∧ nv α 1 ≤ 9) ∧ ((-9223372036854775808) ≤ nv α 2 ∧ nv α 2 ≤ 9223372036854775807) ∧ (0 ≤ nv α 3 ∧ nv α 3 ≤ 2) ∧ ((-2147483648) ≤ nv α 4 ∧ nv α 4 ≤ 2147483647) ∧ (1820 ≤ nv α 5 ∧ nv α 5 ≤ 2019) ∧ (806 ≤ nv α 6 ∧ nv α 6 ≤ 806) ∧ True := by
    refine ⟨by have h := (en_nv (i := 0) H.2.1 rfl).2; exact h, by have h := (en_nv (i := 1) H.2.1 rfl).2; exact h, by have h := (en_nv (i := 2) H.2.1 rfl).2; exact h, by have h := (en_nv (i := 3) H.2.1 rfl).2; exact h, by have h := (en_nv (i := 4) H.2.1 rfl).2; exact h, by have h := (en_nv (i := 5) H.2.1 rfl).2; exact h, by have h := (en_nv (i := 6) H.2.1 rfl).2; exact h, trivial⟩
  have z1 : nv α 1 = nv xs 1 := nv_le H.1 (by omega)
  obtain ⟨⟨p1, p2⟩, p3⟩ := hp
  have hi : (nv α 5).toNat = 1820 + 20 * (nv xs 1).toNat + (12 + nv α 3).toNat := by omega
  refine hd_store G (by decide +kernel) (xv := 4) (iv := 5) (rv := 6) (cc := 806) rfl (by rfl) (by rfl) (by rfl) H (by rw [hi]; exact bl_put H.2.2.2.2.2.2.2.2.2.1 (by omega) (by omega) (by omega)) (fr_put hf (Or.inl (md_at_p (lo := 1826) (hi := 2014) (st := 1) (by decide) (by omega) (by omega) (Nat.one_dvd _)))) (fun st' H1 => ?_)
  obtain ⟨α', Ha, hm⟩ := hd_gpS (q := kh_bBill_a103) (n := 0) (by decide +kernel) hx H1
  have m0 : nv α' 0 = nv α 0 := hm 0 0 rfl
  have m1 : nv α' 1 = nv α 1 := hm 1 1 rfl
  have m2 : nv α' 2 = nv α 2 := hm 2 2 rfl
  have m3 : nv α' 3 = nv α 3 := hm 3 3 rfl
  refine ih.2.2.2.2.2.2.2.1 _ _ _ _ Ha ?_ ?_
  · refine ⟨fun c' hc' => ?_, ?_⟩
    · rw [fw_i_row, if_neg (by omega)]; exact p1 c' hc'
    · rw [fw_i_row, if_neg (by omega)]; exact p2
  · rw [m3]; omega
set_option maxHeartbeats 16000000 in
set_option maxRecDepth 8000 in
theorem kh_bBill_h103 {l : Launch} {D : va_G} {tc : Nat → ClassId} {ad : Nat → Nat} {kd : Nat → Nat × Nat} {N : Nat} {sm : Nat → Nat} {xs : List av_X} {S : fw_S} {p : Program} {e : Env} {s : State} {m : MethodId} {args : Array Value} {below : List Frame} {meth : Method} {c : Code} {sz : Nat} {lvE : List (Nat × Value)} (G : hd_C wd_ff2 wd_fl2 kh_bBill [kh_bC0, kh_661, kh_663, kh_672, kh_bC, kh_670, kh_mC, kh_675, kh_686, kh_684, kh_649, kh_688, kh_646, kh_689, kh_405, kh_690, kh_691, kh_692, kh_693, kh_694, kh_695, kh_696, kh_698] kh_bBill_y l D tc ad kd N sm xs p s m args meth c sz) (H0 : as_in ad sm wd_fl2 xs S kh_bBill.2.2.2.2.2.1 xs (hd_0 kh_bBill) lvE [] S) (hpre : P_bBill xs S) {k : Nat} (ih : kh_bBill_I l D tc ad kd N sm xs S p e s m args below meth c sz k) : (∀ (α : List av_X) (lv : List (Nat × Value)) (st : List Value) (S1 : fw_S), as_in ad sm wd_fl2 xs S kh_bBill.2.2.2.2.2.1 α kh_bBill_a103.2.2.1 lv st S1 → (((∀ c' : Nat, c' < 10 → S1.1 806 (1820 + 20 * c') = S.1 806 (1820 + 20 * c')) ∧ S1.1 806 0 = S.1 806 0)) → 1000 + (3 - nv α 3).toNat * 20 + 3 < k + 1 → hd_WR R_bBill wd_fl2 kh_bBill kh_bBill_y l D tc ad kd N sm xs S p e s m args below meth c sz 103 lv st S1 0) := by
  have hx : xs.length = 2 := by rw [H0.2.1.1]; rfl
  intro α lv st S1 H hp hk
  obtain ⟨α1, hle, Hr⟩ := as_recM (pl := []) [] (by decide +kernel) H
  have hf := H.2.2.2.2.2.2.2.2.2.2.1
  have hl1 : α1.length = 4 := by rw [Hr.2.1.1]; rfl
  have hl0 : α.length = 4 := by rw [H.2.1.1]; rfl
  have hxa : al_le xs α1 := H.1.trans hle
  obtain ⟨g1, -, g3, g4, -⟩ := as_fx Hr
  have g0 : (805 ≤ nv α1 0 ∧ nv α1 0 ≤ 805) ∧ (0 ≤ nv α1 1 ∧ nv α1 1 ≤ 9) ∧ ((-9223372036854775808) ≤ nv α1 2 ∧ nv α1 2 ≤ 9223372036854775807) ∧ (0 ≤ nv α1 3 ∧ nv α1 3 ≤ 2) ∧ True := by
    refine ⟨by have h := (en_nv (i := 0) Hr.2.1 rfl).2; exact h, by have h := (en_nv (i := 1) Hr.2.1 rfl).2; exact h, by have h := (en_nv (i := 2) Hr.2.1 rfl).2; exact h, by have h := (en_nv (i := 3) Hr.2.1 rfl).2; exact h, trivial⟩
  have r0 : nv α1 0 = nv α 0 := nv_le hle (by omega)
  have r1 : nv α1 1 = nv α 1 := nv_le hle (by omega)
  have r2 : nv α1 2 = nv α 2 := nv_le hle (by omega)
  have r3 : nv α1 3 = nv α 3 := nv_le hle (by omega)
  refine hd_segMR G (na := 4) (fuel := 600) (first := true) (Bs := [kh_bBill_b103_0]) (by decide +kernel) hl1 Hr ?_
  intro q hq β lv' st' S' H1
  simp only [List.mem_cons, List.not_mem_nil, or_false] at hq
  rcases hq with rfl
  · obtain ⟨f1, f2, f3, f4, f5⟩ := as_fx H1
    simp only [kh_bBill_b103_0, fx_env, fx_c, fx_ne, fx_hf, wl_S, Nat.zero_add, Nat.reduceAdd, Nat.reduceDiv, Nat.reduceMod, List.getElem?_cons_zero, List.getElem?_cons_succ, if_true, and_true, true_and] at f1 f2 f3 f4 f5
    have fe0 : nv β 0 = 805 := by omega
    try simp only [fe0, Int.reduceToNat] at f2 f3 f4 f5
    have s0 : nv β 0 = nv α1 0 := nv_le H1.1 (by omega)
    have s1 : nv β 1 = nv α1 1 := nv_le H1.1 (by omega)
    have s2 : nv β 2 = nv α1 2 := nv_le H1.1 (by omega)
    have s3 : nv β 3 = nv α1 3 := nv_le H1.1 (by omega)
    obtain ⟨α', Ha, hm⟩ := hd_gpM (q := kh_bBill_a9) (n := 0) (by decide +kernel) hx H1 (by decide +kernel) hxa hf
    have hfr := H1.2.2.2.2.2.2.2.2.2.2.1
    have m0 : nv α' 0 = nv β 0 := hm 0 0 rfl
    have m1 : nv α' 1 = nv β 1 := hm 1 1 rfl
    have m2 : nv α' 2 = nv β 2 := hm 2 2 rfl
    have m3 : nv α' 3 = nv β 4 := hm 3 4 rfl
    have eb : ∀ c : Nat, c < 10 → S'.1 806 (1820 + 20 * c) = S1.1 806 (1820 + 20 * c) := fun c _ => by rw [f5]
    have e0 : S'.1 806 0 = S1.1 806 0 := by rw [f5]
    refine ih.1 _ _ _ _ Ha ?_ ?_
    · exact ⟨fun c hc => (eb c hc).trans (hp.1 c hc), e0.trans hp.2⟩
    · omega
set_option maxHeartbeats 16000000 in
set_option maxRecDepth 8000 in
theorem kh_bBill_h109 {l : Launch} {D : va_G} {tc : Nat → ClassId} {ad : Nat → Nat} {kd : Nat → Nat × Nat} {N : Nat} {sm : Nat → Nat} {xs : List av_X} {S : fw_S} {p : Program} {e : Env} {s : State} {m : MethodId} {args : Array Value} {below : List Frame} {meth : Method} {c : Code} {sz : Nat} {lvE : List (Nat × Value)} (G : hd_C wd_ff2 wd_fl2 kh_bBill [kh_bC0, kh_661, kh_663, kh_672, kh_bC, kh_670, kh_mC, kh_675, kh_686, kh_684, kh_649, kh_688, kh_646, kh_689, kh_405, kh_690, kh_691, kh_692, kh_693, kh_694, kh_695, kh_696, kh_698] kh_bBill_y l D tc ad kd N sm xs p s m args meth c sz) (H0 : as_in ad sm wd_fl2 xs S kh_bBill.2.2.2.2.2.1 xs (hd_0 kh_bBill) lvE [] S) (hpre : P_bBill xs S) {k : Nat} (ih : kh_bBill_I l D tc ad kd N sm xs S p e s m args below meth c sz k) : (∀ (α : List av_X) (lv : List (Nat × Value)) (st : List Value) (S1 : fw_S), as_in ad sm wd_fl2 xs S kh_bBill.2.2.2.2.2.1 α kh_bBill_a109.2.2.1 lv st S1 → (((∀ c' : Nat, c' < 10 → S1.1 806 (1820 + 20 * c') = S.1 806 (1820 + 20 * c')) ∧ S1.1 806 0 = S.1 806 0)) → 600 < k + 1 → hd_WR R_bBill wd_fl2 kh_bBill kh_bBill_y l D tc ad kd N sm xs S p e s m args below meth c sz 109 lv st S1 0) := by
  have hx : xs.length = 2 := by rw [H0.2.1.1]; rfl
  intro α lv st S1 H hp hk
  obtain ⟨α1, hle, Hr⟩ := as_recM (pl := []) [] (by decide +kernel) H
  have hf := H.2.2.2.2.2.2.2.2.2.2.1
  have hl1 : α1.length = 4 := by rw [Hr.2.1.1]; rfl
  have hl0 : α.length = 4 := by rw [H.2.1.1]; rfl
  have hxa : al_le xs α1 := H.1.trans hle
  obtain ⟨g1, -, g3, g4, -⟩ := as_fx Hr
  have g0 : (805 ≤ nv α1 0 ∧ nv α1 0 ≤ 805) ∧ (0 ≤ nv α1 1 ∧ nv α1 1 ≤ 9) ∧ ((-9223372036854775808) ≤ nv α1 2 ∧ nv α1 2 ≤ 9223372036854775807) ∧ (3 ≤ nv α1 3 ∧ nv α1 3 ≤ 3) ∧ True := by
    refine ⟨by have h := (en_nv (i := 0) Hr.2.1 rfl).2; exact h, by have h := (en_nv (i := 1) Hr.2.1 rfl).2; exact h, by have h := (en_nv (i := 2) Hr.2.1 rfl).2; exact h, by have h := (en_nv (i := 3) Hr.2.1 rfl).2; exact h, trivial⟩
  have r0 : nv α1 0 = nv α 0 := nv_le hle (by omega)
  have r1 : nv α1 1 = nv α 1 := nv_le hle (by omega)
  have r2 : nv α1 2 = nv α 2 := nv_le hle (by omega)
  have r3 : nv α1 3 = nv α 3 := nv_le hle (by omega)
  refine hd_segMR G (na := 4) (fuel := 600) (first := true) (Bs := [kh_bBill_b109_0]) (by decide +kernel) hl1 Hr ?_
  intro q hq β lv' st' S' H1
  simp only [List.mem_cons, List.not_mem_nil, or_false] at hq
  rcases hq with rfl
  · obtain ⟨f1, f2, f3, f4, f5⟩ := as_fx H1
    simp only [kh_bBill_b109_0, fx_env, fx_c, fx_ne, fx_hf, wl_S, Nat.zero_add, Nat.reduceAdd, Nat.reduceDiv, Nat.reduceMod, List.getElem?_cons_zero, List.getElem?_cons_succ, if_true, and_true, true_and] at f1 f2 f3 f4 f5
    have fe0 : nv β 0 = 805 := by omega
    have fe3 : nv β 3 = 3 := by omega
    have fe4 : nv β 4 = 806 := by omega
    have fe5 : nv β 5 = 0 := by omega
    have fe8 : nv β 8 = 806 := by omega
    have fe9 : nv β 9 = 0 := by omega
    have fe12 : nv β 12 = 1 := by omega
    try simp only [fe0, fe3, fe4, fe5, fe8, fe9, fe12, Int.reduceToNat] at f2 f3 f4 f5
    have s0 : nv β 0 = nv α1 0 := nv_le H1.1 (by omega)
    have s1 : nv β 1 = nv α1 1 := nv_le H1.1 (by omega)
    have s2 : nv β 2 = nv α1 2 := nv_le H1.1 (by omega)
    have s3 : nv β 3 = nv α1 3 := nv_le H1.1 (by omega)
    obtain ⟨c0, c1, c2, c3, c4⟩ := f2
    obtain ⟨α', Ha, hm⟩ := hd_gpM (q := kh_bBill_a134) (n := 0) (by decide +kernel) hx H1 (by decide +kernel) hxa hf
    have hfr := H1.2.2.2.2.2.2.2.2.2.2.1
    have m0 : nv α' 0 = nv β 0 := hm 0 0 rfl
    have m1 : nv α' 1 = nv β 1 := hm 1 1 rfl
    have m2 : nv α' 2 = nv β 2 := hm 2 2 rfl
    have m3 : nv α' 3 = nv β 7 := hm 3 7 rfl
    have m4 : nv α' 4 = nv β 13 := hm 4 13 rfl
    have m5 : nv α' 5 = nv β 10 := hm 5 10 rfl
    have m6 : nv α' 6 = nv β 8 := hm 6 8 rfl
    have z1 : nv α 1 = nv xs 1 := nv_le H.1 (by omega)
    have eb : ∀ c : Nat, c < 10 → S'.1 806 (1820 + 20 * c) = S1.1 806 (1820 + 20 * c) := fun c _ => by rw [f5]
    have e0 : S'.1 806 0 = S1.1 806 0 := by rw [f5]
    have o1 := old_0 c1 rfl
    have o3 := old_0 c3 rfl
    have d2 := fl1_b (by decide) (fl2_b (by decide) c2)
    simp only [wd_fl] at d2
    have d4 := fl1_b (by decide) (fl2_b (by decide) c4)
    simp only [wd_fl] at d4
    have h0 : (S.1 806 (1820 + 20 * nv xs 1).toNat).toInt ≤ 32 := hpre
    have hh := hp.1 (nv xs 1).toNat (by omega)
    rw [show 1820 + 20 * (nv xs 1).toNat = (1820 + 20 * nv xs 1).toNat by omega] at hh
    rw [show (nv β 10).toNat = (1820 + 20 * nv xs 1).toNat by omega, hh] at o1
    refine ih.2.2.2.2.2.2.2.2.2.1 _ _ _ _ Ha ?_ ?_
    · rw [m4, m5]
      exact ⟨⟨fun c hc => (eb c hc).trans (hp.1 c hc), e0.trans hp.2⟩, by omega, by omega, by omega⟩
    · omega
set_option maxHeartbeats 16000000 in
set_option maxRecDepth 8000 in
theorem kh_bBill_h134 {l : Launch} {D : va_G} {tc : Nat → ClassId} {ad : Nat → Nat} {kd : Nat → Nat × Nat} {N : Nat} {sm : Nat → Nat} {xs : List av_X} {S : fw_S} {p : Program} {e : Env} {s : State} {m : MethodId} {args : Array Value} {below : List Frame} {meth : Method} {c : Code} {sz : Nat} {lvE : List (Nat × Value)} (G : hd_C wd_ff2 wd_fl2 kh_bBill [kh_bC0, kh_661, kh_663, kh_672, kh_bC, kh_670, kh_mC, kh_675, kh_686, kh_684, kh_649, kh_688, kh_646, kh_689, kh_405, kh_690, kh_691, kh_692, kh_693, kh_694, kh_695, kh_696, kh_698] kh_bBill_y l D tc ad kd N sm xs p s m args meth c sz) (H0 : as_in ad sm wd_fl2 xs S kh_bBill.2.2.2.2.2.1 xs (hd_0 kh_bBill) lvE [] S) (hpre : P_bBill xs S) {k : Nat} (ih : kh_bBill_I l D tc ad kd N sm xs S p e s m args below meth c sz k) : (∀ (α : List av_X) (lv : List (Nat × Value)) (st : List Value) (S1 : fw_S), as_in ad sm wd_fl2 xs S kh_bBill.2.2.2.2.2.1 α kh_bBill_a134.2.2.1 lv st S1 → (((∀ c' : Nat, c' < 10 → S1.1 806 (1820 + 20 * c') = S.1 806 (1820 + 20 * c')) ∧ S1.1 806 0 = S.1 806 0) ∧ nv α 4 = (S.1 806 (1820 + 20 * nv xs 1).toNat).toInt + 1 ∧ nv α 4 ≤ 33 ∧ nv α 5 = 1820 + 20 * nv xs 1) → 500 < k + 1 → hd_WR R_bBill wd_fl2 kh_bBill kh_bBill_y l D tc ad kd N sm xs S p e s m args below meth c sz 134 lv st S1 0) := by
  have hx : xs.length = 2 := by rw [H0.2.1.1]; rfl
  intro α lv st S1 H hp hk
  have bp := (en_nv (i := 4) H.2.1 rfl).2
  change 1 ≤ nv α 4 ∧ nv α 4 ≤ 34 at bp
  replace H := as_clamp (i := 4) (lo := 1) (hi := 33) H rfl rfl (by omega) (by exact hp.2.2.1) (by decide)
  obtain ⟨α1, hle, Hr⟩ := as_recM (pl := []) [((806, 806), (1820, 2000, 20))] (by decide +kernel) H
  have hf := H.2.2.2.2.2.2.2.2.2.2.1
  have hl1 : α1.length = 7 := by rw [Hr.2.1.1]; rfl
  have hl0 : α.length = 7 := by rw [H.2.1.1]; rfl
  have hxa : al_le xs α1 := H.1.trans hle
  obtain ⟨g1, -, g3, g4, -⟩ := as_fx Hr
  have g0 : (805 ≤ nv α1 0 ∧ nv α1 0 ≤ 805) ∧ (0 ≤ nv α1 1 ∧ nv α1 1 ≤ 9) ∧ ((-9223372036854775808) ≤ nv α1 2 ∧ nv α1 2 ≤ 9223372036854775807) ∧ (0 ≤ nv α1 3 ∧ nv α1 3 ≤ 33) ∧ (1 ≤ nv α1 4 ∧ nv α1 4 ≤ 33) ∧ (1820 ≤ nv α1 5 ∧ nv α1 5 ≤ 2000) ∧ (806 ≤ nv α1 6 ∧ nv α1 6 ≤ 806) ∧ True := by
    refine ⟨by have h := (en_nv (i := 0) Hr.2.1 rfl).2; exact h, by have h := (en_nv (i := 1) Hr.2.1 rfl).2; exact h, by have h := (en_nv (i := 2) Hr.2.1 rfl).2; exact h, by have h := (en_nv (i := 3) Hr.2.1 rfl).2; exact h, by have h := (en_nv (i := 4) Hr.2.1 rfl).2; exact h, by have h := (en_nv (i := 5) Hr.2.1 rfl).2; exact h, by have h := (en_nv (i := 6) Hr.2.1 rfl).2; exact h, trivial⟩
  have r0 : nv α1 0 = nv α 0 := nv_le hle (by omega)
  have r1 : nv α1 1 = nv α 1 := nv_le hle (by omega)
  have r2 : nv α1 2 = nv α 2 := nv_le hle (by omega)
  have r3 : nv α1 3 = nv α 3 := nv_le hle (by omega)
  have r4 : nv α1 4 = nv α 4 := nv_le hle (by omega)
  have r5 : nv α1 5 = nv α 5 := nv_le hle (by omega)
  have r6 : nv α1 6 = nv α 6 := nv_le hle (by omega)
  refine hd_segMR G (na := 7) (fuel := 600) (first := true) (Bs := [kh_bBill_b134_0]) (by decide +kernel) hl1 Hr ?_
  intro q hq β lv' st' S' H1
  simp only [List.mem_cons, List.not_mem_nil, or_false] at hq
  rcases hq with rfl
  · obtain ⟨f1, f2, f3, f4, f5⟩ := as_fx H1
    simp only [kh_bBill_b134_0, fx_env, fx_c, fx_ne, fx_hf, wl_S, Nat.zero_add, Nat.reduceAdd, Nat.reduceDiv, Nat.reduceMod, List.getElem?_cons_zero, List.getElem?_cons_succ, if_true, and_true, true_and] at f1 f2 f3 f4 f5
    have fe0 : nv β 0 = 805 := by omega
    have fe6 : nv β 6 = 806 := by omega
    try simp only [fe0, fe6, Int.reduceToNat] at f2 f3 f4 f5
    have s0 : nv β 0 = nv α1 0 := nv_le H1.1 (by omega)
    have s1 : nv β 1 = nv α1 1 := nv_le H1.1 (by omega)
    have s2 : nv β 2 = nv α1 2 := nv_le H1.1 (by omega)
    have s3 : nv β 3 = nv α1 3 := nv_le H1.1 (by omega)
    have s4 : nv β 4 = nv α1 4 := nv_le H1.1 (by omega)
    have s5 : nv β 5 = nv α1 5 := nv_le H1.1 (by omega)
    have s6 : nv β 6 = nv α1 6 := nv_le H1.1 (by omega)
    obtain ⟨α', Ha, hm⟩ := hd_gpM (q := kh_bBill_a135) (n := 0) (by decide +kernel) hx H1 (by decide +kernel) hxa hf
    have hfr := H1.2.2.2.2.2.2.2.2.2.2.1
    have m0 : nv α' 0 = nv β 0 := hm 0 0 rfl
    have m1 : nv α' 1 = nv β 1 := hm 1 1 rfl
    have m2 : nv α' 2 = nv β 2 := hm 2 2 rfl
    have m3 : nv α' 3 = nv β 3 := hm 3 3 rfl
    have z1 : nv α 1 = nv xs 1 := nv_le H.1 (by omega)
    obtain ⟨⟨p1, p2⟩, p3, p4, p5⟩ := hp
    have hi : (nv β 5).toNat = (1820 + 20 * nv xs 1).toNat := by omega
    have hrow : ∀ j : Nat, S'.1 806 j = if j = (1820 + 20 * nv xs 1).toNat then Int32.ofInt (nv β 4) else S1.1 806 j := fun j => by rw [f5, fw_i_row, hi]
    refine ih.2.2.2.2.2.2.2.2.2.2.1 _ _ _ _ Ha ?_ ?_
    · refine ⟨?_, fun c' hc' hn => ?_, ?_⟩
      · rw [hrow, if_pos rfl, i32_of (by omega) (by omega)]; omega
      · rw [hrow, if_neg (by omega)]; exact p1 c' hc'
      · rw [hrow, if_neg (by omega)]; exact p2
    · omega
set_option maxHeartbeats 16000000 in
set_option maxRecDepth 8000 in
theorem kh_bBill_h135 {l : Launch} {D : va_G} {tc : Nat → ClassId} {ad : Nat → Nat} {kd : Nat → Nat × Nat} {N : Nat} {sm : Nat → Nat} {xs : List av_X} {S : fw_S} {p : Program} {e : Env} {s : State} {m : MethodId} {args : Array Value} {below : List Frame} {meth : Method} {c : Code} {sz : Nat} {lvE : List (Nat × Value)} (G : hd_C wd_ff2 wd_fl2 kh_bBill [kh_bC0, kh_661, kh_663, kh_672, kh_bC, kh_670, kh_mC, kh_675, kh_686, kh_684, kh_649, kh_688, kh_646, kh_689, kh_405, kh_690, kh_691, kh_692, kh_693, kh_694, kh_695, kh_696, kh_698] kh_bBill_y l D tc ad kd N sm xs p s m args meth c sz) (H0 : as_in ad sm wd_fl2 xs S kh_bBill.2.2.2.2.2.1 xs (hd_0 kh_bBill) lvE [] S) (hpre : P_bBill xs S) {k : Nat} (ih : kh_bBill_I l D tc ad kd N sm xs S p e s m args below meth c sz k) : (∀ (α : List av_X) (lv : List (Nat × Value)) (st : List Value) (S1 : fw_S), as_in ad sm wd_fl2 xs S kh_bBill.2.2.2.2.2.1 α kh_bBill_a135.2.2.1 lv st S1 → (((S1.1 806 (1820 + 20 * nv xs 1).toNat).toInt = (S.1 806 (1820 + 20 * nv xs 1).toNat).toInt + 1 ∧ (∀ c' : Nat, c' < 10 → (c' : Int) ≠ nv xs 1 → S1.1 806 (1820 + 20 * c') = S.1 806 (1820 + 20 * c')) ∧ S1.1 806 0 = S.1 806 0)) → 400 < k + 1 → hd_WR R_bBill wd_fl2 kh_bBill kh_bBill_y l D tc ad kd N sm xs S p e s m args below meth c sz 135 lv st S1 0) := by
  have hx : xs.length = 2 := by rw [H0.2.1.1]; rfl
  intro α lv st S1 H hp hk
  obtain ⟨α1, hle, Hr⟩ := as_recM (pl := []) [((807, 807), (100, 2812, 8)), ((807, 807), (2860, 2860, 0)), ((807, 807), (2861, 2861, 0)), ((807, 807), (2862, 2862, 0)), ((807, 807), (2864, 2864, 0))] (by decide +kernel) H
  have hf := H.2.2.2.2.2.2.2.2.2.2.1
  have hl1 : α1.length = 4 := by rw [Hr.2.1.1]; rfl
  have hl0 : α.length = 4 := by rw [H.2.1.1]; rfl
  have hxa : al_le xs α1 := H.1.trans hle
  obtain ⟨g1, -, g3, g4, -⟩ := as_fx Hr
  have g0 : (805 ≤ nv α1 0 ∧ nv α1 0 ≤ 805) ∧ (0 ≤ nv α1 1 ∧ nv α1 1 ≤ 9) ∧ ((-9223372036854775808) ≤ nv α1 2 ∧ nv α1 2 ≤ 9223372036854775807) ∧ (0 ≤ nv α1 3 ∧ nv α1 3 ≤ 33) ∧ True := by
    refine ⟨by have h := (en_nv (i := 0) Hr.2.1 rfl).2; exact h, by have h := (en_nv (i := 1) Hr.2.1 rfl).2; exact h, by have h := (en_nv (i := 2) Hr.2.1 rfl).2; exact h, by have h := (en_nv (i := 3) Hr.2.1 rfl).2; exact h, trivial⟩
  have r0 : nv α1 0 = nv α 0 := nv_le hle (by omega)
  have r1 : nv α1 1 = nv α 1 := nv_le hle (by omega)
  have r2 : nv α1 2 = nv α 2 := nv_le hle (by omega)
  have r3 : nv α1 3 = nv α 3 := nv_le hle (by omega)
  refine hd_segMR G (na := 4) (fuel := 600) (first := true) (Bs := [kh_bBill_b135_0, kh_bBill_b135_1, kh_bBill_b135_2, kh_bBill_b135_3, kh_bBill_b135_4, kh_bBill_b135_5]) (by decide +kernel) hl1 Hr ?_
  intro q hq β lv' st' S' H1
  simp only [List.mem_cons, List.not_mem_nil, or_false] at hq
  rcases hq with rfl | rfl | rfl | rfl | rfl | rfl
  · obtain ⟨f1, f2, f3, f4, f5⟩ := as_fx H1
    simp only [kh_bBill_b135_0, fx_env, fx_c, fx_ne, fx_hf, wl_S, Nat.zero_add, Nat.reduceAdd, Nat.reduceDiv, Nat.reduceMod, List.getElem?_cons_zero, List.getElem?_cons_succ, if_true, and_true, true_and] at f1 f2 f3 f4 f5
    have fe0 : nv β 0 = 805 := by omega
    have fe7 : nv β 7 = 807 := by omega
    have fe8 : nv β 8 = 2861 := by omega
    have fe11 : nv β 11 = 807 := by omega
    have fe12 : nv β 12 = 2861 := by omega
    have fe13 : nv β 13 = 807 := by omega
    have fe14 : nv β 14 = 2861 := by omega
    have fe16 : nv β 16 = 807 := by omega
    have fe17 : nv β 17 = 2860 := by omega
    have fe20 : nv β 20 = 807 := by omega
    have fe21 : nv β 21 = 2864 := by omega
    have fe24 : nv β 24 = 807 := by omega
    have fe25 : nv β 25 = 2862 := by omega
    have fe28 : nv β 28 = 807 := by omega
    have fe29 : nv β 29 = 0 := by omega
    have fe33 : nv β 33 = 0 := by omega
    try simp only [fe0, fe7, fe8, fe11, fe12, fe13, fe14, fe16, fe17, fe20, fe21, fe24, fe25, fe28, fe29, fe33, Int.reduceToNat] at f2 f3 f4 f5
    have s0 : nv β 0 = nv α1 0 := nv_le H1.1 (by omega)
    have s1 : nv β 1 = nv α1 1 := nv_le H1.1 (by omega)
    have s2 : nv β 2 = nv α1 2 := nv_le H1.1 (by omega)
    have s3 : nv β 3 = nv α1 3 := nv_le H1.1 (by omega)
    have c1 := f2
    obtain ⟨α', Ha, hm⟩ := hd_gpM (q := kh_bBill_a266) (n := 0) (by decide +kernel) hx H1 (by decide +kernel) hxa hf
    have hfr := H1.2.2.2.2.2.2.2.2.2.2.1
    have m0 : nv α' 0 = nv β 0 := hm 0 0 rfl
    have m1 : nv α' 1 = nv β 1 := hm 1 1 rfl
    have m2 : nv α' 2 = nv β 2 := hm 2 2 rfl
    have m3 : nv α' 3 = nv β 3 := hm 3 3 rfl
    have m4 : nv α' 4 = nv β 6 := hm 4 6 rfl
    have m5 : nv α' 5 = nv β 9 := hm 5 9 rfl
    have m6 : nv α' 6 = nv β 33 := hm 6 33 rfl
    have z1 : nv α 1 = nv xs 1 := nv_le H.1 (by omega)
    have eb := fun c hc => bl_fr hfr (by decide +kernel) c hc
    have e0 := fr_pl hfr 806 0 (by decide +kernel)
    refine ih.2.2.2.2.2.2.2.2.2.2.2.1 _ _ _ _ Ha ?_ ?_
    · refine ⟨?_, fun c' hc' hn => (eb c' hc').trans (hp.2.1 c' hc' hn), e0.trans hp.2.2⟩
      have hc9 : (nv xs 1).toNat < 10 := by omega
      have h := eb (nv xs 1).toNat hc9
      rw [show 1820 + 20 * (nv xs 1).toNat = (1820 + 20 * nv xs 1).toNat by omega] at h
      rw [h]; exact hp.1
    · omega
  · obtain ⟨f1, f2, f3, f4, f5⟩ := as_fx H1
    simp only [kh_bBill_b135_1, fx_env, fx_c, fx_ne, fx_hf, wl_S, Nat.zero_add, Nat.reduceAdd, Nat.reduceDiv, Nat.reduceMod, List.getElem?_cons_zero, List.getElem?_cons_succ, if_true, and_true, true_and] at f1 f2 f3 f4 f5
    have fe0 : nv β 0 = 805 := by omega
    have fe7 : nv β 7 = 807 := by omega
    have fe8 : nv β 8 = 2861 := by omega
    have fe10 : nv β 10 = (-1) := by omega
    have fe11 : nv β 11 = 807 := by omega
    have fe12 : nv β 12 = 2861 := by omega
    have fe14 : nv β 14 = 807 := by omega
    have fe15 : nv β 15 = 2860 := by omega
    have fe18 : nv β 18 = 807 := by omega
    have fe19 : nv β 19 = 2864 := by omega
    have fe22 : nv β 22 = 807 := by omega
    have fe23 : nv β 23 = 2862 := by omega
    have fe26 : nv β 26 = 807 := by omega
    have fe27 : nv β 27 = 0 := by omega
    have fe31 : nv β 31 = 0 := by omega
    try simp only [fe0, fe7, fe8, fe10, fe11, fe12, fe14, fe15, fe18, fe19, fe22, fe23, fe26, fe27, fe31, Int.reduceToNat] at f2 f3 f4 f5
    have s0 : nv β 0 = nv α1 0 := nv_le H1.1 (by omega)
    have s1 : nv β 1 = nv α1 1 := nv_le H1.1 (by omega)
    have s2 : nv β 2 = nv α1 2 := nv_le H1.1 (by omega)
    have s3 : nv β 3 = nv α1 3 := nv_le H1.1 (by omega)
    have c1 := f2
    obtain ⟨α', Ha, hm⟩ := hd_gpM (q := kh_bBill_a266) (n := 0) (by decide +kernel) hx H1 (by decide +kernel) hxa hf
    have hfr := H1.2.2.2.2.2.2.2.2.2.2.1
    have m0 : nv α' 0 = nv β 0 := hm 0 0 rfl
    have m1 : nv α' 1 = nv β 1 := hm 1 1 rfl
    have m2 : nv α' 2 = nv β 2 := hm 2 2 rfl
    have m3 : nv α' 3 = nv β 3 := hm 3 3 rfl
    have m4 : nv α' 4 = nv β 6 := hm 4 6 rfl
    have m5 : nv α' 5 = nv β 6 := hm 5 6 rfl
    have m6 : nv α' 6 = nv β 31 := hm 6 31 rfl
    have z1 : nv α 1 = nv xs 1 := nv_le H.1 (by omega)
    have eb := fun c hc => bl_fr hfr (by decide +kernel) c hc
    have e0 := fr_pl hfr 806 0 (by decide +kernel)
    refine ih.2.2.2.2.2.2.2.2.2.2.2.1 _ _ _ _ Ha ?_ ?_
    · refine ⟨?_, fun c' hc' hn => (eb c' hc').trans (hp.2.1 c' hc' hn), e0.trans hp.2.2⟩
      have hc9 : (nv xs 1).toNat < 10 := by omega
      have h := eb (nv xs 1).toNat hc9
      rw [show 1820 + 20 * (nv xs 1).toNat = (1820 + 20 * nv xs 1).toNat by omega] at h
      rw [h]; exact hp.1
    · omega
  · obtain ⟨f1, f2, f3, f4, f5⟩ := as_fx H1
    simp only [kh_bBill_b135_2, fx_env, fx_c, fx_ne, fx_hf, wl_S, Nat.zero_add, Nat.reduceAdd, Nat.reduceDiv, Nat.reduceMod, List.getElem?_cons_zero, List.getElem?_cons_succ, if_true, and_true, true_and] at f1 f2 f3 f4 f5
    have fe0 : nv β 0 = 805 := by omega
    have fe5 : nv β 5 = 1 := by omega
    have fe6 : nv β 6 = 806 := by omega
    have fe7 : nv β 7 = 4 := by omega
    have fe10 : nv β 10 = 1 := by omega
    have fe12 : nv β 12 = 807 := by omega
    have fe13 : nv β 13 = 2861 := by omega
    have fe16 : nv β 16 = 807 := by omega
    have fe17 : nv β 17 = 2861 := by omega
    have fe18 : nv β 18 = 807 := by omega
    have fe19 : nv β 19 = 2861 := by omega
    have fe21 : nv β 21 = 807 := by omega
    have fe22 : nv β 22 = 2860 := by omega
    have fe25 : nv β 25 = 807 := by omega
    have fe26 : nv β 26 = 2864 := by omega
    have fe29 : nv β 29 = 807 := by omega
    have fe30 : nv β 30 = 2862 := by omega
    have fe33 : nv β 33 = 807 := by omega
    have fe34 : nv β 34 = 0 := by omega
    have fe38 : nv β 38 = 0 := by omega
    try simp only [fe0, fe5, fe6, fe7, fe10, fe12, fe13, fe16, fe17, fe18, fe19, fe21, fe22, fe25, fe26, fe29, fe30, fe33, fe34, fe38, Int.reduceToNat] at f2 f3 f4 f5
    have s0 : nv β 0 = nv α1 0 := nv_le H1.1 (by omega)
    have s1 : nv β 1 = nv α1 1 := nv_le H1.1 (by omega)
    have s2 : nv β 2 = nv α1 2 := nv_le H1.1 (by omega)
    have s3 : nv β 3 = nv α1 3 := nv_le H1.1 (by omega)
    obtain ⟨c1, c2, c3, c4⟩ := f2
    obtain ⟨α', Ha, hm⟩ := hd_gpM (q := kh_bBill_a266) (n := 0) (by decide +kernel) hx H1 (by decide +kernel) hxa hf
    have hfr := H1.2.2.2.2.2.2.2.2.2.2.1
    have m0 : nv α' 0 = nv β 0 := hm 0 0 rfl
    have m1 : nv α' 1 = nv β 1 := hm 1 1 rfl
    have m2 : nv α' 2 = nv β 2 := hm 2 2 rfl
    have m3 : nv α' 3 = nv β 3 := hm 3 3 rfl
    have m4 : nv α' 4 = nv β 11 := hm 4 11 rfl
    have m5 : nv α' 5 = nv β 14 := hm 5 14 rfl
    have m6 : nv α' 6 = nv β 38 := hm 6 38 rfl
    have z1 : nv α 1 = nv xs 1 := nv_le H.1 (by omega)
    have eb := fun c hc => bl_fr hfr (by decide +kernel) c hc
    have e0 := fr_pl hfr 806 0 (by decide +kernel)
    refine ih.2.2.2.2.2.2.2.2.2.2.2.1 _ _ _ _ Ha ?_ ?_
    · refine ⟨?_, fun c' hc' hn => (eb c' hc').trans (hp.2.1 c' hc' hn), e0.trans hp.2.2⟩
      have hc9 : (nv xs 1).toNat < 10 := by omega
      have h := eb (nv xs 1).toNat hc9
      rw [show 1820 + 20 * (nv xs 1).toNat = (1820 + 20 * nv xs 1).toNat by omega] at h
      rw [h]; exact hp.1
    · omega
  · obtain ⟨f1, f2, f3, f4, f5⟩ := as_fx H1
    simp only [kh_bBill_b135_3, fx_env, fx_c, fx_ne, fx_hf, wl_S, Nat.zero_add, Nat.reduceAdd, Nat.reduceDiv, Nat.reduceMod, List.getElem?_cons_zero, List.getElem?_cons_succ, if_true, and_true, true_and] at f1 f2 f3 f4 f5
    have fe0 : nv β 0 = 805 := by omega
    have fe5 : nv β 5 = 1 := by omega
    have fe6 : nv β 6 = 806 := by omega
    have fe7 : nv β 7 = 4 := by omega
    have fe10 : nv β 10 = 1 := by omega
    have fe12 : nv β 12 = 807 := by omega
    have fe13 : nv β 13 = 2861 := by omega
    have fe15 : nv β 15 = (-1) := by omega
    have fe16 : nv β 16 = 807 := by omega
    have fe17 : nv β 17 = 2861 := by omega
    have fe19 : nv β 19 = 807 := by omega
    have fe20 : nv β 20 = 2860 := by omega
    have fe23 : nv β 23 = 807 := by omega
    have fe24 : nv β 24 = 2864 := by omega
    have fe27 : nv β 27 = 807 := by omega
    have fe28 : nv β 28 = 2862 := by omega
    have fe31 : nv β 31 = 807 := by omega
    have fe32 : nv β 32 = 0 := by omega
    have fe36 : nv β 36 = 0 := by omega
    try simp only [fe0, fe5, fe6, fe7, fe10, fe12, fe13, fe15, fe16, fe17, fe19, fe20, fe23, fe24, fe27, fe28, fe31, fe32, fe36, Int.reduceToNat] at f2 f3 f4 f5
    have s0 : nv β 0 = nv α1 0 := nv_le H1.1 (by omega)
    have s1 : nv β 1 = nv α1 1 := nv_le H1.1 (by omega)
    have s2 : nv β 2 = nv α1 2 := nv_le H1.1 (by omega)
    have s3 : nv β 3 = nv α1 3 := nv_le H1.1 (by omega)
    obtain ⟨c1, c2, c3, c4⟩ := f2
    obtain ⟨α', Ha, hm⟩ := hd_gpM (q := kh_bBill_a266) (n := 0) (by decide +kernel) hx H1 (by decide +kernel) hxa hf
    have hfr := H1.2.2.2.2.2.2.2.2.2.2.1
    have m0 : nv α' 0 = nv β 0 := hm 0 0 rfl
    have m1 : nv α' 1 = nv β 1 := hm 1 1 rfl
    have m2 : nv α' 2 = nv β 2 := hm 2 2 rfl
    have m3 : nv α' 3 = nv β 3 := hm 3 3 rfl
    have m4 : nv α' 4 = nv β 11 := hm 4 11 rfl
    have m5 : nv α' 5 = nv β 11 := hm 5 11 rfl
    have m6 : nv α' 6 = nv β 36 := hm 6 36 rfl
    have z1 : nv α 1 = nv xs 1 := nv_le H.1 (by omega)
    have eb := fun c hc => bl_fr hfr (by decide +kernel) c hc
    have e0 := fr_pl hfr 806 0 (by decide +kernel)
    refine ih.2.2.2.2.2.2.2.2.2.2.2.1 _ _ _ _ Ha ?_ ?_
    · refine ⟨?_, fun c' hc' hn => (eb c' hc').trans (hp.2.1 c' hc' hn), e0.trans hp.2.2⟩
      have hc9 : (nv xs 1).toNat < 10 := by omega
      have h := eb (nv xs 1).toNat hc9
      rw [show 1820 + 20 * (nv xs 1).toNat = (1820 + 20 * nv xs 1).toNat by omega] at h
      rw [h]; exact hp.1
    · omega
  · obtain ⟨f1, f2, f3, f4, f5⟩ := as_fx H1
    simp only [kh_bBill_b135_4, fx_env, fx_c, fx_ne, fx_hf, wl_S, Nat.zero_add, Nat.reduceAdd, Nat.reduceDiv, Nat.reduceMod, List.getElem?_cons_zero, List.getElem?_cons_succ, if_true, and_true, true_and] at f1 f2 f3 f4 f5
    have fe0 : nv β 0 = 805 := by omega
    have fe5 : nv β 5 = 1 := by omega
    have fe6 : nv β 6 = 806 := by omega
    have fe7 : nv β 7 = 4 := by omega
    have fe9 : nv β 9 = 1 := by omega
    have fe10 : nv β 10 = 1 := by omega
    have fe13 : nv β 13 = 807 := by omega
    have fe14 : nv β 14 = 2861 := by omega
    have fe17 : nv β 17 = 807 := by omega
    have fe18 : nv β 18 = 2861 := by omega
    have fe19 : nv β 19 = 807 := by omega
    have fe20 : nv β 20 = 2861 := by omega
    have fe22 : nv β 22 = 807 := by omega
    have fe23 : nv β 23 = 2860 := by omega
    have fe26 : nv β 26 = 807 := by omega
    have fe27 : nv β 27 = 2864 := by omega
    have fe30 : nv β 30 = 807 := by omega
    have fe31 : nv β 31 = 2862 := by omega
    have fe34 : nv β 34 = 807 := by omega
    have fe35 : nv β 35 = 0 := by omega
    have fe39 : nv β 39 = 0 := by omega
    try simp only [fe0, fe5, fe6, fe7, fe9, fe10, fe13, fe14, fe17, fe18, fe19, fe20, fe22, fe23, fe26, fe27, fe30, fe31, fe34, fe35, fe39, Int.reduceToNat] at f2 f3 f4 f5
    have s0 : nv β 0 = nv α1 0 := nv_le H1.1 (by omega)
    have s1 : nv β 1 = nv α1 1 := nv_le H1.1 (by omega)
    have s2 : nv β 2 = nv α1 2 := nv_le H1.1 (by omega)
    have s3 : nv β 3 = nv α1 3 := nv_le H1.1 (by omega)
    obtain ⟨c1, c2, c3, c4⟩ := f2
    obtain ⟨α', Ha, hm⟩ := hd_gpM (q := kh_bBill_a266) (n := 0) (by decide +kernel) hx H1 (by decide +kernel) hxa hf
    have hfr := H1.2.2.2.2.2.2.2.2.2.2.1
    have m0 : nv α' 0 = nv β 0 := hm 0 0 rfl
    have m1 : nv α' 1 = nv β 1 := hm 1 1 rfl
    have m2 : nv α' 2 = nv β 2 := hm 2 2 rfl
    have m3 : nv α' 3 = nv β 3 := hm 3 3 rfl
    have m4 : nv α' 4 = nv β 12 := hm 4 12 rfl
    have m5 : nv α' 5 = nv β 15 := hm 5 15 rfl
    have m6 : nv α' 6 = nv β 39 := hm 6 39 rfl
    have z1 : nv α 1 = nv xs 1 := nv_le H.1 (by omega)
    have eb := fun c hc => bl_fr hfr (by decide +kernel) c hc
    have e0 := fr_pl hfr 806 0 (by decide +kernel)
    refine ih.2.2.2.2.2.2.2.2.2.2.2.1 _ _ _ _ Ha ?_ ?_
    · refine ⟨?_, fun c' hc' hn => (eb c' hc').trans (hp.2.1 c' hc' hn), e0.trans hp.2.2⟩
      have hc9 : (nv xs 1).toNat < 10 := by omega
      have h := eb (nv xs 1).toNat hc9
      rw [show 1820 + 20 * (nv xs 1).toNat = (1820 + 20 * nv xs 1).toNat by omega] at h
      rw [h]; exact hp.1
    · omega
  · obtain ⟨f1, f2, f3, f4, f5⟩ := as_fx H1
    simp only [kh_bBill_b135_5, fx_env, fx_c, fx_ne, fx_hf, wl_S, Nat.zero_add, Nat.reduceAdd, Nat.reduceDiv, Nat.reduceMod, List.getElem?_cons_zero, List.getElem?_cons_succ, if_true, and_true, true_and] at f1 f2 f3 f4 f5
    have fe0 : nv β 0 = 805 := by omega
    have fe5 : nv β 5 = 1 := by omega
    have fe6 : nv β 6 = 806 := by omega
    have fe7 : nv β 7 = 4 := by omega
    have fe9 : nv β 9 = 1 := by omega
    have fe10 : nv β 10 = 1 := by omega
    have fe13 : nv β 13 = 807 := by omega
    have fe14 : nv β 14 = 2861 := by omega
    have fe16 : nv β 16 = (-1) := by omega
    have fe17 : nv β 17 = 807 := by omega
    have fe18 : nv β 18 = 2861 := by omega
    have fe20 : nv β 20 = 807 := by omega
    have fe21 : nv β 21 = 2860 := by omega
    have fe24 : nv β 24 = 807 := by omega
    have fe25 : nv β 25 = 2864 := by omega
    have fe28 : nv β 28 = 807 := by omega
    have fe29 : nv β 29 = 2862 := by omega
    have fe32 : nv β 32 = 807 := by omega
    have fe33 : nv β 33 = 0 := by omega
    have fe37 : nv β 37 = 0 := by omega
    try simp only [fe0, fe5, fe6, fe7, fe9, fe10, fe13, fe14, fe16, fe17, fe18, fe20, fe21, fe24, fe25, fe28, fe29, fe32, fe33, fe37, Int.reduceToNat] at f2 f3 f4 f5
    have s0 : nv β 0 = nv α1 0 := nv_le H1.1 (by omega)
    have s1 : nv β 1 = nv α1 1 := nv_le H1.1 (by omega)
    have s2 : nv β 2 = nv α1 2 := nv_le H1.1 (by omega)
    have s3 : nv β 3 = nv α1 3 := nv_le H1.1 (by omega)
    obtain ⟨c1, c2, c3, c4⟩ := f2
    obtain ⟨α', Ha, hm⟩ := hd_gpM (q := kh_bBill_a266) (n := 0) (by decide +kernel) hx H1 (by decide +kernel) hxa hf
    have hfr := H1.2.2.2.2.2.2.2.2.2.2.1
    have m0 : nv α' 0 = nv β 0 := hm 0 0 rfl
    have m1 : nv α' 1 = nv β 1 := hm 1 1 rfl
    have m2 : nv α' 2 = nv β 2 := hm 2 2 rfl
    have m3 : nv α' 3 = nv β 3 := hm 3 3 rfl
    have m4 : nv α' 4 = nv β 12 := hm 4 12 rfl
    have m5 : nv α' 5 = nv β 12 := hm 5 12 rfl
    have m6 : nv α' 6 = nv β 37 := hm 6 37 rfl
    have z1 : nv α 1 = nv xs 1 := nv_le H.1 (by omega)
    have eb := fun c hc => bl_fr hfr (by decide +kernel) c hc
    have e0 := fr_pl hfr 806 0 (by decide +kernel)
    refine ih.2.2.2.2.2.2.2.2.2.2.2.1 _ _ _ _ Ha ?_ ?_
    · refine ⟨?_, fun c' hc' hn => (eb c' hc').trans (hp.2.1 c' hc' hn), e0.trans hp.2.2⟩
      have hc9 : (nv xs 1).toNat < 10 := by omega
      have h := eb (nv xs 1).toNat hc9
      rw [show 1820 + 20 * (nv xs 1).toNat = (1820 + 20 * nv xs 1).toNat by omega] at h
      rw [h]; exact hp.1
    · omega
set_option maxHeartbeats 16000000 in
set_option maxRecDepth 8000 in
theorem kh_bBill_h266 {l : Launch} {D : va_G} {tc : Nat → ClassId} {ad : Nat → Nat} {kd : Nat → Nat × Nat} {N : Nat} {sm : Nat → Nat} {xs : List av_X} {S : fw_S} {p : Program} {e : Env} {s : State} {m : MethodId} {args : Array Value} {below : List Frame} {meth : Method} {c : Code} {sz : Nat} {lvE : List (Nat × Value)} (G : hd_C wd_ff2 wd_fl2 kh_bBill [kh_bC0, kh_661, kh_663, kh_672, kh_bC, kh_670, kh_mC, kh_675, kh_686, kh_684, kh_649, kh_688, kh_646, kh_689, kh_405, kh_690, kh_691, kh_692, kh_693, kh_694, kh_695, kh_696, kh_698] kh_bBill_y l D tc ad kd N sm xs p s m args meth c sz) (H0 : as_in ad sm wd_fl2 xs S kh_bBill.2.2.2.2.2.1 xs (hd_0 kh_bBill) lvE [] S) (hpre : P_bBill xs S) {k : Nat} (ih : kh_bBill_I l D tc ad kd N sm xs S p e s m args below meth c sz k) : (∀ (α : List av_X) (lv : List (Nat × Value)) (st : List Value) (S1 : fw_S), as_in ad sm wd_fl2 xs S kh_bBill.2.2.2.2.2.1 α kh_bBill_a266.2.2.1 lv st S1 → (((S1.1 806 (1820 + 20 * nv xs 1).toNat).toInt = (S.1 806 (1820 + 20 * nv xs 1).toNat).toInt + 1 ∧ (∀ c' : Nat, c' < 10 → (c' : Int) ≠ nv xs 1 → S1.1 806 (1820 + 20 * c') = S.1 806 (1820 + 20 * c')) ∧ S1.1 806 0 = S.1 806 0)) → (3 - nv α 6).toNat < k + 1 → hd_WR R_bBill wd_fl2 kh_bBill kh_bBill_y l D tc ad kd N sm xs S p e s m args below meth c sz 266 lv st S1 0) := by
  have hx : xs.length = 2 := by rw [H0.2.1.1]; rfl
  intro α lv st S1 H hp hk
  obtain ⟨α1, hle, Hr⟩ := as_recM (pl := []) [((807, 807), (101, 2815, 1)), ((807, 807), (104, 2816, 8)), ((807, 807), (105, 2817, 8)), ((807, 807), (106, 2818, 8)), ((807, 807), (107, 2819, 8)), ((807, 807), (2820, 2829, 1))] (by decide +kernel) H
  have hf := H.2.2.2.2.2.2.2.2.2.2.1
  have hl1 : α1.length = 7 := by rw [Hr.2.1.1]; rfl
  have hl0 : α.length = 7 := by rw [H.2.1.1]; rfl
  have hxa : al_le xs α1 := H.1.trans hle
  obtain ⟨g1, -, g3, g4, -⟩ := as_fx Hr
  have g0 : (805 ≤ nv α1 0 ∧ nv α1 0 ≤ 805) ∧ (0 ≤ nv α1 1 ∧ nv α1 1 ≤ 9) ∧ ((-9223372036854775808) ≤ nv α1 2 ∧ nv α1 2 ≤ 9223372036854775807) ∧ (0 ≤ nv α1 3 ∧ nv α1 3 ≤ 33) ∧ ((-9223372036854775808) ≤ nv α1 4 ∧ nv α1 4 ≤ 9223372036854775807) ∧ ((-9223372036854775808) ≤ nv α1 5 ∧ nv α1 5 ≤ 9223372036854775807) ∧ (0 ≤ nv α1 6 ∧ nv α1 6 ≤ 3) ∧ True := by
    refine ⟨by have h := (en_nv (i := 0) Hr.2.1 rfl).2; exact h, by have h := (en_nv (i := 1) Hr.2.1 rfl).2; exact h, by have h := (en_nv (i := 2) Hr.2.1 rfl).2; exact h, by have h := (en_nv (i := 3) Hr.2.1 rfl).2; exact h, by have h := (en_nv (i := 4) Hr.2.1 rfl).2; exact h, by have h := (en_nv (i := 5) Hr.2.1 rfl).2; exact h, by have h := (en_nv (i := 6) Hr.2.1 rfl).2; exact h, trivial⟩
  have r0 : nv α1 0 = nv α 0 := nv_le hle (by omega)
  have r1 : nv α1 1 = nv α 1 := nv_le hle (by omega)
  have r2 : nv α1 2 = nv α 2 := nv_le hle (by omega)
  have r3 : nv α1 3 = nv α 3 := nv_le hle (by omega)
  have r4 : nv α1 4 = nv α 4 := nv_le hle (by omega)
  have r5 : nv α1 5 = nv α 5 := nv_le hle (by omega)
  have r6 : nv α1 6 = nv α 6 := nv_le hle (by omega)
  refine hd_segMR G (na := 7) (fuel := 600) (first := true) (Bs := [kh_bBill_b266_0, kh_bBill_b266_1, kh_bBill_b266_2, kh_bBill_b266_3]) (by decide +kernel) hl1 Hr ?_
  intro q hq β lv' st' S' H1
  simp only [List.mem_cons, List.not_mem_nil, or_false] at hq
  rcases hq with rfl | rfl | rfl | rfl
  · obtain ⟨f1, f2, f3, f4, f5⟩ := as_fx H1
    simp only [kh_bBill_b266_0, fx_env, fx_c, fx_ne, fx_hf, wl_S, Nat.zero_add, Nat.reduceAdd, Nat.reduceDiv, Nat.reduceMod, List.getElem?_cons_zero, List.getElem?_cons_succ, if_true, and_true, true_and] at f1 f2 f3 f4 f5
    have fe0 : nv β 0 = 805 := by omega
    have fe6 : nv β 6 = 3 := by omega
    have fe7 : nv β 7 = 3 := by omega
    have fe8 : nv β 8 = 807 := by omega
    have fe9 : nv β 9 = 4 := by omega
    have fe11 : nv β 11 = 65 := by omega
    have fe13 : nv β 13 = 807 := by omega
    have fe14 : nv β 14 = 5 := by omega
    have fe16 : nv β 16 = 807 := by omega
    have fe17 : nv β 17 = 6 := by omega
    have fe19 : nv β 19 = 807 := by omega
    have fe20 : nv β 20 = 7 := by omega
    have fe25 : nv β 25 = 807 := by omega
    have fe26 : nv β 26 = 2820 := by omega
    have fe33 : nv β 33 = 807 := by omega
    have fe34 : nv β 34 = 2820 := by omega
    have fe36 : nv β 36 = 807 := by omega
    have fe37 : nv β 37 = 2820 := by omega
    try simp only [fe0, fe6, fe7, fe8, fe9, fe11, fe13, fe14, fe16, fe17, fe19, fe20, fe25, fe26, fe33, fe34, fe36, fe37, Int.reduceToNat] at f2 f3 f4 f5
    have s0 : nv β 0 = nv α1 0 := nv_le H1.1 (by omega)
    have s1 : nv β 1 = nv α1 1 := nv_le H1.1 (by omega)
    have s2 : nv β 2 = nv α1 2 := nv_le H1.1 (by omega)
    have s3 : nv β 3 = nv α1 3 := nv_le H1.1 (by omega)
    have s4 : nv β 4 = nv α1 4 := nv_le H1.1 (by omega)
    have s5 : nv β 5 = nv α1 5 := nv_le H1.1 (by omega)
    have s6 : nv β 6 = nv α1 6 := nv_le H1.1 (by omega)
    obtain ⟨c2, c3⟩ := f2
    have z1 : nv α 1 = nv xs 1 := nv_le H.1 (by omega)
    have hfr := H1.2.2.2.2.2.2.2.2.2.2.1
    have eb := fun c hc => bl_fr hfr (by decide +kernel) c hc
    have e0 := fr_pl hfr 806 0 (by decide +kernel)
    have h := eb (nv xs 1).toNat (by omega)
    rw [show 1820 + 20 * (nv xs 1).toNat = (1820 + 20 * nv xs 1).toNat by omega] at h
    exact hd_retVR G (by decide +kernel) (as_backM H1 (by decide +kernel) hxa hf) (by decide +kernel) (by decide) ⟨by rw [h]; exact hp.1, fun c' hc' hn => (eb c' hc').trans (hp.2.1 c' hc' hn), e0.trans hp.2.2⟩
  · obtain ⟨f1, f2, f3, f4, f5⟩ := as_fx H1
    simp only [kh_bBill_b266_1, fx_env, fx_c, fx_ne, fx_hf, wl_S, Nat.zero_add, Nat.reduceAdd, Nat.reduceDiv, Nat.reduceMod, List.getElem?_cons_zero, List.getElem?_cons_succ, if_true, and_true, true_and] at f1 f2 f3 f4 f5
    have fe0 : nv β 0 = 805 := by omega
    have fe6 : nv β 6 = 3 := by omega
    have fe7 : nv β 7 = 3 := by omega
    have fe8 : nv β 8 = 807 := by omega
    have fe9 : nv β 9 = 4 := by omega
    have fe11 : nv β 11 = 65 := by omega
    have fe13 : nv β 13 = 807 := by omega
    have fe14 : nv β 14 = 5 := by omega
    have fe16 : nv β 16 = 807 := by omega
    have fe17 : nv β 17 = 6 := by omega
    have fe19 : nv β 19 = 807 := by omega
    have fe20 : nv β 20 = 7 := by omega
    have fe25 : nv β 25 = 807 := by omega
    have fe26 : nv β 26 = 2820 := by omega
    have fe30 : nv β 30 = (-1) := by omega
    have fe33 : nv β 33 = 807 := by omega
    have fe34 : nv β 34 = 2820 := by omega
    have fe36 : nv β 36 = 807 := by omega
    have fe37 : nv β 37 = 2820 := by omega
    try simp only [fe0, fe6, fe7, fe8, fe9, fe11, fe13, fe14, fe16, fe17, fe19, fe20, fe25, fe26, fe30, fe33, fe34, fe36, fe37, Int.reduceToNat] at f2 f3 f4 f5
    have s0 : nv β 0 = nv α1 0 := nv_le H1.1 (by omega)
    have s1 : nv β 1 = nv α1 1 := nv_le H1.1 (by omega)
    have s2 : nv β 2 = nv α1 2 := nv_le H1.1 (by omega)
    have s3 : nv β 3 = nv α1 3 := nv_le H1.1 (by omega)
    have s4 : nv β 4 = nv α1 4 := nv_le H1.1 (by omega)
    have s5 : nv β 5 = nv α1 5 := nv_le H1.1 (by omega)
    have s6 : nv β 6 = nv α1 6 := nv_le H1.1 (by omega)
    obtain ⟨c2, c3⟩ := f2
    have z1 : nv α 1 = nv xs 1 := nv_le H.1 (by omega)
    have hfr := H1.2.2.2.2.2.2.2.2.2.2.1
    have eb := fun c hc => bl_fr hfr (by decide +kernel) c hc
    have e0 := fr_pl hfr 806 0 (by decide +kernel)
    have h := eb (nv xs 1).toNat (by omega)
    rw [show 1820 + 20 * (nv xs 1).toNat = (1820 + 20 * nv xs 1).toNat by omega] at h
    exact hd_retVR G (by decide +kernel) (as_backM H1 (by decide +kernel) hxa hf) (by decide +kernel) (by decide) ⟨by rw [h]; exact hp.1, fun c' hc' hn => (eb c' hc').trans (hp.2.1 c' hc' hn), e0.trans hp.2.2⟩
  · obtain ⟨f1, f2, f3, f4, f5⟩ := as_fx H1
    simp only [kh_bBill_b266_2, fx_env, fx_c, fx_ne, fx_hf, wl_S, Nat.zero_add, Nat.reduceAdd, Nat.reduceDiv, Nat.reduceMod, List.getElem?_cons_zero, List.getElem?_cons_succ, if_true, and_true, true_and] at f1 f2 f3 f4 f5
    have fe0 : nv β 0 = 805 := by omega
    have fe6 : nv β 6 = 3 := by omega
    have fe7 : nv β 7 = 3 := by omega
    have fe8 : nv β 8 = 807 := by omega
    have fe9 : nv β 9 = 4 := by omega
    have fe11 : nv β 11 = 65 := by omega
    have fe13 : nv β 13 = 807 := by omega
    have fe14 : nv β 14 = 5 := by omega
    have fe16 : nv β 16 = 807 := by omega
    have fe17 : nv β 17 = 6 := by omega
    have fe19 : nv β 19 = 807 := by omega
    have fe20 : nv β 20 = 7 := by omega
    have fe23 : nv β 23 = 1 := by omega
    have fe25 : nv β 25 = 807 := by omega
    have fe26 : nv β 26 = 2820 := by omega
    have fe33 : nv β 33 = 807 := by omega
    have fe34 : nv β 34 = 2820 := by omega
    have fe36 : nv β 36 = 807 := by omega
    have fe37 : nv β 37 = 2820 := by omega
    try simp only [fe0, fe6, fe7, fe8, fe9, fe11, fe13, fe14, fe16, fe17, fe19, fe20, fe23, fe25, fe26, fe33, fe34, fe36, fe37, Int.reduceToNat] at f2 f3 f4 f5
    have s0 : nv β 0 = nv α1 0 := nv_le H1.1 (by omega)
    have s1 : nv β 1 = nv α1 1 := nv_le H1.1 (by omega)
    have s2 : nv β 2 = nv α1 2 := nv_le H1.1 (by omega)
    have s3 : nv β 3 = nv α1 3 := nv_le H1.1 (by omega)
    have s4 : nv β 4 = nv α1 4 := nv_le H1.1 (by omega)
    have s5 : nv β 5 = nv α1 5 := nv_le H1.1 (by omega)
    have s6 : nv β 6 = nv α1 6 := nv_le H1.1 (by omega)
    obtain ⟨c2, c3⟩ := f2
    have z1 : nv α 1 = nv xs 1 := nv_le H.1 (by omega)
    have hfr := H1.2.2.2.2.2.2.2.2.2.2.1
    have eb := fun c hc => bl_fr hfr (by decide +kernel) c hc
    have e0 := fr_pl hfr 806 0 (by decide +kernel)
    have h := eb (nv xs 1).toNat (by omega)
    rw [show 1820 + 20 * (nv xs 1).toNat = (1820 + 20 * nv xs 1).toNat by omega] at h
    exact hd_retVR G (by decide +kernel) (as_backM H1 (by decide +kernel) hxa hf) (by decide +kernel) (by decide) ⟨by rw [h]; exact hp.1, fun c' hc' hn => (eb c' hc').trans (hp.2.1 c' hc' hn), e0.trans hp.2.2⟩
  · obtain ⟨f1, f2, f3, f4, f5⟩ := as_fx H1
    simp only [kh_bBill_b266_3, fx_env, fx_c, fx_ne, fx_hf, wl_S, Nat.zero_add, Nat.reduceAdd, Nat.reduceDiv, Nat.reduceMod, List.getElem?_cons_zero, List.getElem?_cons_succ, if_true, and_true, true_and] at f1 f2 f3 f4 f5
    have fe0 : nv β 0 = 805 := by omega
    have fe7 : nv β 7 = 3 := by omega
    have fe8 : nv β 8 = 807 := by omega
    have fe9 : nv β 9 = 1 := by omega
    have fe12 : nv β 12 = 859 := by omega
    try simp only [fe0, fe7, fe8, fe9, fe12, Int.reduceToNat] at f2 f3 f4 f5
    have s0 : nv β 0 = nv α1 0 := nv_le H1.1 (by omega)
    have s1 : nv β 1 = nv α1 1 := nv_le H1.1 (by omega)
    have s2 : nv β 2 = nv α1 2 := nv_le H1.1 (by omega)
    have s3 : nv β 3 = nv α1 3 := nv_le H1.1 (by omega)
    have s4 : nv β 4 = nv α1 4 := nv_le H1.1 (by omega)
    have s5 : nv β 5 = nv α1 5 := nv_le H1.1 (by omega)
    have s6 : nv β 6 = nv α1 6 := nv_le H1.1 (by omega)
    obtain ⟨c0, c1, c2⟩ := f2
    obtain ⟨α', Ha, hm⟩ := hd_gpM (q := kh_bBill_a266) (n := 0) (by decide +kernel) hx H1 (by decide +kernel) hxa hf
    have hfr := H1.2.2.2.2.2.2.2.2.2.2.1
    have m0 : nv α' 0 = nv β 0 := hm 0 0 rfl
    have m1 : nv α' 1 = nv β 1 := hm 1 1 rfl
    have m2 : nv α' 2 = nv β 2 := hm 2 2 rfl
    have m3 : nv α' 3 = nv β 3 := hm 3 3 rfl
    have m4 : nv α' 4 = nv β 4 := hm 4 4 rfl
    have m5 : nv α' 5 = nv β 5 := hm 5 5 rfl
    have m6 : nv α' 6 = nv β 14 := hm 6 14 rfl
    have z1 : nv α 1 = nv xs 1 := nv_le H.1 (by omega)
    have eb := fun c hc => bl_fr hfr (by decide +kernel) c hc
    have e0 := fr_pl hfr 806 0 (by decide +kernel)
    refine ih.2.2.2.2.2.2.2.2.2.2.2.1 _ _ _ _ Ha ?_ ?_
    · refine ⟨?_, fun c' hc' hn => (eb c' hc').trans (hp.2.1 c' hc' hn), e0.trans hp.2.2⟩
      have hc9 : (nv xs 1).toNat < 10 := by omega
      have h := eb (nv xs 1).toNat hc9
      rw [show 1820 + 20 * (nv xs 1).toNat = (1820 + 20 * nv xs 1).toNat by omega] at h
      rw [h]; exact hp.1
    · omega
set_option maxHeartbeats 16000000 in
set_option maxRecDepth 8000 in
theorem kh_bBill_okP : ct_okPR wd_fl2 kh_bBill P_bBill R_bBill := ct_handPR (P := P_bBill) (R := R_bBill) (ff := wd_ff2) (y := kh_bBill_y) (Cs := [kh_bC0, kh_661, kh_663, kh_672, kh_bC, kh_670, kh_mC, kh_675, kh_686, kh_684, kh_649, kh_688, kh_646, kh_689, kh_405, kh_690, kh_691, kh_692, kh_693, kh_694, kh_695, kh_696, kh_698]) wd_fl2_ok rfl (List.forall_mem_cons.mpr ⟨kh_bC0_ok, (List.forall_mem_cons.mpr ⟨kh_661_ok, (List.forall_mem_cons.mpr ⟨kh_663_ok, (List.forall_mem_cons.mpr ⟨kh_672_ok, (List.forall_mem_cons.mpr ⟨kh_bC_l2, (List.forall_mem_cons.mpr ⟨kh_670_ok, (List.forall_mem_cons.mpr ⟨kh_mC_l2, (List.forall_mem_cons.mpr ⟨kh_675_ok, (List.forall_mem_cons.mpr ⟨kh_686_ok, (List.forall_mem_cons.mpr ⟨kh_684_ok, (List.forall_mem_cons.mpr ⟨kh_649_ok, (List.forall_mem_cons.mpr ⟨kh_688_ok, (List.forall_mem_cons.mpr ⟨kh_646_ok, (List.forall_mem_cons.mpr ⟨kh_689_ok, (List.forall_mem_cons.mpr ⟨kh_405_l2, (List.forall_mem_cons.mpr ⟨kh_690_ok, (List.forall_mem_cons.mpr ⟨kh_691_ok, (List.forall_mem_cons.mpr ⟨kh_692_ok, (List.forall_mem_cons.mpr ⟨kh_693_ok, (List.forall_mem_cons.mpr ⟨kh_694_ok, (List.forall_mem_cons.mpr ⟨kh_695_ok, (List.forall_mem_cons.mpr ⟨kh_696_ok, (List.forall_mem_cons.mpr ⟨kh_698_ok, (List.forall_mem_nil _)⟩)⟩)⟩)⟩)⟩)⟩)⟩)⟩)⟩)⟩)⟩)⟩)⟩)⟩)⟩)⟩)⟩)⟩)⟩)⟩)⟩)⟩)⟩) (by decide +kernel) (fun l D tc ad kd N sm xs S p e s m args below meth c sz lv G H0 hpre => by
  have hx : xs.length = 2 := by rw [H0.2.1.1]; rfl
  have hP : ∀ (k : Nat), kh_bBill_I l D tc ad kd N sm xs S p e s m args below meth c sz k := by
    intro k
    induction k with
    | zero => exact ⟨fun _ _ _ _ _ _ h => absurd h (Nat.not_lt_zero _), fun _ _ _ _ _ _ h => absurd h (Nat.not_lt_zero _), fun _ _ _ _ _ _ h => absurd h (Nat.not_lt_zero _), fun _ _ _ _ _ _ h => absurd h (Nat.not_lt_zero _), fun _ _ _ _ _ _ h => absurd h (Nat.not_lt_zero _), fun _ _ _ _ _ _ h => absurd h (Nat.not_lt_zero _), fun _ _ _ _ _ _ h => absurd h (Nat.not_lt_zero _), fun _ _ _ _ _ _ h => absurd h (Nat.not_lt_zero _), fun _ _ _ _ _ _ h => absurd h (Nat.not_lt_zero _), fun _ _ _ _ _ _ h => absurd h (Nat.not_lt_zero _), fun _ _ _ _ _ _ h => absurd h (Nat.not_lt_zero _), fun _ _ _ _ _ _ h => absurd h (Nat.not_lt_zero _), trivial⟩
    | succ k ih => exact ⟨kh_bBill_h9 G H0 hpre ih, kh_bBill_h34 G H0 hpre ih, kh_bBill_h59 G H0 hpre ih, kh_bBill_h60 G H0 hpre ih, kh_bBill_h74 G H0 hpre ih, kh_bBill_h75 G H0 hpre ih, kh_bBill_h102 G H0 hpre ih, kh_bBill_h103 G H0 hpre ih, kh_bBill_h109 G H0 hpre ih, kh_bBill_h134 G H0 hpre ih, kh_bBill_h135 G H0 hpre ih, kh_bBill_h266 G H0 hpre ih, trivial⟩
  obtain ⟨α1, hle, Hr⟩ := as_recM (pl := []) [((805, 805), (65, 65, 0)), ((859, 859), (0, 2, 1))] (by decide +kernel) H0
  have hf := H0.2.2.2.2.2.2.2.2.2.2.1
  have hl1 : α1.length = 2 := by rw [Hr.2.1.1]; rfl
  have hl0 : xs.length = 2 := by rw [H0.2.1.1]; rfl
  have hxa : al_le xs α1 := H0.1.trans hle
  obtain ⟨g1, -, g3, g4, -⟩ := as_fx Hr
  have g0 : (805 ≤ nv α1 0 ∧ nv α1 0 ≤ 805) ∧ (0 ≤ nv α1 1 ∧ nv α1 1 ≤ 9) ∧ True := by
    refine ⟨by have h := (en_nv (i := 0) Hr.2.1 rfl).2; exact h, by have h := (en_nv (i := 1) Hr.2.1 rfl).2; exact h, trivial⟩
  have r0 : nv α1 0 = nv xs 0 := nv_le hle (by omega)
  have r1 : nv α1 1 = nv xs 1 := nv_le hle (by omega)
  refine hd_segMR G (na := 2) (fuel := 600) (first := true) (Bs := [kh_bBill_b0_0]) (by decide +kernel) hl1 Hr ?_
  intro q hq β lv' st' S' H1
  simp only [List.mem_cons, List.not_mem_nil, or_false] at hq
  rcases hq with rfl
  · obtain ⟨f1, f2, f3, f4, f5⟩ := as_fx H1
    simp only [kh_bBill_b0_0, fx_env, fx_c, fx_ne, fx_hf, wl_S, Nat.zero_add, Nat.reduceAdd, Nat.reduceDiv, Nat.reduceMod, List.getElem?_cons_zero, List.getElem?_cons_succ, if_true, and_true, true_and] at f1 f2 f3 f4 f5
    have fe0 : nv β 0 = 805 := by omega
    have fe3 : nv β 3 = 0 := by omega
    try simp only [fe0, fe3, Int.reduceToNat] at f2 f3 f4 f5
    have s0 : nv β 0 = nv α1 0 := nv_le H1.1 (by omega)
    have s1 : nv β 1 = nv α1 1 := nv_le H1.1 (by omega)
    obtain ⟨α', Ha, hm⟩ := hd_gpM (q := kh_bBill_a9) (n := 0) (by decide +kernel) hx H1 (by decide +kernel) hxa hf
    have hfr := H1.2.2.2.2.2.2.2.2.2.2.1
    have m0 : nv α' 0 = nv β 0 := hm 0 0 rfl
    have m1 : nv α' 1 = nv β 1 := hm 1 1 rfl
    have m2 : nv α' 2 = nv β 2 := hm 2 2 rfl
    have m3 : nv α' 3 = nv β 3 := hm 3 3 rfl
    have eb := fun c hc => bl_fr hfr (by decide +kernel) c hc
    have e0 := fr_pl hfr 806 0 (by decide +kernel)
    refine (hP _).1 _ _ _ _ Ha ?_ (Nat.lt_succ_self _)
    · exact ⟨fun c hc => eb c hc, e0⟩)
