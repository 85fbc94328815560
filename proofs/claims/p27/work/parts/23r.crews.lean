/-! ===== calls about crews and jobs ===== -/
/- UtilityWorksModel in -/
def kh_636 : ct_T := (353, [(0, (-2147483648), 2147483647, 1), (0, 0, 0, 0), (0, (-1), 199, 1)], [], [], [(1, (0, 1, 1, 0), [(0, 0, 199, 1), (0, 0, 0, 0), (0, 0, 199, 1)], [], ([], [])), (1, (0, 0, 0, 0), [(0, (-2147483648), 2147483647, 1), (0, 0, 0, 0), (0, (-1), 199, 1)], [], ([], []))], [], 0, 0, 0)
theorem kh_636_ok : ct_ok wd_fl2 kh_636 := ct_of (ff := wd_ff2) (y := (⟨"UtilityWorksModel", "in", "(III)Z"⟩, prog_14_method_5_code, 3, some .boolean, 12, 0, 3, 32192, 32191, 0, 21014)) (Cs := []) (an := [(14, 0, ([((0, (-2147483648), 2147483647, 1), none), ((0, 0, 0, 0), none), ((0, (-1), 199, 1), none)], [(0, 0), (1, 1), (2, 2)], [], [], [], [], [], [], none), [(0, 0, 99986)])]) (ss := []) (K := 1) (fuel := 4000) wd_fl2_ok rfl (List.forall_mem_nil _) (by decide +kernel)
abbrev kh_dropJob_y : mt_T := (⟨"UtilityWorksModel", "dropJob", "(I)I"⟩, prog_14_method_304_code, 2, some .int, 12, 1, 1, 37203, 37201, 37202, 21014)
def kh_dropJob : ct_T := (655, [(2, 805, 805, 0), (0, (-2147483648), 2147483647, 1)], [], [510], [(1, (0, 0, 200, 1), [(2, 805, 805, 0), (0, (-2147483648), 2147483647, 1)], [], ([510], []))], [((805, 805), (8, 8, 0)), ((806, 806), (2404, 2428, 8)), ((806, 806), (2405, 2429, 8)), ((806, 806), (2454, 4046, 8)), ((806, 806), (2455, 4047, 8))], 2, 43, 0)
def kh_dropJob_a52 : an_T := (52, 0, ([((2, 805, 805, 0), none), ((0, 0, 199, 1), none)], [(0, 0), (1, 1)], [], [], [], [], [], [510], none), [])
def kh_dropJob_a77 : an_T := (77, 0, ([((2, 805, 805, 0), none), ((0, 0, 199, 1), none), ((0, (-1), 3, 1), none)], [(0, 0), (1, 1)], [2, 0], [], [], [], [], [510], none), [])
def kh_dropJob_a80 : an_T := (80, 0, ([((2, 805, 805, 0), none), ((0, 0, 199, 1), none)], [(0, 0), (1, 1)], [], [], [], [], [], [510], none), [])
def kh_dropJob_b0_0 : sg_T := (51, 0, ([((2, 805, 805, 0), none), ((0, 0, 199, 1), none), ((0, 0, 0, 0), none), ((2, 806, 806, 1), none), ((0, 2440, 2440, 0), none), ((0, 0, 200, 1), none), ((0, 1, 1, 0), none), ((0, 0, 199, 1), some (5, (-1))), ((0, 1, 1, 0), none), ((0, 1, 1, 0), none), ((0, 0, 0, 0), none), ((2, 806, 806, 1), none), ((0, 4, 4, 0), none), ((0, 2454, 4046, 8), none), ((0, 2, 3, 1), none), ((0, 2, 2, 0), none), ((0, 0, 0, 0), none), ((0, 2, 2, 0), none), ((0, 1, 1, 0), none), ((0, 0, 0, 0), none)], [(0, 0), (1, 1)], [19], [(11, 13, 14), (3, 4, 5)], [(18, 0)], [(600007, 5, 6), (800005, 3, 4)], [], [510], none))
def kh_dropJob_b0_1 : sg_T := (52, 0, ([((2, 805, 805, 0), none), ((0, 0, 199, 1), none), ((0, 0, 0, 0), none), ((2, 806, 806, 1), none), ((0, 2440, 2440, 0), none), ((0, 0, 200, 1), none), ((0, 1, 1, 0), none), ((0, 0, 199, 1), some (5, (-1))), ((0, 1, 1, 0), none), ((0, 1, 1, 0), none), ((0, 0, 0, 0), none), ((2, 806, 806, 1), none), ((0, 4, 4, 0), none), ((0, 2454, 4046, 8), none), ((0, 0, 1, 1), none), ((0, 2, 2, 0), none), ((0, 1, 1, 0), none), ((0, 2, 2, 0), none), ((0, 0, 0, 0), none)], [(0, 0), (1, 1)], [], [(11, 13, 14), (3, 4, 5)], [], [(600007, 5, 6), (800005, 3, 4)], [], [510], none))
def kh_dropJob_b0_2 : sg_T := (51, 0, ([((2, 805, 805, 0), none), ((0, (-2147483648), 2147483647, 1), none), ((0, 0, 0, 0), none), ((2, 806, 806, 1), none), ((0, 2440, 2440, 0), none), ((0, 0, 200, 1), none), ((0, 1, 1, 0), none), ((0, (-1), 199, 1), some (5, (-1))), ((0, 0, 0, 0), none), ((0, 1, 1, 0), none), ((0, 1, 1, 0), none), ((0, 0, 0, 0), none)], [(0, 0), (1, 1)], [11], [(3, 4, 5)], [(10, 0)], [(600007, 5, 6), (800005, 3, 4)], [], [510], none))
def kh_dropJob_b52_0 : sg_T := (80, 0, ([((2, 805, 805, 0), none), ((0, 0, 199, 1), none), ((2, 806, 806, 1), none), ((0, 4, 4, 0), none), ((0, 2454, 4046, 8), none), ((0, 0, 3, 1), none), ((0, 1, 1, 0), none)], [(0, 0), (1, 1)], [], [(2, 4, 5)], [(5, 1)], [(400000, 5, 6), (800005, 2, 4), (1200004, 1, 3)], [], [510], some []))
def kh_dropJob_b52_1 : sg_T := (77, 0, ([((2, 805, 805, 0), none), ((0, 0, 199, 1), none), ((2, 806, 806, 1), none), ((0, 4, 4, 0), none), ((0, 2454, 4046, 8), none), ((0, 1, 1, 1), none), ((0, 1, 1, 0), none), ((2, 806, 806, 1), none), ((0, 5, 5, 0), none), ((0, 2455, 4047, 8), none), ((0, (-1), 3, 1), none)], [(0, 0), (1, 1)], [10, 0], [(7, 9, 10), (2, 4, 5)], [], [(800010, 7, 9), (1200009, 1, 8), (300000, 5, 6), (800005, 2, 4), (1200004, 1, 3)], [], [510], some []))
def kh_dropJob_b77_0 : sg_T := (80, 0, ([((2, 805, 805, 0), none), ((0, 0, 199, 1), none), ((0, 0, 3, 1), none)], [(0, 0), (1, 1)], [], [], [], [], [], [510], none))
def kh_dropJob_b80_0 : sg_T := (95, 0, ([((2, 805, 805, 0), none), ((0, 0, 199, 1), none), ((2, 806, 806, 1), none), ((0, 4, 4, 0), none), ((0, 2454, 4046, 8), none), ((0, 3, 3, 0), none), ((0, 0, 200, 1), none)], [(0, 0), (1, 1)], [6], [(2, 4, 5)], [], [(1200004, 1, 3)], [], [], some [(2, 4, 5)]))
def kh_dropJob_I (l : Launch) (D : va_G) (tc : Nat → ClassId) (ad : Nat → Nat) (kd : Nat → Nat × Nat) (N : Nat) (sm : Nat → Nat) (xs : List av_X) (S : fw_S) (p : Program) (e : Env) (s : State) (m : MethodId) (args : Array Value) (below : List Frame) (meth : Method) (c : Code) (sz : Nat) (k : Nat) : Prop := (∀ (α : List av_X) (lv : List (Nat × Value)) (st : List Value) (S1 : fw_S), as_in ad sm wd_fl2 xs S kh_dropJob.2.2.2.2.2.1 α kh_dropJob_a52.2.2.1 lv st S1 → (True) → 9 < k → hd_W wd_fl2 kh_dropJob kh_dropJob_y l D tc ad kd N sm xs S p e s m args below meth c sz 52 lv st S1 0) ∧ (∀ (α : List av_X) (lv : List (Nat × Value)) (st : List Value) (S1 : fw_S), as_in ad sm wd_fl2 xs S kh_dropJob.2.2.2.2.2.1 α kh_dropJob_a77.2.2.1 lv st S1 → ((nv α 2 < (S1.1 806 2400).toInt ∧ 0 ≤ mck (S1.1 806) (nv α 2).toNat 3) ∧ (mck (S1.1 806) (nv α 2).toNat 3).toNat = (nv α 1).toNat ∧ 0 ≤ nv α 2) → 5 < k → hd_W wd_fl2 kh_dropJob kh_dropJob_y l D tc ad kd N sm xs S p e s m args below meth c sz 77 lv st S1 0) ∧ (∀ (α : List av_X) (lv : List (Nat × Value)) (st : List Value) (S1 : fw_S), as_in ad sm wd_fl2 xs S kh_dropJob.2.2.2.2.2.1 α kh_dropJob_a80.2.2.1 lv st S1 → (mjk (S1.1 806) (nv α 1).toNat 4 ≠ 1) → 1 < k → hd_W wd_fl2 kh_dropJob kh_dropJob_y l D tc ad kd N sm xs S p e s m args below meth c sz 80 lv st S1 0) ∧ True
set_option maxHeartbeats 16000000 in
set_option maxRecDepth 8000 in
theorem kh_dropJob_h52 {l : Launch} {D : va_G} {tc : Nat → ClassId} {ad : Nat → Nat} {kd : Nat → Nat × Nat} {N : Nat} {sm : Nat → Nat} {xs : List av_X} {S : fw_S} {p : Program} {e : Env} {s : State} {m : MethodId} {args : Array Value} {below : List Frame} {meth : Method} {c : Code} {sz : Nat} {lvE : List (Nat × Value)} (G : hd_C wd_ff2 wd_fl2 kh_dropJob [kh_636, kh_588, kh_cJ4, kh_591, kh_590, kh_592, kh_cJ5, kh_cOpen] kh_dropJob_y l D tc ad kd N sm xs p s m args meth c sz) (H0 : as_in ad sm wd_fl2 xs S kh_dropJob.2.2.2.2.2.1 xs (hd_0 kh_dropJob) lvE [] S) {k : Nat} (ih : kh_dropJob_I l D tc ad kd N sm xs S p e s m args below meth c sz k) : (∀ (α : List av_X) (lv : List (Nat × Value)) (st : List Value) (S1 : fw_S), as_in ad sm wd_fl2 xs S kh_dropJob.2.2.2.2.2.1 α kh_dropJob_a52.2.2.1 lv st S1 → (True) → 9 < k + 1 → hd_W wd_fl2 kh_dropJob kh_dropJob_y l D tc ad kd N sm xs S p e s m args below meth c sz 52 lv st S1 0) := by
  have hx : xs.length = 2 := by rw [H0.2.1.1]; rfl
  intro α lv st S1 H hp hk
  obtain ⟨α1, hle, Hr⟩ := as_recM (pl := []) [] (by decide +kernel) H
  have hf := H.2.2.2.2.2.2.2.2.2.2.1
  have hl1 : α1.length = 2 := by rw [Hr.2.1.1]; rfl
  have hl0 : α.length = 2 := by rw [H.2.1.1]; rfl
  have hxa : al_le xs α1 := H.1.trans hle
  obtain ⟨g1, -, g3, g4, -⟩ := as_fx Hr
  have g0 : (805 ≤ nv α1 0 ∧ nv α1 0 ≤ 805) ∧ (0 ≤ nv α1 1 ∧ nv α1 1 ≤ 199) ∧ True := by
    refine ⟨by have h := (en_nv (i := 0) Hr.2.1 rfl).2; exact h, by have h := (en_nv (i := 1) Hr.2.1 rfl).2; exact h, trivial⟩
  have r0 : nv α1 0 = nv α 0 := nv_le hle (by omega)
  have r1 : nv α1 1 = nv α 1 := nv_le hle (by omega)
  refine hd_segM G (na := 2) (fuel := 600) (first := true) (Bs := [kh_dropJob_b52_0, kh_dropJob_b52_1]) (by decide +kernel) hl1 Hr ?_
  intro q hq β lv' st' S' H1
  simp only [List.mem_cons, List.not_mem_nil, or_false] at hq
  rcases hq with rfl | rfl
  · obtain ⟨f1, f2, f3, f4, f5⟩ := as_fx H1
    simp only [kh_dropJob_b52_0, fx_env, fx_c, fx_ne, fx_hf, wl_S, Nat.zero_add, Nat.reduceAdd, Nat.reduceDiv, Nat.reduceMod, List.getElem?_cons_zero, List.getElem?_cons_succ, if_true, and_true, true_and] at f1 f2 f3 f4 f5
    have fe0 : nv β 0 = 805 := by omega
    have fe2 : nv β 2 = 806 := by omega
    have fe3 : nv β 3 = 4 := by omega
    have fe6 : nv β 6 = 1 := by omega
    try simp only [fe0, fe2, fe3, fe6, Int.reduceToNat] at f2 f3 f4 f5
    have s0 : nv β 0 = nv α1 0 := nv_le H1.1 (by omega)
    have s1 : nv β 1 = nv α1 1 := nv_le H1.1 (by omega)
    obtain ⟨c0, c1, c2⟩ := f2
    obtain ⟨α', Ha, hm⟩ := hd_gpM (q := kh_dropJob_a80) (n := 0) (by decide +kernel) hx H1 (by decide +kernel) hxa hf
    have hfr := H1.2.2.2.2.2.2.2.2.2.2.1
    have m0 : nv α' 0 = nv β 0 := hm 0 0 rfl
    have m1 : nv α' 1 = nv β 1 := hm 1 1 rfl
    subst S'
    have o1 := old_0 c1 rfl
    have d2 := fl1_b (by decide) (fl2_b (by decide) c2)
    simp only [wd_fl] at d2
    have h4 := mjk_eq (j := (nv β 1).toNat) (w := 4) o1 (by omega)
    refine ih.2.2.1 _ _ _ _ Ha ?_ ?_
    · rw [m1, h4]; omega
    · omega
  · obtain ⟨f1, f2, f3, f4, f5⟩ := as_fx H1
    simp only [kh_dropJob_b52_1, fx_env, fx_c, fx_ne, fx_hf, wl_S, Nat.zero_add, Nat.reduceAdd, Nat.reduceDiv, Nat.reduceMod, List.getElem?_cons_zero, List.getElem?_cons_succ, if_true, and_true, true_and] at f1 f2 f3 f4 f5
    have fe0 : nv β 0 = 805 := by omega
    have fe2 : nv β 2 = 806 := by omega
    have fe3 : nv β 3 = 4 := by omega
    have fe5 : nv β 5 = 1 := by omega
    have fe6 : nv β 6 = 1 := by omega
    have fe7 : nv β 7 = 806 := by omega
    have fe8 : nv β 8 = 5 := by omega
    try simp only [fe0, fe2, fe3, fe5, fe6, fe7, fe8, Int.reduceToNat] at f2 f3 f4 f5
    have s0 : nv β 0 = nv α1 0 := nv_le H1.1 (by omega)
    have s1 : nv β 1 = nv α1 1 := nv_le H1.1 (by omega)
    obtain ⟨c0, c1, c2, c3, c4⟩ := f2
    obtain ⟨α', Ha, hm⟩ := hd_gpM (q := kh_dropJob_a77) (n := 0) (by decide +kernel) hx H1 (by decide +kernel) hxa hf
    have hfr := H1.2.2.2.2.2.2.2.2.2.2.1
    have m0 : nv α' 0 = nv β 0 := hm 0 0 rfl
    have m1 : nv α' 1 = nv β 1 := hm 1 1 rfl
    have m2 : nv α' 2 = nv β 10 := hm 2 10 rfl
    subst S'
    have o0 := old_0 c0 rfl
    have o3 := old_0 c3 rfl
    have d1 := fl1_b (by decide) (fl2_b (by decide) c1)
    simp only [wd_fl] at d1
    have d4 := fl1_b (by decide) (fl2_b (by decide) c4)
    simp only [wd_fl] at d4
    have w510 : crewF (S1.1 806) := by
      have h := H.2.2.2.2.2.2.2.2.1 510 (by decide +kernel)
      rw [wd_fl2, if_neg (by decide)] at h
      exact h
    have h4 := mjk_eq (j := (nv β 1).toNat) (w := 4) o3 (by omega)
    have h5 := mjk_eq (j := (nv β 1).toNat) (w := 5) o0 (by omega)
    obtain ⟨q1, q2, q3, q4, q5⟩ := w510.2.2.2.1.2 (nv β 1).toNat (by omega) (by omega)
    rw [h5] at q1 q2 q3 q5
    refine ih.2.1 _ _ _ _ Ha ?_ ?_
    · rw [m1, m2]
      exact ⟨⟨q2, by rw [q5]; omega⟩, by rw [q5]; omega, q1⟩
    · omega
set_option maxHeartbeats 16000000 in
set_option maxRecDepth 8000 in
theorem kh_dropJob_h77 {l : Launch} {D : va_G} {tc : Nat → ClassId} {ad : Nat → Nat} {kd : Nat → Nat × Nat} {N : Nat} {sm : Nat → Nat} {xs : List av_X} {S : fw_S} {p : Program} {e : Env} {s : State} {m : MethodId} {args : Array Value} {below : List Frame} {meth : Method} {c : Code} {sz : Nat} {lvE : List (Nat × Value)} (G : hd_C wd_ff2 wd_fl2 kh_dropJob [kh_636, kh_588, kh_cJ4, kh_591, kh_590, kh_592, kh_cJ5, kh_cOpen] kh_dropJob_y l D tc ad kd N sm xs p s m args meth c sz) (H0 : as_in ad sm wd_fl2 xs S kh_dropJob.2.2.2.2.2.1 xs (hd_0 kh_dropJob) lvE [] S) {k : Nat} (ih : kh_dropJob_I l D tc ad kd N sm xs S p e s m args below meth c sz k) : (∀ (α : List av_X) (lv : List (Nat × Value)) (st : List Value) (S1 : fw_S), as_in ad sm wd_fl2 xs S kh_dropJob.2.2.2.2.2.1 α kh_dropJob_a77.2.2.1 lv st S1 → ((nv α 2 < (S1.1 806 2400).toInt ∧ 0 ≤ mck (S1.1 806) (nv α 2).toNat 3) ∧ (mck (S1.1 806) (nv α 2).toNat 3).toNat = (nv α 1).toNat ∧ 0 ≤ nv α 2) → 5 < k + 1 → hd_W wd_fl2 kh_dropJob kh_dropJob_y l D tc ad kd N sm xs S p e s m args below meth c sz 77 lv st S1 0) := by
  have hx : xs.length = 2 := by rw [H0.2.1.1]; rfl
  intro α lv st S1 H hp hk
  have bp := (en_nv (i := 2) H.2.1 rfl).2
  change (-1) ≤ nv α 2 ∧ nv α 2 ≤ 3 at bp
  replace H := as_clamp (i := 2) (lo := 0) (hi := 3) H rfl rfl (by have w510 : crewF (S1.1 806) := (by have h := H.2.2.2.2.2.2.2.2.1 510 (by decide +kernel); rw [wd_fl2, if_neg (by decide)] at h; exact h); have bs := hp.1.1; have g24 := rg_bd1 (q_rg_in (q := ((806, 806), (2400, 2400, 0), (0, 2, 4, 1))) (by decide +kernel) H); omega) (by have w510 : crewF (S1.1 806) := (by have h := H.2.2.2.2.2.2.2.2.1 510 (by decide +kernel); rw [wd_fl2, if_neg (by decide)] at h; exact h); have bs := hp.1.1; have g24 := rg_bd1 (q_rg_in (q := ((806, 806), (2400, 2400, 0), (0, 2, 4, 1))) (by decide +kernel) H); omega) (by decide)
  obtain ⟨α1, hle, Hr⟩ := as_recM (pl := []) [((806, 806), (2404, 2428, 8)), ((806, 806), (2405, 2429, 8)), ((806, 806), (2454, 4046, 8)), ((806, 806), (2455, 4047, 8))] (by decide +kernel) H
  have hf := H.2.2.2.2.2.2.2.2.2.2.1
  have hl1 : α1.length = 3 := by rw [Hr.2.1.1]; rfl
  have hl0 : α.length = 3 := by rw [H.2.1.1]; rfl
  have hxa : al_le xs α1 := H.1.trans hle
  obtain ⟨g1, -, g3, g4, -⟩ := as_fx Hr
  have g0 : (805 ≤ nv α1 0 ∧ nv α1 0 ≤ 805) ∧ (0 ≤ nv α1 1 ∧ nv α1 1 ≤ 199) ∧ (0 ≤ nv α1 2 ∧ nv α1 2 ≤ 3) ∧ True := by
    refine ⟨by have h := (en_nv (i := 0) Hr.2.1 rfl).2; exact h, by have h := (en_nv (i := 1) Hr.2.1 rfl).2; exact h, by have h := (en_nv (i := 2) Hr.2.1 rfl).2; exact h, trivial⟩
  have r0 : nv α1 0 = nv α 0 := nv_le hle (by omega)
  have r1 : nv α1 1 = nv α 1 := nv_le hle (by omega)
  have r2 : nv α1 2 = nv α 2 := nv_le hle (by omega)
  refine hd_callPN (Rr := R_cLeaves) (Rs := [kh_cLeaves]) (idx := 884) G (List.forall_mem_cons.mpr ⟨kh_cLeaves_okP, List.forall_mem_nil _⟩) (fun Cc hCc ys hnm => by
      rcases List.mem_singleton.mp hCc with rfl
      have y1 : nv ys 1 = nv α1 2 := nm_nv hnm (i := 1) (v := 2) rfl
      show nv ys 1 < (S1.1 806 2400).toInt ∧ 0 ≤ mck (S1.1 806) (nv ys 1).toNat 3
      rw [y1, r2]
      exact hp.1) (na := 3) (Bs := [kh_dropJob_b77_0]) (by decide +kernel) (by decide +kernel) hl1 Hr ?_
  intro q hq β lv' st' S' H1 hRx
  simp only [List.mem_cons, List.not_mem_nil, or_false] at hq
  rcases hq with rfl
  · obtain ⟨f1, f2, f3, f4, f5⟩ := as_fx H1
    simp only [kh_dropJob_b77_0, fx_env, fx_c, fx_ne, fx_hf, wl_S, Nat.zero_add, Nat.reduceAdd, Nat.reduceDiv, Nat.reduceMod, List.getElem?_cons_zero, List.getElem?_cons_succ, if_true, and_true, true_and] at f1 f2 f3 f4 f5
    have fe0 : nv β 0 = 805 := by omega
    try simp only [fe0, Int.reduceToNat] at f2 f3 f4 f5
    have s0 : nv β 0 = nv α1 0 := nv_le H1.1 (by omega)
    have s1 : nv β 1 = nv α1 1 := nv_le H1.1 (by omega)
    have s2 : nv β 2 = nv α1 2 := nv_le H1.1 (by omega)
    obtain ⟨α', Ha, hm⟩ := hd_gpM (q := kh_dropJob_a80) (n := 0) (by decide +kernel) hx H1 (by decide +kernel) hxa hf
    have hfr := H1.2.2.2.2.2.2.2.2.2.2.1
    have m0 : nv α' 0 = nv β 0 := hm 0 0 rfl
    have m1 : nv α' 1 = nv β 1 := hm 1 1 rfl
    obtain ⟨Cc, hCc, ys, rr, hnm, hR, rest, hre⟩ := hRx
    rcases List.mem_singleton.mp hCc with rfl
    have y1 : nv ys 1 = nv α1 2 := nm_nv hnm (i := 1) (v := 2) rfl
    have hR' : mjk (S'.1 806) (mck (S1.1 806) (nv ys 1).toNat 3).toNat 4 = 0 := hR
    rw [y1, r2, hp.2.1] at hR'
    refine ih.2.2.1 _ _ _ _ Ha ?_ ?_
    · rw [m1, s1, r1, hR']; omega
    · omega
set_option maxHeartbeats 16000000 in
set_option maxRecDepth 8000 in
theorem kh_dropJob_h80 {l : Launch} {D : va_G} {tc : Nat → ClassId} {ad : Nat → Nat} {kd : Nat → Nat × Nat} {N : Nat} {sm : Nat → Nat} {xs : List av_X} {S : fw_S} {p : Program} {e : Env} {s : State} {m : MethodId} {args : Array Value} {below : List Frame} {meth : Method} {c : Code} {sz : Nat} {lvE : List (Nat × Value)} (G : hd_C wd_ff2 wd_fl2 kh_dropJob [kh_636, kh_588, kh_cJ4, kh_591, kh_590, kh_592, kh_cJ5, kh_cOpen] kh_dropJob_y l D tc ad kd N sm xs p s m args meth c sz) (H0 : as_in ad sm wd_fl2 xs S kh_dropJob.2.2.2.2.2.1 xs (hd_0 kh_dropJob) lvE [] S) {k : Nat} (ih : kh_dropJob_I l D tc ad kd N sm xs S p e s m args below meth c sz k) : (∀ (α : List av_X) (lv : List (Nat × Value)) (st : List Value) (S1 : fw_S), as_in ad sm wd_fl2 xs S kh_dropJob.2.2.2.2.2.1 α kh_dropJob_a80.2.2.1 lv st S1 → (mjk (S1.1 806) (nv α 1).toNat 4 ≠ 1) → 1 < k + 1 → hd_W wd_fl2 kh_dropJob kh_dropJob_y l D tc ad kd N sm xs S p e s m args below meth c sz 80 lv st S1 0) := by
  have hx : xs.length = 2 := by rw [H0.2.1.1]; rfl
  intro α lv st S1 H hp hk
  obtain ⟨α1, hle, Hr⟩ := as_recM (pl := []) [((806, 806), (2454, 4046, 8))] (by decide +kernel) H
  have hf := H.2.2.2.2.2.2.2.2.2.2.1
  have hl1 : α1.length = 2 := by rw [Hr.2.1.1]; rfl
  have hl0 : α.length = 2 := by rw [H.2.1.1]; rfl
  have hxa : al_le xs α1 := H.1.trans hle
  obtain ⟨g1, -, g3, g4, -⟩ := as_fx Hr
  have g0 : (805 ≤ nv α1 0 ∧ nv α1 0 ≤ 805) ∧ (0 ≤ nv α1 1 ∧ nv α1 1 ≤ 199) ∧ True := by
    refine ⟨by have h := (en_nv (i := 0) Hr.2.1 rfl).2; exact h, by have h := (en_nv (i := 1) Hr.2.1 rfl).2; exact h, trivial⟩
  have r0 : nv α1 0 = nv α 0 := nv_le hle (by omega)
  have r1 : nv α1 1 = nv α 1 := nv_le hle (by omega)
  refine hd_segM G (na := 2) (fuel := 600) (first := true) (Bs := [kh_dropJob_b80_0]) (by decide +kernel) hl1 Hr ?_
  intro q hq β lv' st' S' H1
  simp only [List.mem_cons, List.not_mem_nil, or_false] at hq
  rcases hq with rfl
  · obtain ⟨f1, f2, f3, f4, f5⟩ := as_fx H1
    simp only [kh_dropJob_b80_0, fx_env, fx_c, fx_ne, fx_hf, wl_S, Nat.zero_add, Nat.reduceAdd, Nat.reduceDiv, Nat.reduceMod, List.getElem?_cons_zero, List.getElem?_cons_succ, if_true, and_true, true_and] at f1 f2 f3 f4 f5
    have fe0 : nv β 0 = 805 := by omega
    have fe2 : nv β 2 = 806 := by omega
    have fe3 : nv β 3 = 4 := by omega
    have fe5 : nv β 5 = 3 := by omega
    try simp only [fe0, fe2, fe3, fe5, Int.reduceToNat] at f2 f3 f4 f5
    have s0 : nv β 0 = nv α1 0 := nv_le H1.1 (by omega)
    have s1 : nv β 1 = nv α1 1 := nv_le H1.1 (by omega)
    have c0 := f2
    have d0 := fl1_b (by decide) (fl2_b (by decide) c0)
    simp only [wd_fl] at d0
    have hrow : S'.1 806 = (rw_u (S1.1 806) (nv β 4).toNat (3)) := by rw [f5]; simp only [row_806]
    have hne : ∀ i : Nat, i ≠ (nv β 4).toNat → S'.1 806 i = S1.1 806 i := fun i n0 => by rw [hrow, rw_u_ne n0]
    have v0 : (S'.1 806 (nv β 4).toNat).toInt = 3 := by rw [hrow, rw_u_eq (by omega)]
    have w510 : crewF (S1.1 806) := by
      have h := H.2.2.2.2.2.2.2.2.1 510 (by decide +kernel)
      rw [wd_fl2, if_neg (by decide)] at h
      exact h
    have hg : crewF (S'.1 806) := by
      refine crew_drop (f := S1.1 806) (j := (nv β 1).toNat) w510 ?_ ?_ (by omega) (fun k' hk' => ?_) (fun j' w hj' hw hn => ?_) (by rw [s1, r1]; exact hp) ?_
      · exact hne _ (by omega)
      · exact hne _ (by omega)
      · unfold mck; rw [hne _ (by omega)]
      · unfold mjk; rw [hne _ (by omega)]
      · exact mjk_eq (w := 4) v0 (by omega)
    exact hd_run G (ss := []) (fuel := 20) (by decide +kernel) (as_fl_in (f := [510]) (as_backM H1 (by decide +kernel) hxa hf) (fun g hg' => by
      rcases List.mem_singleton.mp hg' with rfl
      rw [wd_fl2, if_neg (by decide)]
      exact hg))
set_option maxHeartbeats 16000000 in
set_option maxRecDepth 8000 in
theorem kh_dropJob_ok : ct_ok wd_fl2 kh_dropJob := ct_hand (ff := wd_ff2) (y := kh_dropJob_y) (Cs := [kh_636, kh_588, kh_cJ4, kh_591, kh_590, kh_592, kh_cJ5, kh_cOpen]) wd_fl2_ok rfl (List.forall_mem_cons.mpr ⟨kh_636_ok, (List.forall_mem_cons.mpr ⟨kh_588_ok, (List.forall_mem_cons.mpr ⟨kh_cJ4_ok, (List.forall_mem_cons.mpr ⟨kh_591_ok, (List.forall_mem_cons.mpr ⟨kh_590_ok, (List.forall_mem_cons.mpr ⟨kh_592_ok, (List.forall_mem_cons.mpr ⟨kh_cJ5_ok, (List.forall_mem_cons.mpr ⟨kh_cOpen_ok, (List.forall_mem_nil _)⟩)⟩)⟩)⟩)⟩)⟩)⟩)⟩) (by decide +kernel) (fun l D tc ad kd N sm xs S p e s m args below meth c sz lv G H0 => by
  have hx : xs.length = 2 := by rw [H0.2.1.1]; rfl
  have hP : ∀ (k : Nat), kh_dropJob_I l D tc ad kd N sm xs S p e s m args below meth c sz k := by
    intro k
    induction k with
    | zero => exact ⟨fun _ _ _ _ _ _ h => absurd h (Nat.not_lt_zero _), fun _ _ _ _ _ _ h => absurd h (Nat.not_lt_zero _), fun _ _ _ _ _ _ h => absurd h (Nat.not_lt_zero _), trivial⟩
    | succ k ih => exact ⟨kh_dropJob_h52 G H0 ih, kh_dropJob_h77 G H0 ih, kh_dropJob_h80 G H0 ih, trivial⟩
  obtain ⟨α1, hle, Hr⟩ := as_recM (pl := []) [((805, 805), (8, 8, 0))] (by decide +kernel) H0
  have hf := H0.2.2.2.2.2.2.2.2.2.2.1
  have hl1 : α1.length = 2 := by rw [Hr.2.1.1]; rfl
  have hl0 : xs.length = 2 := by rw [H0.2.1.1]; rfl
  have hxa : al_le xs α1 := H0.1.trans hle
  obtain ⟨g1, -, g3, g4, -⟩ := as_fx Hr
  have g0 : (805 ≤ nv α1 0 ∧ nv α1 0 ≤ 805) ∧ ((-2147483648) ≤ nv α1 1 ∧ nv α1 1 ≤ 2147483647) ∧ True := by
    refine ⟨by have h := (en_nv (i := 0) Hr.2.1 rfl).2; exact h, by have h := (en_nv (i := 1) Hr.2.1 rfl).2; exact h, trivial⟩
  have r0 : nv α1 0 = nv xs 0 := nv_le hle (by omega)
  have r1 : nv α1 1 = nv xs 1 := nv_le hle (by omega)
  refine hd_segM G (na := 2) (fuel := 600) (first := true) (Bs := [kh_dropJob_b0_0, kh_dropJob_b0_1, kh_dropJob_b0_2]) (by decide +kernel) hl1 Hr ?_
  intro q hq β lv' st' S' H1
  simp only [List.mem_cons, List.not_mem_nil, or_false] at hq
  rcases hq with rfl | rfl | rfl
  · obtain ⟨f1, f2, f3, f4, f5⟩ := as_fx H1
    simp only [kh_dropJob_b0_0, fx_env, fx_c, fx_ne, fx_hf, wl_S, Nat.zero_add, Nat.reduceAdd, Nat.reduceDiv, Nat.reduceMod, List.getElem?_cons_zero, List.getElem?_cons_succ, if_true, and_true, true_and] at f1 f2 f3 f4 f5
    have fe0 : nv β 0 = 805 := by omega
    have fe2 : nv β 2 = 0 := by omega
    have fe3 : nv β 3 = 806 := by omega
    have fe4 : nv β 4 = 2440 := by omega
    have fe6 : nv β 6 = 1 := by omega
    have fe8 : nv β 8 = 1 := by omega
    have fe9 : nv β 9 = 1 := by omega
    have fe10 : nv β 10 = 0 := by omega
    have fe11 : nv β 11 = 806 := by omega
    have fe12 : nv β 12 = 4 := by omega
    have fe15 : nv β 15 = 2 := by omega
    have fe16 : nv β 16 = 0 := by omega
    have fe17 : nv β 17 = 2 := by omega
    have fe18 : nv β 18 = 1 := by omega
    have fe19 : nv β 19 = 0 := by omega
    try simp only [fe0, fe2, fe3, fe4, fe6, fe8, fe9, fe10, fe11, fe12, fe15, fe16, fe17, fe18, fe19, Int.reduceToNat] at f2 f3 f4 f5
    have s0 : nv β 0 = nv α1 0 := nv_le H1.1 (by omega)
    have s1 : nv β 1 = nv α1 1 := nv_le H1.1 (by omega)
    obtain ⟨c0, c1⟩ := f2
    exact hd_run G (ss := []) (fuel := 20) (by decide +kernel) (as_backM H1 (by decide +kernel) hxa hf)
  · obtain ⟨f1, f2, f3, f4, f5⟩ := as_fx H1
    simp only [kh_dropJob_b0_1, fx_env, fx_c, fx_ne, fx_hf, wl_S, Nat.zero_add, Nat.reduceAdd, Nat.reduceDiv, Nat.reduceMod, List.getElem?_cons_zero, List.getElem?_cons_succ, if_true, and_true, true_and] at f1 f2 f3 f4 f5
    have fe0 : nv β 0 = 805 := by omega
    have fe2 : nv β 2 = 0 := by omega
    have fe3 : nv β 3 = 806 := by omega
    have fe4 : nv β 4 = 2440 := by omega
    have fe6 : nv β 6 = 1 := by omega
    have fe8 : nv β 8 = 1 := by omega
    have fe9 : nv β 9 = 1 := by omega
    have fe10 : nv β 10 = 0 := by omega
    have fe11 : nv β 11 = 806 := by omega
    have fe12 : nv β 12 = 4 := by omega
    have fe15 : nv β 15 = 2 := by omega
    have fe16 : nv β 16 = 1 := by omega
    have fe17 : nv β 17 = 2 := by omega
    have fe18 : nv β 18 = 0 := by omega
    try simp only [fe0, fe2, fe3, fe4, fe6, fe8, fe9, fe10, fe11, fe12, fe15, fe16, fe17, fe18, Int.reduceToNat] at f2 f3 f4 f5
    have s0 : nv β 0 = nv α1 0 := nv_le H1.1 (by omega)
    have s1 : nv β 1 = nv α1 1 := nv_le H1.1 (by omega)
    obtain ⟨c0, c1⟩ := f2
    obtain ⟨α', Ha, hm⟩ := hd_gpM (q := kh_dropJob_a52) (n := 0) (by decide +kernel) hx H1 (by decide +kernel) hxa hf
    have hfr := H1.2.2.2.2.2.2.2.2.2.2.1
    have m0 : nv α' 0 = nv β 0 := hm 0 0 rfl
    have m1 : nv α' 1 = nv β 1 := hm 1 1 rfl
    refine (hP _).1 _ _ _ _ Ha ?_ (Nat.lt_succ_self _)
    · trivial
  · obtain ⟨f1, f2, f3, f4, f5⟩ := as_fx H1
    simp only [kh_dropJob_b0_2, fx_env, fx_c, fx_ne, fx_hf, wl_S, Nat.zero_add, Nat.reduceAdd, Nat.reduceDiv, Nat.reduceMod, List.getElem?_cons_zero, List.getElem?_cons_succ, if_true, and_true, true_and] at f1 f2 f3 f4 f5
    have fe0 : nv β 0 = 805 := by omega
    have fe2 : nv β 2 = 0 := by omega
    have fe3 : nv β 3 = 806 := by omega
    have fe4 : nv β 4 = 2440 := by omega
    have fe6 : nv β 6 = 1 := by omega
    have fe8 : nv β 8 = 0 := by omega
    have fe9 : nv β 9 = 1 := by omega
    have fe10 : nv β 10 = 1 := by omega
    have fe11 : nv β 11 = 0 := by omega
    try simp only [fe0, fe2, fe3, fe4, fe6, fe8, fe9, fe10, fe11, Int.reduceToNat] at f2 f3 f4 f5
    have s0 : nv β 0 = nv α1 0 := nv_le H1.1 (by omega)
    have s1 : nv β 1 = nv α1 1 := nv_le H1.1 (by omega)
    obtain ⟨c0, c1⟩ := f2
    exact hd_run G (ss := []) (fuel := 20) (by decide +kernel) (as_backM H1 (by decide +kernel) hxa hf))
abbrev kh_inC_y : mt_T := (⟨"UtilityWorksModel", "in", "(III)Z"⟩, prog_14_method_5_code, 3, some .boolean, 12, 0, 3, 32192, 32191, 0, 21014)
def kh_inC : ct_T := (353, [(0, (-2147483648), 2147483647, 1), (0, 0, 0, 0), (0, 1, 3, 1)], [], [], [(1, (0, 0, 0, 0), [(0, (-2147483648), 2147483647, 1), (0, 0, 0, 0), (0, 1, 3, 1)], [], ([], [])), (1, (0, 1, 1, 0), [(0, 0, 3, 1), (0, 0, 0, 0), (0, 1, 3, 1)], [], ([], [(19, 0, 2)]))], [], 0, 0, 0)
def kh_inC_b0_0 : sg_T := (15, 0, ([((0, (-2147483648), (-1), 1), none), ((0, 0, 0, 0), none), ((0, 1, 3, 1), none), ((0, 0, 0, 0), none)], [(0, 0), (1, 1), (2, 2)], [3], [], [], [(100000, 0, 1)], [], [], some []))
def kh_inC_b0_1 : sg_T := (15, 0, ([((0, 2, 2147483647, 1), none), ((0, 0, 0, 0), none), ((0, 1, 3, 1), none), ((0, 0, 0, 0), none)], [(0, 0), (1, 1), (2, 2)], [3], [], [], [(100000, 2, 0), (200000, 1, 0)], [], [], some []))
def kh_inC_b0_2 : sg_T := (15, 0, ([((0, 0, 3, 1), none), ((0, 0, 0, 0), none), ((0, 1, 3, 1), none), ((0, 1, 1, 0), none)], [(0, 0), (1, 1), (2, 2)], [3], [], [], [(200000, 0, 2), (200000, 1, 0)], [], [], some []))
set_option maxHeartbeats 16000000 in
set_option maxRecDepth 8000 in
theorem kh_inC_ok : ct_ok wd_fl2 kh_inC := ct_hand (ff := wd_ff2) (y := kh_inC_y) (Cs := []) wd_fl2_ok rfl (List.forall_mem_nil _) (by decide +kernel) (fun l D tc ad kd N sm xs S p e s m args below meth c sz lv G H0 => by
  have hx : xs.length = 3 := by rw [H0.2.1.1]; rfl
  obtain ⟨α1, hle, Hr⟩ := as_recM (pl := []) [] (by decide +kernel) H0
  have hf := H0.2.2.2.2.2.2.2.2.2.2.1
  have hl1 : α1.length = 3 := by rw [Hr.2.1.1]; rfl
  have hl0 : xs.length = 3 := by rw [H0.2.1.1]; rfl
  have hxa : al_le xs α1 := H0.1.trans hle
  obtain ⟨g1, -, g3, g4, -⟩ := as_fx Hr
  have g0 : ((-2147483648) ≤ nv α1 0 ∧ nv α1 0 ≤ 2147483647) ∧ (0 ≤ nv α1 1 ∧ nv α1 1 ≤ 0) ∧ (1 ≤ nv α1 2 ∧ nv α1 2 ≤ 3) ∧ True := by
    refine ⟨by have h := (en_nv (i := 0) Hr.2.1 rfl).2; exact h, by have h := (en_nv (i := 1) Hr.2.1 rfl).2; exact h, by have h := (en_nv (i := 2) Hr.2.1 rfl).2; exact h, trivial⟩
  have r0 : nv α1 0 = nv xs 0 := nv_le hle (by omega)
  have r1 : nv α1 1 = nv xs 1 := nv_le hle (by omega)
  have r2 : nv α1 2 = nv xs 2 := nv_le hle (by omega)
  refine hd_segM G (na := 3) (fuel := 600) (first := true) (Bs := [kh_inC_b0_0, kh_inC_b0_1, kh_inC_b0_2]) (by decide +kernel) hl1 Hr ?_
  intro q hq β lv' st' S' H1
  simp only [List.mem_cons, List.not_mem_nil, or_false] at hq
  rcases hq with rfl | rfl | rfl
  · obtain ⟨f1, f2, f3, f4, f5⟩ := as_fx H1
    simp only [kh_inC_b0_0, fx_env, fx_c, fx_ne, fx_hf, wl_S, Nat.zero_add, Nat.reduceAdd, Nat.reduceDiv, Nat.reduceMod, List.getElem?_cons_zero, List.getElem?_cons_succ, if_true, and_true, true_and] at f1 f2 f3 f4 f5
    have fe1 : nv β 1 = 0 := by omega
    have fe3 : nv β 3 = 0 := by omega
    try simp only [fe1, fe3, Int.reduceToNat] at f2 f3 f4 f5
    have s0 : nv β 0 = nv α1 0 := nv_le H1.1 (by omega)
    have s1 : nv β 1 = nv α1 1 := nv_le H1.1 (by omega)
    have s2 : nv β 2 = nv α1 2 := nv_le H1.1 (by omega)
    have c0 := f2
    exact hd_run G (ss := []) (fuel := 20) (by decide +kernel) (as_backM H1 (by decide +kernel) hxa hf)
  · obtain ⟨f1, f2, f3, f4, f5⟩ := as_fx H1
    simp only [kh_inC_b0_1, fx_env, fx_c, fx_ne, fx_hf, wl_S, Nat.zero_add, Nat.reduceAdd, Nat.reduceDiv, Nat.reduceMod, List.getElem?_cons_zero, List.getElem?_cons_succ, if_true, and_true, true_and] at f1 f2 f3 f4 f5
    have fe1 : nv β 1 = 0 := by omega
    have fe3 : nv β 3 = 0 := by omega
    try simp only [fe1, fe3, Int.reduceToNat] at f2 f3 f4 f5
    have s0 : nv β 0 = nv α1 0 := nv_le H1.1 (by omega)
    have s1 : nv β 1 = nv α1 1 := nv_le H1.1 (by omega)
    have s2 : nv β 2 = nv α1 2 := nv_le H1.1 (by omega)
    obtain ⟨c0, c1⟩ := f2
    exact hd_run G (ss := []) (fuel := 20) (by decide +kernel) (as_backM H1 (by decide +kernel) hxa hf)
  · obtain ⟨f1, f2, f3, f4, f5⟩ := as_fx H1
    simp only [kh_inC_b0_2, fx_env, fx_c, fx_ne, fx_hf, wl_S, Nat.zero_add, Nat.reduceAdd, Nat.reduceDiv, Nat.reduceMod, List.getElem?_cons_zero, List.getElem?_cons_succ, if_true, and_true, true_and] at f1 f2 f3 f4 f5
    have fe1 : nv β 1 = 0 := by omega
    have fe3 : nv β 3 = 1 := by omega
    try simp only [fe1, fe3, Int.reduceToNat] at f2 f3 f4 f5
    have s0 : nv β 0 = nv α1 0 := nv_le H1.1 (by omega)
    have s1 : nv β 1 = nv α1 1 := nv_le H1.1 (by omega)
    have s2 : nv β 2 = nv α1 2 := nv_le H1.1 (by omega)
    obtain ⟨c0, c1⟩ := f2
    refine hd_retI G (v := 3) (by decide +kernel) (as_backM H1 (by decide +kernel) hxa hf) _ (List.mem_cons_of_mem _ List.mem_cons_self) rfl (by decide +kernel) (by decide) (fun w hw => ?_)
    rcases List.mem_singleton.mp hw with rfl
    have g0' := (en_nv (i := 0) H0.2.1 rfl).1
    have g2' := (en_nv (i := 2) H0.2.1 rfl).1
    refine ⟨_, _, g0', g2', ?_⟩
    rw [wd_fl2, if_neg (by decide)]
    show nv β 3 = 1 → nv xs 0 ≤ nv xs 2
    omega)
abbrev kh_isCCrew_y : mt_T := (⟨"UtilityWorksModel", "isCCrew", "(I)Z"⟩, prog_14_method_297_code, 2, some .boolean, 12, 1, 1, 37183, 37182, 17004, 21014)
def kh_isCCrew : ct_T := (650, [(2, 805, 805, 0), (0, (-2147483648), 2147483647, 1)], [], [], [(1, (0, 0, 0, 0), [(2, 805, 805, 0), (0, (-2147483648), 2147483647, 1)], [], ([], [])), (1, (0, 1, 1, 0), [(2, 805, 805, 0), (0, 0, 3, 1)], [], ([], [(1032, 1, 1)]))], [], 1, 22, 0)
def kh_isCCrew_b0_0 : sg_T := (15, 0, ([((2, 805, 805, 0), none), ((0, (-2147483648), 2147483647, 1), none), ((0, 0, 0, 0), none), ((2, 806, 806, 1), none), ((0, 2400, 2400, 0), none), ((0, 2, 4, 1), none), ((0, 1, 1, 0), none), ((0, 1, 3, 1), some (5, (-1))), ((0, 0, 0, 0), none)], [(0, 0), (1, 1)], [8], [(3, 4, 5)], [], [(600007, 5, 6), (800005, 3, 4)], [], [], some []))
def kh_isCCrew_b0_1 : sg_T := (15, 0, ([((2, 805, 805, 0), none), ((0, 0, 3, 1), none), ((0, 0, 0, 0), none), ((2, 806, 806, 1), none), ((0, 2400, 2400, 0), none), ((0, 2, 4, 1), none), ((0, 1, 1, 0), none), ((0, 1, 3, 1), some (5, (-1))), ((0, 1, 1, 0), none)], [(0, 0), (1, 1)], [8], [(3, 4, 5)], [], [(1900008, 1, 7), (600007, 5, 6), (800005, 3, 4)], [], [], some []))
set_option maxHeartbeats 16000000 in
set_option maxRecDepth 8000 in
theorem kh_isCCrew_ok : ct_ok wd_fl2 kh_isCCrew := ct_hand (ff := wd_ff2) (y := kh_isCCrew_y) (Cs := [kh_inC]) wd_fl2_ok rfl (List.forall_mem_cons.mpr ⟨kh_inC_ok, (List.forall_mem_nil _)⟩) (by decide +kernel) (fun l D tc ad kd N sm xs S p e s m args below meth c sz lv G H0 => by
  have hx : xs.length = 2 := by rw [H0.2.1.1]; rfl
  obtain ⟨α1, hle, Hr⟩ := as_recM (pl := []) [] (by decide +kernel) H0
  have hf := H0.2.2.2.2.2.2.2.2.2.2.1
  have hl1 : α1.length = 2 := by rw [Hr.2.1.1]; rfl
  have hl0 : xs.length = 2 := by rw [H0.2.1.1]; rfl
  have hxa : al_le xs α1 := H0.1.trans hle
  obtain ⟨g1, -, g3, g4, -⟩ := as_fx Hr
  have g0 : (805 ≤ nv α1 0 ∧ nv α1 0 ≤ 805) ∧ ((-2147483648) ≤ nv α1 1 ∧ nv α1 1 ≤ 2147483647) ∧ True := by
    refine ⟨by have h := (en_nv (i := 0) Hr.2.1 rfl).2; exact h, by have h := (en_nv (i := 1) Hr.2.1 rfl).2; exact h, trivial⟩
  have r0 : nv α1 0 = nv xs 0 := nv_le hle (by omega)
  have r1 : nv α1 1 = nv xs 1 := nv_le hle (by omega)
  refine hd_segM G (na := 2) (fuel := 600) (first := true) (Bs := [kh_isCCrew_b0_0, kh_isCCrew_b0_1]) (by decide +kernel) hl1 Hr ?_
  intro q hq β lv' st' S' H1
  simp only [List.mem_cons, List.not_mem_nil, or_false] at hq
  rcases hq with rfl | rfl
  · obtain ⟨f1, f2, f3, f4, f5⟩ := as_fx H1
    simp only [kh_isCCrew_b0_0, fx_env, fx_c, fx_ne, fx_hf, wl_S, Nat.zero_add, Nat.reduceAdd, Nat.reduceDiv, Nat.reduceMod, List.getElem?_cons_zero, List.getElem?_cons_succ, if_true, and_true, true_and] at f1 f2 f3 f4 f5
    have fe0 : nv β 0 = 805 := by omega
    have fe2 : nv β 2 = 0 := by omega
    have fe3 : nv β 3 = 806 := by omega
    have fe4 : nv β 4 = 2400 := by omega
    have fe6 : nv β 6 = 1 := by omega
    have fe8 : nv β 8 = 0 := by omega
    try simp only [fe0, fe2, fe3, fe4, fe6, fe8, Int.reduceToNat] at f2 f3 f4 f5
    have s0 : nv β 0 = nv α1 0 := nv_le H1.1 (by omega)
    have s1 : nv β 1 = nv α1 1 := nv_le H1.1 (by omega)
    obtain ⟨c0, c1⟩ := f2
    exact hd_run G (ss := []) (fuel := 20) (by decide +kernel) (as_backM H1 (by decide +kernel) hxa hf)
  · obtain ⟨f1, f2, f3, f4, f5⟩ := as_fx H1
    simp only [kh_isCCrew_b0_1, fx_env, fx_c, fx_ne, fx_hf, wl_S, Nat.zero_add, Nat.reduceAdd, Nat.reduceDiv, Nat.reduceMod, List.getElem?_cons_zero, List.getElem?_cons_succ, if_true, and_true, true_and] at f1 f2 f3 f4 f5
    have fe0 : nv β 0 = 805 := by omega
    have fe2 : nv β 2 = 0 := by omega
    have fe3 : nv β 3 = 806 := by omega
    have fe4 : nv β 4 = 2400 := by omega
    have fe6 : nv β 6 = 1 := by omega
    have fe8 : nv β 8 = 1 := by omega
    try simp only [fe0, fe2, fe3, fe4, fe6, fe8, Int.reduceToNat] at f2 f3 f4 f5
    have s0 : nv β 0 = nv α1 0 := nv_le H1.1 (by omega)
    have s1 : nv β 1 = nv α1 1 := nv_le H1.1 (by omega)
    obtain ⟨c0, c1, c2⟩ := f2
    have o2 := old_0 c2 rfl
    have d0 := c0
    simp only [wd_fl2, if_neg (show ¬ (wd_base1 19 = true) by decide)] at d0
    refine hd_retI G (v := 8) (by decide +kernel) (as_backM H1 (by decide +kernel) hxa hf) _ (List.mem_cons_of_mem _ List.mem_cons_self) rfl (by decide +kernel) (by decide) (fun w hw => ?_)
    rcases List.mem_singleton.mp hw with rfl
    have g1' := (en_nv (i := 1) H0.2.1 rfl).1
    refine ⟨_, _, g1', g1', ?_⟩
    rw [wd_fl2, if_neg (by decide)]
    show nv β 8 = 1 → nv xs 1 < (S.1 806 2400).toInt
    intro _
    rw [o2]
    have hd := d0 (by omega)
    omega)
abbrev kh_leave_y : mt_T := (⟨"UtilityWorksModel", "leave", "(I)I"⟩, prog_14_method_301_code, 3, some .int, 12, 1, 1, 37191, 37189, 37190, 21014)
def kh_leave : ct_T := (652, [(2, 805, 805, 0), (0, (-2147483648), 2147483647, 1)], [], [510], [(1, (0, (-1), 199, 1), [(2, 805, 805, 0), (0, (-2147483648), 2147483647, 1)], [], ([510], []))], [((805, 805), (8, 8, 0)), ((806, 806), (2404, 2428, 8)), ((806, 806), (2405, 2429, 8)), ((806, 806), (2454, 4046, 8)), ((806, 806), (2455, 4047, 8))], 2, 43, 0)
def kh_leave_a13 : an_T := (13, 0, ([((2, 805, 805, 0), none), ((0, 0, 3, 1), none)], [(0, 0), (1, 1)], [], [], [], [], [], [510], none), [])
def kh_leave_a55 : an_T := (55, 0, ([((2, 805, 805, 0), none), ((0, 0, 3, 1), none), ((0, (-1), 199, 1), none)], [(0, 0), (1, 1), (2, 2)], [1, 0], [], [], [], [], [510], none), [])
def kh_leave_a58 : an_T := (58, 0, ([((2, 805, 805, 0), none), ((0, 0, 3, 1), none), ((0, (-1), 199, 1), none)], [(0, 0), (1, 1), (2, 2)], [], [], [], [], [], [510], none), [])
def kh_leave_b0_0 : sg_T := (41, 0, ([((2, 805, 805, 0), none), ((0, (-2147483648), 2147483647, 1), none), ((0, 0, 0, 0), none), ((0, 1, 1, 0), none), ((0, 1, 1, 0), none), ((0, 0, 0, 0), none)], [(0, 0), (1, 1)], [5], [], [(4, 0)], [], [], [510], none))
def kh_leave_b0_1 : sg_T := (13, 0, ([((2, 805, 805, 0), none), ((0, 0, 3, 1), none), ((0, 1, 1, 0), none), ((0, 1, 1, 0), none), ((0, 0, 0, 0), none)], [(0, 0), (1, 1)], [], [], [], [(103200002, 1, 1)], [], [510], none))
def kh_leave_b13_0 : sg_T := (41, 0, ([((2, 805, 805, 0), none), ((0, 0, 3, 1), none), ((2, 806, 806, 1), none), ((0, 3, 3, 0), none), ((0, 2404, 2428, 8), none), ((0, (-1), (-1), 1), none), ((0, (-1), (-1), 0), none), ((0, 0, 0, 0), none), ((0, 2, 2, 0), none), ((0, 1, 1, 0), none), ((0, 0, 0, 0), none)], [(0, 0), (1, 1)], [10], [(2, 4, 5)], [(9, 0)], [(300000, 5, 6), (800005, 2, 4), (1300004, 1, 3)], [], [510], none))
def kh_leave_b13_1 : sg_T := (55, 0, ([((2, 805, 805, 0), none), ((0, 0, 3, 1), none), ((2, 806, 806, 1), none), ((0, 3, 3, 0), none), ((0, 2404, 2428, 8), none), ((0, 0, 199, 1), none), ((0, (-1), (-1), 0), none), ((0, 1, 1, 0), none), ((0, 2, 2, 0), none), ((0, 0, 0, 0), none), ((2, 806, 806, 1), none), ((0, 3, 3, 0), none), ((0, 2404, 2428, 8), none), ((0, (-1), 199, 1), none)], [(2, 13), (0, 0), (1, 1)], [1, 0], [(10, 12, 13), (2, 4, 5)], [(5, (-1))], [(400000, 5, 6), (800005, 2, 4), (1300004, 1, 3)], [], [510], none))
def kh_leave_b55_0 : sg_T := (58, 0, ([((2, 805, 805, 0), none), ((0, 0, 3, 1), none), ((0, (-1), 199, 1), none)], [(0, 0), (1, 1), (2, 2)], [], [], [], [], [], [510], none))
def kh_leave_b58_0 : sg_T := (59, 0, ([((2, 805, 805, 0), none), ((0, 0, 3, 1), none), ((0, (-1), 199, 1), none)], [(0, 0), (1, 1), (2, 2)], [2], [], [], [], [], [510], some []))
def kh_leave_I (l : Launch) (D : va_G) (tc : Nat → ClassId) (ad : Nat → Nat) (kd : Nat → Nat × Nat) (N : Nat) (sm : Nat → Nat) (xs : List av_X) (S : fw_S) (p : Program) (e : Env) (s : State) (m : MethodId) (args : Array Value) (below : List Frame) (meth : Method) (c : Code) (sz : Nat) (k : Nat) : Prop := (∀ (α : List av_X) (lv : List (Nat × Value)) (st : List Value) (S1 : fw_S), as_in ad sm wd_fl2 xs S kh_leave.2.2.2.2.2.1 α kh_leave_a13.2.2.1 lv st S1 → (nv xs 1 < (S1.1 806 2400).toInt) → 9 < k → hd_W wd_fl2 kh_leave kh_leave_y l D tc ad kd N sm xs S p e s m args below meth c sz 13 lv st S1 0) ∧ (∀ (α : List av_X) (lv : List (Nat × Value)) (st : List Value) (S1 : fw_S), as_in ad sm wd_fl2 xs S kh_leave.2.2.2.2.2.1 α kh_leave_a55.2.2.1 lv st S1 → ((nv xs 1 < (S1.1 806 2400).toInt ∧ 0 ≤ mck (S1.1 806) (nv xs 1).toNat 3)) → 5 < k → hd_W wd_fl2 kh_leave kh_leave_y l D tc ad kd N sm xs S p e s m args below meth c sz 55 lv st S1 0) ∧ (∀ (α : List av_X) (lv : List (Nat × Value)) (st : List Value) (S1 : fw_S), as_in ad sm wd_fl2 xs S kh_leave.2.2.2.2.2.1 α kh_leave_a58.2.2.1 lv st S1 → (True) → 1 < k → hd_W wd_fl2 kh_leave kh_leave_y l D tc ad kd N sm xs S p e s m args below meth c sz 58 lv st S1 0) ∧ True
set_option maxHeartbeats 16000000 in
set_option maxRecDepth 8000 in
theorem kh_leave_h13 {l : Launch} {D : va_G} {tc : Nat → ClassId} {ad : Nat → Nat} {kd : Nat → Nat × Nat} {N : Nat} {sm : Nat → Nat} {xs : List av_X} {S : fw_S} {p : Program} {e : Env} {s : State} {m : MethodId} {args : Array Value} {below : List Frame} {meth : Method} {c : Code} {sz : Nat} {lvE : List (Nat × Value)} (G : hd_C wd_ff2 wd_fl2 kh_leave [kh_isCCrew, kh_592, kh_588, kh_cC3, kh_591, kh_590] kh_leave_y l D tc ad kd N sm xs p s m args meth c sz) (H0 : as_in ad sm wd_fl2 xs S kh_leave.2.2.2.2.2.1 xs (hd_0 kh_leave) lvE [] S) {k : Nat} (ih : kh_leave_I l D tc ad kd N sm xs S p e s m args below meth c sz k) : (∀ (α : List av_X) (lv : List (Nat × Value)) (st : List Value) (S1 : fw_S), as_in ad sm wd_fl2 xs S kh_leave.2.2.2.2.2.1 α kh_leave_a13.2.2.1 lv st S1 → (nv xs 1 < (S1.1 806 2400).toInt) → 9 < k + 1 → hd_W wd_fl2 kh_leave kh_leave_y l D tc ad kd N sm xs S p e s m args below meth c sz 13 lv st S1 0) := by
  have hx : xs.length = 2 := by rw [H0.2.1.1]; rfl
  intro α lv st S1 H hp hk
  obtain ⟨α1, hle, Hr⟩ := as_recM (pl := []) [((805, 805), (8, 8, 0))] (by decide +kernel) H
  have hf := H.2.2.2.2.2.2.2.2.2.2.1
  have hl1 : α1.length = 2 := by rw [Hr.2.1.1]; rfl
  have hl0 : α.length = 2 := by rw [H.2.1.1]; rfl
  have hxa : al_le xs α1 := H.1.trans hle
  obtain ⟨g1, -, g3, g4, -⟩ := as_fx Hr
  have g0 : (805 ≤ nv α1 0 ∧ nv α1 0 ≤ 805) ∧ (0 ≤ nv α1 1 ∧ nv α1 1 ≤ 3) ∧ True := by
    refine ⟨by have h := (en_nv (i := 0) Hr.2.1 rfl).2; exact h, by have h := (en_nv (i := 1) Hr.2.1 rfl).2; exact h, trivial⟩
  have r0 : nv α1 0 = nv α 0 := nv_le hle (by omega)
  have r1 : nv α1 1 = nv α 1 := nv_le hle (by omega)
  refine hd_segM G (na := 2) (fuel := 600) (first := true) (Bs := [kh_leave_b13_0, kh_leave_b13_1]) (by decide +kernel) hl1 Hr ?_
  intro q hq β lv' st' S' H1
  simp only [List.mem_cons, List.not_mem_nil, or_false] at hq
  rcases hq with rfl | rfl
  · obtain ⟨f1, f2, f3, f4, f5⟩ := as_fx H1
    simp only [kh_leave_b13_0, fx_env, fx_c, fx_ne, fx_hf, wl_S, Nat.zero_add, Nat.reduceAdd, Nat.reduceDiv, Nat.reduceMod, List.getElem?_cons_zero, List.getElem?_cons_succ, if_true, and_true, true_and] at f1 f2 f3 f4 f5
    have fe0 : nv β 0 = 805 := by omega
    have fe2 : nv β 2 = 806 := by omega
    have fe3 : nv β 3 = 3 := by omega
    have fe5 : nv β 5 = (-1) := by omega
    have fe6 : nv β 6 = (-1) := by omega
    have fe7 : nv β 7 = 0 := by omega
    have fe8 : nv β 8 = 2 := by omega
    have fe9 : nv β 9 = 1 := by omega
    have fe10 : nv β 10 = 0 := by omega
    try simp only [fe0, fe2, fe3, fe5, fe6, fe7, fe8, fe9, fe10, Int.reduceToNat] at f2 f3 f4 f5
    have s0 : nv β 0 = nv α1 0 := nv_le H1.1 (by omega)
    have s1 : nv β 1 = nv α1 1 := nv_le H1.1 (by omega)
    obtain ⟨c0, c1, c2⟩ := f2
    exact hd_run G (ss := []) (fuel := 20) (by decide +kernel) (as_backM H1 (by decide +kernel) hxa hf)
  · obtain ⟨f1, f2, f3, f4, f5⟩ := as_fx H1
    simp only [kh_leave_b13_1, fx_env, fx_c, fx_ne, fx_hf, wl_S, Nat.zero_add, Nat.reduceAdd, Nat.reduceDiv, Nat.reduceMod, List.getElem?_cons_zero, List.getElem?_cons_succ, if_true, and_true, true_and] at f1 f2 f3 f4 f5
    have fe0 : nv β 0 = 805 := by omega
    have fe2 : nv β 2 = 806 := by omega
    have fe3 : nv β 3 = 3 := by omega
    have fe6 : nv β 6 = (-1) := by omega
    have fe7 : nv β 7 = 1 := by omega
    have fe8 : nv β 8 = 2 := by omega
    have fe9 : nv β 9 = 0 := by omega
    have fe10 : nv β 10 = 806 := by omega
    have fe11 : nv β 11 = 3 := by omega
    try simp only [fe0, fe2, fe3, fe6, fe7, fe8, fe9, fe10, fe11, Int.reduceToNat] at f2 f3 f4 f5
    have s0 : nv β 0 = nv α1 0 := nv_le H1.1 (by omega)
    have s1 : nv β 1 = nv α1 1 := nv_le H1.1 (by omega)
    obtain ⟨c0, c1, c2⟩ := f2
    obtain ⟨α', Ha, hm⟩ := hd_gpM (q := kh_leave_a55) (n := 0) (by decide +kernel) hx H1 (by decide +kernel) hxa hf
    have hfr := H1.2.2.2.2.2.2.2.2.2.2.1
    have m0 : nv α' 0 = nv β 0 := hm 0 0 rfl
    have m1 : nv α' 1 = nv β 1 := hm 1 1 rfl
    have m2 : nv α' 2 = nv β 13 := hm 2 13 rfl
    have o1 := old_0 c1 rfl
    have d2 := fl1_b (by decide) (fl2_b (by decide) c2)
    simp only [wd_fl] at d2
    have z1 : nv α 1 = nv xs 1 := nv_le H.1 (by omega)
    have hj := mck_eq (k := (nv xs 1).toNat) o1 (by omega)
    refine ih.2.1 _ _ _ _ Ha ?_ ?_
    · refine ⟨?_, ?_⟩
      · rw [fr_pl hfr 806 2400 (by decide +kernel)]; exact hp
      · rw [fr_mck hfr (by decide +kernel) (by omega), hj]; omega
    · omega
set_option maxHeartbeats 16000000 in
set_option maxRecDepth 8000 in
theorem kh_leave_h55 {l : Launch} {D : va_G} {tc : Nat → ClassId} {ad : Nat → Nat} {kd : Nat → Nat × Nat} {N : Nat} {sm : Nat → Nat} {xs : List av_X} {S : fw_S} {p : Program} {e : Env} {s : State} {m : MethodId} {args : Array Value} {below : List Frame} {meth : Method} {c : Code} {sz : Nat} {lvE : List (Nat × Value)} (G : hd_C wd_ff2 wd_fl2 kh_leave [kh_isCCrew, kh_592, kh_588, kh_cC3, kh_591, kh_590] kh_leave_y l D tc ad kd N sm xs p s m args meth c sz) (H0 : as_in ad sm wd_fl2 xs S kh_leave.2.2.2.2.2.1 xs (hd_0 kh_leave) lvE [] S) {k : Nat} (ih : kh_leave_I l D tc ad kd N sm xs S p e s m args below meth c sz k) : (∀ (α : List av_X) (lv : List (Nat × Value)) (st : List Value) (S1 : fw_S), as_in ad sm wd_fl2 xs S kh_leave.2.2.2.2.2.1 α kh_leave_a55.2.2.1 lv st S1 → ((nv xs 1 < (S1.1 806 2400).toInt ∧ 0 ≤ mck (S1.1 806) (nv xs 1).toNat 3)) → 5 < k + 1 → hd_W wd_fl2 kh_leave kh_leave_y l D tc ad kd N sm xs S p e s m args below meth c sz 55 lv st S1 0) := by
  have hx : xs.length = 2 := by rw [H0.2.1.1]; rfl
  intro α lv st S1 H hp hk
  obtain ⟨α1, hle, Hr⟩ := as_recM (pl := []) [((806, 806), (2404, 2428, 8)), ((806, 806), (2405, 2429, 8)), ((806, 806), (2454, 4046, 8)), ((806, 806), (2455, 4047, 8))] (by decide +kernel) H
  have hf := H.2.2.2.2.2.2.2.2.2.2.1
  have hl1 : α1.length = 3 := by rw [Hr.2.1.1]; rfl
  have hl0 : α.length = 3 := by rw [H.2.1.1]; rfl
  have hxa : al_le xs α1 := H.1.trans hle
  obtain ⟨g1, -, g3, g4, -⟩ := as_fx Hr
  have g0 : (805 ≤ nv α1 0 ∧ nv α1 0 ≤ 805) ∧ (0 ≤ nv α1 1 ∧ nv α1 1 ≤ 3) ∧ ((-1) ≤ nv α1 2 ∧ nv α1 2 ≤ 199) ∧ True := by
    refine ⟨by have h := (en_nv (i := 0) Hr.2.1 rfl).2; exact h, by have h := (en_nv (i := 1) Hr.2.1 rfl).2; exact h, by have h := (en_nv (i := 2) Hr.2.1 rfl).2; exact h, trivial⟩
  have r0 : nv α1 0 = nv α 0 := nv_le hle (by omega)
  have r1 : nv α1 1 = nv α 1 := nv_le hle (by omega)
  have r2 : nv α1 2 = nv α 2 := nv_le hle (by omega)
  refine hd_callPN (Rr := R_cLeaves) (Rs := [kh_cLeaves]) (idx := 884) G (List.forall_mem_cons.mpr ⟨kh_cLeaves_okP, List.forall_mem_nil _⟩) (fun Cc hCc ys hnm => by
      rcases List.mem_singleton.mp hCc with rfl
      have y1 : nv ys 1 = nv α1 1 := nm_nv hnm (i := 1) (v := 1) rfl
      have z1 : nv α 1 = nv xs 1 := nv_le H.1 (by omega)
      show nv ys 1 < (S1.1 806 2400).toInt ∧ 0 ≤ mck (S1.1 806) (nv ys 1).toNat 3
      rw [y1, r1, z1]
      exact hp) (na := 3) (Bs := [kh_leave_b55_0]) (by decide +kernel) (by decide +kernel) hl1 Hr ?_
  intro q hq β lv' st' S' H1 hRx
  simp only [List.mem_cons, List.not_mem_nil, or_false] at hq
  rcases hq with rfl
  · obtain ⟨f1, f2, f3, f4, f5⟩ := as_fx H1
    simp only [kh_leave_b55_0, fx_env, fx_c, fx_ne, fx_hf, wl_S, Nat.zero_add, Nat.reduceAdd, Nat.reduceDiv, Nat.reduceMod, List.getElem?_cons_zero, List.getElem?_cons_succ, if_true, and_true, true_and] at f1 f2 f3 f4 f5
    have fe0 : nv β 0 = 805 := by omega
    try simp only [fe0, Int.reduceToNat] at f2 f3 f4 f5
    have s0 : nv β 0 = nv α1 0 := nv_le H1.1 (by omega)
    have s1 : nv β 1 = nv α1 1 := nv_le H1.1 (by omega)
    have s2 : nv β 2 = nv α1 2 := nv_le H1.1 (by omega)
    obtain ⟨α', Ha, hm⟩ := hd_gpM (q := kh_leave_a58) (n := 0) (by decide +kernel) hx H1 (by decide +kernel) hxa hf
    have hfr := H1.2.2.2.2.2.2.2.2.2.2.1
    have m0 : nv α' 0 = nv β 0 := hm 0 0 rfl
    have m1 : nv α' 1 = nv β 1 := hm 1 1 rfl
    have m2 : nv α' 2 = nv β 2 := hm 2 2 rfl
    refine ih.2.2.1 _ _ _ _ Ha ?_ ?_
    · trivial
    · omega
set_option maxHeartbeats 16000000 in
set_option maxRecDepth 8000 in
theorem kh_leave_h58 {l : Launch} {D : va_G} {tc : Nat → ClassId} {ad : Nat → Nat} {kd : Nat → Nat × Nat} {N : Nat} {sm : Nat → Nat} {xs : List av_X} {S : fw_S} {p : Program} {e : Env} {s : State} {m : MethodId} {args : Array Value} {below : List Frame} {meth : Method} {c : Code} {sz : Nat} {lvE : List (Nat × Value)} (G : hd_C wd_ff2 wd_fl2 kh_leave [kh_isCCrew, kh_592, kh_588, kh_cC3, kh_591, kh_590] kh_leave_y l D tc ad kd N sm xs p s m args meth c sz) (H0 : as_in ad sm wd_fl2 xs S kh_leave.2.2.2.2.2.1 xs (hd_0 kh_leave) lvE [] S) {k : Nat} (ih : kh_leave_I l D tc ad kd N sm xs S p e s m args below meth c sz k) : (∀ (α : List av_X) (lv : List (Nat × Value)) (st : List Value) (S1 : fw_S), as_in ad sm wd_fl2 xs S kh_leave.2.2.2.2.2.1 α kh_leave_a58.2.2.1 lv st S1 → (True) → 1 < k + 1 → hd_W wd_fl2 kh_leave kh_leave_y l D tc ad kd N sm xs S p e s m args below meth c sz 58 lv st S1 0) := by
  have hx : xs.length = 2 := by rw [H0.2.1.1]; rfl
  intro α lv st S1 H hp hk
  obtain ⟨α1, hle, Hr⟩ := as_recM (pl := []) [] (by decide +kernel) H
  have hf := H.2.2.2.2.2.2.2.2.2.2.1
  have hl1 : α1.length = 3 := by rw [Hr.2.1.1]; rfl
  have hl0 : α.length = 3 := by rw [H.2.1.1]; rfl
  have hxa : al_le xs α1 := H.1.trans hle
  obtain ⟨g1, -, g3, g4, -⟩ := as_fx Hr
  have g0 : (805 ≤ nv α1 0 ∧ nv α1 0 ≤ 805) ∧ (0 ≤ nv α1 1 ∧ nv α1 1 ≤ 3) ∧ ((-1) ≤ nv α1 2 ∧ nv α1 2 ≤ 199) ∧ True := by
    refine ⟨by have h := (en_nv (i := 0) Hr.2.1 rfl).2; exact h, by have h := (en_nv (i := 1) Hr.2.1 rfl).2; exact h, by have h := (en_nv (i := 2) Hr.2.1 rfl).2; exact h, trivial⟩
  have r0 : nv α1 0 = nv α 0 := nv_le hle (by omega)
  have r1 : nv α1 1 = nv α 1 := nv_le hle (by omega)
  have r2 : nv α1 2 = nv α 2 := nv_le hle (by omega)
  refine hd_segM G (na := 3) (fuel := 600) (first := true) (Bs := [kh_leave_b58_0]) (by decide +kernel) hl1 Hr ?_
  intro q hq β lv' st' S' H1
  simp only [List.mem_cons, List.not_mem_nil, or_false] at hq
  rcases hq with rfl
  · obtain ⟨f1, f2, f3, f4, f5⟩ := as_fx H1
    simp only [kh_leave_b58_0, fx_env, fx_c, fx_ne, fx_hf, wl_S, Nat.zero_add, Nat.reduceAdd, Nat.reduceDiv, Nat.reduceMod, List.getElem?_cons_zero, List.getElem?_cons_succ, if_true, and_true, true_and] at f1 f2 f3 f4 f5
    have fe0 : nv β 0 = 805 := by omega
    try simp only [fe0, Int.reduceToNat] at f2 f3 f4 f5
    have s0 : nv β 0 = nv α1 0 := nv_le H1.1 (by omega)
    have s1 : nv β 1 = nv α1 1 := nv_le H1.1 (by omega)
    have s2 : nv β 2 = nv α1 2 := nv_le H1.1 (by omega)
    exact hd_run G (ss := []) (fuel := 20) (by decide +kernel) (as_backM H1 (by decide +kernel) hxa hf)
set_option maxHeartbeats 16000000 in
set_option maxRecDepth 8000 in
theorem kh_leave_ok : ct_ok wd_fl2 kh_leave := ct_hand (ff := wd_ff2) (y := kh_leave_y) (Cs := [kh_isCCrew, kh_592, kh_588, kh_cC3, kh_591, kh_590]) wd_fl2_ok rfl (List.forall_mem_cons.mpr ⟨kh_isCCrew_ok, (List.forall_mem_cons.mpr ⟨kh_592_ok, (List.forall_mem_cons.mpr ⟨kh_588_ok, (List.forall_mem_cons.mpr ⟨kh_cC3_ok, (List.forall_mem_cons.mpr ⟨kh_591_ok, (List.forall_mem_cons.mpr ⟨kh_590_ok, (List.forall_mem_nil _)⟩)⟩)⟩)⟩)⟩)⟩) (by decide +kernel) (fun l D tc ad kd N sm xs S p e s m args below meth c sz lv G H0 => by
  have hx : xs.length = 2 := by rw [H0.2.1.1]; rfl
  have hP : ∀ (k : Nat), kh_leave_I l D tc ad kd N sm xs S p e s m args below meth c sz k := by
    intro k
    induction k with
    | zero => exact ⟨fun _ _ _ _ _ _ h => absurd h (Nat.not_lt_zero _), fun _ _ _ _ _ _ h => absurd h (Nat.not_lt_zero _), fun _ _ _ _ _ _ h => absurd h (Nat.not_lt_zero _), trivial⟩
    | succ k ih => exact ⟨kh_leave_h13 G H0 ih, kh_leave_h55 G H0 ih, kh_leave_h58 G H0 ih, trivial⟩
  obtain ⟨α1, hle, Hr⟩ := as_recM (pl := []) [((805, 805), (8, 8, 0))] (by decide +kernel) H0
  have hf := H0.2.2.2.2.2.2.2.2.2.2.1
  have hl1 : α1.length = 2 := by rw [Hr.2.1.1]; rfl
  have hl0 : xs.length = 2 := by rw [H0.2.1.1]; rfl
  have hxa : al_le xs α1 := H0.1.trans hle
  obtain ⟨g1, -, g3, g4, -⟩ := as_fx Hr
  have g0 : (805 ≤ nv α1 0 ∧ nv α1 0 ≤ 805) ∧ ((-2147483648) ≤ nv α1 1 ∧ nv α1 1 ≤ 2147483647) ∧ True := by
    refine ⟨by have h := (en_nv (i := 0) Hr.2.1 rfl).2; exact h, by have h := (en_nv (i := 1) Hr.2.1 rfl).2; exact h, trivial⟩
  have r0 : nv α1 0 = nv xs 0 := nv_le hle (by omega)
  have r1 : nv α1 1 = nv xs 1 := nv_le hle (by omega)
  refine hd_segM G (na := 2) (fuel := 600) (first := true) (Bs := [kh_leave_b0_0, kh_leave_b0_1]) (by decide +kernel) hl1 Hr ?_
  intro q hq β lv' st' S' H1
  simp only [List.mem_cons, List.not_mem_nil, or_false] at hq
  rcases hq with rfl | rfl
  · obtain ⟨f1, f2, f3, f4, f5⟩ := as_fx H1
    simp only [kh_leave_b0_0, fx_env, fx_c, fx_ne, fx_hf, wl_S, Nat.zero_add, Nat.reduceAdd, Nat.reduceDiv, Nat.reduceMod, List.getElem?_cons_zero, List.getElem?_cons_succ, if_true, and_true, true_and] at f1 f2 f3 f4 f5
    have fe0 : nv β 0 = 805 := by omega
    have fe2 : nv β 2 = 0 := by omega
    have fe3 : nv β 3 = 1 := by omega
    have fe4 : nv β 4 = 1 := by omega
    have fe5 : nv β 5 = 0 := by omega
    try simp only [fe0, fe2, fe3, fe4, fe5, Int.reduceToNat] at f2 f3 f4 f5
    have s0 : nv β 0 = nv α1 0 := nv_le H1.1 (by omega)
    have s1 : nv β 1 = nv α1 1 := nv_le H1.1 (by omega)
    exact hd_run G (ss := []) (fuel := 20) (by decide +kernel) (as_backM H1 (by decide +kernel) hxa hf)
  · obtain ⟨f1, f2, f3, f4, f5⟩ := as_fx H1
    simp only [kh_leave_b0_1, fx_env, fx_c, fx_ne, fx_hf, wl_S, Nat.zero_add, Nat.reduceAdd, Nat.reduceDiv, Nat.reduceMod, List.getElem?_cons_zero, List.getElem?_cons_succ, if_true, and_true, true_and] at f1 f2 f3 f4 f5
    have fe0 : nv β 0 = 805 := by omega
    have fe2 : nv β 2 = 1 := by omega
    have fe3 : nv β 3 = 1 := by omega
    have fe4 : nv β 4 = 0 := by omega
    try simp only [fe0, fe2, fe3, fe4, Int.reduceToNat] at f2 f3 f4 f5
    have s0 : nv β 0 = nv α1 0 := nv_le H1.1 (by omega)
    have s1 : nv β 1 = nv α1 1 := nv_le H1.1 (by omega)
    have c0 := f2
    obtain ⟨α', Ha, hm⟩ := hd_gpM (q := kh_leave_a13) (n := 0) (by decide +kernel) hx H1 (by decide +kernel) hxa hf
    have hfr := H1.2.2.2.2.2.2.2.2.2.2.1
    have m0 : nv α' 0 = nv β 0 := hm 0 0 rfl
    have m1 : nv α' 1 = nv β 1 := hm 1 1 rfl
    have d0 := c0
    simp only [wd_fl2, if_neg (show ¬ (wd_base1 1032 = true) by decide)] at d0
    have hd := d0 (by omega)
    refine (hP _).1 _ _ _ _ Ha ?_ (Nat.lt_succ_self _)
    · rw [fr_pl hfr 806 2400 (by decide +kernel), show nv xs 1 = nv β 1 by omega]; exact hd)
def P_hire : List av_X → fw_S → Prop := fun _ S => (S.1 806 2400).toInt ≤ 3
abbrev kh_cHire_y : mt_T := (⟨"UtilityWorksModel", "cHire", "(III)V"⟩, prog_14_method_268_code, 5, none, 12, 1, 3, 31192, 31191, 4015, 21014)
def kh_cHire : ct_T := (344, [(2, 805, 805, 0), (0, 0, 11, 1), (0, 1, 31, 1), (0, 1, 4, 1)], [], [510], [(0, (0, 0, 0, 0), [(2, 805, 805, 0), (0, 0, 11, 1), (0, 1, 31, 1), (0, 1, 4, 1)], [], ([510], []))], [((806, 806), (2400, 2400, 0)), ((806, 806), (2401, 2425, 8)), ((806, 806), (2402, 2426, 8)), ((806, 806), (2403, 2427, 8)), ((806, 806), (2404, 2428, 8))], 1, 21, 0)
def kh_cHire_a21 : an_T := (21, 0, ([((2, 805, 805, 0), none), ((0, 0, 11, 1), none), ((0, 1, 31, 1), none), ((0, 1, 4, 1), none), ((0, 2, 4, 1), none), ((0, 3, 5, 1), none), ((0, 2400, 2400, 0), none), ((2, 806, 806, 1), none)], [(0, 0), (1, 1), (2, 2), (3, 3), (4, 4)], [5, 6, 7], [], [], [], [], [510], none), [])
def kh_cHire_b0_0 : sg_T := (21, 0, ([((2, 805, 805, 0), none), ((0, 0, 11, 1), none), ((0, 1, 31, 1), none), ((0, 1, 4, 1), none), ((2, 806, 806, 1), none), ((0, 2400, 2400, 0), none), ((0, 2, 4, 1), none), ((2, 806, 806, 1), none), ((0, 2400, 2400, 0), none), ((0, 1, 1, 0), none), ((0, 3, 5, 1), some (6, 1))], [(4, 6), (0, 0), (1, 1), (2, 2), (3, 3)], [10, 8, 7], [(4, 5, 6)], [], [(500010, 6, 9), (800006, 4, 5)], [], [510], some []))
def kh_cHire_b21_0 : sg_T := (70, 0, ([((2, 805, 805, 0), none), ((0, 0, 11, 1), none), ((0, 1, 31, 1), none), ((0, 1, 4, 1), none), ((0, 2, 3, 1), none), ((0, 2, 4, 1), none), ((0, 2400, 2400, 0), none), ((2, 806, 806, 1), none), ((2, 806, 806, 1), none), ((0, 0, 0, 0), none), ((0, 2401, 2425, 8), none), ((2, 806, 806, 1), none), ((0, 1, 1, 0), none), ((0, 2402, 2426, 8), none), ((2, 806, 806, 1), none), ((0, 2, 2, 0), none), ((0, 2403, 2427, 8), none), ((2, 806, 806, 1), none), ((0, 3, 3, 0), none), ((0, 2404, 2428, 8), none), ((0, (-1), (-1), 0), none)], [(0, 0), (1, 1), (2, 2), (3, 3), (4, 4)], [], [(17, 19, 20), (14, 16, 3), (11, 13, 2), (8, 10, 1), (7, 6, 5)], [], [(1300019, 4, 18), (1300016, 4, 15), (1300013, 4, 12), (1300010, 4, 9)], [], [], some [(17, 19, 20), (14, 16, 3), (11, 13, 2), (8, 10, 1), (7, 6, 5)]))
def kh_cHire_I (l : Launch) (D : va_G) (tc : Nat → ClassId) (ad : Nat → Nat) (kd : Nat → Nat × Nat) (N : Nat) (sm : Nat → Nat) (xs : List av_X) (S : fw_S) (p : Program) (e : Env) (s : State) (m : MethodId) (args : Array Value) (below : List Frame) (meth : Method) (c : Code) (sz : Nat) (k : Nat) : Prop := (∀ (α : List av_X) (lv : List (Nat × Value)) (st : List Value) (S1 : fw_S), as_in ad sm wd_fl2 xs S kh_cHire.2.2.2.2.2.1 α kh_cHire_a21.2.2.1 lv st S1 → (S1 = S ∧ nv α 4 = (S.1 806 2400).toInt ∧ nv α 4 ≤ 3 ∧ nv α 5 = nv α 4 + 1 ∧ nv α 6 = 2400) → 0 < k → hd_WR R_any wd_fl2 kh_cHire kh_cHire_y l D tc ad kd N sm xs S p e s m args below meth c sz 21 lv st S1 0) ∧ True
set_option maxHeartbeats 16000000 in
set_option maxRecDepth 8000 in
theorem kh_cHire_h21 {l : Launch} {D : va_G} {tc : Nat → ClassId} {ad : Nat → Nat} {kd : Nat → Nat × Nat} {N : Nat} {sm : Nat → Nat} {xs : List av_X} {S : fw_S} {p : Program} {e : Env} {s : State} {m : MethodId} {args : Array Value} {below : List Frame} {meth : Method} {c : Code} {sz : Nat} {lvE : List (Nat × Value)} (G : hd_C wd_ff2 wd_fl2 kh_cHire [kh_cC0, kh_cC1, kh_cC2, kh_cC3] kh_cHire_y l D tc ad kd N sm xs p s m args meth c sz) (H0 : as_in ad sm wd_fl2 xs S kh_cHire.2.2.2.2.2.1 xs (hd_0 kh_cHire) lvE [] S) (hpre : P_hire xs S) {k : Nat} (ih : kh_cHire_I l D tc ad kd N sm xs S p e s m args below meth c sz k) : (∀ (α : List av_X) (lv : List (Nat × Value)) (st : List Value) (S1 : fw_S), as_in ad sm wd_fl2 xs S kh_cHire.2.2.2.2.2.1 α kh_cHire_a21.2.2.1 lv st S1 → (S1 = S ∧ nv α 4 = (S.1 806 2400).toInt ∧ nv α 4 ≤ 3 ∧ nv α 5 = nv α 4 + 1 ∧ nv α 6 = 2400) → 0 < k + 1 → hd_WR R_any wd_fl2 kh_cHire kh_cHire_y l D tc ad kd N sm xs S p e s m args below meth c sz 21 lv st S1 0) := by
  have hx : xs.length = 4 := by rw [H0.2.1.1]; rfl
  have q510 : crewF (S.1 806) := by
    have h := H0.2.2.2.2.2.2.2.2.1 510 (by decide +kernel)
    rw [wd_fl2, if_neg (by decide)] at h
    exact h
  intro α lv st S1 H hp hk
  have bp := (en_nv (i := 5) H.2.1 rfl).2
  change 3 ≤ nv α 5 ∧ nv α 5 ≤ 5 at bp
  replace H := as_clamp (i := 5) (lo := 2) (hi := 4) H rfl rfl (by have b5 := (en_nv (i := 4) H.2.1 rfl).2; change _ ≤ nv α 4 ∧ nv α 4 ≤ _ at b5; obtain ⟨p1, p2, p3, p4, p5⟩ := hp; omega) (by have b5 := (en_nv (i := 4) H.2.1 rfl).2; change _ ≤ nv α 4 ∧ nv α 4 ≤ _ at b5; obtain ⟨p1, p2, p3, p4, p5⟩ := hp; omega) (by decide)
  have bp := (en_nv (i := 4) H.2.1 rfl).2
  change 2 ≤ nv α 4 ∧ nv α 4 ≤ 4 at bp
  replace H := as_clamp (i := 4) (lo := 2) (hi := 3) H rfl rfl (by have b5 := (en_nv (i := 4) H.2.1 rfl).2; change _ ≤ nv α 4 ∧ nv α 4 ≤ _ at b5; obtain ⟨p1, p2, p3, p4, p5⟩ := hp; omega) (by have b5 := (en_nv (i := 4) H.2.1 rfl).2; change _ ≤ nv α 4 ∧ nv α 4 ≤ _ at b5; obtain ⟨p1, p2, p3, p4, p5⟩ := hp; omega) (by decide)
  obtain ⟨α1, hle, Hr⟩ := as_recM (pl := []) [((806, 806), (2400, 2400, 0)), ((806, 806), (2401, 2425, 8)), ((806, 806), (2402, 2426, 8)), ((806, 806), (2403, 2427, 8)), ((806, 806), (2404, 2428, 8))] (by decide +kernel) H
  have hf := H.2.2.2.2.2.2.2.2.2.2.1
  have hl1 : α1.length = 8 := by rw [Hr.2.1.1]; rfl
  have hl0 : α.length = 8 := by rw [H.2.1.1]; rfl
  have hxa : al_le xs α1 := H.1.trans hle
  obtain ⟨g1, -, g3, g4, -⟩ := as_fx Hr
  have g0 : (805 ≤ nv α1 0 ∧ nv α1 0 ≤ 805) ∧ (0 ≤ nv α1 1 ∧ nv α1 1 ≤ 11) ∧ (1 ≤ nv α1 2 ∧ nv α1 2 ≤ 31) ∧ (1 ≤ nv α1 3 ∧ nv α1 3 ≤ 4) ∧ (2 ≤ nv α1 4 ∧ nv α1 4 ≤ 3) ∧ (2 ≤ nv α1 5 ∧ nv α1 5 ≤ 4) ∧ (2400 ≤ nv α1 6 ∧ nv α1 6 ≤ 2400) ∧ (806 ≤ nv α1 7 ∧ nv α1 7 ≤ 806) ∧ True := by
    refine ⟨by have h := (en_nv (i := 0) Hr.2.1 rfl).2; exact h, by have h := (en_nv (i := 1) Hr.2.1 rfl).2; exact h, by have h := (en_nv (i := 2) Hr.2.1 rfl).2; exact h, by have h := (en_nv (i := 3) Hr.2.1 rfl).2; exact h, by have h := (en_nv (i := 4) Hr.2.1 rfl).2; exact h, by have h := (en_nv (i := 5) Hr.2.1 rfl).2; exact h, by have h := (en_nv (i := 6) Hr.2.1 rfl).2; exact h, by have h := (en_nv (i := 7) Hr.2.1 rfl).2; exact h, trivial⟩
  have r0 : nv α1 0 = nv α 0 := nv_le hle (by omega)
  have r1 : nv α1 1 = nv α 1 := nv_le hle (by omega)
  have r2 : nv α1 2 = nv α 2 := nv_le hle (by omega)
  have r3 : nv α1 3 = nv α 3 := nv_le hle (by omega)
  have r4 : nv α1 4 = nv α 4 := nv_le hle (by omega)
  have r5 : nv α1 5 = nv α 5 := nv_le hle (by omega)
  have r6 : nv α1 6 = nv α 6 := nv_le hle (by omega)
  have r7 : nv α1 7 = nv α 7 := nv_le hle (by omega)
  refine hd_segMR G (na := 8) (fuel := 600) (first := true) (Bs := [kh_cHire_b21_0]) (by decide +kernel) hl1 Hr ?_
  intro q hq β lv' st' S' H1
  simp only [List.mem_cons, List.not_mem_nil, or_false] at hq
  rcases hq with rfl
  · obtain ⟨f1, f2, f3, f4, f5⟩ := as_fx H1
    simp only [kh_cHire_b21_0, fx_env, fx_c, fx_ne, fx_hf, wl_S, Nat.zero_add, Nat.reduceAdd, Nat.reduceDiv, Nat.reduceMod, List.getElem?_cons_zero, List.getElem?_cons_succ, if_true, and_true, true_and] at f1 f2 f3 f4 f5
    have fe0 : nv β 0 = 805 := by omega
    have fe6 : nv β 6 = 2400 := by omega
    have fe7 : nv β 7 = 806 := by omega
    have fe8 : nv β 8 = 806 := by omega
    have fe9 : nv β 9 = 0 := by omega
    have fe11 : nv β 11 = 806 := by omega
    have fe12 : nv β 12 = 1 := by omega
    have fe14 : nv β 14 = 806 := by omega
    have fe15 : nv β 15 = 2 := by omega
    have fe17 : nv β 17 = 806 := by omega
    have fe18 : nv β 18 = 3 := by omega
    have fe20 : nv β 20 = (-1) := by omega
    try simp only [fe0, fe6, fe7, fe8, fe9, fe11, fe12, fe14, fe15, fe17, fe18, fe20, Int.reduceToNat] at f2 f3 f4 f5
    have s0 : nv β 0 = nv α1 0 := nv_le H1.1 (by omega)
    have s1 : nv β 1 = nv α1 1 := nv_le H1.1 (by omega)
    have s2 : nv β 2 = nv α1 2 := nv_le H1.1 (by omega)
    have s3 : nv β 3 = nv α1 3 := nv_le H1.1 (by omega)
    have s4 : nv β 4 = nv α1 4 := nv_le H1.1 (by omega)
    have s5 : nv β 5 = nv α1 5 := nv_le H1.1 (by omega)
    have s6 : nv β 6 = nv α1 6 := nv_le H1.1 (by omega)
    have s7 : nv β 7 = nv α1 7 := nv_le H1.1 (by omega)
    obtain ⟨c0, c1, c2, c3⟩ := f2
    have d0 := fl1_b (by decide) (fl2_b (by decide) c0)
    simp only [wd_fl] at d0
    have d1 := fl1_b (by decide) (fl2_b (by decide) c1)
    simp only [wd_fl] at d1
    have d2 := fl1_b (by decide) (fl2_b (by decide) c2)
    simp only [wd_fl] at d2
    have d3 := fl1_b (by decide) (fl2_b (by decide) c3)
    simp only [wd_fl] at d3
    have hrow : S'.1 806 = (rw_u (rw_u (rw_u (rw_u (rw_u (S1.1 806) 2400 (nv β 5)) (nv β 10).toNat (nv β 1)) (nv β 13).toNat (nv β 2)) (nv β 16).toNat (nv β 3)) (nv β 19).toNat ((-1))) := by rw [f5]; simp only [row_806]
    have hne : ∀ i : Nat, i ≠ (nv β 19).toNat → i ≠ (nv β 16).toNat → i ≠ (nv β 13).toNat → i ≠ (nv β 10).toNat → i ≠ 2400 → S'.1 806 i = S1.1 806 i := fun i n0 n1 n2 n3 n4 => by rw [hrow, rw_u_ne n0, rw_u_ne n1, rw_u_ne n2, rw_u_ne n3, rw_u_ne n4]
    have v0 : (S'.1 806 (nv β 19).toNat).toInt = (-1) := by rw [hrow, rw_u_eq (by omega)]
    have v1 : (S'.1 806 (nv β 16).toNat).toInt = nv β 3 := by rw [hrow, rw_u_ne (by omega), rw_u_eq (by omega)]
    have v2 : (S'.1 806 (nv β 13).toNat).toInt = nv β 2 := by rw [hrow, rw_u_ne (by omega), rw_u_ne (by omega), rw_u_eq (by omega)]
    have v3 : (S'.1 806 (nv β 10).toNat).toInt = nv β 1 := by rw [hrow, rw_u_ne (by omega), rw_u_ne (by omega), rw_u_ne (by omega), rw_u_eq (by omega)]
    have v4 : (S'.1 806 2400).toInt = nv β 5 := by rw [hrow, rw_u_ne (by omega), rw_u_ne (by omega), rw_u_ne (by omega), rw_u_ne (by omega), rw_u_eq (by omega)]
    obtain ⟨p1, p2, p3, p4, p5⟩ := hp
    have e1 : S1.1 806 = S.1 806 := by rw [p1]
    have hg : crewF (S'.1 806) := by
      refine crew_hire (f := S.1 806) (k := (nv β 4).toNat) q510 ?_ (by omega) ?_ (fun k' hk' hn => ?_) (fun j' w hj' hw => ?_) ?_
      · rw [v4]; omega
      · rw [← e1]; exact hne _ (by omega) (by omega) (by omega) (by omega) (by omega)
      · unfold mck; rw [hne _ (by omega) (by omega) (by omega) (by omega) (by omega), e1]
      · unfold mjk; rw [hne _ (by omega) (by omega) (by omega) (by omega) (by omega), e1]
      · exact mck_eq v0 (by omega)
    exact hd_retVR G (by decide +kernel) (as_fl_in (f := [510]) (as_backM H1 (by decide +kernel) hxa hf) (fun g hg' => by
      rcases List.mem_singleton.mp hg' with rfl
      rw [wd_fl2, if_neg (by decide)]
      exact hg)) (by decide +kernel) (by decide) trivial
set_option maxHeartbeats 16000000 in
set_option maxRecDepth 8000 in
theorem kh_cHire_okP : ct_okPR wd_fl2 kh_cHire P_hire R_any := ct_handPR (P := P_hire) (R := R_any) (ff := wd_ff2) (y := kh_cHire_y) (Cs := [kh_cC0, kh_cC1, kh_cC2, kh_cC3]) wd_fl2_ok rfl (List.forall_mem_cons.mpr ⟨kh_cC0_ok, (List.forall_mem_cons.mpr ⟨kh_cC1_ok, (List.forall_mem_cons.mpr ⟨kh_cC2_ok, (List.forall_mem_cons.mpr ⟨kh_cC3_ok, (List.forall_mem_nil _)⟩)⟩)⟩)⟩) (by decide +kernel) (fun l D tc ad kd N sm xs S p e s m args below meth c sz lv G H0 hpre => by
  have hx : xs.length = 4 := by rw [H0.2.1.1]; rfl
  have q510 : crewF (S.1 806) := by
    have h := H0.2.2.2.2.2.2.2.2.1 510 (by decide +kernel)
    rw [wd_fl2, if_neg (by decide)] at h
    exact h
  have hP : ∀ (k : Nat), kh_cHire_I l D tc ad kd N sm xs S p e s m args below meth c sz k := by
    intro k
    induction k with
    | zero => exact ⟨fun _ _ _ _ _ _ h => absurd h (Nat.not_lt_zero _), trivial⟩
    | succ k ih => exact ⟨kh_cHire_h21 G H0 hpre ih, trivial⟩
  obtain ⟨α1, hle, Hr⟩ := as_recM (pl := []) [] (by decide +kernel) H0
  have hf := H0.2.2.2.2.2.2.2.2.2.2.1
  have hl1 : α1.length = 4 := by rw [Hr.2.1.1]; rfl
  have hl0 : xs.length = 4 := by rw [H0.2.1.1]; rfl
  have hxa : al_le xs α1 := H0.1.trans hle
  obtain ⟨g1, -, g3, g4, -⟩ := as_fx Hr
  have g0 : (805 ≤ nv α1 0 ∧ nv α1 0 ≤ 805) ∧ (0 ≤ nv α1 1 ∧ nv α1 1 ≤ 11) ∧ (1 ≤ nv α1 2 ∧ nv α1 2 ≤ 31) ∧ (1 ≤ nv α1 3 ∧ nv α1 3 ≤ 4) ∧ True := by
    refine ⟨by have h := (en_nv (i := 0) Hr.2.1 rfl).2; exact h, by have h := (en_nv (i := 1) Hr.2.1 rfl).2; exact h, by have h := (en_nv (i := 2) Hr.2.1 rfl).2; exact h, by have h := (en_nv (i := 3) Hr.2.1 rfl).2; exact h, trivial⟩
  have r0 : nv α1 0 = nv xs 0 := nv_le hle (by omega)
  have r1 : nv α1 1 = nv xs 1 := nv_le hle (by omega)
  have r2 : nv α1 2 = nv xs 2 := nv_le hle (by omega)
  have r3 : nv α1 3 = nv xs 3 := nv_le hle (by omega)
  refine hd_segMR G (na := 4) (fuel := 600) (first := true) (Bs := [kh_cHire_b0_0]) (by decide +kernel) hl1 Hr ?_
  intro q hq β lv' st' S' H1
  simp only [List.mem_cons, List.not_mem_nil, or_false] at hq
  rcases hq with rfl
  · obtain ⟨f1, f2, f3, f4, f5⟩ := as_fx H1
    simp only [kh_cHire_b0_0, fx_env, fx_c, fx_ne, fx_hf, wl_S, Nat.zero_add, Nat.reduceAdd, Nat.reduceDiv, Nat.reduceMod, List.getElem?_cons_zero, List.getElem?_cons_succ, if_true, and_true, true_and] at f1 f2 f3 f4 f5
    have fe0 : nv β 0 = 805 := by omega
    have fe4 : nv β 4 = 806 := by omega
    have fe5 : nv β 5 = 2400 := by omega
    have fe7 : nv β 7 = 806 := by omega
    have fe8 : nv β 8 = 2400 := by omega
    have fe9 : nv β 9 = 1 := by omega
    try simp only [fe0, fe4, fe5, fe7, fe8, fe9, Int.reduceToNat] at f2 f3 f4 f5
    have s0 : nv β 0 = nv α1 0 := nv_le H1.1 (by omega)
    have s1 : nv β 1 = nv α1 1 := nv_le H1.1 (by omega)
    have s2 : nv β 2 = nv α1 2 := nv_le H1.1 (by omega)
    have s3 : nv β 3 = nv α1 3 := nv_le H1.1 (by omega)
    obtain ⟨c0, c1⟩ := f2
    obtain ⟨α', Ha, hm⟩ := hd_gpM (q := kh_cHire_a21) (n := 0) (by decide +kernel) hx H1 (by decide +kernel) hxa hf
    have hfr := H1.2.2.2.2.2.2.2.2.2.2.1
    have m0 : nv α' 0 = nv β 0 := hm 0 0 rfl
    have m1 : nv α' 1 = nv β 1 := hm 1 1 rfl
    have m2 : nv α' 2 = nv β 2 := hm 2 2 rfl
    have m3 : nv α' 3 = nv β 3 := hm 3 3 rfl
    have m4 : nv α' 4 = nv β 6 := hm 4 6 rfl
    have m5 : nv α' 5 = nv β 10 := hm 5 10 rfl
    have m6 : nv α' 6 = nv β 8 := hm 6 8 rfl
    have m7 : nv α' 7 = nv β 7 := hm 7 7 rfl
    subst S'
    have o1 := old_0 c1 rfl
    have hq : (S.1 806 2400).toInt ≤ 3 := hpre
    refine (hP _).1 _ _ _ _ Ha ?_ (Nat.lt_succ_self _)
    · rw [m4, m5, m6]
      exact ⟨rfl, by rw [o1], by omega, by omega, by omega⟩)
/- UtilityWorksModel in -/
def kh_637 : ct_T := (353, [(0, (-2147483648), 2147483647, 1), (0, 1, 1, 0), (0, 31, 31, 0)], [], [], [(1, (0, 1, 1, 0), [(0, 1, 31, 1), (0, 1, 1, 0), (0, 31, 31, 0)], [], ([], [])), (1, (0, 0, 0, 0), [(0, (-2147483648), 2147483647, 1), (0, 1, 1, 0), (0, 31, 31, 0)], [], ([], []))], [], 0, 0, 0)
theorem kh_637_ok : ct_ok wd_fl2 kh_637 := ct_of (ff := wd_ff2) (y := (⟨"UtilityWorksModel", "in", "(III)Z"⟩, prog_14_method_5_code, 3, some .boolean, 12, 0, 3, 32192, 32191, 0, 21014)) (Cs := []) (an := [(14, 0, ([((0, (-2147483648), 2147483647, 1), none), ((0, 1, 1, 0), none), ((0, 31, 31, 0), none)], [(0, 0), (1, 1), (2, 2)], [], [], [], [], [], [], none), [(0, 0, 99986)])]) (ss := []) (K := 1) (fuel := 4000) wd_fl2_ok rfl (List.forall_mem_nil _) (by decide +kernel)
/- UtilityWorksModel in -/
def kh_638 : ct_T := (353, [(0, (-2147483648), 2147483647, 1), (0, 1, 1, 0), (0, 4, 4, 0)], [], [], [(1, (0, 1, 1, 0), [(0, 1, 4, 1), (0, 1, 1, 0), (0, 4, 4, 0)], [], ([], [])), (1, (0, 0, 0, 0), [(0, (-2147483648), 2147483647, 1), (0, 1, 1, 0), (0, 4, 4, 0)], [], ([], []))], [], 0, 0, 0)
theorem kh_638_ok : ct_ok wd_fl2 kh_638 := ct_of (ff := wd_ff2) (y := (⟨"UtilityWorksModel", "in", "(III)Z"⟩, prog_14_method_5_code, 3, some .boolean, 12, 0, 3, 32192, 32191, 0, 21014)) (Cs := []) (an := [(14, 0, ([((0, (-2147483648), 2147483647, 1), none), ((0, 1, 1, 0), none), ((0, 4, 4, 0), none)], [(0, 0), (1, 1), (2, 2)], [], [], [], [], [], [], none), [(0, 0, 99986)])]) (ss := []) (K := 1) (fuel := 4000) wd_fl2_ok rfl (List.forall_mem_nil _) (by decide +kernel)
/- UtilityWorksModel fails -/
def kh_639 : ct_T := (355, [(2, 805, 805, 0), (0, 0, 0, 0), (0, 3, 3, 0)], [], [], [(1, (0, 1, 1, 0), [(2, 805, 805, 0), (0, 0, 0, 0), (0, 3, 3, 0)], [((805, 805), (8, 8, 0), (0, 3, 3, 0))], ([], []))], [((805, 805), (8, 8, 0))], 0, 0, 0)
theorem kh_639_ok : ct_ok wd_fl2 kh_639 := ct_of (ff := wd_ff2) (y := (⟨"UtilityWorksModel", "fails", "(ZI)Z"⟩, prog_14_method_3_code, 3, some .boolean, 12, 1, 2, 32199, 32198, 5003, 21014)) (Cs := []) (an := []) (ss := []) (K := 1) (fuel := 4000) wd_fl2_ok rfl (List.forall_mem_nil _) (by decide +kernel)
/- UtilityWorksModel fails -/
def kh_640 : ct_T := (355, [(2, 805, 805, 0), (0, 1, 1, 0), (0, 3, 3, 0)], [], [], [(1, (0, 0, 0, 0), [(2, 805, 805, 0), (0, 1, 1, 0), (0, 3, 3, 0)], [((805, 805), (8, 8, 0), (0, 0, 0, 0))], ([], []))], [((805, 805), (8, 8, 0))], 0, 0, 0)
theorem kh_640_ok : ct_ok wd_fl2 kh_640 := ct_of (ff := wd_ff2) (y := (⟨"UtilityWorksModel", "fails", "(ZI)Z"⟩, prog_14_method_3_code, 3, some .boolean, 12, 1, 2, 32199, 32198, 5003, 21014)) (Cs := []) (an := []) (ss := []) (K := 1) (fuel := 4000) wd_fl2_ok rfl (List.forall_mem_nil _) (by decide +kernel)
abbrev kh_crew_y : mt_T := (⟨"UtilityWorksModel", "crew", "(III)I"⟩, prog_14_method_298_code, 4, some .int, 12, 1, 3, 37175, 37173, 37174, 21014)
def kh_crew : ct_T := (648, [(2, 805, 805, 0), (0, (-2147483648), 2147483647, 1), (0, (-2147483648), 2147483647, 1), (0, (-2147483648), 2147483647, 1)], [], [510], [(1, (0, 0, 3, 1), [(2, 805, 805, 0), (0, (-2147483648), 2147483647, 1), (0, (-2147483648), 2147483647, 1), (0, (-2147483648), 2147483647, 1)], [], ([510], []))], [((805, 805), (8, 8, 0)), ((806, 806), (2400, 2400, 0)), ((806, 806), (2401, 2425, 8)), ((806, 806), (2402, 2426, 8)), ((806, 806), (2403, 2427, 8)), ((806, 806), (2404, 2428, 8))], 2, 45, 0)
def kh_crew_a47 : an_T := (47, 0, ([((2, 805, 805, 0), none), ((0, 0, 11, 1), none), ((0, 1, 31, 1), none), ((0, 1, 4, 1), none)], [(0, 0), (1, 1), (2, 2), (3, 3)], [], [], [], [], [], [510], none), [])
def kh_crew_a78 : an_T := (78, 0, ([((2, 805, 805, 0), none), ((0, 0, 11, 1), none), ((0, 1, 31, 1), none), ((0, 1, 4, 1), none)], [(0, 0), (1, 1), (2, 2), (3, 3)], [3, 2, 1, 0], [], [], [], [], [510], none), [])
def kh_crew_a81 : an_T := (81, 0, ([((2, 805, 805, 0), none), ((0, 0, 11, 1), none), ((0, 1, 31, 1), none), ((0, 1, 4, 1), none)], [(0, 0), (1, 1), (2, 2), (3, 3)], [], [], [], [], [], [510], none), [])
def kh_crew_b0_0 : sg_T := (47, 0, ([((2, 805, 805, 0), none), ((0, 0, 11, 1), none), ((0, 1, 31, 1), none), ((0, 1, 4, 1), none), ((0, 0, 0, 0), none), ((0, 11, 11, 0), none), ((0, 1, 1, 0), none), ((0, 1, 1, 0), none), ((0, 0, 0, 0), none), ((0, 1, 1, 0), none), ((0, 31, 31, 0), none), ((0, 1, 1, 0), none), ((0, 1, 1, 0), none), ((0, 4, 4, 0), none), ((0, 1, 1, 0), none), ((0, 1, 1, 0), none), ((0, 2, 2, 0), none), ((0, 0, 0, 0), none)], [(0, 0), (1, 1), (2, 2), (3, 3)], [], [], [(14, 0), (11, 0)], [], [], [510], none))
def kh_crew_b0_1 : sg_T := (73, 0, ([((2, 805, 805, 0), none), ((0, 0, 11, 1), none), ((0, 1, 31, 1), none), ((0, (-2147483648), 2147483647, 1), none), ((0, 0, 0, 0), none), ((0, 11, 11, 0), none), ((0, 1, 1, 0), none), ((0, 1, 1, 0), none), ((0, 0, 0, 0), none), ((0, 1, 1, 0), none), ((0, 31, 31, 0), none), ((0, 1, 1, 0), none), ((0, 1, 1, 0), none), ((0, 4, 4, 0), none), ((0, 0, 0, 0), none), ((0, 0, 0, 0), none), ((0, 2, 2, 0), none), ((0, 1, 1, 0), none), ((0, 0, 0, 0), none)], [(0, 0), (1, 1), (2, 2), (3, 3)], [18], [], [(17, 0), (11, 0)], [], [], [510], none))
def kh_crew_b0_2 : sg_T := (73, 0, ([((2, 805, 805, 0), none), ((0, 0, 11, 1), none), ((0, (-2147483648), 2147483647, 1), none), ((0, (-2147483648), 2147483647, 1), none), ((0, 0, 0, 0), none), ((0, 11, 11, 0), none), ((0, 1, 1, 0), none), ((0, 1, 1, 0), none), ((0, 0, 0, 0), none), ((0, 1, 1, 0), none), ((0, 31, 31, 0), none), ((0, 0, 0, 0), none), ((0, 0, 0, 0), none), ((0, 2, 2, 0), none), ((0, 1, 1, 0), none), ((0, 0, 0, 0), none)], [(0, 0), (1, 1), (2, 2), (3, 3)], [15], [], [(14, 0)], [], [], [510], none))
def kh_crew_b0_3 : sg_T := (73, 0, ([((2, 805, 805, 0), none), ((0, (-2147483648), 2147483647, 1), none), ((0, (-2147483648), 2147483647, 1), none), ((0, (-2147483648), 2147483647, 1), none), ((0, 0, 0, 0), none), ((0, 11, 11, 0), none), ((0, 0, 0, 0), none), ((0, 1, 1, 0), none), ((0, 1, 1, 0), none), ((0, 0, 0, 0), none)], [(0, 0), (1, 1), (2, 2), (3, 3)], [9], [], [(8, 0)], [], [], [510], none))
def kh_crew_b47_0 : sg_T := (73, 0, ([((2, 805, 805, 0), none), ((0, 0, 11, 1), none), ((0, 1, 31, 1), none), ((0, 1, 4, 1), none), ((2, 806, 806, 1), none), ((0, 2400, 2400, 0), none), ((0, 4, 4, 1), none), ((0, 4, 4, 0), none), ((0, 0, 0, 0), none), ((0, 3, 3, 0), none), ((0, 1, 1, 0), none), ((0, 0, 0, 0), none)], [(0, 0), (1, 1), (2, 2), (3, 3)], [11], [(4, 5, 6)], [(10, 0)], [(200000, 7, 6), (800006, 4, 5)], [], [510], none))
def kh_crew_b47_1 : sg_T := (78, 0, ([((2, 805, 805, 0), none), ((0, 0, 11, 1), none), ((0, 1, 31, 1), none), ((0, 1, 4, 1), none), ((2, 806, 806, 1), none), ((0, 2400, 2400, 0), none), ((0, 2, 3, 1), none), ((0, 4, 4, 0), none), ((0, 1, 1, 0), none), ((0, 3, 3, 0), none), ((0, 0, 0, 0), none)], [(0, 0), (1, 1), (2, 2), (3, 3)], [3, 2, 1, 0], [(4, 5, 6)], [], [(100000, 6, 7), (800006, 4, 5)], [], [510], none))
def kh_crew_b78_0 : sg_T := (81, 0, ([((2, 805, 805, 0), none), ((0, 0, 11, 1), none), ((0, 1, 31, 1), none), ((0, 1, 4, 1), none)], [(0, 0), (1, 1), (2, 2), (3, 3)], [], [], [], [], [], [510], none))
def kh_crew_b81_0 : sg_T := (91, 0, ([((2, 805, 805, 0), none), ((0, 0, 11, 1), none), ((0, 1, 31, 1), none), ((0, 1, 4, 1), none), ((2, 806, 806, 1), none), ((0, 2400, 2400, 0), none), ((0, 2, 4, 1), none), ((0, 1, 1, 0), none), ((0, 1, 3, 1), some (6, (-1)))], [(0, 0), (1, 1), (2, 2), (3, 3)], [8], [(4, 5, 6)], [], [(600008, 6, 7), (800006, 4, 5)], [], [510], some []))
def kh_crew_I (l : Launch) (D : va_G) (tc : Nat → ClassId) (ad : Nat → Nat) (kd : Nat → Nat × Nat) (N : Nat) (sm : Nat → Nat) (xs : List av_X) (S : fw_S) (p : Program) (e : Env) (s : State) (m : MethodId) (args : Array Value) (below : List Frame) (meth : Method) (c : Code) (sz : Nat) (k : Nat) : Prop := (∀ (α : List av_X) (lv : List (Nat × Value)) (st : List Value) (S1 : fw_S), as_in ad sm wd_fl2 xs S kh_crew.2.2.2.2.2.1 α kh_crew_a47.2.2.1 lv st S1 → (True) → 9 < k → hd_W wd_fl2 kh_crew kh_crew_y l D tc ad kd N sm xs S p e s m args below meth c sz 47 lv st S1 0) ∧ (∀ (α : List av_X) (lv : List (Nat × Value)) (st : List Value) (S1 : fw_S), as_in ad sm wd_fl2 xs S kh_crew.2.2.2.2.2.1 α kh_crew_a78.2.2.1 lv st S1 → ((S1.1 806 2400).toInt ≤ 3) → 5 < k → hd_W wd_fl2 kh_crew kh_crew_y l D tc ad kd N sm xs S p e s m args below meth c sz 78 lv st S1 0) ∧ (∀ (α : List av_X) (lv : List (Nat × Value)) (st : List Value) (S1 : fw_S), as_in ad sm wd_fl2 xs S kh_crew.2.2.2.2.2.1 α kh_crew_a81.2.2.1 lv st S1 → (True) → 1 < k → hd_W wd_fl2 kh_crew kh_crew_y l D tc ad kd N sm xs S p e s m args below meth c sz 81 lv st S1 0) ∧ True
set_option maxHeartbeats 16000000 in
set_option maxRecDepth 8000 in
theorem kh_crew_h47 {l : Launch} {D : va_G} {tc : Nat → ClassId} {ad : Nat → Nat} {kd : Nat → Nat × Nat} {N : Nat} {sm : Nat → Nat} {xs : List av_X} {S : fw_S} {p : Program} {e : Env} {s : State} {m : MethodId} {args : Array Value} {below : List Frame} {meth : Method} {c : Code} {sz : Nat} {lvE : List (Nat × Value)} (G : hd_C wd_ff2 wd_fl2 kh_crew [kh_587, kh_588, kh_637, kh_638, kh_590, kh_591, kh_592, kh_639, kh_640] kh_crew_y l D tc ad kd N sm xs p s m args meth c sz) (H0 : as_in ad sm wd_fl2 xs S kh_crew.2.2.2.2.2.1 xs (hd_0 kh_crew) lvE [] S) {k : Nat} (ih : kh_crew_I l D tc ad kd N sm xs S p e s m args below meth c sz k) : (∀ (α : List av_X) (lv : List (Nat × Value)) (st : List Value) (S1 : fw_S), as_in ad sm wd_fl2 xs S kh_crew.2.2.2.2.2.1 α kh_crew_a47.2.2.1 lv st S1 → (True) → 9 < k + 1 → hd_W wd_fl2 kh_crew kh_crew_y l D tc ad kd N sm xs S p e s m args below meth c sz 47 lv st S1 0) := by
  have hx : xs.length = 4 := by rw [H0.2.1.1]; rfl
  intro α lv st S1 H hp hk
  obtain ⟨α1, hle, Hr⟩ := as_recM (pl := []) [((805, 805), (8, 8, 0))] (by decide +kernel) H
  have hf := H.2.2.2.2.2.2.2.2.2.2.1
  have hl1 : α1.length = 4 := by rw [Hr.2.1.1]; rfl
  have hl0 : α.length = 4 := by rw [H.2.1.1]; rfl
  have hxa : al_le xs α1 := H.1.trans hle
  obtain ⟨g1, -, g3, g4, -⟩ := as_fx Hr
  have g0 : (805 ≤ nv α1 0 ∧ nv α1 0 ≤ 805) ∧ (0 ≤ nv α1 1 ∧ nv α1 1 ≤ 11) ∧ (1 ≤ nv α1 2 ∧ nv α1 2 ≤ 31) ∧ (1 ≤ nv α1 3 ∧ nv α1 3 ≤ 4) ∧ True := by
    refine ⟨by have h := (en_nv (i := 0) Hr.2.1 rfl).2; exact h, by have h := (en_nv (i := 1) Hr.2.1 rfl).2; exact h, by have h := (en_nv (i := 2) Hr.2.1 rfl).2; exact h, by have h := (en_nv (i := 3) Hr.2.1 rfl).2; exact h, trivial⟩
  have r0 : nv α1 0 = nv α 0 := nv_le hle (by omega)
  have r1 : nv α1 1 = nv α 1 := nv_le hle (by omega)
  have r2 : nv α1 2 = nv α 2 := nv_le hle (by omega)
  have r3 : nv α1 3 = nv α 3 := nv_le hle (by omega)
  refine hd_segM G (na := 4) (fuel := 600) (first := true) (Bs := [kh_crew_b47_0, kh_crew_b47_1]) (by decide +kernel) hl1 Hr ?_
  intro q hq β lv' st' S' H1
  simp only [List.mem_cons, List.not_mem_nil, or_false] at hq
  rcases hq with rfl | rfl
  · obtain ⟨f1, f2, f3, f4, f5⟩ := as_fx H1
    simp only [kh_crew_b47_0, fx_env, fx_c, fx_ne, fx_hf, wl_S, Nat.zero_add, Nat.reduceAdd, Nat.reduceDiv, Nat.reduceMod, List.getElem?_cons_zero, List.getElem?_cons_succ, if_true, and_true, true_and] at f1 f2 f3 f4 f5
    have fe0 : nv β 0 = 805 := by omega
    have fe4 : nv β 4 = 806 := by omega
    have fe5 : nv β 5 = 2400 := by omega
    have fe6 : nv β 6 = 4 := by omega
    have fe7 : nv β 7 = 4 := by omega
    have fe8 : nv β 8 = 0 := by omega
    have fe9 : nv β 9 = 3 := by omega
    have fe10 : nv β 10 = 1 := by omega
    have fe11 : nv β 11 = 0 := by omega
    try simp only [fe0, fe4, fe5, fe6, fe7, fe8, fe9, fe10, fe11, Int.reduceToNat] at f2 f3 f4 f5
    have s0 : nv β 0 = nv α1 0 := nv_le H1.1 (by omega)
    have s1 : nv β 1 = nv α1 1 := nv_le H1.1 (by omega)
    have s2 : nv β 2 = nv α1 2 := nv_le H1.1 (by omega)
    have s3 : nv β 3 = nv α1 3 := nv_le H1.1 (by omega)
    obtain ⟨c0, c1⟩ := f2
    exact hd_run G (ss := []) (fuel := 20) (by decide +kernel) (as_backM H1 (by decide +kernel) hxa hf)
  · obtain ⟨f1, f2, f3, f4, f5⟩ := as_fx H1
    simp only [kh_crew_b47_1, fx_env, fx_c, fx_ne, fx_hf, wl_S, Nat.zero_add, Nat.reduceAdd, Nat.reduceDiv, Nat.reduceMod, List.getElem?_cons_zero, List.getElem?_cons_succ, if_true, and_true, true_and] at f1 f2 f3 f4 f5
    have fe0 : nv β 0 = 805 := by omega
    have fe4 : nv β 4 = 806 := by omega
    have fe5 : nv β 5 = 2400 := by omega
    have fe7 : nv β 7 = 4 := by omega
    have fe8 : nv β 8 = 1 := by omega
    have fe9 : nv β 9 = 3 := by omega
    have fe10 : nv β 10 = 0 := by omega
    try simp only [fe0, fe4, fe5, fe7, fe8, fe9, fe10, Int.reduceToNat] at f2 f3 f4 f5
    have s0 : nv β 0 = nv α1 0 := nv_le H1.1 (by omega)
    have s1 : nv β 1 = nv α1 1 := nv_le H1.1 (by omega)
    have s2 : nv β 2 = nv α1 2 := nv_le H1.1 (by omega)
    have s3 : nv β 3 = nv α1 3 := nv_le H1.1 (by omega)
    obtain ⟨c0, c1⟩ := f2
    obtain ⟨α', Ha, hm⟩ := hd_gpM (q := kh_crew_a78) (n := 0) (by decide +kernel) hx H1 (by decide +kernel) hxa hf
    have hfr := H1.2.2.2.2.2.2.2.2.2.2.1
    have m0 : nv α' 0 = nv β 0 := hm 0 0 rfl
    have m1 : nv α' 1 = nv β 1 := hm 1 1 rfl
    have m2 : nv α' 2 = nv β 2 := hm 2 2 rfl
    have m3 : nv α' 3 = nv β 3 := hm 3 3 rfl
    have o1 := old_0 c1 rfl
    refine ih.2.1 _ _ _ _ Ha ?_ ?_
    · rw [fr_pl hfr 806 2400 (by decide +kernel), o1]; omega
    · omega
set_option maxHeartbeats 16000000 in
set_option maxRecDepth 8000 in
theorem kh_crew_h78 {l : Launch} {D : va_G} {tc : Nat → ClassId} {ad : Nat → Nat} {kd : Nat → Nat × Nat} {N : Nat} {sm : Nat → Nat} {xs : List av_X} {S : fw_S} {p : Program} {e : Env} {s : State} {m : MethodId} {args : Array Value} {below : List Frame} {meth : Method} {c : Code} {sz : Nat} {lvE : List (Nat × Value)} (G : hd_C wd_ff2 wd_fl2 kh_crew [kh_587, kh_588, kh_637, kh_638, kh_590, kh_591, kh_592, kh_639, kh_640] kh_crew_y l D tc ad kd N sm xs p s m args meth c sz) (H0 : as_in ad sm wd_fl2 xs S kh_crew.2.2.2.2.2.1 xs (hd_0 kh_crew) lvE [] S) {k : Nat} (ih : kh_crew_I l D tc ad kd N sm xs S p e s m args below meth c sz k) : (∀ (α : List av_X) (lv : List (Nat × Value)) (st : List Value) (S1 : fw_S), as_in ad sm wd_fl2 xs S kh_crew.2.2.2.2.2.1 α kh_crew_a78.2.2.1 lv st S1 → ((S1.1 806 2400).toInt ≤ 3) → 5 < k + 1 → hd_W wd_fl2 kh_crew kh_crew_y l D tc ad kd N sm xs S p e s m args below meth c sz 78 lv st S1 0) := by
  have hx : xs.length = 4 := by rw [H0.2.1.1]; rfl
  intro α lv st S1 H hp hk
  obtain ⟨α1, hle, Hr⟩ := as_recM (pl := []) [((806, 806), (2400, 2400, 0)), ((806, 806), (2401, 2425, 8)), ((806, 806), (2402, 2426, 8)), ((806, 806), (2403, 2427, 8)), ((806, 806), (2404, 2428, 8))] (by decide +kernel) H
  have hf := H.2.2.2.2.2.2.2.2.2.2.1
  have hl1 : α1.length = 4 := by rw [Hr.2.1.1]; rfl
  have hl0 : α.length = 4 := by rw [H.2.1.1]; rfl
  have hxa : al_le xs α1 := H.1.trans hle
  obtain ⟨g1, -, g3, g4, -⟩ := as_fx Hr
  have g0 : (805 ≤ nv α1 0 ∧ nv α1 0 ≤ 805) ∧ (0 ≤ nv α1 1 ∧ nv α1 1 ≤ 11) ∧ (1 ≤ nv α1 2 ∧ nv α1 2 ≤ 31) ∧ (1 ≤ nv α1 3 ∧ nv α1 3 ≤ 4) ∧ True := by
    refine ⟨by have h := (en_nv (i := 0) Hr.2.1 rfl).2; exact h, by have h := (en_nv (i := 1) Hr.2.1 rfl).2; exact h, by have h := (en_nv (i := 2) Hr.2.1 rfl).2; exact h, by have h := (en_nv (i := 3) Hr.2.1 rfl).2; exact h, trivial⟩
  have r0 : nv α1 0 = nv α 0 := nv_le hle (by omega)
  have r1 : nv α1 1 = nv α 1 := nv_le hle (by omega)
  have r2 : nv α1 2 = nv α 2 := nv_le hle (by omega)
  have r3 : nv α1 3 = nv α 3 := nv_le hle (by omega)
  refine hd_callPN (Rr := R_any) (Rs := [kh_cHire]) (idx := 830) G (List.forall_mem_cons.mpr ⟨kh_cHire_okP, List.forall_mem_nil _⟩) (fun Cc hCc ys hnm => hp) (na := 4) (Bs := [kh_crew_b78_0]) (by decide +kernel) (by decide +kernel) hl1 Hr ?_
  intro q hq β lv' st' S' H1 hRx
  simp only [List.mem_cons, List.not_mem_nil, or_false] at hq
  rcases hq with rfl
  · obtain ⟨f1, f2, f3, f4, f5⟩ := as_fx H1
    simp only [kh_crew_b78_0, fx_env, fx_c, fx_ne, fx_hf, wl_S, Nat.zero_add, Nat.reduceAdd, Nat.reduceDiv, Nat.reduceMod, List.getElem?_cons_zero, List.getElem?_cons_succ, if_true, and_true, true_and] at f1 f2 f3 f4 f5
    have fe0 : nv β 0 = 805 := by omega
    try simp only [fe0, Int.reduceToNat] at f2 f3 f4 f5
    have s0 : nv β 0 = nv α1 0 := nv_le H1.1 (by omega)
    have s1 : nv β 1 = nv α1 1 := nv_le H1.1 (by omega)
    have s2 : nv β 2 = nv α1 2 := nv_le H1.1 (by omega)
    have s3 : nv β 3 = nv α1 3 := nv_le H1.1 (by omega)
    obtain ⟨α', Ha, hm⟩ := hd_gpM (q := kh_crew_a81) (n := 0) (by decide +kernel) hx H1 (by decide +kernel) hxa hf
    have hfr := H1.2.2.2.2.2.2.2.2.2.2.1
    have m0 : nv α' 0 = nv β 0 := hm 0 0 rfl
    have m1 : nv α' 1 = nv β 1 := hm 1 1 rfl
    have m2 : nv α' 2 = nv β 2 := hm 2 2 rfl
    have m3 : nv α' 3 = nv β 3 := hm 3 3 rfl
    refine ih.2.2.1 _ _ _ _ Ha ?_ ?_
    · trivial
    · omega
set_option maxHeartbeats 16000000 in
set_option maxRecDepth 8000 in
theorem kh_crew_h81 {l : Launch} {D : va_G} {tc : Nat → ClassId} {ad : Nat → Nat} {kd : Nat → Nat × Nat} {N : Nat} {sm : Nat → Nat} {xs : List av_X} {S : fw_S} {p : Program} {e : Env} {s : State} {m : MethodId} {args : Array Value} {below : List Frame} {meth : Method} {c : Code} {sz : Nat} {lvE : List (Nat × Value)} (G : hd_C wd_ff2 wd_fl2 kh_crew [kh_587, kh_588, kh_637, kh_638, kh_590, kh_591, kh_592, kh_639, kh_640] kh_crew_y l D tc ad kd N sm xs p s m args meth c sz) (H0 : as_in ad sm wd_fl2 xs S kh_crew.2.2.2.2.2.1 xs (hd_0 kh_crew) lvE [] S) {k : Nat} (ih : kh_crew_I l D tc ad kd N sm xs S p e s m args below meth c sz k) : (∀ (α : List av_X) (lv : List (Nat × Value)) (st : List Value) (S1 : fw_S), as_in ad sm wd_fl2 xs S kh_crew.2.2.2.2.2.1 α kh_crew_a81.2.2.1 lv st S1 → (True) → 1 < k + 1 → hd_W wd_fl2 kh_crew kh_crew_y l D tc ad kd N sm xs S p e s m args below meth c sz 81 lv st S1 0) := by
  have hx : xs.length = 4 := by rw [H0.2.1.1]; rfl
  intro α lv st S1 H hp hk
  obtain ⟨α1, hle, Hr⟩ := as_recM (pl := []) [] (by decide +kernel) H
  have hf := H.2.2.2.2.2.2.2.2.2.2.1
  have hl1 : α1.length = 4 := by rw [Hr.2.1.1]; rfl
  have hl0 : α.length = 4 := by rw [H.2.1.1]; rfl
  have hxa : al_le xs α1 := H.1.trans hle
  obtain ⟨g1, -, g3, g4, -⟩ := as_fx Hr
  have g0 : (805 ≤ nv α1 0 ∧ nv α1 0 ≤ 805) ∧ (0 ≤ nv α1 1 ∧ nv α1 1 ≤ 11) ∧ (1 ≤ nv α1 2 ∧ nv α1 2 ≤ 31) ∧ (1 ≤ nv α1 3 ∧ nv α1 3 ≤ 4) ∧ True := by
    refine ⟨by have h := (en_nv (i := 0) Hr.2.1 rfl).2; exact h, by have h := (en_nv (i := 1) Hr.2.1 rfl).2; exact h, by have h := (en_nv (i := 2) Hr.2.1 rfl).2; exact h, by have h := (en_nv (i := 3) Hr.2.1 rfl).2; exact h, trivial⟩
  have r0 : nv α1 0 = nv α 0 := nv_le hle (by omega)
  have r1 : nv α1 1 = nv α 1 := nv_le hle (by omega)
  have r2 : nv α1 2 = nv α 2 := nv_le hle (by omega)
  have r3 : nv α1 3 = nv α 3 := nv_le hle (by omega)
  refine hd_segM G (na := 4) (fuel := 600) (first := true) (Bs := [kh_crew_b81_0]) (by decide +kernel) hl1 Hr ?_
  intro q hq β lv' st' S' H1
  simp only [List.mem_cons, List.not_mem_nil, or_false] at hq
  rcases hq with rfl
  · obtain ⟨f1, f2, f3, f4, f5⟩ := as_fx H1
    simp only [kh_crew_b81_0, fx_env, fx_c, fx_ne, fx_hf, wl_S, Nat.zero_add, Nat.reduceAdd, Nat.reduceDiv, Nat.reduceMod, List.getElem?_cons_zero, List.getElem?_cons_succ, if_true, and_true, true_and] at f1 f2 f3 f4 f5
    have fe0 : nv β 0 = 805 := by omega
    have fe4 : nv β 4 = 806 := by omega
    have fe5 : nv β 5 = 2400 := by omega
    have fe7 : nv β 7 = 1 := by omega
    try simp only [fe0, fe4, fe5, fe7, Int.reduceToNat] at f2 f3 f4 f5
    have s0 : nv β 0 = nv α1 0 := nv_le H1.1 (by omega)
    have s1 : nv β 1 = nv α1 1 := nv_le H1.1 (by omega)
    have s2 : nv β 2 = nv α1 2 := nv_le H1.1 (by omega)
    have s3 : nv β 3 = nv α1 3 := nv_le H1.1 (by omega)
    obtain ⟨c0, c1⟩ := f2
    exact hd_run G (ss := []) (fuel := 20) (by decide +kernel) (as_backM H1 (by decide +kernel) hxa hf)
set_option maxHeartbeats 16000000 in
set_option maxRecDepth 8000 in
theorem kh_crew_ok : ct_ok wd_fl2 kh_crew := ct_hand (ff := wd_ff2) (y := kh_crew_y) (Cs := [kh_587, kh_588, kh_637, kh_638, kh_590, kh_591, kh_592, kh_639, kh_640]) wd_fl2_ok rfl (List.forall_mem_cons.mpr ⟨kh_587_ok, (List.forall_mem_cons.mpr ⟨kh_588_ok, (List.forall_mem_cons.mpr ⟨kh_637_ok, (List.forall_mem_cons.mpr ⟨kh_638_ok, (List.forall_mem_cons.mpr ⟨kh_590_ok, (List.forall_mem_cons.mpr ⟨kh_591_ok, (List.forall_mem_cons.mpr ⟨kh_592_ok, (List.forall_mem_cons.mpr ⟨kh_639_ok, (List.forall_mem_cons.mpr ⟨kh_640_ok, (List.forall_mem_nil _)⟩)⟩)⟩)⟩)⟩)⟩)⟩)⟩)⟩) (by decide +kernel) (fun l D tc ad kd N sm xs S p e s m args below meth c sz lv G H0 => by
  have hx : xs.length = 4 := by rw [H0.2.1.1]; rfl
  have hP : ∀ (k : Nat), kh_crew_I l D tc ad kd N sm xs S p e s m args below meth c sz k := by
    intro k
    induction k with
    | zero => exact ⟨fun _ _ _ _ _ _ h => absurd h (Nat.not_lt_zero _), fun _ _ _ _ _ _ h => absurd h (Nat.not_lt_zero _), fun _ _ _ _ _ _ h => absurd h (Nat.not_lt_zero _), trivial⟩
    | succ k ih => exact ⟨kh_crew_h47 G H0 ih, kh_crew_h78 G H0 ih, kh_crew_h81 G H0 ih, trivial⟩
  obtain ⟨α1, hle, Hr⟩ := as_recM (pl := []) [((805, 805), (8, 8, 0))] (by decide +kernel) H0
  have hf := H0.2.2.2.2.2.2.2.2.2.2.1
  have hl1 : α1.length = 4 := by rw [Hr.2.1.1]; rfl
  have hl0 : xs.length = 4 := by rw [H0.2.1.1]; rfl
  have hxa : al_le xs α1 := H0.1.trans hle
  obtain ⟨g1, -, g3, g4, -⟩ := as_fx Hr
  have g0 : (805 ≤ nv α1 0 ∧ nv α1 0 ≤ 805) ∧ ((-2147483648) ≤ nv α1 1 ∧ nv α1 1 ≤ 2147483647) ∧ ((-2147483648) ≤ nv α1 2 ∧ nv α1 2 ≤ 2147483647) ∧ ((-2147483648) ≤ nv α1 3 ∧ nv α1 3 ≤ 2147483647) ∧ True := by
    refine ⟨by have h := (en_nv (i := 0) Hr.2.1 rfl).2; exact h, by have h := (en_nv (i := 1) Hr.2.1 rfl).2; exact h, by have h := (en_nv (i := 2) Hr.2.1 rfl).2; exact h, by have h := (en_nv (i := 3) Hr.2.1 rfl).2; exact h, trivial⟩
  have r0 : nv α1 0 = nv xs 0 := nv_le hle (by omega)
  have r1 : nv α1 1 = nv xs 1 := nv_le hle (by omega)
  have r2 : nv α1 2 = nv xs 2 := nv_le hle (by omega)
  have r3 : nv α1 3 = nv xs 3 := nv_le hle (by omega)
  refine hd_segM G (na := 4) (fuel := 600) (first := true) (Bs := [kh_crew_b0_0, kh_crew_b0_1, kh_crew_b0_2, kh_crew_b0_3]) (by decide +kernel) hl1 Hr ?_
  intro q hq β lv' st' S' H1
  simp only [List.mem_cons, List.not_mem_nil, or_false] at hq
  rcases hq with rfl | rfl | rfl | rfl
  · obtain ⟨f1, f2, f3, f4, f5⟩ := as_fx H1
    simp only [kh_crew_b0_0, fx_env, fx_c, fx_ne, fx_hf, wl_S, Nat.zero_add, Nat.reduceAdd, Nat.reduceDiv, Nat.reduceMod, List.getElem?_cons_zero, List.getElem?_cons_succ, if_true, and_true, true_and] at f1 f2 f3 f4 f5
    have fe0 : nv β 0 = 805 := by omega
    have fe4 : nv β 4 = 0 := by omega
    have fe5 : nv β 5 = 11 := by omega
    have fe6 : nv β 6 = 1 := by omega
    have fe7 : nv β 7 = 1 := by omega
    have fe8 : nv β 8 = 0 := by omega
    have fe9 : nv β 9 = 1 := by omega
    have fe10 : nv β 10 = 31 := by omega
    have fe11 : nv β 11 = 1 := by omega
    have fe12 : nv β 12 = 1 := by omega
    have fe13 : nv β 13 = 4 := by omega
    have fe14 : nv β 14 = 1 := by omega
    have fe15 : nv β 15 = 1 := by omega
    have fe16 : nv β 16 = 2 := by omega
    have fe17 : nv β 17 = 0 := by omega
    try simp only [fe0, fe4, fe5, fe6, fe7, fe8, fe9, fe10, fe11, fe12, fe13, fe14, fe15, fe16, fe17, Int.reduceToNat] at f2 f3 f4 f5
    have s0 : nv β 0 = nv α1 0 := nv_le H1.1 (by omega)
    have s1 : nv β 1 = nv α1 1 := nv_le H1.1 (by omega)
    have s2 : nv β 2 = nv α1 2 := nv_le H1.1 (by omega)
    have s3 : nv β 3 = nv α1 3 := nv_le H1.1 (by omega)
    obtain ⟨α', Ha, hm⟩ := hd_gpM (q := kh_crew_a47) (n := 0) (by decide +kernel) hx H1 (by decide +kernel) hxa hf
    have hfr := H1.2.2.2.2.2.2.2.2.2.2.1
    have m0 : nv α' 0 = nv β 0 := hm 0 0 rfl
    have m1 : nv α' 1 = nv β 1 := hm 1 1 rfl
    have m2 : nv α' 2 = nv β 2 := hm 2 2 rfl
    have m3 : nv α' 3 = nv β 3 := hm 3 3 rfl
    refine (hP _).1 _ _ _ _ Ha ?_ (Nat.lt_succ_self _)
    · trivial
  · obtain ⟨f1, f2, f3, f4, f5⟩ := as_fx H1
    simp only [kh_crew_b0_1, fx_env, fx_c, fx_ne, fx_hf, wl_S, Nat.zero_add, Nat.reduceAdd, Nat.reduceDiv, Nat.reduceMod, List.getElem?_cons_zero, List.getElem?_cons_succ, if_true, and_true, true_and] at f1 f2 f3 f4 f5
    have fe0 : nv β 0 = 805 := by omega
    have fe4 : nv β 4 = 0 := by omega
    have fe5 : nv β 5 = 11 := by omega
    have fe6 : nv β 6 = 1 := by omega
    have fe7 : nv β 7 = 1 := by omega
    have fe8 : nv β 8 = 0 := by omega
    have fe9 : nv β 9 = 1 := by omega
    have fe10 : nv β 10 = 31 := by omega
    have fe11 : nv β 11 = 1 := by omega
    have fe12 : nv β 12 = 1 := by omega
    have fe13 : nv β 13 = 4 := by omega
    have fe14 : nv β 14 = 0 := by omega
    have fe15 : nv β 15 = 0 := by omega
    have fe16 : nv β 16 = 2 := by omega
    have fe17 : nv β 17 = 1 := by omega
    have fe18 : nv β 18 = 0 := by omega
    try simp only [fe0, fe4, fe5, fe6, fe7, fe8, fe9, fe10, fe11, fe12, fe13, fe14, fe15, fe16, fe17, fe18, Int.reduceToNat] at f2 f3 f4 f5
    have s0 : nv β 0 = nv α1 0 := nv_le H1.1 (by omega)
    have s1 : nv β 1 = nv α1 1 := nv_le H1.1 (by omega)
    have s2 : nv β 2 = nv α1 2 := nv_le H1.1 (by omega)
    have s3 : nv β 3 = nv α1 3 := nv_le H1.1 (by omega)
    exact hd_run G (ss := []) (fuel := 20) (by decide +kernel) (as_backM H1 (by decide +kernel) hxa hf)
  · obtain ⟨f1, f2, f3, f4, f5⟩ := as_fx H1
    simp only [kh_crew_b0_2, fx_env, fx_c, fx_ne, fx_hf, wl_S, Nat.zero_add, Nat.reduceAdd, Nat.reduceDiv, Nat.reduceMod, List.getElem?_cons_zero, List.getElem?_cons_succ, if_true, and_true, true_and] at f1 f2 f3 f4 f5
    have fe0 : nv β 0 = 805 := by omega
    have fe4 : nv β 4 = 0 := by omega
    have fe5 : nv β 5 = 11 := by omega
    have fe6 : nv β 6 = 1 := by omega
    have fe7 : nv β 7 = 1 := by omega
    have fe8 : nv β 8 = 0 := by omega
    have fe9 : nv β 9 = 1 := by omega
    have fe10 : nv β 10 = 31 := by omega
    have fe11 : nv β 11 = 0 := by omega
    have fe12 : nv β 12 = 0 := by omega
    have fe13 : nv β 13 = 2 := by omega
    have fe14 : nv β 14 = 1 := by omega
    have fe15 : nv β 15 = 0 := by omega
    try simp only [fe0, fe4, fe5, fe6, fe7, fe8, fe9, fe10, fe11, fe12, fe13, fe14, fe15, Int.reduceToNat] at f2 f3 f4 f5
    have s0 : nv β 0 = nv α1 0 := nv_le H1.1 (by omega)
    have s1 : nv β 1 = nv α1 1 := nv_le H1.1 (by omega)
    have s2 : nv β 2 = nv α1 2 := nv_le H1.1 (by omega)
    have s3 : nv β 3 = nv α1 3 := nv_le H1.1 (by omega)
    exact hd_run G (ss := []) (fuel := 20) (by decide +kernel) (as_backM H1 (by decide +kernel) hxa hf)
  · obtain ⟨f1, f2, f3, f4, f5⟩ := as_fx H1
    simp only [kh_crew_b0_3, fx_env, fx_c, fx_ne, fx_hf, wl_S, Nat.zero_add, Nat.reduceAdd, Nat.reduceDiv, Nat.reduceMod, List.getElem?_cons_zero, List.getElem?_cons_succ, if_true, and_true, true_and] at f1 f2 f3 f4 f5
    have fe0 : nv β 0 = 805 := by omega
    have fe4 : nv β 4 = 0 := by omega
    have fe5 : nv β 5 = 11 := by omega
    have fe6 : nv β 6 = 0 := by omega
    have fe7 : nv β 7 = 1 := by omega
    have fe8 : nv β 8 = 1 := by omega
    have fe9 : nv β 9 = 0 := by omega
    try simp only [fe0, fe4, fe5, fe6, fe7, fe8, fe9, Int.reduceToNat] at f2 f3 f4 f5
    have s0 : nv β 0 = nv α1 0 := nv_le H1.1 (by omega)
    have s1 : nv β 1 = nv α1 1 := nv_le H1.1 (by omega)
    have s2 : nv β 2 = nv α1 2 := nv_le H1.1 (by omega)
    have s3 : nv β 3 = nv α1 3 := nv_le H1.1 (by omega)
    exact hd_run G (ss := []) (fuel := 20) (by decide +kernel) (as_backM H1 (by decide +kernel) hxa hf))
