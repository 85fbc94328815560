/-! ===== what crews do ===== -/
theorem fr_pg {mod : List md_T} {S S' : fw_S} (h : fr_in mod S S') (c : Nat) (p : Nat × Nat × Nat) (hc : mod.all (fun d => md_off d c c p) = true) {j : Nat} (hj : pg_in p j) : S'.1 c j = S.1 c j := (h.1 c j (fun g => by
  obtain ⟨d, d1, d2, d3, d4⟩ := g
  exact md_off_in (List.all_eq_true.mp hc d d1) (Nat.le_refl _) (Nat.le_refl _) hj d2 d3 d4)).1
/-- a crew's job, where crews' jobs aren't written -/
theorem fr_mck {mod : List md_T} {S S' : fw_S} (h : fr_in mod S S') (hc : mod.all (fun d => md_off d 806 806 (2404, 2428, 8)) = true) {k : Nat} (hk : k < 4) : mck (S'.1 806) k 3 = mck (S.1 806) k 3 := by
  unfold mck
  rw [fr_pg h 806 _ hc (pg_mk (by omega) (by omega) (by omega))]
theorem fI_e {S S1 : fw_S} {to : Int} (e6 : S1.1 806 = S.1 806) : ∀ n : Nat, fI S1 to n = fI S to n
  | 0 => rfl
  | n + 1 => by
    show fstep S1 _ _ (fI S1 to n) = fstep S _ _ (fI S to n)
    rw [fI_e e6 n]
    unfold fstep
    by_cases h : clP S ((n % 17 : Nat) : Int)
    · rw [if_pos h, if_pos ((clP_e e6).mpr h)]
    · rw [if_neg h, if_neg (fun q => h ((clP_e e6).mp q))]
abbrev kh_cMoves_y : mt_T := (⟨"UtilityWorksModel", "cMoves", "(I)V"⟩, prog_14_method_286_code, 6, none, 12, 1, 1, 33160, 33159, 7012, 21014)
def kh_cMoves : ct_T := (406, [(2, 805, 805, 0), (0, 0, 3, 1)], [], [510], [(0, (0, 0, 0, 0), [(2, 805, 805, 0), (0, 0, 3, 1)], [], ([510], []))], [((806, 806), (2401, 2425, 8)), ((814, 814), (0, 11, 1))], 5, 112, 0)
def kh_cMoves_a22 : an_T := (22, 0, ([((2, 805, 805, 0), none), ((0, 0, 3, 1), none), ((0, 0, 11, 1), none), ((0, (-1), 199, 1), none)], [(0, 0), (1, 1), (2, 2)], [3, 0], [], [], [], [], [510], none), [])
def kh_cMoves_a38 : an_T := (38, 0, ([((2, 805, 805, 0), none), ((0, 0, 3, 1), none), ((0, 0, 11, 1), none), ((0, 0, 11, 1), none), ((0, 0, 11, 1), none), ((0, 0, 11, 1), none)], [(0, 0), (1, 1), (2, 2), (3, 3)], [4, 5, 0], [], [], [], [], [510], none), [])
def kh_cMoves_a41 : an_T := (41, 0, ([((2, 805, 805, 0), none), ((0, 0, 3, 1), none), ((0, 0, 11, 1), none), ((0, 0, 11, 1), none), ((0, (-1), 12, 1), none)], [(0, 0), (1, 1), (2, 2), (3, 3)], [4], [], [], [], [], [510], none), [])
def kh_cMoves_a87 : an_T := (87, 0, ([((2, 805, 805, 0), none), ((0, 0, 3, 1), none), ((0, 0, 11, 1), none), ((0, 0, 11, 1), none), ((0, 0, 12, 1), none), ((0, 0, 4, 1), none), ((0, 0, 4, 1), none), ((0, 0, 11, 1), none), ((0, 0, 11, 1), none), ((0, 2401, 2425, 8), none), ((2, 806, 806, 1), none)], [(0, 0), (1, 1), (2, 2), (3, 3), (4, 4), (5, 5)], [6, 7, 8, 0, 9, 10], [], [], [], [], [510], none), [])
def kh_cMoves_a90 : an_T := (90, 0, ([((2, 805, 805, 0), none), ((0, 0, 3, 1), none), ((0, 0, 11, 1), none), ((0, 0, 11, 1), none), ((0, 0, 12, 1), none), ((0, 0, 4, 1), none), ((0, (-1), 11, 1), none), ((0, 2401, 2425, 8), none), ((2, 806, 806, 1), none)], [(0, 0), (1, 1), (2, 2), (3, 3), (4, 4), (5, 5)], [6, 7, 8], [], [], [], [], [510], none), [])
def kh_cMoves_b0_0 : sg_T := (22, 0, ([((2, 805, 805, 0), none), ((0, 0, 3, 1), none), ((2, 806, 806, 1), none), ((0, 0, 0, 0), none), ((0, 2401, 2425, 8), none), ((0, 0, 11, 1), none), ((2, 806, 806, 1), none), ((0, 3, 3, 0), none), ((0, 2404, 2428, 8), none), ((0, (-1), 199, 1), none)], [(2, 5), (0, 0), (1, 1)], [9, 0], [(6, 8, 9), (2, 4, 5)], [], [(800009, 6, 8), (1300008, 1, 7), (800005, 2, 4), (1300004, 1, 3)], [], [510], some []))
def kh_cMoves_b22_0 : sg_T := (38, 0, ([((2, 805, 805, 0), none), ((0, 0, 3, 1), none), ((0, 0, 11, 1), none), ((0, 0, 199, 1), none), ((0, 0, 11, 1), none)], [(3, 4), (0, 0), (1, 1), (2, 2)], [4, 2, 0], [], [], [(400000, 2, 4)], [], [510], some []))
def kh_cMoves_b22_1 : sg_T := (41, 0, ([((2, 805, 805, 0), none), ((0, 0, 3, 1), none), ((0, 0, 11, 1), none), ((0, 0, 199, 1), none), ((0, 0, 11, 1), none), ((0, (-1), (-1), 0), none)], [(3, 4), (0, 0), (1, 1), (2, 2)], [5], [], [], [(300000, 2, 4)], [], [510], some []))
def kh_cMoves_b38_0 : sg_T := (41, 0, ([((2, 805, 805, 0), none), ((0, 0, 3, 1), none), ((0, 0, 11, 1), none), ((0, 0, 11, 1), none), ((0, 0, 11, 1), none), ((0, 0, 11, 1), none), ((0, (-1), 12, 1), none)], [(0, 0), (1, 1), (2, 2), (3, 3)], [6], [], [], [], [], [510], none))
def kh_cMoves_b41_0 : sg_T := (91, 0, ([((2, 805, 805, 0), none), ((0, 0, 3, 1), none), ((0, 0, 11, 1), none), ((0, 0, 11, 1), none), ((0, (-1), (-1), 1), none), ((0, (-1), (-1), 0), none)], [(4, 4), (0, 0), (1, 1), (2, 2), (3, 3)], [], [], [], [(300000, 4, 5)], [], [510], some []))
def kh_cMoves_b41_1 : sg_T := (87, 0, ([((2, 805, 805, 0), none), ((0, 0, 3, 1), none), ((0, 0, 11, 1), none), ((0, 0, 11, 1), none), ((0, 0, 4, 1), none), ((0, (-1), (-1), 0), none), ((2, 806, 806, 1), none), ((0, 2, 2, 0), none), ((0, 2403, 2427, 8), none), ((0, 0, 4, 1), none), ((2, 806, 806, 1), none), ((0, 0, 0, 0), none), ((0, 2401, 2425, 8), none)], [(5, 9), (4, 4), (0, 0), (1, 1), (2, 2), (3, 3)], [4, 3, 2, 0, 12, 10], [(6, 8, 9)], [(4, (-1))], [(200000, 4, 9), (1300012, 1, 11), (800009, 6, 8), (1300008, 1, 7), (400000, 4, 5)], [], [510], some []))
def kh_cMoves_b41_2 : sg_T := (87, 0, ([((2, 805, 805, 0), none), ((0, 0, 3, 1), none), ((0, 0, 11, 1), none), ((0, 0, 11, 1), none), ((0, 1, 12, 1), none), ((0, (-1), (-1), 0), none), ((2, 806, 806, 1), none), ((0, 2, 2, 0), none), ((0, 2403, 2427, 8), none), ((0, 0, 4, 1), none), ((2, 806, 806, 1), none), ((0, 0, 0, 0), none), ((0, 2401, 2425, 8), none)], [(5, 9), (4, 4), (0, 0), (1, 1), (2, 2), (3, 3)], [9, 3, 2, 0, 12, 10], [(6, 8, 9)], [(4, (-1))], [(100000, 9, 4), (1300012, 1, 11), (800009, 6, 8), (1300008, 1, 7), (400000, 4, 5)], [], [510], some []))
def kh_cMoves_b87_0 : sg_T := (90, 0, ([((2, 805, 805, 0), none), ((0, 0, 3, 1), none), ((0, 0, 11, 1), none), ((0, 0, 11, 1), none), ((0, 0, 12, 1), none), ((0, 0, 4, 1), none), ((0, 0, 4, 1), none), ((0, 0, 11, 1), none), ((0, 0, 11, 1), none), ((0, 2401, 2425, 8), none), ((2, 806, 806, 1), none), ((0, (-1), 11, 1), none)], [(0, 0), (1, 1), (2, 2), (3, 3), (4, 4), (5, 5)], [11, 9, 10], [], [], [], [], [510], none))
def kh_cMoves_b90_0 : sg_T := (91, 0, ([((2, 805, 805, 0), none), ((0, 0, 3, 1), none), ((0, 0, 11, 1), none), ((0, 0, 11, 1), none), ((0, 0, 12, 1), none), ((0, 0, 4, 1), none), ((0, 0, 11, 1), none), ((0, 2401, 2425, 8), none), ((2, 806, 806, 1), none)], [(0, 0), (1, 1), (2, 2), (3, 3), (4, 4), (5, 5)], [], [(8, 7, 6)], [], [], [], [510], some [(8, 7, 6)]))
def kh_cMoves_I (l : Launch) (D : va_G) (tc : Nat → ClassId) (ad : Nat → Nat) (kd : Nat → Nat × Nat) (N : Nat) (sm : Nat → Nat) (xs : List av_X) (S : fw_S) (p : Program) (e : Env) (s : State) (m : MethodId) (args : Array Value) (below : List Frame) (meth : Method) (c : Code) (sz : Nat) (k : Nat) : Prop := (∀ (α : List av_X) (lv : List (Nat × Value)) (st : List Value) (S1 : fw_S), as_in ad sm wd_fl2 xs S kh_cMoves.2.2.2.2.2.1 α kh_cMoves_a22.2.2.1 lv st S1 → (S1.1 806 = S.1 806 ∧ 0 ≤ nv α 3) → 50 < k → hd_WR R_any wd_fl2 kh_cMoves kh_cMoves_y l D tc ad kd N sm xs S p e s m args below meth c sz 22 lv st S1 0) ∧ (∀ (α : List av_X) (lv : List (Nat × Value)) (st : List Value) (S1 : fw_S), as_in ad sm wd_fl2 xs S kh_cMoves.2.2.2.2.2.1 α kh_cMoves_a38.2.2.1 lv st S1 → (S1.1 806 = S.1 806 ∧ nv α 4 = nv α 3 ∧ nv α 5 = nv α 2) → 40 < k → hd_WR R_any wd_fl2 kh_cMoves kh_cMoves_y l D tc ad kd N sm xs S p e s m args below meth c sz 38 lv st S1 0) ∧ (∀ (α : List av_X) (lv : List (Nat × Value)) (st : List Value) (S1 : fw_S), as_in ad sm wd_fl2 xs S kh_cMoves.2.2.2.2.2.1 α kh_cMoves_a41.2.2.1 lv st S1 → (S1.1 806 = S.1 806 ∧ (nv α 4 = -1 ∨ nv α 4 = fI S (nv α 3) 204 (nv α 2).toNat)) → 30 < k → hd_WR R_any wd_fl2 kh_cMoves kh_cMoves_y l D tc ad kd N sm xs S p e s m args below meth c sz 41 lv st S1 0) ∧ (∀ (α : List av_X) (lv : List (Nat × Value)) (st : List Value) (S1 : fw_S), as_in ad sm wd_fl2 xs S kh_cMoves.2.2.2.2.2.1 α kh_cMoves_a87.2.2.1 lv st S1 → (S1.1 806 = S.1 806 ∧ fI S (nv α 7) 204 (nv α 8).toNat ≠ -1 ∧ nv α 6 ≤ fI S (nv α 7) 204 (nv α 8).toNat) → 20 < k → hd_WR R_any wd_fl2 kh_cMoves kh_cMoves_y l D tc ad kd N sm xs S p e s m args below meth c sz 87 lv st S1 0) ∧ (∀ (α : List av_X) (lv : List (Nat × Value)) (st : List Value) (S1 : fw_S), as_in ad sm wd_fl2 xs S kh_cMoves.2.2.2.2.2.1 α kh_cMoves_a90.2.2.1 lv st S1 → (0 ≤ nv α 6 ∧ nv α 6 ≤ 11) → 10 < k → hd_WR R_any wd_fl2 kh_cMoves kh_cMoves_y l D tc ad kd N sm xs S p e s m args below meth c sz 90 lv st S1 0) ∧ True
set_option maxHeartbeats 16000000 in
set_option maxRecDepth 8000 in
theorem kh_cMoves_h22 {l : Launch} {D : va_G} {tc : Nat → ClassId} {ad : Nat → Nat} {kd : Nat → Nat × Nat} {N : Nat} {sm : Nat → Nat} {xs : List av_X} {S : fw_S} {p : Program} {e : Env} {s : State} {m : MethodId} {args : Array Value} {below : List Frame} {meth : Method} {c : Code} {sz : Nat} {lvE : List (Nat × Value)} (G : hd_C wd_ff2 wd_fl2 kh_cMoves [kh_cC0, kh_cC3, kh_cSpot, kh_wayLength, kh_cC2, kh_wayStep] kh_cMoves_y l D tc ad kd N sm xs p s m args meth c sz) (H0 : as_in ad sm wd_fl2 xs S kh_cMoves.2.2.2.2.2.1 xs (hd_0 kh_cMoves) lvE [] S) (hpre : P_hasJob xs S) {k : Nat} (ih : kh_cMoves_I l D tc ad kd N sm xs S p e s m args below meth c sz k) : (∀ (α : List av_X) (lv : List (Nat × Value)) (st : List Value) (S1 : fw_S), as_in ad sm wd_fl2 xs S kh_cMoves.2.2.2.2.2.1 α kh_cMoves_a22.2.2.1 lv st S1 → (S1.1 806 = S.1 806 ∧ 0 ≤ nv α 3) → 50 < k + 1 → hd_WR R_any wd_fl2 kh_cMoves kh_cMoves_y l D tc ad kd N sm xs S p e s m args below meth c sz 22 lv st S1 0) := by
  have hx : xs.length = 2 := by rw [H0.2.1.1]; rfl
  intro α lv st S1 H hp hk
  have bp := (en_nv (i := 3) H.2.1 rfl).2
  change (-1) ≤ nv α 3 ∧ nv α 3 ≤ 199 at bp
  replace H := as_clamp (i := 3) (lo := 0) (hi := 199) H rfl rfl (by exact hp.2) (by omega) (by decide)
  obtain ⟨α1, hle, Hr⟩ := as_recM (pl := []) [] (by decide +kernel) H
  have hf := H.2.2.2.2.2.2.2.2.2.2.1
  have hl1 : α1.length = 4 := by rw [Hr.2.1.1]; rfl
  have hl0 : α.length = 4 := by rw [H.2.1.1]; rfl
  have hxa : al_le xs α1 := H.1.trans hle
  obtain ⟨g1, -, g3, g4, -⟩ := as_fx Hr
  have g0 : (805 ≤ nv α1 0 ∧ nv α1 0 ≤ 805) ∧ (0 ≤ nv α1 1 ∧ nv α1 1 ≤ 3) ∧ (0 ≤ nv α1 2 ∧ nv α1 2 ≤ 11) ∧ (0 ≤ nv α1 3 ∧ nv α1 3 ≤ 199) ∧ True := by
    refine ⟨by have h := (en_nv (i := 0) Hr.2.1 rfl).2; exact h, by have h := (en_nv (i := 1) Hr.2.1 rfl).2; exact h, by have h := (en_nv (i := 2) Hr.2.1 rfl).2; exact h, by have h := (en_nv (i := 3) Hr.2.1 rfl).2; exact h, trivial⟩
  have r0 : nv α1 0 = nv α 0 := nv_le hle (by omega)
  have r1 : nv α1 1 = nv α 1 := nv_le hle (by omega)
  have r2 : nv α1 2 = nv α 2 := nv_le hle (by omega)
  have r3 : nv α1 3 = nv α 3 := nv_le hle (by omega)
  refine hd_segMR G (na := 4) (fuel := 600) (first := true) (Bs := [kh_cMoves_b22_0, kh_cMoves_b22_1]) (by decide +kernel) hl1 Hr ?_
  intro q hq β lv' st' S' H1
  simp only [List.mem_cons, List.not_mem_nil, or_false] at hq
  rcases hq with rfl | rfl
  · obtain ⟨f1, f2, f3, f4, f5⟩ := as_fx H1
    simp only [kh_cMoves_b22_0, fx_env, fx_c, fx_ne, fx_hf, wl_S, Nat.zero_add, Nat.reduceAdd, Nat.reduceDiv, Nat.reduceMod, List.getElem?_cons_zero, List.getElem?_cons_succ, if_true, and_true, true_and] at f1 f2 f3 f4 f5
    have fe0 : nv β 0 = 805 := by omega
    try simp only [fe0, Int.reduceToNat] at f2 f3 f4 f5
    have s0 : nv β 0 = nv α1 0 := nv_le H1.1 (by omega)
    have s1 : nv β 1 = nv α1 1 := nv_le H1.1 (by omega)
    have s2 : nv β 2 = nv α1 2 := nv_le H1.1 (by omega)
    have s3 : nv β 3 = nv α1 3 := nv_le H1.1 (by omega)
    have c0 := f2
    obtain ⟨α', Ha, hm⟩ := hd_gpM (q := kh_cMoves_a38) (n := 0) (by decide +kernel) hx H1 (by decide +kernel) hxa hf
    have hfr := H1.2.2.2.2.2.2.2.2.2.2.1
    have m0 : nv α' 0 = nv β 0 := hm 0 0 rfl
    have m1 : nv α' 1 = nv β 1 := hm 1 1 rfl
    have m2 : nv α' 2 = nv β 2 := hm 2 2 rfl
    have m3 : nv α' 3 = nv β 4 := hm 3 4 rfl
    have m4 : nv α' 4 = nv β 4 := hm 4 4 rfl
    have m5 : nv α' 5 = nv β 2 := hm 5 2 rfl
    have e6' : S'.1 806 = S1.1 806 := by first | rw [f5] | exact fr_row hfr 806 (by decide +kernel)
    refine ih.2.1 _ _ _ _ Ha ?_ ?_
    · rw [m4, m3, m5, m2]
      exact ⟨e6'.trans hp.1, rfl, rfl⟩
    · omega
  · obtain ⟨f1, f2, f3, f4, f5⟩ := as_fx H1
    simp only [kh_cMoves_b22_1, fx_env, fx_c, fx_ne, fx_hf, wl_S, Nat.zero_add, Nat.reduceAdd, Nat.reduceDiv, Nat.reduceMod, List.getElem?_cons_zero, List.getElem?_cons_succ, if_true, and_true, true_and] at f1 f2 f3 f4 f5
    have fe0 : nv β 0 = 805 := by omega
    have fe5 : nv β 5 = (-1) := by omega
    try simp only [fe0, fe5, Int.reduceToNat] at f2 f3 f4 f5
    have s0 : nv β 0 = nv α1 0 := nv_le H1.1 (by omega)
    have s1 : nv β 1 = nv α1 1 := nv_le H1.1 (by omega)
    have s2 : nv β 2 = nv α1 2 := nv_le H1.1 (by omega)
    have s3 : nv β 3 = nv α1 3 := nv_le H1.1 (by omega)
    have c0 := f2
    obtain ⟨α', Ha, hm⟩ := hd_gpM (q := kh_cMoves_a41) (n := 0) (by decide +kernel) hx H1 (by decide +kernel) hxa hf
    have hfr := H1.2.2.2.2.2.2.2.2.2.2.1
    have m0 : nv α' 0 = nv β 0 := hm 0 0 rfl
    have m1 : nv α' 1 = nv β 1 := hm 1 1 rfl
    have m2 : nv α' 2 = nv β 2 := hm 2 2 rfl
    have m3 : nv α' 3 = nv β 4 := hm 3 4 rfl
    have m4 : nv α' 4 = nv β 5 := hm 4 5 rfl
    have e6' : S'.1 806 = S1.1 806 := by first | rw [f5] | exact fr_row hfr 806 (by decide +kernel)
    refine ih.2.2.1 _ _ _ _ Ha ?_ ?_
    · exact ⟨e6'.trans hp.1, Or.inl (by omega)⟩
    · omega
set_option maxHeartbeats 16000000 in
set_option maxRecDepth 8000 in
theorem kh_cMoves_h38 {l : Launch} {D : va_G} {tc : Nat → ClassId} {ad : Nat → Nat} {kd : Nat → Nat × Nat} {N : Nat} {sm : Nat → Nat} {xs : List av_X} {S : fw_S} {p : Program} {e : Env} {s : State} {m : MethodId} {args : Array Value} {below : List Frame} {meth : Method} {c : Code} {sz : Nat} {lvE : List (Nat × Value)} (G : hd_C wd_ff2 wd_fl2 kh_cMoves [kh_cC0, kh_cC3, kh_cSpot, kh_wayLength, kh_cC2, kh_wayStep] kh_cMoves_y l D tc ad kd N sm xs p s m args meth c sz) (H0 : as_in ad sm wd_fl2 xs S kh_cMoves.2.2.2.2.2.1 xs (hd_0 kh_cMoves) lvE [] S) (hpre : P_hasJob xs S) {k : Nat} (ih : kh_cMoves_I l D tc ad kd N sm xs S p e s m args below meth c sz k) : (∀ (α : List av_X) (lv : List (Nat × Value)) (st : List Value) (S1 : fw_S), as_in ad sm wd_fl2 xs S kh_cMoves.2.2.2.2.2.1 α kh_cMoves_a38.2.2.1 lv st S1 → (S1.1 806 = S.1 806 ∧ nv α 4 = nv α 3 ∧ nv α 5 = nv α 2) → 40 < k + 1 → hd_WR R_any wd_fl2 kh_cMoves kh_cMoves_y l D tc ad kd N sm xs S p e s m args below meth c sz 38 lv st S1 0) := by
  have hx : xs.length = 2 := by rw [H0.2.1.1]; rfl
  intro α lv st S1 H hp hk
  obtain ⟨α1, hle, Hr⟩ := as_recM (pl := []) [((814, 814), (0, 11, 1))] (by decide +kernel) H
  have hf := H.2.2.2.2.2.2.2.2.2.2.1
  have hl1 : α1.length = 6 := by rw [Hr.2.1.1]; rfl
  have hl0 : α.length = 6 := by rw [H.2.1.1]; rfl
  have hxa : al_le xs α1 := H.1.trans hle
  obtain ⟨g1, -, g3, g4, -⟩ := as_fx Hr
  have g0 : (805 ≤ nv α1 0 ∧ nv α1 0 ≤ 805) ∧ (0 ≤ nv α1 1 ∧ nv α1 1 ≤ 3) ∧ (0 ≤ nv α1 2 ∧ nv α1 2 ≤ 11) ∧ (0 ≤ nv α1 3 ∧ nv α1 3 ≤ 11) ∧ (0 ≤ nv α1 4 ∧ nv α1 4 ≤ 11) ∧ (0 ≤ nv α1 5 ∧ nv α1 5 ≤ 11) ∧ True := by
    refine ⟨by have h := (en_nv (i := 0) Hr.2.1 rfl).2; exact h, by have h := (en_nv (i := 1) Hr.2.1 rfl).2; exact h, by have h := (en_nv (i := 2) Hr.2.1 rfl).2; exact h, by have h := (en_nv (i := 3) Hr.2.1 rfl).2; exact h, by have h := (en_nv (i := 4) Hr.2.1 rfl).2; exact h, by have h := (en_nv (i := 5) Hr.2.1 rfl).2; exact h, trivial⟩
  have r0 : nv α1 0 = nv α 0 := nv_le hle (by omega)
  have r1 : nv α1 1 = nv α 1 := nv_le hle (by omega)
  have r2 : nv α1 2 = nv α 2 := nv_le hle (by omega)
  have r3 : nv α1 3 = nv α 3 := nv_le hle (by omega)
  have r4 : nv α1 4 = nv α 4 := nv_le hle (by omega)
  have r5 : nv α1 5 = nv α 5 := nv_le hle (by omega)
  refine hd_callRR (Rr := R_wayLength) (Rs := [kh_wayLength]) (idx := 401) G (List.forall_mem_cons.mpr ⟨kh_wayLength_okR, List.forall_mem_nil _⟩) (na := 6) (Bs := [kh_cMoves_b38_0]) (by decide +kernel) (by decide +kernel) hl1 Hr ?_
  intro q hq β lv' st' S' H1 hRx
  simp only [List.mem_cons, List.not_mem_nil, or_false] at hq
  rcases hq with rfl
  · obtain ⟨f1, f2, f3, f4, f5⟩ := as_fx H1
    simp only [kh_cMoves_b38_0, fx_env, fx_c, fx_ne, fx_hf, wl_S, Nat.zero_add, Nat.reduceAdd, Nat.reduceDiv, Nat.reduceMod, List.getElem?_cons_zero, List.getElem?_cons_succ, if_true, and_true, true_and] at f1 f2 f3 f4 f5
    have fe0 : nv β 0 = 805 := by omega
    try simp only [fe0, Int.reduceToNat] at f2 f3 f4 f5
    have s0 : nv β 0 = nv α1 0 := nv_le H1.1 (by omega)
    have s1 : nv β 1 = nv α1 1 := nv_le H1.1 (by omega)
    have s2 : nv β 2 = nv α1 2 := nv_le H1.1 (by omega)
    have s3 : nv β 3 = nv α1 3 := nv_le H1.1 (by omega)
    have s4 : nv β 4 = nv α1 4 := nv_le H1.1 (by omega)
    have s5 : nv β 5 = nv α1 5 := nv_le H1.1 (by omega)
    obtain ⟨α', Ha, hm⟩ := hd_gpM (q := kh_cMoves_a41) (n := 0) (by decide +kernel) hx H1 (by decide +kernel) hxa hf
    have hfr := H1.2.2.2.2.2.2.2.2.2.2.1
    have m0 : nv α' 0 = nv β 0 := hm 0 0 rfl
    have m1 : nv α' 1 = nv β 1 := hm 1 1 rfl
    have m2 : nv α' 2 = nv β 2 := hm 2 2 rfl
    have m3 : nv α' 3 = nv β 3 := hm 3 3 rfl
    have m4 : nv α' 4 = nv β 6 := hm 4 6 rfl
    obtain ⟨Cc, hCc, ys, rr, hnm, hR, rest, hre⟩ := hRx
    rcases List.mem_singleton.mp hCc with rfl
    have y1 : nv ys 1 = nv α1 5 := nm_nv hnm (i := 1) (v := 5) rfl
    have y2 : nv ys 2 = nv α1 4 := nm_nv hnm (i := 2) (v := 4) rfl
    obtain ⟨⟨v, v1, v2⟩, R2⟩ := hR
    have hv := hd_rv H1 (i := 6) rfl rfl rfl hre (Sum.inl.inj v1)
    obtain ⟨e6, p2, p3⟩ := hp
    rw [hv, y1, y2, r5, r4, p2, p3, fI_e e6] at v2
    refine ih.2.2.1 _ _ _ _ Ha ?_ ?_
    · rw [m4, m3, m2, s2, r2, s3, r3]
      exact ⟨R2.trans e6, Or.inr v2⟩
    · omega
set_option maxHeartbeats 16000000 in
set_option maxRecDepth 8000 in
theorem kh_cMoves_h41 {l : Launch} {D : va_G} {tc : Nat → ClassId} {ad : Nat → Nat} {kd : Nat → Nat × Nat} {N : Nat} {sm : Nat → Nat} {xs : List av_X} {S : fw_S} {p : Program} {e : Env} {s : State} {m : MethodId} {args : Array Value} {below : List Frame} {meth : Method} {c : Code} {sz : Nat} {lvE : List (Nat × Value)} (G : hd_C wd_ff2 wd_fl2 kh_cMoves [kh_cC0, kh_cC3, kh_cSpot, kh_wayLength, kh_cC2, kh_wayStep] kh_cMoves_y l D tc ad kd N sm xs p s m args meth c sz) (H0 : as_in ad sm wd_fl2 xs S kh_cMoves.2.2.2.2.2.1 xs (hd_0 kh_cMoves) lvE [] S) (hpre : P_hasJob xs S) {k : Nat} (ih : kh_cMoves_I l D tc ad kd N sm xs S p e s m args below meth c sz k) : (∀ (α : List av_X) (lv : List (Nat × Value)) (st : List Value) (S1 : fw_S), as_in ad sm wd_fl2 xs S kh_cMoves.2.2.2.2.2.1 α kh_cMoves_a41.2.2.1 lv st S1 → (S1.1 806 = S.1 806 ∧ (nv α 4 = -1 ∨ nv α 4 = fI S (nv α 3) 204 (nv α 2).toNat)) → 30 < k + 1 → hd_WR R_any wd_fl2 kh_cMoves kh_cMoves_y l D tc ad kd N sm xs S p e s m args below meth c sz 41 lv st S1 0) := by
  have hx : xs.length = 2 := by rw [H0.2.1.1]; rfl
  intro α lv st S1 H hp hk
  obtain ⟨α1, hle, Hr⟩ := as_recM (pl := []) [] (by decide +kernel) H
  have hf := H.2.2.2.2.2.2.2.2.2.2.1
  have hl1 : α1.length = 5 := by rw [Hr.2.1.1]; rfl
  have hl0 : α.length = 5 := by rw [H.2.1.1]; rfl
  have hxa : al_le xs α1 := H.1.trans hle
  obtain ⟨g1, -, g3, g4, -⟩ := as_fx Hr
  have g0 : (805 ≤ nv α1 0 ∧ nv α1 0 ≤ 805) ∧ (0 ≤ nv α1 1 ∧ nv α1 1 ≤ 3) ∧ (0 ≤ nv α1 2 ∧ nv α1 2 ≤ 11) ∧ (0 ≤ nv α1 3 ∧ nv α1 3 ≤ 11) ∧ ((-1) ≤ nv α1 4 ∧ nv α1 4 ≤ 12) ∧ True := by
    refine ⟨by have h := (en_nv (i := 0) Hr.2.1 rfl).2; exact h, by have h := (en_nv (i := 1) Hr.2.1 rfl).2; exact h, by have h := (en_nv (i := 2) Hr.2.1 rfl).2; exact h, by have h := (en_nv (i := 3) Hr.2.1 rfl).2; exact h, by have h := (en_nv (i := 4) Hr.2.1 rfl).2; exact h, trivial⟩
  have r0 : nv α1 0 = nv α 0 := nv_le hle (by omega)
  have r1 : nv α1 1 = nv α 1 := nv_le hle (by omega)
  have r2 : nv α1 2 = nv α 2 := nv_le hle (by omega)
  have r3 : nv α1 3 = nv α 3 := nv_le hle (by omega)
  have r4 : nv α1 4 = nv α 4 := nv_le hle (by omega)
  refine hd_segMR G (na := 5) (fuel := 600) (first := true) (Bs := [kh_cMoves_b41_0, kh_cMoves_b41_1, kh_cMoves_b41_2]) (by decide +kernel) hl1 Hr ?_
  intro q hq β lv' st' S' H1
  simp only [List.mem_cons, List.not_mem_nil, or_false] at hq
  rcases hq with rfl | rfl | rfl
  · obtain ⟨f1, f2, f3, f4, f5⟩ := as_fx H1
    simp only [kh_cMoves_b41_0, fx_env, fx_c, fx_ne, fx_hf, wl_S, Nat.zero_add, Nat.reduceAdd, Nat.reduceDiv, Nat.reduceMod, List.getElem?_cons_zero, List.getElem?_cons_succ, if_true, and_true, true_and] at f1 f2 f3 f4 f5
    have fe0 : nv β 0 = 805 := by omega
    have fe4 : nv β 4 = (-1) := by omega
    have fe5 : nv β 5 = (-1) := by omega
    try simp only [fe0, fe4, fe5, Int.reduceToNat] at f2 f3 f4 f5
    have s0 : nv β 0 = nv α1 0 := nv_le H1.1 (by omega)
    have s1 : nv β 1 = nv α1 1 := nv_le H1.1 (by omega)
    have s2 : nv β 2 = nv α1 2 := nv_le H1.1 (by omega)
    have s3 : nv β 3 = nv α1 3 := nv_le H1.1 (by omega)
    have s4 : nv β 4 = nv α1 4 := nv_le H1.1 (by omega)
    have c0 := f2
    exact hd_retVR G (by decide +kernel) (as_backM H1 (by decide +kernel) hxa hf) (by decide +kernel) (by decide) trivial
  · obtain ⟨f1, f2, f3, f4, f5⟩ := as_fx H1
    simp only [kh_cMoves_b41_1, fx_env, fx_c, fx_ne, fx_hf, wl_S, Nat.zero_add, Nat.reduceAdd, Nat.reduceDiv, Nat.reduceMod, List.getElem?_cons_zero, List.getElem?_cons_succ, if_true, and_true, true_and] at f1 f2 f3 f4 f5
    have fe0 : nv β 0 = 805 := by omega
    have fe5 : nv β 5 = (-1) := by omega
    have fe6 : nv β 6 = 806 := by omega
    have fe7 : nv β 7 = 2 := by omega
    have fe10 : nv β 10 = 806 := by omega
    have fe11 : nv β 11 = 0 := by omega
    try simp only [fe0, fe5, fe6, fe7, fe10, fe11, Int.reduceToNat] at f2 f3 f4 f5
    have s0 : nv β 0 = nv α1 0 := nv_le H1.1 (by omega)
    have s1 : nv β 1 = nv α1 1 := nv_le H1.1 (by omega)
    have s2 : nv β 2 = nv α1 2 := nv_le H1.1 (by omega)
    have s3 : nv β 3 = nv α1 3 := nv_le H1.1 (by omega)
    have s4 : nv β 4 = nv α1 4 := nv_le H1.1 (by omega)
    obtain ⟨c0, c1, c2, c3, c4⟩ := f2
    obtain ⟨α', Ha, hm⟩ := hd_gpM (q := kh_cMoves_a87) (n := 0) (by decide +kernel) hx H1 (by decide +kernel) hxa hf
    have hfr := H1.2.2.2.2.2.2.2.2.2.2.1
    have m0 : nv α' 0 = nv β 0 := hm 0 0 rfl
    have m1 : nv α' 1 = nv β 1 := hm 1 1 rfl
    have m2 : nv α' 2 = nv β 2 := hm 2 2 rfl
    have m3 : nv α' 3 = nv β 3 := hm 3 3 rfl
    have m4 : nv α' 4 = nv β 4 := hm 4 4 rfl
    have m5 : nv α' 5 = nv β 9 := hm 5 9 rfl
    have m6 : nv α' 6 = nv β 4 := hm 6 4 rfl
    have m7 : nv α' 7 = nv β 3 := hm 7 3 rfl
    have m8 : nv α' 8 = nv β 2 := hm 8 2 rfl
    have m9 : nv α' 9 = nv β 12 := hm 9 12 rfl
    have m10 : nv α' 10 = nv β 10 := hm 10 10 rfl
    obtain ⟨e6, p2⟩ := hp
    have p3 : nv α 4 = fI S (nv α 3) 204 (nv α 2).toNat := by
      rcases p2 with g | g
      · exfalso; omega
      · exact g
    refine ih.2.2.2.1 _ _ _ _ Ha ?_ ?_
    · rw [m7, m8, m6, s3, r3, s2, r2, ← p3]
      exact ⟨by rw [f5]; exact e6, by omega, by omega⟩
    · omega
  · obtain ⟨f1, f2, f3, f4, f5⟩ := as_fx H1
    simp only [kh_cMoves_b41_2, fx_env, fx_c, fx_ne, fx_hf, wl_S, Nat.zero_add, Nat.reduceAdd, Nat.reduceDiv, Nat.reduceMod, List.getElem?_cons_zero, List.getElem?_cons_succ, if_true, and_true, true_and] at f1 f2 f3 f4 f5
    have fe0 : nv β 0 = 805 := by omega
    have fe5 : nv β 5 = (-1) := by omega
    have fe6 : nv β 6 = 806 := by omega
    have fe7 : nv β 7 = 2 := by omega
    have fe10 : nv β 10 = 806 := by omega
    have fe11 : nv β 11 = 0 := by omega
    try simp only [fe0, fe5, fe6, fe7, fe10, fe11, Int.reduceToNat] at f2 f3 f4 f5
    have s0 : nv β 0 = nv α1 0 := nv_le H1.1 (by omega)
    have s1 : nv β 1 = nv α1 1 := nv_le H1.1 (by omega)
    have s2 : nv β 2 = nv α1 2 := nv_le H1.1 (by omega)
    have s3 : nv β 3 = nv α1 3 := nv_le H1.1 (by omega)
    have s4 : nv β 4 = nv α1 4 := nv_le H1.1 (by omega)
    obtain ⟨c0, c1, c2, c3, c4⟩ := f2
    obtain ⟨α', Ha, hm⟩ := hd_gpM (q := kh_cMoves_a87) (n := 0) (by decide +kernel) hx H1 (by decide +kernel) hxa hf
    have hfr := H1.2.2.2.2.2.2.2.2.2.2.1
    have m0 : nv α' 0 = nv β 0 := hm 0 0 rfl
    have m1 : nv α' 1 = nv β 1 := hm 1 1 rfl
    have m2 : nv α' 2 = nv β 2 := hm 2 2 rfl
    have m3 : nv α' 3 = nv β 3 := hm 3 3 rfl
    have m4 : nv α' 4 = nv β 4 := hm 4 4 rfl
    have m5 : nv α' 5 = nv β 9 := hm 5 9 rfl
    have m6 : nv α' 6 = nv β 9 := hm 6 9 rfl
    have m7 : nv α' 7 = nv β 3 := hm 7 3 rfl
    have m8 : nv α' 8 = nv β 2 := hm 8 2 rfl
    have m9 : nv α' 9 = nv β 12 := hm 9 12 rfl
    have m10 : nv α' 10 = nv β 10 := hm 10 10 rfl
    obtain ⟨e6, p2⟩ := hp
    have p3 : nv α 4 = fI S (nv α 3) 204 (nv α 2).toNat := by
      rcases p2 with g | g
      · exfalso; omega
      · exact g
    refine ih.2.2.2.1 _ _ _ _ Ha ?_ ?_
    · rw [m7, m8, m6, s3, r3, s2, r2, ← p3]
      exact ⟨by rw [f5]; exact e6, by omega, by omega⟩
    · omega
set_option maxHeartbeats 16000000 in
set_option maxRecDepth 8000 in
theorem kh_cMoves_h87 {l : Launch} {D : va_G} {tc : Nat → ClassId} {ad : Nat → Nat} {kd : Nat → Nat × Nat} {N : Nat} {sm : Nat → Nat} {xs : List av_X} {S : fw_S} {p : Program} {e : Env} {s : State} {m : MethodId} {args : Array Value} {below : List Frame} {meth : Method} {c : Code} {sz : Nat} {lvE : List (Nat × Value)} (G : hd_C wd_ff2 wd_fl2 kh_cMoves [kh_cC0, kh_cC3, kh_cSpot, kh_wayLength, kh_cC2, kh_wayStep] kh_cMoves_y l D tc ad kd N sm xs p s m args meth c sz) (H0 : as_in ad sm wd_fl2 xs S kh_cMoves.2.2.2.2.2.1 xs (hd_0 kh_cMoves) lvE [] S) (hpre : P_hasJob xs S) {k : Nat} (ih : kh_cMoves_I l D tc ad kd N sm xs S p e s m args below meth c sz k) : (∀ (α : List av_X) (lv : List (Nat × Value)) (st : List Value) (S1 : fw_S), as_in ad sm wd_fl2 xs S kh_cMoves.2.2.2.2.2.1 α kh_cMoves_a87.2.2.1 lv st S1 → (S1.1 806 = S.1 806 ∧ fI S (nv α 7) 204 (nv α 8).toNat ≠ -1 ∧ nv α 6 ≤ fI S (nv α 7) 204 (nv α 8).toNat) → 20 < k + 1 → hd_WR R_any wd_fl2 kh_cMoves kh_cMoves_y l D tc ad kd N sm xs S p e s m args below meth c sz 87 lv st S1 0) := by
  have hx : xs.length = 2 := by rw [H0.2.1.1]; rfl
  intro α lv st S1 H hp hk
  obtain ⟨α1, hle, Hr⟩ := as_recM (pl := []) [((814, 814), (0, 11, 1))] (by decide +kernel) H
  have hf := H.2.2.2.2.2.2.2.2.2.2.1
  have hl1 : α1.length = 11 := by rw [Hr.2.1.1]; rfl
  have hl0 : α.length = 11 := by rw [H.2.1.1]; rfl
  have hxa : al_le xs α1 := H.1.trans hle
  obtain ⟨g1, -, g3, g4, -⟩ := as_fx Hr
  have g0 : (805 ≤ nv α1 0 ∧ nv α1 0 ≤ 805) ∧ (0 ≤ nv α1 1 ∧ nv α1 1 ≤ 3) ∧ (0 ≤ nv α1 2 ∧ nv α1 2 ≤ 11) ∧ (0 ≤ nv α1 3 ∧ nv α1 3 ≤ 11) ∧ (0 ≤ nv α1 4 ∧ nv α1 4 ≤ 12) ∧ (0 ≤ nv α1 5 ∧ nv α1 5 ≤ 4) ∧ (0 ≤ nv α1 6 ∧ nv α1 6 ≤ 4) ∧ (0 ≤ nv α1 7 ∧ nv α1 7 ≤ 11) ∧ (0 ≤ nv α1 8 ∧ nv α1 8 ≤ 11) ∧ (2401 ≤ nv α1 9 ∧ nv α1 9 ≤ 2425) ∧ (806 ≤ nv α1 10 ∧ nv α1 10 ≤ 806) ∧ True := by
    refine ⟨by have h := (en_nv (i := 0) Hr.2.1 rfl).2; exact h, by have h := (en_nv (i := 1) Hr.2.1 rfl).2; exact h, by have h := (en_nv (i := 2) Hr.2.1 rfl).2; exact h, by have h := (en_nv (i := 3) Hr.2.1 rfl).2; exact h, by have h := (en_nv (i := 4) Hr.2.1 rfl).2; exact h, by have h := (en_nv (i := 5) Hr.2.1 rfl).2; exact h, by have h := (en_nv (i := 6) Hr.2.1 rfl).2; exact h, by have h := (en_nv (i := 7) Hr.2.1 rfl).2; exact h, by have h := (en_nv (i := 8) Hr.2.1 rfl).2; exact h, by have h := (en_nv (i := 9) Hr.2.1 rfl).2; exact h, by have h := (en_nv (i := 10) Hr.2.1 rfl).2; exact h, trivial⟩
  have r0 : nv α1 0 = nv α 0 := nv_le hle (by omega)
  have r1 : nv α1 1 = nv α 1 := nv_le hle (by omega)
  have r2 : nv α1 2 = nv α 2 := nv_le hle (by omega)
  have r3 : nv α1 3 = nv α 3 := nv_le hle (by omega)
  have r4 : nv α1 4 = nv α 4 := nv_le hle (by omega)
  have r5 : nv α1 5 = nv α 5 := nv_le hle (by omega)
  have r6 : nv α1 6 = nv α 6 := nv_le hle (by omega)
  have r7 : nv α1 7 = nv α 7 := nv_le hle (by omega)
  have r8 : nv α1 8 = nv α 8 := nv_le hle (by omega)
  have r9 : nv α1 9 = nv α 9 := nv_le hle (by omega)
  have r10 : nv α1 10 = nv α 10 := nv_le hle (by omega)
  refine hd_callRR (Rr := R_wayStep) (Rs := [kh_wayStep]) (idx := 404) G (List.forall_mem_cons.mpr ⟨kh_wayStep_okR, List.forall_mem_nil _⟩) (na := 11) (Bs := [kh_cMoves_b87_0]) (by decide +kernel) (by decide +kernel) hl1 Hr ?_
  intro q hq β lv' st' S' H1 hRx
  simp only [List.mem_cons, List.not_mem_nil, or_false] at hq
  rcases hq with rfl
  · obtain ⟨f1, f2, f3, f4, f5⟩ := as_fx H1
    simp only [kh_cMoves_b87_0, fx_env, fx_c, fx_ne, fx_hf, wl_S, Nat.zero_add, Nat.reduceAdd, Nat.reduceDiv, Nat.reduceMod, List.getElem?_cons_zero, List.getElem?_cons_succ, if_true, and_true, true_and] at f1 f2 f3 f4 f5
    have fe0 : nv β 0 = 805 := by omega
    have fe10 : nv β 10 = 806 := by omega
    try simp only [fe0, fe10, Int.reduceToNat] at f2 f3 f4 f5
    have s0 : nv β 0 = nv α1 0 := nv_le H1.1 (by omega)
    have s1 : nv β 1 = nv α1 1 := nv_le H1.1 (by omega)
    have s2 : nv β 2 = nv α1 2 := nv_le H1.1 (by omega)
    have s3 : nv β 3 = nv α1 3 := nv_le H1.1 (by omega)
    have s4 : nv β 4 = nv α1 4 := nv_le H1.1 (by omega)
    have s5 : nv β 5 = nv α1 5 := nv_le H1.1 (by omega)
    have s6 : nv β 6 = nv α1 6 := nv_le H1.1 (by omega)
    have s7 : nv β 7 = nv α1 7 := nv_le H1.1 (by omega)
    have s8 : nv β 8 = nv α1 8 := nv_le H1.1 (by omega)
    have s9 : nv β 9 = nv α1 9 := nv_le H1.1 (by omega)
    have s10 : nv β 10 = nv α1 10 := nv_le H1.1 (by omega)
    obtain ⟨α', Ha, hm⟩ := hd_gpM (q := kh_cMoves_a90) (n := 0) (by decide +kernel) hx H1 (by decide +kernel) hxa hf
    have hfr := H1.2.2.2.2.2.2.2.2.2.2.1
    have m0 : nv α' 0 = nv β 0 := hm 0 0 rfl
    have m1 : nv α' 1 = nv β 1 := hm 1 1 rfl
    have m2 : nv α' 2 = nv β 2 := hm 2 2 rfl
    have m3 : nv α' 3 = nv β 3 := hm 3 3 rfl
    have m4 : nv α' 4 = nv β 4 := hm 4 4 rfl
    have m5 : nv α' 5 = nv β 5 := hm 5 5 rfl
    have m6 : nv α' 6 = nv β 11 := hm 6 11 rfl
    have m7 : nv α' 7 = nv β 9 := hm 7 9 rfl
    have m8 : nv α' 8 = nv β 10 := hm 8 10 rfl
    obtain ⟨Cc, hCc, ys, rr, hnm, hR, rest, hre⟩ := hRx
    rcases List.mem_singleton.mp hCc with rfl
    have y1 : nv ys 1 = nv α1 8 := nm_nv hnm (i := 1) (v := 8) rfl
    have y2 : nv ys 2 = nv α1 7 := nm_nv hnm (i := 2) (v := 7) rfl
    have y3 : nv ys 3 = nv α1 6 := nm_nv hnm (i := 3) (v := 6) rfl
    obtain ⟨v, v1, v2⟩ := hR
    have hv := hd_rv H1 (i := 11) rfl rfl rfl hre (Sum.inl.inj v1)
    obtain ⟨e6, p2, p3⟩ := hp
    rw [hv, y1, y2, y3, r8, r7, r6, fI_e e6] at v2
    refine ih.2.2.2.2.1 _ _ _ _ Ha ?_ ?_
    · rw [m6]
      exact v2 ⟨p2, p3⟩
    · omega
set_option maxHeartbeats 16000000 in
set_option maxRecDepth 8000 in
theorem kh_cMoves_h90 {l : Launch} {D : va_G} {tc : Nat → ClassId} {ad : Nat → Nat} {kd : Nat → Nat × Nat} {N : Nat} {sm : Nat → Nat} {xs : List av_X} {S : fw_S} {p : Program} {e : Env} {s : State} {m : MethodId} {args : Array Value} {below : List Frame} {meth : Method} {c : Code} {sz : Nat} {lvE : List (Nat × Value)} (G : hd_C wd_ff2 wd_fl2 kh_cMoves [kh_cC0, kh_cC3, kh_cSpot, kh_wayLength, kh_cC2, kh_wayStep] kh_cMoves_y l D tc ad kd N sm xs p s m args meth c sz) (H0 : as_in ad sm wd_fl2 xs S kh_cMoves.2.2.2.2.2.1 xs (hd_0 kh_cMoves) lvE [] S) (hpre : P_hasJob xs S) {k : Nat} (ih : kh_cMoves_I l D tc ad kd N sm xs S p e s m args below meth c sz k) : (∀ (α : List av_X) (lv : List (Nat × Value)) (st : List Value) (S1 : fw_S), as_in ad sm wd_fl2 xs S kh_cMoves.2.2.2.2.2.1 α kh_cMoves_a90.2.2.1 lv st S1 → (0 ≤ nv α 6 ∧ nv α 6 ≤ 11) → 10 < k + 1 → hd_WR R_any wd_fl2 kh_cMoves kh_cMoves_y l D tc ad kd N sm xs S p e s m args below meth c sz 90 lv st S1 0) := by
  have hx : xs.length = 2 := by rw [H0.2.1.1]; rfl
  intro α lv st S1 H hp hk
  have bp := (en_nv (i := 6) H.2.1 rfl).2
  change (-1) ≤ nv α 6 ∧ nv α 6 ≤ 11 at bp
  replace H := as_clamp (i := 6) (lo := 0) (hi := 11) H rfl rfl (by exact hp.1) (by exact hp.2) (by decide)
  obtain ⟨α1, hle, Hr⟩ := as_recM (pl := []) [((806, 806), (2401, 2425, 8))] (by decide +kernel) H
  have hf := H.2.2.2.2.2.2.2.2.2.2.1
  have hl1 : α1.length = 9 := by rw [Hr.2.1.1]; rfl
  have hl0 : α.length = 9 := by rw [H.2.1.1]; rfl
  have hxa : al_le xs α1 := H.1.trans hle
  obtain ⟨g1, -, g3, g4, -⟩ := as_fx Hr
  have g0 : (805 ≤ nv α1 0 ∧ nv α1 0 ≤ 805) ∧ (0 ≤ nv α1 1 ∧ nv α1 1 ≤ 3) ∧ (0 ≤ nv α1 2 ∧ nv α1 2 ≤ 11) ∧ (0 ≤ nv α1 3 ∧ nv α1 3 ≤ 11) ∧ (0 ≤ nv α1 4 ∧ nv α1 4 ≤ 12) ∧ (0 ≤ nv α1 5 ∧ nv α1 5 ≤ 4) ∧ (0 ≤ nv α1 6 ∧ nv α1 6 ≤ 11) ∧ (2401 ≤ nv α1 7 ∧ nv α1 7 ≤ 2425) ∧ (806 ≤ nv α1 8 ∧ nv α1 8 ≤ 806) ∧ True := by
    refine ⟨by have h := (en_nv (i := 0) Hr.2.1 rfl).2; exact h, by have h := (en_nv (i := 1) Hr.2.1 rfl).2; exact h, by have h := (en_nv (i := 2) Hr.2.1 rfl).2; exact h, by have h := (en_nv (i := 3) Hr.2.1 rfl).2; exact h, by have h := (en_nv (i := 4) Hr.2.1 rfl).2; exact h, by have h := (en_nv (i := 5) Hr.2.1 rfl).2; exact h, by have h := (en_nv (i := 6) Hr.2.1 rfl).2; exact h, by have h := (en_nv (i := 7) Hr.2.1 rfl).2; exact h, by have h := (en_nv (i := 8) Hr.2.1 rfl).2; exact h, trivial⟩
  have r0 : nv α1 0 = nv α 0 := nv_le hle (by omega)
  have r1 : nv α1 1 = nv α 1 := nv_le hle (by omega)
  have r2 : nv α1 2 = nv α 2 := nv_le hle (by omega)
  have r3 : nv α1 3 = nv α 3 := nv_le hle (by omega)
  have r4 : nv α1 4 = nv α 4 := nv_le hle (by omega)
  have r5 : nv α1 5 = nv α 5 := nv_le hle (by omega)
  have r6 : nv α1 6 = nv α 6 := nv_le hle (by omega)
  have r7 : nv α1 7 = nv α 7 := nv_le hle (by omega)
  have r8 : nv α1 8 = nv α 8 := nv_le hle (by omega)
  refine hd_segMR G (na := 9) (fuel := 600) (first := true) (Bs := [kh_cMoves_b90_0]) (by decide +kernel) hl1 Hr ?_
  intro q hq β lv' st' S' H1
  simp only [List.mem_cons, List.not_mem_nil, or_false] at hq
  rcases hq with rfl
  · obtain ⟨f1, f2, f3, f4, f5⟩ := as_fx H1
    simp only [kh_cMoves_b90_0, fx_env, fx_c, fx_ne, fx_hf, wl_S, Nat.zero_add, Nat.reduceAdd, Nat.reduceDiv, Nat.reduceMod, List.getElem?_cons_zero, List.getElem?_cons_succ, if_true, and_true, true_and] at f1 f2 f3 f4 f5
    have fe0 : nv β 0 = 805 := by omega
    have fe8 : nv β 8 = 806 := by omega
    try simp only [fe0, fe8, Int.reduceToNat] at f2 f3 f4 f5
    have s0 : nv β 0 = nv α1 0 := nv_le H1.1 (by omega)
    have s1 : nv β 1 = nv α1 1 := nv_le H1.1 (by omega)
    have s2 : nv β 2 = nv α1 2 := nv_le H1.1 (by omega)
    have s3 : nv β 3 = nv α1 3 := nv_le H1.1 (by omega)
    have s4 : nv β 4 = nv α1 4 := nv_le H1.1 (by omega)
    have s5 : nv β 5 = nv α1 5 := nv_le H1.1 (by omega)
    have s6 : nv β 6 = nv α1 6 := nv_le H1.1 (by omega)
    have s7 : nv β 7 = nv α1 7 := nv_le H1.1 (by omega)
    have s8 : nv β 8 = nv α1 8 := nv_le H1.1 (by omega)
    exact hd_retVR G (by decide +kernel) (as_backM H1 (by decide +kernel) hxa hf) (by decide +kernel) (by decide) trivial
set_option maxHeartbeats 16000000 in
set_option maxRecDepth 8000 in
theorem kh_cMoves_okP : ct_okPR wd_fl2 kh_cMoves P_hasJob R_any := ct_handPR (P := P_hasJob) (R := R_any) (ff := wd_ff2) (y := kh_cMoves_y) (Cs := [kh_cC0, kh_cC3, kh_cSpot, kh_wayLength, kh_cC2, kh_wayStep]) wd_fl2_ok rfl (List.forall_mem_cons.mpr ⟨kh_cC0_ok, (List.forall_mem_cons.mpr ⟨kh_cC3_ok, (List.forall_mem_cons.mpr ⟨kh_cSpot_ok, (List.forall_mem_cons.mpr ⟨kh_wayLength_ok, (List.forall_mem_cons.mpr ⟨kh_cC2_ok, (List.forall_mem_cons.mpr ⟨kh_wayStep_ok, (List.forall_mem_nil _)⟩)⟩)⟩)⟩)⟩)⟩) (by decide +kernel) (fun l D tc ad kd N sm xs S p e s m args below meth c sz lv G H0 hpre => by
  have hx : xs.length = 2 := by rw [H0.2.1.1]; rfl
  have hP : ∀ (k : Nat), kh_cMoves_I l D tc ad kd N sm xs S p e s m args below meth c sz k := by
    intro k
    induction k with
    | zero => exact ⟨fun _ _ _ _ _ _ h => absurd h (Nat.not_lt_zero _), fun _ _ _ _ _ _ h => absurd h (Nat.not_lt_zero _), fun _ _ _ _ _ _ h => absurd h (Nat.not_lt_zero _), fun _ _ _ _ _ _ h => absurd h (Nat.not_lt_zero _), fun _ _ _ _ _ _ h => absurd h (Nat.not_lt_zero _), trivial⟩
    | succ k ih => exact ⟨kh_cMoves_h22 G H0 hpre ih, kh_cMoves_h38 G H0 hpre ih, kh_cMoves_h41 G H0 hpre ih, kh_cMoves_h87 G H0 hpre ih, kh_cMoves_h90 G H0 hpre ih, trivial⟩
  obtain ⟨α1, hle, Hr⟩ := as_recM (pl := []) [] (by decide +kernel) H0
  have hf := H0.2.2.2.2.2.2.2.2.2.2.1
  have hl1 : α1.length = 2 := by rw [Hr.2.1.1]; rfl
  have hl0 : xs.length = 2 := by rw [H0.2.1.1]; rfl
  have hxa : al_le xs α1 := H0.1.trans hle
  obtain ⟨g1, -, g3, g4, -⟩ := as_fx Hr
  have g0 : (805 ≤ nv α1 0 ∧ nv α1 0 ≤ 805) ∧ (0 ≤ nv α1 1 ∧ nv α1 1 ≤ 3) ∧ True := by
    refine ⟨by have h := (en_nv (i := 0) Hr.2.1 rfl).2; exact h, by have h := (en_nv (i := 1) Hr.2.1 rfl).2; exact h, trivial⟩
  have r0 : nv α1 0 = nv xs 0 := nv_le hle (by omega)
  have r1 : nv α1 1 = nv xs 1 := nv_le hle (by omega)
  refine hd_segMR G (na := 2) (fuel := 600) (first := true) (Bs := [kh_cMoves_b0_0]) (by decide +kernel) hl1 Hr ?_
  intro q hq β lv' st' S' H1
  simp only [List.mem_cons, List.not_mem_nil, or_false] at hq
  rcases hq with rfl
  · obtain ⟨f1, f2, f3, f4, f5⟩ := as_fx H1
    simp only [kh_cMoves_b0_0, fx_env, fx_c, fx_ne, fx_hf, wl_S, Nat.zero_add, Nat.reduceAdd, Nat.reduceDiv, Nat.reduceMod, List.getElem?_cons_zero, List.getElem?_cons_succ, if_true, and_true, true_and] at f1 f2 f3 f4 f5
    have fe0 : nv β 0 = 805 := by omega
    have fe2 : nv β 2 = 806 := by omega
    have fe3 : nv β 3 = 0 := by omega
    have fe6 : nv β 6 = 806 := by omega
    have fe7 : nv β 7 = 3 := by omega
    try simp only [fe0, fe2, fe3, fe6, fe7, Int.reduceToNat] at f2 f3 f4 f5
    have s0 : nv β 0 = nv α1 0 := nv_le H1.1 (by omega)
    have s1 : nv β 1 = nv α1 1 := nv_le H1.1 (by omega)
    obtain ⟨c0, c1, c2, c3⟩ := f2
    obtain ⟨α', Ha, hm⟩ := hd_gpM (q := kh_cMoves_a22) (n := 0) (by decide +kernel) hx H1 (by decide +kernel) hxa hf
    have hfr := H1.2.2.2.2.2.2.2.2.2.2.1
    have m0 : nv α' 0 = nv β 0 := hm 0 0 rfl
    have m1 : nv α' 1 = nv β 1 := hm 1 1 rfl
    have m2 : nv α' 2 = nv β 5 := hm 2 5 rfl
    have m3 : nv α' 3 = nv β 9 := hm 3 9 rfl
    have o0 := old_0 c0 rfl
    have o2 := old_0 c2 rfl
    have d1 := fl1_b (by decide) (fl2_b (by decide) c1)
    simp only [wd_fl] at d1
    have d3 := fl1_b (by decide) (fl2_b (by decide) c3)
    simp only [wd_fl] at d3
    have hm := mck_eq (k := (nv xs 1).toNat) o0 (by omega)
    refine (hP _).1 _ _ _ _ Ha ?_ (Nat.lt_succ_self _)
    · rw [m3]
      exact ⟨by rw [f5], by rw [← hm]; exact hpre.2⟩)
def stE (f : Nat → Int32) (p : Nat) : Int := (f (4060 + p)).toInt - (stFirst p + (f (4072 + p)).toInt - (f (4076 + p)).toInt - (f (4068 + p)).toInt)
abbrev kh_takes_y : mt_T := (⟨"UtilityWorksModel", "takes", "(II)V"⟩, prog_14_method_273_code, 3, none, 12, 1, 2, 33222, 33221, 8010, 21014)
def kh_takes : ct_T := (422, [(2, 805, 805, 0), (0, 0, 3, 1), (0, (-2147483648), 2147483647, 1)], [], [513], [(0, (0, 0, 0, 0), [(2, 805, 805, 0), (0, 0, 3, 1), (0, (-2147483648), 2147483647, 1)], [], ([513], []))], [((806, 806), (4060, 4063, 1)), ((806, 806), (4068, 4071, 1))], 0, 0, 0)
def kh_takes_a14 : an_T := (14, 0, ([((2, 805, 805, 0), none), ((0, 0, 3, 1), none), ((0, (-2147483648), 2147483647, 1), none)], [(0, 0), (1, 1), (2, 2)], [], [], [], [], [], [], none), [])
def kh_takes_b0_0 : sg_T := (14, 0, ([((2, 805, 805, 0), none), ((0, 0, 3, 1), none), ((0, (-2147483648), 2147483647, 1), none), ((2, 806, 806, 1), none), ((0, 4060, 4060, 0), none), ((0, 4060, 4063, 1), none), ((0, (-2147483648), 2147483647, 1), none), ((0, (-2147483648), 2147483647, 1), none)], [(0, 0), (1, 1), (2, 2)], [], [(3, 5, 7)], [], [(900100007, 6, 2), (800006, 3, 5), (500005, 4, 1)], [], [], some [(3, 5, 7)]))
def kh_takes_b14_0 : sg_T := (28, 0, ([((2, 805, 805, 0), none), ((0, 0, 3, 1), none), ((0, (-2147483648), 2147483647, 1), none), ((2, 806, 806, 1), none), ((0, 4068, 4068, 0), none), ((0, 4068, 4071, 1), none), ((0, (-2147483648), 2147483647, 1), none), ((0, (-2147483648), 2147483647, 1), none)], [(0, 0), (1, 1), (2, 2)], [], [(3, 5, 7)], [], [(900000007, 6, 2), (800006, 3, 5), (500005, 4, 1)], [], [], some [(3, 5, 7)]))
def kh_takes_I (l : Launch) (D : va_G) (tc : Nat → ClassId) (ad : Nat → Nat) (kd : Nat → Nat × Nat) (N : Nat) (sm : Nat → Nat) (xs : List av_X) (S : fw_S) (p : Program) (e : Env) (s : State) (m : MethodId) (args : Array Value) (below : List Frame) (meth : Method) (c : Code) (sz : Nat) (k : Nat) : Prop := (∀ (α : List av_X) (lv : List (Nat × Value)) (st : List Value) (S1 : fw_S), as_in ad sm wd_fl2 xs S kh_takes.2.2.2.2.2.1 α kh_takes_a14.2.2.1 lv st S1 → ((∀ q : Nat, q < 4 → (stE (S1.1 806) q + (if (q : Int) = nv xs 1 then nv xs 2 else 0)) % 4294967296 = 0)) → 0 < k → hd_W wd_fl2 kh_takes kh_takes_y l D tc ad kd N sm xs S p e s m args below meth c sz 14 lv st S1 0) ∧ True
set_option maxHeartbeats 16000000 in
set_option maxRecDepth 8000 in
theorem kh_takes_h14 {l : Launch} {D : va_G} {tc : Nat → ClassId} {ad : Nat → Nat} {kd : Nat → Nat × Nat} {N : Nat} {sm : Nat → Nat} {xs : List av_X} {S : fw_S} {p : Program} {e : Env} {s : State} {m : MethodId} {args : Array Value} {below : List Frame} {meth : Method} {c : Code} {sz : Nat} {lvE : List (Nat × Value)} (G : hd_C wd_ff2 wd_fl2 kh_takes [] kh_takes_y l D tc ad kd N sm xs p s m args meth c sz) (H0 : as_in ad sm wd_fl2 xs S kh_takes.2.2.2.2.2.1 xs (hd_0 kh_takes) lvE [] S) {k : Nat} (ih : kh_takes_I l D tc ad kd N sm xs S p e s m args below meth c sz k) : (∀ (α : List av_X) (lv : List (Nat × Value)) (st : List Value) (S1 : fw_S), as_in ad sm wd_fl2 xs S kh_takes.2.2.2.2.2.1 α kh_takes_a14.2.2.1 lv st S1 → ((∀ q : Nat, q < 4 → (stE (S1.1 806) q + (if (q : Int) = nv xs 1 then nv xs 2 else 0)) % 4294967296 = 0)) → 0 < k + 1 → hd_W wd_fl2 kh_takes kh_takes_y l D tc ad kd N sm xs S p e s m args below meth c sz 14 lv st S1 0) := by
  have hx : xs.length = 3 := by rw [H0.2.1.1]; rfl
  have q513 : stF (S.1 806) := by
    have h := H0.2.2.2.2.2.2.2.2.1 513 (by decide +kernel)
    rw [wd_fl2, if_neg (by decide)] at h
    exact h
  intro α lv st S1 H hp hk
  obtain ⟨α1, hle, Hr⟩ := as_recM (pl := []) [((806, 806), (4068, 4071, 1))] (by decide +kernel) H
  have hf := H.2.2.2.2.2.2.2.2.2.2.1
  have hl1 : α1.length = 3 := by rw [Hr.2.1.1]; rfl
  have hl0 : α.length = 3 := by rw [H.2.1.1]; rfl
  have hxa : al_le xs α1 := H.1.trans hle
  obtain ⟨g1, -, g3, g4, -⟩ := as_fx Hr
  have g0 : (805 ≤ nv α1 0 ∧ nv α1 0 ≤ 805) ∧ (0 ≤ nv α1 1 ∧ nv α1 1 ≤ 3) ∧ ((-2147483648) ≤ nv α1 2 ∧ nv α1 2 ≤ 2147483647) ∧ True := by
    refine ⟨by have h := (en_nv (i := 0) Hr.2.1 rfl).2; exact h, by have h := (en_nv (i := 1) Hr.2.1 rfl).2; exact h, by have h := (en_nv (i := 2) Hr.2.1 rfl).2; exact h, trivial⟩
  have r0 : nv α1 0 = nv α 0 := nv_le hle (by omega)
  have r1 : nv α1 1 = nv α 1 := nv_le hle (by omega)
  have r2 : nv α1 2 = nv α 2 := nv_le hle (by omega)
  refine hd_segM G (na := 3) (fuel := 600) (first := true) (Bs := [kh_takes_b14_0]) (by decide +kernel) hl1 Hr ?_
  intro q hq β lv' st' S' H1
  simp only [List.mem_cons, List.not_mem_nil, or_false] at hq
  rcases hq with rfl
  · obtain ⟨f1, f2, f3, f4, f5⟩ := as_fx H1
    simp only [kh_takes_b14_0, fx_env, fx_c, fx_ne, fx_hf, wl_S, Nat.zero_add, Nat.reduceAdd, Nat.reduceDiv, Nat.reduceMod, List.getElem?_cons_zero, List.getElem?_cons_succ, if_true, and_true, true_and] at f1 f2 f3 f4 f5
    have fe0 : nv β 0 = 805 := by omega
    have fe3 : nv β 3 = 806 := by omega
    have fe4 : nv β 4 = 4068 := by omega
    try simp only [fe0, fe3, fe4, Int.reduceToNat] at f2 f3 f4 f5
    have s0 : nv β 0 = nv α1 0 := nv_le H1.1 (by omega)
    have s1 : nv β 1 = nv α1 1 := nv_le H1.1 (by omega)
    have s2 : nv β 2 = nv α1 2 := nv_le H1.1 (by omega)
    obtain ⟨c0, c1, c2⟩ := f2
    have o1 := old_0 c1 rfl
    have hrow : S'.1 806 = (rw_u (S1.1 806) (nv β 5).toNat (nv β 7)) := by rw [f5]; simp only [row_806]
    have hne : ∀ i : Nat, i ≠ (nv β 5).toNat → S'.1 806 i = S1.1 806 i := fun i n0 => by rw [hrow, rw_u_ne n0]
    have v0 : (S'.1 806 (nv β 5).toNat).toInt = nv β 7 := by rw [hrow, rw_u_eq (by omega)]
    have z1 : nv α 1 = nv xs 1 := nv_le H.1 (by omega)
    have hst : ∀ q : Nat, q < 4 → stE (S'.1 806) q = stE (S1.1 806) q + (if (q : Int) = nv xs 1 then nv β 7 - nv β 6 else 0) := by
      intro q hq
      by_cases e : (q : Int) = nv xs 1
      · rw [if_pos e]
        have e1 : (S'.1 806 (4068 + q)).toInt = nv β 7 := by rw [show 4068 + q = (nv β 5).toNat by omega]; exact v0
        have e0 : (S1.1 806 (4068 + q)).toInt = nv β 6 := by rw [show 4068 + q = (nv β 5).toNat by omega]; exact o1
        unfold stE
        rw [hne (4060 + q) (by omega), hne (4072 + q) (by omega), hne (4076 + q) (by omega), e1, e0]
        omega
      · rw [if_neg e]
        unfold stE
        rw [hne _ (by omega), hne _ (by omega), hne _ (by omega), hne _ (by omega)]
        omega
    have hg : stF (S'.1 806) := by
      intro q hq
      have h1 := hst q hq
      have h2 := hp q hq
      show stE (S'.1 806) q % 4294967296 = 0
      rw [h1]
      by_cases e : (q : Int) = nv xs 1
      · rw [if_pos e] at h2 ⊢
        have z2 : nv α 2 = nv xs 2 := nv_le H.1 (by omega)
        omega
      · rw [if_neg e] at h2 ⊢; omega
    exact hd_run G (ss := []) (fuel := 20) (by decide +kernel) (as_fl_in (f := [513]) (as_backM H1 (by decide +kernel) hxa hf) (fun g hg' => by
      rcases List.mem_singleton.mp hg' with rfl
      rw [wd_fl2, if_neg (by decide)]
      exact hg))
set_option maxHeartbeats 16000000 in
set_option maxRecDepth 8000 in
theorem kh_takes_ok : ct_ok wd_fl2 kh_takes := ct_hand (ff := wd_ff2) (y := kh_takes_y) (Cs := []) wd_fl2_ok rfl (List.forall_mem_nil _) (by decide +kernel) (fun l D tc ad kd N sm xs S p e s m args below meth c sz lv G H0 => by
  have hx : xs.length = 3 := by rw [H0.2.1.1]; rfl
  have q513 : stF (S.1 806) := by
    have h := H0.2.2.2.2.2.2.2.2.1 513 (by decide +kernel)
    rw [wd_fl2, if_neg (by decide)] at h
    exact h
  have hP : ∀ (k : Nat), kh_takes_I l D tc ad kd N sm xs S p e s m args below meth c sz k := by
    intro k
    induction k with
    | zero => exact ⟨fun _ _ _ _ _ _ h => absurd h (Nat.not_lt_zero _), trivial⟩
    | succ k ih => exact ⟨kh_takes_h14 G H0 ih, trivial⟩
  obtain ⟨α1, hle, Hr⟩ := as_recM (pl := []) [((806, 806), (4060, 4063, 1))] (by decide +kernel) H0
  have hf := H0.2.2.2.2.2.2.2.2.2.2.1
  have hl1 : α1.length = 3 := by rw [Hr.2.1.1]; rfl
  have hl0 : xs.length = 3 := by rw [H0.2.1.1]; rfl
  have hxa : al_le xs α1 := H0.1.trans hle
  obtain ⟨g1, -, g3, g4, -⟩ := as_fx Hr
  have g0 : (805 ≤ nv α1 0 ∧ nv α1 0 ≤ 805) ∧ (0 ≤ nv α1 1 ∧ nv α1 1 ≤ 3) ∧ ((-2147483648) ≤ nv α1 2 ∧ nv α1 2 ≤ 2147483647) ∧ True := by
    refine ⟨by have h := (en_nv (i := 0) Hr.2.1 rfl).2; exact h, by have h := (en_nv (i := 1) Hr.2.1 rfl).2; exact h, by have h := (en_nv (i := 2) Hr.2.1 rfl).2; exact h, trivial⟩
  have r0 : nv α1 0 = nv xs 0 := nv_le hle (by omega)
  have r1 : nv α1 1 = nv xs 1 := nv_le hle (by omega)
  have r2 : nv α1 2 = nv xs 2 := nv_le hle (by omega)
  refine hd_segM G (na := 3) (fuel := 600) (first := true) (Bs := [kh_takes_b0_0]) (by decide +kernel) hl1 Hr ?_
  intro q hq β lv' st' S' H1
  simp only [List.mem_cons, List.not_mem_nil, or_false] at hq
  rcases hq with rfl
  · obtain ⟨f1, f2, f3, f4, f5⟩ := as_fx H1
    simp only [kh_takes_b0_0, fx_env, fx_c, fx_ne, fx_hf, wl_S, Nat.zero_add, Nat.reduceAdd, Nat.reduceDiv, Nat.reduceMod, List.getElem?_cons_zero, List.getElem?_cons_succ, if_true, and_true, true_and] at f1 f2 f3 f4 f5
    have fe0 : nv β 0 = 805 := by omega
    have fe3 : nv β 3 = 806 := by omega
    have fe4 : nv β 4 = 4060 := by omega
    try simp only [fe0, fe3, fe4, Int.reduceToNat] at f2 f3 f4 f5
    have s0 : nv β 0 = nv α1 0 := nv_le H1.1 (by omega)
    have s1 : nv β 1 = nv α1 1 := nv_le H1.1 (by omega)
    have s2 : nv β 2 = nv α1 2 := nv_le H1.1 (by omega)
    obtain ⟨c0, c1, c2⟩ := f2
    obtain ⟨α', Ha, hm⟩ := hd_gpM (q := kh_takes_a14) (n := 0) (by decide +kernel) hx H1 (by decide +kernel) hxa hf
    have hfr := H1.2.2.2.2.2.2.2.2.2.2.1
    have m0 : nv α' 0 = nv β 0 := hm 0 0 rfl
    have m1 : nv α' 1 = nv β 1 := hm 1 1 rfl
    have m2 : nv α' 2 = nv β 2 := hm 2 2 rfl
    have o1 := old_0 c1 rfl
    have hrow : S'.1 806 = (rw_u (S.1 806) (nv β 5).toNat (nv β 7)) := by rw [f5]; simp only [row_806]
    have hne : ∀ i : Nat, i ≠ (nv β 5).toNat → S'.1 806 i = S.1 806 i := fun i n0 => by rw [hrow, rw_u_ne n0]
    have v0 : (S'.1 806 (nv β 5).toNat).toInt = nv β 7 := by rw [hrow, rw_u_eq (by omega)]
    have z1 : nv α1 1 = nv xs 1 := by omega
    have hst : ∀ q : Nat, q < 4 → stE (S'.1 806) q = stE (S.1 806) q + (if (q : Int) = nv xs 1 then nv β 7 - nv β 6 else 0) := by
      intro q hq
      by_cases e : (q : Int) = nv xs 1
      · rw [if_pos e]
        have e1 : (S'.1 806 (4060 + q)).toInt = nv β 7 := by rw [show 4060 + q = (nv β 5).toNat by omega]; exact v0
        have e0 : (S.1 806 (4060 + q)).toInt = nv β 6 := by rw [show 4060 + q = (nv β 5).toNat by omega]; exact o1
        unfold stE
        rw [hne (4072 + q) (by omega), hne (4076 + q) (by omega), hne (4068 + q) (by omega), e1, e0]
        omega
      · rw [if_neg e]
        unfold stE
        rw [hne _ (by omega), hne _ (by omega), hne _ (by omega), hne _ (by omega)]
        omega
    refine (hP _).1 _ _ _ _ Ha ?_ (Nat.lt_succ_self _)
    · intro q hq
      have h1 := hst q hq
      have h2 := q513 q hq
      change stE (S.1 806) q % 4294967296 = 0 at h2
      rw [h1]
      by_cases e : (q : Int) = nv xs 1
      · rw [if_pos e, if_pos e]; omega
      · rw [if_neg e, if_neg e]; omega)
abbrev kh_cComes_y : mt_T := (⟨"UtilityWorksModel", "cComes", "(II)V"⟩, prog_14_method_295_code, 4, none, 12, 1, 2, 35154, 35153, 14014, 21014)
def kh_cComes : ct_T := (524, [(2, 805, 805, 0), (0, 0, 3, 1), (0, (-2147483648), 2147483647, 1)], [], [513], [(0, (0, 0, 0, 0), [(2, 805, 805, 0), (0, 0, 3, 1), (0, (-2147483648), 2147483647, 1)], [], ([513], []))], [((806, 806), (4060, 4063, 1)), ((806, 806), (4072, 4075, 1)), ((806, 806), (4076, 4079, 1))], 0, 0, 0)
def kh_cComes_a37 : an_T := (37, 0, ([((2, 805, 805, 0), none), ((0, 0, 3, 1), none), ((0, (-2147483648), 2147483647, 1), none), ((0, (-2147483648), 2147483647, 1), none)], [(0, 0), (1, 1), (2, 2), (3, 3)], [], [], [], [], [], [], none), [])
def kh_cComes_a51 : an_T := (51, 0, ([((2, 805, 805, 0), none), ((0, 0, 3, 1), none), ((0, (-2147483648), 2147483647, 1), none), ((0, (-2147483648), 2147483647, 1), none)], [(0, 0), (1, 1), (2, 2), (3, 3)], [], [], [], [], [], [], none), [])
def kh_cComes_b0_0 : sg_T := (37, 0, ([((2, 805, 805, 0), none), ((0, 0, 3, 1), none), ((0, (-2147483648), 2147483647, 1), none), ((2, 806, 806, 1), none), ((0, 4060, 4060, 0), none), ((0, 4060, 4063, 1), none), ((0, (-2147483648), 2147483647, 1), none), ((0, 999, 2147483647, 1), none), ((2, 806, 806, 1), none), ((0, 4060, 4060, 0), none), ((0, 4060, 4063, 1), none), ((0, 999, 999, 0), none), ((0, 999, 999, 0), none)], [(3, 7), (0, 0), (1, 1), (2, 2)], [], [(8, 10, 12)], [], [(200000, 11, 7), (500010, 9, 1), (900000007, 6, 2), (800006, 3, 5), (500005, 4, 1)], [], [], some [(8, 10, 12)]))
def kh_cComes_b0_1 : sg_T := (37, 0, ([((2, 805, 805, 0), none), ((0, 0, 3, 1), none), ((0, (-2147483648), 2147483647, 1), none), ((2, 806, 806, 1), none), ((0, 4060, 4060, 0), none), ((0, 4060, 4063, 1), none), ((0, (-2147483648), 2147483647, 1), none), ((0, (-2147483648), 998, 1), none), ((2, 806, 806, 1), none), ((0, 4060, 4060, 0), none), ((0, 4060, 4063, 1), none), ((0, 999, 999, 0), none)], [(3, 7), (0, 0), (1, 1), (2, 2)], [], [(8, 10, 7)], [], [(100000, 7, 11), (500010, 9, 1), (900000007, 6, 2), (800006, 3, 5), (500005, 4, 1)], [], [], some [(8, 10, 7)]))
def kh_cComes_b37_0 : sg_T := (51, 0, ([((2, 805, 805, 0), none), ((0, 0, 3, 1), none), ((0, (-2147483648), 2147483647, 1), none), ((0, (-2147483648), 2147483647, 1), none), ((2, 806, 806, 1), none), ((0, 4072, 4072, 0), none), ((0, 4072, 4075, 1), none), ((0, (-2147483648), 2147483647, 1), none), ((0, (-2147483648), 2147483647, 1), none)], [(0, 0), (1, 1), (2, 2), (3, 3)], [], [(4, 6, 8)], [], [(900000008, 7, 2), (800007, 4, 6), (500006, 5, 1)], [], [], some [(4, 6, 8)]))
def kh_cComes_b51_0 : sg_T := (76, 0, ([((2, 805, 805, 0), none), ((0, 0, 3, 1), none), ((0, (-2147483648), 2147483647, 1), none), ((0, (-2147483648), 2147483647, 1), none), ((2, 806, 806, 1), none), ((0, 4076, 4076, 0), none), ((0, 4076, 4079, 1), none), ((0, (-2147483648), 2147483647, 1), none), ((2, 806, 806, 1), none), ((0, 4060, 4060, 0), none), ((0, 4060, 4063, 1), none), ((0, (-2147483648), 2147483647, 1), none), ((0, (-2147483648), 2147483647, 1), none), ((0, (-2147483648), 2147483647, 1), none)], [(0, 0), (1, 1), (2, 2), (3, 3)], [], [(4, 6, 13), (8, 10, 11)], [], [(900000013, 7, 12), (900100012, 3, 11), (800011, 8, 10), (500010, 9, 1), (800007, 4, 6), (500006, 5, 1)], [], [], some [(4, 6, 13)]))
def kh_cComes_I (l : Launch) (D : va_G) (tc : Nat → ClassId) (ad : Nat → Nat) (kd : Nat → Nat × Nat) (N : Nat) (sm : Nat → Nat) (xs : List av_X) (S : fw_S) (p : Program) (e : Env) (s : State) (m : MethodId) (args : Array Value) (below : List Frame) (meth : Method) (c : Code) (sz : Nat) (k : Nat) : Prop := (∀ (α : List av_X) (lv : List (Nat × Value)) (st : List Value) (S1 : fw_S), as_in ad sm wd_fl2 xs S kh_cComes.2.2.2.2.2.1 α kh_cComes_a37.2.2.1 lv st S1 → ((∀ q : Nat, q < 4 → (stE (S1.1 806) q + (if (q : Int) = nv xs 1 then nv α 3 - nv xs 2 - (S1.1 806 (4060 + (nv xs 1).toNat)).toInt else 0)) % 4294967296 = 0)) → 5 < k → hd_W wd_fl2 kh_cComes kh_cComes_y l D tc ad kd N sm xs S p e s m args below meth c sz 37 lv st S1 0) ∧ (∀ (α : List av_X) (lv : List (Nat × Value)) (st : List Value) (S1 : fw_S), as_in ad sm wd_fl2 xs S kh_cComes.2.2.2.2.2.1 α kh_cComes_a51.2.2.1 lv st S1 → ((∀ q : Nat, q < 4 → (stE (S1.1 806) q + (if (q : Int) = nv xs 1 then nv α 3 - (S1.1 806 (4060 + (nv xs 1).toNat)).toInt else 0)) % 4294967296 = 0)) → 0 < k → hd_W wd_fl2 kh_cComes kh_cComes_y l D tc ad kd N sm xs S p e s m args below meth c sz 51 lv st S1 0) ∧ True
set_option maxHeartbeats 16000000 in
set_option maxRecDepth 8000 in
theorem kh_cComes_h37 {l : Launch} {D : va_G} {tc : Nat → ClassId} {ad : Nat → Nat} {kd : Nat → Nat × Nat} {N : Nat} {sm : Nat → Nat} {xs : List av_X} {S : fw_S} {p : Program} {e : Env} {s : State} {m : MethodId} {args : Array Value} {below : List Frame} {meth : Method} {c : Code} {sz : Nat} {lvE : List (Nat × Value)} (G : hd_C wd_ff2 wd_fl2 kh_cComes [] kh_cComes_y l D tc ad kd N sm xs p s m args meth c sz) (H0 : as_in ad sm wd_fl2 xs S kh_cComes.2.2.2.2.2.1 xs (hd_0 kh_cComes) lvE [] S) {k : Nat} (ih : kh_cComes_I l D tc ad kd N sm xs S p e s m args below meth c sz k) : (∀ (α : List av_X) (lv : List (Nat × Value)) (st : List Value) (S1 : fw_S), as_in ad sm wd_fl2 xs S kh_cComes.2.2.2.2.2.1 α kh_cComes_a37.2.2.1 lv st S1 → ((∀ q : Nat, q < 4 → (stE (S1.1 806) q + (if (q : Int) = nv xs 1 then nv α 3 - nv xs 2 - (S1.1 806 (4060 + (nv xs 1).toNat)).toInt else 0)) % 4294967296 = 0)) → 5 < k + 1 → hd_W wd_fl2 kh_cComes kh_cComes_y l D tc ad kd N sm xs S p e s m args below meth c sz 37 lv st S1 0) := by
  have hx : xs.length = 3 := by rw [H0.2.1.1]; rfl
  have q513 : stF (S.1 806) := by
    have h := H0.2.2.2.2.2.2.2.2.1 513 (by decide +kernel)
    rw [wd_fl2, if_neg (by decide)] at h
    exact h
  intro α lv st S1 H hp hk
  obtain ⟨α1, hle, Hr⟩ := as_recM (pl := []) [((806, 806), (4072, 4075, 1))] (by decide +kernel) H
  have hf := H.2.2.2.2.2.2.2.2.2.2.1
  have hl1 : α1.length = 4 := by rw [Hr.2.1.1]; rfl
  have hl0 : α.length = 4 := by rw [H.2.1.1]; rfl
  have hxa : al_le xs α1 := H.1.trans hle
  obtain ⟨g1, -, g3, g4, -⟩ := as_fx Hr
  have g0 : (805 ≤ nv α1 0 ∧ nv α1 0 ≤ 805) ∧ (0 ≤ nv α1 1 ∧ nv α1 1 ≤ 3) ∧ ((-2147483648) ≤ nv α1 2 ∧ nv α1 2 ≤ 2147483647) ∧ ((-2147483648) ≤ nv α1 3 ∧ nv α1 3 ≤ 2147483647) ∧ True := by
    refine ⟨by have h := (en_nv (i := 0) Hr.2.1 rfl).2; exact h, by have h := (en_nv (i := 1) Hr.2.1 rfl).2; exact h, by have h := (en_nv (i := 2) Hr.2.1 rfl).2; exact h, by have h := (en_nv (i := 3) Hr.2.1 rfl).2; exact h, trivial⟩
  have r0 : nv α1 0 = nv α 0 := nv_le hle (by omega)
  have r1 : nv α1 1 = nv α 1 := nv_le hle (by omega)
  have r2 : nv α1 2 = nv α 2 := nv_le hle (by omega)
  have r3 : nv α1 3 = nv α 3 := nv_le hle (by omega)
  refine hd_segM G (na := 4) (fuel := 600) (first := true) (Bs := [kh_cComes_b37_0]) (by decide +kernel) hl1 Hr ?_
  intro q hq β lv' st' S' H1
  simp only [List.mem_cons, List.not_mem_nil, or_false] at hq
  rcases hq with rfl
  · obtain ⟨f1, f2, f3, f4, f5⟩ := as_fx H1
    simp only [kh_cComes_b37_0, fx_env, fx_c, fx_ne, fx_hf, wl_S, Nat.zero_add, Nat.reduceAdd, Nat.reduceDiv, Nat.reduceMod, List.getElem?_cons_zero, List.getElem?_cons_succ, if_true, and_true, true_and] at f1 f2 f3 f4 f5
    have fe0 : nv β 0 = 805 := by omega
    have fe4 : nv β 4 = 806 := by omega
    have fe5 : nv β 5 = 4072 := by omega
    try simp only [fe0, fe4, fe5, Int.reduceToNat] at f2 f3 f4 f5
    have s0 : nv β 0 = nv α1 0 := nv_le H1.1 (by omega)
    have s1 : nv β 1 = nv α1 1 := nv_le H1.1 (by omega)
    have s2 : nv β 2 = nv α1 2 := nv_le H1.1 (by omega)
    have s3 : nv β 3 = nv α1 3 := nv_le H1.1 (by omega)
    obtain ⟨c0, c1, c2⟩ := f2
    obtain ⟨α', Ha, hm⟩ := hd_gpM (q := kh_cComes_a51) (n := 0) (by decide +kernel) hx H1 (by decide +kernel) hxa hf
    have hfr := H1.2.2.2.2.2.2.2.2.2.2.1
    have m0 : nv α' 0 = nv β 0 := hm 0 0 rfl
    have m1 : nv α' 1 = nv β 1 := hm 1 1 rfl
    have m2 : nv α' 2 = nv β 2 := hm 2 2 rfl
    have m3 : nv α' 3 = nv β 3 := hm 3 3 rfl
    have o1 := old_0 c1 rfl
    have hrow : S'.1 806 = (rw_u (S1.1 806) (nv β 6).toNat (nv β 8)) := by rw [f5]; simp only [row_806]
    have hne : ∀ i : Nat, i ≠ (nv β 6).toNat → S'.1 806 i = S1.1 806 i := fun i n0 => by rw [hrow, rw_u_ne n0]
    have v0 : (S'.1 806 (nv β 6).toNat).toInt = nv β 8 := by rw [hrow, rw_u_eq (by omega)]
    have z1 : nv α 1 = nv xs 1 := nv_le H.1 (by omega)
    have hst : ∀ q : Nat, q < 4 → stE (S'.1 806) q = stE (S1.1 806) q + (if (q : Int) = nv xs 1 then nv β 7 - nv β 8 else 0) := by
      intro q hq
      by_cases e : (q : Int) = nv xs 1
      · rw [if_pos e]
        have e1 : (S'.1 806 (4072 + q)).toInt = nv β 8 := by rw [show 4072 + q = (nv β 6).toNat by omega]; exact v0
        have e0 : (S1.1 806 (4072 + q)).toInt = nv β 7 := by rw [show 4072 + q = (nv β 6).toNat by omega]; exact o1
        unfold stE
        rw [hne (4060 + q) (by omega), hne (4076 + q) (by omega), hne (4068 + q) (by omega), e1, e0]
        omega
      · rw [if_neg e]
        unfold stE
        rw [hne _ (by omega), hne _ (by omega), hne _ (by omega), hne _ (by omega)]
        omega
    have z2 : nv α 2 = nv xs 2 := nv_le H.1 (by omega)
    refine ih.2.1 _ _ _ _ Ha ?_ ?_
    · intro q hq
      have h1 := hst q hq
      have h2 := hp q hq
      rw [h1, m3, hne (4060 + (nv xs 1).toNat) (by omega), s3, r3]
      by_cases e : (q : Int) = nv xs 1
      · rw [if_pos e] at h2 ⊢
        rw [if_pos e]
        omega
      · rw [if_neg e] at h2 ⊢
        rw [if_neg e]; omega
    · omega
set_option maxHeartbeats 16000000 in
set_option maxRecDepth 8000 in
theorem kh_cComes_h51 {l : Launch} {D : va_G} {tc : Nat → ClassId} {ad : Nat → Nat} {kd : Nat → Nat × Nat} {N : Nat} {sm : Nat → Nat} {xs : List av_X} {S : fw_S} {p : Program} {e : Env} {s : State} {m : MethodId} {args : Array Value} {below : List Frame} {meth : Method} {c : Code} {sz : Nat} {lvE : List (Nat × Value)} (G : hd_C wd_ff2 wd_fl2 kh_cComes [] kh_cComes_y l D tc ad kd N sm xs p s m args meth c sz) (H0 : as_in ad sm wd_fl2 xs S kh_cComes.2.2.2.2.2.1 xs (hd_0 kh_cComes) lvE [] S) {k : Nat} (ih : kh_cComes_I l D tc ad kd N sm xs S p e s m args below meth c sz k) : (∀ (α : List av_X) (lv : List (Nat × Value)) (st : List Value) (S1 : fw_S), as_in ad sm wd_fl2 xs S kh_cComes.2.2.2.2.2.1 α kh_cComes_a51.2.2.1 lv st S1 → ((∀ q : Nat, q < 4 → (stE (S1.1 806) q + (if (q : Int) = nv xs 1 then nv α 3 - (S1.1 806 (4060 + (nv xs 1).toNat)).toInt else 0)) % 4294967296 = 0)) → 0 < k + 1 → hd_W wd_fl2 kh_cComes kh_cComes_y l D tc ad kd N sm xs S p e s m args below meth c sz 51 lv st S1 0) := by
  have hx : xs.length = 3 := by rw [H0.2.1.1]; rfl
  have q513 : stF (S.1 806) := by
    have h := H0.2.2.2.2.2.2.2.2.1 513 (by decide +kernel)
    rw [wd_fl2, if_neg (by decide)] at h
    exact h
  intro α lv st S1 H hp hk
  obtain ⟨α1, hle, Hr⟩ := as_recM (pl := []) [((806, 806), (4076, 4079, 1))] (by decide +kernel) H
  have hf := H.2.2.2.2.2.2.2.2.2.2.1
  have hl1 : α1.length = 4 := by rw [Hr.2.1.1]; rfl
  have hl0 : α.length = 4 := by rw [H.2.1.1]; rfl
  have hxa : al_le xs α1 := H.1.trans hle
  obtain ⟨g1, -, g3, g4, -⟩ := as_fx Hr
  have g0 : (805 ≤ nv α1 0 ∧ nv α1 0 ≤ 805) ∧ (0 ≤ nv α1 1 ∧ nv α1 1 ≤ 3) ∧ ((-2147483648) ≤ nv α1 2 ∧ nv α1 2 ≤ 2147483647) ∧ ((-2147483648) ≤ nv α1 3 ∧ nv α1 3 ≤ 2147483647) ∧ True := by
    refine ⟨by have h := (en_nv (i := 0) Hr.2.1 rfl).2; exact h, by have h := (en_nv (i := 1) Hr.2.1 rfl).2; exact h, by have h := (en_nv (i := 2) Hr.2.1 rfl).2; exact h, by have h := (en_nv (i := 3) Hr.2.1 rfl).2; exact h, trivial⟩
  have r0 : nv α1 0 = nv α 0 := nv_le hle (by omega)
  have r1 : nv α1 1 = nv α 1 := nv_le hle (by omega)
  have r2 : nv α1 2 = nv α 2 := nv_le hle (by omega)
  have r3 : nv α1 3 = nv α 3 := nv_le hle (by omega)
  refine hd_segM G (na := 4) (fuel := 600) (first := true) (Bs := [kh_cComes_b51_0]) (by decide +kernel) hl1 Hr ?_
  intro q hq β lv' st' S' H1
  simp only [List.mem_cons, List.not_mem_nil, or_false] at hq
  rcases hq with rfl
  · obtain ⟨f1, f2, f3, f4, f5⟩ := as_fx H1
    simp only [kh_cComes_b51_0, fx_env, fx_c, fx_ne, fx_hf, wl_S, Nat.zero_add, Nat.reduceAdd, Nat.reduceDiv, Nat.reduceMod, List.getElem?_cons_zero, List.getElem?_cons_succ, if_true, and_true, true_and] at f1 f2 f3 f4 f5
    have fe0 : nv β 0 = 805 := by omega
    have fe4 : nv β 4 = 806 := by omega
    have fe5 : nv β 5 = 4076 := by omega
    have fe8 : nv β 8 = 806 := by omega
    have fe9 : nv β 9 = 4060 := by omega
    try simp only [fe0, fe4, fe5, fe8, fe9, Int.reduceToNat] at f2 f3 f4 f5
    have s0 : nv β 0 = nv α1 0 := nv_le H1.1 (by omega)
    have s1 : nv β 1 = nv α1 1 := nv_le H1.1 (by omega)
    have s2 : nv β 2 = nv α1 2 := nv_le H1.1 (by omega)
    have s3 : nv β 3 = nv α1 3 := nv_le H1.1 (by omega)
    obtain ⟨c0, c1, c2, c3, c4, c5⟩ := f2
    have o2 := old_0 c2 rfl
    have o4 := old_0 c4 rfl
    have hrow : S'.1 806 = (rw_u (S1.1 806) (nv β 6).toNat (nv β 13)) := by rw [f5]; simp only [row_806]
    have hne : ∀ i : Nat, i ≠ (nv β 6).toNat → S'.1 806 i = S1.1 806 i := fun i n0 => by rw [hrow, rw_u_ne n0]
    have v0 : (S'.1 806 (nv β 6).toNat).toInt = nv β 13 := by rw [hrow, rw_u_eq (by omega)]
    have z1 : nv α 1 = nv xs 1 := nv_le H.1 (by omega)
    have hst : ∀ q : Nat, q < 4 → stE (S'.1 806) q = stE (S1.1 806) q + (if (q : Int) = nv xs 1 then nv β 13 - nv β 7 else 0) := by
      intro q hq
      by_cases e : (q : Int) = nv xs 1
      · rw [if_pos e]
        have e1 : (S'.1 806 (4076 + q)).toInt = nv β 13 := by rw [show 4076 + q = (nv β 6).toNat by omega]; exact v0
        have e0 : (S1.1 806 (4076 + q)).toInt = nv β 7 := by rw [show 4076 + q = (nv β 6).toNat by omega]; exact o4
        unfold stE
        rw [hne (4060 + q) (by omega), hne (4072 + q) (by omega), hne (4068 + q) (by omega), e1, e0]
        omega
      · rw [if_neg e]
        unfold stE
        rw [hne _ (by omega), hne _ (by omega), hne _ (by omega), hne _ (by omega)]
        omega
    have hg : stF (S'.1 806) := by
      intro q hq
      have h1 := hst q hq
      have h2 := hp q hq
      show stE (S'.1 806) q % 4294967296 = 0
      rw [h1]
      by_cases e : (q : Int) = nv xs 1
      · rw [if_pos e] at h2 ⊢
        rw [show 4060 + (nv xs 1).toNat = (nv β 10).toNat by omega, o2] at h2
        omega
      · rw [if_neg e] at h2 ⊢; omega
    exact hd_run G (ss := []) (fuel := 20) (by decide +kernel) (as_fl_in (f := [513]) (as_backM H1 (by decide +kernel) hxa hf) (fun g hg' => by
      rcases List.mem_singleton.mp hg' with rfl
      rw [wd_fl2, if_neg (by decide)]
      exact hg))
set_option maxHeartbeats 16000000 in
set_option maxRecDepth 8000 in
theorem kh_cComes_ok : ct_ok wd_fl2 kh_cComes := ct_hand (ff := wd_ff2) (y := kh_cComes_y) (Cs := []) wd_fl2_ok rfl (List.forall_mem_nil _) (by decide +kernel) (fun l D tc ad kd N sm xs S p e s m args below meth c sz lv G H0 => by
  have hx : xs.length = 3 := by rw [H0.2.1.1]; rfl
  have q513 : stF (S.1 806) := by
    have h := H0.2.2.2.2.2.2.2.2.1 513 (by decide +kernel)
    rw [wd_fl2, if_neg (by decide)] at h
    exact h
  have hP : ∀ (k : Nat), kh_cComes_I l D tc ad kd N sm xs S p e s m args below meth c sz k := by
    intro k
    induction k with
    | zero => exact ⟨fun _ _ _ _ _ _ h => absurd h (Nat.not_lt_zero _), fun _ _ _ _ _ _ h => absurd h (Nat.not_lt_zero _), trivial⟩
    | succ k ih => exact ⟨kh_cComes_h37 G H0 ih, kh_cComes_h51 G H0 ih, trivial⟩
  obtain ⟨α1, hle, Hr⟩ := as_recM (pl := []) [((806, 806), (4060, 4063, 1))] (by decide +kernel) H0
  have hf := H0.2.2.2.2.2.2.2.2.2.2.1
  have hl1 : α1.length = 3 := by rw [Hr.2.1.1]; rfl
  have hl0 : xs.length = 3 := by rw [H0.2.1.1]; rfl
  have hxa : al_le xs α1 := H0.1.trans hle
  obtain ⟨g1, -, g3, g4, -⟩ := as_fx Hr
  have g0 : (805 ≤ nv α1 0 ∧ nv α1 0 ≤ 805) ∧ (0 ≤ nv α1 1 ∧ nv α1 1 ≤ 3) ∧ ((-2147483648) ≤ nv α1 2 ∧ nv α1 2 ≤ 2147483647) ∧ True := by
    refine ⟨by have h := (en_nv (i := 0) Hr.2.1 rfl).2; exact h, by have h := (en_nv (i := 1) Hr.2.1 rfl).2; exact h, by have h := (en_nv (i := 2) Hr.2.1 rfl).2; exact h, trivial⟩
  have r0 : nv α1 0 = nv xs 0 := nv_le hle (by omega)
  have r1 : nv α1 1 = nv xs 1 := nv_le hle (by omega)
  have r2 : nv α1 2 = nv xs 2 := nv_le hle (by omega)
  refine hd_segM G (na := 3) (fuel := 600) (first := true) (Bs := [kh_cComes_b0_0, kh_cComes_b0_1]) (by decide +kernel) hl1 Hr ?_
  intro q hq β lv' st' S' H1
  simp only [List.mem_cons, List.not_mem_nil, or_false] at hq
  rcases hq with rfl | rfl
  · obtain ⟨f1, f2, f3, f4, f5⟩ := as_fx H1
    simp only [kh_cComes_b0_0, fx_env, fx_c, fx_ne, fx_hf, wl_S, Nat.zero_add, Nat.reduceAdd, Nat.reduceDiv, Nat.reduceMod, List.getElem?_cons_zero, List.getElem?_cons_succ, if_true, and_true, true_and] at f1 f2 f3 f4 f5
    have fe0 : nv β 0 = 805 := by omega
    have fe3 : nv β 3 = 806 := by omega
    have fe4 : nv β 4 = 4060 := by omega
    have fe8 : nv β 8 = 806 := by omega
    have fe9 : nv β 9 = 4060 := by omega
    have fe11 : nv β 11 = 999 := by omega
    have fe12 : nv β 12 = 999 := by omega
    try simp only [fe0, fe3, fe4, fe8, fe9, fe11, fe12, Int.reduceToNat] at f2 f3 f4 f5
    have s0 : nv β 0 = nv α1 0 := nv_le H1.1 (by omega)
    have s1 : nv β 1 = nv α1 1 := nv_le H1.1 (by omega)
    have s2 : nv β 2 = nv α1 2 := nv_le H1.1 (by omega)
    obtain ⟨c0, c1, c2, c3, c4⟩ := f2
    obtain ⟨α', Ha, hm⟩ := hd_gpM (q := kh_cComes_a37) (n := 0) (by decide +kernel) hx H1 (by decide +kernel) hxa hf
    have hfr := H1.2.2.2.2.2.2.2.2.2.2.1
    have m0 : nv α' 0 = nv β 0 := hm 0 0 rfl
    have m1 : nv α' 1 = nv β 1 := hm 1 1 rfl
    have m2 : nv α' 2 = nv β 2 := hm 2 2 rfl
    have m3 : nv α' 3 = nv β 7 := hm 3 7 rfl
    have o3 := old_0 c3 rfl
    have hrow : S'.1 806 = (rw_u (S.1 806) (nv β 10).toNat (999)) := by rw [f5]; simp only [row_806]
    have hne : ∀ i : Nat, i ≠ (nv β 10).toNat → S'.1 806 i = S.1 806 i := fun i n0 => by rw [hrow, rw_u_ne n0]
    have v0 : (S'.1 806 (nv β 10).toNat).toInt = 999 := by rw [hrow, rw_u_eq (by omega)]
    have z1 : nv α1 1 = nv xs 1 := by omega
    have hst : ∀ q : Nat, q < 4 → stE (S'.1 806) q = stE (S.1 806) q + (if (q : Int) = nv xs 1 then 999 - nv β 6 else 0) := by
      intro q hq
      by_cases e : (q : Int) = nv xs 1
      · rw [if_pos e]
        have e1 : (S'.1 806 (4060 + q)).toInt = 999 := by rw [show 4060 + q = (nv β 10).toNat by omega]; exact v0
        have e0 : (S.1 806 (4060 + q)).toInt = nv β 6 := by rw [show 4060 + q = (nv β 5).toNat by omega]; exact o3
        unfold stE
        rw [hne (4072 + q) (by omega), hne (4076 + q) (by omega), hne (4068 + q) (by omega), e1, e0]
        omega
      · rw [if_neg e]
        unfold stE
        rw [hne _ (by omega), hne _ (by omega), hne _ (by omega), hne _ (by omega)]
        omega
    have z2 : nv α1 2 = nv xs 2 := by omega
    have hsc : ∀ q : Nat, (q : Int) = nv xs 1 → (S'.1 806 (4060 + q)).toInt = 999 := fun q e => by rw [show 4060 + q = (nv β 10).toNat by omega]; exact v0
    refine (hP _).1 _ _ _ _ Ha ?_ (Nat.lt_succ_self _)
    · intro q hq
      have h1 := hst q hq
      have h2 := q513 q hq
      change stE (S.1 806) q % 4294967296 = 0 at h2
      rw [h1, m3]
      by_cases e : (q : Int) = nv xs 1
      · have h3 := hsc (nv xs 1).toNat (by omega)
        rw [if_pos e, if_pos e, h3]
        omega
      · rw [if_neg e, if_neg e]; omega
  · obtain ⟨f1, f2, f3, f4, f5⟩ := as_fx H1
    simp only [kh_cComes_b0_1, fx_env, fx_c, fx_ne, fx_hf, wl_S, Nat.zero_add, Nat.reduceAdd, Nat.reduceDiv, Nat.reduceMod, List.getElem?_cons_zero, List.getElem?_cons_succ, if_true, and_true, true_and] at f1 f2 f3 f4 f5
    have fe0 : nv β 0 = 805 := by omega
    have fe3 : nv β 3 = 806 := by omega
    have fe4 : nv β 4 = 4060 := by omega
    have fe8 : nv β 8 = 806 := by omega
    have fe9 : nv β 9 = 4060 := by omega
    have fe11 : nv β 11 = 999 := by omega
    try simp only [fe0, fe3, fe4, fe8, fe9, fe11, Int.reduceToNat] at f2 f3 f4 f5
    have s0 : nv β 0 = nv α1 0 := nv_le H1.1 (by omega)
    have s1 : nv β 1 = nv α1 1 := nv_le H1.1 (by omega)
    have s2 : nv β 2 = nv α1 2 := nv_le H1.1 (by omega)
    obtain ⟨c0, c1, c2, c3, c4⟩ := f2
    obtain ⟨α', Ha, hm⟩ := hd_gpM (q := kh_cComes_a37) (n := 0) (by decide +kernel) hx H1 (by decide +kernel) hxa hf
    have hfr := H1.2.2.2.2.2.2.2.2.2.2.1
    have m0 : nv α' 0 = nv β 0 := hm 0 0 rfl
    have m1 : nv α' 1 = nv β 1 := hm 1 1 rfl
    have m2 : nv α' 2 = nv β 2 := hm 2 2 rfl
    have m3 : nv α' 3 = nv β 7 := hm 3 7 rfl
    have o3 := old_0 c3 rfl
    have hrow : S'.1 806 = (rw_u (S.1 806) (nv β 10).toNat (nv β 7)) := by rw [f5]; simp only [row_806]
    have hne : ∀ i : Nat, i ≠ (nv β 10).toNat → S'.1 806 i = S.1 806 i := fun i n0 => by rw [hrow, rw_u_ne n0]
    have v0 : (S'.1 806 (nv β 10).toNat).toInt = nv β 7 := by rw [hrow, rw_u_eq (by omega)]
    have z1 : nv α1 1 = nv xs 1 := by omega
    have hst : ∀ q : Nat, q < 4 → stE (S'.1 806) q = stE (S.1 806) q + (if (q : Int) = nv xs 1 then nv β 7 - nv β 6 else 0) := by
      intro q hq
      by_cases e : (q : Int) = nv xs 1
      · rw [if_pos e]
        have e1 : (S'.1 806 (4060 + q)).toInt = nv β 7 := by rw [show 4060 + q = (nv β 10).toNat by omega]; exact v0
        have e0 : (S.1 806 (4060 + q)).toInt = nv β 6 := by rw [show 4060 + q = (nv β 5).toNat by omega]; exact o3
        unfold stE
        rw [hne (4072 + q) (by omega), hne (4076 + q) (by omega), hne (4068 + q) (by omega), e1, e0]
        omega
      · rw [if_neg e]
        unfold stE
        rw [hne _ (by omega), hne _ (by omega), hne _ (by omega), hne _ (by omega)]
        omega
    have z2 : nv α1 2 = nv xs 2 := by omega
    have hsc : ∀ q : Nat, (q : Int) = nv xs 1 → (S'.1 806 (4060 + q)).toInt = nv β 7 := fun q e => by rw [show 4060 + q = (nv β 10).toNat by omega]; exact v0
    refine (hP _).1 _ _ _ _ Ha ?_ (Nat.lt_succ_self _)
    · intro q hq
      have h1 := hst q hq
      have h2 := q513 q hq
      change stE (S.1 806) q % 4294967296 = 0 at h2
      rw [h1, m3]
      by_cases e : (q : Int) = nv xs 1
      · have h3 := hsc (nv xs 1).toNat (by omega)
        rw [if_pos e, if_pos e, h3]
        omega
      · rw [if_neg e, if_neg e]; omega)
abbrev kh_storesDay2_y : mt_T := (⟨"UtilityWorksModel", "storesDay", "()V"⟩, prog_14_method_296_code, 5, none, 12, 1, 0, 35150, 35149, 14013, 21014)
def kh_storesDay2 : ct_T := (523, [(2, 805, 805, 0)], [], [513], [(0, (0, 0, 0, 0), [(2, 805, 805, 0)], [], ([513], []))], [((806, 806), (4060, 4063, 1)), ((806, 806), (4072, 4075, 1)), ((806, 806), (4076, 4079, 1)), ((806, 806), (4080, 4080, 0)), ((806, 806), (4081, 4104, 1)), ((807, 807), (2860, 2860, 0)), ((807, 807), (2865, 2865, 0)), ((807, 807), (3501, 3501, 0))], 2, 44, 0)
def kh_storesDay2_a4 : an_T := (4, 0, ([((2, 805, 805, 0), none), ((0, 0, 8, 1), none), ((0, 0, 8, 1), none)], [(0, 0), (1, 1), (2, 2)], [], [], [], [], [], [513], none), [])
def kh_storesDay2_a70 : an_T := (70, 0, ([((2, 805, 805, 0), none), ((0, 0, 8, 1), none), ((0, 0, 7, 1), none)], [(0, 0), (1, 1), (2, 2)], [], [], [], [], [], [513], none), [])
def kh_storesDay2_a124 : an_T := (124, 0, ([((2, 805, 805, 0), none), ((0, 0, 8, 1), none), ((0, 0, 24, 1), none)], [(0, 0), (1, 1), (2, 2)], [], [], [], [], [], [513], none), [])
def kh_storesDay2_a158 : an_T := (158, 0, ([((2, 805, 805, 0), none), ((0, 0, 8, 1), none), ((0, 0, 4, 1), none)], [(0, 0), (1, 1), (2, 2)], [], [], [], [], [], [513], none), [])
def kh_storesDay2_b0_0 : sg_T := (4, 0, ([((2, 805, 805, 0), none), ((0, 0, 0, 0), none), ((0, 0, 0, 0), none)], [(2, 2), (1, 1), (0, 0)], [], [], [], [], [], [513], some []))
def kh_storesDay2_b4_0 : sg_T := (124, 0, ([((2, 805, 805, 0), none), ((0, 0, 8, 1), none), ((0, 0, 8, 1), none), ((2, 806, 806, 1), none), ((0, 4080, 4080, 0), none), ((0, 0, 8, 1), none), ((0, 3, 3, 0), none), ((0, 0, 24, 3), none)], [(2, 7), (0, 0), (1, 1)], [], [(3, 4, 5)], [], [(700007, 6, 1), (200000, 5, 2), (800005, 3, 4)], [], [513], some []))
def kh_storesDay2_b4_1 : sg_T := (70, 0, ([((2, 805, 805, 0), none), ((0, 0, 8, 1), none), ((0, 0, 7, 1), none), ((2, 806, 806, 1), none), ((0, 4080, 4080, 0), none), ((0, 1, 8, 1), none), ((2, 806, 806, 1), none), ((0, 4081, 4081, 0), none), ((0, 3, 3, 0), none), ((0, 0, 21, 3), none), ((0, 4081, 4102, 3), none), ((0, 2, 2, 0), none), ((0, 4083, 4104, 3), some (10, 2)), ((0, 1, 2147483647, 1), none), ((0, 0, 999, 1), none)], [(0, 0), (1, 1), (2, 2)], [], [(6, 12, 13), (3, 4, 5)], [], [(100000, 14, 13), (800013, 6, 12), (500012, 10, 11), (500010, 7, 9), (700009, 8, 2), (100000, 2, 5), (800005, 3, 4)], [], [513], some []))
def kh_storesDay2_b4_2 : sg_T := (4, 0, ([((2, 805, 805, 0), none), ((0, 0, 8, 1), none), ((0, 0, 7, 1), none), ((2, 806, 806, 1), none), ((0, 4080, 4080, 0), none), ((0, 1, 8, 1), none), ((2, 806, 806, 1), none), ((0, 4081, 4081, 0), none), ((0, 3, 3, 0), none), ((0, 0, 21, 3), none), ((0, 4081, 4102, 3), none), ((0, 2, 2, 0), none), ((0, 4083, 4104, 3), some (10, 2)), ((0, (-2147483648), 999, 1), none), ((0, 0, 999, 1), none), ((2, 806, 806, 1), none), ((0, 4081, 4081, 0), none), ((0, 3, 3, 0), none), ((0, 0, 21, 3), none), ((0, 4081, 4102, 3), none), ((0, 0, 3, 1), none), ((2, 806, 806, 1), none), ((0, 4081, 4081, 0), none), ((0, 3, 3, 0), none), ((0, 0, 21, 3), none), ((0, 4081, 4102, 3), none), ((0, 1, 1, 0), none), ((0, 4082, 4103, 3), some (25, 1)), ((0, (-2147483648), 2147483647, 1), none), ((0, 1, 8, 1), some (2, 1))], [(2, 29), (0, 0), (1, 1)], [], [(21, 27, 28), (15, 19, 20), (6, 12, 13), (3, 4, 5)], [], [(800028, 21, 27), (500027, 25, 26), (500025, 22, 24), (700024, 23, 2), (800020, 15, 19), (500019, 16, 18), (700018, 17, 2), (200000, 13, 14), (800013, 6, 12), (500012, 10, 11), (500010, 7, 9), (700009, 8, 2), (100000, 2, 5), (800005, 3, 4)], [], [513], none))
def kh_storesDay2_b70_0 : sg_T := (4, 0, ([((2, 805, 805, 0), none), ((0, 0, 7, 1), none), ((0, 0, 7, 1), none), ((0, 0, 0, 0), none), ((0, 3, 3, 0), none), ((2, 806, 806, 1), none), ((0, 4081, 4081, 0), none), ((0, 3, 3, 0), none), ((0, 0, 21, 3), none), ((0, 4081, 4102, 3), none), ((0, 4081, 4102, 3), some (9, 0)), ((2, 806, 806, 1), none), ((0, 4081, 4081, 0), none), ((0, 3, 3, 0), none), ((0, 0, 21, 3), none), ((0, 4081, 4102, 3), none), ((0, 4081, 4102, 3), some (15, 0)), ((0, 0, 3, 1), none), ((0, 1, 1, 0), some (3, 1)), ((0, 3, 3, 0), none), ((2, 806, 806, 1), none), ((0, 4081, 4081, 0), none), ((0, 3, 3, 0), none), ((0, 0, 21, 3), none), ((0, 4081, 4102, 3), none), ((0, 4082, 4103, 3), some (24, 1)), ((2, 806, 806, 1), none), ((0, 4081, 4081, 0), none), ((0, 3, 3, 0), none), ((0, 0, 21, 3), none), ((0, 4081, 4102, 3), none), ((0, 4082, 4103, 3), some (30, 1)), ((0, (-2147483648), 2147483647, 1), none), ((0, 2, 2, 0), some (3, 2)), ((0, 3, 3, 0), none), ((2, 806, 806, 1), none), ((0, 4081, 4081, 0), none), ((0, 3, 3, 0), none), ((0, 0, 21, 3), none), ((0, 4081, 4102, 3), none), ((0, 4083, 4104, 3), some (39, 2)), ((2, 806, 806, 1), none), ((0, 4081, 4081, 0), none), ((0, 3, 3, 0), none), ((0, 0, 21, 3), none), ((0, 4081, 4102, 3), none), ((0, 4083, 4104, 3), some (45, 2)), ((0, (-2147483648), 2147483647, 1), none), ((0, 3, 3, 0), some (3, 3)), ((0, 3, 3, 0), none), ((0, 1, 8, 1), some (1, 1)), ((0, 1, 8, 1), some (2, 1))], [(2, 51), (1, 50), (3, 48), (0, 0)], [], [(35, 40, 47), (20, 25, 32), (5, 10, 17)], [], [(200000, 49, 48), (500046, 45, 33), (500045, 42, 44), (700044, 43, 2), (500040, 39, 33), (500039, 36, 38), (700038, 37, 1), (100000, 33, 34), (500031, 30, 18), (500030, 27, 29), (700029, 28, 2), (500025, 24, 18), (500024, 21, 23), (700023, 22, 1), (100000, 18, 19), (800017, 11, 16), (500016, 15, 3), (500015, 12, 14), (700014, 13, 2), (500010, 9, 3), (500009, 6, 8), (700008, 7, 1), (100000, 3, 4)], [], [513], some [(35, 40, 47), (20, 25, 32), (5, 10, 17)]))
def kh_storesDay2_b124_0 : sg_T := (158, 0, ([((2, 805, 805, 0), none), ((0, 0, 8, 1), none), ((0, 24, 24, 1), none), ((0, 24, 24, 0), none), ((2, 806, 806, 1), none), ((0, 4080, 4080, 0), none), ((0, 0, 0, 0), none)], [(2, 6), (0, 0), (1, 1)], [], [(4, 5, 1)], [], [(200000, 3, 2)], [], [513], some [(4, 5, 1)]))
def kh_storesDay2_b124_1 : sg_T := (124, 0, ([((2, 805, 805, 0), none), ((0, 0, 8, 1), none), ((0, 0, 23, 1), none), ((0, 24, 24, 0), none), ((2, 806, 806, 1), none), ((0, 4081, 4081, 0), none), ((0, 4081, 4104, 1), none), ((0, 0, 0, 0), none), ((0, 1, 24, 1), some (2, 1))], [(2, 8), (0, 0), (1, 1)], [], [(4, 6, 7)], [], [(500006, 5, 2), (100000, 2, 3)], [], [513], some [(4, 6, 7)]))
def kh_storesDay2_b158_0 : sg_T := (252, 0, ([((2, 805, 805, 0), none), ((0, 0, 8, 1), none), ((0, 4, 4, 1), none), ((0, 4, 4, 0), none)], [(0, 0), (1, 1), (2, 2)], [], [], [], [(200000, 3, 2)], [], [513], some []))
def kh_storesDay2_b158_1 : sg_T := (158, 0, ([((2, 805, 805, 0), none), ((0, 0, 8, 1), none), ((0, 0, 3, 1), none), ((0, 4, 4, 0), none), ((2, 806, 806, 1), none), ((0, 4060, 4060, 0), none), ((0, 4060, 4063, 1), none), ((0, (-2147483648), 2147483647, 1), none), ((0, (-2147483648), 2147483647, 1), none), ((0, (-2147483648), 2147483647, 1), none), ((0, 2, 2, 0), none), ((2, 806, 806, 1), none), ((0, 4064, 4064, 0), none), ((0, 4064, 4067, 1), none), ((0, (-2147483648), 2147483647, 1), none), ((0, (-2147483648), 2147483647, 1), none), ((0, (-2147483648), 2147483647, 1), none), ((2, 806, 806, 1), none), ((0, 4064, 4064, 0), none), ((0, 4064, 4067, 1), none), ((0, (-2147483648), 2147483647, 1), none), ((0, 1, 4, 1), some (2, 1))], [(2, 21), (4, 16), (3, 9), (0, 0), (1, 1)], [], [(17, 19, 20), (11, 13, 14), (4, 6, 7)], [], [(200000, 20, 9), (800020, 17, 19), (500019, 18, 2), (800014, 11, 13), (500013, 12, 2), (800007, 4, 6), (500006, 5, 2), (100000, 2, 3)], [], [513], some []))
def kh_storesDay2_b158_2 : sg_T := (158, 0, ([((2, 805, 805, 0), none), ((0, 0, 8, 1), none), ((0, 0, 3, 1), none), ((0, 4, 4, 0), none), ((2, 806, 806, 1), none), ((0, 4060, 4060, 0), none), ((0, 4060, 4063, 1), none), ((0, (-2147483648), 2147483647, 1), none), ((0, (-2147483648), 2147483647, 1), none), ((0, (-2147483648), 2147483646, 1), none), ((0, 2, 2, 0), none), ((2, 806, 806, 1), none), ((0, 4064, 4064, 0), none), ((0, 4064, 4067, 1), none), ((0, (-2147483648), 2147483647, 1), none), ((0, (-2147483648), 2147483647, 1), none), ((0, (-2147483648), 2147483647, 1), none), ((2, 806, 806, 1), none), ((0, 4064, 4064, 0), none), ((0, 4064, 4067, 1), none), ((0, (-2147483647), 2147483647, 1), none), ((2, 806, 806, 1), none), ((0, 4080, 4080, 0), none), ((0, 8, 8, 1), none), ((0, 8, 8, 0), none), ((0, 1, 4, 1), some (2, 1))], [(2, 25), (4, 16), (3, 9), (0, 0), (1, 1)], [], [(21, 22, 23), (17, 19, 20), (11, 13, 14), (4, 6, 7)], [], [(200000, 24, 23), (800023, 21, 22), (100000, 9, 20), (800020, 17, 19), (500019, 18, 2), (800014, 11, 13), (500013, 12, 2), (800007, 4, 6), (500006, 5, 2), (100000, 2, 3)], [], [513], some []))
def kh_storesDay2_b158_3 : sg_T := (158, 0, ([((2, 805, 805, 0), none), ((0, 0, 8, 1), none), ((0, 0, 3, 1), none), ((0, 4, 4, 0), none), ((2, 806, 806, 1), none), ((0, 4060, 4060, 0), none), ((0, 4060, 4063, 1), none), ((0, (-2147483648), 2147483647, 1), none), ((0, (-2147483648), 2147483647, 1), none), ((0, (-2147483648), 2147483646, 1), none), ((0, 2, 2, 0), none), ((2, 806, 806, 1), none), ((0, 4064, 4064, 0), none), ((0, 4064, 4067, 1), none), ((0, (-2147483648), 2147483647, 1), none), ((0, (-2147483648), 2147483647, 1), none), ((0, (-2147483648), 2147483647, 1), none), ((2, 806, 806, 1), none), ((0, 4064, 4064, 0), none), ((0, 4064, 4067, 1), none), ((0, (-2147483647), 2147483647, 1), none), ((2, 806, 806, 1), none), ((0, 4080, 4080, 0), none), ((0, 0, 7, 1), none), ((0, 8, 8, 0), none), ((1, (-9223372036854775808), 2147483646, 1), none), ((0, 5, 600, 5), none), ((0, (-2147483648), 2147483647, 1), none), ((1, (-2147483648), 2147483647, 1), none), ((0, (-1), (-1), 1), none), ((0, 1, 4, 1), some (2, 1))], [(2, 30), (4, 16), (3, 9), (0, 0), (1, 1)], [], [(21, 22, 23), (17, 19, 20), (11, 13, 14), (4, 6, 7)], [], [(29, 25, 28), (100000, 23, 24), (800023, 21, 22), (100000, 9, 20), (800020, 17, 19), (500019, 18, 2), (800014, 11, 13), (500013, 12, 2), (800007, 4, 6), (500006, 5, 2), (100000, 2, 3)], [], [513], some []))
def kh_storesDay2_b158_4 : sg_T := (158, 0, ([((2, 805, 805, 0), none), ((0, 0, 8, 1), none), ((0, 0, 3, 1), none), ((0, 4, 4, 0), none), ((2, 806, 806, 1), none), ((0, 4060, 4060, 0), none), ((0, 4060, 4063, 1), none), ((0, (-2147483648), 2147483647, 1), none), ((0, (-2147483648), 2147483647, 1), none), ((0, (-2147483648), 2147483646, 1), none), ((0, 2, 2, 0), none), ((2, 806, 806, 1), none), ((0, 4064, 4064, 0), none), ((0, 4064, 4067, 1), none), ((0, (-2147483648), 2147483647, 1), none), ((0, (-2147483648), 2147483647, 1), none), ((0, (-2147483648), 2147483647, 1), none), ((2, 806, 806, 1), none), ((0, 4064, 4064, 0), none), ((0, 4064, 4067, 1), none), ((0, (-2147483647), 2147483647, 1), none), ((2, 806, 806, 1), none), ((0, 4080, 4080, 0), none), ((0, 0, 7, 1), none), ((0, 8, 8, 0), none), ((1, (-2147483648), 9223372036854775807, 1), none), ((0, 5, 600, 5), none), ((0, (-2147483648), 2147483647, 1), none), ((1, (-2147483648), 2147483647, 1), none), ((0, 0, 1, 1), none), ((0, 1, 4, 1), some (2, 1))], [(2, 30), (4, 16), (3, 9), (0, 0), (1, 1)], [], [(17, 19, 20), (11, 13, 14), (4, 6, 7)], [], [(29, 25, 28), (100000, 23, 24), (800023, 21, 22), (100000, 9, 20), (800020, 17, 19), (500019, 18, 2), (800014, 11, 13), (500013, 12, 2), (800007, 4, 6), (500006, 5, 2), (100000, 2, 3)], [], [513], none))
def kh_storesDay2_I (l : Launch) (D : va_G) (tc : Nat → ClassId) (ad : Nat → Nat) (kd : Nat → Nat × Nat) (N : Nat) (sm : Nat → Nat) (xs : List av_X) (S : fw_S) (p : Program) (e : Env) (s : State) (m : MethodId) (args : Array Value) (below : List Frame) (meth : Method) (c : Code) (sz : Nat) (k : Nat) : Prop := (∀ (α : List av_X) (lv : List (Nat × Value)) (st : List Value) (S1 : fw_S), as_in ad sm wd_fl2 xs S kh_storesDay2.2.2.2.2.2.1 α kh_storesDay2_a4.2.2.1 lv st S1 → (0 ≤ nv α 1 ∧ nv α 1 ≤ nv α 2 ∧ 0 ≤ nv α 2 ∧ nv α 2 ≤ 8) → 10000 + (8 - nv α 2).toNat * 10 + 5 < k → hd_W wd_fl2 kh_storesDay2 kh_storesDay2_y l D tc ad kd N sm xs S p e s m args below meth c sz 4 lv st S1 0) ∧ (∀ (α : List av_X) (lv : List (Nat × Value)) (st : List Value) (S1 : fw_S), as_in ad sm wd_fl2 xs S kh_storesDay2.2.2.2.2.2.1 α kh_storesDay2_a70.2.2.1 lv st S1 → (0 ≤ nv α 1 ∧ nv α 1 ≤ nv α 2 ∧ 0 ≤ nv α 2 ∧ nv α 2 ≤ 7) → 10000 + (8 - nv α 2).toNat * 10 + 1 < k → hd_W wd_fl2 kh_storesDay2 kh_storesDay2_y l D tc ad kd N sm xs S p e s m args below meth c sz 70 lv st S1 0) ∧ (∀ (α : List av_X) (lv : List (Nat × Value)) (st : List Value) (S1 : fw_S), as_in ad sm wd_fl2 xs S kh_storesDay2.2.2.2.2.2.1 α kh_storesDay2_a124.2.2.1 lv st S1 → (True) → 5000 + (24 - nv α 2).toNat < k → hd_W wd_fl2 kh_storesDay2 kh_storesDay2_y l D tc ad kd N sm xs S p e s m args below meth c sz 124 lv st S1 0) ∧ (∀ (α : List av_X) (lv : List (Nat × Value)) (st : List Value) (S1 : fw_S), as_in ad sm wd_fl2 xs S kh_storesDay2.2.2.2.2.2.1 α kh_storesDay2_a158.2.2.1 lv st S1 → (True) → (4 - nv α 2).toNat < k → hd_W wd_fl2 kh_storesDay2 kh_storesDay2_y l D tc ad kd N sm xs S p e s m args below meth c sz 158 lv st S1 0) ∧ True
set_option maxHeartbeats 16000000 in
set_option maxRecDepth 8000 in
theorem kh_storesDay2_h4 {l : Launch} {D : va_G} {tc : Nat → ClassId} {ad : Nat → Nat} {kd : Nat → Nat × Nat} {N : Nat} {sm : Nat → Nat} {xs : List av_X} {S : fw_S} {p : Program} {e : Env} {s : State} {m : MethodId} {args : Array Value} {below : List Frame} {meth : Method} {c : Code} {sz : Nat} {lvE : List (Nat × Value)} (G : hd_C wd_ff2 wd_fl2 kh_storesDay2 [kh_405, kh_cComes, kh_407, kh_408, kh_409, kh_411, kh_412, kh_413, kh_414, kh_415, kh_416, kh_417, kh_418, kh_419, kh_420] kh_storesDay2_y l D tc ad kd N sm xs p s m args meth c sz) (H0 : as_in ad sm wd_fl2 xs S kh_storesDay2.2.2.2.2.2.1 xs (hd_0 kh_storesDay2) lvE [] S) {k : Nat} (ih : kh_storesDay2_I l D tc ad kd N sm xs S p e s m args below meth c sz k) : (∀ (α : List av_X) (lv : List (Nat × Value)) (st : List Value) (S1 : fw_S), as_in ad sm wd_fl2 xs S kh_storesDay2.2.2.2.2.2.1 α kh_storesDay2_a4.2.2.1 lv st S1 → (0 ≤ nv α 1 ∧ nv α 1 ≤ nv α 2 ∧ 0 ≤ nv α 2 ∧ nv α 2 ≤ 8) → 10000 + (8 - nv α 2).toNat * 10 + 5 < k + 1 → hd_W wd_fl2 kh_storesDay2 kh_storesDay2_y l D tc ad kd N sm xs S p e s m args below meth c sz 4 lv st S1 0) := by
  have hx : xs.length = 1 := by rw [H0.2.1.1]; rfl
  intro α lv st S1 H hp hk
  have bp := (en_nv (i := 1) H.2.1 rfl).2
  change 0 ≤ nv α 1 ∧ nv α 1 ≤ 8 at bp
  replace H := as_clamp (i := 1) (lo := 0) (hi := 8) H rfl rfl (by omega) (by omega) (by decide)
  have bp := (en_nv (i := 2) H.2.1 rfl).2
  change 0 ≤ nv α 2 ∧ nv α 2 ≤ 8 at bp
  replace H := as_clamp (i := 2) (lo := 0) (hi := 8) H rfl rfl (by omega) (by omega) (by decide)
  obtain ⟨α1, hle, Hr⟩ := as_recM (pl := []) [((806, 806), (4060, 4063, 1)), ((806, 806), (4072, 4075, 1)), ((806, 806), (4076, 4079, 1))] (by decide +kernel) H
  have hf := H.2.2.2.2.2.2.2.2.2.2.1
  have hl1 : α1.length = 3 := by rw [Hr.2.1.1]; rfl
  have hl0 : α.length = 3 := by rw [H.2.1.1]; rfl
  have hxa : al_le xs α1 := H.1.trans hle
  obtain ⟨g1, -, g3, g4, -⟩ := as_fx Hr
  have g0 : (805 ≤ nv α1 0 ∧ nv α1 0 ≤ 805) ∧ (0 ≤ nv α1 1 ∧ nv α1 1 ≤ 8) ∧ (0 ≤ nv α1 2 ∧ nv α1 2 ≤ 8) ∧ True := by
    refine ⟨by have h := (en_nv (i := 0) Hr.2.1 rfl).2; exact h, by have h := (en_nv (i := 1) Hr.2.1 rfl).2; exact h, by have h := (en_nv (i := 2) Hr.2.1 rfl).2; exact h, trivial⟩
  have r0 : nv α1 0 = nv α 0 := nv_le hle (by omega)
  have r1 : nv α1 1 = nv α 1 := nv_le hle (by omega)
  have r2 : nv α1 2 = nv α 2 := nv_le hle (by omega)
  refine hd_segM G (na := 3) (fuel := 600) (first := true) (Bs := [kh_storesDay2_b4_0, kh_storesDay2_b4_1, kh_storesDay2_b4_2]) (by decide +kernel) hl1 Hr ?_
  intro q hq β lv' st' S' H1
  simp only [List.mem_cons, List.not_mem_nil, or_false] at hq
  rcases hq with rfl | rfl | rfl
  · obtain ⟨f1, f2, f3, f4, f5⟩ := as_fx H1
    simp only [kh_storesDay2_b4_0, fx_env, fx_c, fx_ne, fx_hf, wl_S, Nat.zero_add, Nat.reduceAdd, Nat.reduceDiv, Nat.reduceMod, List.getElem?_cons_zero, List.getElem?_cons_succ, if_true, and_true, true_and] at f1 f2 f3 f4 f5
    have fe0 : nv β 0 = 805 := by omega
    have fe3 : nv β 3 = 806 := by omega
    have fe4 : nv β 4 = 4080 := by omega
    have fe6 : nv β 6 = 3 := by omega
    try simp only [fe0, fe3, fe4, fe6, Int.reduceToNat] at f2 f3 f4 f5
    have s0 : nv β 0 = nv α1 0 := nv_le H1.1 (by omega)
    have s1 : nv β 1 = nv α1 1 := nv_le H1.1 (by omega)
    have s2 : nv β 2 = nv α1 2 := nv_le H1.1 (by omega)
    obtain ⟨c0, c1, c2⟩ := f2
    obtain ⟨α', Ha, hm⟩ := hd_gpM (q := kh_storesDay2_a124) (n := 0) (by decide +kernel) hx H1 (by decide +kernel) hxa hf
    have hfr := H1.2.2.2.2.2.2.2.2.2.2.1
    have m0 : nv α' 0 = nv β 0 := hm 0 0 rfl
    have m1 : nv α' 1 = nv β 1 := hm 1 1 rfl
    have m2 : nv α' 2 = nv β 7 := hm 2 7 rfl
    subst S'

    refine ih.2.2.1 _ _ _ _ Ha ?_ ?_
    · trivial
    · omega
  · obtain ⟨f1, f2, f3, f4, f5⟩ := as_fx H1
    simp only [kh_storesDay2_b4_1, fx_env, fx_c, fx_ne, fx_hf, wl_S, Nat.zero_add, Nat.reduceAdd, Nat.reduceDiv, Nat.reduceMod, List.getElem?_cons_zero, List.getElem?_cons_succ, if_true, and_true, true_and] at f1 f2 f3 f4 f5
    have fe0 : nv β 0 = 805 := by omega
    have fe3 : nv β 3 = 806 := by omega
    have fe4 : nv β 4 = 4080 := by omega
    have fe6 : nv β 6 = 806 := by omega
    have fe7 : nv β 7 = 4081 := by omega
    have fe8 : nv β 8 = 3 := by omega
    have fe11 : nv β 11 = 2 := by omega
    try simp only [fe0, fe3, fe4, fe6, fe7, fe8, fe11, Int.reduceToNat] at f2 f3 f4 f5
    have s0 : nv β 0 = nv α1 0 := nv_le H1.1 (by omega)
    have s1 : nv β 1 = nv α1 1 := nv_le H1.1 (by omega)
    have s2 : nv β 2 = nv α1 2 := nv_le H1.1 (by omega)
    obtain ⟨c0, c1, c2, c3, c4, c5, c6⟩ := f2
    obtain ⟨α', Ha, hm⟩ := hd_gpM (q := kh_storesDay2_a70) (n := 0) (by decide +kernel) hx H1 (by decide +kernel) hxa hf
    have hfr := H1.2.2.2.2.2.2.2.2.2.2.1
    have m0 : nv α' 0 = nv β 0 := hm 0 0 rfl
    have m1 : nv α' 1 = nv β 1 := hm 1 1 rfl
    have m2 : nv α' 2 = nv β 2 := hm 2 2 rfl
    subst S'

    refine ih.2.1 _ _ _ _ Ha ?_ ?_
    · refine ⟨?_, ?_, ?_, ?_⟩ <;> omega
    · omega
  · obtain ⟨f1, f2, f3, f4, f5⟩ := as_fx H1
    simp only [kh_storesDay2_b4_2, fx_env, fx_c, fx_ne, fx_hf, wl_S, Nat.zero_add, Nat.reduceAdd, Nat.reduceDiv, Nat.reduceMod, List.getElem?_cons_zero, List.getElem?_cons_succ, if_true, and_true, true_and] at f1 f2 f3 f4 f5
    have fe0 : nv β 0 = 805 := by omega
    have fe3 : nv β 3 = 806 := by omega
    have fe4 : nv β 4 = 4080 := by omega
    have fe6 : nv β 6 = 806 := by omega
    have fe7 : nv β 7 = 4081 := by omega
    have fe8 : nv β 8 = 3 := by omega
    have fe11 : nv β 11 = 2 := by omega
    have fe15 : nv β 15 = 806 := by omega
    have fe16 : nv β 16 = 4081 := by omega
    have fe17 : nv β 17 = 3 := by omega
    have fe21 : nv β 21 = 806 := by omega
    have fe22 : nv β 22 = 4081 := by omega
    have fe23 : nv β 23 = 3 := by omega
    have fe26 : nv β 26 = 1 := by omega
    try simp only [fe0, fe3, fe4, fe6, fe7, fe8, fe11, fe15, fe16, fe17, fe21, fe22, fe23, fe26, Int.reduceToNat] at f2 f3 f4 f5
    have s0 : nv β 0 = nv α1 0 := nv_le H1.1 (by omega)
    have s1 : nv β 1 = nv α1 1 := nv_le H1.1 (by omega)
    have s2 : nv β 2 = nv α1 2 := nv_le H1.1 (by omega)
    obtain ⟨c0, c1, c2, c3, c4, c5, c6, c7, c8, c9, c10, c11, c12, c13⟩ := f2
    obtain ⟨α', Ha, hm⟩ := hd_gpM (q := kh_storesDay2_a4) (n := 0) (by decide +kernel) hx H1 (by decide +kernel) hxa hf
    have hfr := H1.2.2.2.2.2.2.2.2.2.2.1
    have m0 : nv α' 0 = nv β 0 := hm 0 0 rfl
    have m1 : nv α' 1 = nv β 1 := hm 1 1 rfl
    have m2 : nv α' 2 = nv β 29 := hm 2 29 rfl

    refine ih.1 _ _ _ _ Ha ?_ ?_
    · refine ⟨?_, ?_, ?_, ?_⟩ <;> omega
    · omega
set_option maxHeartbeats 16000000 in
set_option maxRecDepth 8000 in
theorem kh_storesDay2_h70 {l : Launch} {D : va_G} {tc : Nat → ClassId} {ad : Nat → Nat} {kd : Nat → Nat × Nat} {N : Nat} {sm : Nat → Nat} {xs : List av_X} {S : fw_S} {p : Program} {e : Env} {s : State} {m : MethodId} {args : Array Value} {below : List Frame} {meth : Method} {c : Code} {sz : Nat} {lvE : List (Nat × Value)} (G : hd_C wd_ff2 wd_fl2 kh_storesDay2 [kh_405, kh_cComes, kh_407, kh_408, kh_409, kh_411, kh_412, kh_413, kh_414, kh_415, kh_416, kh_417, kh_418, kh_419, kh_420] kh_storesDay2_y l D tc ad kd N sm xs p s m args meth c sz) (H0 : as_in ad sm wd_fl2 xs S kh_storesDay2.2.2.2.2.2.1 xs (hd_0 kh_storesDay2) lvE [] S) {k : Nat} (ih : kh_storesDay2_I l D tc ad kd N sm xs S p e s m args below meth c sz k) : (∀ (α : List av_X) (lv : List (Nat × Value)) (st : List Value) (S1 : fw_S), as_in ad sm wd_fl2 xs S kh_storesDay2.2.2.2.2.2.1 α kh_storesDay2_a70.2.2.1 lv st S1 → (0 ≤ nv α 1 ∧ nv α 1 ≤ nv α 2 ∧ 0 ≤ nv α 2 ∧ nv α 2 ≤ 7) → 10000 + (8 - nv α 2).toNat * 10 + 1 < k + 1 → hd_W wd_fl2 kh_storesDay2 kh_storesDay2_y l D tc ad kd N sm xs S p e s m args below meth c sz 70 lv st S1 0) := by
  have hx : xs.length = 1 := by rw [H0.2.1.1]; rfl
  intro α lv st S1 H hp hk
  have bp := (en_nv (i := 1) H.2.1 rfl).2
  change 0 ≤ nv α 1 ∧ nv α 1 ≤ 8 at bp
  replace H := as_clamp (i := 1) (lo := 0) (hi := 7) H rfl rfl (by omega) (by omega) (by decide)
  obtain ⟨α1, hle, Hr⟩ := as_recM (pl := []) [((806, 806), (4081, 4102, 3)), ((806, 806), (4082, 4103, 3)), ((806, 806), (4083, 4104, 3))] (by decide +kernel) H
  have hf := H.2.2.2.2.2.2.2.2.2.2.1
  have hl1 : α1.length = 3 := by rw [Hr.2.1.1]; rfl
  have hl0 : α.length = 3 := by rw [H.2.1.1]; rfl
  have hxa : al_le xs α1 := H.1.trans hle
  obtain ⟨g1, -, g3, g4, -⟩ := as_fx Hr
  have g0 : (805 ≤ nv α1 0 ∧ nv α1 0 ≤ 805) ∧ (0 ≤ nv α1 1 ∧ nv α1 1 ≤ 7) ∧ (0 ≤ nv α1 2 ∧ nv α1 2 ≤ 7) ∧ True := by
    refine ⟨by have h := (en_nv (i := 0) Hr.2.1 rfl).2; exact h, by have h := (en_nv (i := 1) Hr.2.1 rfl).2; exact h, by have h := (en_nv (i := 2) Hr.2.1 rfl).2; exact h, trivial⟩
  have r0 : nv α1 0 = nv α 0 := nv_le hle (by omega)
  have r1 : nv α1 1 = nv α 1 := nv_le hle (by omega)
  have r2 : nv α1 2 = nv α 2 := nv_le hle (by omega)
  refine hd_segM G (na := 3) (fuel := 600) (first := true) (Bs := [kh_storesDay2_b70_0]) (by decide +kernel) hl1 Hr ?_
  intro q hq β lv' st' S' H1
  simp only [List.mem_cons, List.not_mem_nil, or_false] at hq
  rcases hq with rfl
  · obtain ⟨f1, f2, f3, f4, f5⟩ := as_fx H1
    simp only [kh_storesDay2_b70_0, fx_env, fx_c, fx_ne, fx_hf, wl_S, Nat.zero_add, Nat.reduceAdd, Nat.reduceDiv, Nat.reduceMod, List.getElem?_cons_zero, List.getElem?_cons_succ, if_true, and_true, true_and] at f1 f2 f3 f4 f5
    have fe0 : nv β 0 = 805 := by omega
    have fe3 : nv β 3 = 0 := by omega
    have fe4 : nv β 4 = 3 := by omega
    have fe5 : nv β 5 = 806 := by omega
    have fe6 : nv β 6 = 4081 := by omega
    have fe7 : nv β 7 = 3 := by omega
    have fe11 : nv β 11 = 806 := by omega
    have fe12 : nv β 12 = 4081 := by omega
    have fe13 : nv β 13 = 3 := by omega
    have fe18 : nv β 18 = 1 := by omega
    have fe19 : nv β 19 = 3 := by omega
    have fe20 : nv β 20 = 806 := by omega
    have fe21 : nv β 21 = 4081 := by omega
    have fe22 : nv β 22 = 3 := by omega
    have fe26 : nv β 26 = 806 := by omega
    have fe27 : nv β 27 = 4081 := by omega
    have fe28 : nv β 28 = 3 := by omega
    have fe33 : nv β 33 = 2 := by omega
    have fe34 : nv β 34 = 3 := by omega
    have fe35 : nv β 35 = 806 := by omega
    have fe36 : nv β 36 = 4081 := by omega
    have fe37 : nv β 37 = 3 := by omega
    have fe41 : nv β 41 = 806 := by omega
    have fe42 : nv β 42 = 4081 := by omega
    have fe43 : nv β 43 = 3 := by omega
    have fe48 : nv β 48 = 3 := by omega
    have fe49 : nv β 49 = 3 := by omega
    try simp only [fe0, fe3, fe4, fe5, fe6, fe7, fe11, fe12, fe13, fe18, fe19, fe20, fe21, fe22, fe26, fe27, fe28, fe33, fe34, fe35, fe36, fe37, fe41, fe42, fe43, fe48, fe49, Int.reduceToNat] at f2 f3 f4 f5
    have s0 : nv β 0 = nv α1 0 := nv_le H1.1 (by omega)
    have s1 : nv β 1 = nv α1 1 := nv_le H1.1 (by omega)
    have s2 : nv β 2 = nv α1 2 := nv_le H1.1 (by omega)
    obtain ⟨c0, c1, c2, c3, c4, c5, c6, c7, c8, c9, c10, c11, c12, c13, c14, c15, c16, c17, c18, c19, c20, c21, c22⟩ := f2
    obtain ⟨α', Ha, hm⟩ := hd_gpM (q := kh_storesDay2_a4) (n := 0) (by decide +kernel) hx H1 (by decide +kernel) hxa hf
    have hfr := H1.2.2.2.2.2.2.2.2.2.2.1
    have m0 : nv α' 0 = nv β 0 := hm 0 0 rfl
    have m1 : nv α' 1 = nv β 50 := hm 1 50 rfl
    have m2 : nv α' 2 = nv β 51 := hm 2 51 rfl
    subst S'

    refine ih.1 _ _ _ _ Ha ?_ ?_
    · refine ⟨?_, ?_, ?_, ?_⟩ <;> omega
    · omega
set_option maxHeartbeats 16000000 in
set_option maxRecDepth 8000 in
theorem kh_storesDay2_h124 {l : Launch} {D : va_G} {tc : Nat → ClassId} {ad : Nat → Nat} {kd : Nat → Nat × Nat} {N : Nat} {sm : Nat → Nat} {xs : List av_X} {S : fw_S} {p : Program} {e : Env} {s : State} {m : MethodId} {args : Array Value} {below : List Frame} {meth : Method} {c : Code} {sz : Nat} {lvE : List (Nat × Value)} (G : hd_C wd_ff2 wd_fl2 kh_storesDay2 [kh_405, kh_cComes, kh_407, kh_408, kh_409, kh_411, kh_412, kh_413, kh_414, kh_415, kh_416, kh_417, kh_418, kh_419, kh_420] kh_storesDay2_y l D tc ad kd N sm xs p s m args meth c sz) (H0 : as_in ad sm wd_fl2 xs S kh_storesDay2.2.2.2.2.2.1 xs (hd_0 kh_storesDay2) lvE [] S) {k : Nat} (ih : kh_storesDay2_I l D tc ad kd N sm xs S p e s m args below meth c sz k) : (∀ (α : List av_X) (lv : List (Nat × Value)) (st : List Value) (S1 : fw_S), as_in ad sm wd_fl2 xs S kh_storesDay2.2.2.2.2.2.1 α kh_storesDay2_a124.2.2.1 lv st S1 → (True) → 5000 + (24 - nv α 2).toNat < k + 1 → hd_W wd_fl2 kh_storesDay2 kh_storesDay2_y l D tc ad kd N sm xs S p e s m args below meth c sz 124 lv st S1 0) := by
  have hx : xs.length = 1 := by rw [H0.2.1.1]; rfl
  intro α lv st S1 H hp hk
  obtain ⟨α1, hle, Hr⟩ := as_recM (pl := []) [((806, 806), (4080, 4080, 0)), ((806, 806), (4081, 4104, 1))] (by decide +kernel) H
  have hf := H.2.2.2.2.2.2.2.2.2.2.1
  have hl1 : α1.length = 3 := by rw [Hr.2.1.1]; rfl
  have hl0 : α.length = 3 := by rw [H.2.1.1]; rfl
  have hxa : al_le xs α1 := H.1.trans hle
  obtain ⟨g1, -, g3, g4, -⟩ := as_fx Hr
  have g0 : (805 ≤ nv α1 0 ∧ nv α1 0 ≤ 805) ∧ (0 ≤ nv α1 1 ∧ nv α1 1 ≤ 8) ∧ (0 ≤ nv α1 2 ∧ nv α1 2 ≤ 24) ∧ True := by
    refine ⟨by have h := (en_nv (i := 0) Hr.2.1 rfl).2; exact h, by have h := (en_nv (i := 1) Hr.2.1 rfl).2; exact h, by have h := (en_nv (i := 2) Hr.2.1 rfl).2; exact h, trivial⟩
  have r0 : nv α1 0 = nv α 0 := nv_le hle (by omega)
  have r1 : nv α1 1 = nv α 1 := nv_le hle (by omega)
  have r2 : nv α1 2 = nv α 2 := nv_le hle (by omega)
  refine hd_segM G (na := 3) (fuel := 600) (first := true) (Bs := [kh_storesDay2_b124_0, kh_storesDay2_b124_1]) (by decide +kernel) hl1 Hr ?_
  intro q hq β lv' st' S' H1
  simp only [List.mem_cons, List.not_mem_nil, or_false] at hq
  rcases hq with rfl | rfl
  · obtain ⟨f1, f2, f3, f4, f5⟩ := as_fx H1
    simp only [kh_storesDay2_b124_0, fx_env, fx_c, fx_ne, fx_hf, wl_S, Nat.zero_add, Nat.reduceAdd, Nat.reduceDiv, Nat.reduceMod, List.getElem?_cons_zero, List.getElem?_cons_succ, if_true, and_true, true_and] at f1 f2 f3 f4 f5
    have fe0 : nv β 0 = 805 := by omega
    have fe2 : nv β 2 = 24 := by omega
    have fe3 : nv β 3 = 24 := by omega
    have fe4 : nv β 4 = 806 := by omega
    have fe5 : nv β 5 = 4080 := by omega
    have fe6 : nv β 6 = 0 := by omega
    try simp only [fe0, fe2, fe3, fe4, fe5, fe6, Int.reduceToNat] at f2 f3 f4 f5
    have s0 : nv β 0 = nv α1 0 := nv_le H1.1 (by omega)
    have s1 : nv β 1 = nv α1 1 := nv_le H1.1 (by omega)
    have s2 : nv β 2 = nv α1 2 := nv_le H1.1 (by omega)
    have c0 := f2
    obtain ⟨α', Ha, hm⟩ := hd_gpM (q := kh_storesDay2_a158) (n := 0) (by decide +kernel) hx H1 (by decide +kernel) hxa hf
    have hfr := H1.2.2.2.2.2.2.2.2.2.2.1
    have m0 : nv α' 0 = nv β 0 := hm 0 0 rfl
    have m1 : nv α' 1 = nv β 1 := hm 1 1 rfl
    have m2 : nv α' 2 = nv β 6 := hm 2 6 rfl
    subst S'

    refine ih.2.2.2.1 _ _ _ _ Ha ?_ ?_
    · trivial
    · omega
  · obtain ⟨f1, f2, f3, f4, f5⟩ := as_fx H1
    simp only [kh_storesDay2_b124_1, fx_env, fx_c, fx_ne, fx_hf, wl_S, Nat.zero_add, Nat.reduceAdd, Nat.reduceDiv, Nat.reduceMod, List.getElem?_cons_zero, List.getElem?_cons_succ, if_true, and_true, true_and] at f1 f2 f3 f4 f5
    have fe0 : nv β 0 = 805 := by omega
    have fe3 : nv β 3 = 24 := by omega
    have fe4 : nv β 4 = 806 := by omega
    have fe5 : nv β 5 = 4081 := by omega
    have fe7 : nv β 7 = 0 := by omega
    try simp only [fe0, fe3, fe4, fe5, fe7, Int.reduceToNat] at f2 f3 f4 f5
    have s0 : nv β 0 = nv α1 0 := nv_le H1.1 (by omega)
    have s1 : nv β 1 = nv α1 1 := nv_le H1.1 (by omega)
    have s2 : nv β 2 = nv α1 2 := nv_le H1.1 (by omega)
    obtain ⟨c0, c1⟩ := f2
    obtain ⟨α', Ha, hm⟩ := hd_gpM (q := kh_storesDay2_a124) (n := 0) (by decide +kernel) hx H1 (by decide +kernel) hxa hf
    have hfr := H1.2.2.2.2.2.2.2.2.2.2.1
    have m0 : nv α' 0 = nv β 0 := hm 0 0 rfl
    have m1 : nv α' 1 = nv β 1 := hm 1 1 rfl
    have m2 : nv α' 2 = nv β 8 := hm 2 8 rfl
    subst S'

    refine ih.2.2.1 _ _ _ _ Ha ?_ ?_
    · trivial
    · omega
set_option maxHeartbeats 16000000 in
set_option maxRecDepth 8000 in
theorem kh_storesDay2_h158 {l : Launch} {D : va_G} {tc : Nat → ClassId} {ad : Nat → Nat} {kd : Nat → Nat × Nat} {N : Nat} {sm : Nat → Nat} {xs : List av_X} {S : fw_S} {p : Program} {e : Env} {s : State} {m : MethodId} {args : Array Value} {below : List Frame} {meth : Method} {c : Code} {sz : Nat} {lvE : List (Nat × Value)} (G : hd_C wd_ff2 wd_fl2 kh_storesDay2 [kh_405, kh_cComes, kh_407, kh_408, kh_409, kh_411, kh_412, kh_413, kh_414, kh_415, kh_416, kh_417, kh_418, kh_419, kh_420] kh_storesDay2_y l D tc ad kd N sm xs p s m args meth c sz) (H0 : as_in ad sm wd_fl2 xs S kh_storesDay2.2.2.2.2.2.1 xs (hd_0 kh_storesDay2) lvE [] S) {k : Nat} (ih : kh_storesDay2_I l D tc ad kd N sm xs S p e s m args below meth c sz k) : (∀ (α : List av_X) (lv : List (Nat × Value)) (st : List Value) (S1 : fw_S), as_in ad sm wd_fl2 xs S kh_storesDay2.2.2.2.2.2.1 α kh_storesDay2_a158.2.2.1 lv st S1 → (True) → (4 - nv α 2).toNat < k + 1 → hd_W wd_fl2 kh_storesDay2 kh_storesDay2_y l D tc ad kd N sm xs S p e s m args below meth c sz 158 lv st S1 0) := by
  have hx : xs.length = 1 := by rw [H0.2.1.1]; rfl
  intro α lv st S1 H hp hk
  obtain ⟨α1, hle, Hr⟩ := as_recM (pl := []) [((806, 806), (4080, 4080, 0)), ((806, 806), (4081, 4102, 3)), ((806, 806), (4082, 4103, 3)), ((806, 806), (4083, 4104, 3)), ((807, 807), (2860, 2860, 0)), ((807, 807), (2865, 2865, 0)), ((807, 807), (3501, 3501, 0))] (by decide +kernel) H
  have hf := H.2.2.2.2.2.2.2.2.2.2.1
  have hl1 : α1.length = 3 := by rw [Hr.2.1.1]; rfl
  have hl0 : α.length = 3 := by rw [H.2.1.1]; rfl
  have hxa : al_le xs α1 := H.1.trans hle
  obtain ⟨g1, -, g3, g4, -⟩ := as_fx Hr
  have g0 : (805 ≤ nv α1 0 ∧ nv α1 0 ≤ 805) ∧ (0 ≤ nv α1 1 ∧ nv α1 1 ≤ 8) ∧ (0 ≤ nv α1 2 ∧ nv α1 2 ≤ 4) ∧ True := by
    refine ⟨by have h := (en_nv (i := 0) Hr.2.1 rfl).2; exact h, by have h := (en_nv (i := 1) Hr.2.1 rfl).2; exact h, by have h := (en_nv (i := 2) Hr.2.1 rfl).2; exact h, trivial⟩
  have r0 : nv α1 0 = nv α 0 := nv_le hle (by omega)
  have r1 : nv α1 1 = nv α 1 := nv_le hle (by omega)
  have r2 : nv α1 2 = nv α 2 := nv_le hle (by omega)
  refine hd_segM G (na := 3) (fuel := 600) (first := true) (Bs := [kh_storesDay2_b158_0, kh_storesDay2_b158_1, kh_storesDay2_b158_2, kh_storesDay2_b158_3, kh_storesDay2_b158_4]) (by decide +kernel) hl1 Hr ?_
  intro q hq β lv' st' S' H1
  simp only [List.mem_cons, List.not_mem_nil, or_false] at hq
  rcases hq with rfl | rfl | rfl | rfl | rfl
  · obtain ⟨f1, f2, f3, f4, f5⟩ := as_fx H1
    simp only [kh_storesDay2_b158_0, fx_env, fx_c, fx_ne, fx_hf, wl_S, Nat.zero_add, Nat.reduceAdd, Nat.reduceDiv, Nat.reduceMod, List.getElem?_cons_zero, List.getElem?_cons_succ, if_true, and_true, true_and] at f1 f2 f3 f4 f5
    have fe0 : nv β 0 = 805 := by omega
    have fe2 : nv β 2 = 4 := by omega
    have fe3 : nv β 3 = 4 := by omega
    try simp only [fe0, fe2, fe3, Int.reduceToNat] at f2 f3 f4 f5
    have s0 : nv β 0 = nv α1 0 := nv_le H1.1 (by omega)
    have s1 : nv β 1 = nv α1 1 := nv_le H1.1 (by omega)
    have s2 : nv β 2 = nv α1 2 := nv_le H1.1 (by omega)
    have c0 := f2
    exact hd_run G (ss := []) (fuel := 20) (by decide +kernel) (as_backM H1 (by decide +kernel) hxa hf)
  · obtain ⟨f1, f2, f3, f4, f5⟩ := as_fx H1
    simp only [kh_storesDay2_b158_1, fx_env, fx_c, fx_ne, fx_hf, wl_S, Nat.zero_add, Nat.reduceAdd, Nat.reduceDiv, Nat.reduceMod, List.getElem?_cons_zero, List.getElem?_cons_succ, if_true, and_true, true_and] at f1 f2 f3 f4 f5
    have fe0 : nv β 0 = 805 := by omega
    have fe3 : nv β 3 = 4 := by omega
    have fe4 : nv β 4 = 806 := by omega
    have fe5 : nv β 5 = 4060 := by omega
    have fe10 : nv β 10 = 2 := by omega
    have fe11 : nv β 11 = 806 := by omega
    have fe12 : nv β 12 = 4064 := by omega
    have fe17 : nv β 17 = 806 := by omega
    have fe18 : nv β 18 = 4064 := by omega
    try simp only [fe0, fe3, fe4, fe5, fe10, fe11, fe12, fe17, fe18, Int.reduceToNat] at f2 f3 f4 f5
    have s0 : nv β 0 = nv α1 0 := nv_le H1.1 (by omega)
    have s1 : nv β 1 = nv α1 1 := nv_le H1.1 (by omega)
    have s2 : nv β 2 = nv α1 2 := nv_le H1.1 (by omega)
    obtain ⟨c0, c1, c2, c3, c4, c5, c6, c7⟩ := f2
    obtain ⟨α', Ha, hm⟩ := hd_gpM (q := kh_storesDay2_a158) (n := 0) (by decide +kernel) hx H1 (by decide +kernel) hxa hf
    have hfr := H1.2.2.2.2.2.2.2.2.2.2.1
    have m0 : nv α' 0 = nv β 0 := hm 0 0 rfl
    have m1 : nv α' 1 = nv β 1 := hm 1 1 rfl
    have m2 : nv α' 2 = nv β 21 := hm 2 21 rfl
    subst S'

    refine ih.2.2.2.1 _ _ _ _ Ha ?_ ?_
    · trivial
    · omega
  · obtain ⟨f1, f2, f3, f4, f5⟩ := as_fx H1
    simp only [kh_storesDay2_b158_2, fx_env, fx_c, fx_ne, fx_hf, wl_S, Nat.zero_add, Nat.reduceAdd, Nat.reduceDiv, Nat.reduceMod, List.getElem?_cons_zero, List.getElem?_cons_succ, if_true, and_true, true_and] at f1 f2 f3 f4 f5
    have fe0 : nv β 0 = 805 := by omega
    have fe3 : nv β 3 = 4 := by omega
    have fe4 : nv β 4 = 806 := by omega
    have fe5 : nv β 5 = 4060 := by omega
    have fe10 : nv β 10 = 2 := by omega
    have fe11 : nv β 11 = 806 := by omega
    have fe12 : nv β 12 = 4064 := by omega
    have fe17 : nv β 17 = 806 := by omega
    have fe18 : nv β 18 = 4064 := by omega
    have fe21 : nv β 21 = 806 := by omega
    have fe22 : nv β 22 = 4080 := by omega
    have fe23 : nv β 23 = 8 := by omega
    have fe24 : nv β 24 = 8 := by omega
    try simp only [fe0, fe3, fe4, fe5, fe10, fe11, fe12, fe17, fe18, fe21, fe22, fe23, fe24, Int.reduceToNat] at f2 f3 f4 f5
    have s0 : nv β 0 = nv α1 0 := nv_le H1.1 (by omega)
    have s1 : nv β 1 = nv α1 1 := nv_le H1.1 (by omega)
    have s2 : nv β 2 = nv α1 2 := nv_le H1.1 (by omega)
    obtain ⟨c0, c1, c2, c3, c4, c5, c6, c7, c8, c9⟩ := f2
    obtain ⟨α', Ha, hm⟩ := hd_gpM (q := kh_storesDay2_a158) (n := 0) (by decide +kernel) hx H1 (by decide +kernel) hxa hf
    have hfr := H1.2.2.2.2.2.2.2.2.2.2.1
    have m0 : nv α' 0 = nv β 0 := hm 0 0 rfl
    have m1 : nv α' 1 = nv β 1 := hm 1 1 rfl
    have m2 : nv α' 2 = nv β 25 := hm 2 25 rfl
    subst S'

    refine ih.2.2.2.1 _ _ _ _ Ha ?_ ?_
    · trivial
    · omega
  · obtain ⟨f1, f2, f3, f4, f5⟩ := as_fx H1
    simp only [kh_storesDay2_b158_3, fx_env, fx_c, fx_ne, fx_hf, wl_S, Nat.zero_add, Nat.reduceAdd, Nat.reduceDiv, Nat.reduceMod, List.getElem?_cons_zero, List.getElem?_cons_succ, if_true, and_true, true_and] at f1 f2 f3 f4 f5
    have fe0 : nv β 0 = 805 := by omega
    have fe3 : nv β 3 = 4 := by omega
    have fe4 : nv β 4 = 806 := by omega
    have fe5 : nv β 5 = 4060 := by omega
    have fe10 : nv β 10 = 2 := by omega
    have fe11 : nv β 11 = 806 := by omega
    have fe12 : nv β 12 = 4064 := by omega
    have fe17 : nv β 17 = 806 := by omega
    have fe18 : nv β 18 = 4064 := by omega
    have fe21 : nv β 21 = 806 := by omega
    have fe22 : nv β 22 = 4080 := by omega
    have fe24 : nv β 24 = 8 := by omega
    have fe29 : nv β 29 = (-1) := by omega
    try simp only [fe0, fe3, fe4, fe5, fe10, fe11, fe12, fe17, fe18, fe21, fe22, fe24, fe29, Int.reduceToNat] at f2 f3 f4 f5
    have s0 : nv β 0 = nv α1 0 := nv_le H1.1 (by omega)
    have s1 : nv β 1 = nv α1 1 := nv_le H1.1 (by omega)
    have s2 : nv β 2 = nv α1 2 := nv_le H1.1 (by omega)
    obtain ⟨c1, c2, c3, c4, c5, c6, c7, c8, c9, c10⟩ := f2
    obtain ⟨α', Ha, hm⟩ := hd_gpM (q := kh_storesDay2_a158) (n := 0) (by decide +kernel) hx H1 (by decide +kernel) hxa hf
    have hfr := H1.2.2.2.2.2.2.2.2.2.2.1
    have m0 : nv α' 0 = nv β 0 := hm 0 0 rfl
    have m1 : nv α' 1 = nv β 1 := hm 1 1 rfl
    have m2 : nv α' 2 = nv β 30 := hm 2 30 rfl
    subst S'

    refine ih.2.2.2.1 _ _ _ _ Ha ?_ ?_
    · trivial
    · omega
  · obtain ⟨f1, f2, f3, f4, f5⟩ := as_fx H1
    simp only [kh_storesDay2_b158_4, fx_env, fx_c, fx_ne, fx_hf, wl_S, Nat.zero_add, Nat.reduceAdd, Nat.reduceDiv, Nat.reduceMod, List.getElem?_cons_zero, List.getElem?_cons_succ, if_true, and_true, true_and] at f1 f2 f3 f4 f5
    have fe0 : nv β 0 = 805 := by omega
    have fe3 : nv β 3 = 4 := by omega
    have fe4 : nv β 4 = 806 := by omega
    have fe5 : nv β 5 = 4060 := by omega
    have fe10 : nv β 10 = 2 := by omega
    have fe11 : nv β 11 = 806 := by omega
    have fe12 : nv β 12 = 4064 := by omega
    have fe17 : nv β 17 = 806 := by omega
    have fe18 : nv β 18 = 4064 := by omega
    have fe21 : nv β 21 = 806 := by omega
    have fe22 : nv β 22 = 4080 := by omega
    have fe24 : nv β 24 = 8 := by omega
    try simp only [fe0, fe3, fe4, fe5, fe10, fe11, fe12, fe17, fe18, fe21, fe22, fe24, Int.reduceToNat] at f2 f3 f4 f5
    have s0 : nv β 0 = nv α1 0 := nv_le H1.1 (by omega)
    have s1 : nv β 1 = nv α1 1 := nv_le H1.1 (by omega)
    have s2 : nv β 2 = nv α1 2 := nv_le H1.1 (by omega)
    obtain ⟨c1, c2, c3, c4, c5, c6, c7, c8, c9, c10⟩ := f2
    obtain ⟨α', Ha, hm⟩ := hd_gpM (q := kh_storesDay2_a158) (n := 0) (by decide +kernel) hx H1 (by decide +kernel) hxa hf
    have hfr := H1.2.2.2.2.2.2.2.2.2.2.1
    have m0 : nv α' 0 = nv β 0 := hm 0 0 rfl
    have m1 : nv α' 1 = nv β 1 := hm 1 1 rfl
    have m2 : nv α' 2 = nv β 30 := hm 2 30 rfl

    refine ih.2.2.2.1 _ _ _ _ Ha ?_ ?_
    · trivial
    · omega
set_option maxHeartbeats 16000000 in
set_option maxRecDepth 8000 in
theorem kh_storesDay2_ok : ct_ok wd_fl2 kh_storesDay2 := ct_hand (ff := wd_ff2) (y := kh_storesDay2_y) (Cs := [kh_405, kh_cComes, kh_407, kh_408, kh_409, kh_411, kh_412, kh_413, kh_414, kh_415, kh_416, kh_417, kh_418, kh_419, kh_420]) wd_fl2_ok rfl (List.forall_mem_cons.mpr ⟨kh_405_l2, (List.forall_mem_cons.mpr ⟨kh_cComes_ok, (List.forall_mem_cons.mpr ⟨kh_407_l2, (List.forall_mem_cons.mpr ⟨kh_408_l2, (List.forall_mem_cons.mpr ⟨kh_409_l2, (List.forall_mem_cons.mpr ⟨kh_411_l2, (List.forall_mem_cons.mpr ⟨kh_412_l2, (List.forall_mem_cons.mpr ⟨kh_413_l2, (List.forall_mem_cons.mpr ⟨kh_414_l2, (List.forall_mem_cons.mpr ⟨kh_415_l2, (List.forall_mem_cons.mpr ⟨kh_416_l2, (List.forall_mem_cons.mpr ⟨kh_417_l2, (List.forall_mem_cons.mpr ⟨kh_418_l2, (List.forall_mem_cons.mpr ⟨kh_419_l2, (List.forall_mem_cons.mpr ⟨kh_420_l2, (List.forall_mem_nil _)⟩)⟩)⟩)⟩)⟩)⟩)⟩)⟩)⟩)⟩)⟩)⟩)⟩)⟩)⟩) (by decide +kernel) (fun l D tc ad kd N sm xs S p e s m args below meth c sz lv G H0 => by
  have hx : xs.length = 1 := by rw [H0.2.1.1]; rfl
  have hP : ∀ (k : Nat), kh_storesDay2_I l D tc ad kd N sm xs S p e s m args below meth c sz k := by
    intro k
    induction k with
    | zero => exact ⟨fun _ _ _ _ _ _ h => absurd h (Nat.not_lt_zero _), fun _ _ _ _ _ _ h => absurd h (Nat.not_lt_zero _), fun _ _ _ _ _ _ h => absurd h (Nat.not_lt_zero _), fun _ _ _ _ _ _ h => absurd h (Nat.not_lt_zero _), trivial⟩
    | succ k ih => exact ⟨kh_storesDay2_h4 G H0 ih, kh_storesDay2_h70 G H0 ih, kh_storesDay2_h124 G H0 ih, kh_storesDay2_h158 G H0 ih, trivial⟩
  obtain ⟨α1, hle, Hr⟩ := as_recM (pl := []) [] (by decide +kernel) H0
  have hf := H0.2.2.2.2.2.2.2.2.2.2.1
  have hl1 : α1.length = 1 := by rw [Hr.2.1.1]; rfl
  have hl0 : xs.length = 1 := by rw [H0.2.1.1]; rfl
  have hxa : al_le xs α1 := H0.1.trans hle
  obtain ⟨g1, -, g3, g4, -⟩ := as_fx Hr
  have g0 : (805 ≤ nv α1 0 ∧ nv α1 0 ≤ 805) ∧ True := by
    refine ⟨by have h := (en_nv (i := 0) Hr.2.1 rfl).2; exact h, trivial⟩
  have r0 : nv α1 0 = nv xs 0 := nv_le hle (by omega)
  refine hd_segM G (na := 1) (fuel := 600) (first := true) (Bs := [kh_storesDay2_b0_0]) (by decide +kernel) hl1 Hr ?_
  intro q hq β lv' st' S' H1
  simp only [List.mem_cons, List.not_mem_nil, or_false] at hq
  rcases hq with rfl
  · obtain ⟨f1, f2, f3, f4, f5⟩ := as_fx H1
    simp only [kh_storesDay2_b0_0, fx_env, fx_c, fx_ne, fx_hf, wl_S, Nat.zero_add, Nat.reduceAdd, Nat.reduceDiv, Nat.reduceMod, List.getElem?_cons_zero, List.getElem?_cons_succ, if_true, and_true, true_and] at f1 f2 f3 f4 f5
    have fe0 : nv β 0 = 805 := by omega
    have fe1 : nv β 1 = 0 := by omega
    have fe2 : nv β 2 = 0 := by omega
    try simp only [fe0, fe1, fe2, Int.reduceToNat] at f2 f3 f4 f5
    have s0 : nv β 0 = nv α1 0 := nv_le H1.1 (by omega)
    obtain ⟨α', Ha, hm⟩ := hd_gpM (q := kh_storesDay2_a4) (n := 0) (by decide +kernel) hx H1 (by decide +kernel) hxa hf
    have hfr := H1.2.2.2.2.2.2.2.2.2.2.1
    have m0 : nv α' 0 = nv β 0 := hm 0 0 rfl
    have m1 : nv α' 1 = nv β 1 := hm 1 1 rfl
    have m2 : nv α' 2 = nv β 2 := hm 2 2 rfl
    subst S'

    refine (hP _).1 _ _ _ _ Ha ?_ (Nat.lt_succ_self _)
    · refine ⟨?_, ?_, ?_, ?_⟩ <;> omega)
abbrev kh_bC9_y : mt_T := (⟨"UtilityWorksModel", "bC", "(II)I"⟩, prog_14_method_227_code, 2, some .int, 12, 0, 2, 33186, 33185, 0, 21014)
def kh_bC9 : ct_T := (413, [(0, 0, 9, 1), (0, 9, 11, 1)], [], [], [(1, (0, 1829, 2011, 1), [(0, 0, 9, 1), (0, 9, 11, 1)], [], ([], [(15, 0, 1)]))], [], 0, 0, 0)
def kh_bC9_b0_0 : sg_T := (10, 0, ([((0, 0, 9, 1), none), ((0, 9, 11, 1), none), ((0, 1820, 1820, 0), none), ((0, 20, 20, 0), none), ((0, 0, 180, 20), none), ((0, 1820, 2000, 20), none), ((0, 1829, 2011, 1), none)], [(0, 0), (1, 1)], [6], [], [], [(500006, 5, 1), (500005, 2, 4), (700004, 3, 0)], [], [], some []))
set_option maxHeartbeats 16000000 in
set_option maxRecDepth 8000 in
theorem kh_bC9_ok : ct_ok wd_fl2 kh_bC9 := ct_hand (ff := wd_ff2) (y := kh_bC9_y) (Cs := []) wd_fl2_ok rfl (List.forall_mem_nil _) (by decide +kernel) (fun l D tc ad kd N sm xs S p e s m args below meth c sz lv G H0 => by
  have hx : xs.length = 2 := by rw [H0.2.1.1]; rfl
  obtain ⟨α1, hle, Hr⟩ := as_recM (pl := []) [] (by decide +kernel) H0
  have hf := H0.2.2.2.2.2.2.2.2.2.2.1
  have hl1 : α1.length = 2 := by rw [Hr.2.1.1]; rfl
  have hl0 : xs.length = 2 := by rw [H0.2.1.1]; rfl
  have hxa : al_le xs α1 := H0.1.trans hle
  obtain ⟨g1, -, g3, g4, -⟩ := as_fx Hr
  have g0 : (0 ≤ nv α1 0 ∧ nv α1 0 ≤ 9) ∧ (9 ≤ nv α1 1 ∧ nv α1 1 ≤ 11) ∧ True := by
    refine ⟨by have h := (en_nv (i := 0) Hr.2.1 rfl).2; exact h, by have h := (en_nv (i := 1) Hr.2.1 rfl).2; exact h, trivial⟩
  have r0 : nv α1 0 = nv xs 0 := nv_le hle (by omega)
  have r1 : nv α1 1 = nv xs 1 := nv_le hle (by omega)
  refine hd_segM G (na := 2) (fuel := 600) (first := true) (Bs := [kh_bC9_b0_0]) (by decide +kernel) hl1 Hr ?_
  intro q hq β lv' st' S' H1
  simp only [List.mem_cons, List.not_mem_nil, or_false] at hq
  rcases hq with rfl
  · obtain ⟨f1, f2, f3, f4, f5⟩ := as_fx H1
    simp only [kh_bC9_b0_0, fx_env, fx_c, fx_ne, fx_hf, wl_S, Nat.zero_add, Nat.reduceAdd, Nat.reduceDiv, Nat.reduceMod, List.getElem?_cons_zero, List.getElem?_cons_succ, if_true, and_true, true_and] at f1 f2 f3 f4 f5
    have fe2 : nv β 2 = 1820 := by omega
    have fe3 : nv β 3 = 20 := by omega
    try simp only [fe2, fe3, Int.reduceToNat] at f2 f3 f4 f5
    have s0 : nv β 0 = nv α1 0 := nv_le H1.1 (by omega)
    have s1 : nv β 1 = nv α1 1 := nv_le H1.1 (by omega)
    obtain ⟨c0, c1, c2⟩ := f2
    refine hd_retI G (v := 6) (by decide +kernel) (as_backM H1 (by decide +kernel) hxa hf) _ List.mem_cons_self rfl (by decide +kernel) (by decide) (fun w hw => ?_)
    rcases List.mem_singleton.mp hw with rfl
    have g0' := (en_nv (i := 0) H0.2.1 rfl).1
    have g1' := (en_nv (i := 1) H0.2.1 rfl).1
    refine ⟨_, _, g0', g1', ?_⟩
    refine fl2_o (by decide) (fl1_o (by decide) ?_)
    show nv β 6 = 1820 + 20 * nv xs 0 + nv xs 1
    omega)
abbrev kh_bRight_y : mt_T := (⟨"UtilityWorksModel", "bRight", "(II)V"⟩, prog_14_method_233_code, 3, none, 12, 1, 2, 34010, 34009, 9001, 21014)
def kh_bRight : ct_T := (429, [(2, 805, 805, 0), (0, 0, 9, 1), (0, 0, 2, 1)], [], [515], [(0, (0, 0, 0, 0), [(2, 805, 805, 0), (0, 0, 9, 1), (0, 0, 2, 1)], [], ([515], []))], [((806, 806), (1829, 2011, 1))], 1, 21, 0)
def kh_bRight_b0_0 : sg_T := (14, 0, ([((2, 805, 805, 0), none), ((0, 0, 9, 1), none), ((0, 0, 2, 1), none), ((2, 806, 806, 1), none), ((0, 9, 9, 0), none), ((0, 9, 11, 1), none), ((0, 1829, 2011, 1), none), ((0, 1, 1, 0), none)], [(0, 0), (1, 1), (2, 2)], [], [(3, 6, 7)], [], [(1500006, 1, 5), (500005, 4, 2)], [], [], some [(3, 6, 7)]))
set_option maxHeartbeats 16000000 in
set_option maxRecDepth 8000 in
theorem kh_bRight_ok : ct_ok wd_fl2 kh_bRight := ct_hand (ff := wd_ff2) (y := kh_bRight_y) (Cs := [kh_bC9]) wd_fl2_ok rfl (List.forall_mem_cons.mpr ⟨kh_bC9_ok, (List.forall_mem_nil _)⟩) (by decide +kernel) (fun l D tc ad kd N sm xs S p e s m args below meth c sz lv G H0 => by
  have hx : xs.length = 3 := by rw [H0.2.1.1]; rfl
  have q515 : blF (S.1 806) 0 := by
    have h := H0.2.2.2.2.2.2.2.2.1 515 (by decide +kernel)
    rw [wd_fl2, if_neg (by decide)] at h
    exact h
  obtain ⟨α1, hle, Hr⟩ := as_recM (pl := []) [((806, 806), (1829, 2011, 1))] (by decide +kernel) H0
  have hf := H0.2.2.2.2.2.2.2.2.2.2.1
  have hl1 : α1.length = 3 := by rw [Hr.2.1.1]; rfl
  have hl0 : xs.length = 3 := by rw [H0.2.1.1]; rfl
  have hxa : al_le xs α1 := H0.1.trans hle
  obtain ⟨g1, -, g3, g4, -⟩ := as_fx Hr
  have g0 : (805 ≤ nv α1 0 ∧ nv α1 0 ≤ 805) ∧ (0 ≤ nv α1 1 ∧ nv α1 1 ≤ 9) ∧ (0 ≤ nv α1 2 ∧ nv α1 2 ≤ 2) ∧ True := by
    refine ⟨by have h := (en_nv (i := 0) Hr.2.1 rfl).2; exact h, by have h := (en_nv (i := 1) Hr.2.1 rfl).2; exact h, by have h := (en_nv (i := 2) Hr.2.1 rfl).2; exact h, trivial⟩
  have r0 : nv α1 0 = nv xs 0 := nv_le hle (by omega)
  have r1 : nv α1 1 = nv xs 1 := nv_le hle (by omega)
  have r2 : nv α1 2 = nv xs 2 := nv_le hle (by omega)
  refine hd_segM G (na := 3) (fuel := 600) (first := true) (Bs := [kh_bRight_b0_0]) (by decide +kernel) hl1 Hr ?_
  intro q hq β lv' st' S' H1
  simp only [List.mem_cons, List.not_mem_nil, or_false] at hq
  rcases hq with rfl
  · obtain ⟨f1, f2, f3, f4, f5⟩ := as_fx H1
    simp only [kh_bRight_b0_0, fx_env, fx_c, fx_ne, fx_hf, wl_S, Nat.zero_add, Nat.reduceAdd, Nat.reduceDiv, Nat.reduceMod, List.getElem?_cons_zero, List.getElem?_cons_succ, if_true, and_true, true_and] at f1 f2 f3 f4 f5
    have fe0 : nv β 0 = 805 := by omega
    have fe3 : nv β 3 = 806 := by omega
    have fe4 : nv β 4 = 9 := by omega
    have fe7 : nv β 7 = 1 := by omega
    try simp only [fe0, fe3, fe4, fe7, Int.reduceToNat] at f2 f3 f4 f5
    have s0 : nv β 0 = nv α1 0 := nv_le H1.1 (by omega)
    have s1 : nv β 1 = nv α1 1 := nv_le H1.1 (by omega)
    have s2 : nv β 2 = nv α1 2 := nv_le H1.1 (by omega)
    obtain ⟨c0, c1⟩ := f2
    have d0 := fl1_b (by decide) (fl2_b (by decide) c0)
    simp only [wd_fl] at d0
    have hb : blF (S'.1 806) 0 := by
      intro c' hc'
      have h := q515 c' hc'
      rw [f5, fw_i_row, if_neg (by omega), fw_i_row, if_neg (by omega)]
      exact h
    exact hd_run G (ss := []) (fuel := 20) (by decide +kernel) (as_fl_in (f := [515]) (as_backM H1 (by decide +kernel) hxa hf) (fun g hg' => by
      rcases List.mem_singleton.mp hg' with rfl
      rw [wd_fl2, if_neg (by decide)]
      exact hb)))
/- UtilityWorksModel digs -/
def kh_598 : ct_T := (425, [(2, 805, 805, 0), (0, 0, 16, 1)], [], [], [(0, (0, 0, 0, 0), [(2, 805, 805, 0), (0, 0, 16, 1)], [], ([], []))], [((806, 806), (66, 82, 1))], 0, 0, 0)
theorem kh_598_ok : ct_ok wd_fl2 kh_598 := ct_of (ff := wd_ff2) (y := (⟨"UtilityWorksModel", "digs", "(I)V"⟩, prog_14_method_51_code, 2, none, 12, 1, 1, 33234, 33233, 8013, 21014)) (Cs := []) (an := []) (ss := []) (K := 1) (fuel := 4000) wd_fl2_ok rfl (List.forall_mem_nil _) (by decide +kernel)
/- UtilityWorksModel fills -/
def kh_599 : ct_T := (426, [(2, 805, 805, 0), (0, 0, 16, 1)], [], [], [(0, (0, 0, 0, 0), [(2, 805, 805, 0), (0, 0, 16, 1)], [], ([], []))], [((806, 806), (66, 82, 1)), ((806, 806), (100, 116, 1))], 1, 20, 0)
theorem kh_599_ok : ct_ok wd_fl2 kh_599 := ct_of (ff := wd_ff2) (y := (⟨"UtilityWorksModel", "fills", "(I)V"⟩, prog_14_method_52_code, 2, none, 12, 1, 1, 33238, 33237, 8014, 21014)) (Cs := [kh_405]) (an := []) (ss := []) (K := 1) (fuel := 4000) wd_fl2_ok rfl (List.forall_mem_cons.mpr ⟨kh_405_l2, (List.forall_mem_nil _)⟩) (by decide +kernel)
/- UtilityWorksModel closesRing -/
def kh_600 : ct_T := (362, [(2, 805, 805, 0), (0, 0, 16, 1)], [], [], [(1, (0, 0, 1, 1), [(2, 805, 805, 0), (0, 0, 16, 1)], [], ([], []))], [((813, 813), (0, 11, 1))], 5, 114, 0)
theorem kh_600_ok : ct_ok wd_fl2 kh_600 := ct_of (ff := wd_ff2) (y := (⟨"UtilityWorksModel", "closesRing", "(I)Z"⟩, prog_14_method_23_code, 2, some .boolean, 12, 1, 1, 32227, 32226, 5009, 21014)) (Cs := [kh_290, kh_reachFrom, kh_291]) (an := []) (ss := []) (K := 1) (fuel := 4000) wd_fl2_ok rfl (List.forall_mem_cons.mpr ⟨kh_290_l2, (List.forall_mem_cons.mpr ⟨kh_reachFrom_l2, (List.forall_mem_cons.mpr ⟨kh_291_l2, (List.forall_mem_nil _)⟩)⟩)⟩) (by decide +kernel)
/- UtilityWorksModel makeFine -/
def kh_601 : ct_T := (427, [(2, 805, 805, 0), (0, 0, 2, 1), (0, 0, 16, 1)], [], [], [(0, (0, 0, 0, 0), [(2, 805, 805, 0), (0, 0, 2, 1), (0, 0, 16, 1)], [], ([], []))], [((806, 806), (142, 342, 4)), ((806, 806), (143, 343, 4)), ((813, 813), (0, 11, 1))], 6, 135, 0)
theorem kh_601_ok : ct_ok wd_fl2 kh_601 := ct_of (ff := wd_ff2) (y := (⟨"UtilityWorksModel", "makeFine", "(II)V"⟩, prog_14_method_24_code, 3, none, 12, 1, 2, 34002, 34001, 8015, 21014)) (Cs := [kh_link, kh_isOn, kh_600]) (an := [(49, 0, ([((2, 805, 805, 0), none), ((0, 0, 2, 1), none), ((0, 0, 16, 1), none)], [(0, 0), (1, 1), (2, 2)], [], [], [], [], [], [], none), [(0, 0, 99951)])]) (ss := []) (K := 1) (fuel := 4000) wd_fl2_ok rfl (List.forall_mem_cons.mpr ⟨kh_link_l2, (List.forall_mem_cons.mpr ⟨kh_isOn_l2, (List.forall_mem_cons.mpr ⟨kh_600_ok, (List.forall_mem_nil _)⟩)⟩)⟩) (by decide +kernel)
/- UtilityWorksModel tLay -/
def kh_602 : ct_T := (331, [(2, 805, 805, 0), (0, 0, 2, 1), (0, 0, 16, 1), (0, 40, 40, 0)], [], [], [(0, (0, 0, 0, 0), [(2, 805, 805, 0), (0, 0, 2, 1), (0, 0, 16, 1), (0, 40, 40, 0)], [], ([], []))], [((806, 806), (140, 340, 4)), ((806, 806), (141, 341, 4)), ((806, 806), (142, 342, 4)), ((806, 806), (143, 343, 4))], 0, 0, 0)
theorem kh_602_ok : ct_ok wd_fl2 kh_602 := ct_of (ff := wd_ff2) (y := (⟨"UtilityWorksModel", "tLay", "(III)V"⟩, prog_14_method_9_code, 5, none, 12, 1, 3, 31141, 31140, 4004, 21014)) (Cs := []) (an := []) (ss := []) (K := 1) (fuel := 4000) wd_fl2_ok rfl (List.forall_mem_nil _) (by decide +kernel)
/- UtilityWorksModel layLink -/
def kh_603 : ct_T := (370, [(2, 805, 805, 0), (0, 0, 2, 1), (0, 0, 16, 1), (0, 40, 40, 0)], [], [], [(0, (0, 0, 0, 0), [(2, 805, 805, 0), (0, 0, 2, 1), (0, 0, 16, 1), (0, 40, 40, 0)], [], ([], []))], [((806, 806), (140, 340, 4)), ((806, 806), (141, 341, 4)), ((806, 806), (142, 342, 4)), ((806, 806), (143, 343, 4))], 1, 24, 0)
theorem kh_603_ok : ct_ok wd_fl2 kh_603 := ct_of (ff := wd_ff2) (y := (⟨"UtilityWorksModel", "layLink", "(III)V"⟩, prog_14_method_28_code, 4, none, 12, 1, 3, 33017, 33016, 5013, 21014)) (Cs := [kh_602, kh_link]) (an := []) (ss := []) (K := 1) (fuel := 4000) wd_fl2_ok rfl (List.forall_mem_cons.mpr ⟨kh_602_ok, (List.forall_mem_cons.mpr ⟨kh_link_l2, (List.forall_mem_nil _)⟩)⟩) (by decide +kernel)
/- UtilityWorksModel mM -/
def kh_604 : ct_T := (340, [(0, 0, 9, 1), (0, 0, 0, 0), (0, 0, 0, 0)], [], [], [(1, (0, 1461, 1758, 33), [(0, 0, 9, 1), (0, 0, 0, 0), (0, 0, 0, 0)], [], ([], []))], [], 0, 0, 0)
theorem kh_604_ok : ct_ok wd_fl2 kh_604 := ct_of (ff := wd_ff2) (y := (⟨"UtilityWorksModel", "mM", "(III)I"⟩, prog_14_method_193_code, 3, some .int, 12, 0, 3, 31175, 31174, 0, 21014)) (Cs := []) (an := []) (ss := []) (K := 1) (fuel := 4000) wd_fl2_ok rfl (List.forall_mem_nil _) (by decide +kernel)
/- UtilityWorksModel mC -/
def kh_605 : ct_T := (338, [(0, 0, 9, 1), (0, 12, 12, 0)], [], [], [(1, (0, 1313, 1457, 16), [(0, 0, 9, 1), (0, 12, 12, 0)], [], ([], []))], [], 0, 0, 0)
theorem kh_605_ok : ct_ok wd_fl2 kh_605 := ct_of (ff := wd_ff2) (y := (⟨"UtilityWorksModel", "mC", "(II)I"⟩, prog_14_method_192_code, 2, some .int, 12, 0, 2, 31168, 31167, 0, 21014)) (Cs := []) (an := []) (ss := []) (K := 1) (fuel := 4000) wd_fl2_ok rfl (List.forall_mem_nil _) (by decide +kernel)
/- UtilityWorksModel mRead -/
def kh_606 : ct_T := (428, [(2, 805, 805, 0), (0, 0, 9, 1), (0, 0, 0, 0)], [], [510, 515], [(1, (0, (-9999), 9999, 1), [(2, 805, 805, 0), (0, 0, 9, 1), (0, 0, 0, 0)], [], ([510, 515], []))], [((806, 806), (1464, 2011, 1))], 2, 43, 0)
theorem kh_606_ok : ct_ok wd_fl2 kh_606 := ct_of (ff := wd_ff2) (y := (⟨"UtilityWorksModel", "mRead", "(II)I"⟩, prog_14_method_209_code, 6, some .int, 12, 1, 2, 34006, 34005, 9000, 21014)) (Cs := [kh_604, kh_405, kh_bRight, kh_605]) (an := []) (ss := []) (K := 1) (fuel := 4000) wd_fl2_ok rfl (List.forall_mem_cons.mpr ⟨kh_604_ok, (List.forall_mem_cons.mpr ⟨kh_405_l2, (List.forall_mem_cons.mpr ⟨kh_bRight_ok, (List.forall_mem_cons.mpr ⟨kh_605_ok, (List.forall_mem_nil _)⟩)⟩)⟩)⟩) (by decide +kernel)
/- UtilityWorksModel mM -/
def kh_607 : ct_T := (340, [(0, 0, 9, 1), (0, 0, 1, 1), (0, 0, 0, 0)], [], [], [(1, (0, 1461, 1769, 11), [(0, 0, 9, 1), (0, 0, 1, 1), (0, 0, 0, 0)], [], ([], []))], [], 0, 0, 0)
theorem kh_607_ok : ct_ok wd_fl2 kh_607 := ct_of (ff := wd_ff2) (y := (⟨"UtilityWorksModel", "mM", "(III)I"⟩, prog_14_method_193_code, 3, some .int, 12, 0, 3, 31175, 31174, 0, 21014)) (Cs := []) (an := []) (ss := []) (K := 1) (fuel := 4000) wd_fl2_ok rfl (List.forall_mem_nil _) (by decide +kernel)
/- UtilityWorksModel mRead -/
def kh_608 : ct_T := (428, [(2, 805, 805, 0), (0, 0, 9, 1), (0, 0, 1, 1)], [], [510, 515], [(1, (0, (-9999), 9999, 1), [(2, 805, 805, 0), (0, 0, 9, 1), (0, 0, 1, 1)], [], ([510, 515], []))], [((806, 806), (1464, 2011, 1))], 2, 43, 0)
theorem kh_608_ok : ct_ok wd_fl2 kh_608 := ct_of (ff := wd_ff2) (y := (⟨"UtilityWorksModel", "mRead", "(II)I"⟩, prog_14_method_209_code, 6, some .int, 12, 1, 2, 34006, 34005, 9000, 21014)) (Cs := [kh_607, kh_405, kh_bRight, kh_605]) (an := []) (ss := []) (K := 1) (fuel := 4000) wd_fl2_ok rfl (List.forall_mem_cons.mpr ⟨kh_607_ok, (List.forall_mem_cons.mpr ⟨kh_405_l2, (List.forall_mem_cons.mpr ⟨kh_bRight_ok, (List.forall_mem_cons.mpr ⟨kh_605_ok, (List.forall_mem_nil _)⟩)⟩)⟩)⟩) (by decide +kernel)
/- UtilityWorksModel mM -/
def kh_609 : ct_T := (340, [(0, 0, 9, 1), (0, 0, 2, 1), (0, 0, 0, 0)], [], [], [(1, (0, 1461, 1780, 11), [(0, 0, 9, 1), (0, 0, 2, 1), (0, 0, 0, 0)], [], ([], []))], [], 0, 0, 0)
theorem kh_609_ok : ct_ok wd_fl2 kh_609 := ct_of (ff := wd_ff2) (y := (⟨"UtilityWorksModel", "mM", "(III)I"⟩, prog_14_method_193_code, 3, some .int, 12, 0, 3, 31175, 31174, 0, 21014)) (Cs := []) (an := []) (ss := []) (K := 1) (fuel := 4000) wd_fl2_ok rfl (List.forall_mem_nil _) (by decide +kernel)
/- UtilityWorksModel mRead -/
def kh_610 : ct_T := (428, [(2, 805, 805, 0), (0, 0, 9, 1), (0, 0, 2, 1)], [], [510, 515], [(1, (0, (-9999), 9999, 1), [(2, 805, 805, 0), (0, 0, 9, 1), (0, 0, 2, 1)], [], ([510, 515], []))], [((806, 806), (1464, 2011, 1))], 2, 43, 0)
theorem kh_610_ok : ct_ok wd_fl2 kh_610 := ct_of (ff := wd_ff2) (y := (⟨"UtilityWorksModel", "mRead", "(II)I"⟩, prog_14_method_209_code, 6, some .int, 12, 1, 2, 34006, 34005, 9000, 21014)) (Cs := [kh_609, kh_405, kh_bRight, kh_605]) (an := []) (ss := []) (K := 1) (fuel := 4000) wd_fl2_ok rfl (List.forall_mem_cons.mpr ⟨kh_609_ok, (List.forall_mem_cons.mpr ⟨kh_405_l2, (List.forall_mem_cons.mpr ⟨kh_bRight_ok, (List.forall_mem_cons.mpr ⟨kh_605_ok, (List.forall_mem_nil _)⟩)⟩)⟩)⟩) (by decide +kernel)
/- UtilityWorksModel bC -/
def kh_611 : ct_T := (413, [(0, 0, 9, 1), (0, 5, 5, 0)], [], [], [(1, (0, 1825, 2005, 20), [(0, 0, 9, 1), (0, 5, 5, 0)], [], ([], []))], [], 0, 0, 0)
theorem kh_611_ok : ct_ok wd_fl2 kh_611 := ct_of (ff := wd_ff2) (y := (⟨"UtilityWorksModel", "bC", "(II)I"⟩, prog_14_method_227_code, 2, some .int, 12, 0, 2, 33186, 33185, 0, 21014)) (Cs := []) (an := []) (ss := []) (K := 1) (fuel := 4000) wd_fl2_ok rfl (List.forall_mem_nil _) (by decide +kernel)
/- UtilityWorksModel bCuts -/
def kh_612 : ct_T := (430, [(2, 805, 805, 0), (0, 0, 9, 1)], [], [], [(0, (0, 0, 0, 0), [(2, 805, 805, 0), (0, 0, 9, 1)], [], ([], []))], [((806, 806), (1303, 1447, 16)), ((806, 806), (1825, 2005, 20))], 1, 21, 0)
theorem kh_612_ok : ct_ok wd_fl2 kh_612 := ct_of (ff := wd_ff2) (y := (⟨"UtilityWorksModel", "bCuts", "(I)V"⟩, prog_14_method_236_code, 2, none, 12, 1, 1, 34014, 34013, 9002, 21014)) (Cs := [kh_611, kh_396]) (an := []) (ss := []) (K := 1) (fuel := 4000) wd_fl2_ok rfl (List.forall_mem_cons.mpr ⟨kh_611_ok, (List.forall_mem_cons.mpr ⟨kh_396_l2, (List.forall_mem_nil _)⟩)⟩) (by decide +kernel)
/- UtilityWorksModel bConnects -/
def kh_613 : ct_T := (431, [(2, 805, 805, 0), (0, 0, 9, 1)], [], [], [(0, (0, 0, 0, 0), [(2, 805, 805, 0), (0, 0, 9, 1)], [], ([], []))], [((806, 806), (1303, 1447, 16)), ((806, 806), (1825, 2005, 20))], 1, 21, 0)
theorem kh_613_ok : ct_ok wd_fl2 kh_613 := ct_of (ff := wd_ff2) (y := (⟨"UtilityWorksModel", "bConnects", "(I)V"⟩, prog_14_method_237_code, 2, none, 12, 1, 1, 34018, 34017, 9003, 21014)) (Cs := [kh_396, kh_611]) (an := []) (ss := []) (K := 1) (fuel := 4000) wd_fl2_ok rfl (List.forall_mem_cons.mpr ⟨kh_396_l2, (List.forall_mem_cons.mpr ⟨kh_611_ok, (List.forall_mem_nil _)⟩)⟩) (by decide +kernel)
abbrev kh_cEffect_y : mt_T := (⟨"UtilityWorksModel", "cEffect", "(I)V"⟩, prog_14_method_289_code, 6, none, 12, 1, 1, 33230, 33229, 8012, 21014)
def kh_cEffect : ct_T := (424, [(2, 805, 805, 0), (0, 0, 199, 1)], [], [510, 515], [(0, (0, 0, 0, 0), [(2, 805, 805, 0), (0, 0, 199, 1)], [], ([515], []))], [((806, 806), (66, 343, 1)), ((806, 806), (1303, 1447, 16)), ((806, 806), (1464, 2011, 1)), ((813, 813), (0, 11, 1))], 7, 157, 0)
def kh_cEffect_a111 : an_T := (111, 0, ([((2, 805, 805, 0), none), ((0, 0, 199, 1), none), ((0, 0, 2, 1), none), ((0, 0, 16, 1), none), ((0, 0, 3, 1), none)], [(0, 0), (1, 1), (2, 2), (3, 3), (4, 4)], [], [], [], [], [], [510, 515], none), [])
def kh_cEffect_a135 : an_T := (135, 0, ([((2, 805, 805, 0), none), ((0, 0, 199, 1), none), ((0, 0, 2, 1), none), ((0, 0, 16, 1), none)], [(0, 0), (1, 1), (2, 2), (3, 3)], [], [], [], [], [], [510, 515], none), [])
def kh_cEffect_a143 : an_T := (143, 0, ([((2, 805, 805, 0), none), ((0, 0, 199, 1), none), ((0, 0, 2, 1), none), ((0, 0, 16, 1), none)], [(0, 0), (1, 1), (2, 2), (3, 3)], [], [], [], [], [], [510, 515], none), [])
def kh_cEffect_b0_0 : sg_T := (148, 0, ([((2, 805, 805, 0), none), ((0, 0, 199, 1), none), ((2, 806, 806, 1), none), ((0, 1, 1, 0), none), ((0, 2451, 4043, 8), none), ((0, 0, 2, 1), none), ((2, 806, 806, 1), none), ((0, 2, 2, 0), none), ((0, 2452, 4044, 8), none), ((0, 0, 16, 1), none), ((2, 806, 806, 1), none), ((0, 0, 0, 0), none), ((0, 2450, 4042, 8), none), ((0, 0, 0, 0), none)], [(3, 9), (2, 5), (0, 0), (1, 1)], [], [(10, 12, 13), (6, 8, 9), (2, 4, 5)], [], [(800013, 10, 12), (1200012, 1, 11), (800009, 6, 8), (1200008, 1, 7), (800005, 2, 4), (1200004, 1, 3)], [], [510, 515], none))
def kh_cEffect_b0_1 : sg_T := (148, 0, ([((2, 805, 805, 0), none), ((0, 0, 199, 1), none), ((2, 806, 806, 1), none), ((0, 1, 1, 0), none), ((0, 2451, 4043, 8), none), ((0, 0, 2, 1), none), ((2, 806, 806, 1), none), ((0, 2, 2, 0), none), ((0, 2452, 4044, 8), none), ((0, 0, 16, 1), none), ((2, 806, 806, 1), none), ((0, 0, 0, 0), none), ((0, 2450, 4042, 8), none), ((0, 1, 1, 0), none)], [(3, 9), (2, 5), (0, 0), (1, 1)], [], [(10, 12, 13), (6, 8, 9), (2, 4, 5)], [], [(800013, 10, 12), (1200012, 1, 11), (800009, 6, 8), (1200008, 1, 7), (800005, 2, 4), (1200004, 1, 3)], [], [510, 515], none))
def kh_cEffect_b0_2 : sg_T := (148, 0, ([((2, 805, 805, 0), none), ((0, 0, 199, 1), none), ((2, 806, 806, 1), none), ((0, 1, 1, 0), none), ((0, 2451, 4043, 8), none), ((0, 0, 2, 1), none), ((2, 806, 806, 1), none), ((0, 2, 2, 0), none), ((0, 2452, 4044, 8), none), ((0, 0, 16, 1), none), ((2, 806, 806, 1), none), ((0, 0, 0, 0), none), ((0, 2450, 4042, 8), none), ((0, 2, 2, 0), none)], [(3, 9), (2, 5), (0, 0), (1, 1)], [], [(10, 12, 13), (6, 8, 9), (2, 4, 5)], [], [(800013, 10, 12), (1200012, 1, 11), (800009, 6, 8), (1200008, 1, 7), (800005, 2, 4), (1200004, 1, 3)], [], [510, 515], none))
def kh_cEffect_b0_3 : sg_T := (148, 0, ([((2, 805, 805, 0), none), ((0, 0, 199, 1), none), ((2, 806, 806, 1), none), ((0, 1, 1, 0), none), ((0, 2451, 4043, 8), none), ((0, 0, 2, 1), none), ((2, 806, 806, 1), none), ((0, 2, 2, 0), none), ((0, 2452, 4044, 8), none), ((0, 0, 16, 1), none), ((2, 806, 806, 1), none), ((0, 0, 0, 0), none), ((0, 2450, 4042, 8), none), ((0, 3, 3, 0), none), ((0, 40, 40, 0), none)], [(3, 9), (2, 5), (0, 0), (1, 1)], [], [(10, 12, 13), (6, 8, 9), (2, 4, 5)], [], [(800013, 10, 12), (1200012, 1, 11), (800009, 6, 8), (1200008, 1, 7), (800005, 2, 4), (1200004, 1, 3)], [], [510, 515], none))
def kh_cEffect_b0_4 : sg_T := (111, 0, ([((2, 805, 805, 0), none), ((0, 0, 199, 1), none), ((2, 806, 806, 1), none), ((0, 1, 1, 0), none), ((0, 2451, 4043, 8), none), ((0, 0, 2, 1), none), ((2, 806, 806, 1), none), ((0, 2, 2, 0), none), ((0, 2452, 4044, 8), none), ((0, 0, 16, 1), none), ((2, 806, 806, 1), none), ((0, 0, 0, 0), none), ((0, 2450, 4042, 8), none), ((0, 4, 4, 0), none), ((0, 0, 0, 0), none)], [(4, 14), (3, 9), (2, 5), (0, 0), (1, 1)], [], [(10, 12, 13), (6, 8, 9), (2, 4, 5)], [], [(800013, 10, 12), (1200012, 1, 11), (800009, 6, 8), (1200008, 1, 7), (800005, 2, 4), (1200004, 1, 3)], [], [510, 515], some []))
def kh_cEffect_b0_5 : sg_T := (135, 0, ([((2, 805, 805, 0), none), ((0, 0, 199, 1), none), ((2, 806, 806, 1), none), ((0, 1, 1, 0), none), ((0, 2451, 4043, 8), none), ((0, 0, 2, 1), none), ((2, 806, 806, 1), none), ((0, 2, 2, 0), none), ((0, 2452, 4044, 8), none), ((0, 0, 16, 1), none), ((2, 806, 806, 1), none), ((0, 0, 0, 0), none), ((0, 2450, 4042, 8), none), ((0, 5, 5, 0), none)], [(3, 9), (2, 5), (0, 0), (1, 1)], [], [(10, 12, 13), (6, 8, 9), (2, 4, 5)], [], [(800013, 10, 12), (1200012, 1, 11), (800009, 6, 8), (1200008, 1, 7), (800005, 2, 4), (1200004, 1, 3)], [], [510, 515], some []))
def kh_cEffect_b0_6 : sg_T := (143, 0, ([((2, 805, 805, 0), none), ((0, 0, 199, 1), none), ((2, 806, 806, 1), none), ((0, 1, 1, 0), none), ((0, 2451, 4043, 8), none), ((0, 0, 2, 1), none), ((2, 806, 806, 1), none), ((0, 2, 2, 0), none), ((0, 2452, 4044, 8), none), ((0, 0, 16, 1), none), ((2, 806, 806, 1), none), ((0, 0, 0, 0), none), ((0, 2450, 4042, 8), none), ((0, 6, 6, 1), none)], [(3, 9), (2, 5), (0, 0), (1, 1)], [], [(10, 12, 13), (6, 8, 9), (2, 4, 5)], [], [(800013, 10, 12), (1200012, 1, 11), (800009, 6, 8), (1200008, 1, 7), (800005, 2, 4), (1200004, 1, 3)], [], [510, 515], some []))
def kh_cEffect_b111_0 : sg_T := (148, 0, ([((2, 805, 805, 0), none), ((0, 0, 199, 1), none), ((0, 0, 2, 1), none), ((0, 0, 9, 1), none), ((0, 3, 3, 1), none), ((0, 3, 3, 0), none)], [(0, 0), (1, 1), (2, 2), (3, 3), (4, 4)], [], [], [], [(200000, 5, 4)], [], [510, 515], some []))
def kh_cEffect_b111_1 : sg_T := (111, 0, ([((2, 805, 805, 0), none), ((0, 0, 199, 1), none), ((0, 0, 2, 1), none), ((0, 0, 9, 1), none), ((0, 0, 2, 1), none), ((0, 3, 3, 0), none), ((0, (-9999), 9999, 1), none), ((0, 1, 3, 1), some (4, 1))], [(4, 7), (5, 6), (0, 0), (1, 1), (2, 2), (3, 3)], [], [], [], [(100000, 4, 5)], [], [510, 515, 510], none))
def kh_cEffect_b135_0 : sg_T := (148, 0, ([((2, 805, 805, 0), none), ((0, 0, 199, 1), none), ((0, 0, 2, 1), none), ((0, 0, 9, 1), none)], [(0, 0), (1, 1), (2, 2), (3, 3)], [], [], [], [], [], [510, 515], none))
def kh_cEffect_b143_0 : sg_T := (148, 0, ([((2, 805, 805, 0), none), ((0, 0, 199, 1), none), ((0, 0, 2, 1), none), ((0, 0, 9, 1), none)], [(0, 0), (1, 1), (2, 2), (3, 3)], [], [], [], [], [], [510, 515], none))
def kh_cEffect_I (l : Launch) (D : va_G) (tc : Nat → ClassId) (ad : Nat → Nat) (kd : Nat → Nat × Nat) (N : Nat) (sm : Nat → Nat) (xs : List av_X) (S : fw_S) (p : Program) (e : Env) (s : State) (m : MethodId) (args : Array Value) (below : List Frame) (meth : Method) (c : Code) (sz : Nat) (k : Nat) : Prop := (∀ (α : List av_X) (lv : List (Nat × Value)) (st : List Value) (S1 : fw_S), as_in ad sm wd_fl2 xs S kh_cEffect.2.2.2.2.2.1 α kh_cEffect_a111.2.2.1 lv st S1 → (nv α 3 ≤ 9) → (3 - nv α 4).toNat < k → hd_W wd_fl2 kh_cEffect kh_cEffect_y l D tc ad kd N sm xs S p e s m args below meth c sz 111 lv st S1 0) ∧ (∀ (α : List av_X) (lv : List (Nat × Value)) (st : List Value) (S1 : fw_S), as_in ad sm wd_fl2 xs S kh_cEffect.2.2.2.2.2.1 α kh_cEffect_a135.2.2.1 lv st S1 → (nv α 3 ≤ 9) → 0 < k → hd_W wd_fl2 kh_cEffect kh_cEffect_y l D tc ad kd N sm xs S p e s m args below meth c sz 135 lv st S1 0) ∧ (∀ (α : List av_X) (lv : List (Nat × Value)) (st : List Value) (S1 : fw_S), as_in ad sm wd_fl2 xs S kh_cEffect.2.2.2.2.2.1 α kh_cEffect_a143.2.2.1 lv st S1 → (nv α 3 ≤ 9) → 0 < k → hd_W wd_fl2 kh_cEffect kh_cEffect_y l D tc ad kd N sm xs S p e s m args below meth c sz 143 lv st S1 0) ∧ True
set_option maxHeartbeats 16000000 in
set_option maxRecDepth 8000 in
theorem kh_cEffect_h111 {l : Launch} {D : va_G} {tc : Nat → ClassId} {ad : Nat → Nat} {kd : Nat → Nat × Nat} {N : Nat} {sm : Nat → Nat} {xs : List av_X} {S : fw_S} {p : Program} {e : Env} {s : State} {m : MethodId} {args : Array Value} {below : List Frame} {meth : Method} {c : Code} {sz : Nat} {lvE : List (Nat × Value)} (G : hd_C wd_ff2 wd_fl2 kh_cEffect [kh_cJ1, kh_cJ2, kh_cJ0, kh_598, kh_599, kh_601, kh_603, kh_606, kh_608, kh_610, kh_612, kh_613] kh_cEffect_y l D tc ad kd N sm xs p s m args meth c sz) (H0 : as_in ad sm wd_fl2 xs S kh_cEffect.2.2.2.2.2.1 xs (hd_0 kh_cEffect) lvE [] S) {k : Nat} (ih : kh_cEffect_I l D tc ad kd N sm xs S p e s m args below meth c sz k) : (∀ (α : List av_X) (lv : List (Nat × Value)) (st : List Value) (S1 : fw_S), as_in ad sm wd_fl2 xs S kh_cEffect.2.2.2.2.2.1 α kh_cEffect_a111.2.2.1 lv st S1 → (nv α 3 ≤ 9) → (3 - nv α 4).toNat < k + 1 → hd_W wd_fl2 kh_cEffect kh_cEffect_y l D tc ad kd N sm xs S p e s m args below meth c sz 111 lv st S1 0) := by
  have hx : xs.length = 2 := by rw [H0.2.1.1]; rfl
  have q510 : crewF (S.1 806) := by
    have h := H0.2.2.2.2.2.2.2.2.1 510 (by decide +kernel)
    rw [wd_fl2, if_neg (by decide)] at h
    exact h
  intro α lv st S1 H hp hk
  have bp := (en_nv (i := 3) H.2.1 rfl).2
  change 0 ≤ nv α 3 ∧ nv α 3 ≤ 16 at bp
  replace H := as_clamp (i := 3) (lo := 0) (hi := 9) H rfl rfl (by omega) (by exact hp) (by decide)
  obtain ⟨α1, hle, Hr⟩ := as_recM (pl := []) [((806, 806), (1464, 2011, 1))] (by decide +kernel) H
  have hf := H.2.2.2.2.2.2.2.2.2.2.1
  have hl1 : α1.length = 5 := by rw [Hr.2.1.1]; rfl
  have hl0 : α.length = 5 := by rw [H.2.1.1]; rfl
  have hxa : al_le xs α1 := H.1.trans hle
  obtain ⟨g1, -, g3, g4, -⟩ := as_fx Hr
  have g0 : (805 ≤ nv α1 0 ∧ nv α1 0 ≤ 805) ∧ (0 ≤ nv α1 1 ∧ nv α1 1 ≤ 199) ∧ (0 ≤ nv α1 2 ∧ nv α1 2 ≤ 2) ∧ (0 ≤ nv α1 3 ∧ nv α1 3 ≤ 9) ∧ (0 ≤ nv α1 4 ∧ nv α1 4 ≤ 3) ∧ True := by
    refine ⟨by have h := (en_nv (i := 0) Hr.2.1 rfl).2; exact h, by have h := (en_nv (i := 1) Hr.2.1 rfl).2; exact h, by have h := (en_nv (i := 2) Hr.2.1 rfl).2; exact h, by have h := (en_nv (i := 3) Hr.2.1 rfl).2; exact h, by have h := (en_nv (i := 4) Hr.2.1 rfl).2; exact h, trivial⟩
  have r0 : nv α1 0 = nv α 0 := nv_le hle (by omega)
  have r1 : nv α1 1 = nv α 1 := nv_le hle (by omega)
  have r2 : nv α1 2 = nv α 2 := nv_le hle (by omega)
  have r3 : nv α1 3 = nv α 3 := nv_le hle (by omega)
  have r4 : nv α1 4 = nv α 4 := nv_le hle (by omega)
  refine hd_segM G (na := 5) (fuel := 600) (first := true) (Bs := [kh_cEffect_b111_0, kh_cEffect_b111_1]) (by decide +kernel) hl1 Hr ?_
  intro q hq β lv' st' S' H1
  simp only [List.mem_cons, List.not_mem_nil, or_false] at hq
  rcases hq with rfl | rfl
  · obtain ⟨f1, f2, f3, f4, f5⟩ := as_fx H1
    simp only [kh_cEffect_b111_0, fx_env, fx_c, fx_ne, fx_hf, wl_S, Nat.zero_add, Nat.reduceAdd, Nat.reduceDiv, Nat.reduceMod, List.getElem?_cons_zero, List.getElem?_cons_succ, if_true, and_true, true_and] at f1 f2 f3 f4 f5
    have fe0 : nv β 0 = 805 := by omega
    have fe4 : nv β 4 = 3 := by omega
    have fe5 : nv β 5 = 3 := by omega
    try simp only [fe0, fe4, fe5, Int.reduceToNat] at f2 f3 f4 f5
    have s0 : nv β 0 = nv α1 0 := nv_le H1.1 (by omega)
    have s1 : nv β 1 = nv α1 1 := nv_le H1.1 (by omega)
    have s2 : nv β 2 = nv α1 2 := nv_le H1.1 (by omega)
    have s3 : nv β 3 = nv α1 3 := nv_le H1.1 (by omega)
    have s4 : nv β 4 = nv α1 4 := nv_le H1.1 (by omega)
    have c0 := f2
    exact hd_run G (ss := []) (fuel := 20) (by decide +kernel) (as_backM H1 (by decide +kernel) hxa hf)
  · obtain ⟨f1, f2, f3, f4, f5⟩ := as_fx H1
    simp only [kh_cEffect_b111_1, fx_env, fx_c, fx_ne, fx_hf, wl_S, Nat.zero_add, Nat.reduceAdd, Nat.reduceDiv, Nat.reduceMod, List.getElem?_cons_zero, List.getElem?_cons_succ, if_true, and_true, true_and] at f1 f2 f3 f4 f5
    have fe0 : nv β 0 = 805 := by omega
    have fe5 : nv β 5 = 3 := by omega
    try simp only [fe0, fe5, Int.reduceToNat] at f2 f3 f4 f5
    have s0 : nv β 0 = nv α1 0 := nv_le H1.1 (by omega)
    have s1 : nv β 1 = nv α1 1 := nv_le H1.1 (by omega)
    have s2 : nv β 2 = nv α1 2 := nv_le H1.1 (by omega)
    have s3 : nv β 3 = nv α1 3 := nv_le H1.1 (by omega)
    have s4 : nv β 4 = nv α1 4 := nv_le H1.1 (by omega)
    have c0 := f2
    obtain ⟨α', Ha, hm⟩ := hd_gpM (q := kh_cEffect_a111) (n := 0) (by decide +kernel) hx H1 (by decide +kernel) hxa hf
    have hfr := H1.2.2.2.2.2.2.2.2.2.2.1
    have m0 : nv α' 0 = nv β 0 := hm 0 0 rfl
    have m1 : nv α' 1 = nv β 1 := hm 1 1 rfl
    have m2 : nv α' 2 = nv β 2 := hm 2 2 rfl
    have m3 : nv α' 3 = nv β 3 := hm 3 3 rfl
    have m4 : nv α' 4 = nv β 7 := hm 4 7 rfl
    refine ih.1 _ _ _ _ Ha ?_ ?_
    · rw [m3, s3, r3]; exact hp
    · omega
set_option maxHeartbeats 16000000 in
set_option maxRecDepth 8000 in
theorem kh_cEffect_h135 {l : Launch} {D : va_G} {tc : Nat → ClassId} {ad : Nat → Nat} {kd : Nat → Nat × Nat} {N : Nat} {sm : Nat → Nat} {xs : List av_X} {S : fw_S} {p : Program} {e : Env} {s : State} {m : MethodId} {args : Array Value} {below : List Frame} {meth : Method} {c : Code} {sz : Nat} {lvE : List (Nat × Value)} (G : hd_C wd_ff2 wd_fl2 kh_cEffect [kh_cJ1, kh_cJ2, kh_cJ0, kh_598, kh_599, kh_601, kh_603, kh_606, kh_608, kh_610, kh_612, kh_613] kh_cEffect_y l D tc ad kd N sm xs p s m args meth c sz) (H0 : as_in ad sm wd_fl2 xs S kh_cEffect.2.2.2.2.2.1 xs (hd_0 kh_cEffect) lvE [] S) {k : Nat} (ih : kh_cEffect_I l D tc ad kd N sm xs S p e s m args below meth c sz k) : (∀ (α : List av_X) (lv : List (Nat × Value)) (st : List Value) (S1 : fw_S), as_in ad sm wd_fl2 xs S kh_cEffect.2.2.2.2.2.1 α kh_cEffect_a135.2.2.1 lv st S1 → (nv α 3 ≤ 9) → 0 < k + 1 → hd_W wd_fl2 kh_cEffect kh_cEffect_y l D tc ad kd N sm xs S p e s m args below meth c sz 135 lv st S1 0) := by
  have hx : xs.length = 2 := by rw [H0.2.1.1]; rfl
  have q510 : crewF (S.1 806) := by
    have h := H0.2.2.2.2.2.2.2.2.1 510 (by decide +kernel)
    rw [wd_fl2, if_neg (by decide)] at h
    exact h
  intro α lv st S1 H hp hk
  have bp := (en_nv (i := 3) H.2.1 rfl).2
  change 0 ≤ nv α 3 ∧ nv α 3 ≤ 16 at bp
  replace H := as_clamp (i := 3) (lo := 0) (hi := 9) H rfl rfl (by omega) (by exact hp) (by decide)
  obtain ⟨α1, hle, Hr⟩ := as_recM (pl := []) [((806, 806), (1303, 1447, 16)), ((806, 806), (1825, 2005, 20))] (by decide +kernel) H
  have hf := H.2.2.2.2.2.2.2.2.2.2.1
  have hl1 : α1.length = 4 := by rw [Hr.2.1.1]; rfl
  have hl0 : α.length = 4 := by rw [H.2.1.1]; rfl
  have hxa : al_le xs α1 := H.1.trans hle
  obtain ⟨g1, -, g3, g4, -⟩ := as_fx Hr
  have g0 : (805 ≤ nv α1 0 ∧ nv α1 0 ≤ 805) ∧ (0 ≤ nv α1 1 ∧ nv α1 1 ≤ 199) ∧ (0 ≤ nv α1 2 ∧ nv α1 2 ≤ 2) ∧ (0 ≤ nv α1 3 ∧ nv α1 3 ≤ 9) ∧ True := by
    refine ⟨by have h := (en_nv (i := 0) Hr.2.1 rfl).2; exact h, by have h := (en_nv (i := 1) Hr.2.1 rfl).2; exact h, by have h := (en_nv (i := 2) Hr.2.1 rfl).2; exact h, by have h := (en_nv (i := 3) Hr.2.1 rfl).2; exact h, trivial⟩
  have r0 : nv α1 0 = nv α 0 := nv_le hle (by omega)
  have r1 : nv α1 1 = nv α 1 := nv_le hle (by omega)
  have r2 : nv α1 2 = nv α 2 := nv_le hle (by omega)
  have r3 : nv α1 3 = nv α 3 := nv_le hle (by omega)
  refine hd_segM G (na := 4) (fuel := 600) (first := true) (Bs := [kh_cEffect_b135_0]) (by decide +kernel) hl1 Hr ?_
  intro q hq β lv' st' S' H1
  simp only [List.mem_cons, List.not_mem_nil, or_false] at hq
  rcases hq with rfl
  · obtain ⟨f1, f2, f3, f4, f5⟩ := as_fx H1
    simp only [kh_cEffect_b135_0, fx_env, fx_c, fx_ne, fx_hf, wl_S, Nat.zero_add, Nat.reduceAdd, Nat.reduceDiv, Nat.reduceMod, List.getElem?_cons_zero, List.getElem?_cons_succ, if_true, and_true, true_and] at f1 f2 f3 f4 f5
    have fe0 : nv β 0 = 805 := by omega
    try simp only [fe0, Int.reduceToNat] at f2 f3 f4 f5
    have s0 : nv β 0 = nv α1 0 := nv_le H1.1 (by omega)
    have s1 : nv β 1 = nv α1 1 := nv_le H1.1 (by omega)
    have s2 : nv β 2 = nv α1 2 := nv_le H1.1 (by omega)
    have s3 : nv β 3 = nv α1 3 := nv_le H1.1 (by omega)
    exact hd_run G (ss := []) (fuel := 20) (by decide +kernel) (as_backM H1 (by decide +kernel) hxa hf)
set_option maxHeartbeats 16000000 in
set_option maxRecDepth 8000 in
theorem kh_cEffect_h143 {l : Launch} {D : va_G} {tc : Nat → ClassId} {ad : Nat → Nat} {kd : Nat → Nat × Nat} {N : Nat} {sm : Nat → Nat} {xs : List av_X} {S : fw_S} {p : Program} {e : Env} {s : State} {m : MethodId} {args : Array Value} {below : List Frame} {meth : Method} {c : Code} {sz : Nat} {lvE : List (Nat × Value)} (G : hd_C wd_ff2 wd_fl2 kh_cEffect [kh_cJ1, kh_cJ2, kh_cJ0, kh_598, kh_599, kh_601, kh_603, kh_606, kh_608, kh_610, kh_612, kh_613] kh_cEffect_y l D tc ad kd N sm xs p s m args meth c sz) (H0 : as_in ad sm wd_fl2 xs S kh_cEffect.2.2.2.2.2.1 xs (hd_0 kh_cEffect) lvE [] S) {k : Nat} (ih : kh_cEffect_I l D tc ad kd N sm xs S p e s m args below meth c sz k) : (∀ (α : List av_X) (lv : List (Nat × Value)) (st : List Value) (S1 : fw_S), as_in ad sm wd_fl2 xs S kh_cEffect.2.2.2.2.2.1 α kh_cEffect_a143.2.2.1 lv st S1 → (nv α 3 ≤ 9) → 0 < k + 1 → hd_W wd_fl2 kh_cEffect kh_cEffect_y l D tc ad kd N sm xs S p e s m args below meth c sz 143 lv st S1 0) := by
  have hx : xs.length = 2 := by rw [H0.2.1.1]; rfl
  have q510 : crewF (S.1 806) := by
    have h := H0.2.2.2.2.2.2.2.2.1 510 (by decide +kernel)
    rw [wd_fl2, if_neg (by decide)] at h
    exact h
  intro α lv st S1 H hp hk
  have bp := (en_nv (i := 3) H.2.1 rfl).2
  change 0 ≤ nv α 3 ∧ nv α 3 ≤ 16 at bp
  replace H := as_clamp (i := 3) (lo := 0) (hi := 9) H rfl rfl (by omega) (by exact hp) (by decide)
  obtain ⟨α1, hle, Hr⟩ := as_recM (pl := []) [((806, 806), (1303, 1447, 16)), ((806, 806), (1825, 2005, 20))] (by decide +kernel) H
  have hf := H.2.2.2.2.2.2.2.2.2.2.1
  have hl1 : α1.length = 4 := by rw [Hr.2.1.1]; rfl
  have hl0 : α.length = 4 := by rw [H.2.1.1]; rfl
  have hxa : al_le xs α1 := H.1.trans hle
  obtain ⟨g1, -, g3, g4, -⟩ := as_fx Hr
  have g0 : (805 ≤ nv α1 0 ∧ nv α1 0 ≤ 805) ∧ (0 ≤ nv α1 1 ∧ nv α1 1 ≤ 199) ∧ (0 ≤ nv α1 2 ∧ nv α1 2 ≤ 2) ∧ (0 ≤ nv α1 3 ∧ nv α1 3 ≤ 9) ∧ True := by
    refine ⟨by have h := (en_nv (i := 0) Hr.2.1 rfl).2; exact h, by have h := (en_nv (i := 1) Hr.2.1 rfl).2; exact h, by have h := (en_nv (i := 2) Hr.2.1 rfl).2; exact h, by have h := (en_nv (i := 3) Hr.2.1 rfl).2; exact h, trivial⟩
  have r0 : nv α1 0 = nv α 0 := nv_le hle (by omega)
  have r1 : nv α1 1 = nv α 1 := nv_le hle (by omega)
  have r2 : nv α1 2 = nv α 2 := nv_le hle (by omega)
  have r3 : nv α1 3 = nv α 3 := nv_le hle (by omega)
  refine hd_segM G (na := 4) (fuel := 600) (first := true) (Bs := [kh_cEffect_b143_0]) (by decide +kernel) hl1 Hr ?_
  intro q hq β lv' st' S' H1
  simp only [List.mem_cons, List.not_mem_nil, or_false] at hq
  rcases hq with rfl
  · obtain ⟨f1, f2, f3, f4, f5⟩ := as_fx H1
    simp only [kh_cEffect_b143_0, fx_env, fx_c, fx_ne, fx_hf, wl_S, Nat.zero_add, Nat.reduceAdd, Nat.reduceDiv, Nat.reduceMod, List.getElem?_cons_zero, List.getElem?_cons_succ, if_true, and_true, true_and] at f1 f2 f3 f4 f5
    have fe0 : nv β 0 = 805 := by omega
    try simp only [fe0, Int.reduceToNat] at f2 f3 f4 f5
    have s0 : nv β 0 = nv α1 0 := nv_le H1.1 (by omega)
    have s1 : nv β 1 = nv α1 1 := nv_le H1.1 (by omega)
    have s2 : nv β 2 = nv α1 2 := nv_le H1.1 (by omega)
    have s3 : nv β 3 = nv α1 3 := nv_le H1.1 (by omega)
    exact hd_run G (ss := []) (fuel := 20) (by decide +kernel) (as_backM H1 (by decide +kernel) hxa hf)
set_option maxHeartbeats 16000000 in
set_option maxRecDepth 8000 in
theorem kh_cEffect_ok : ct_ok wd_fl2 kh_cEffect := ct_hand (ff := wd_ff2) (y := kh_cEffect_y) (Cs := [kh_cJ1, kh_cJ2, kh_cJ0, kh_598, kh_599, kh_601, kh_603, kh_606, kh_608, kh_610, kh_612, kh_613]) wd_fl2_ok rfl (List.forall_mem_cons.mpr ⟨kh_cJ1_ok, (List.forall_mem_cons.mpr ⟨kh_cJ2_ok, (List.forall_mem_cons.mpr ⟨kh_cJ0_ok, (List.forall_mem_cons.mpr ⟨kh_598_ok, (List.forall_mem_cons.mpr ⟨kh_599_ok, (List.forall_mem_cons.mpr ⟨kh_601_ok, (List.forall_mem_cons.mpr ⟨kh_603_ok, (List.forall_mem_cons.mpr ⟨kh_606_ok, (List.forall_mem_cons.mpr ⟨kh_608_ok, (List.forall_mem_cons.mpr ⟨kh_610_ok, (List.forall_mem_cons.mpr ⟨kh_612_ok, (List.forall_mem_cons.mpr ⟨kh_613_ok, (List.forall_mem_nil _)⟩)⟩)⟩)⟩)⟩)⟩)⟩)⟩)⟩)⟩)⟩)⟩) (by decide +kernel) (fun l D tc ad kd N sm xs S p e s m args below meth c sz lv G H0 => by
  have hx : xs.length = 2 := by rw [H0.2.1.1]; rfl
  have q510 : crewF (S.1 806) := by
    have h := H0.2.2.2.2.2.2.2.2.1 510 (by decide +kernel)
    rw [wd_fl2, if_neg (by decide)] at h
    exact h
  have hP : ∀ (k : Nat), kh_cEffect_I l D tc ad kd N sm xs S p e s m args below meth c sz k := by
    intro k
    induction k with
    | zero => exact ⟨fun _ _ _ _ _ _ h => absurd h (Nat.not_lt_zero _), fun _ _ _ _ _ _ h => absurd h (Nat.not_lt_zero _), fun _ _ _ _ _ _ h => absurd h (Nat.not_lt_zero _), trivial⟩
    | succ k ih => exact ⟨kh_cEffect_h111 G H0 ih, kh_cEffect_h135 G H0 ih, kh_cEffect_h143 G H0 ih, trivial⟩
  obtain ⟨α1, hle, Hr⟩ := as_recM (pl := []) [((806, 806), (66, 82, 1)), ((806, 806), (100, 116, 1)), ((806, 806), (140, 340, 4)), ((806, 806), (141, 341, 4)), ((806, 806), (142, 342, 4)), ((806, 806), (143, 343, 4)), ((813, 813), (0, 11, 1))] (by decide +kernel) H0
  have hf := H0.2.2.2.2.2.2.2.2.2.2.1
  have hl1 : α1.length = 2 := by rw [Hr.2.1.1]; rfl
  have hl0 : xs.length = 2 := by rw [H0.2.1.1]; rfl
  have hxa : al_le xs α1 := H0.1.trans hle
  obtain ⟨g1, -, g3, g4, -⟩ := as_fx Hr
  have g0 : (805 ≤ nv α1 0 ∧ nv α1 0 ≤ 805) ∧ (0 ≤ nv α1 1 ∧ nv α1 1 ≤ 199) ∧ True := by
    refine ⟨by have h := (en_nv (i := 0) Hr.2.1 rfl).2; exact h, by have h := (en_nv (i := 1) Hr.2.1 rfl).2; exact h, trivial⟩
  have r0 : nv α1 0 = nv xs 0 := nv_le hle (by omega)
  have r1 : nv α1 1 = nv xs 1 := nv_le hle (by omega)
  refine hd_segM G (na := 2) (fuel := 600) (first := true) (Bs := [kh_cEffect_b0_0, kh_cEffect_b0_1, kh_cEffect_b0_2, kh_cEffect_b0_3, kh_cEffect_b0_4, kh_cEffect_b0_5, kh_cEffect_b0_6]) (by decide +kernel) hl1 Hr ?_
  intro q hq β lv' st' S' H1
  simp only [List.mem_cons, List.not_mem_nil, or_false] at hq
  rcases hq with rfl | rfl | rfl | rfl | rfl | rfl | rfl
  · obtain ⟨f1, f2, f3, f4, f5⟩ := as_fx H1
    simp only [kh_cEffect_b0_0, fx_env, fx_c, fx_ne, fx_hf, wl_S, Nat.zero_add, Nat.reduceAdd, Nat.reduceDiv, Nat.reduceMod, List.getElem?_cons_zero, List.getElem?_cons_succ, if_true, and_true, true_and] at f1 f2 f3 f4 f5
    have fe0 : nv β 0 = 805 := by omega
    have fe2 : nv β 2 = 806 := by omega
    have fe3 : nv β 3 = 1 := by omega
    have fe6 : nv β 6 = 806 := by omega
    have fe7 : nv β 7 = 2 := by omega
    have fe10 : nv β 10 = 806 := by omega
    have fe11 : nv β 11 = 0 := by omega
    have fe13 : nv β 13 = 0 := by omega
    try simp only [fe0, fe2, fe3, fe6, fe7, fe10, fe11, fe13, Int.reduceToNat] at f2 f3 f4 f5
    have s0 : nv β 0 = nv α1 0 := nv_le H1.1 (by omega)
    have s1 : nv β 1 = nv α1 1 := nv_le H1.1 (by omega)
    obtain ⟨c0, c1, c2, c3, c4, c5⟩ := f2
    exact hd_run G (ss := []) (fuel := 20) (by decide +kernel) (as_backM H1 (by decide +kernel) hxa hf)
  · obtain ⟨f1, f2, f3, f4, f5⟩ := as_fx H1
    simp only [kh_cEffect_b0_1, fx_env, fx_c, fx_ne, fx_hf, wl_S, Nat.zero_add, Nat.reduceAdd, Nat.reduceDiv, Nat.reduceMod, List.getElem?_cons_zero, List.getElem?_cons_succ, if_true, and_true, true_and] at f1 f2 f3 f4 f5
    have fe0 : nv β 0 = 805 := by omega
    have fe2 : nv β 2 = 806 := by omega
    have fe3 : nv β 3 = 1 := by omega
    have fe6 : nv β 6 = 806 := by omega
    have fe7 : nv β 7 = 2 := by omega
    have fe10 : nv β 10 = 806 := by omega
    have fe11 : nv β 11 = 0 := by omega
    have fe13 : nv β 13 = 1 := by omega
    try simp only [fe0, fe2, fe3, fe6, fe7, fe10, fe11, fe13, Int.reduceToNat] at f2 f3 f4 f5
    have s0 : nv β 0 = nv α1 0 := nv_le H1.1 (by omega)
    have s1 : nv β 1 = nv α1 1 := nv_le H1.1 (by omega)
    obtain ⟨c0, c1, c2, c3, c4, c5⟩ := f2
    exact hd_run G (ss := []) (fuel := 20) (by decide +kernel) (as_backM H1 (by decide +kernel) hxa hf)
  · obtain ⟨f1, f2, f3, f4, f5⟩ := as_fx H1
    simp only [kh_cEffect_b0_2, fx_env, fx_c, fx_ne, fx_hf, wl_S, Nat.zero_add, Nat.reduceAdd, Nat.reduceDiv, Nat.reduceMod, List.getElem?_cons_zero, List.getElem?_cons_succ, if_true, and_true, true_and] at f1 f2 f3 f4 f5
    have fe0 : nv β 0 = 805 := by omega
    have fe2 : nv β 2 = 806 := by omega
    have fe3 : nv β 3 = 1 := by omega
    have fe6 : nv β 6 = 806 := by omega
    have fe7 : nv β 7 = 2 := by omega
    have fe10 : nv β 10 = 806 := by omega
    have fe11 : nv β 11 = 0 := by omega
    have fe13 : nv β 13 = 2 := by omega
    try simp only [fe0, fe2, fe3, fe6, fe7, fe10, fe11, fe13, Int.reduceToNat] at f2 f3 f4 f5
    have s0 : nv β 0 = nv α1 0 := nv_le H1.1 (by omega)
    have s1 : nv β 1 = nv α1 1 := nv_le H1.1 (by omega)
    obtain ⟨c0, c1, c2, c3, c4, c5⟩ := f2
    exact hd_run G (ss := []) (fuel := 20) (by decide +kernel) (as_backM H1 (by decide +kernel) hxa hf)
  · obtain ⟨f1, f2, f3, f4, f5⟩ := as_fx H1
    simp only [kh_cEffect_b0_3, fx_env, fx_c, fx_ne, fx_hf, wl_S, Nat.zero_add, Nat.reduceAdd, Nat.reduceDiv, Nat.reduceMod, List.getElem?_cons_zero, List.getElem?_cons_succ, if_true, and_true, true_and] at f1 f2 f3 f4 f5
    have fe0 : nv β 0 = 805 := by omega
    have fe2 : nv β 2 = 806 := by omega
    have fe3 : nv β 3 = 1 := by omega
    have fe6 : nv β 6 = 806 := by omega
    have fe7 : nv β 7 = 2 := by omega
    have fe10 : nv β 10 = 806 := by omega
    have fe11 : nv β 11 = 0 := by omega
    have fe13 : nv β 13 = 3 := by omega
    have fe14 : nv β 14 = 40 := by omega
    try simp only [fe0, fe2, fe3, fe6, fe7, fe10, fe11, fe13, fe14, Int.reduceToNat] at f2 f3 f4 f5
    have s0 : nv β 0 = nv α1 0 := nv_le H1.1 (by omega)
    have s1 : nv β 1 = nv α1 1 := nv_le H1.1 (by omega)
    obtain ⟨c0, c1, c2, c3, c4, c5⟩ := f2
    exact hd_run G (ss := []) (fuel := 20) (by decide +kernel) (as_backM H1 (by decide +kernel) hxa hf)
  · obtain ⟨f1, f2, f3, f4, f5⟩ := as_fx H1
    simp only [kh_cEffect_b0_4, fx_env, fx_c, fx_ne, fx_hf, wl_S, Nat.zero_add, Nat.reduceAdd, Nat.reduceDiv, Nat.reduceMod, List.getElem?_cons_zero, List.getElem?_cons_succ, if_true, and_true, true_and] at f1 f2 f3 f4 f5
    have fe0 : nv β 0 = 805 := by omega
    have fe2 : nv β 2 = 806 := by omega
    have fe3 : nv β 3 = 1 := by omega
    have fe6 : nv β 6 = 806 := by omega
    have fe7 : nv β 7 = 2 := by omega
    have fe10 : nv β 10 = 806 := by omega
    have fe11 : nv β 11 = 0 := by omega
    have fe13 : nv β 13 = 4 := by omega
    have fe14 : nv β 14 = 0 := by omega
    try simp only [fe0, fe2, fe3, fe6, fe7, fe10, fe11, fe13, fe14, Int.reduceToNat] at f2 f3 f4 f5
    have s0 : nv β 0 = nv α1 0 := nv_le H1.1 (by omega)
    have s1 : nv β 1 = nv α1 1 := nv_le H1.1 (by omega)
    obtain ⟨c0, c1, c2, c3, c4, c5⟩ := f2
    obtain ⟨α', Ha, hm⟩ := hd_gpM (q := kh_cEffect_a111) (n := 0) (by decide +kernel) hx H1 (by decide +kernel) hxa hf
    have hfr := H1.2.2.2.2.2.2.2.2.2.2.1
    have m0 : nv α' 0 = nv β 0 := hm 0 0 rfl
    have m1 : nv α' 1 = nv β 1 := hm 1 1 rfl
    have m2 : nv α' 2 = nv β 5 := hm 2 5 rfl
    have m3 : nv α' 3 = nv β 9 := hm 3 9 rfl
    have m4 : nv α' 4 = nv β 14 := hm 4 14 rfl
    subst S'
    have o0 := old_0 c0 rfl
    have o2 := old_0 c2 rfl
    have o4 := old_0 c4 rfl
    have d1 := fl1_b (by decide) (fl2_b (by decide) c1)
    simp only [wd_fl] at d1
    have d3 := fl1_b (by decide) (fl2_b (by decide) c3)
    simp only [wd_fl] at d3
    have d5 := fl1_b (by decide) (fl2_b (by decide) c5)
    simp only [wd_fl] at d5
    have hk := mjk_eq (j := (nv β 1).toNat) (w := 0) o0 (by omega)
    have hl := mjk_eq (j := (nv β 1).toNat) (w := 2) o2 (by omega)
    have h9 := q510.2.2.1 (nv β 1).toNat (by omega) (by omega)
    refine (hP _).1 _ _ _ _ Ha ?_ (Nat.lt_succ_self _)
    · rw [m3]; omega
  · obtain ⟨f1, f2, f3, f4, f5⟩ := as_fx H1
    simp only [kh_cEffect_b0_5, fx_env, fx_c, fx_ne, fx_hf, wl_S, Nat.zero_add, Nat.reduceAdd, Nat.reduceDiv, Nat.reduceMod, List.getElem?_cons_zero, List.getElem?_cons_succ, if_true, and_true, true_and] at f1 f2 f3 f4 f5
    have fe0 : nv β 0 = 805 := by omega
    have fe2 : nv β 2 = 806 := by omega
    have fe3 : nv β 3 = 1 := by omega
    have fe6 : nv β 6 = 806 := by omega
    have fe7 : nv β 7 = 2 := by omega
    have fe10 : nv β 10 = 806 := by omega
    have fe11 : nv β 11 = 0 := by omega
    have fe13 : nv β 13 = 5 := by omega
    try simp only [fe0, fe2, fe3, fe6, fe7, fe10, fe11, fe13, Int.reduceToNat] at f2 f3 f4 f5
    have s0 : nv β 0 = nv α1 0 := nv_le H1.1 (by omega)
    have s1 : nv β 1 = nv α1 1 := nv_le H1.1 (by omega)
    obtain ⟨c0, c1, c2, c3, c4, c5⟩ := f2
    obtain ⟨α', Ha, hm⟩ := hd_gpM (q := kh_cEffect_a135) (n := 0) (by decide +kernel) hx H1 (by decide +kernel) hxa hf
    have hfr := H1.2.2.2.2.2.2.2.2.2.2.1
    have m0 : nv α' 0 = nv β 0 := hm 0 0 rfl
    have m1 : nv α' 1 = nv β 1 := hm 1 1 rfl
    have m2 : nv α' 2 = nv β 5 := hm 2 5 rfl
    have m3 : nv α' 3 = nv β 9 := hm 3 9 rfl
    subst S'
    have o0 := old_0 c0 rfl
    have o2 := old_0 c2 rfl
    have o4 := old_0 c4 rfl
    have d1 := fl1_b (by decide) (fl2_b (by decide) c1)
    simp only [wd_fl] at d1
    have d3 := fl1_b (by decide) (fl2_b (by decide) c3)
    simp only [wd_fl] at d3
    have d5 := fl1_b (by decide) (fl2_b (by decide) c5)
    simp only [wd_fl] at d5
    have hk := mjk_eq (j := (nv β 1).toNat) (w := 0) o0 (by omega)
    have hl := mjk_eq (j := (nv β 1).toNat) (w := 2) o2 (by omega)
    have h9 := q510.2.2.1 (nv β 1).toNat (by omega) (by omega)
    refine (hP _).2.1 _ _ _ _ Ha ?_ (Nat.lt_succ_self _)
    · rw [m3]; omega
  · obtain ⟨f1, f2, f3, f4, f5⟩ := as_fx H1
    simp only [kh_cEffect_b0_6, fx_env, fx_c, fx_ne, fx_hf, wl_S, Nat.zero_add, Nat.reduceAdd, Nat.reduceDiv, Nat.reduceMod, List.getElem?_cons_zero, List.getElem?_cons_succ, if_true, and_true, true_and] at f1 f2 f3 f4 f5
    have fe0 : nv β 0 = 805 := by omega
    have fe2 : nv β 2 = 806 := by omega
    have fe3 : nv β 3 = 1 := by omega
    have fe6 : nv β 6 = 806 := by omega
    have fe7 : nv β 7 = 2 := by omega
    have fe10 : nv β 10 = 806 := by omega
    have fe11 : nv β 11 = 0 := by omega
    have fe13 : nv β 13 = 6 := by omega
    try simp only [fe0, fe2, fe3, fe6, fe7, fe10, fe11, fe13, Int.reduceToNat] at f2 f3 f4 f5
    have s0 : nv β 0 = nv α1 0 := nv_le H1.1 (by omega)
    have s1 : nv β 1 = nv α1 1 := nv_le H1.1 (by omega)
    obtain ⟨c0, c1, c2, c3, c4, c5⟩ := f2
    obtain ⟨α', Ha, hm⟩ := hd_gpM (q := kh_cEffect_a143) (n := 0) (by decide +kernel) hx H1 (by decide +kernel) hxa hf
    have hfr := H1.2.2.2.2.2.2.2.2.2.2.1
    have m0 : nv α' 0 = nv β 0 := hm 0 0 rfl
    have m1 : nv α' 1 = nv β 1 := hm 1 1 rfl
    have m2 : nv α' 2 = nv β 5 := hm 2 5 rfl
    have m3 : nv α' 3 = nv β 9 := hm 3 9 rfl
    subst S'
    have o0 := old_0 c0 rfl
    have o2 := old_0 c2 rfl
    have o4 := old_0 c4 rfl
    have d1 := fl1_b (by decide) (fl2_b (by decide) c1)
    simp only [wd_fl] at d1
    have d3 := fl1_b (by decide) (fl2_b (by decide) c3)
    simp only [wd_fl] at d3
    have d5 := fl1_b (by decide) (fl2_b (by decide) c5)
    simp only [wd_fl] at d5
    have hk := mjk_eq (j := (nv β 1).toNat) (w := 0) o0 (by omega)
    have hl := mjk_eq (j := (nv β 1).toNat) (w := 2) o2 (by omega)
    have h9 := q510.2.2.1 (nv β 1).toNat (by omega) (by omega)
    refine (hP _).2.2.1 _ _ _ _ Ha ?_ (Nat.lt_succ_self _)
    · rw [m3]; omega)
