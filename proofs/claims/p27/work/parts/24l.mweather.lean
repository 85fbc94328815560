/-! ===== the model: weather told, drawn, storms told ===== -/
def cnS (r : Nat → Int) : Nat → Int
  | 0 => 0
  | n + 1 => cnS r n + (if r n = -1 then 0 else 1)
theorem cn_fr {r : Nat → Int} : (cnS r 4 < 4 → 0 ≤ frS r) ∧ (4 ≤ cnS r 4 → frS r = -1) := by
  unfold frS
  simp only [cnS]
  by_cases h0 : r 0 = -1 <;> by_cases h1 : r 1 = -1 <;> by_cases h2 : r 2 = -1 <;> by_cases h3 : r 3 = -1 <;> simp [h0, h1, h2, h3]
theorem cnS_bd {r : Nat → Int} : ∀ {n : Nat}, 0 ≤ cnS r n ∧ cnS r n ≤ n
  | 0 => by simp [cnS]
  | n + 1 => by
    have ih := cnS_bd (r := r) (n := n)
    rw [cnS]
    split <;> omega
def thM (S : fw_S) : Int := (S.1 805 8).toInt
def R_storms : List av_X → fw_S → fw_O → fw_S → Prop := fun _ S oc _ => ∃ v : Int32, oc = .inl (some (.int v)) ∧ v.toInt = cnS (mrw S) 4
def R_thrown : List av_X → fw_S → fw_O → fw_S → Prop := fun _ S oc _ => ∃ v : Int32, oc = .inl (some (.int v)) ∧ v.toInt = thM S
def R_mWeather : List av_X → fw_S → fw_O → fw_S → Prop := fun xs S oc S' => (∃ v : Int32, oc = .inl (some (.int v)) ∧ v.toInt = (skM S).1) ∧ thM S' = 0 ∧ skM S' = (nv xs 1, 0, (skM S).2.2)
def R_mDraws : List av_X → fw_S → fw_O → fw_S → Prop := fun xs S oc S' => (∃ v : Int32, oc = .inl (some (.int v)) ∧ v.toInt = (skM S).2.2.1) ∧ thM S' = 0 ∧ skM S' = ((skM S).1, 1, nv xs 1, (skM S).2.2.2)
def R_mStorm : List av_X → fw_S → fw_O → fw_S → Prop := fun xs S oc S' => (0 ≤ frS (mrw S) ∧ (∃ v : Int32, oc = .inl (some (.int v)) ∧ v.toInt = frS (mrw S)) ∧ thM S' = 0 ∧ skM S' = skS (skM S) (frS (mrw S)) (nv xs 1)) ∨ (frS (mrw S) = -1 ∧ thM S' = 2 ∧ skM S' = skM S)
theorem skM_row {S S' : fw_S} (h : S'.1 806 = S.1 806) : skM S' = skM S := skM_eq (by rw [h]) (by rw [h]) (by rw [h]) (fun k hk => ⟨by unfold mrw; rw [h], by unfold mcl; rw [h]⟩)
theorem mrw_row {S S' : fw_S} (h : S'.1 806 = S.1 806) : mrw S' = mrw S := funext fun k => by unfold mrw; rw [h]
abbrev kh_thrown_y : mt_T := (⟨"UtilityWorksModel", "thrown", "()I"⟩, prog_14_method_2_code, 1, some .int, 12, 1, 0, 32182, 32180, 32181, 21014)
def kh_thrown : ct_T := (350, [(2, 805, 805, 0)], [], [], [(1, (0, 0, 3, 1), [(2, 805, 805, 0)], [], ([], []))], [], 0, 0, 0)
def kh_thrown_b0_0 : sg_T := (4, 0, ([((2, 805, 805, 0), none), ((0, 8, 8, 0), none), ((0, 0, 3, 1), none)], [(0, 0)], [2], [(0, 1, 2)], [], [(800002, 0, 1)], [], [], some []))
set_option maxHeartbeats 16000000 in
set_option maxRecDepth 8000 in
theorem kh_thrown_okR : ct_okR wd_fl2 kh_thrown R_thrown := ct_handR (R := R_thrown) (ff := wd_ff2) (y := kh_thrown_y) (Cs := []) wd_fl2_ok rfl (List.forall_mem_nil _) (by decide +kernel) (fun l D tc ad kd N sm xs S p e s m args below meth c sz lv G H0 => by
  have hx : xs.length = 1 := by rw [H0.2.1.1]; rfl
  obtain ⟨α1, hle, Hr⟩ := as_recM (pl := []) [] (by decide +kernel) H0
  have hf := H0.2.2.2.2.2.2.2.2.2.2.1
  have hl1 : α1.length = 1 := by rw [Hr.2.1.1]; rfl
  have hl0 : xs.length = 1 := by rw [H0.2.1.1]; rfl
  have hxa : al_le xs α1 := H0.1.trans hle
  obtain ⟨g1, -, g3, g4, -⟩ := as_fx Hr
  have g0 : (805 ≤ nv α1 0 ∧ nv α1 0 ≤ 805) ∧ True := by
    refine ⟨by have h := (en_nv (i := 0) Hr.2.1 rfl).2; exact h, trivial⟩
  have r0 : nv α1 0 = nv xs 0 := nv_le hle (by omega)
  refine hd_segMR G (na := 1) (fuel := 600) (first := true) (Bs := [kh_thrown_b0_0]) (by decide +kernel) hl1 Hr ?_
  intro q hq β lv' st' S' H1
  simp only [List.mem_cons, List.not_mem_nil, or_false] at hq
  rcases hq with rfl
  · obtain ⟨f1, f2, f3, f4, f5⟩ := as_fx H1
    simp only [kh_thrown_b0_0, Nat.reduceEqDiff, if_false, fx_env, fx_c, fx_ne, fx_hf, wl_S, Nat.zero_add, Nat.reduceAdd, Nat.reduceDiv, Nat.reduceMod, List.getElem?_cons_zero, List.getElem?_cons_succ, if_true, and_true, true_and] at f1 f2 f3 f4 f5
    have fe0 : nv β 0 = 805 := by omega
    have fe1 : nv β 1 = 8 := by omega
    try simp only [fe0, fe1, Int.reduceToNat] at f2 f3 f4 f5
    have s0 : nv β 0 = nv α1 0 := nv_le H1.1 (by omega)
    have c0 := f2
    have o0 := old_i c0 (en_nv (i := 2) H1.2.1 rfl).1
    exact hd_retIR G (v := 2) (by decide +kernel) (as_backM H1 (by decide +kernel) hxa hf) _ List.mem_cons_self rfl (by decide +kernel) (by decide) (fun w hw => by cases hw) (fun y hy => ⟨y, rfl, by rw [hy]; exact o0.symm⟩))
theorem kh_thrown_ok : ct_ok wd_fl2 kh_thrown := ct_okR_ok kh_thrown_okR
abbrev kh_storms_y : mt_T := (⟨"UtilityWorksModel", "storms", "()I"⟩, prog_14_method_330_code, 3, some .int, 12, 1, 0, 38008, 38007, 17006, 21014)
def kh_storms : ct_T := (666, [(2, 805, 805, 0)], [], [], [(1, (0, 0, 4, 1), [(2, 805, 805, 0)], [], ([], []))], [], 2, 43, 0)
def kh_storms_a4 : an_T := (4, 0, ([((2, 805, 805, 0), none), ((0, 0, 5, 1), none), ((0, 0, 4, 1), none)], [(0, 0), (1, 1), (2, 2)], [], [], [], [], [], [], none), [])
def kh_storms_a12 : an_T := (12, 0, ([((2, 805, 805, 0), none), ((0, 0, 4, 1), none), ((0, 0, 3, 1), none), ((0, 0, 3, 1), none), ((0, 0, 4, 1), none)], [(0, 0), (1, 1), (2, 2)], [3, 0, 4], [], [], [], [], [], none), [])
def kh_storms_a15 : an_T := (15, 0, ([((2, 805, 805, 0), none), ((0, 0, 4, 1), none), ((0, 0, 3, 1), none), ((0, 0, 1, 1), none), ((0, 0, 4, 1), none)], [(0, 0), (1, 1), (2, 2)], [3, 4], [], [], [], [], [], none), [])
def kh_storms_b0_0 : sg_T := (4, 0, ([((2, 805, 805, 0), none), ((0, 0, 0, 0), none), ((0, 0, 0, 0), none)], [(2, 2), (1, 1), (0, 0)], [], [], [], [], [], [], some []))
def kh_storms_b4_0 : sg_T := (32, 0, ([((2, 805, 805, 0), none), ((0, 0, 4, 1), none), ((0, 4, 4, 1), none), ((0, 4, 4, 0), none)], [(0, 0), (1, 1), (2, 2)], [1], [], [], [(200000, 3, 2)], [], [], some []))
def kh_storms_b4_1 : sg_T := (12, 0, ([((2, 805, 805, 0), none), ((0, 0, 4, 1), none), ((0, 0, 3, 1), none), ((0, 4, 4, 0), none)], [(0, 0), (1, 1), (2, 2)], [2, 0, 1], [], [], [(100000, 2, 3)], [], [], some []))
def kh_storms_b12_0 : sg_T := (15, 0, ([((2, 805, 805, 0), none), ((0, 0, 4, 1), none), ((0, 0, 3, 1), none), ((0, 0, 3, 1), none), ((0, 0, 4, 1), none), ((0, 0, 1, 1), none)], [(0, 0), (1, 1), (2, 2)], [5, 4], [], [], [], [], [], some []))
def kh_storms_b15_0 : sg_T := (4, 0, ([((2, 805, 805, 0), none), ((0, 0, 4, 1), none), ((0, 0, 3, 1), none), ((0, 0, 0, 1), none), ((0, 0, 4, 1), none), ((0, 0, 0, 0), none), ((0, 0, 4, 1), some (4, 0)), ((0, 1, 4, 1), some (2, 1))], [(2, 7), (1, 6), (0, 0)], [], [], [], [(500006, 4, 5)], [], [], some []))
def kh_storms_b15_1 : sg_T := (4, 0, ([((2, 805, 805, 0), none), ((0, 0, 4, 1), none), ((0, 0, 3, 1), none), ((0, 1, 1, 1), none), ((0, 0, 4, 1), none), ((0, 1, 1, 0), none), ((0, 1, 5, 1), some (4, 1)), ((0, 1, 4, 1), some (2, 1))], [(2, 7), (1, 6), (0, 0)], [], [], [(3, 0)], [(500006, 4, 5)], [], [], some []))
def kh_storms_I (l : Launch) (D : va_G) (tc : Nat → ClassId) (ad : Nat → Nat) (kd : Nat → Nat × Nat) (N : Nat) (sm : Nat → Nat) (xs : List av_X) (S : fw_S) (p : Program) (e : Env) (s : State) (m : MethodId) (args : Array Value) (below : List Frame) (meth : Method) (c : Code) (sz : Nat) (k : Nat) : Prop := (∀ (α : List av_X) (lv : List (Nat × Value)) (st : List Value) (S1 : fw_S), as_in ad sm wd_fl2 xs S kh_storms.2.2.2.2.2.1 α kh_storms_a4.2.2.1 lv st S1 → (nv α 1 = cnS (mrw S) (nv α 2).toNat ∧ 0 ≤ nv α 2) → (4 - nv α 2).toNat * 10 + 9 < k → hd_WR R_storms wd_fl2 kh_storms kh_storms_y l D tc ad kd N sm xs S p e s m args below meth c sz 4 lv st S1 0) ∧ (∀ (α : List av_X) (lv : List (Nat × Value)) (st : List Value) (S1 : fw_S), as_in ad sm wd_fl2 xs S kh_storms.2.2.2.2.2.1 α kh_storms_a12.2.2.1 lv st S1 → (nv α 4 = cnS (mrw S) (nv α 2).toNat ∧ nv α 3 = nv α 2 ∧ nv α 2 ≤ 3) → (4 - nv α 2).toNat * 10 + 8 < k → hd_WR R_storms wd_fl2 kh_storms kh_storms_y l D tc ad kd N sm xs S p e s m args below meth c sz 12 lv st S1 0) ∧ (∀ (α : List av_X) (lv : List (Nat × Value)) (st : List Value) (S1 : fw_S), as_in ad sm wd_fl2 xs S kh_storms.2.2.2.2.2.1 α kh_storms_a15.2.2.1 lv st S1 → (nv α 4 = cnS (mrw S) (nv α 2).toNat ∧ nv α 2 ≤ 3 ∧ nv α 3 = b2i (¬ mrw S (nv α 2).toNat = -1)) → (4 - nv α 2).toNat * 10 + 7 < k → hd_WR R_storms wd_fl2 kh_storms kh_storms_y l D tc ad kd N sm xs S p e s m args below meth c sz 15 lv st S1 0) ∧ True
set_option maxHeartbeats 16000000 in
set_option maxRecDepth 8000 in
theorem kh_storms_h4 {l : Launch} {D : va_G} {tc : Nat → ClassId} {ad : Nat → Nat} {kd : Nat → Nat × Nat} {N : Nat} {sm : Nat → Nat} {xs : List av_X} {S : fw_S} {p : Program} {e : Env} {s : State} {m : MethodId} {args : Array Value} {below : List Frame} {meth : Method} {c : Code} {sz : Nat} {lvE : List (Nat × Value)} (G : hd_C wd_ff2 wd_fl2 kh_storms [kh_mIsStorm] kh_storms_y l D tc ad kd N sm xs p s m args meth c sz) (H0 : as_in ad sm wd_fl2 xs S kh_storms.2.2.2.2.2.1 xs (hd_0 kh_storms) lvE [] S) {k : Nat} (ih : kh_storms_I l D tc ad kd N sm xs S p e s m args below meth c sz k) : (∀ (α : List av_X) (lv : List (Nat × Value)) (st : List Value) (S1 : fw_S), as_in ad sm wd_fl2 xs S kh_storms.2.2.2.2.2.1 α kh_storms_a4.2.2.1 lv st S1 → (nv α 1 = cnS (mrw S) (nv α 2).toNat ∧ 0 ≤ nv α 2) → (4 - nv α 2).toNat * 10 + 9 < k + 1 → hd_WR R_storms wd_fl2 kh_storms kh_storms_y l D tc ad kd N sm xs S p e s m args below meth c sz 4 lv st S1 0) := by
  have hx : xs.length = 1 := by rw [H0.2.1.1]; rfl
  intro α lv st S1 H hp hk
  have bp := (en_nv (i := 1) H.2.1 rfl).2
  change 0 ≤ nv α 1 ∧ nv α 1 ≤ 5 at bp
  replace H := as_clamp (i := 1) (lo := 0) (hi := 4) H rfl rfl (by have hb := cnS_bd (r := mrw S) (n := (nv α 2).toNat); have b2 := (en_nv (i := 2) H.2.1 rfl).2; change 0 ≤ nv α 2 ∧ nv α 2 ≤ 4 at b2; have := hp.1; omega) (by have hb := cnS_bd (r := mrw S) (n := (nv α 2).toNat); have b2 := (en_nv (i := 2) H.2.1 rfl).2; change 0 ≤ nv α 2 ∧ nv α 2 ≤ 4 at b2; have := hp.1; omega) (by decide)
  obtain ⟨α1, hle, Hr⟩ := as_recM (pl := []) [] (by decide +kernel) H
  have hf := H.2.2.2.2.2.2.2.2.2.2.1
  have hl1 : α1.length = 3 := by rw [Hr.2.1.1]; rfl
  have hl0 : α.length = 3 := by rw [H.2.1.1]; rfl
  have hxa : al_le xs α1 := H.1.trans hle
  obtain ⟨g1, -, g3, g4, -⟩ := as_fx Hr
  have g0 : (805 ≤ nv α1 0 ∧ nv α1 0 ≤ 805) ∧ (0 ≤ nv α1 1 ∧ nv α1 1 ≤ 4) ∧ (0 ≤ nv α1 2 ∧ nv α1 2 ≤ 4) ∧ True := by
    refine ⟨by have h := (en_nv (i := 0) Hr.2.1 rfl).2; exact h, by have h := (en_nv (i := 1) Hr.2.1 rfl).2; exact h, by have h := (en_nv (i := 2) Hr.2.1 rfl).2; exact h, trivial⟩
  have r0 : nv α1 0 = nv α 0 := nv_le hle (by omega)
  have r1 : nv α1 1 = nv α 1 := nv_le hle (by omega)
  have r2 : nv α1 2 = nv α 2 := nv_le hle (by omega)
  refine hd_segMR G (na := 3) (fuel := 600) (first := true) (Bs := [kh_storms_b4_0, kh_storms_b4_1]) (by decide +kernel) hl1 Hr ?_
  intro q hq β lv' st' S' H1
  simp only [List.mem_cons, List.not_mem_nil, or_false] at hq
  rcases hq with rfl | rfl
  · obtain ⟨f1, f2, f3, f4, f5⟩ := as_fx H1
    simp only [kh_storms_b4_0, Nat.reduceEqDiff, if_false, fx_env, fx_c, fx_ne, fx_hf, wl_S, Nat.zero_add, Nat.reduceAdd, Nat.reduceDiv, Nat.reduceMod, List.getElem?_cons_zero, List.getElem?_cons_succ, if_true, and_true, true_and] at f1 f2 f3 f4 f5
    have fe0 : nv β 0 = 805 := by omega
    have fe2 : nv β 2 = 4 := by omega
    have fe3 : nv β 3 = 4 := by omega
    try simp only [fe0, fe2, fe3, Int.reduceToNat] at f2 f3 f4 f5
    have s0 : nv β 0 = nv α1 0 := nv_le H1.1 (by omega)
    have s1 : nv β 1 = nv α1 1 := nv_le H1.1 (by omega)
    have s2 : nv β 2 = nv α1 2 := nv_le H1.1 (by omega)
    have c0 := f2
    exact hd_retIR G (v := 1) (by decide +kernel) (as_backM H1 (by decide +kernel) hxa hf) _ List.mem_cons_self rfl (by decide +kernel) (by decide) (fun w hw => by cases hw) (fun y hy => ⟨y, rfl, by rw [hy, show nv β 1 = nv α 1 by omega, hp.1, show (nv α 2).toNat = 4 by omega]⟩)
  · obtain ⟨f1, f2, f3, f4, f5⟩ := as_fx H1
    simp only [kh_storms_b4_1, Nat.reduceEqDiff, if_false, fx_env, fx_c, fx_ne, fx_hf, wl_S, Nat.zero_add, Nat.reduceAdd, Nat.reduceDiv, Nat.reduceMod, List.getElem?_cons_zero, List.getElem?_cons_succ, if_true, and_true, true_and] at f1 f2 f3 f4 f5
    have fe0 : nv β 0 = 805 := by omega
    have fe3 : nv β 3 = 4 := by omega
    try simp only [fe0, fe3, Int.reduceToNat] at f2 f3 f4 f5
    have s0 : nv β 0 = nv α1 0 := nv_le H1.1 (by omega)
    have s1 : nv β 1 = nv α1 1 := nv_le H1.1 (by omega)
    have s2 : nv β 2 = nv α1 2 := nv_le H1.1 (by omega)
    have c0 := f2
    obtain ⟨α', Ha, hm⟩ := hd_gpM (q := kh_storms_a12) (n := 0) (by decide +kernel) hx H1 (by decide +kernel) hxa hf
    have hfr := H1.2.2.2.2.2.2.2.2.2.2.1
    have m0 : nv α' 0 = nv β 0 := hm 0 0 rfl
    have m1 : nv α' 1 = nv β 1 := hm 1 1 rfl
    have m2 : nv α' 2 = nv β 2 := hm 2 2 rfl
    have m3 : nv α' 3 = nv β 2 := hm 3 2 rfl
    have m4 : nv α' 4 = nv β 1 := hm 4 1 rfl
    subst S'
    refine ih.2.1 _ _ _ _ Ha ?_ ?_
    · rw [m2, m3, m4]
      exact ⟨by rw [show nv β 1 = nv α 1 by omega, show nv β 2 = nv α 2 by omega]; exact hp.1, by omega, by omega⟩
    · omega
set_option maxHeartbeats 16000000 in
set_option maxRecDepth 8000 in
theorem kh_storms_h12 {l : Launch} {D : va_G} {tc : Nat → ClassId} {ad : Nat → Nat} {kd : Nat → Nat × Nat} {N : Nat} {sm : Nat → Nat} {xs : List av_X} {S : fw_S} {p : Program} {e : Env} {s : State} {m : MethodId} {args : Array Value} {below : List Frame} {meth : Method} {c : Code} {sz : Nat} {lvE : List (Nat × Value)} (G : hd_C wd_ff2 wd_fl2 kh_storms [kh_mIsStorm] kh_storms_y l D tc ad kd N sm xs p s m args meth c sz) (H0 : as_in ad sm wd_fl2 xs S kh_storms.2.2.2.2.2.1 xs (hd_0 kh_storms) lvE [] S) {k : Nat} (ih : kh_storms_I l D tc ad kd N sm xs S p e s m args below meth c sz k) : (∀ (α : List av_X) (lv : List (Nat × Value)) (st : List Value) (S1 : fw_S), as_in ad sm wd_fl2 xs S kh_storms.2.2.2.2.2.1 α kh_storms_a12.2.2.1 lv st S1 → (nv α 4 = cnS (mrw S) (nv α 2).toNat ∧ nv α 3 = nv α 2 ∧ nv α 2 ≤ 3) → (4 - nv α 2).toNat * 10 + 8 < k + 1 → hd_WR R_storms wd_fl2 kh_storms kh_storms_y l D tc ad kd N sm xs S p e s m args below meth c sz 12 lv st S1 0) := by
  have hx : xs.length = 1 := by rw [H0.2.1.1]; rfl
  intro α lv st S1 H hp hk
  obtain ⟨α1, hle, Hr⟩ := as_recM (pl := []) [] (by decide +kernel) H
  have hf := H.2.2.2.2.2.2.2.2.2.2.1
  have hl1 : α1.length = 5 := by rw [Hr.2.1.1]; rfl
  have hl0 : α.length = 5 := by rw [H.2.1.1]; rfl
  have hxa : al_le xs α1 := H.1.trans hle
  obtain ⟨g1, -, g3, g4, -⟩ := as_fx Hr
  have g0 : (805 ≤ nv α1 0 ∧ nv α1 0 ≤ 805) ∧ (0 ≤ nv α1 1 ∧ nv α1 1 ≤ 4) ∧ (0 ≤ nv α1 2 ∧ nv α1 2 ≤ 3) ∧ (0 ≤ nv α1 3 ∧ nv α1 3 ≤ 3) ∧ (0 ≤ nv α1 4 ∧ nv α1 4 ≤ 4) ∧ True := by
    refine ⟨by have h := (en_nv (i := 0) Hr.2.1 rfl).2; exact h, by have h := (en_nv (i := 1) Hr.2.1 rfl).2; exact h, by have h := (en_nv (i := 2) Hr.2.1 rfl).2; exact h, by have h := (en_nv (i := 3) Hr.2.1 rfl).2; exact h, by have h := (en_nv (i := 4) Hr.2.1 rfl).2; exact h, trivial⟩
  have r0 : nv α1 0 = nv α 0 := nv_le hle (by omega)
  have r1 : nv α1 1 = nv α 1 := nv_le hle (by omega)
  have r2 : nv α1 2 = nv α 2 := nv_le hle (by omega)
  have r3 : nv α1 3 = nv α 3 := nv_le hle (by omega)
  have r4 : nv α1 4 = nv α 4 := nv_le hle (by omega)
  refine hd_callRR (Rr := R_mIsStorm) (Rs := [kh_mIsStorm]) (idx := 926) G (List.forall_mem_cons.mpr ⟨kh_mIsStorm_okR, List.forall_mem_nil _⟩) (na := 5) (Bs := [kh_storms_b12_0]) (by decide +kernel) (by decide +kernel) hl1 Hr ?_
  intro q hq β lv' st' S' H1 hRx
  simp only [List.mem_cons, List.not_mem_nil, or_false] at hq
  rcases hq with rfl
  · obtain ⟨f1, f2, f3, f4, f5⟩ := as_fx H1
    simp only [kh_storms_b12_0, Nat.reduceEqDiff, if_false, fx_env, fx_c, fx_ne, fx_hf, wl_S, Nat.zero_add, Nat.reduceAdd, Nat.reduceDiv, Nat.reduceMod, List.getElem?_cons_zero, List.getElem?_cons_succ, if_true, and_true, true_and] at f1 f2 f3 f4 f5
    have fe0 : nv β 0 = 805 := by omega
    try simp only [fe0, Int.reduceToNat] at f2 f3 f4 f5
    have s0 : nv β 0 = nv α1 0 := nv_le H1.1 (by omega)
    have s1 : nv β 1 = nv α1 1 := nv_le H1.1 (by omega)
    have s2 : nv β 2 = nv α1 2 := nv_le H1.1 (by omega)
    have s3 : nv β 3 = nv α1 3 := nv_le H1.1 (by omega)
    have s4 : nv β 4 = nv α1 4 := nv_le H1.1 (by omega)
    obtain ⟨α', Ha, hm⟩ := hd_gpM (q := kh_storms_a15) (n := 0) (by decide +kernel) hx H1 (by decide +kernel) hxa hf
    have hfr := H1.2.2.2.2.2.2.2.2.2.2.1
    have m0 : nv α' 0 = nv β 0 := hm 0 0 rfl
    have m1 : nv α' 1 = nv β 1 := hm 1 1 rfl
    have m2 : nv α' 2 = nv β 2 := hm 2 2 rfl
    have m3 : nv α' 3 = nv β 5 := hm 3 5 rfl
    have m4 : nv α' 4 = nv β 4 := hm 4 4 rfl
    subst S'
    obtain ⟨Cc, hCc, ys, rr, hnm, hR, rest, hre⟩ := hRx
    rcases List.mem_singleton.mp hCc with rfl
    have y1 : nv ys 1 = nv α1 3 := nm_nv hnm (i := 1) (v := 3) rfl
    have eS : S1 = S := fr_same (show fr_in [] S S1 from hf)
    obtain ⟨v, v1, v2⟩ := hR
    have hv := hd_rv H1 (i := 5) rfl rfl rfl hre (Sum.inl.inj v1)
    obtain ⟨p1, p2, p3⟩ := hp
    rw [hv, y1, r3, p2, eS] at v2
    refine ih.2.2.1 _ _ _ _ Ha ?_ ?_
    · rw [m2, m3, m4, s2, r2, s4, r4]
      exact ⟨p1, p3, v2⟩
    · omega
set_option maxHeartbeats 16000000 in
set_option maxRecDepth 8000 in
theorem kh_storms_h15 {l : Launch} {D : va_G} {tc : Nat → ClassId} {ad : Nat → Nat} {kd : Nat → Nat × Nat} {N : Nat} {sm : Nat → Nat} {xs : List av_X} {S : fw_S} {p : Program} {e : Env} {s : State} {m : MethodId} {args : Array Value} {below : List Frame} {meth : Method} {c : Code} {sz : Nat} {lvE : List (Nat × Value)} (G : hd_C wd_ff2 wd_fl2 kh_storms [kh_mIsStorm] kh_storms_y l D tc ad kd N sm xs p s m args meth c sz) (H0 : as_in ad sm wd_fl2 xs S kh_storms.2.2.2.2.2.1 xs (hd_0 kh_storms) lvE [] S) {k : Nat} (ih : kh_storms_I l D tc ad kd N sm xs S p e s m args below meth c sz k) : (∀ (α : List av_X) (lv : List (Nat × Value)) (st : List Value) (S1 : fw_S), as_in ad sm wd_fl2 xs S kh_storms.2.2.2.2.2.1 α kh_storms_a15.2.2.1 lv st S1 → (nv α 4 = cnS (mrw S) (nv α 2).toNat ∧ nv α 2 ≤ 3 ∧ nv α 3 = b2i (¬ mrw S (nv α 2).toNat = -1)) → (4 - nv α 2).toNat * 10 + 7 < k + 1 → hd_WR R_storms wd_fl2 kh_storms kh_storms_y l D tc ad kd N sm xs S p e s m args below meth c sz 15 lv st S1 0) := by
  have hx : xs.length = 1 := by rw [H0.2.1.1]; rfl
  intro α lv st S1 H hp hk
  obtain ⟨α1, hle, Hr⟩ := as_recM (pl := []) [] (by decide +kernel) H
  have hf := H.2.2.2.2.2.2.2.2.2.2.1
  have hl1 : α1.length = 5 := by rw [Hr.2.1.1]; rfl
  have hl0 : α.length = 5 := by rw [H.2.1.1]; rfl
  have hxa : al_le xs α1 := H.1.trans hle
  obtain ⟨g1, -, g3, g4, -⟩ := as_fx Hr
  have g0 : (805 ≤ nv α1 0 ∧ nv α1 0 ≤ 805) ∧ (0 ≤ nv α1 1 ∧ nv α1 1 ≤ 4) ∧ (0 ≤ nv α1 2 ∧ nv α1 2 ≤ 3) ∧ (0 ≤ nv α1 3 ∧ nv α1 3 ≤ 1) ∧ (0 ≤ nv α1 4 ∧ nv α1 4 ≤ 4) ∧ True := by
    refine ⟨by have h := (en_nv (i := 0) Hr.2.1 rfl).2; exact h, by have h := (en_nv (i := 1) Hr.2.1 rfl).2; exact h, by have h := (en_nv (i := 2) Hr.2.1 rfl).2; exact h, by have h := (en_nv (i := 3) Hr.2.1 rfl).2; exact h, by have h := (en_nv (i := 4) Hr.2.1 rfl).2; exact h, trivial⟩
  have r0 : nv α1 0 = nv α 0 := nv_le hle (by omega)
  have r1 : nv α1 1 = nv α 1 := nv_le hle (by omega)
  have r2 : nv α1 2 = nv α 2 := nv_le hle (by omega)
  have r3 : nv α1 3 = nv α 3 := nv_le hle (by omega)
  have r4 : nv α1 4 = nv α 4 := nv_le hle (by omega)
  refine hd_segMR G (na := 5) (fuel := 600) (first := true) (Bs := [kh_storms_b15_0, kh_storms_b15_1]) (by decide +kernel) hl1 Hr ?_
  intro q hq β lv' st' S' H1
  simp only [List.mem_cons, List.not_mem_nil, or_false] at hq
  rcases hq with rfl | rfl
  · obtain ⟨f1, f2, f3, f4, f5⟩ := as_fx H1
    simp only [kh_storms_b15_0, Nat.reduceEqDiff, if_false, fx_env, fx_c, fx_ne, fx_hf, wl_S, Nat.zero_add, Nat.reduceAdd, Nat.reduceDiv, Nat.reduceMod, List.getElem?_cons_zero, List.getElem?_cons_succ, if_true, and_true, true_and] at f1 f2 f3 f4 f5
    have fe0 : nv β 0 = 805 := by omega
    have fe3 : nv β 3 = 0 := by omega
    have fe5 : nv β 5 = 0 := by omega
    try simp only [fe0, fe3, fe5, Int.reduceToNat] at f2 f3 f4 f5
    have s0 : nv β 0 = nv α1 0 := nv_le H1.1 (by omega)
    have s1 : nv β 1 = nv α1 1 := nv_le H1.1 (by omega)
    have s2 : nv β 2 = nv α1 2 := nv_le H1.1 (by omega)
    have s3 : nv β 3 = nv α1 3 := nv_le H1.1 (by omega)
    have s4 : nv β 4 = nv α1 4 := nv_le H1.1 (by omega)
    have c0 := f2
    obtain ⟨α', Ha, hm⟩ := hd_gpM (q := kh_storms_a4) (n := 0) (by decide +kernel) hx H1 (by decide +kernel) hxa hf
    have hfr := H1.2.2.2.2.2.2.2.2.2.2.1
    have m0 : nv α' 0 = nv β 0 := hm 0 0 rfl
    have m1 : nv α' 1 = nv β 6 := hm 1 6 rfl
    have m2 : nv α' 2 = nv β 7 := hm 2 7 rfl
    subst S'
    obtain ⟨p1, p2, p3⟩ := hp
    unfold b2i at p3
    refine ih.1 _ _ _ _ Ha ?_ ?_
    · rw [m1, m2, show (nv β 7).toNat = (nv α 2).toNat + 1 by omega, cnS]
      refine ⟨?_, by omega⟩
      by_cases g : mrw S (nv α 2).toNat = -1
      · rw [if_neg (fun w => w g)] at p3
        rw [if_pos g]; omega
      · rw [if_pos g] at p3
        rw [if_neg g]; omega
    · omega
  · obtain ⟨f1, f2, f3, f4, f5⟩ := as_fx H1
    simp only [kh_storms_b15_1, Nat.reduceEqDiff, if_false, fx_env, fx_c, fx_ne, fx_hf, wl_S, Nat.zero_add, Nat.reduceAdd, Nat.reduceDiv, Nat.reduceMod, List.getElem?_cons_zero, List.getElem?_cons_succ, if_true, and_true, true_and] at f1 f2 f3 f4 f5
    have fe0 : nv β 0 = 805 := by omega
    have fe3 : nv β 3 = 1 := by omega
    have fe5 : nv β 5 = 1 := by omega
    try simp only [fe0, fe3, fe5, Int.reduceToNat] at f2 f3 f4 f5
    have s0 : nv β 0 = nv α1 0 := nv_le H1.1 (by omega)
    have s1 : nv β 1 = nv α1 1 := nv_le H1.1 (by omega)
    have s2 : nv β 2 = nv α1 2 := nv_le H1.1 (by omega)
    have s3 : nv β 3 = nv α1 3 := nv_le H1.1 (by omega)
    have s4 : nv β 4 = nv α1 4 := nv_le H1.1 (by omega)
    have c0 := f2
    obtain ⟨α', Ha, hm⟩ := hd_gpM (q := kh_storms_a4) (n := 0) (by decide +kernel) hx H1 (by decide +kernel) hxa hf
    have hfr := H1.2.2.2.2.2.2.2.2.2.2.1
    have m0 : nv α' 0 = nv β 0 := hm 0 0 rfl
    have m1 : nv α' 1 = nv β 6 := hm 1 6 rfl
    have m2 : nv α' 2 = nv β 7 := hm 2 7 rfl
    subst S'
    obtain ⟨p1, p2, p3⟩ := hp
    unfold b2i at p3
    refine ih.1 _ _ _ _ Ha ?_ ?_
    · rw [m1, m2, show (nv β 7).toNat = (nv α 2).toNat + 1 by omega, cnS]
      refine ⟨?_, by omega⟩
      by_cases g : mrw S (nv α 2).toNat = -1
      · rw [if_neg (fun w => w g)] at p3
        rw [if_pos g]; omega
      · rw [if_pos g] at p3
        rw [if_neg g]; omega
    · omega
set_option maxHeartbeats 16000000 in
set_option maxRecDepth 8000 in
theorem kh_storms_okR : ct_okR wd_fl2 kh_storms R_storms := ct_handR (R := R_storms) (ff := wd_ff2) (y := kh_storms_y) (Cs := [kh_mIsStorm]) wd_fl2_ok rfl (List.forall_mem_cons.mpr ⟨kh_mIsStorm_ok, (List.forall_mem_nil _)⟩) (by decide +kernel) (fun l D tc ad kd N sm xs S p e s m args below meth c sz lv G H0 => by
  have hx : xs.length = 1 := by rw [H0.2.1.1]; rfl
  have hP : ∀ (k : Nat), kh_storms_I l D tc ad kd N sm xs S p e s m args below meth c sz k := by
    intro k
    induction k with
    | zero => exact ⟨fun _ _ _ _ _ _ h => absurd h (Nat.not_lt_zero _), fun _ _ _ _ _ _ h => absurd h (Nat.not_lt_zero _), fun _ _ _ _ _ _ h => absurd h (Nat.not_lt_zero _), trivial⟩
    | succ k ih => exact ⟨kh_storms_h4 G H0 ih, kh_storms_h12 G H0 ih, kh_storms_h15 G H0 ih, trivial⟩
  obtain ⟨α1, hle, Hr⟩ := as_recM (pl := []) [] (by decide +kernel) H0
  have hf := H0.2.2.2.2.2.2.2.2.2.2.1
  have hl1 : α1.length = 1 := by rw [Hr.2.1.1]; rfl
  have hl0 : xs.length = 1 := by rw [H0.2.1.1]; rfl
  have hxa : al_le xs α1 := H0.1.trans hle
  obtain ⟨g1, -, g3, g4, -⟩ := as_fx Hr
  have g0 : (805 ≤ nv α1 0 ∧ nv α1 0 ≤ 805) ∧ True := by
    refine ⟨by have h := (en_nv (i := 0) Hr.2.1 rfl).2; exact h, trivial⟩
  have r0 : nv α1 0 = nv xs 0 := nv_le hle (by omega)
  refine hd_segMR G (na := 1) (fuel := 600) (first := true) (Bs := [kh_storms_b0_0]) (by decide +kernel) hl1 Hr ?_
  intro q hq β lv' st' S' H1
  simp only [List.mem_cons, List.not_mem_nil, or_false] at hq
  rcases hq with rfl
  · obtain ⟨f1, f2, f3, f4, f5⟩ := as_fx H1
    simp only [kh_storms_b0_0, Nat.reduceEqDiff, if_false, fx_env, fx_c, fx_ne, fx_hf, wl_S, Nat.zero_add, Nat.reduceAdd, Nat.reduceDiv, Nat.reduceMod, List.getElem?_cons_zero, List.getElem?_cons_succ, if_true, and_true, true_and] at f1 f2 f3 f4 f5
    have fe0 : nv β 0 = 805 := by omega
    have fe1 : nv β 1 = 0 := by omega
    have fe2 : nv β 2 = 0 := by omega
    try simp only [fe0, fe1, fe2, Int.reduceToNat] at f2 f3 f4 f5
    have s0 : nv β 0 = nv α1 0 := nv_le H1.1 (by omega)
    obtain ⟨α', Ha, hm⟩ := hd_gpM (q := kh_storms_a4) (n := 0) (by decide +kernel) hx H1 (by decide +kernel) hxa hf
    have hfr := H1.2.2.2.2.2.2.2.2.2.2.1
    have m0 : nv α' 0 = nv β 0 := hm 0 0 rfl
    have m1 : nv α' 1 = nv β 1 := hm 1 1 rfl
    have m2 : nv α' 2 = nv β 2 := hm 2 2 rfl
    subst S'

    refine (hP _).1 _ _ _ _ Ha ?_ (Nat.lt_succ_self _)
    · rw [m1, m2, show (nv β 2).toNat = 0 by omega]
      refine ⟨?_, by omega⟩
      show nv β 1 = 0
      omega)
theorem kh_storms_ok : ct_ok wd_fl2 kh_storms := ct_okR_ok kh_storms_okR
abbrev kh_mWeather_y : mt_T := (⟨"UtilityWorksModel", "weather", "(III)I"⟩, prog_14_method_328_code, 5, some .int, 12, 1, 3, 37235, 37233, 37234, 21014)
def kh_mWeather : ct_T := (663, [(2, 805, 805, 0), (0, (-30), 40, 1), (0, 0, 9, 1), (0, 0, 9, 1)], [], [510, 513, 515], [(1, (0, (-30), 40, 1), [(2, 805, 805, 0), (0, (-30), 40, 1), (0, 0, 9, 1), (0, 0, 9, 1)], [], ([510, 513, 515], []))], [((805, 805), (8, 8, 0)), ((806, 806), (1, 1, 0)), ((806, 806), (2, 2, 0)), ((806, 806), (3, 3, 0)), ((806, 806), (4, 4, 0))], 1, 22, 0)
def kh_mWeather_a46 : an_T := (46, 0, ([((2, 805, 805, 0), none), ((0, (-30), 40, 1), none), ((0, 0, 9, 1), none), ((0, 0, 9, 1), none)], [(0, 0), (1, 1), (2, 2), (3, 3)], [], [], [], [], [], [510, 513, 515], none), [])
def kh_mWeather_b0_0 : sg_T := (45, 0, ([((2, 805, 805, 0), none), ((0, (-30), 40, 1), none), ((0, 0, 9, 1), none), ((0, 0, 9, 1), none), ((0, (-30), (-30), 0), none), ((0, 40, 40, 0), none), ((0, 0, 0, 0), none), ((0, 0, 0, 0), none), ((0, 1, 1, 0), none), ((0, 1, 1, 0), none), ((0, 0, 0, 0), none)], [(0, 0), (1, 1), (2, 2), (3, 3)], [10], [], [(9, 0)], [(4100006, 1, 1)], [((805, 805), (8, 8, 0), (0, 1, 1, 0))], [510, 513, 515], none))
def kh_mWeather_b0_1 : sg_T := (45, 0, ([((2, 805, 805, 0), none), ((0, (-30), 40, 1), none), ((0, 0, 9, 1), none), ((0, 0, 9, 1), none), ((0, (-30), (-30), 0), none), ((0, 40, 40, 0), none), ((0, 1, 1, 0), none), ((0, 0, 0, 0), none), ((0, 9, 9, 0), none), ((0, 0, 0, 0), none), ((0, 0, 0, 0), none), ((0, 1, 1, 0), none), ((0, 1, 1, 0), none), ((0, 0, 0, 0), none)], [(0, 0), (1, 1), (2, 2), (3, 3)], [13], [], [(12, 0), (6, 0)], [(4200009, 2, 2), (4100006, 1, 1)], [((805, 805), (8, 8, 0), (0, 1, 1, 0))], [510, 513, 515], none))
def kh_mWeather_b0_2 : sg_T := (45, 0, ([((2, 805, 805, 0), none), ((0, (-30), 40, 1), none), ((0, 0, 9, 1), none), ((0, 0, 9, 1), none), ((0, (-30), (-30), 0), none), ((0, 40, 40, 0), none), ((0, 1, 1, 0), none), ((0, 0, 0, 0), none), ((0, 9, 9, 0), none), ((0, 1, 1, 0), none), ((0, 0, 0, 0), none), ((0, 9, 9, 0), none), ((0, 0, 0, 0), none), ((0, 0, 0, 0), none), ((0, 1, 1, 0), none), ((0, 1, 1, 0), none), ((0, 0, 0, 0), none)], [(0, 0), (1, 1), (2, 2), (3, 3)], [16], [], [(15, 0), (9, 0), (6, 0)], [(4200012, 3, 3), (4200009, 2, 2), (4100006, 1, 1)], [((805, 805), (8, 8, 0), (0, 1, 1, 0))], [510, 513, 515], none))
def kh_mWeather_b0_3 : sg_T := (46, 0, ([((2, 805, 805, 0), none), ((0, (-30), 40, 1), none), ((0, 0, 9, 1), none), ((0, 0, 9, 1), none), ((0, (-30), (-30), 0), none), ((0, 40, 40, 0), none), ((0, 1, 1, 0), none), ((0, 0, 0, 0), none), ((0, 9, 9, 0), none), ((0, 1, 1, 0), none), ((0, 0, 0, 0), none), ((0, 9, 9, 0), none), ((0, 1, 1, 0), none), ((0, 1, 1, 0), none), ((0, 1, 1, 0), none), ((0, 0, 0, 0), none)], [(0, 0), (1, 1), (2, 2), (3, 3)], [], [], [(12, 0), (9, 0), (6, 0)], [(4200012, 3, 3), (4200009, 2, 2), (4100006, 1, 1)], [((805, 805), (8, 8, 0), (0, 0, 0, 0))], [510, 513, 515], none))
def kh_mWeather_b46_0 : sg_T := (84, 0, ([((2, 805, 805, 0), none), ((0, (-30), 40, 1), none), ((0, 0, 9, 1), none), ((0, 0, 9, 1), none), ((2, 806, 806, 1), none), ((0, 1, 1, 0), none), ((0, (-30), 40, 1), none), ((2, 806, 806, 1), none), ((0, 1, 1, 0), none), ((2, 806, 806, 1), none), ((0, 2, 2, 0), none), ((2, 806, 806, 1), none), ((0, 3, 3, 0), none), ((2, 806, 806, 1), none), ((0, 4, 4, 0), none), ((0, 0, 0, 0), none)], [(4, 6), (0, 0), (1, 1), (2, 2), (3, 3)], [6], [(13, 14, 15), (11, 12, 3), (9, 10, 2), (7, 8, 1)], [], [(800006, 4, 5)], [], [510, 513, 515], some [(13, 14, 15), (11, 12, 3), (9, 10, 2), (7, 8, 1)]))
def kh_mWeather_I (l : Launch) (D : va_G) (tc : Nat → ClassId) (ad : Nat → Nat) (kd : Nat → Nat × Nat) (N : Nat) (sm : Nat → Nat) (xs : List av_X) (S : fw_S) (p : Program) (e : Env) (s : State) (m : MethodId) (args : Array Value) (below : List Frame) (meth : Method) (c : Code) (sz : Nat) (k : Nat) : Prop := (∀ (α : List av_X) (lv : List (Nat × Value)) (st : List Value) (S1 : fw_S), as_in ad sm wd_fl2 xs S kh_mWeather.2.2.2.2.2.1 α kh_mWeather_a46.2.2.1 lv st S1 → (S1.1 806 = S.1 806 ∧ thM S1 = 0) → 0 < k → hd_WR R_mWeather wd_fl2 kh_mWeather kh_mWeather_y l D tc ad kd N sm xs S p e s m args below meth c sz 46 lv st S1 0) ∧ True
set_option maxHeartbeats 16000000 in
set_option maxRecDepth 8000 in
theorem kh_mWeather_h46 {l : Launch} {D : va_G} {tc : Nat → ClassId} {ad : Nat → Nat} {kd : Nat → Nat × Nat} {N : Nat} {sm : Nat → Nat} {xs : List av_X} {S : fw_S} {p : Program} {e : Env} {s : State} {m : MethodId} {args : Array Value} {below : List Frame} {meth : Method} {c : Code} {sz : Nat} {lvE : List (Nat × Value)} (G : hd_C wd_ff2 wd_fl2 kh_mWeather [kh_in1, kh_592, kh_in2, kh_588] kh_mWeather_y l D tc ad kd N sm xs p s m args meth c sz) (H0 : as_in ad sm wd_fl2 xs S kh_mWeather.2.2.2.2.2.1 xs (hd_0 kh_mWeather) lvE [] S) {k : Nat} (ih : kh_mWeather_I l D tc ad kd N sm xs S p e s m args below meth c sz k) : (∀ (α : List av_X) (lv : List (Nat × Value)) (st : List Value) (S1 : fw_S), as_in ad sm wd_fl2 xs S kh_mWeather.2.2.2.2.2.1 α kh_mWeather_a46.2.2.1 lv st S1 → (S1.1 806 = S.1 806 ∧ thM S1 = 0) → 0 < k + 1 → hd_WR R_mWeather wd_fl2 kh_mWeather kh_mWeather_y l D tc ad kd N sm xs S p e s m args below meth c sz 46 lv st S1 0) := by
  have hx : xs.length = 4 := by rw [H0.2.1.1]; rfl
  intro α lv st S1 H hp hk
  obtain ⟨α1, hle, Hr⟩ := as_recM (pl := []) [((806, 806), (1, 1, 0)), ((806, 806), (2, 2, 0)), ((806, 806), (3, 3, 0)), ((806, 806), (4, 4, 0))] (by decide +kernel) H
  have hf := H.2.2.2.2.2.2.2.2.2.2.1
  have hl1 : α1.length = 4 := by rw [Hr.2.1.1]; rfl
  have hl0 : α.length = 4 := by rw [H.2.1.1]; rfl
  have hxa : al_le xs α1 := H.1.trans hle
  obtain ⟨g1, -, g3, g4, -⟩ := as_fx Hr
  have g0 : (805 ≤ nv α1 0 ∧ nv α1 0 ≤ 805) ∧ ((-30) ≤ nv α1 1 ∧ nv α1 1 ≤ 40) ∧ (0 ≤ nv α1 2 ∧ nv α1 2 ≤ 9) ∧ (0 ≤ nv α1 3 ∧ nv α1 3 ≤ 9) ∧ True := by
    refine ⟨by have h := (en_nv (i := 0) Hr.2.1 rfl).2; exact h, by have h := (en_nv (i := 1) Hr.2.1 rfl).2; exact h, by have h := (en_nv (i := 2) Hr.2.1 rfl).2; exact h, by have h := (en_nv (i := 3) Hr.2.1 rfl).2; exact h, trivial⟩
  have r0 : nv α1 0 = nv α 0 := nv_le hle (by omega)
  have r1 : nv α1 1 = nv α 1 := nv_le hle (by omega)
  have r2 : nv α1 2 = nv α 2 := nv_le hle (by omega)
  have r3 : nv α1 3 = nv α 3 := nv_le hle (by omega)
  refine hd_segMR G (na := 4) (fuel := 600) (first := true) (Bs := [kh_mWeather_b46_0]) (by decide +kernel) hl1 Hr ?_
  intro q hq β lv' st' S' H1
  simp only [List.mem_cons, List.not_mem_nil, or_false] at hq
  rcases hq with rfl
  · obtain ⟨f1, f2, f3, f4, f5⟩ := as_fx H1
    simp only [kh_mWeather_b46_0, Nat.reduceEqDiff, if_false, fx_env, fx_c, fx_ne, fx_hf, wl_S, Nat.zero_add, Nat.reduceAdd, Nat.reduceDiv, Nat.reduceMod, List.getElem?_cons_zero, List.getElem?_cons_succ, if_true, and_true, true_and] at f1 f2 f3 f4 f5
    have fe0 : nv β 0 = 805 := by omega
    have fe4 : nv β 4 = 806 := by omega
    have fe5 : nv β 5 = 1 := by omega
    have fe7 : nv β 7 = 806 := by omega
    have fe8 : nv β 8 = 1 := by omega
    have fe9 : nv β 9 = 806 := by omega
    have fe10 : nv β 10 = 2 := by omega
    have fe11 : nv β 11 = 806 := by omega
    have fe12 : nv β 12 = 3 := by omega
    have fe13 : nv β 13 = 806 := by omega
    have fe14 : nv β 14 = 4 := by omega
    have fe15 : nv β 15 = 0 := by omega
    try simp only [fe0, fe4, fe5, fe7, fe8, fe9, fe10, fe11, fe12, fe13, fe14, fe15, Int.reduceToNat] at f2 f3 f4 f5
    have s0 : nv β 0 = nv α1 0 := nv_le H1.1 (by omega)
    have s1 : nv β 1 = nv α1 1 := nv_le H1.1 (by omega)
    have s2 : nv β 2 = nv α1 2 := nv_le H1.1 (by omega)
    have s3 : nv β 3 = nv α1 3 := nv_le H1.1 (by omega)
    have c0 := f2
    have z1 : nv α 1 = nv xs 1 := nv_le H.1 (by omega)
    have z2 : nv α 2 = nv xs 2 := nv_le H.1 (by omega)
    have z3 : nv α 3 = nv xs 3 := nv_le H.1 (by omega)
    have o0 := old_0 c0 rfl
    have wA : ∀ a b : Nat, S'.1 a b = (if a = 806 ∧ b = 4 then Int32.ofInt (0) else (if a = 806 ∧ b = 3 then Int32.ofInt (nv β 3) else (if a = 806 ∧ b = 2 then Int32.ofInt (nv β 2) else (if a = 806 ∧ b = 1 then Int32.ofInt (nv β 1) else (S1.1 a b))))) := fun a b => by rw [f5]; rfl
    obtain ⟨p1, p2⟩ := hp
    have eM := mrw_row p1
    have hth : thM S' = 0 := by
      rw [← p2]
      unfold thM
      rw [wA, if_neg (by omega)]
      (repeat' split) <;> first | rfl | (exfalso; omega)
    exact hd_retIR G (v := 6) (by decide +kernel) (as_backM H1 (by decide +kernel) hxa hf) _ List.mem_cons_self rfl (by decide +kernel) (by decide) (fun w hw => by cases hw) (fun y hy => ⟨⟨y, rfl, by rw [hy, ← o0, p1]; rfl⟩, hth, by
      refine skM_ext (by (try dsimp only); rw [wA]; (repeat' split) <;> first | (exfalso; omega) | rfl | (rw [i32_of (by omega) (by omega)] <;> omega) | (rw [p1]; rfl) | omega) (by (try dsimp only); rw [wA]; (repeat' split) <;> first | (exfalso; omega) | rfl | (rw [i32_of (by omega) (by omega)] <;> omega) | (rw [p1]; rfl) | omega) (by (try dsimp only); rw [wA]; (repeat' split) <;> first | (exfalso; omega) | rfl | (rw [i32_of (by omega) (by omega)] <;> omega) | (rw [p1]; rfl) | omega) (fun k => ?_) (fun k => ?_)
      · show _ = (if k < 4 then mrw S k else 0)
        rw [← eM]
        unfold mrw
        rw [wA]
        (repeat' split) <;> first | (exfalso; omega) | rfl | (rw [i32_of (by omega) (by omega)] <;> omega) | (rw [p1]; rfl) | omega
      · show _ = (if k < 4 then mcl S k else 0)
        have eC : mcl S k = mcl S1 k := by unfold mcl; rw [p1]
        rw [eC]
        unfold mcl
        rw [wA]
        (repeat' split) <;> first | (exfalso; omega) | rfl | (rw [i32_of (by omega) (by omega)] <;> omega) | (rw [p1]; rfl) | omega⟩)
set_option maxHeartbeats 16000000 in
set_option maxRecDepth 8000 in
theorem kh_mWeather_okR : ct_okR wd_fl2 kh_mWeather R_mWeather := ct_handR (R := R_mWeather) (ff := wd_ff2) (y := kh_mWeather_y) (Cs := [kh_in1, kh_592, kh_in2, kh_588]) wd_fl2_ok rfl (List.forall_mem_cons.mpr ⟨kh_in1_ok, (List.forall_mem_cons.mpr ⟨kh_592_ok, (List.forall_mem_cons.mpr ⟨kh_in2_ok, (List.forall_mem_cons.mpr ⟨kh_588_ok, (List.forall_mem_nil _)⟩)⟩)⟩)⟩) (by decide +kernel) (fun l D tc ad kd N sm xs S p e s m args below meth c sz lv G H0 => by
  have hx : xs.length = 4 := by rw [H0.2.1.1]; rfl
  have hP : ∀ (k : Nat), kh_mWeather_I l D tc ad kd N sm xs S p e s m args below meth c sz k := by
    intro k
    induction k with
    | zero => exact ⟨fun _ _ _ _ _ _ h => absurd h (Nat.not_lt_zero _), trivial⟩
    | succ k ih => exact ⟨kh_mWeather_h46 G H0 ih, trivial⟩
  obtain ⟨α1, hle, Hr⟩ := as_recM (pl := []) [((805, 805), (8, 8, 0))] (by decide +kernel) H0
  have hf := H0.2.2.2.2.2.2.2.2.2.2.1
  have hl1 : α1.length = 4 := by rw [Hr.2.1.1]; rfl
  have hl0 : xs.length = 4 := by rw [H0.2.1.1]; rfl
  have hxa : al_le xs α1 := H0.1.trans hle
  obtain ⟨g1, -, g3, g4, -⟩ := as_fx Hr
  have g0 : (805 ≤ nv α1 0 ∧ nv α1 0 ≤ 805) ∧ ((-30) ≤ nv α1 1 ∧ nv α1 1 ≤ 40) ∧ (0 ≤ nv α1 2 ∧ nv α1 2 ≤ 9) ∧ (0 ≤ nv α1 3 ∧ nv α1 3 ≤ 9) ∧ True := by
    refine ⟨by have h := (en_nv (i := 0) Hr.2.1 rfl).2; exact h, by have h := (en_nv (i := 1) Hr.2.1 rfl).2; exact h, by have h := (en_nv (i := 2) Hr.2.1 rfl).2; exact h, by have h := (en_nv (i := 3) Hr.2.1 rfl).2; exact h, trivial⟩
  have r0 : nv α1 0 = nv xs 0 := nv_le hle (by omega)
  have r1 : nv α1 1 = nv xs 1 := nv_le hle (by omega)
  have r2 : nv α1 2 = nv xs 2 := nv_le hle (by omega)
  have r3 : nv α1 3 = nv xs 3 := nv_le hle (by omega)
  refine hd_segMR G (na := 4) (fuel := 600) (first := true) (Bs := [kh_mWeather_b0_0, kh_mWeather_b0_1, kh_mWeather_b0_2, kh_mWeather_b0_3]) (by decide +kernel) hl1 Hr ?_
  intro q hq β lv' st' S' H1
  simp only [List.mem_cons, List.not_mem_nil, or_false] at hq
  rcases hq with rfl | rfl | rfl | rfl
  · obtain ⟨f1, f2, f3, f4, f5⟩ := as_fx H1
    simp only [kh_mWeather_b0_0, Nat.reduceEqDiff, if_false, fx_env, fx_c, fx_ne, fx_hf, wl_S, Nat.zero_add, Nat.reduceAdd, Nat.reduceDiv, Nat.reduceMod, List.getElem?_cons_zero, List.getElem?_cons_succ, if_true, and_true, true_and] at f1 f2 f3 f4 f5
    have fe0 : nv β 0 = 805 := by omega
    have fe4 : nv β 4 = (-30) := by omega
    have fe5 : nv β 5 = 40 := by omega
    have fe6 : nv β 6 = 0 := by omega
    have fe7 : nv β 7 = 0 := by omega
    have fe8 : nv β 8 = 1 := by omega
    have fe9 : nv β 9 = 1 := by omega
    have fe10 : nv β 10 = 0 := by omega
    try simp only [fe0, fe4, fe5, fe6, fe7, fe8, fe9, fe10, Int.reduceToNat] at f2 f3 f4 f5
    have s0 : nv β 0 = nv α1 0 := nv_le H1.1 (by omega)
    have s1 : nv β 1 = nv α1 1 := nv_le H1.1 (by omega)
    have s2 : nv β 2 = nv α1 2 := nv_le H1.1 (by omega)
    have s3 : nv β 3 = nv α1 3 := nv_le H1.1 (by omega)
    have c0 := f2
    have d0 := c0
    simp only [wd_fl2, if_neg (show ¬ (wd_base1 41 = true) by decide)] at d0
    exfalso
    unfold b2i at d0
    rw [if_pos ⟨by omega, by omega⟩] at d0
    omega
  · obtain ⟨f1, f2, f3, f4, f5⟩ := as_fx H1
    simp only [kh_mWeather_b0_1, Nat.reduceEqDiff, if_false, fx_env, fx_c, fx_ne, fx_hf, wl_S, Nat.zero_add, Nat.reduceAdd, Nat.reduceDiv, Nat.reduceMod, List.getElem?_cons_zero, List.getElem?_cons_succ, if_true, and_true, true_and] at f1 f2 f3 f4 f5
    have fe0 : nv β 0 = 805 := by omega
    have fe4 : nv β 4 = (-30) := by omega
    have fe5 : nv β 5 = 40 := by omega
    have fe6 : nv β 6 = 1 := by omega
    have fe7 : nv β 7 = 0 := by omega
    have fe8 : nv β 8 = 9 := by omega
    have fe9 : nv β 9 = 0 := by omega
    have fe10 : nv β 10 = 0 := by omega
    have fe11 : nv β 11 = 1 := by omega
    have fe12 : nv β 12 = 1 := by omega
    have fe13 : nv β 13 = 0 := by omega
    try simp only [fe0, fe4, fe5, fe6, fe7, fe8, fe9, fe10, fe11, fe12, fe13, Int.reduceToNat] at f2 f3 f4 f5
    have s0 : nv β 0 = nv α1 0 := nv_le H1.1 (by omega)
    have s1 : nv β 1 = nv α1 1 := nv_le H1.1 (by omega)
    have s2 : nv β 2 = nv α1 2 := nv_le H1.1 (by omega)
    have s3 : nv β 3 = nv α1 3 := nv_le H1.1 (by omega)
    obtain ⟨c0, c1⟩ := f2
    have d0 := c0
    simp only [wd_fl2, if_neg (show ¬ (wd_base1 42 = true) by decide)] at d0
    have d1 := c1
    simp only [wd_fl2, if_neg (show ¬ (wd_base1 41 = true) by decide)] at d1
    exfalso
    unfold b2i at d0
    rw [if_pos ⟨by omega, by omega⟩] at d0
    unfold b2i at d1
    rw [if_pos ⟨by omega, by omega⟩] at d1
    omega
  · obtain ⟨f1, f2, f3, f4, f5⟩ := as_fx H1
    simp only [kh_mWeather_b0_2, Nat.reduceEqDiff, if_false, fx_env, fx_c, fx_ne, fx_hf, wl_S, Nat.zero_add, Nat.reduceAdd, Nat.reduceDiv, Nat.reduceMod, List.getElem?_cons_zero, List.getElem?_cons_succ, if_true, and_true, true_and] at f1 f2 f3 f4 f5
    have fe0 : nv β 0 = 805 := by omega
    have fe4 : nv β 4 = (-30) := by omega
    have fe5 : nv β 5 = 40 := by omega
    have fe6 : nv β 6 = 1 := by omega
    have fe7 : nv β 7 = 0 := by omega
    have fe8 : nv β 8 = 9 := by omega
    have fe9 : nv β 9 = 1 := by omega
    have fe10 : nv β 10 = 0 := by omega
    have fe11 : nv β 11 = 9 := by omega
    have fe12 : nv β 12 = 0 := by omega
    have fe13 : nv β 13 = 0 := by omega
    have fe14 : nv β 14 = 1 := by omega
    have fe15 : nv β 15 = 1 := by omega
    have fe16 : nv β 16 = 0 := by omega
    try simp only [fe0, fe4, fe5, fe6, fe7, fe8, fe9, fe10, fe11, fe12, fe13, fe14, fe15, fe16, Int.reduceToNat] at f2 f3 f4 f5
    have s0 : nv β 0 = nv α1 0 := nv_le H1.1 (by omega)
    have s1 : nv β 1 = nv α1 1 := nv_le H1.1 (by omega)
    have s2 : nv β 2 = nv α1 2 := nv_le H1.1 (by omega)
    have s3 : nv β 3 = nv α1 3 := nv_le H1.1 (by omega)
    obtain ⟨c0, c1, c2⟩ := f2
    have d0 := c0
    simp only [wd_fl2, if_neg (show ¬ (wd_base1 42 = true) by decide)] at d0
    have d1 := c1
    simp only [wd_fl2, if_neg (show ¬ (wd_base1 42 = true) by decide)] at d1
    have d2 := c2
    simp only [wd_fl2, if_neg (show ¬ (wd_base1 41 = true) by decide)] at d2
    exfalso
    unfold b2i at d0
    rw [if_pos ⟨by omega, by omega⟩] at d0
    unfold b2i at d1
    rw [if_pos ⟨by omega, by omega⟩] at d1
    unfold b2i at d2
    rw [if_pos ⟨by omega, by omega⟩] at d2
    omega
  · obtain ⟨f1, f2, f3, f4, f5⟩ := as_fx H1
    simp only [kh_mWeather_b0_3, Nat.reduceEqDiff, if_false, fx_env, fx_c, fx_ne, fx_hf, wl_S, Nat.zero_add, Nat.reduceAdd, Nat.reduceDiv, Nat.reduceMod, List.getElem?_cons_zero, List.getElem?_cons_succ, if_true, and_true, true_and] at f1 f2 f3 f4 f5
    have fe0 : nv β 0 = 805 := by omega
    have fe4 : nv β 4 = (-30) := by omega
    have fe5 : nv β 5 = 40 := by omega
    have fe6 : nv β 6 = 1 := by omega
    have fe7 : nv β 7 = 0 := by omega
    have fe8 : nv β 8 = 9 := by omega
    have fe9 : nv β 9 = 1 := by omega
    have fe10 : nv β 10 = 0 := by omega
    have fe11 : nv β 11 = 9 := by omega
    have fe12 : nv β 12 = 1 := by omega
    have fe13 : nv β 13 = 1 := by omega
    have fe14 : nv β 14 = 1 := by omega
    have fe15 : nv β 15 = 0 := by omega
    try simp only [fe0, fe4, fe5, fe6, fe7, fe8, fe9, fe10, fe11, fe12, fe13, fe14, fe15, Int.reduceToNat] at f2 f3 f4 f5
    have s0 : nv β 0 = nv α1 0 := nv_le H1.1 (by omega)
    have s1 : nv β 1 = nv α1 1 := nv_le H1.1 (by omega)
    have s2 : nv β 2 = nv α1 2 := nv_le H1.1 (by omega)
    have s3 : nv β 3 = nv α1 3 := nv_le H1.1 (by omega)
    obtain ⟨c0, c1, c2⟩ := f2
    obtain ⟨α', Ha, hm⟩ := hd_gpM (q := kh_mWeather_a46) (n := 0) (by decide +kernel) hx H1 (by decide +kernel) hxa hf
    have hfr := H1.2.2.2.2.2.2.2.2.2.2.1
    have m0 : nv α' 0 = nv β 0 := hm 0 0 rfl
    have m1 : nv α' 1 = nv β 1 := hm 1 1 rfl
    have m2 : nv α' 2 = nv β 2 := hm 2 2 rfl
    have m3 : nv α' 3 = nv β 3 := hm 3 3 rfl
    have e1 := fr_pl hfr 806 1 (by decide +kernel)
    have e4 := fr_pl hfr 806 4 (by decide +kernel)
    have e5' := fr_pl hfr 806 5 (by decide +kernel)
    have er : ∀ k : Nat, k < 4 → mrw S' k = mrw S k ∧ mcl S' k = mcl S k := fun k hk => ⟨congrArg Int32.toInt (fr_pg hfr 806 (500, 512, 4) (by decide +kernel) (pg_mk (by omega) (by omega) (by omega))), congrArg Int32.toInt (fr_pg hfr 806 (502, 514, 4) (by decide +kernel) (pg_mk (by omega) (by omega) (by omega)))⟩
    have hth : thM S' = 0 := by
      have hq := q_rg_in (q := ((805, 805), (8, 8, 0), (0, 0, 0, 0))) (by decide +kernel) H1 805 8 (Nat.le_refl _) (Nat.le_refl _) pg_one
      have a1 := hq.2.2.1
      have a2 := hq.2.2.2.1
      dsimp only at a1 a2
      unfold thM
      omega
    have er2 : S'.1 806 = S.1 806 := fr_row hfr 806 (by decide +kernel)
    refine (hP _).1 _ _ _ _ Ha ?_ (Nat.lt_succ_self _)
    · exact ⟨er2, hth⟩)
theorem kh_mWeather_ok : ct_ok wd_fl2 kh_mWeather := ct_okR_ok kh_mWeather_okR
abbrev kh_mDraws_y : mt_T := (⟨"UtilityWorksModel", "draws", "(I)I"⟩, prog_14_method_329_code, 3, some .int, 12, 1, 1, 37239, 37237, 37238, 21014)
def kh_mDraws : ct_T := (664, [(2, 805, 805, 0), (0, 0, 65536, 1)], [], [510, 513, 515], [(1, (0, 0, 65536, 1), [(2, 805, 805, 0), (0, 0, 65536, 1)], [], ([510, 513, 515], []))], [((805, 805), (8, 8, 0)), ((806, 806), (4, 4, 0)), ((806, 806), (5, 5, 0))], 1, 22, 0)
def kh_mDraws_a18 : an_T := (18, 0, ([((2, 805, 805, 0), none), ((0, 0, 65536, 1), none)], [(0, 0), (1, 1)], [], [], [], [], [], [510, 513, 515], none), [])
def kh_mDraws_b0_0 : sg_T := (17, 0, ([((2, 805, 805, 0), none), ((0, 0, 65536, 1), none), ((0, 0, 0, 0), none), ((0, 65536, 65536, 0), none), ((0, 0, 0, 0), none), ((0, 1, 1, 0), none), ((0, 1, 1, 0), none), ((0, 0, 0, 0), none)], [(0, 0), (1, 1)], [7], [], [(6, 0)], [(4300004, 1, 1)], [((805, 805), (8, 8, 0), (0, 1, 1, 0))], [510, 513, 515], none))
def kh_mDraws_b0_1 : sg_T := (18, 0, ([((2, 805, 805, 0), none), ((0, 0, 65536, 1), none), ((0, 0, 0, 0), none), ((0, 65536, 65536, 0), none), ((0, 1, 1, 0), none), ((0, 1, 1, 0), none), ((0, 0, 0, 0), none)], [(0, 0), (1, 1)], [], [], [], [(4300004, 1, 1)], [((805, 805), (8, 8, 0), (0, 0, 0, 0))], [510, 513, 515], none))
def kh_mDraws_b18_0 : sg_T := (40, 0, ([((2, 805, 805, 0), none), ((0, 0, 65536, 1), none), ((2, 806, 806, 1), none), ((0, 5, 5, 0), none), ((0, 0, 65536, 1), none), ((2, 806, 806, 1), none), ((0, 5, 5, 0), none), ((2, 806, 806, 1), none), ((0, 4, 4, 0), none), ((0, 1, 1, 0), none)], [(2, 4), (0, 0), (1, 1)], [4], [(7, 8, 9), (5, 6, 1)], [], [(800004, 2, 3)], [], [510, 513, 515], some [(7, 8, 9), (5, 6, 1)]))
def kh_mDraws_I (l : Launch) (D : va_G) (tc : Nat → ClassId) (ad : Nat → Nat) (kd : Nat → Nat × Nat) (N : Nat) (sm : Nat → Nat) (xs : List av_X) (S : fw_S) (p : Program) (e : Env) (s : State) (m : MethodId) (args : Array Value) (below : List Frame) (meth : Method) (c : Code) (sz : Nat) (k : Nat) : Prop := (∀ (α : List av_X) (lv : List (Nat × Value)) (st : List Value) (S1 : fw_S), as_in ad sm wd_fl2 xs S kh_mDraws.2.2.2.2.2.1 α kh_mDraws_a18.2.2.1 lv st S1 → (S1.1 806 = S.1 806 ∧ thM S1 = 0) → 0 < k → hd_WR R_mDraws wd_fl2 kh_mDraws kh_mDraws_y l D tc ad kd N sm xs S p e s m args below meth c sz 18 lv st S1 0) ∧ True
set_option maxHeartbeats 16000000 in
set_option maxRecDepth 8000 in
theorem kh_mDraws_h18 {l : Launch} {D : va_G} {tc : Nat → ClassId} {ad : Nat → Nat} {kd : Nat → Nat × Nat} {N : Nat} {sm : Nat → Nat} {xs : List av_X} {S : fw_S} {p : Program} {e : Env} {s : State} {m : MethodId} {args : Array Value} {below : List Frame} {meth : Method} {c : Code} {sz : Nat} {lvE : List (Nat × Value)} (G : hd_C wd_ff2 wd_fl2 kh_mDraws [kh_in3, kh_592, kh_588] kh_mDraws_y l D tc ad kd N sm xs p s m args meth c sz) (H0 : as_in ad sm wd_fl2 xs S kh_mDraws.2.2.2.2.2.1 xs (hd_0 kh_mDraws) lvE [] S) {k : Nat} (ih : kh_mDraws_I l D tc ad kd N sm xs S p e s m args below meth c sz k) : (∀ (α : List av_X) (lv : List (Nat × Value)) (st : List Value) (S1 : fw_S), as_in ad sm wd_fl2 xs S kh_mDraws.2.2.2.2.2.1 α kh_mDraws_a18.2.2.1 lv st S1 → (S1.1 806 = S.1 806 ∧ thM S1 = 0) → 0 < k + 1 → hd_WR R_mDraws wd_fl2 kh_mDraws kh_mDraws_y l D tc ad kd N sm xs S p e s m args below meth c sz 18 lv st S1 0) := by
  have hx : xs.length = 2 := by rw [H0.2.1.1]; rfl
  intro α lv st S1 H hp hk
  obtain ⟨α1, hle, Hr⟩ := as_recM (pl := []) [((806, 806), (4, 4, 0)), ((806, 806), (5, 5, 0))] (by decide +kernel) H
  have hf := H.2.2.2.2.2.2.2.2.2.2.1
  have hl1 : α1.length = 2 := by rw [Hr.2.1.1]; rfl
  have hl0 : α.length = 2 := by rw [H.2.1.1]; rfl
  have hxa : al_le xs α1 := H.1.trans hle
  obtain ⟨g1, -, g3, g4, -⟩ := as_fx Hr
  have g0 : (805 ≤ nv α1 0 ∧ nv α1 0 ≤ 805) ∧ (0 ≤ nv α1 1 ∧ nv α1 1 ≤ 65536) ∧ True := by
    refine ⟨by have h := (en_nv (i := 0) Hr.2.1 rfl).2; exact h, by have h := (en_nv (i := 1) Hr.2.1 rfl).2; exact h, trivial⟩
  have r0 : nv α1 0 = nv α 0 := nv_le hle (by omega)
  have r1 : nv α1 1 = nv α 1 := nv_le hle (by omega)
  refine hd_segMR G (na := 2) (fuel := 600) (first := true) (Bs := [kh_mDraws_b18_0]) (by decide +kernel) hl1 Hr ?_
  intro q hq β lv' st' S' H1
  simp only [List.mem_cons, List.not_mem_nil, or_false] at hq
  rcases hq with rfl
  · obtain ⟨f1, f2, f3, f4, f5⟩ := as_fx H1
    simp only [kh_mDraws_b18_0, Nat.reduceEqDiff, if_false, fx_env, fx_c, fx_ne, fx_hf, wl_S, Nat.zero_add, Nat.reduceAdd, Nat.reduceDiv, Nat.reduceMod, List.getElem?_cons_zero, List.getElem?_cons_succ, if_true, and_true, true_and] at f1 f2 f3 f4 f5
    have fe0 : nv β 0 = 805 := by omega
    have fe2 : nv β 2 = 806 := by omega
    have fe3 : nv β 3 = 5 := by omega
    have fe5 : nv β 5 = 806 := by omega
    have fe6 : nv β 6 = 5 := by omega
    have fe7 : nv β 7 = 806 := by omega
    have fe8 : nv β 8 = 4 := by omega
    have fe9 : nv β 9 = 1 := by omega
    try simp only [fe0, fe2, fe3, fe5, fe6, fe7, fe8, fe9, Int.reduceToNat] at f2 f3 f4 f5
    have s0 : nv β 0 = nv α1 0 := nv_le H1.1 (by omega)
    have s1 : nv β 1 = nv α1 1 := nv_le H1.1 (by omega)
    have c0 := f2
    have z1 : nv α 1 = nv xs 1 := nv_le H.1 (by omega)
    have o0 := old_0 c0 rfl
    have wA : ∀ a b : Nat, S'.1 a b = (if a = 806 ∧ b = 4 then Int32.ofInt (1) else (if a = 806 ∧ b = 5 then Int32.ofInt (nv β 1) else (S1.1 a b))) := fun a b => by rw [f5]; rfl
    obtain ⟨p1, p2⟩ := hp
    have eM := mrw_row p1
    have hth : thM S' = 0 := by
      rw [← p2]
      unfold thM
      rw [wA, if_neg (by omega)]
      (repeat' split) <;> first | rfl | (exfalso; omega)
    exact hd_retIR G (v := 4) (by decide +kernel) (as_backM H1 (by decide +kernel) hxa hf) _ List.mem_cons_self rfl (by decide +kernel) (by decide) (fun w hw => by cases hw) (fun y hy => ⟨⟨y, rfl, by rw [hy, ← o0, p1]; rfl⟩, hth, by
      refine skM_ext (by (try dsimp only); rw [wA]; (repeat' split) <;> first | (exfalso; omega) | rfl | (rw [i32_of (by omega) (by omega)] <;> omega) | (rw [p1]; rfl) | omega) (by (try dsimp only); rw [wA]; (repeat' split) <;> first | (exfalso; omega) | rfl | (rw [i32_of (by omega) (by omega)] <;> omega) | (rw [p1]; rfl) | omega) (by (try dsimp only); rw [wA]; (repeat' split) <;> first | (exfalso; omega) | rfl | (rw [i32_of (by omega) (by omega)] <;> omega) | (rw [p1]; rfl) | omega) (fun k => ?_) (fun k => ?_)
      · show _ = (if k < 4 then mrw S k else 0)
        rw [← eM]
        unfold mrw
        rw [wA]
        (repeat' split) <;> first | (exfalso; omega) | rfl | (rw [i32_of (by omega) (by omega)] <;> omega) | (rw [p1]; rfl) | omega
      · show _ = (if k < 4 then mcl S k else 0)
        have eC : mcl S k = mcl S1 k := by unfold mcl; rw [p1]
        rw [eC]
        unfold mcl
        rw [wA]
        (repeat' split) <;> first | (exfalso; omega) | rfl | (rw [i32_of (by omega) (by omega)] <;> omega) | (rw [p1]; rfl) | omega⟩)
set_option maxHeartbeats 16000000 in
set_option maxRecDepth 8000 in
theorem kh_mDraws_okR : ct_okR wd_fl2 kh_mDraws R_mDraws := ct_handR (R := R_mDraws) (ff := wd_ff2) (y := kh_mDraws_y) (Cs := [kh_in3, kh_592, kh_588]) wd_fl2_ok rfl (List.forall_mem_cons.mpr ⟨kh_in3_ok, (List.forall_mem_cons.mpr ⟨kh_592_ok, (List.forall_mem_cons.mpr ⟨kh_588_ok, (List.forall_mem_nil _)⟩)⟩)⟩) (by decide +kernel) (fun l D tc ad kd N sm xs S p e s m args below meth c sz lv G H0 => by
  have hx : xs.length = 2 := by rw [H0.2.1.1]; rfl
  have hP : ∀ (k : Nat), kh_mDraws_I l D tc ad kd N sm xs S p e s m args below meth c sz k := by
    intro k
    induction k with
    | zero => exact ⟨fun _ _ _ _ _ _ h => absurd h (Nat.not_lt_zero _), trivial⟩
    | succ k ih => exact ⟨kh_mDraws_h18 G H0 ih, trivial⟩
  obtain ⟨α1, hle, Hr⟩ := as_recM (pl := []) [((805, 805), (8, 8, 0))] (by decide +kernel) H0
  have hf := H0.2.2.2.2.2.2.2.2.2.2.1
  have hl1 : α1.length = 2 := by rw [Hr.2.1.1]; rfl
  have hl0 : xs.length = 2 := by rw [H0.2.1.1]; rfl
  have hxa : al_le xs α1 := H0.1.trans hle
  obtain ⟨g1, -, g3, g4, -⟩ := as_fx Hr
  have g0 : (805 ≤ nv α1 0 ∧ nv α1 0 ≤ 805) ∧ (0 ≤ nv α1 1 ∧ nv α1 1 ≤ 65536) ∧ True := by
    refine ⟨by have h := (en_nv (i := 0) Hr.2.1 rfl).2; exact h, by have h := (en_nv (i := 1) Hr.2.1 rfl).2; exact h, trivial⟩
  have r0 : nv α1 0 = nv xs 0 := nv_le hle (by omega)
  have r1 : nv α1 1 = nv xs 1 := nv_le hle (by omega)
  refine hd_segMR G (na := 2) (fuel := 600) (first := true) (Bs := [kh_mDraws_b0_0, kh_mDraws_b0_1]) (by decide +kernel) hl1 Hr ?_
  intro q hq β lv' st' S' H1
  simp only [List.mem_cons, List.not_mem_nil, or_false] at hq
  rcases hq with rfl | rfl
  · obtain ⟨f1, f2, f3, f4, f5⟩ := as_fx H1
    simp only [kh_mDraws_b0_0, Nat.reduceEqDiff, if_false, fx_env, fx_c, fx_ne, fx_hf, wl_S, Nat.zero_add, Nat.reduceAdd, Nat.reduceDiv, Nat.reduceMod, List.getElem?_cons_zero, List.getElem?_cons_succ, if_true, and_true, true_and] at f1 f2 f3 f4 f5
    have fe0 : nv β 0 = 805 := by omega
    have fe2 : nv β 2 = 0 := by omega
    have fe3 : nv β 3 = 65536 := by omega
    have fe4 : nv β 4 = 0 := by omega
    have fe5 : nv β 5 = 1 := by omega
    have fe6 : nv β 6 = 1 := by omega
    have fe7 : nv β 7 = 0 := by omega
    try simp only [fe0, fe2, fe3, fe4, fe5, fe6, fe7, Int.reduceToNat] at f2 f3 f4 f5
    have s0 : nv β 0 = nv α1 0 := nv_le H1.1 (by omega)
    have s1 : nv β 1 = nv α1 1 := nv_le H1.1 (by omega)
    have c0 := f2
    have d0 := c0
    simp only [wd_fl2, if_neg (show ¬ (wd_base1 43 = true) by decide)] at d0
    exfalso
    unfold b2i at d0
    rw [if_pos ⟨by omega, by omega⟩] at d0
    omega
  · obtain ⟨f1, f2, f3, f4, f5⟩ := as_fx H1
    simp only [kh_mDraws_b0_1, Nat.reduceEqDiff, if_false, fx_env, fx_c, fx_ne, fx_hf, wl_S, Nat.zero_add, Nat.reduceAdd, Nat.reduceDiv, Nat.reduceMod, List.getElem?_cons_zero, List.getElem?_cons_succ, if_true, and_true, true_and] at f1 f2 f3 f4 f5
    have fe0 : nv β 0 = 805 := by omega
    have fe2 : nv β 2 = 0 := by omega
    have fe3 : nv β 3 = 65536 := by omega
    have fe4 : nv β 4 = 1 := by omega
    have fe5 : nv β 5 = 1 := by omega
    have fe6 : nv β 6 = 0 := by omega
    try simp only [fe0, fe2, fe3, fe4, fe5, fe6, Int.reduceToNat] at f2 f3 f4 f5
    have s0 : nv β 0 = nv α1 0 := nv_le H1.1 (by omega)
    have s1 : nv β 1 = nv α1 1 := nv_le H1.1 (by omega)
    have c0 := f2
    obtain ⟨α', Ha, hm⟩ := hd_gpM (q := kh_mDraws_a18) (n := 0) (by decide +kernel) hx H1 (by decide +kernel) hxa hf
    have hfr := H1.2.2.2.2.2.2.2.2.2.2.1
    have m0 : nv α' 0 = nv β 0 := hm 0 0 rfl
    have m1 : nv α' 1 = nv β 1 := hm 1 1 rfl
    have e1 := fr_pl hfr 806 1 (by decide +kernel)
    have e4 := fr_pl hfr 806 4 (by decide +kernel)
    have e5' := fr_pl hfr 806 5 (by decide +kernel)
    have er : ∀ k : Nat, k < 4 → mrw S' k = mrw S k ∧ mcl S' k = mcl S k := fun k hk => ⟨congrArg Int32.toInt (fr_pg hfr 806 (500, 512, 4) (by decide +kernel) (pg_mk (by omega) (by omega) (by omega))), congrArg Int32.toInt (fr_pg hfr 806 (502, 514, 4) (by decide +kernel) (pg_mk (by omega) (by omega) (by omega)))⟩
    have hth : thM S' = 0 := by
      have hq := q_rg_in (q := ((805, 805), (8, 8, 0), (0, 0, 0, 0))) (by decide +kernel) H1 805 8 (Nat.le_refl _) (Nat.le_refl _) pg_one
      have a1 := hq.2.2.1
      have a2 := hq.2.2.2.1
      dsimp only at a1 a2
      unfold thM
      omega
    have er2 : S'.1 806 = S.1 806 := fr_row hfr 806 (by decide +kernel)
    refine (hP _).1 _ _ _ _ Ha ?_ (Nat.lt_succ_self _)
    · exact ⟨er2, hth⟩)
theorem kh_mDraws_ok : ct_ok wd_fl2 kh_mDraws := ct_okR_ok kh_mDraws_okR
